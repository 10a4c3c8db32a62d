theorem dX3_forgetMet_0 : decode cX3_forgetMet 0 = .ok (.aload_n 0, 1) := by decide +kernel
theorem dX3_forgetMet_1 : decode cX3_forgetMet 1 = .ok (.iconst 0, 1) := by decide +kernel
theorem dX3_forgetMet_2 : decode cX3_forgetMet 2 = .ok (.putfield 166, 3) := by decide +kernel
theorem dX3_forgetMet_5 : decode cX3_forgetMet 5 = .ok (.return_, 1) := by decide +kernel
noncomputable def tX3_forgetMet_0 : List (Nat × zF) := [(0, (zla4 0 1)), (1, (zst 1 (zp (.int (0))))), (2, (zpf 3 9 (.int))), (5, zrv)]
theorem kX3_forgetMet_0 : ∀ q ∈ tX3_forgetMet_0, zOk zg iX3_forgetMet q.1 q.2 := (z_c (ok_aload_n dX3_forgetMet_0 rfl) (z_c (ok_iconst (v := (0)) dX3_forgetMet_1 (by decide)) (z_c (ok_putf (C := RX3) (T := TX3) (N := 13) false tyX3 tyX3_ok nmX3 rfl (by decide) zinX3 rfl zw_185 rfl (fun h => absurd h (by decide)) rfl dX3_forgetMet_2) (z_c (ok_return rfl dX3_forgetMet_5) z_n))))
noncomputable def tX3_forgetMet : zT := [(100000, tX3_forgetMet_0)]
theorem kX3_forgetMet : zTok zg iX3_forgetMet tX3_forgetMet := (z_t kX3_forgetMet_0 z_tn)
theorem dX3_takesMet_0 : decode cX3_takesMet 0 = .ok (.iload_n 2, 1) := by decide +kernel
theorem dX3_takesMet_1 : decode cX3_takesMet 1 = .ok (.iconst 4, 1) := by decide +kernel
theorem dX3_takesMet_2 : decode cX3_takesMet 2 = .ok (.if_icmp .lt 18, 3) := by decide +kernel
theorem dX3_takesMet_5 : decode cX3_takesMet 5 = .ok (.iload_n 2, 1) := by decide +kernel
theorem dX3_takesMet_6 : decode cX3_takesMet 6 = .ok (.aload_n 0, 1) := by decide +kernel
theorem dX3_takesMet_7 : decode cX3_takesMet 7 = .ok (.getfield 31, 3) := by decide +kernel
theorem dX3_takesMet_10 : decode cX3_takesMet 10 = .ok (.arraylength, 1) := by decide +kernel
theorem dX3_takesMet_11 : decode cX3_takesMet 11 = .ok (.if_icmp .gt 9, 3) := by decide +kernel
theorem dX3_takesMet_14 : decode cX3_takesMet 14 = .ok (.iload_n 2, 1) := by decide +kernel
theorem dX3_takesMet_15 : decode cX3_takesMet 15 = .ok (.iconst 4, 1) := by decide +kernel
theorem dX3_takesMet_16 : decode cX3_takesMet 16 = .ok (.irem, 1) := by decide +kernel
theorem dX3_takesMet_17 : decode cX3_takesMet 17 = .ok (.ifCond .eq 5, 3) := by decide +kernel
theorem dX3_takesMet_20 : decode cX3_takesMet 20 = .ok (.iconst 0, 1) := by decide +kernel
theorem dX3_takesMet_21 : decode cX3_takesMet 21 = .ok (.ireturn, 1) := by decide +kernel
theorem dX3_takesMet_22 : decode cX3_takesMet 22 = .ok (.iconst 0, 1) := by decide +kernel
theorem dX3_takesMet_23 : decode cX3_takesMet 23 = .ok (.istore_n 3, 1) := by decide +kernel
theorem dX3_takesMet_24 : decode cX3_takesMet 24 = .ok (.iload_n 3, 1) := by decide +kernel
theorem dX3_takesMet_25 : decode cX3_takesMet 25 = .ok (.iload_n 2, 1) := by decide +kernel
theorem dX3_takesMet_26 : decode cX3_takesMet 26 = .ok (.if_icmp .ge 60, 3) := by decide +kernel
theorem dX3_takesMet_29 : decode cX3_takesMet 29 = .ok (.aload_n 1, 1) := by decide +kernel
theorem dX3_takesMet_30 : decode cX3_takesMet 30 = .ok (.iload_n 3, 1) := by decide +kernel
theorem dX3_takesMet_31 : decode cX3_takesMet 31 = .ok (.iaload, 1) := by decide +kernel
theorem dX3_takesMet_32 : decode cX3_takesMet 32 = .ok (.bipush 30, 2) := by decide +kernel
theorem dX3_takesMet_34 : decode cX3_takesMet 34 = .ok (.if_icmp .gt 44, 3) := by decide +kernel
theorem dX3_takesMet_37 : decode cX3_takesMet 37 = .ok (.aload_n 1, 1) := by decide +kernel
theorem dX3_takesMet_38 : decode cX3_takesMet 38 = .ok (.iload_n 3, 1) := by decide +kernel
theorem dX3_takesMet_39 : decode cX3_takesMet 39 = .ok (.iconst 1, 1) := by decide +kernel
theorem dX3_takesMet_40 : decode cX3_takesMet 40 = .ok (.iadd, 1) := by decide +kernel
theorem dX3_takesMet_41 : decode cX3_takesMet 41 = .ok (.iaload, 1) := by decide +kernel
theorem dX3_takesMet_42 : decode cX3_takesMet 42 = .ok (.aload_n 0, 1) := by decide +kernel
theorem dX3_takesMet_43 : decode cX3_takesMet 43 = .ok (.getfield 34, 3) := by decide +kernel
theorem dX3_takesMet_46 : decode cX3_takesMet 46 = .ok (.getfield 63, 3) := by decide +kernel
theorem dX3_takesMet_49 : decode cX3_takesMet 49 = .ok (.getfield 124, 3) := by decide +kernel
theorem dX3_takesMet_52 : decode cX3_takesMet 52 = .ok (.if_icmp .ge 26, 3) := by decide +kernel
theorem dX3_takesMet_55 : decode cX3_takesMet 55 = .ok (.aload_n 0, 1) := by decide +kernel
theorem dX3_takesMet_56 : decode cX3_takesMet 56 = .ok (.getfield 34, 3) := by decide +kernel
theorem dX3_takesMet_59 : decode cX3_takesMet 59 = .ok (.getfield 63, 3) := by decide +kernel
theorem dX3_takesMet_62 : decode cX3_takesMet 62 = .ok (.aload_n 1, 1) := by decide +kernel
theorem dX3_takesMet_63 : decode cX3_takesMet 63 = .ok (.iload_n 3, 1) := by decide +kernel
theorem dX3_takesMet_64 : decode cX3_takesMet 64 = .ok (.iconst 2, 1) := by decide +kernel
theorem dX3_takesMet_65 : decode cX3_takesMet 65 = .ok (.iadd, 1) := by decide +kernel
theorem dX3_takesMet_66 : decode cX3_takesMet 66 = .ok (.iaload, 1) := by decide +kernel
theorem dX3_takesMet_67 : decode cX3_takesMet 67 = .ok (.aload_n 1, 1) := by decide +kernel
theorem dX3_takesMet_68 : decode cX3_takesMet 68 = .ok (.iload_n 3, 1) := by decide +kernel
theorem dX3_takesMet_69 : decode cX3_takesMet 69 = .ok (.iconst 3, 1) := by decide +kernel
theorem dX3_takesMet_70 : decode cX3_takesMet 70 = .ok (.iadd, 1) := by decide +kernel
theorem dX3_takesMet_71 : decode cX3_takesMet 71 = .ok (.iaload, 1) := by decide +kernel
theorem dX3_takesMet_72 : decode cX3_takesMet 72 = .ok (.invokevirtual 169, 3) := by decide +kernel
theorem dX3_takesMet_75 : decode cX3_takesMet 75 = .ok (.ifCond .ne 5, 3) := by decide +kernel
theorem dX3_takesMet_78 : decode cX3_takesMet 78 = .ok (.iconst 0, 1) := by decide +kernel
theorem dX3_takesMet_79 : decode cX3_takesMet 79 = .ok (.ireturn, 1) := by decide +kernel
theorem dX3_takesMet_80 : decode cX3_takesMet 80 = .ok (.iinc 3 4, 3) := by decide +kernel
theorem dX3_takesMet_83 : decode cX3_takesMet 83 = .ok (.goto (-59), 3) := by decide +kernel
theorem dX3_takesMet_86 : decode cX3_takesMet 86 = .ok (.aload_n 1, 1) := by decide +kernel
theorem dX3_takesMet_87 : decode cX3_takesMet 87 = .ok (.iconst 0, 1) := by decide +kernel
theorem dX3_takesMet_88 : decode cX3_takesMet 88 = .ok (.aload_n 0, 1) := by decide +kernel
theorem dX3_takesMet_89 : decode cX3_takesMet 89 = .ok (.getfield 31, 3) := by decide +kernel
theorem dX3_takesMet_92 : decode cX3_takesMet 92 = .ok (.iconst 0, 1) := by decide +kernel
theorem dX3_takesMet_93 : decode cX3_takesMet 93 = .ok (.iload_n 2, 1) := by decide +kernel
theorem dX3_takesMet_94 : decode cX3_takesMet 94 = .ok (.invokestatic 173, 3) := by decide +kernel
theorem dX3_takesMet_97 : decode cX3_takesMet 97 = .ok (.aload_n 0, 1) := by decide +kernel
theorem dX3_takesMet_98 : decode cX3_takesMet 98 = .ok (.iload_n 2, 1) := by decide +kernel
theorem dX3_takesMet_99 : decode cX3_takesMet 99 = .ok (.iconst 4, 1) := by decide +kernel
theorem dX3_takesMet_100 : decode cX3_takesMet 100 = .ok (.idiv, 1) := by decide +kernel
theorem dX3_takesMet_101 : decode cX3_takesMet 101 = .ok (.putfield 166, 3) := by decide +kernel
theorem dX3_takesMet_104 : decode cX3_takesMet 104 = .ok (.iconst 1, 1) := by decide +kernel
theorem dX3_takesMet_105 : decode cX3_takesMet 105 = .ok (.ireturn, 1) := by decide +kernel
noncomputable def tX3_takesMet_0 : List (Nat × zF) := [(0, (zli4 2 1)), (1, (zst 1 (zp (.int (4))))), (2, (z_ic_lt 20)), (5, (zli4 2 1)), (6, (zla4 0 1)), (7, (zgf 3 8)), (10, (zle4 0)), (11, (z_ic_gt 20)), (14, (zli4 2 1)), (15, (zst 1 (zp (.int (4))))), (16, (zst 1 z_irem)), (17, (z_if_eq 22))]
theorem kX3_takesMet_0 : ∀ q ∈ tX3_takesMet_0, zOk zg iX3_takesMet q.1 q.2 := (z_c (ok_iload_n dX3_takesMet_0 rfl) (z_c (ok_iconst (v := (4)) dX3_takesMet_1 (by decide)) (z_c (ok_icmp_lt dX3_takesMet_2 (by decide)) (z_c (ok_iload_n dX3_takesMet_5 rfl) (z_c (ok_aload_n dX3_takesMet_6 rfl) (z_c (ok_getf (C := RX3) (T := TX3) (N := 13) rfl (by decide) zinX3 rfl zw_132 dX3_takesMet_7) (z_c (ok_alen (ty := .int) rfl dX3_takesMet_10) (z_c (ok_icmp_gt dX3_takesMet_11 (by decide)) (z_c (ok_iload_n dX3_takesMet_14 rfl) (z_c (ok_iconst (v := (4)) dX3_takesMet_15 (by decide)) (z_c (ok_irem dX3_takesMet_16) (z_c (ok_if_eq dX3_takesMet_17 (by decide)) z_n))))))))))))
noncomputable def tX3_takesMet_1 : List (Nat × zF) := [(20, (zst 1 (zp (.int (0))))), (21, (zri true)), (22, (zst 1 (zp (.int (0))))), (23, (zsi4 4 3 1)), (24, (zli4 3 1)), (25, (zli4 2 1)), (26, (z_ic_ge 86)), (29, (zla4 1 1)), (30, (zli4 3 1)), (31, (zal 0)), (32, (zst 2 (zp (.int (30))))), (34, (z_ic_gt 78))]
theorem kX3_takesMet_1 : ∀ q ∈ tX3_takesMet_1, zOk zg iX3_takesMet q.1 q.2 := (z_c (ok_iconst (v := (0)) dX3_takesMet_20 (by decide)) (z_c (ok_zreturn rfl dX3_takesMet_21) (z_c (ok_iconst (v := (0)) dX3_takesMet_22 (by decide)) (z_c (ok_istore_n dX3_takesMet_23 rfl) (z_c (ok_iload_n dX3_takesMet_24 rfl) (z_c (ok_iload_n dX3_takesMet_25 rfl) (z_c (ok_icmp_ge dX3_takesMet_26 (by decide)) (z_c (ok_aload_n dX3_takesMet_29 rfl) (z_c (ok_iload_n dX3_takesMet_30 rfl) (z_c (ok_iaload rfl dX3_takesMet_31) (z_c (ok_bipush (v := (30)) dX3_takesMet_32 (by decide)) (z_c (ok_icmp_gt dX3_takesMet_34 (by decide)) z_n))))))))))))
noncomputable def tX3_takesMet_2 : List (Nat × zF) := [(37, (zla4 1 1)), (38, (zli4 3 1)), (39, (zst 1 (zp (.int (1))))), (40, (zst 1 z_iadd)), (41, (zal 0)), (42, (zla4 0 1)), (43, (zgf 3 0)), (46, (zgf 0 0)), (49, (zgf 4 13)), (52, (z_ic_ge 78)), (55, (zla4 0 1)), (56, (zgf 3 0))]
theorem kX3_takesMet_2 : ∀ q ∈ tX3_takesMet_2, zOk zg iX3_takesMet q.1 q.2 := (z_c (ok_aload_n dX3_takesMet_37 rfl) (z_c (ok_iload_n dX3_takesMet_38 rfl) (z_c (ok_iconst (v := (1)) dX3_takesMet_39 (by decide)) (z_c (ok_iadd dX3_takesMet_40) (z_c (ok_iaload rfl dX3_takesMet_41) (z_c (ok_aload_n dX3_takesMet_42 rfl) (z_c (ok_getf (C := RX3) (T := TX3) (N := 13) rfl (by decide) zinX3 rfl zw_133 dX3_takesMet_43) (z_c (ok_getf (C := RX0) (T := TX0) (N := 5) rfl (by decide) zinX0 rfl zw_141 dX3_takesMet_46) (z_c (ok_getf (C := RX4) (T := TX4) (N := 18) rfl (by decide) zinX4 rfl zw_168 dX3_takesMet_49) (z_c (ok_icmp_ge dX3_takesMet_52 (by decide)) (z_c (ok_aload_n dX3_takesMet_55 rfl) (z_c (ok_getf (C := RX3) (T := TX3) (N := 13) rfl (by decide) zinX3 rfl zw_133 dX3_takesMet_56) z_n))))))))))))
noncomputable def tX3_takesMet_3 : List (Nat × zF) := [(59, (zgf 0 0)), (62, (zla4 1 1)), (63, (zli4 3 1)), (64, (zst 1 (zp (.int (2))))), (65, (zst 1 z_iadd)), (66, (zal 0)), (67, (zla4 1 1)), (68, (zli4 3 1)), (69, (zst 1 (zp (.int (3))))), (70, (zst 1 z_iadd)), (71, (zal 0)), (72, (zcv 50 2 4))]
theorem kX3_takesMet_3 : ∀ q ∈ tX3_takesMet_3, zOk zg iX3_takesMet q.1 q.2 := (z_c (ok_getf (C := RX0) (T := TX0) (N := 5) rfl (by decide) zinX0 rfl zw_141 dX3_takesMet_59) (z_c (ok_aload_n dX3_takesMet_62 rfl) (z_c (ok_iload_n dX3_takesMet_63 rfl) (z_c (ok_iconst (v := (2)) dX3_takesMet_64 (by decide)) (z_c (ok_iadd dX3_takesMet_65) (z_c (ok_iaload rfl dX3_takesMet_66) (z_c (ok_aload_n dX3_takesMet_67 rfl) (z_c (ok_iload_n dX3_takesMet_68 rfl) (z_c (ok_iconst (v := (3)) dX3_takesMet_69 (by decide)) (z_c (ok_iadd dX3_takesMet_70) (z_c (ok_iaload rfl dX3_takesMet_71) (z_c (ok_callV zcal_50 (q := (RX4, TX4, 18)) rfl zw_186 zw_187 zw_188 dX3_takesMet_72) z_n))))))))))))
noncomputable def tX3_takesMet_4 : List (Nat × zF) := [(75, (z_if_ne 80)), (78, (zst 1 (zp (.int (0))))), (79, (zri true)), (80, (zin4 4 3 (4))), (83, (zgt 24)), (86, (zla4 1 1)), (87, (zst 1 (zp (.int (0))))), (88, (zla4 0 1)), (89, (zgf 3 8)), (92, (zst 1 (zp (.int (0))))), (93, (zli4 2 1)), (94, (zcp 0))]
theorem kX3_takesMet_4 : ∀ q ∈ tX3_takesMet_4, zOk zg iX3_takesMet q.1 q.2 := (z_c (ok_if_ne dX3_takesMet_75 (by decide)) (z_c (ok_iconst (v := (0)) dX3_takesMet_78 (by decide)) (z_c (ok_zreturn rfl dX3_takesMet_79) (z_c (ok_iinc (v := (4)) dX3_takesMet_80 (by decide)) (z_c (ok_goto dX3_takesMet_83 (by decide)) (z_c (ok_aload_n dX3_takesMet_86 rfl) (z_c (ok_iconst (v := (0)) dX3_takesMet_87 (by decide)) (z_c (ok_aload_n dX3_takesMet_88 rfl) (z_c (ok_getf (C := RX3) (T := TX3) (N := 13) rfl (by decide) zinX3 rfl zw_132 dX3_takesMet_89) (z_c (ok_iconst (v := (0)) dX3_takesMet_92 (by decide)) (z_c (ok_iload_n dX3_takesMet_93 rfl) (z_c (ok_copyi rfl zw_189 zw_102 zw_103 zw_104 dX3_takesMet_94) z_n))))))))))))
noncomputable def tX3_takesMet_5 : List (Nat × zF) := [(97, (zla4 0 1)), (98, (zli4 2 1)), (99, (zst 1 (zp (.int (4))))), (100, (zst 1 z_idiv)), (101, (zpf 3 9 (.int))), (104, (zst 1 (zp (.int (1))))), (105, (zri true))]
theorem kX3_takesMet_5 : ∀ q ∈ tX3_takesMet_5, zOk zg iX3_takesMet q.1 q.2 := (z_c (ok_aload_n dX3_takesMet_97 rfl) (z_c (ok_iload_n dX3_takesMet_98 rfl) (z_c (ok_iconst (v := (4)) dX3_takesMet_99 (by decide)) (z_c (ok_idiv dX3_takesMet_100) (z_c (ok_putf (C := RX3) (T := TX3) (N := 13) false tyX3 tyX3_ok nmX3 rfl (by decide) zinX3 rfl zw_185 rfl (fun h => absurd h (by decide)) rfl dX3_takesMet_101) (z_c (ok_iconst (v := (1)) dX3_takesMet_104 (by decide)) (z_c (ok_zreturn rfl dX3_takesMet_105) z_n)))))))
noncomputable def tX3_takesMet : zT := [(20, tX3_takesMet_0), (37, tX3_takesMet_1), (59, tX3_takesMet_2), (75, tX3_takesMet_3), (97, tX3_takesMet_4), (100000, tX3_takesMet_5)]
theorem kX3_takesMet : zTok zg iX3_takesMet tX3_takesMet := (z_t kX3_takesMet_0 (z_t kX3_takesMet_1 (z_t kX3_takesMet_2 (z_t kX3_takesMet_3 (z_t kX3_takesMet_4 (z_t kX3_takesMet_5 z_tn))))))
theorem dX3_huesLeft_0 : decode cX3_huesLeft 0 = .ok (.aload_n 0, 1) := by decide +kernel
theorem dX3_huesLeft_1 : decode cX3_huesLeft 1 = .ok (.invokevirtual 179, 3) := by decide +kernel
theorem dX3_huesLeft_4 : decode cX3_huesLeft 4 = .ok (.istore_n 3, 1) := by decide +kernel
theorem dX3_huesLeft_5 : decode cX3_huesLeft 5 = .ok (.aload_n 1, 1) := by decide +kernel
theorem dX3_huesLeft_6 : decode cX3_huesLeft 6 = .ok (.getfield 49, 3) := by decide +kernel
theorem dX3_huesLeft_9 : decode cX3_huesLeft 9 = .ok (.iload_n 3, 1) := by decide +kernel
theorem dX3_huesLeft_10 : decode cX3_huesLeft 10 = .ok (.iadd, 1) := by decide +kernel
theorem dX3_huesLeft_11 : decode cX3_huesLeft 11 = .ok (.sipush 999, 3) := by decide +kernel
theorem dX3_huesLeft_14 : decode cX3_huesLeft 14 = .ok (.if_icmp .le 5, 3) := by decide +kernel
theorem dX3_huesLeft_17 : decode cX3_huesLeft 17 = .ok (.iconst 0, 1) := by decide +kernel
theorem dX3_huesLeft_18 : decode cX3_huesLeft 18 = .ok (.ireturn, 1) := by decide +kernel
theorem dX3_huesLeft_19 : decode cX3_huesLeft 19 = .ok (.aload_n 0, 1) := by decide +kernel
theorem dX3_huesLeft_20 : decode cX3_huesLeft 20 = .ok (.getfield 11, 3) := by decide +kernel
theorem dX3_huesLeft_23 : decode cX3_huesLeft 23 = .ok (.iconst 0, 1) := by decide +kernel
theorem dX3_huesLeft_24 : decode cX3_huesLeft 24 = .ok (.aaload, 1) := by decide +kernel
theorem dX3_huesLeft_25 : decode cX3_huesLeft 25 = .ok (.astore 4, 2) := by decide +kernel
theorem dX3_huesLeft_27 : decode cX3_huesLeft 27 = .ok (.iconst 0, 1) := by decide +kernel
theorem dX3_huesLeft_28 : decode cX3_huesLeft 28 = .ok (.istore 5, 2) := by decide +kernel
theorem dX3_huesLeft_30 : decode cX3_huesLeft 30 = .ok (.iconst 1, 1) := by decide +kernel
theorem dX3_huesLeft_31 : decode cX3_huesLeft 31 = .ok (.istore 6, 2) := by decide +kernel
theorem dX3_huesLeft_33 : decode cX3_huesLeft 33 = .ok (.iload 6, 2) := by decide +kernel
theorem dX3_huesLeft_35 : decode cX3_huesLeft 35 = .ok (.bipush 9, 2) := by decide +kernel
theorem dX3_huesLeft_37 : decode cX3_huesLeft 37 = .ok (.if_icmp .gt 98, 3) := by decide +kernel
theorem dX3_huesLeft_40 : decode cX3_huesLeft 40 = .ok (.aload 4, 2) := by decide +kernel
theorem dX3_huesLeft_42 : decode cX3_huesLeft 42 = .ok (.aload_n 1, 1) := by decide +kernel
theorem dX3_huesLeft_43 : decode cX3_huesLeft 43 = .ok (.invokevirtual 39, 3) := by decide +kernel
theorem dX3_huesLeft_46 : decode cX3_huesLeft 46 = .ok (.aload 4, 2) := by decide +kernel
theorem dX3_huesLeft_48 : decode cX3_huesLeft 48 = .ok (.iload_n 2, 1) := by decide +kernel
theorem dX3_huesLeft_49 : decode cX3_huesLeft 49 = .ok (.putfield 183, 3) := by decide +kernel
theorem dX3_huesLeft_52 : decode cX3_huesLeft 52 = .ok (.aload 4, 2) := by decide +kernel
theorem dX3_huesLeft_54 : decode cX3_huesLeft 54 = .ok (.iload 6, 2) := by decide +kernel
theorem dX3_huesLeft_56 : decode cX3_huesLeft 56 = .ok (.putfield 186, 3) := by decide +kernel
theorem dX3_huesLeft_59 : decode cX3_huesLeft 59 = .ok (.aload_n 0, 1) := by decide +kernel
theorem dX3_huesLeft_60 : decode cX3_huesLeft 60 = .ok (.aload 4, 2) := by decide +kernel
theorem dX3_huesLeft_62 : decode cX3_huesLeft 62 = .ok (.iconst 0, 1) := by decide +kernel
theorem dX3_huesLeft_63 : decode cX3_huesLeft 63 = .ok (.invokevirtual 189, 3) := by decide +kernel
theorem dX3_huesLeft_66 : decode cX3_huesLeft 66 = .ok (.istore 7, 2) := by decide +kernel
theorem dX3_huesLeft_68 : decode cX3_huesLeft 68 = .ok (.iconst 1, 1) := by decide +kernel
theorem dX3_huesLeft_69 : decode cX3_huesLeft 69 = .ok (.istore 8, 2) := by decide +kernel
theorem dX3_huesLeft_71 : decode cX3_huesLeft 71 = .ok (.iload 8, 2) := by decide +kernel
theorem dX3_huesLeft_73 : decode cX3_huesLeft 73 = .ok (.iload_n 3, 1) := by decide +kernel
theorem dX3_huesLeft_74 : decode cX3_huesLeft 74 = .ok (.if_icmp .gt 35, 3) := by decide +kernel
theorem dX3_huesLeft_77 : decode cX3_huesLeft 77 = .ok (.iload 7, 2) := by decide +kernel
theorem dX3_huesLeft_79 : decode cX3_huesLeft 79 = .ok (.ifCond .eq 30, 3) := by decide +kernel
theorem dX3_huesLeft_82 : decode cX3_huesLeft 82 = .ok (.aload_n 0, 1) := by decide +kernel
theorem dX3_huesLeft_83 : decode cX3_huesLeft 83 = .ok (.getfield 34, 3) := by decide +kernel
theorem dX3_huesLeft_86 : decode cX3_huesLeft 86 = .ok (.aload 4, 2) := by decide +kernel
theorem dX3_huesLeft_88 : decode cX3_huesLeft 88 = .ok (.iconst 1, 1) := by decide +kernel
theorem dX3_huesLeft_89 : decode cX3_huesLeft 89 = .ok (.iconst (-1), 1) := by decide +kernel
theorem dX3_huesLeft_90 : decode cX3_huesLeft 90 = .ok (.invokevirtual 43, 3) := by decide +kernel
theorem dX3_huesLeft_93 : decode cX3_huesLeft 93 = .ok (.aload_n 0, 1) := by decide +kernel
theorem dX3_huesLeft_94 : decode cX3_huesLeft 94 = .ok (.aload 4, 2) := by decide +kernel
theorem dX3_huesLeft_96 : decode cX3_huesLeft 96 = .ok (.iload 8, 2) := by decide +kernel
theorem dX3_huesLeft_98 : decode cX3_huesLeft 98 = .ok (.invokevirtual 189, 3) := by decide +kernel
theorem dX3_huesLeft_101 : decode cX3_huesLeft 101 = .ok (.istore 7, 2) := by decide +kernel
theorem dX3_huesLeft_103 : decode cX3_huesLeft 103 = .ok (.iinc 8 1, 3) := by decide +kernel
theorem dX3_huesLeft_106 : decode cX3_huesLeft 106 = .ok (.goto (-35), 3) := by decide +kernel
theorem dX3_huesLeft_109 : decode cX3_huesLeft 109 = .ok (.iload 5, 2) := by decide +kernel
theorem dX3_huesLeft_111 : decode cX3_huesLeft 111 = .ok (.iload 7, 2) := by decide +kernel
theorem dX3_huesLeft_113 : decode cX3_huesLeft 113 = .ok (.ifCond .eq 12, 3) := by decide +kernel
theorem dX3_huesLeft_116 : decode cX3_huesLeft 116 = .ok (.iconst 1, 1) := by decide +kernel
theorem dX3_huesLeft_117 : decode cX3_huesLeft 117 = .ok (.iload 6, 2) := by decide +kernel
theorem dX3_huesLeft_119 : decode cX3_huesLeft 119 = .ok (.iconst 1, 1) := by decide +kernel
theorem dX3_huesLeft_120 : decode cX3_huesLeft 120 = .ok (.isub, 1) := by decide +kernel
theorem dX3_huesLeft_121 : decode cX3_huesLeft 121 = .ok (.ishl, 1) := by decide +kernel
theorem dX3_huesLeft_122 : decode cX3_huesLeft 122 = .ok (.goto 4, 3) := by decide +kernel
theorem dX3_huesLeft_125 : decode cX3_huesLeft 125 = .ok (.iconst 0, 1) := by decide +kernel
theorem dX3_huesLeft_126 : decode cX3_huesLeft 126 = .ok (.ior, 1) := by decide +kernel
theorem dX3_huesLeft_127 : decode cX3_huesLeft 127 = .ok (.istore 5, 2) := by decide +kernel
theorem dX3_huesLeft_129 : decode cX3_huesLeft 129 = .ok (.iinc 6 1, 3) := by decide +kernel
theorem dX3_huesLeft_132 : decode cX3_huesLeft 132 = .ok (.goto (-99), 3) := by decide +kernel
theorem dX3_huesLeft_135 : decode cX3_huesLeft 135 = .ok (.iload 5, 2) := by decide +kernel
theorem dX3_huesLeft_137 : decode cX3_huesLeft 137 = .ok (.ireturn, 1) := by decide +kernel
noncomputable def tX3_huesLeft_0 : List (Nat × zF) := [(0, (zla4 0 1)), (1, (zcv 42 0 3)), (4, (zsi4 9 3 1)), (5, (zla4 1 1)), (6, (zgf 8 0)), (9, (zli4 3 1)), (10, (zst 1 z_iadd)), (11, (zst 3 (zp (.int (999))))), (14, (z_ic_le 19)), (17, (zst 1 (zp (.int (0))))), (18, (zri false)), (19, (zla4 0 1))]
theorem kX3_huesLeft_0 : ∀ q ∈ tX3_huesLeft_0, zOk zg iX3_huesLeft q.1 q.2 := (z_c (ok_aload_n dX3_huesLeft_0 rfl) (z_c (ok_callV zcal_42 (q := (RX3, TX3, 13)) rfl zw_190 zw_191 zw_192 dX3_huesLeft_1) (z_c (ok_istore_n dX3_huesLeft_4 rfl) (z_c (ok_aload_n dX3_huesLeft_5 rfl) (z_c (ok_getf (C := RX8) (T := TX8) (N := 6) rfl (by decide) zinX8 rfl zw_138 dX3_huesLeft_6) (z_c (ok_iload_n dX3_huesLeft_9 rfl) (z_c (ok_iadd dX3_huesLeft_10) (z_c (ok_sipush (v := (999)) dX3_huesLeft_11 (by decide)) (z_c (ok_icmp_le dX3_huesLeft_14 (by decide)) (z_c (ok_iconst (v := (0)) dX3_huesLeft_17 (by decide)) (z_c (ok_ireturn rfl dX3_huesLeft_18) (z_c (ok_aload_n dX3_huesLeft_19 rfl) z_n))))))))))))
noncomputable def tX3_huesLeft_1 : List (Nat × zF) := [(20, (zgf 3 1)), (23, (zst 1 (zp (.int (0))))), (24, (zaq 3)), (25, (zsa4 9 4 2)), (27, (zst 1 (zp (.int (0))))), (28, (zsi4 9 5 2)), (30, (zst 1 (zp (.int (1))))), (31, (zsi4 9 6 2)), (33, (zli4 6 2)), (35, (zst 2 (zp (.int (9))))), (37, (z_ic_gt 135)), (40, (zla4 4 2))]
theorem kX3_huesLeft_1 : ∀ q ∈ tX3_huesLeft_1, zOk zg iX3_huesLeft q.1 q.2 := (z_c (ok_getf (C := RX3) (T := TX3) (N := 13) rfl (by decide) zinX3 rfl zw_127 dX3_huesLeft_20) (z_c (ok_iconst (v := (0)) dX3_huesLeft_23 (by decide)) (z_c (ok_aaload (C := "MissingLamps$State") rfl dX3_huesLeft_24) (z_c (ok_astore dX3_huesLeft_25) (z_c (ok_iconst (v := (0)) dX3_huesLeft_27 (by decide)) (z_c (ok_istore dX3_huesLeft_28) (z_c (ok_iconst (v := (1)) dX3_huesLeft_30 (by decide)) (z_c (ok_istore dX3_huesLeft_31) (z_c (ok_iload dX3_huesLeft_33) (z_c (ok_bipush (v := (9)) dX3_huesLeft_35 (by decide)) (z_c (ok_icmp_gt dX3_huesLeft_37 (by decide)) (z_c (ok_aload dX3_huesLeft_40) z_n))))))))))))
noncomputable def tX3_huesLeft_2 : List (Nat × zF) := [(42, (zla4 1 1)), (43, (zcv 80 1 8)), (46, (zla4 4 2)), (48, (zli4 2 1)), (49, (zpf 8 4 (.int))), (52, (zla4 4 2)), (54, (zli4 6 2)), (56, (zpf 8 5 (.int))), (59, (zla4 0 1)), (60, (zla4 4 2)), (62, (zst 1 (zp (.int (0))))), (63, (zcv 43 2 3))]
theorem kX3_huesLeft_2 : ∀ q ∈ tX3_huesLeft_2, zOk zg iX3_huesLeft q.1 q.2 := (z_c (ok_aload_n dX3_huesLeft_42 rfl) (z_c (ok_callV zcal_80 (q := (RX8, TX8, 6)) rfl zw_134 zw_118 zw_119 dX3_huesLeft_43) (z_c (ok_aload dX3_huesLeft_46) (z_c (ok_iload_n dX3_huesLeft_48 rfl) (z_c (ok_putf (C := RX8) (T := TX8) (N := 6) false tyX8 tyX8_ok nmX8 rfl (by decide) zinX8 rfl zw_193 rfl (fun h => absurd h (by decide)) rfl dX3_huesLeft_49) (z_c (ok_aload dX3_huesLeft_52) (z_c (ok_iload dX3_huesLeft_54) (z_c (ok_putf (C := RX8) (T := TX8) (N := 6) false tyX8 tyX8_ok nmX8 rfl (by decide) zinX8 rfl zw_194 rfl (fun h => absurd h (by decide)) rfl dX3_huesLeft_56) (z_c (ok_aload_n dX3_huesLeft_59 rfl) (z_c (ok_aload dX3_huesLeft_60) (z_c (ok_iconst (v := (0)) dX3_huesLeft_62 (by decide)) (z_c (ok_callV zcal_43 (q := (RX3, TX3, 13)) rfl zw_195 zw_196 zw_197 dX3_huesLeft_63) z_n))))))))))))
noncomputable def tX3_huesLeft_3 : List (Nat × zF) := [(66, (zsi4 9 7 2)), (68, (zst 1 (zp (.int (1))))), (69, (zsi4 9 8 2)), (71, (zli4 8 2)), (73, (zli4 3 1)), (74, (z_ic_gt 109)), (77, (zli4 7 2)), (79, (z_if_eq 109)), (82, (zla4 0 1)), (83, (zgf 3 0)), (86, (zla4 4 2)), (88, (zst 1 (zp (.int (1)))))]
theorem kX3_huesLeft_3 : ∀ q ∈ tX3_huesLeft_3, zOk zg iX3_huesLeft q.1 q.2 := (z_c (ok_istore dX3_huesLeft_66) (z_c (ok_iconst (v := (1)) dX3_huesLeft_68 (by decide)) (z_c (ok_istore dX3_huesLeft_69) (z_c (ok_iload dX3_huesLeft_71) (z_c (ok_iload_n dX3_huesLeft_73 rfl) (z_c (ok_icmp_gt dX3_huesLeft_74 (by decide)) (z_c (ok_iload dX3_huesLeft_77) (z_c (ok_if_eq dX3_huesLeft_79 (by decide)) (z_c (ok_aload_n dX3_huesLeft_82 rfl) (z_c (ok_getf (C := RX3) (T := TX3) (N := 13) rfl (by decide) zinX3 rfl zw_133 dX3_huesLeft_83) (z_c (ok_aload dX3_huesLeft_86) (z_c (ok_iconst (v := (1)) dX3_huesLeft_88 (by decide)) z_n))))))))))))
noncomputable def tX3_huesLeft_4 : List (Nat × zF) := [(89, (zst 1 (zp (.int ((-1)))))), (90, (zcv 2 3 0)), (93, (zla4 0 1)), (94, (zla4 4 2)), (96, (zli4 8 2)), (98, (zcv 43 2 3)), (101, (zsi4 9 7 2)), (103, (zin4 9 8 (1))), (106, (zgt 71)), (109, (zli4 5 2)), (111, (zli4 7 2)), (113, (z_if_eq 125))]
theorem kX3_huesLeft_4 : ∀ q ∈ tX3_huesLeft_4, zOk zg iX3_huesLeft q.1 q.2 := (z_c (ok_iconst (v := (-1)) dX3_huesLeft_89 (by decide)) (z_c (ok_callV zcal_2 (q := (RX0, TX0, 5)) rfl zw_135 zw_136 zw_137 dX3_huesLeft_90) (z_c (ok_aload_n dX3_huesLeft_93 rfl) (z_c (ok_aload dX3_huesLeft_94) (z_c (ok_iload dX3_huesLeft_96) (z_c (ok_callV zcal_43 (q := (RX3, TX3, 13)) rfl zw_195 zw_196 zw_197 dX3_huesLeft_98) (z_c (ok_istore dX3_huesLeft_101) (z_c (ok_iinc (v := (1)) dX3_huesLeft_103 (by decide)) (z_c (ok_goto dX3_huesLeft_106 (by decide)) (z_c (ok_iload dX3_huesLeft_109) (z_c (ok_iload dX3_huesLeft_111) (z_c (ok_if_eq dX3_huesLeft_113 (by decide)) z_n))))))))))))
noncomputable def tX3_huesLeft_5 : List (Nat × zF) := [(116, (zst 1 (zp (.int (1))))), (117, (zli4 6 2)), (119, (zst 1 (zp (.int (1))))), (120, (zst 1 z_isub)), (121, (zst 1 z_ishl)), (122, (zgt 126)), (125, (zst 1 (zp (.int (0))))), (126, (zst 1 z_ior)), (127, (zsi4 9 5 2)), (129, (zin4 9 6 (1))), (132, (zgt 33)), (135, (zli4 5 2))]
theorem kX3_huesLeft_5 : ∀ q ∈ tX3_huesLeft_5, zOk zg iX3_huesLeft q.1 q.2 := (z_c (ok_iconst (v := (1)) dX3_huesLeft_116 (by decide)) (z_c (ok_iload dX3_huesLeft_117) (z_c (ok_iconst (v := (1)) dX3_huesLeft_119 (by decide)) (z_c (ok_isub dX3_huesLeft_120) (z_c (ok_ishl dX3_huesLeft_121) (z_c (ok_goto dX3_huesLeft_122 (by decide)) (z_c (ok_iconst (v := (0)) dX3_huesLeft_125 (by decide)) (z_c (ok_ior dX3_huesLeft_126) (z_c (ok_istore dX3_huesLeft_127) (z_c (ok_iinc (v := (1)) dX3_huesLeft_129 (by decide)) (z_c (ok_goto dX3_huesLeft_132 (by decide)) (z_c (ok_iload dX3_huesLeft_135) z_n))))))))))))
noncomputable def tX3_huesLeft_6 : List (Nat × zF) := [(137, (zri false))]
theorem kX3_huesLeft_6 : ∀ q ∈ tX3_huesLeft_6, zOk zg iX3_huesLeft q.1 q.2 := (z_c (ok_ireturn rfl dX3_huesLeft_137) z_n)
noncomputable def tX3_huesLeft : zT := [(20, tX3_huesLeft_0), (42, tX3_huesLeft_1), (66, tX3_huesLeft_2), (89, tX3_huesLeft_3), (116, tX3_huesLeft_4), (137, tX3_huesLeft_5), (100000, tX3_huesLeft_6)]
theorem kX3_huesLeft : zTok zg iX3_huesLeft tX3_huesLeft := (z_t kX3_huesLeft_0 (z_t kX3_huesLeft_1 (z_t kX3_huesLeft_2 (z_t kX3_huesLeft_3 (z_t kX3_huesLeft_4 (z_t kX3_huesLeft_5 (z_t kX3_huesLeft_6 z_tn)))))))
theorem dX3_lastMetNight_0 : decode cX3_lastMetNight 0 = .ok (.iconst 0, 1) := by decide +kernel
theorem dX3_lastMetNight_1 : decode cX3_lastMetNight 1 = .ok (.istore_n 1, 1) := by decide +kernel
theorem dX3_lastMetNight_2 : decode cX3_lastMetNight 2 = .ok (.iconst 0, 1) := by decide +kernel
theorem dX3_lastMetNight_3 : decode cX3_lastMetNight 3 = .ok (.istore_n 2, 1) := by decide +kernel
theorem dX3_lastMetNight_4 : decode cX3_lastMetNight 4 = .ok (.iload_n 2, 1) := by decide +kernel
theorem dX3_lastMetNight_5 : decode cX3_lastMetNight 5 = .ok (.aload_n 0, 1) := by decide +kernel
theorem dX3_lastMetNight_6 : decode cX3_lastMetNight 6 = .ok (.getfield 166, 3) := by decide +kernel
theorem dX3_lastMetNight_9 : decode cX3_lastMetNight 9 = .ok (.if_icmp .ge 22, 3) := by decide +kernel
theorem dX3_lastMetNight_12 : decode cX3_lastMetNight 12 = .ok (.iload_n 1, 1) := by decide +kernel
theorem dX3_lastMetNight_13 : decode cX3_lastMetNight 13 = .ok (.aload_n 0, 1) := by decide +kernel
theorem dX3_lastMetNight_14 : decode cX3_lastMetNight 14 = .ok (.getfield 31, 3) := by decide +kernel
theorem dX3_lastMetNight_17 : decode cX3_lastMetNight 17 = .ok (.iload_n 2, 1) := by decide +kernel
theorem dX3_lastMetNight_18 : decode cX3_lastMetNight 18 = .ok (.iconst 4, 1) := by decide +kernel
theorem dX3_lastMetNight_19 : decode cX3_lastMetNight 19 = .ok (.imul, 1) := by decide +kernel
theorem dX3_lastMetNight_20 : decode cX3_lastMetNight 20 = .ok (.iaload, 1) := by decide +kernel
theorem dX3_lastMetNight_21 : decode cX3_lastMetNight 21 = .ok (.invokestatic 150, 3) := by decide +kernel
theorem dX3_lastMetNight_24 : decode cX3_lastMetNight 24 = .ok (.istore_n 1, 1) := by decide +kernel
theorem dX3_lastMetNight_25 : decode cX3_lastMetNight 25 = .ok (.iinc 2 1, 3) := by decide +kernel
theorem dX3_lastMetNight_28 : decode cX3_lastMetNight 28 = .ok (.goto (-24), 3) := by decide +kernel
theorem dX3_lastMetNight_31 : decode cX3_lastMetNight 31 = .ok (.iload_n 1, 1) := by decide +kernel
theorem dX3_lastMetNight_32 : decode cX3_lastMetNight 32 = .ok (.ireturn, 1) := by decide +kernel
noncomputable def tX3_lastMetNight_0 : List (Nat × zF) := [(0, (zst 1 (zp (.int (0))))), (1, (zsi4 3 1 1)), (2, (zst 1 (zp (.int (0))))), (3, (zsi4 3 2 1)), (4, (zli4 2 1)), (5, (zla4 0 1)), (6, (zgf 3 9)), (9, (z_ic_ge 31)), (12, (zli4 1 1)), (13, (zla4 0 1)), (14, (zgf 3 8)), (17, (zli4 2 1))]
theorem kX3_lastMetNight_0 : ∀ q ∈ tX3_lastMetNight_0, zOk zg iX3_lastMetNight q.1 q.2 := (z_c (ok_iconst (v := (0)) dX3_lastMetNight_0 (by decide)) (z_c (ok_istore_n dX3_lastMetNight_1 rfl) (z_c (ok_iconst (v := (0)) dX3_lastMetNight_2 (by decide)) (z_c (ok_istore_n dX3_lastMetNight_3 rfl) (z_c (ok_iload_n dX3_lastMetNight_4 rfl) (z_c (ok_aload_n dX3_lastMetNight_5 rfl) (z_c (ok_getf (C := RX3) (T := TX3) (N := 13) rfl (by decide) zinX3 rfl zw_185 dX3_lastMetNight_6) (z_c (ok_icmp_ge dX3_lastMetNight_9 (by decide)) (z_c (ok_iload_n dX3_lastMetNight_12 rfl) (z_c (ok_aload_n dX3_lastMetNight_13 rfl) (z_c (ok_getf (C := RX3) (T := TX3) (N := 13) rfl (by decide) zinX3 rfl zw_132 dX3_lastMetNight_14) (z_c (ok_iload_n dX3_lastMetNight_17 rfl) z_n))))))))))))
noncomputable def tX3_lastMetNight_1 : List (Nat × zF) := [(18, (zst 1 (zp (.int (4))))), (19, (zst 1 z_imul)), (20, (zal 0)), (21, zmmax), (24, (zsi4 3 1 1)), (25, (zin4 3 2 (1))), (28, (zgt 4)), (31, (zli4 1 1)), (32, (zri false))]
theorem kX3_lastMetNight_1 : ∀ q ∈ tX3_lastMetNight_1, zOk zg iX3_lastMetNight q.1 q.2 := (z_c (ok_iconst (v := (4)) dX3_lastMetNight_18 (by decide)) (z_c (ok_imul dX3_lastMetNight_19) (z_c (ok_iaload rfl dX3_lastMetNight_20) (z_c (ok_mmax zw_180 zw_52 zw_49 zw_53 dX3_lastMetNight_21) (z_c (ok_istore_n dX3_lastMetNight_24 rfl) (z_c (ok_iinc (v := (1)) dX3_lastMetNight_25 (by decide)) (z_c (ok_goto dX3_lastMetNight_28 (by decide)) (z_c (ok_iload_n dX3_lastMetNight_31 rfl) (z_c (ok_ireturn rfl dX3_lastMetNight_32) z_n)))))))))
noncomputable def tX3_lastMetNight : zT := [(18, tX3_lastMetNight_0), (100000, tX3_lastMetNight_1)]
theorem kX3_lastMetNight : zTok zg iX3_lastMetNight tX3_lastMetNight := (z_t kX3_lastMetNight_0 (z_t kX3_lastMetNight_1 z_tn))
theorem dX3_fitsMet_0 : decode cX3_fitsMet 0 = .ok (.iconst 0, 1) := by decide +kernel
theorem dX3_fitsMet_1 : decode cX3_fitsMet 1 = .ok (.istore_n 3, 1) := by decide +kernel
theorem dX3_fitsMet_2 : decode cX3_fitsMet 2 = .ok (.iload_n 3, 1) := by decide +kernel
theorem dX3_fitsMet_3 : decode cX3_fitsMet 3 = .ok (.aload_n 0, 1) := by decide +kernel
theorem dX3_fitsMet_4 : decode cX3_fitsMet 4 = .ok (.getfield 166, 3) := by decide +kernel
theorem dX3_fitsMet_7 : decode cX3_fitsMet 7 = .ok (.if_icmp .ge 65, 3) := by decide +kernel
theorem dX3_fitsMet_10 : decode cX3_fitsMet 10 = .ok (.iload_n 3, 1) := by decide +kernel
theorem dX3_fitsMet_11 : decode cX3_fitsMet 11 = .ok (.iconst 4, 1) := by decide +kernel
theorem dX3_fitsMet_12 : decode cX3_fitsMet 12 = .ok (.imul, 1) := by decide +kernel
theorem dX3_fitsMet_13 : decode cX3_fitsMet 13 = .ok (.istore 4, 2) := by decide +kernel
theorem dX3_fitsMet_15 : decode cX3_fitsMet 15 = .ok (.aload_n 0, 1) := by decide +kernel
theorem dX3_fitsMet_16 : decode cX3_fitsMet 16 = .ok (.getfield 31, 3) := by decide +kernel
theorem dX3_fitsMet_19 : decode cX3_fitsMet 19 = .ok (.iload 4, 2) := by decide +kernel
theorem dX3_fitsMet_21 : decode cX3_fitsMet 21 = .ok (.iaload, 1) := by decide +kernel
theorem dX3_fitsMet_22 : decode cX3_fitsMet 22 = .ok (.iload_n 2, 1) := by decide +kernel
theorem dX3_fitsMet_23 : decode cX3_fitsMet 23 = .ok (.if_icmp .ne 43, 3) := by decide +kernel
theorem dX3_fitsMet_26 : decode cX3_fitsMet 26 = .ok (.aload_n 1, 1) := by decide +kernel
theorem dX3_fitsMet_27 : decode cX3_fitsMet 27 = .ok (.getfield 139, 3) := by decide +kernel
theorem dX3_fitsMet_30 : decode cX3_fitsMet 30 = .ok (.aload_n 0, 1) := by decide +kernel
theorem dX3_fitsMet_31 : decode cX3_fitsMet 31 = .ok (.getfield 31, 3) := by decide +kernel
theorem dX3_fitsMet_34 : decode cX3_fitsMet 34 = .ok (.iload 4, 2) := by decide +kernel
theorem dX3_fitsMet_36 : decode cX3_fitsMet 36 = .ok (.iconst 1, 1) := by decide +kernel
theorem dX3_fitsMet_37 : decode cX3_fitsMet 37 = .ok (.iadd, 1) := by decide +kernel
theorem dX3_fitsMet_38 : decode cX3_fitsMet 38 = .ok (.iaload, 1) := by decide +kernel
theorem dX3_fitsMet_39 : decode cX3_fitsMet 39 = .ok (.iaload, 1) := by decide +kernel
theorem dX3_fitsMet_40 : decode cX3_fitsMet 40 = .ok (.aload_n 0, 1) := by decide +kernel
theorem dX3_fitsMet_41 : decode cX3_fitsMet 41 = .ok (.getfield 31, 3) := by decide +kernel
theorem dX3_fitsMet_44 : decode cX3_fitsMet 44 = .ok (.iload 4, 2) := by decide +kernel
theorem dX3_fitsMet_46 : decode cX3_fitsMet 46 = .ok (.iconst 2, 1) := by decide +kernel
theorem dX3_fitsMet_47 : decode cX3_fitsMet 47 = .ok (.iadd, 1) := by decide +kernel
theorem dX3_fitsMet_48 : decode cX3_fitsMet 48 = .ok (.iaload, 1) := by decide +kernel
theorem dX3_fitsMet_49 : decode cX3_fitsMet 49 = .ok (.aload_n 0, 1) := by decide +kernel
theorem dX3_fitsMet_50 : decode cX3_fitsMet 50 = .ok (.getfield 31, 3) := by decide +kernel
theorem dX3_fitsMet_53 : decode cX3_fitsMet 53 = .ok (.iload 4, 2) := by decide +kernel
theorem dX3_fitsMet_55 : decode cX3_fitsMet 55 = .ok (.iconst 3, 1) := by decide +kernel
theorem dX3_fitsMet_56 : decode cX3_fitsMet 56 = .ok (.iadd, 1) := by decide +kernel
theorem dX3_fitsMet_57 : decode cX3_fitsMet 57 = .ok (.iaload, 1) := by decide +kernel
theorem dX3_fitsMet_58 : decode cX3_fitsMet 58 = .ok (.invokestatic 192, 3) := by decide +kernel
theorem dX3_fitsMet_61 : decode cX3_fitsMet 61 = .ok (.if_icmp .eq 5, 3) := by decide +kernel
theorem dX3_fitsMet_64 : decode cX3_fitsMet 64 = .ok (.iconst 0, 1) := by decide +kernel
theorem dX3_fitsMet_65 : decode cX3_fitsMet 65 = .ok (.ireturn, 1) := by decide +kernel
theorem dX3_fitsMet_66 : decode cX3_fitsMet 66 = .ok (.iinc 3 1, 3) := by decide +kernel
theorem dX3_fitsMet_69 : decode cX3_fitsMet 69 = .ok (.goto (-67), 3) := by decide +kernel
theorem dX3_fitsMet_72 : decode cX3_fitsMet 72 = .ok (.iconst 1, 1) := by decide +kernel
theorem dX3_fitsMet_73 : decode cX3_fitsMet 73 = .ok (.ireturn, 1) := by decide +kernel
noncomputable def tX3_fitsMet_0 : List (Nat × zF) := [(0, (zst 1 (zp (.int (0))))), (1, (zsi4 5 3 1)), (2, (zli4 3 1)), (3, (zla4 0 1)), (4, (zgf 3 9)), (7, (z_ic_ge 72)), (10, (zli4 3 1)), (11, (zst 1 (zp (.int (4))))), (12, (zst 1 z_imul)), (13, (zsi4 5 4 2)), (15, (zla4 0 1)), (16, (zgf 3 8))]
theorem kX3_fitsMet_0 : ∀ q ∈ tX3_fitsMet_0, zOk zg iX3_fitsMet q.1 q.2 := (z_c (ok_iconst (v := (0)) dX3_fitsMet_0 (by decide)) (z_c (ok_istore_n dX3_fitsMet_1 rfl) (z_c (ok_iload_n dX3_fitsMet_2 rfl) (z_c (ok_aload_n dX3_fitsMet_3 rfl) (z_c (ok_getf (C := RX3) (T := TX3) (N := 13) rfl (by decide) zinX3 rfl zw_185 dX3_fitsMet_4) (z_c (ok_icmp_ge dX3_fitsMet_7 (by decide)) (z_c (ok_iload_n dX3_fitsMet_10 rfl) (z_c (ok_iconst (v := (4)) dX3_fitsMet_11 (by decide)) (z_c (ok_imul dX3_fitsMet_12) (z_c (ok_istore dX3_fitsMet_13) (z_c (ok_aload_n dX3_fitsMet_15 rfl) (z_c (ok_getf (C := RX3) (T := TX3) (N := 13) rfl (by decide) zinX3 rfl zw_132 dX3_fitsMet_16) z_n))))))))))))
noncomputable def tX3_fitsMet_1 : List (Nat × zF) := [(19, (zli4 4 2)), (21, (zal 0)), (22, (zli4 2 1)), (23, (z_ic_ne 66)), (26, (zla4 1 1)), (27, (zgf 8 3)), (30, (zla4 0 1)), (31, (zgf 3 8)), (34, (zli4 4 2)), (36, (zst 1 (zp (.int (1))))), (37, (zst 1 z_iadd)), (38, (zal 0))]
theorem kX3_fitsMet_1 : ∀ q ∈ tX3_fitsMet_1, zOk zg iX3_fitsMet q.1 q.2 := (z_c (ok_iload dX3_fitsMet_19) (z_c (ok_iaload rfl dX3_fitsMet_21) (z_c (ok_iload_n dX3_fitsMet_22 rfl) (z_c (ok_icmp_ne dX3_fitsMet_23 (by decide)) (z_c (ok_aload_n dX3_fitsMet_26 rfl) (z_c (ok_getf (C := RX8) (T := TX8) (N := 6) rfl (by decide) zinX8 rfl zw_175 dX3_fitsMet_27) (z_c (ok_aload_n dX3_fitsMet_30 rfl) (z_c (ok_getf (C := RX3) (T := TX3) (N := 13) rfl (by decide) zinX3 rfl zw_132 dX3_fitsMet_31) (z_c (ok_iload dX3_fitsMet_34) (z_c (ok_iconst (v := (1)) dX3_fitsMet_36 (by decide)) (z_c (ok_iadd dX3_fitsMet_37) (z_c (ok_iaload rfl dX3_fitsMet_38) z_n))))))))))))
noncomputable def tX3_fitsMet_2 : List (Nat × zF) := [(39, (zal 0)), (40, (zla4 0 1)), (41, (zgf 3 8)), (44, (zli4 4 2)), (46, (zst 1 (zp (.int (2))))), (47, (zst 1 z_iadd)), (48, (zal 0)), (49, (zla4 0 1)), (50, (zgf 3 8)), (53, (zli4 4 2)), (55, (zst 1 (zp (.int (3))))), (56, (zst 1 z_iadd))]
theorem kX3_fitsMet_2 : ∀ q ∈ tX3_fitsMet_2, zOk zg iX3_fitsMet q.1 q.2 := (z_c (ok_iaload rfl dX3_fitsMet_39) (z_c (ok_aload_n dX3_fitsMet_40 rfl) (z_c (ok_getf (C := RX3) (T := TX3) (N := 13) rfl (by decide) zinX3 rfl zw_132 dX3_fitsMet_41) (z_c (ok_iload dX3_fitsMet_44) (z_c (ok_iconst (v := (2)) dX3_fitsMet_46 (by decide)) (z_c (ok_iadd dX3_fitsMet_47) (z_c (ok_iaload rfl dX3_fitsMet_48) (z_c (ok_aload_n dX3_fitsMet_49 rfl) (z_c (ok_getf (C := RX3) (T := TX3) (N := 13) rfl (by decide) zinX3 rfl zw_132 dX3_fitsMet_50) (z_c (ok_iload dX3_fitsMet_53) (z_c (ok_iconst (v := (3)) dX3_fitsMet_55 (by decide)) (z_c (ok_iadd dX3_fitsMet_56) z_n))))))))))))
noncomputable def tX3_fitsMet_3 : List (Nat × zF) := [(57, (zal 0)), (58, (zcs 160 2)), (61, (z_ic_eq 66)), (64, (zst 1 (zp (.int (0))))), (65, (zri true)), (66, (zin4 5 3 (1))), (69, (zgt 2)), (72, (zst 1 (zp (.int (1))))), (73, (zri true))]
theorem kX3_fitsMet_3 : ∀ q ∈ tX3_fitsMet_3, zOk zg iX3_fitsMet q.1 q.2 := (z_c (ok_iaload rfl dX3_fitsMet_57) (z_c (ok_callSN zcal_160 zx_nest_8 zw_198 dX3_fitsMet_58) (z_c (ok_icmp_eq dX3_fitsMet_61 (by decide)) (z_c (ok_iconst (v := (0)) dX3_fitsMet_64 (by decide)) (z_c (ok_zreturn rfl dX3_fitsMet_65) (z_c (ok_iinc (v := (1)) dX3_fitsMet_66 (by decide)) (z_c (ok_goto dX3_fitsMet_69 (by decide)) (z_c (ok_iconst (v := (1)) dX3_fitsMet_72 (by decide)) (z_c (ok_zreturn rfl dX3_fitsMet_73) z_n)))))))))
noncomputable def tX3_fitsMet : zT := [(19, tX3_fitsMet_0), (39, tX3_fitsMet_1), (57, tX3_fitsMet_2), (100000, tX3_fitsMet_3)]
theorem kX3_fitsMet : zTok zg iX3_fitsMet tX3_fitsMet := (z_t kX3_fitsMet_0 (z_t kX3_fitsMet_1 (z_t kX3_fitsMet_2 (z_t kX3_fitsMet_3 z_tn))))
theorem dX3_findTelling_0 : decode cX3_findTelling 0 = .ok (.aload_n 0, 1) := by decide +kernel
theorem dX3_findTelling_1 : decode cX3_findTelling 1 = .ok (.iconst (-1), 1) := by decide +kernel
theorem dX3_findTelling_2 : decode cX3_findTelling 2 = .ok (.putfield 195, 3) := by decide +kernel
theorem dX3_findTelling_5 : decode cX3_findTelling 5 = .ok (.aload_n 0, 1) := by decide +kernel
theorem dX3_findTelling_6 : decode cX3_findTelling 6 = .ok (.iconst (-1), 1) := by decide +kernel
theorem dX3_findTelling_7 : decode cX3_findTelling 7 = .ok (.putfield 198, 3) := by decide +kernel
theorem dX3_findTelling_10 : decode cX3_findTelling 10 = .ok (.aload_n 0, 1) := by decide +kernel
theorem dX3_findTelling_11 : decode cX3_findTelling 11 = .ok (.iconst (-1), 1) := by decide +kernel
theorem dX3_findTelling_12 : decode cX3_findTelling 12 = .ok (.putfield 201, 3) := by decide +kernel
theorem dX3_findTelling_15 : decode cX3_findTelling 15 = .ok (.aload_n 0, 1) := by decide +kernel
theorem dX3_findTelling_16 : decode cX3_findTelling 16 = .ok (.aload_n 1, 1) := by decide +kernel
theorem dX3_findTelling_17 : decode cX3_findTelling 17 = .ok (.iload_n 2, 1) := by decide +kernel
theorem dX3_findTelling_18 : decode cX3_findTelling 18 = .ok (.iload_n 3, 1) := by decide +kernel
theorem dX3_findTelling_19 : decode cX3_findTelling 19 = .ok (.invokevirtual 204, 3) := by decide +kernel
theorem dX3_findTelling_22 : decode cX3_findTelling 22 = .ok (.istore 4, 2) := by decide +kernel
theorem dX3_findTelling_24 : decode cX3_findTelling 24 = .ok (.bipush 30, 2) := by decide +kernel
theorem dX3_findTelling_26 : decode cX3_findTelling 26 = .ok (.sipush 999, 3) := by decide +kernel
theorem dX3_findTelling_29 : decode cX3_findTelling 29 = .ok (.aload_n 1, 1) := by decide +kernel
theorem dX3_findTelling_30 : decode cX3_findTelling 30 = .ok (.getfield 49, 3) := by decide +kernel
theorem dX3_findTelling_33 : decode cX3_findTelling 33 = .ok (.isub, 1) := by decide +kernel
theorem dX3_findTelling_34 : decode cX3_findTelling 34 = .ok (.invokestatic 53, 3) := by decide +kernel
theorem dX3_findTelling_37 : decode cX3_findTelling 37 = .ok (.istore 5, 2) := by decide +kernel
theorem dX3_findTelling_39 : decode cX3_findTelling 39 = .ok (.iconst 1, 1) := by decide +kernel
theorem dX3_findTelling_40 : decode cX3_findTelling 40 = .ok (.istore 6, 2) := by decide +kernel
theorem dX3_findTelling_42 : decode cX3_findTelling 42 = .ok (.iload 6, 2) := by decide +kernel
theorem dX3_findTelling_44 : decode cX3_findTelling 44 = .ok (.iload 5, 2) := by decide +kernel
theorem dX3_findTelling_46 : decode cX3_findTelling 46 = .ok (.if_icmp .gt 115, 3) := by decide +kernel
theorem dX3_findTelling_49 : decode cX3_findTelling 49 = .ok (.iload 4, 2) := by decide +kernel
theorem dX3_findTelling_51 : decode cX3_findTelling 51 = .ok (.ifCond .le 110, 3) := by decide +kernel
theorem dX3_findTelling_54 : decode cX3_findTelling 54 = .ok (.iconst 0, 1) := by decide +kernel
theorem dX3_findTelling_55 : decode cX3_findTelling 55 = .ok (.istore 7, 2) := by decide +kernel
theorem dX3_findTelling_57 : decode cX3_findTelling 57 = .ok (.iload 7, 2) := by decide +kernel
theorem dX3_findTelling_59 : decode cX3_findTelling 59 = .ok (.iload 4, 2) := by decide +kernel
theorem dX3_findTelling_61 : decode cX3_findTelling 61 = .ok (.if_icmp .ge 25, 3) := by decide +kernel
theorem dX3_findTelling_64 : decode cX3_findTelling 64 = .ok (.aload_n 0, 1) := by decide +kernel
theorem dX3_findTelling_65 : decode cX3_findTelling 65 = .ok (.getfield 34, 3) := by decide +kernel
theorem dX3_findTelling_68 : decode cX3_findTelling 68 = .ok (.aload_n 0, 1) := by decide +kernel
theorem dX3_findTelling_69 : decode cX3_findTelling 69 = .ok (.getfield 11, 3) := by decide +kernel
theorem dX3_findTelling_72 : decode cX3_findTelling 72 = .ok (.iload 7, 2) := by decide +kernel
theorem dX3_findTelling_74 : decode cX3_findTelling 74 = .ok (.aaload, 1) := by decide +kernel
theorem dX3_findTelling_75 : decode cX3_findTelling 75 = .ok (.iconst 1, 1) := by decide +kernel
theorem dX3_findTelling_76 : decode cX3_findTelling 76 = .ok (.iconst (-1), 1) := by decide +kernel
theorem dX3_findTelling_77 : decode cX3_findTelling 77 = .ok (.invokevirtual 43, 3) := by decide +kernel
theorem dX3_findTelling_80 : decode cX3_findTelling 80 = .ok (.iinc 7 1, 3) := by decide +kernel
theorem dX3_findTelling_83 : decode cX3_findTelling 83 = .ok (.goto (-26), 3) := by decide +kernel
theorem dX3_findTelling_86 : decode cX3_findTelling 86 = .ok (.iconst 0, 1) := by decide +kernel
theorem dX3_findTelling_87 : decode cX3_findTelling 87 = .ok (.istore 7, 2) := by decide +kernel
theorem dX3_findTelling_89 : decode cX3_findTelling 89 = .ok (.iload 7, 2) := by decide +kernel
theorem dX3_findTelling_91 : decode cX3_findTelling 91 = .ok (.aload_n 0, 1) := by decide +kernel
theorem dX3_findTelling_92 : decode cX3_findTelling 92 = .ok (.getfield 34, 3) := by decide +kernel
theorem dX3_findTelling_95 : decode cX3_findTelling 95 = .ok (.getfield 63, 3) := by decide +kernel
theorem dX3_findTelling_98 : decode cX3_findTelling 98 = .ok (.getfield 124, 3) := by decide +kernel
theorem dX3_findTelling_101 : decode cX3_findTelling 101 = .ok (.if_icmp .ge 54, 3) := by decide +kernel
theorem dX3_findTelling_104 : decode cX3_findTelling 104 = .ok (.aload_n 0, 1) := by decide +kernel
theorem dX3_findTelling_105 : decode cX3_findTelling 105 = .ok (.iload 7, 2) := by decide +kernel
theorem dX3_findTelling_107 : decode cX3_findTelling 107 = .ok (.iload 4, 2) := by decide +kernel
theorem dX3_findTelling_109 : decode cX3_findTelling 109 = .ok (.invokevirtual 208, 3) := by decide +kernel
theorem dX3_findTelling_112 : decode cX3_findTelling 112 = .ok (.istore 8, 2) := by decide +kernel
theorem dX3_findTelling_114 : decode cX3_findTelling 114 = .ok (.aload_n 0, 1) := by decide +kernel
theorem dX3_findTelling_115 : decode cX3_findTelling 115 = .ok (.getfield 201, 3) := by decide +kernel
theorem dX3_findTelling_118 : decode cX3_findTelling 118 = .ok (.iconst (-1), 1) := by decide +kernel
theorem dX3_findTelling_119 : decode cX3_findTelling 119 = .ok (.if_icmp .eq 12, 3) := by decide +kernel
theorem dX3_findTelling_122 : decode cX3_findTelling 122 = .ok (.iload 8, 2) := by decide +kernel
theorem dX3_findTelling_124 : decode cX3_findTelling 124 = .ok (.aload_n 0, 1) := by decide +kernel
theorem dX3_findTelling_125 : decode cX3_findTelling 125 = .ok (.getfield 201, 3) := by decide +kernel
theorem dX3_findTelling_128 : decode cX3_findTelling 128 = .ok (.if_icmp .ge 21, 3) := by decide +kernel
theorem dX3_findTelling_131 : decode cX3_findTelling 131 = .ok (.aload_n 0, 1) := by decide +kernel
theorem dX3_findTelling_132 : decode cX3_findTelling 132 = .ok (.iload 6, 2) := by decide +kernel
theorem dX3_findTelling_134 : decode cX3_findTelling 134 = .ok (.putfield 195, 3) := by decide +kernel
theorem dX3_findTelling_137 : decode cX3_findTelling 137 = .ok (.aload_n 0, 1) := by decide +kernel
theorem dX3_findTelling_138 : decode cX3_findTelling 138 = .ok (.iload 7, 2) := by decide +kernel
theorem dX3_findTelling_140 : decode cX3_findTelling 140 = .ok (.putfield 198, 3) := by decide +kernel
theorem dX3_findTelling_143 : decode cX3_findTelling 143 = .ok (.aload_n 0, 1) := by decide +kernel
theorem dX3_findTelling_144 : decode cX3_findTelling 144 = .ok (.iload 8, 2) := by decide +kernel
theorem dX3_findTelling_146 : decode cX3_findTelling 146 = .ok (.putfield 201, 3) := by decide +kernel
theorem dX3_findTelling_149 : decode cX3_findTelling 149 = .ok (.iinc 7 1, 3) := by decide +kernel
theorem dX3_findTelling_152 : decode cX3_findTelling 152 = .ok (.goto (-63), 3) := by decide +kernel
theorem dX3_findTelling_155 : decode cX3_findTelling 155 = .ok (.iinc 6 1, 3) := by decide +kernel
theorem dX3_findTelling_158 : decode cX3_findTelling 158 = .ok (.goto (-116), 3) := by decide +kernel
theorem dX3_findTelling_161 : decode cX3_findTelling 161 = .ok (.return_, 1) := by decide +kernel
noncomputable def tX3_findTelling_0 : List (Nat × zF) := [(0, (zla4 0 1)), (1, (zst 1 (zp (.int ((-1)))))), (2, (zpf 3 10 (.int))), (5, (zla4 0 1)), (6, (zst 1 (zp (.int ((-1)))))), (7, (zpf 3 11 (.int))), (10, (zla4 0 1)), (11, (zst 1 (zp (.int ((-1)))))), (12, (zpf 3 12 (.int))), (15, (zla4 0 1)), (16, (zla4 1 1)), (17, (zli4 2 1))]
theorem kX3_findTelling_0 : ∀ q ∈ tX3_findTelling_0, zOk zg iX3_findTelling q.1 q.2 := (z_c (ok_aload_n dX3_findTelling_0 rfl) (z_c (ok_iconst (v := (-1)) dX3_findTelling_1 (by decide)) (z_c (ok_putf (C := RX3) (T := TX3) (N := 13) false tyX3 tyX3_ok nmX3 rfl (by decide) zinX3 rfl zw_199 rfl (fun h => absurd h (by decide)) rfl dX3_findTelling_2) (z_c (ok_aload_n dX3_findTelling_5 rfl) (z_c (ok_iconst (v := (-1)) dX3_findTelling_6 (by decide)) (z_c (ok_putf (C := RX3) (T := TX3) (N := 13) false tyX3 tyX3_ok nmX3 rfl (by decide) zinX3 rfl zw_200 rfl (fun h => absurd h (by decide)) rfl dX3_findTelling_7) (z_c (ok_aload_n dX3_findTelling_10 rfl) (z_c (ok_iconst (v := (-1)) dX3_findTelling_11 (by decide)) (z_c (ok_putf (C := RX3) (T := TX3) (N := 13) false tyX3 tyX3_ok nmX3 rfl (by decide) zinX3 rfl zw_201 rfl (fun h => absurd h (by decide)) rfl dX3_findTelling_12) (z_c (ok_aload_n dX3_findTelling_15 rfl) (z_c (ok_aload_n dX3_findTelling_16 rfl) (z_c (ok_iload_n dX3_findTelling_17 rfl) z_n))))))))))))
noncomputable def tX3_findTelling_1 : List (Nat × zF) := [(18, (zli4 3 1)), (19, (zcv 45 3 3)), (22, (zsi4 9 4 2)), (24, (zst 2 (zp (.int (30))))), (26, (zst 3 (zp (.int (999))))), (29, (zla4 1 1)), (30, (zgf 8 0)), (33, (zst 1 z_isub)), (34, zmmin), (37, (zsi4 9 5 2)), (39, (zst 1 (zp (.int (1))))), (40, (zsi4 9 6 2))]
theorem kX3_findTelling_1 : ∀ q ∈ tX3_findTelling_1, zOk zg iX3_findTelling q.1 q.2 := (z_c (ok_iload_n dX3_findTelling_18 rfl) (z_c (ok_callV zcal_45 (q := (RX3, TX3, 13)) rfl zw_202 zw_203 zw_204 dX3_findTelling_19) (z_c (ok_istore dX3_findTelling_22) (z_c (ok_bipush (v := (30)) dX3_findTelling_24 (by decide)) (z_c (ok_sipush (v := (999)) dX3_findTelling_26 (by decide)) (z_c (ok_aload_n dX3_findTelling_29 rfl) (z_c (ok_getf (C := RX8) (T := TX8) (N := 6) rfl (by decide) zinX8 rfl zw_138 dX3_findTelling_30) (z_c (ok_isub dX3_findTelling_33) (z_c (ok_mmin zw_139 zw_48 zw_49 zw_50 dX3_findTelling_34) (z_c (ok_istore dX3_findTelling_37) (z_c (ok_iconst (v := (1)) dX3_findTelling_39 (by decide)) (z_c (ok_istore dX3_findTelling_40) z_n))))))))))))
noncomputable def tX3_findTelling_2 : List (Nat × zF) := [(42, (zli4 6 2)), (44, (zli4 5 2)), (46, (z_ic_gt 161)), (49, (zli4 4 2)), (51, (z_if_le 161)), (54, (zst 1 (zp (.int (0))))), (55, (zsi4 9 7 2)), (57, (zli4 7 2)), (59, (zli4 4 2)), (61, (z_ic_ge 86)), (64, (zla4 0 1)), (65, (zgf 3 0))]
theorem kX3_findTelling_2 : ∀ q ∈ tX3_findTelling_2, zOk zg iX3_findTelling q.1 q.2 := (z_c (ok_iload dX3_findTelling_42) (z_c (ok_iload dX3_findTelling_44) (z_c (ok_icmp_gt dX3_findTelling_46 (by decide)) (z_c (ok_iload dX3_findTelling_49) (z_c (ok_if_le dX3_findTelling_51 (by decide)) (z_c (ok_iconst (v := (0)) dX3_findTelling_54 (by decide)) (z_c (ok_istore dX3_findTelling_55) (z_c (ok_iload dX3_findTelling_57) (z_c (ok_iload dX3_findTelling_59) (z_c (ok_icmp_ge dX3_findTelling_61 (by decide)) (z_c (ok_aload_n dX3_findTelling_64 rfl) (z_c (ok_getf (C := RX3) (T := TX3) (N := 13) rfl (by decide) zinX3 rfl zw_133 dX3_findTelling_65) z_n))))))))))))
noncomputable def tX3_findTelling_3 : List (Nat × zF) := [(68, (zla4 0 1)), (69, (zgf 3 1)), (72, (zli4 7 2)), (74, (zaq 3)), (75, (zst 1 (zp (.int (1))))), (76, (zst 1 (zp (.int ((-1)))))), (77, (zcv 2 3 0)), (80, (zin4 9 7 (1))), (83, (zgt 57)), (86, (zst 1 (zp (.int (0))))), (87, (zsi4 9 7 2)), (89, (zli4 7 2))]
theorem kX3_findTelling_3 : ∀ q ∈ tX3_findTelling_3, zOk zg iX3_findTelling q.1 q.2 := (z_c (ok_aload_n dX3_findTelling_68 rfl) (z_c (ok_getf (C := RX3) (T := TX3) (N := 13) rfl (by decide) zinX3 rfl zw_127 dX3_findTelling_69) (z_c (ok_iload dX3_findTelling_72) (z_c (ok_aaload (C := "MissingLamps$State") rfl dX3_findTelling_74) (z_c (ok_iconst (v := (1)) dX3_findTelling_75 (by decide)) (z_c (ok_iconst (v := (-1)) dX3_findTelling_76 (by decide)) (z_c (ok_callV zcal_2 (q := (RX0, TX0, 5)) rfl zw_135 zw_136 zw_137 dX3_findTelling_77) (z_c (ok_iinc (v := (1)) dX3_findTelling_80 (by decide)) (z_c (ok_goto dX3_findTelling_83 (by decide)) (z_c (ok_iconst (v := (0)) dX3_findTelling_86 (by decide)) (z_c (ok_istore dX3_findTelling_87) (z_c (ok_iload dX3_findTelling_89) z_n))))))))))))
noncomputable def tX3_findTelling_4 : List (Nat × zF) := [(91, (zla4 0 1)), (92, (zgf 3 0)), (95, (zgf 0 0)), (98, (zgf 4 13)), (101, (z_ic_ge 155)), (104, (zla4 0 1)), (105, (zli4 7 2)), (107, (zli4 4 2)), (109, (zcv 46 2 3)), (112, (zsi4 9 8 2)), (114, (zla4 0 1)), (115, (zgf 3 12))]
theorem kX3_findTelling_4 : ∀ q ∈ tX3_findTelling_4, zOk zg iX3_findTelling q.1 q.2 := (z_c (ok_aload_n dX3_findTelling_91 rfl) (z_c (ok_getf (C := RX3) (T := TX3) (N := 13) rfl (by decide) zinX3 rfl zw_133 dX3_findTelling_92) (z_c (ok_getf (C := RX0) (T := TX0) (N := 5) rfl (by decide) zinX0 rfl zw_141 dX3_findTelling_95) (z_c (ok_getf (C := RX4) (T := TX4) (N := 18) rfl (by decide) zinX4 rfl zw_168 dX3_findTelling_98) (z_c (ok_icmp_ge dX3_findTelling_101 (by decide)) (z_c (ok_aload_n dX3_findTelling_104 rfl) (z_c (ok_iload dX3_findTelling_105) (z_c (ok_iload dX3_findTelling_107) (z_c (ok_callV zcal_46 (q := (RX3, TX3, 13)) rfl zw_205 zw_206 zw_207 dX3_findTelling_109) (z_c (ok_istore dX3_findTelling_112) (z_c (ok_aload_n dX3_findTelling_114 rfl) (z_c (ok_getf (C := RX3) (T := TX3) (N := 13) rfl (by decide) zinX3 rfl zw_201 dX3_findTelling_115) z_n))))))))))))
noncomputable def tX3_findTelling_5 : List (Nat × zF) := [(118, (zst 1 (zp (.int ((-1)))))), (119, (z_ic_eq 131)), (122, (zli4 8 2)), (124, (zla4 0 1)), (125, (zgf 3 12)), (128, (z_ic_ge 149)), (131, (zla4 0 1)), (132, (zli4 6 2)), (134, (zpf 3 10 (.int))), (137, (zla4 0 1)), (138, (zli4 7 2)), (140, (zpf 3 11 (.int)))]
theorem kX3_findTelling_5 : ∀ q ∈ tX3_findTelling_5, zOk zg iX3_findTelling q.1 q.2 := (z_c (ok_iconst (v := (-1)) dX3_findTelling_118 (by decide)) (z_c (ok_icmp_eq dX3_findTelling_119 (by decide)) (z_c (ok_iload dX3_findTelling_122) (z_c (ok_aload_n dX3_findTelling_124 rfl) (z_c (ok_getf (C := RX3) (T := TX3) (N := 13) rfl (by decide) zinX3 rfl zw_201 dX3_findTelling_125) (z_c (ok_icmp_ge dX3_findTelling_128 (by decide)) (z_c (ok_aload_n dX3_findTelling_131 rfl) (z_c (ok_iload dX3_findTelling_132) (z_c (ok_putf (C := RX3) (T := TX3) (N := 13) false tyX3 tyX3_ok nmX3 rfl (by decide) zinX3 rfl zw_199 rfl (fun h => absurd h (by decide)) rfl dX3_findTelling_134) (z_c (ok_aload_n dX3_findTelling_137 rfl) (z_c (ok_iload dX3_findTelling_138) (z_c (ok_putf (C := RX3) (T := TX3) (N := 13) false tyX3 tyX3_ok nmX3 rfl (by decide) zinX3 rfl zw_200 rfl (fun h => absurd h (by decide)) rfl dX3_findTelling_140) z_n))))))))))))
noncomputable def tX3_findTelling_6 : List (Nat × zF) := [(143, (zla4 0 1)), (144, (zli4 8 2)), (146, (zpf 3 12 (.int))), (149, (zin4 9 7 (1))), (152, (zgt 89)), (155, (zin4 9 6 (1))), (158, (zgt 42)), (161, zrv)]
theorem kX3_findTelling_6 : ∀ q ∈ tX3_findTelling_6, zOk zg iX3_findTelling q.1 q.2 := (z_c (ok_aload_n dX3_findTelling_143 rfl) (z_c (ok_iload dX3_findTelling_144) (z_c (ok_putf (C := RX3) (T := TX3) (N := 13) false tyX3 tyX3_ok nmX3 rfl (by decide) zinX3 rfl zw_201 rfl (fun h => absurd h (by decide)) rfl dX3_findTelling_146) (z_c (ok_iinc (v := (1)) dX3_findTelling_149 (by decide)) (z_c (ok_goto dX3_findTelling_152 (by decide)) (z_c (ok_iinc (v := (1)) dX3_findTelling_155 (by decide)) (z_c (ok_goto dX3_findTelling_158 (by decide)) (z_c (ok_return rfl dX3_findTelling_161) z_n))))))))
noncomputable def tX3_findTelling : zT := [(18, tX3_findTelling_0), (42, tX3_findTelling_1), (68, tX3_findTelling_2), (91, tX3_findTelling_3), (118, tX3_findTelling_4), (143, tX3_findTelling_5), (100000, tX3_findTelling_6)]
theorem kX3_findTelling : zTok zg iX3_findTelling tX3_findTelling := (z_t kX3_findTelling_0 (z_t kX3_findTelling_1 (z_t kX3_findTelling_2 (z_t kX3_findTelling_3 (z_t kX3_findTelling_4 (z_t kX3_findTelling_5 (z_t kX3_findTelling_6 z_tn)))))))
theorem dX3_supposeAll_0 : decode cX3_supposeAll 0 = .ok (.iconst 0, 1) := by decide +kernel
theorem dX3_supposeAll_1 : decode cX3_supposeAll 1 = .ok (.istore 4, 2) := by decide +kernel
theorem dX3_supposeAll_3 : decode cX3_supposeAll 3 = .ok (.iconst 1, 1) := by decide +kernel
theorem dX3_supposeAll_4 : decode cX3_supposeAll 4 = .ok (.istore 5, 2) := by decide +kernel
theorem dX3_supposeAll_6 : decode cX3_supposeAll 6 = .ok (.iload 5, 2) := by decide +kernel
theorem dX3_supposeAll_8 : decode cX3_supposeAll 8 = .ok (.bipush 9, 2) := by decide +kernel
theorem dX3_supposeAll_10 : decode cX3_supposeAll 10 = .ok (.if_icmp .gt 57, 3) := by decide +kernel
theorem dX3_supposeAll_13 : decode cX3_supposeAll 13 = .ok (.iload_n 3, 1) := by decide +kernel
theorem dX3_supposeAll_14 : decode cX3_supposeAll 14 = .ok (.iload 5, 2) := by decide +kernel
theorem dX3_supposeAll_16 : decode cX3_supposeAll 16 = .ok (.iconst 1, 1) := by decide +kernel
theorem dX3_supposeAll_17 : decode cX3_supposeAll 17 = .ok (.isub, 1) := by decide +kernel
theorem dX3_supposeAll_18 : decode cX3_supposeAll 18 = .ok (.ishr, 1) := by decide +kernel
theorem dX3_supposeAll_19 : decode cX3_supposeAll 19 = .ok (.iconst 1, 1) := by decide +kernel
theorem dX3_supposeAll_20 : decode cX3_supposeAll 20 = .ok (.iand, 1) := by decide +kernel
theorem dX3_supposeAll_21 : decode cX3_supposeAll 21 = .ok (.ifCond .eq 40, 3) := by decide +kernel
theorem dX3_supposeAll_24 : decode cX3_supposeAll 24 = .ok (.aload_n 0, 1) := by decide +kernel
theorem dX3_supposeAll_25 : decode cX3_supposeAll 25 = .ok (.getfield 11, 3) := by decide +kernel
theorem dX3_supposeAll_28 : decode cX3_supposeAll 28 = .ok (.iload 4, 2) := by decide +kernel
theorem dX3_supposeAll_30 : decode cX3_supposeAll 30 = .ok (.aaload, 1) := by decide +kernel
theorem dX3_supposeAll_31 : decode cX3_supposeAll 31 = .ok (.aload_n 1, 1) := by decide +kernel
theorem dX3_supposeAll_32 : decode cX3_supposeAll 32 = .ok (.invokevirtual 39, 3) := by decide +kernel
theorem dX3_supposeAll_35 : decode cX3_supposeAll 35 = .ok (.aload_n 0, 1) := by decide +kernel
theorem dX3_supposeAll_36 : decode cX3_supposeAll 36 = .ok (.getfield 11, 3) := by decide +kernel
theorem dX3_supposeAll_39 : decode cX3_supposeAll 39 = .ok (.iload 4, 2) := by decide +kernel
theorem dX3_supposeAll_41 : decode cX3_supposeAll 41 = .ok (.aaload, 1) := by decide +kernel
theorem dX3_supposeAll_42 : decode cX3_supposeAll 42 = .ok (.iload_n 2, 1) := by decide +kernel
theorem dX3_supposeAll_43 : decode cX3_supposeAll 43 = .ok (.putfield 183, 3) := by decide +kernel
theorem dX3_supposeAll_46 : decode cX3_supposeAll 46 = .ok (.aload_n 0, 1) := by decide +kernel
theorem dX3_supposeAll_47 : decode cX3_supposeAll 47 = .ok (.getfield 11, 3) := by decide +kernel
theorem dX3_supposeAll_50 : decode cX3_supposeAll 50 = .ok (.iload 4, 2) := by decide +kernel
theorem dX3_supposeAll_52 : decode cX3_supposeAll 52 = .ok (.aaload, 1) := by decide +kernel
theorem dX3_supposeAll_53 : decode cX3_supposeAll 53 = .ok (.iload 5, 2) := by decide +kernel
theorem dX3_supposeAll_55 : decode cX3_supposeAll 55 = .ok (.putfield 186, 3) := by decide +kernel
theorem dX3_supposeAll_58 : decode cX3_supposeAll 58 = .ok (.iinc 4 1, 3) := by decide +kernel
theorem dX3_supposeAll_61 : decode cX3_supposeAll 61 = .ok (.iinc 5 1, 3) := by decide +kernel
theorem dX3_supposeAll_64 : decode cX3_supposeAll 64 = .ok (.goto (-58), 3) := by decide +kernel
theorem dX3_supposeAll_67 : decode cX3_supposeAll 67 = .ok (.iload 4, 2) := by decide +kernel
theorem dX3_supposeAll_69 : decode cX3_supposeAll 69 = .ok (.ireturn, 1) := by decide +kernel
noncomputable def tX3_supposeAll_0 : List (Nat × zF) := [(0, (zst 1 (zp (.int (0))))), (1, (zsi4 6 4 2)), (3, (zst 1 (zp (.int (1))))), (4, (zsi4 6 5 2)), (6, (zli4 5 2)), (8, (zst 2 (zp (.int (9))))), (10, (z_ic_gt 67)), (13, (zli4 3 1)), (14, (zli4 5 2)), (16, (zst 1 (zp (.int (1))))), (17, (zst 1 z_isub)), (18, (zst 1 z_ishr))]
theorem kX3_supposeAll_0 : ∀ q ∈ tX3_supposeAll_0, zOk zg iX3_supposeAll q.1 q.2 := (z_c (ok_iconst (v := (0)) dX3_supposeAll_0 (by decide)) (z_c (ok_istore dX3_supposeAll_1) (z_c (ok_iconst (v := (1)) dX3_supposeAll_3 (by decide)) (z_c (ok_istore dX3_supposeAll_4) (z_c (ok_iload dX3_supposeAll_6) (z_c (ok_bipush (v := (9)) dX3_supposeAll_8 (by decide)) (z_c (ok_icmp_gt dX3_supposeAll_10 (by decide)) (z_c (ok_iload_n dX3_supposeAll_13 rfl) (z_c (ok_iload dX3_supposeAll_14) (z_c (ok_iconst (v := (1)) dX3_supposeAll_16 (by decide)) (z_c (ok_isub dX3_supposeAll_17) (z_c (ok_ishr dX3_supposeAll_18) z_n))))))))))))
noncomputable def tX3_supposeAll_1 : List (Nat × zF) := [(19, (zst 1 (zp (.int (1))))), (20, (zst 1 z_iand)), (21, (z_if_eq 61)), (24, (zla4 0 1)), (25, (zgf 3 1)), (28, (zli4 4 2)), (30, (zaq 3)), (31, (zla4 1 1)), (32, (zcv 80 1 8)), (35, (zla4 0 1)), (36, (zgf 3 1)), (39, (zli4 4 2))]
theorem kX3_supposeAll_1 : ∀ q ∈ tX3_supposeAll_1, zOk zg iX3_supposeAll q.1 q.2 := (z_c (ok_iconst (v := (1)) dX3_supposeAll_19 (by decide)) (z_c (ok_iand dX3_supposeAll_20) (z_c (ok_if_eq dX3_supposeAll_21 (by decide)) (z_c (ok_aload_n dX3_supposeAll_24 rfl) (z_c (ok_getf (C := RX3) (T := TX3) (N := 13) rfl (by decide) zinX3 rfl zw_127 dX3_supposeAll_25) (z_c (ok_iload dX3_supposeAll_28) (z_c (ok_aaload (C := "MissingLamps$State") rfl dX3_supposeAll_30) (z_c (ok_aload_n dX3_supposeAll_31 rfl) (z_c (ok_callV zcal_80 (q := (RX8, TX8, 6)) rfl zw_134 zw_118 zw_119 dX3_supposeAll_32) (z_c (ok_aload_n dX3_supposeAll_35 rfl) (z_c (ok_getf (C := RX3) (T := TX3) (N := 13) rfl (by decide) zinX3 rfl zw_127 dX3_supposeAll_36) (z_c (ok_iload dX3_supposeAll_39) z_n))))))))))))
noncomputable def tX3_supposeAll_2 : List (Nat × zF) := [(41, (zaq 3)), (42, (zli4 2 1)), (43, (zpf 8 4 (.int))), (46, (zla4 0 1)), (47, (zgf 3 1)), (50, (zli4 4 2)), (52, (zaq 3)), (53, (zli4 5 2)), (55, (zpf 8 5 (.int))), (58, (zin4 6 4 (1))), (61, (zin4 6 5 (1))), (64, (zgt 6))]
theorem kX3_supposeAll_2 : ∀ q ∈ tX3_supposeAll_2, zOk zg iX3_supposeAll q.1 q.2 := (z_c (ok_aaload (C := "MissingLamps$State") rfl dX3_supposeAll_41) (z_c (ok_iload_n dX3_supposeAll_42 rfl) (z_c (ok_putf (C := RX8) (T := TX8) (N := 6) false tyX8 tyX8_ok nmX8 rfl (by decide) zinX8 rfl zw_193 rfl (fun h => absurd h (by decide)) rfl dX3_supposeAll_43) (z_c (ok_aload_n dX3_supposeAll_46 rfl) (z_c (ok_getf (C := RX3) (T := TX3) (N := 13) rfl (by decide) zinX3 rfl zw_127 dX3_supposeAll_47) (z_c (ok_iload dX3_supposeAll_50) (z_c (ok_aaload (C := "MissingLamps$State") rfl dX3_supposeAll_52) (z_c (ok_iload dX3_supposeAll_53) (z_c (ok_putf (C := RX8) (T := TX8) (N := 6) false tyX8 tyX8_ok nmX8 rfl (by decide) zinX8 rfl zw_194 rfl (fun h => absurd h (by decide)) rfl dX3_supposeAll_55) (z_c (ok_iinc (v := (1)) dX3_supposeAll_58 (by decide)) (z_c (ok_iinc (v := (1)) dX3_supposeAll_61 (by decide)) (z_c (ok_goto dX3_supposeAll_64 (by decide)) z_n))))))))))))
noncomputable def tX3_supposeAll_3 : List (Nat × zF) := [(67, (zli4 4 2)), (69, (zri false))]
theorem kX3_supposeAll_3 : ∀ q ∈ tX3_supposeAll_3, zOk zg iX3_supposeAll q.1 q.2 := (z_c (ok_iload dX3_supposeAll_67) (z_c (ok_ireturn rfl dX3_supposeAll_69) z_n))
noncomputable def tX3_supposeAll : zT := [(19, tX3_supposeAll_0), (41, tX3_supposeAll_1), (67, tX3_supposeAll_2), (100000, tX3_supposeAll_3)]
theorem kX3_supposeAll : zTok zg iX3_supposeAll tX3_supposeAll := (z_t kX3_supposeAll_0 (z_t kX3_supposeAll_1 (z_t kX3_supposeAll_2 (z_t kX3_supposeAll_3 z_tn))))
theorem dX3_mostAlike_0 : decode cX3_mostAlike 0 = .ok (.iconst 0, 1) := by decide +kernel
theorem dX3_mostAlike_1 : decode cX3_mostAlike 1 = .ok (.istore_n 3, 1) := by decide +kernel
theorem dX3_mostAlike_2 : decode cX3_mostAlike 2 = .ok (.iconst 0, 1) := by decide +kernel
theorem dX3_mostAlike_3 : decode cX3_mostAlike 3 = .ok (.istore 4, 2) := by decide +kernel
theorem dX3_mostAlike_5 : decode cX3_mostAlike 5 = .ok (.iload 4, 2) := by decide +kernel
theorem dX3_mostAlike_7 : decode cX3_mostAlike 7 = .ok (.iload_n 2, 1) := by decide +kernel
theorem dX3_mostAlike_8 : decode cX3_mostAlike 8 = .ok (.if_icmp .ge 64, 3) := by decide +kernel
theorem dX3_mostAlike_11 : decode cX3_mostAlike 11 = .ok (.iconst 0, 1) := by decide +kernel
theorem dX3_mostAlike_12 : decode cX3_mostAlike 12 = .ok (.istore 5, 2) := by decide +kernel
theorem dX3_mostAlike_14 : decode cX3_mostAlike 14 = .ok (.iconst 0, 1) := by decide +kernel
theorem dX3_mostAlike_15 : decode cX3_mostAlike 15 = .ok (.istore 6, 2) := by decide +kernel
theorem dX3_mostAlike_17 : decode cX3_mostAlike 17 = .ok (.iload 6, 2) := by decide +kernel
theorem dX3_mostAlike_19 : decode cX3_mostAlike 19 = .ok (.iload_n 2, 1) := by decide +kernel
theorem dX3_mostAlike_20 : decode cX3_mostAlike 20 = .ok (.if_icmp .ge 39, 3) := by decide +kernel
theorem dX3_mostAlike_23 : decode cX3_mostAlike 23 = .ok (.aload_n 0, 1) := by decide +kernel
theorem dX3_mostAlike_24 : decode cX3_mostAlike 24 = .ok (.getfield 11, 3) := by decide +kernel
theorem dX3_mostAlike_27 : decode cX3_mostAlike 27 = .ok (.iload 6, 2) := by decide +kernel
theorem dX3_mostAlike_29 : decode cX3_mostAlike 29 = .ok (.aaload, 1) := by decide +kernel
theorem dX3_mostAlike_30 : decode cX3_mostAlike 30 = .ok (.getfield 139, 3) := by decide +kernel
theorem dX3_mostAlike_33 : decode cX3_mostAlike 33 = .ok (.iload_n 1, 1) := by decide +kernel
theorem dX3_mostAlike_34 : decode cX3_mostAlike 34 = .ok (.iaload, 1) := by decide +kernel
theorem dX3_mostAlike_35 : decode cX3_mostAlike 35 = .ok (.aload_n 0, 1) := by decide +kernel
theorem dX3_mostAlike_36 : decode cX3_mostAlike 36 = .ok (.getfield 11, 3) := by decide +kernel
theorem dX3_mostAlike_39 : decode cX3_mostAlike 39 = .ok (.iload 4, 2) := by decide +kernel
theorem dX3_mostAlike_41 : decode cX3_mostAlike 41 = .ok (.aaload, 1) := by decide +kernel
theorem dX3_mostAlike_42 : decode cX3_mostAlike 42 = .ok (.getfield 139, 3) := by decide +kernel
theorem dX3_mostAlike_45 : decode cX3_mostAlike 45 = .ok (.iload_n 1, 1) := by decide +kernel
theorem dX3_mostAlike_46 : decode cX3_mostAlike 46 = .ok (.iaload, 1) := by decide +kernel
theorem dX3_mostAlike_47 : decode cX3_mostAlike 47 = .ok (.if_icmp .ne 6, 3) := by decide +kernel
theorem dX3_mostAlike_50 : decode cX3_mostAlike 50 = .ok (.iinc 5 1, 3) := by decide +kernel
theorem dX3_mostAlike_53 : decode cX3_mostAlike 53 = .ok (.iinc 6 1, 3) := by decide +kernel
theorem dX3_mostAlike_56 : decode cX3_mostAlike 56 = .ok (.goto (-39), 3) := by decide +kernel
theorem dX3_mostAlike_59 : decode cX3_mostAlike 59 = .ok (.iload_n 3, 1) := by decide +kernel
theorem dX3_mostAlike_60 : decode cX3_mostAlike 60 = .ok (.iload 5, 2) := by decide +kernel
theorem dX3_mostAlike_62 : decode cX3_mostAlike 62 = .ok (.invokestatic 150, 3) := by decide +kernel
theorem dX3_mostAlike_65 : decode cX3_mostAlike 65 = .ok (.istore_n 3, 1) := by decide +kernel
theorem dX3_mostAlike_66 : decode cX3_mostAlike 66 = .ok (.iinc 4 1, 3) := by decide +kernel
theorem dX3_mostAlike_69 : decode cX3_mostAlike 69 = .ok (.goto (-64), 3) := by decide +kernel
theorem dX3_mostAlike_72 : decode cX3_mostAlike 72 = .ok (.iload_n 3, 1) := by decide +kernel
theorem dX3_mostAlike_73 : decode cX3_mostAlike 73 = .ok (.ireturn, 1) := by decide +kernel
noncomputable def tX3_mostAlike_0 : List (Nat × zF) := [(0, (zst 1 (zp (.int (0))))), (1, (zsi4 7 3 1)), (2, (zst 1 (zp (.int (0))))), (3, (zsi4 7 4 2)), (5, (zli4 4 2)), (7, (zli4 2 1)), (8, (z_ic_ge 72)), (11, (zst 1 (zp (.int (0))))), (12, (zsi4 7 5 2)), (14, (zst 1 (zp (.int (0))))), (15, (zsi4 7 6 2)), (17, (zli4 6 2))]
theorem kX3_mostAlike_0 : ∀ q ∈ tX3_mostAlike_0, zOk zg iX3_mostAlike q.1 q.2 := (z_c (ok_iconst (v := (0)) dX3_mostAlike_0 (by decide)) (z_c (ok_istore_n dX3_mostAlike_1 rfl) (z_c (ok_iconst (v := (0)) dX3_mostAlike_2 (by decide)) (z_c (ok_istore dX3_mostAlike_3) (z_c (ok_iload dX3_mostAlike_5) (z_c (ok_iload_n dX3_mostAlike_7 rfl) (z_c (ok_icmp_ge dX3_mostAlike_8 (by decide)) (z_c (ok_iconst (v := (0)) dX3_mostAlike_11 (by decide)) (z_c (ok_istore dX3_mostAlike_12) (z_c (ok_iconst (v := (0)) dX3_mostAlike_14 (by decide)) (z_c (ok_istore dX3_mostAlike_15) (z_c (ok_iload dX3_mostAlike_17) z_n))))))))))))
noncomputable def tX3_mostAlike_1 : List (Nat × zF) := [(19, (zli4 2 1)), (20, (z_ic_ge 59)), (23, (zla4 0 1)), (24, (zgf 3 1)), (27, (zli4 6 2)), (29, (zaq 3)), (30, (zgf 8 3)), (33, (zli4 1 1)), (34, (zal 0)), (35, (zla4 0 1)), (36, (zgf 3 1)), (39, (zli4 4 2))]
theorem kX3_mostAlike_1 : ∀ q ∈ tX3_mostAlike_1, zOk zg iX3_mostAlike q.1 q.2 := (z_c (ok_iload_n dX3_mostAlike_19 rfl) (z_c (ok_icmp_ge dX3_mostAlike_20 (by decide)) (z_c (ok_aload_n dX3_mostAlike_23 rfl) (z_c (ok_getf (C := RX3) (T := TX3) (N := 13) rfl (by decide) zinX3 rfl zw_127 dX3_mostAlike_24) (z_c (ok_iload dX3_mostAlike_27) (z_c (ok_aaload (C := "MissingLamps$State") rfl dX3_mostAlike_29) (z_c (ok_getf (C := RX8) (T := TX8) (N := 6) rfl (by decide) zinX8 rfl zw_175 dX3_mostAlike_30) (z_c (ok_iload_n dX3_mostAlike_33 rfl) (z_c (ok_iaload rfl dX3_mostAlike_34) (z_c (ok_aload_n dX3_mostAlike_35 rfl) (z_c (ok_getf (C := RX3) (T := TX3) (N := 13) rfl (by decide) zinX3 rfl zw_127 dX3_mostAlike_36) (z_c (ok_iload dX3_mostAlike_39) z_n))))))))))))
noncomputable def tX3_mostAlike_2 : List (Nat × zF) := [(41, (zaq 3)), (42, (zgf 8 3)), (45, (zli4 1 1)), (46, (zal 0)), (47, (z_ic_ne 53)), (50, (zin4 7 5 (1))), (53, (zin4 7 6 (1))), (56, (zgt 17)), (59, (zli4 3 1)), (60, (zli4 5 2)), (62, zmmax), (65, (zsi4 7 3 1))]
theorem kX3_mostAlike_2 : ∀ q ∈ tX3_mostAlike_2, zOk zg iX3_mostAlike q.1 q.2 := (z_c (ok_aaload (C := "MissingLamps$State") rfl dX3_mostAlike_41) (z_c (ok_getf (C := RX8) (T := TX8) (N := 6) rfl (by decide) zinX8 rfl zw_175 dX3_mostAlike_42) (z_c (ok_iload_n dX3_mostAlike_45 rfl) (z_c (ok_iaload rfl dX3_mostAlike_46) (z_c (ok_icmp_ne dX3_mostAlike_47 (by decide)) (z_c (ok_iinc (v := (1)) dX3_mostAlike_50 (by decide)) (z_c (ok_iinc (v := (1)) dX3_mostAlike_53 (by decide)) (z_c (ok_goto dX3_mostAlike_56 (by decide)) (z_c (ok_iload_n dX3_mostAlike_59 rfl) (z_c (ok_iload dX3_mostAlike_60) (z_c (ok_mmax zw_180 zw_52 zw_49 zw_53 dX3_mostAlike_62) (z_c (ok_istore_n dX3_mostAlike_65 rfl) z_n))))))))))))
noncomputable def tX3_mostAlike_3 : List (Nat × zF) := [(66, (zin4 7 4 (1))), (69, (zgt 5)), (72, (zli4 3 1)), (73, (zri false))]
theorem kX3_mostAlike_3 : ∀ q ∈ tX3_mostAlike_3, zOk zg iX3_mostAlike q.1 q.2 := (z_c (ok_iinc (v := (1)) dX3_mostAlike_66 (by decide)) (z_c (ok_goto dX3_mostAlike_69 (by decide)) (z_c (ok_iload_n dX3_mostAlike_72 rfl) (z_c (ok_ireturn rfl dX3_mostAlike_73) z_n))))
noncomputable def tX3_mostAlike : zT := [(19, tX3_mostAlike_0), (41, tX3_mostAlike_1), (66, tX3_mostAlike_2), (100000, tX3_mostAlike_3)]
theorem kX3_mostAlike : zTok zg iX3_mostAlike tX3_mostAlike := (z_t kX3_mostAlike_0 (z_t kX3_mostAlike_1 (z_t kX3_mostAlike_2 (z_t kX3_mostAlike_3 z_tn))))
theorem dX4_init_0 : decode cX4_init 0 = .ok (.aload_n 0, 1) := by decide +kernel
theorem dX4_init_1 : decode cX4_init 1 = .ok (.invokespecial 3, 3) := by decide +kernel
theorem dX4_init_4 : decode cX4_init 4 = .ok (.aload_n 0, 1) := by decide +kernel
theorem dX4_init_5 : decode cX4_init 5 = .ok (.bipush 9, 2) := by decide +kernel
theorem dX4_init_7 : decode cX4_init 7 = .ok (.newarray .int, 2) := by decide +kernel
theorem dX4_init_9 : decode cX4_init 9 = .ok (.putfield 9, 3) := by decide +kernel
theorem dX4_init_12 : decode cX4_init 12 = .ok (.aload_n 0, 1) := by decide +kernel
theorem dX4_init_13 : decode cX4_init 13 = .ok (.bipush 9, 2) := by decide +kernel
theorem dX4_init_15 : decode cX4_init 15 = .ok (.newarray .int, 2) := by decide +kernel
theorem dX4_init_17 : decode cX4_init 17 = .ok (.putfield 15, 3) := by decide +kernel
theorem dX4_init_20 : decode cX4_init 20 = .ok (.aload_n 0, 1) := by decide +kernel
theorem dX4_init_21 : decode cX4_init 21 = .ok (.bipush 9, 2) := by decide +kernel
theorem dX4_init_23 : decode cX4_init 23 = .ok (.newarray .int, 2) := by decide +kernel
theorem dX4_init_25 : decode cX4_init 25 = .ok (.putfield 18, 3) := by decide +kernel
theorem dX4_init_28 : decode cX4_init 28 = .ok (.aload_n 0, 1) := by decide +kernel
theorem dX4_init_29 : decode cX4_init 29 = .ok (.bipush 9, 2) := by decide +kernel
theorem dX4_init_31 : decode cX4_init 31 = .ok (.newarray .int, 2) := by decide +kernel
theorem dX4_init_33 : decode cX4_init 33 = .ok (.putfield 21, 3) := by decide +kernel
theorem dX4_init_36 : decode cX4_init 36 = .ok (.aload_n 0, 1) := by decide +kernel
theorem dX4_init_37 : decode cX4_init 37 = .ok (.bipush 6, 2) := by decide +kernel
theorem dX4_init_39 : decode cX4_init 39 = .ok (.newarray .int, 2) := by decide +kernel
theorem dX4_init_41 : decode cX4_init 41 = .ok (.putfield 24, 3) := by decide +kernel
theorem dX4_init_44 : decode cX4_init 44 = .ok (.aload_n 0, 1) := by decide +kernel
theorem dX4_init_45 : decode cX4_init 45 = .ok (.bipush 6, 2) := by decide +kernel
theorem dX4_init_47 : decode cX4_init 47 = .ok (.newarray .int, 2) := by decide +kernel
theorem dX4_init_49 : decode cX4_init 49 = .ok (.putfield 27, 3) := by decide +kernel
theorem dX4_init_52 : decode cX4_init 52 = .ok (.aload_n 0, 1) := by decide +kernel
theorem dX4_init_53 : decode cX4_init 53 = .ok (.bipush 6, 2) := by decide +kernel
theorem dX4_init_55 : decode cX4_init 55 = .ok (.newarray .int, 2) := by decide +kernel
theorem dX4_init_57 : decode cX4_init 57 = .ok (.putfield 30, 3) := by decide +kernel
theorem dX4_init_60 : decode cX4_init 60 = .ok (.aload_n 0, 1) := by decide +kernel
theorem dX4_init_61 : decode cX4_init 61 = .ok (.new 33, 3) := by decide +kernel
theorem dX4_init_64 : decode cX4_init 64 = .ok (.dup, 1) := by decide +kernel
theorem dX4_init_65 : decode cX4_init 65 = .ok (.invokespecial 35, 3) := by decide +kernel
theorem dX4_init_68 : decode cX4_init 68 = .ok (.putfield 36, 3) := by decide +kernel
theorem dX4_init_71 : decode cX4_init 71 = .ok (.return_, 1) := by decide +kernel
noncomputable def tX4_init_0 : List (Nat × zF) := [(0, (zla4 0 1)), (1, zoi), (4, (zla4 0 1)), (5, (zst 2 (zp (.int (9))))), (7, (zna 0 4 zn_int 2)), (9, (zpf 4 8 (.array .int))), (12, (zla4 0 1)), (13, (zst 2 (zp (.int (9))))), (15, (zna 0 4 zn_int 2)), (17, (zpf 4 9 (.array .int))), (20, (zla4 0 1)), (21, (zst 2 (zp (.int (9)))))]
theorem kX4_init_0 : ∀ q ∈ tX4_init_0, zOk zg iX4_init q.1 q.2 := (z_c (ok_aload_n dX4_init_0 rfl) (z_c (ok_objInit zw_208 zw_1 zw_2 dX4_init_1) (z_c (ok_aload_n dX4_init_4 rfl) (z_c (ok_bipush (v := (9)) dX4_init_5 (by decide)) (z_c (ok_newa (ty := .int) rfl rfl (fun _ h => by cases h) zw_96 rfl zn_int_c zn_int_n dX4_init_7) (z_c (ok_putf (C := RX4) (T := TX4) (N := 18) true tyX4 tyX4_ok nmX4 rfl (by decide) zinX4 rfl zw_209 rfl (fun _ => ⟨rfl, rfl⟩) rfl dX4_init_9) (z_c (ok_aload_n dX4_init_12 rfl) (z_c (ok_bipush (v := (9)) dX4_init_13 (by decide)) (z_c (ok_newa (ty := .int) rfl rfl (fun _ h => by cases h) zw_96 rfl zn_int_c zn_int_n dX4_init_15) (z_c (ok_putf (C := RX4) (T := TX4) (N := 18) true tyX4 tyX4_ok nmX4 rfl (by decide) zinX4 rfl zw_210 rfl (fun _ => ⟨rfl, rfl⟩) rfl dX4_init_17) (z_c (ok_aload_n dX4_init_20 rfl) (z_c (ok_bipush (v := (9)) dX4_init_21 (by decide)) z_n))))))))))))
noncomputable def tX4_init_1 : List (Nat × zF) := [(23, (zna 0 4 zn_int 2)), (25, (zpf 4 10 (.array .int))), (28, (zla4 0 1)), (29, (zst 2 (zp (.int (9))))), (31, (zna 0 4 zn_int 2)), (33, (zpf 4 11 (.array .int))), (36, (zla4 0 1)), (37, (zst 2 (zp (.int (6))))), (39, (zna 0 4 zn_int 2)), (41, (zpf 4 14 (.array .int))), (44, (zla4 0 1)), (45, (zst 2 (zp (.int (6)))))]
theorem kX4_init_1 : ∀ q ∈ tX4_init_1, zOk zg iX4_init q.1 q.2 := (z_c (ok_newa (ty := .int) rfl rfl (fun _ h => by cases h) zw_96 rfl zn_int_c zn_int_n dX4_init_23) (z_c (ok_putf (C := RX4) (T := TX4) (N := 18) true tyX4 tyX4_ok nmX4 rfl (by decide) zinX4 rfl zw_211 rfl (fun _ => ⟨rfl, rfl⟩) rfl dX4_init_25) (z_c (ok_aload_n dX4_init_28 rfl) (z_c (ok_bipush (v := (9)) dX4_init_29 (by decide)) (z_c (ok_newa (ty := .int) rfl rfl (fun _ h => by cases h) zw_96 rfl zn_int_c zn_int_n dX4_init_31) (z_c (ok_putf (C := RX4) (T := TX4) (N := 18) true tyX4 tyX4_ok nmX4 rfl (by decide) zinX4 rfl zw_212 rfl (fun _ => ⟨rfl, rfl⟩) rfl dX4_init_33) (z_c (ok_aload_n dX4_init_36 rfl) (z_c (ok_bipush (v := (6)) dX4_init_37 (by decide)) (z_c (ok_newa (ty := .int) rfl rfl (fun _ h => by cases h) zw_96 rfl zn_int_c zn_int_n dX4_init_39) (z_c (ok_putf (C := RX4) (T := TX4) (N := 18) true tyX4 tyX4_ok nmX4 rfl (by decide) zinX4 rfl zw_213 rfl (fun _ => ⟨rfl, rfl⟩) rfl dX4_init_41) (z_c (ok_aload_n dX4_init_44 rfl) (z_c (ok_bipush (v := (6)) dX4_init_45 (by decide)) z_n))))))))))))
noncomputable def tX4_init_2 : List (Nat × zF) := [(47, (zna 0 4 zn_int 2)), (49, (zpf 4 15 (.array .int))), (52, (zla4 0 1)), (53, (zst 2 (zp (.int (6))))), (55, (zna 0 4 zn_int 2)), (57, (zpf 4 16 (.array .int))), (60, (zla4 0 1)), (61, (znw 7 zdfX7)), (64, (zst 1 zdu)), (65, (zci 73 0)), (68, (zpf 4 17 (.object "MissingLamps$Rules"))), (71, zrv)]
theorem kX4_init_2 : ∀ q ∈ tX4_init_2, zOk zg iX4_init q.1 q.2 := (z_c (ok_newa (ty := .int) rfl rfl (fun _ h => by cases h) zw_96 rfl zn_int_c zn_int_n dX4_init_47) (z_c (ok_putf (C := RX4) (T := TX4) (N := 18) true tyX4 tyX4_ok nmX4 rfl (by decide) zinX4 rfl zw_214 rfl (fun _ => ⟨rfl, rfl⟩) rfl dX4_init_49) (z_c (ok_aload_n dX4_init_52 rfl) (z_c (ok_bipush (v := (6)) dX4_init_53 (by decide)) (z_c (ok_newa (ty := .int) rfl rfl (fun _ h => by cases h) zw_96 rfl zn_int_c zn_int_n dX4_init_55) (z_c (ok_putf (C := RX4) (T := TX4) (N := 18) true tyX4 tyX4_ok nmX4 rfl (by decide) zinX4 rfl zw_215 rfl (fun _ => ⟨rfl, rfl⟩) rfl dX4_init_57) (z_c (ok_aload_n dX4_init_60 rfl) (z_c (ok_new (C := RX7) (T := TX7) (N := 4) tyX7 tyX7_ok rfl zinX7 zw_216 zw_217 zw_218 rfl (fun _ _ => rfl) zdfX7_ok dX4_init_61) (z_c (ok_dup dX4_init_64) (z_c (ok_callIN zcal_73 rfl rfl zx_nest_9 zw_219 dX4_init_65) (z_c (ok_putf (C := RX4) (T := TX4) (N := 18) true tyX4 tyX4_ok nmX4 rfl (by decide) zinX4 rfl zw_220 rfl (fun _ => ⟨rfl, rfl⟩) rfl dX4_init_68) (z_c (ok_return rfl dX4_init_71) z_n))))))))))))
noncomputable def tX4_init : zT := [(23, tX4_init_0), (47, tX4_init_1), (100000, tX4_init_2)]
theorem kX4_init : zTok zg iX4_init tX4_init := (z_t kX4_init_0 (z_t kX4_init_1 (z_t kX4_init_2 z_tn)))
theorem dX4_clear_0 : decode cX4_clear 0 = .ok (.aload_n 0, 1) := by decide +kernel
theorem dX4_clear_1 : decode cX4_clear 1 = .ok (.iconst 0, 1) := by decide +kernel
theorem dX4_clear_2 : decode cX4_clear 2 = .ok (.putfield 40, 3) := by decide +kernel
theorem dX4_clear_5 : decode cX4_clear 5 = .ok (.aload_n 0, 1) := by decide +kernel
theorem dX4_clear_6 : decode cX4_clear 6 = .ok (.iconst 0, 1) := by decide +kernel
theorem dX4_clear_7 : decode cX4_clear 7 = .ok (.putfield 44, 3) := by decide +kernel
theorem dX4_clear_10 : decode cX4_clear 10 = .ok (.aload_n 0, 1) := by decide +kernel
theorem dX4_clear_11 : decode cX4_clear 11 = .ok (.iconst 0, 1) := by decide +kernel
theorem dX4_clear_12 : decode cX4_clear 12 = .ok (.putfield 47, 3) := by decide +kernel
theorem dX4_clear_15 : decode cX4_clear 15 = .ok (.aload_n 0, 1) := by decide +kernel
theorem dX4_clear_16 : decode cX4_clear 16 = .ok (.iconst 3, 1) := by decide +kernel
theorem dX4_clear_17 : decode cX4_clear 17 = .ok (.putfield 50, 3) := by decide +kernel
theorem dX4_clear_20 : decode cX4_clear 20 = .ok (.aload_n 0, 1) := by decide +kernel
theorem dX4_clear_21 : decode cX4_clear 21 = .ok (.iconst 0, 1) := by decide +kernel
theorem dX4_clear_22 : decode cX4_clear 22 = .ok (.putfield 53, 3) := by decide +kernel
theorem dX4_clear_25 : decode cX4_clear 25 = .ok (.aload_n 0, 1) := by decide +kernel
theorem dX4_clear_26 : decode cX4_clear 26 = .ok (.lconst 0, 1) := by decide +kernel
theorem dX4_clear_27 : decode cX4_clear 27 = .ok (.putfield 56, 3) := by decide +kernel
theorem dX4_clear_30 : decode cX4_clear 30 = .ok (.aload_n 0, 1) := by decide +kernel
theorem dX4_clear_31 : decode cX4_clear 31 = .ok (.lconst 0, 1) := by decide +kernel
theorem dX4_clear_32 : decode cX4_clear 32 = .ok (.putfield 60, 3) := by decide +kernel
theorem dX4_clear_35 : decode cX4_clear 35 = .ok (.aload_n 0, 1) := by decide +kernel
theorem dX4_clear_36 : decode cX4_clear 36 = .ok (.iconst 0, 1) := by decide +kernel
theorem dX4_clear_37 : decode cX4_clear 37 = .ok (.putfield 63, 3) := by decide +kernel
theorem dX4_clear_40 : decode cX4_clear 40 = .ok (.aload_n 0, 1) := by decide +kernel
theorem dX4_clear_41 : decode cX4_clear 41 = .ok (.iconst 0, 1) := by decide +kernel
theorem dX4_clear_42 : decode cX4_clear 42 = .ok (.putfield 66, 3) := by decide +kernel
theorem dX4_clear_45 : decode cX4_clear 45 = .ok (.aload_n 0, 1) := by decide +kernel
theorem dX4_clear_46 : decode cX4_clear 46 = .ok (.iconst 0, 1) := by decide +kernel
theorem dX4_clear_47 : decode cX4_clear 47 = .ok (.putfield 69, 3) := by decide +kernel
theorem dX4_clear_50 : decode cX4_clear 50 = .ok (.aload_n 0, 1) := by decide +kernel
theorem dX4_clear_51 : decode cX4_clear 51 = .ok (.getfield 36, 3) := by decide +kernel
theorem dX4_clear_54 : decode cX4_clear 54 = .ok (.invokevirtual 72, 3) := by decide +kernel
theorem dX4_clear_57 : decode cX4_clear 57 = .ok (.return_, 1) := by decide +kernel
noncomputable def tX4_clear_0 : List (Nat × zF) := [(0, (zla4 0 1)), (1, (zst 1 (zp (.int (0))))), (2, (zpf 4 0 (.int))), (5, (zla4 0 1)), (6, (zst 1 (zp (.int (0))))), (7, (zpf 4 1 (.int))), (10, (zla4 0 1)), (11, (zst 1 (zp (.int (0))))), (12, (zpf 4 2 (.int))), (15, (zla4 0 1)), (16, (zst 1 (zp (.int (3))))), (17, (zpf 4 3 (.int)))]
theorem kX4_clear_0 : ∀ q ∈ tX4_clear_0, zOk zg iX4_clear q.1 q.2 := (z_c (ok_aload_n dX4_clear_0 rfl) (z_c (ok_iconst (v := (0)) dX4_clear_1 (by decide)) (z_c (ok_putf (C := RX4) (T := TX4) (N := 18) false tyX4 tyX4_ok nmX4 rfl (by decide) zinX4 rfl zw_221 rfl (fun h => absurd h (by decide)) rfl dX4_clear_2) (z_c (ok_aload_n dX4_clear_5 rfl) (z_c (ok_iconst (v := (0)) dX4_clear_6 (by decide)) (z_c (ok_putf (C := RX4) (T := TX4) (N := 18) false tyX4 tyX4_ok nmX4 rfl (by decide) zinX4 rfl zw_222 rfl (fun h => absurd h (by decide)) rfl dX4_clear_7) (z_c (ok_aload_n dX4_clear_10 rfl) (z_c (ok_iconst (v := (0)) dX4_clear_11 (by decide)) (z_c (ok_putf (C := RX4) (T := TX4) (N := 18) false tyX4 tyX4_ok nmX4 rfl (by decide) zinX4 rfl zw_223 rfl (fun h => absurd h (by decide)) rfl dX4_clear_12) (z_c (ok_aload_n dX4_clear_15 rfl) (z_c (ok_iconst (v := (3)) dX4_clear_16 (by decide)) (z_c (ok_putf (C := RX4) (T := TX4) (N := 18) false tyX4 tyX4_ok nmX4 rfl (by decide) zinX4 rfl zw_224 rfl (fun h => absurd h (by decide)) rfl dX4_clear_17) z_n))))))))))))
noncomputable def tX4_clear_1 : List (Nat × zF) := [(20, (zla4 0 1)), (21, (zst 1 (zp (.int (0))))), (22, (zpf 4 4 (.int))), (25, (zla4 0 1)), (26, (zst 1 (zp (.long (0))))), (27, (zpf 4 5 (.long))), (30, (zla4 0 1)), (31, (zst 1 (zp (.long (0))))), (32, (zpf 4 6 (.long))), (35, (zla4 0 1)), (36, (zst 1 (zp (.int (0))))), (37, (zpf 4 7 (.int)))]
theorem kX4_clear_1 : ∀ q ∈ tX4_clear_1, zOk zg iX4_clear q.1 q.2 := (z_c (ok_aload_n dX4_clear_20 rfl) (z_c (ok_iconst (v := (0)) dX4_clear_21 (by decide)) (z_c (ok_putf (C := RX4) (T := TX4) (N := 18) false tyX4 tyX4_ok nmX4 rfl (by decide) zinX4 rfl zw_225 rfl (fun h => absurd h (by decide)) rfl dX4_clear_22) (z_c (ok_aload_n dX4_clear_25 rfl) (z_c (ok_lconst (v := (0)) dX4_clear_26 (by decide)) (z_c (ok_putf (C := RX4) (T := TX4) (N := 18) false tyX4 tyX4_ok nmX4 rfl (by decide) zinX4 rfl zw_226 rfl (fun h => absurd h (by decide)) rfl dX4_clear_27) (z_c (ok_aload_n dX4_clear_30 rfl) (z_c (ok_lconst (v := (0)) dX4_clear_31 (by decide)) (z_c (ok_putf (C := RX4) (T := TX4) (N := 18) false tyX4 tyX4_ok nmX4 rfl (by decide) zinX4 rfl zw_227 rfl (fun h => absurd h (by decide)) rfl dX4_clear_32) (z_c (ok_aload_n dX4_clear_35 rfl) (z_c (ok_iconst (v := (0)) dX4_clear_36 (by decide)) (z_c (ok_putf (C := RX4) (T := TX4) (N := 18) false tyX4 tyX4_ok nmX4 rfl (by decide) zinX4 rfl zw_228 rfl (fun h => absurd h (by decide)) rfl dX4_clear_37) z_n))))))))))))
noncomputable def tX4_clear_2 : List (Nat × zF) := [(40, (zla4 0 1)), (41, (zst 1 (zp (.int (0))))), (42, (zpf 4 12 (.int))), (45, (zla4 0 1)), (46, (zst 1 (zp (.int (0))))), (47, (zpf 4 13 (.int))), (50, (zla4 0 1)), (51, (zgf 4 17)), (54, (zcv 74 0 7)), (57, zrv)]
theorem kX4_clear_2 : ∀ q ∈ tX4_clear_2, zOk zg iX4_clear q.1 q.2 := (z_c (ok_aload_n dX4_clear_40 rfl) (z_c (ok_iconst (v := (0)) dX4_clear_41 (by decide)) (z_c (ok_putf (C := RX4) (T := TX4) (N := 18) false tyX4 tyX4_ok nmX4 rfl (by decide) zinX4 rfl zw_229 rfl (fun h => absurd h (by decide)) rfl dX4_clear_42) (z_c (ok_aload_n dX4_clear_45 rfl) (z_c (ok_iconst (v := (0)) dX4_clear_46 (by decide)) (z_c (ok_putf (C := RX4) (T := TX4) (N := 18) false tyX4 tyX4_ok nmX4 rfl (by decide) zinX4 rfl zw_230 rfl (fun h => absurd h (by decide)) rfl dX4_clear_47) (z_c (ok_aload_n dX4_clear_50 rfl) (z_c (ok_getf (C := RX4) (T := TX4) (N := 18) rfl (by decide) zinX4 rfl zw_220 dX4_clear_51) (z_c (ok_callV zcal_74 (q := (RX7, TX7, 4)) rfl zw_231 zw_232 zw_233 dX4_clear_54) (z_c (ok_return rfl dX4_clear_57) z_n))))))))))
noncomputable def tX4_clear : zT := [(20, tX4_clear_0), (40, tX4_clear_1), (100000, tX4_clear_2)]
theorem kX4_clear : zTok zg iX4_clear tX4_clear := (z_t kX4_clear_0 (z_t kX4_clear_1 (z_t kX4_clear_2 z_tn)))
theorem dX4_setFirst_0 : decode cX4_setFirst 0 = .ok (.aload_n 1, 1) := by decide +kernel
theorem dX4_setFirst_1 : decode cX4_setFirst 1 = .ok (.iconst 0, 1) := by decide +kernel
theorem dX4_setFirst_2 : decode cX4_setFirst 2 = .ok (.putfield 75, 3) := by decide +kernel
theorem dX4_setFirst_5 : decode cX4_setFirst 5 = .ok (.aload_n 1, 1) := by decide +kernel
theorem dX4_setFirst_6 : decode cX4_setFirst 6 = .ok (.aload_n 0, 1) := by decide +kernel
theorem dX4_setFirst_7 : decode cX4_setFirst 7 = .ok (.getfield 66, 3) := by decide +kernel
theorem dX4_setFirst_10 : decode cX4_setFirst 10 = .ok (.putfield 80, 3) := by decide +kernel
theorem dX4_setFirst_13 : decode cX4_setFirst 13 = .ok (.iconst 0, 1) := by decide +kernel
theorem dX4_setFirst_14 : decode cX4_setFirst 14 = .ok (.istore_n 2, 1) := by decide +kernel
theorem dX4_setFirst_15 : decode cX4_setFirst 15 = .ok (.iload_n 2, 1) := by decide +kernel
theorem dX4_setFirst_16 : decode cX4_setFirst 16 = .ok (.bipush 9, 2) := by decide +kernel
theorem dX4_setFirst_18 : decode cX4_setFirst 18 = .ok (.if_icmp .ge 16, 3) := by decide +kernel
theorem dX4_setFirst_21 : decode cX4_setFirst 21 = .ok (.aload_n 1, 1) := by decide +kernel
theorem dX4_setFirst_22 : decode cX4_setFirst 22 = .ok (.getfield 83, 3) := by decide +kernel
theorem dX4_setFirst_25 : decode cX4_setFirst 25 = .ok (.iload_n 2, 1) := by decide +kernel
theorem dX4_setFirst_26 : decode cX4_setFirst 26 = .ok (.iconst 0, 1) := by decide +kernel
theorem dX4_setFirst_27 : decode cX4_setFirst 27 = .ok (.iastore, 1) := by decide +kernel
theorem dX4_setFirst_28 : decode cX4_setFirst 28 = .ok (.iinc 2 1, 3) := by decide +kernel
theorem dX4_setFirst_31 : decode cX4_setFirst 31 = .ok (.goto (-16), 3) := by decide +kernel
theorem dX4_setFirst_34 : decode cX4_setFirst 34 = .ok (.aload_n 0, 1) := by decide +kernel
theorem dX4_setFirst_35 : decode cX4_setFirst 35 = .ok (.getfield 27, 3) := by decide +kernel
theorem dX4_setFirst_38 : decode cX4_setFirst 38 = .ok (.iconst 0, 1) := by decide +kernel
theorem dX4_setFirst_39 : decode cX4_setFirst 39 = .ok (.aload_n 1, 1) := by decide +kernel
theorem dX4_setFirst_40 : decode cX4_setFirst 40 = .ok (.getfield 86, 3) := by decide +kernel
theorem dX4_setFirst_43 : decode cX4_setFirst 43 = .ok (.iconst 0, 1) := by decide +kernel
theorem dX4_setFirst_44 : decode cX4_setFirst 44 = .ok (.bipush 6, 2) := by decide +kernel
theorem dX4_setFirst_46 : decode cX4_setFirst 46 = .ok (.invokestatic 89, 3) := by decide +kernel
theorem dX4_setFirst_49 : decode cX4_setFirst 49 = .ok (.return_, 1) := by decide +kernel
noncomputable def tX4_setFirst_0 : List (Nat × zF) := [(0, (zla4 1 1)), (1, (zst 1 (zp (.int (0))))), (2, (zpf 8 0 (.int))), (5, (zla4 1 1)), (6, (zla4 0 1)), (7, (zgf 4 12)), (10, (zpf 8 1 (.int))), (13, (zst 1 (zp (.int (0))))), (14, (zsi4 3 2 1)), (15, (zli4 2 1)), (16, (zst 2 (zp (.int (9))))), (18, (z_ic_ge 34))]
theorem kX4_setFirst_0 : ∀ q ∈ tX4_setFirst_0, zOk zg iX4_setFirst q.1 q.2 := (z_c (ok_aload_n dX4_setFirst_0 rfl) (z_c (ok_iconst (v := (0)) dX4_setFirst_1 (by decide)) (z_c (ok_putf (C := RX8) (T := TX8) (N := 6) false tyX8 tyX8_ok nmX8 rfl (by decide) zinX8 rfl zw_234 rfl (fun h => absurd h (by decide)) rfl dX4_setFirst_2) (z_c (ok_aload_n dX4_setFirst_5 rfl) (z_c (ok_aload_n dX4_setFirst_6 rfl) (z_c (ok_getf (C := RX4) (T := TX4) (N := 18) rfl (by decide) zinX4 rfl zw_229 dX4_setFirst_7) (z_c (ok_putf (C := RX8) (T := TX8) (N := 6) false tyX8 tyX8_ok nmX8 rfl (by decide) zinX8 rfl zw_235 rfl (fun h => absurd h (by decide)) rfl dX4_setFirst_10) (z_c (ok_iconst (v := (0)) dX4_setFirst_13 (by decide)) (z_c (ok_istore_n dX4_setFirst_14 rfl) (z_c (ok_iload_n dX4_setFirst_15 rfl) (z_c (ok_bipush (v := (9)) dX4_setFirst_16 (by decide)) (z_c (ok_icmp_ge dX4_setFirst_18 (by decide)) z_n))))))))))))
noncomputable def tX4_setFirst_1 : List (Nat × zF) := [(21, (zla4 1 1)), (22, (zgf 8 2)), (25, (zli4 2 1)), (26, (zst 1 (zp (.int (0))))), (27, (zas 0)), (28, (zin4 3 2 (1))), (31, (zgt 15)), (34, (zla4 0 1)), (35, (zgf 4 15)), (38, (zst 1 (zp (.int (0))))), (39, (zla4 1 1)), (40, (zgf 8 3))]
theorem kX4_setFirst_1 : ∀ q ∈ tX4_setFirst_1, zOk zg iX4_setFirst q.1 q.2 := (z_c (ok_aload_n dX4_setFirst_21 rfl) (z_c (ok_getf (C := RX8) (T := TX8) (N := 6) rfl (by decide) zinX8 rfl zw_236 dX4_setFirst_22) (z_c (ok_iload_n dX4_setFirst_25 rfl) (z_c (ok_iconst (v := (0)) dX4_setFirst_26 (by decide)) (z_c (ok_iastore rfl dX4_setFirst_27) (z_c (ok_iinc (v := (1)) dX4_setFirst_28 (by decide)) (z_c (ok_goto dX4_setFirst_31 (by decide)) (z_c (ok_aload_n dX4_setFirst_34 rfl) (z_c (ok_getf (C := RX4) (T := TX4) (N := 18) rfl (by decide) zinX4 rfl zw_214 dX4_setFirst_35) (z_c (ok_iconst (v := (0)) dX4_setFirst_38 (by decide)) (z_c (ok_aload_n dX4_setFirst_39 rfl) (z_c (ok_getf (C := RX8) (T := TX8) (N := 6) rfl (by decide) zinX8 rfl zw_237 dX4_setFirst_40) z_n))))))))))))
noncomputable def tX4_setFirst_2 : List (Nat × zF) := [(43, (zst 1 (zp (.int (0))))), (44, (zst 2 (zp (.int (6))))), (46, (zcp 0)), (49, zrv)]
theorem kX4_setFirst_2 : ∀ q ∈ tX4_setFirst_2, zOk zg iX4_setFirst q.1 q.2 := (z_c (ok_iconst (v := (0)) dX4_setFirst_43 (by decide)) (z_c (ok_bipush (v := (6)) dX4_setFirst_44 (by decide)) (z_c (ok_copyi rfl zw_238 zw_102 zw_103 zw_104 dX4_setFirst_46) (z_c (ok_return rfl dX4_setFirst_49) z_n))))
noncomputable def tX4_setFirst : zT := [(21, tX4_setFirst_0), (43, tX4_setFirst_1), (100000, tX4_setFirst_2)]
theorem kX4_setFirst : zTok zg iX4_setFirst tX4_setFirst := (z_t kX4_setFirst_0 (z_t kX4_setFirst_1 (z_t kX4_setFirst_2 z_tn)))
theorem dX4_hasCell_0 : decode cX4_hasCell 0 = .ok (.iload_n 1, 1) := by decide +kernel
theorem dX4_hasCell_1 : decode cX4_hasCell 1 = .ok (.ifCond .lt 27, 3) := by decide +kernel
theorem dX4_hasCell_4 : decode cX4_hasCell 4 = .ok (.iload_n 1, 1) := by decide +kernel
theorem dX4_hasCell_5 : decode cX4_hasCell 5 = .ok (.aload_n 0, 1) := by decide +kernel
theorem dX4_hasCell_6 : decode cX4_hasCell 6 = .ok (.getfield 44, 3) := by decide +kernel
theorem dX4_hasCell_9 : decode cX4_hasCell 9 = .ok (.if_icmp .ge 19, 3) := by decide +kernel
theorem dX4_hasCell_12 : decode cX4_hasCell 12 = .ok (.iload_n 2, 1) := by decide +kernel
theorem dX4_hasCell_13 : decode cX4_hasCell 13 = .ok (.ifCond .lt 15, 3) := by decide +kernel
theorem dX4_hasCell_16 : decode cX4_hasCell 16 = .ok (.iload_n 2, 1) := by decide +kernel
theorem dX4_hasCell_17 : decode cX4_hasCell 17 = .ok (.aload_n 0, 1) := by decide +kernel
theorem dX4_hasCell_18 : decode cX4_hasCell 18 = .ok (.getfield 47, 3) := by decide +kernel
theorem dX4_hasCell_21 : decode cX4_hasCell 21 = .ok (.if_icmp .ge 7, 3) := by decide +kernel
theorem dX4_hasCell_24 : decode cX4_hasCell 24 = .ok (.iconst 1, 1) := by decide +kernel
theorem dX4_hasCell_25 : decode cX4_hasCell 25 = .ok (.goto 4, 3) := by decide +kernel
theorem dX4_hasCell_28 : decode cX4_hasCell 28 = .ok (.iconst 0, 1) := by decide +kernel
theorem dX4_hasCell_29 : decode cX4_hasCell 29 = .ok (.ireturn, 1) := by decide +kernel
noncomputable def tX4_hasCell_0 : List (Nat × zF) := [(0, (zli4 1 1)), (1, (z_if_lt 28)), (4, (zli4 1 1)), (5, (zla4 0 1)), (6, (zgf 4 1)), (9, (z_ic_ge 28)), (12, (zli4 2 1)), (13, (z_if_lt 28)), (16, (zli4 2 1)), (17, (zla4 0 1)), (18, (zgf 4 2)), (21, (z_ic_ge 28))]
theorem kX4_hasCell_0 : ∀ q ∈ tX4_hasCell_0, zOk zg iX4_hasCell q.1 q.2 := (z_c (ok_iload_n dX4_hasCell_0 rfl) (z_c (ok_if_lt dX4_hasCell_1 (by decide)) (z_c (ok_iload_n dX4_hasCell_4 rfl) (z_c (ok_aload_n dX4_hasCell_5 rfl) (z_c (ok_getf (C := RX4) (T := TX4) (N := 18) rfl (by decide) zinX4 rfl zw_222 dX4_hasCell_6) (z_c (ok_icmp_ge dX4_hasCell_9 (by decide)) (z_c (ok_iload_n dX4_hasCell_12 rfl) (z_c (ok_if_lt dX4_hasCell_13 (by decide)) (z_c (ok_iload_n dX4_hasCell_16 rfl) (z_c (ok_aload_n dX4_hasCell_17 rfl) (z_c (ok_getf (C := RX4) (T := TX4) (N := 18) rfl (by decide) zinX4 rfl zw_223 dX4_hasCell_18) (z_c (ok_icmp_ge dX4_hasCell_21 (by decide)) z_n))))))))))))
noncomputable def tX4_hasCell_1 : List (Nat × zF) := [(24, (zst 1 (zp (.int (1))))), (25, (zgt 29)), (28, (zst 1 (zp (.int (0))))), (29, (zri true))]
theorem kX4_hasCell_1 : ∀ q ∈ tX4_hasCell_1, zOk zg iX4_hasCell q.1 q.2 := (z_c (ok_iconst (v := (1)) dX4_hasCell_24 (by decide)) (z_c (ok_goto dX4_hasCell_25 (by decide)) (z_c (ok_iconst (v := (0)) dX4_hasCell_28 (by decide)) (z_c (ok_zreturn rfl dX4_hasCell_29) z_n))))
noncomputable def tX4_hasCell : zT := [(24, tX4_hasCell_0), (100000, tX4_hasCell_1)]
theorem kX4_hasCell : zTok zg iX4_hasCell tX4_hasCell := (z_t kX4_hasCell_0 (z_t kX4_hasCell_1 z_tn))
theorem dX4_hasFreeCell_0 : decode cX4_hasFreeCell 0 = .ok (.aload_n 0, 1) := by decide +kernel
theorem dX4_hasFreeCell_1 : decode cX4_hasFreeCell 1 = .ok (.iload_n 1, 1) := by decide +kernel
theorem dX4_hasFreeCell_2 : decode cX4_hasFreeCell 2 = .ok (.iload_n 2, 1) := by decide +kernel
theorem dX4_hasFreeCell_3 : decode cX4_hasFreeCell 3 = .ok (.invokevirtual 95, 3) := by decide +kernel
theorem dX4_hasFreeCell_6 : decode cX4_hasFreeCell 6 = .ok (.ifCond .eq 25, 3) := by decide +kernel
theorem dX4_hasFreeCell_9 : decode cX4_hasFreeCell 9 = .ok (.aload_n 0, 1) := by decide +kernel
theorem dX4_hasFreeCell_10 : decode cX4_hasFreeCell 10 = .ok (.getfield 60, 3) := by decide +kernel
theorem dX4_hasFreeCell_13 : decode cX4_hasFreeCell 13 = .ok (.iload_n 1, 1) := by decide +kernel
theorem dX4_hasFreeCell_14 : decode cX4_hasFreeCell 14 = .ok (.iload_n 2, 1) := by decide +kernel
theorem dX4_hasFreeCell_15 : decode cX4_hasFreeCell 15 = .ok (.invokestatic 99, 3) := by decide +kernel
theorem dX4_hasFreeCell_18 : decode cX4_hasFreeCell 18 = .ok (.invokestatic 103, 3) := by decide +kernel
theorem dX4_hasFreeCell_21 : decode cX4_hasFreeCell 21 = .ok (.land, 1) := by decide +kernel
theorem dX4_hasFreeCell_22 : decode cX4_hasFreeCell 22 = .ok (.lconst 0, 1) := by decide +kernel
theorem dX4_hasFreeCell_23 : decode cX4_hasFreeCell 23 = .ok (.lcmp, 1) := by decide +kernel
theorem dX4_hasFreeCell_24 : decode cX4_hasFreeCell 24 = .ok (.ifCond .ne 7, 3) := by decide +kernel
theorem dX4_hasFreeCell_27 : decode cX4_hasFreeCell 27 = .ok (.iconst 1, 1) := by decide +kernel
theorem dX4_hasFreeCell_28 : decode cX4_hasFreeCell 28 = .ok (.goto 4, 3) := by decide +kernel
theorem dX4_hasFreeCell_31 : decode cX4_hasFreeCell 31 = .ok (.iconst 0, 1) := by decide +kernel
theorem dX4_hasFreeCell_32 : decode cX4_hasFreeCell 32 = .ok (.ireturn, 1) := by decide +kernel
noncomputable def tX4_hasFreeCell_0 : List (Nat × zF) := [(0, (zla4 0 1)), (1, (zli4 1 1)), (2, (zli4 2 1)), (3, (zcv 50 2 4)), (6, (z_if_eq 31)), (9, (zla4 0 1)), (10, (zgf 4 6)), (13, (zli4 1 1)), (14, (zli4 2 1)), (15, (zcs 160 2)), (18, (zcs 163 1)), (21, (zst 1 z_land))]
theorem kX4_hasFreeCell_0 : ∀ q ∈ tX4_hasFreeCell_0, zOk zg iX4_hasFreeCell q.1 q.2 := (z_c (ok_aload_n dX4_hasFreeCell_0 rfl) (z_c (ok_iload_n dX4_hasFreeCell_1 rfl) (z_c (ok_iload_n dX4_hasFreeCell_2 rfl) (z_c (ok_callV zcal_50 (q := (RX4, TX4, 18)) rfl zw_239 zw_187 zw_188 dX4_hasFreeCell_3) (z_c (ok_if_eq dX4_hasFreeCell_6 (by decide)) (z_c (ok_aload_n dX4_hasFreeCell_9 rfl) (z_c (ok_getf (C := RX4) (T := TX4) (N := 18) rfl (by decide) zinX4 rfl zw_227 dX4_hasFreeCell_10) (z_c (ok_iload_n dX4_hasFreeCell_13 rfl) (z_c (ok_iload_n dX4_hasFreeCell_14 rfl) (z_c (ok_callSN zcal_160 zx_nest_10 zw_198 dX4_hasFreeCell_15) (z_c (ok_callSN zcal_163 zx_nest_11 zw_54 dX4_hasFreeCell_18) (z_c (ok_land dX4_hasFreeCell_21) z_n))))))))))))
noncomputable def tX4_hasFreeCell_1 : List (Nat × zF) := [(22, (zst 1 (zp (.long (0))))), (23, (zst 1 zcm)), (24, (z_if_ne 31)), (27, (zst 1 (zp (.int (1))))), (28, (zgt 32)), (31, (zst 1 (zp (.int (0))))), (32, (zri true))]
theorem kX4_hasFreeCell_1 : ∀ q ∈ tX4_hasFreeCell_1, zOk zg iX4_hasFreeCell q.1 q.2 := (z_c (ok_lconst (v := (0)) dX4_hasFreeCell_22 (by decide)) (z_c (ok_lcmp dX4_hasFreeCell_23) (z_c (ok_if_ne dX4_hasFreeCell_24 (by decide)) (z_c (ok_iconst (v := (1)) dX4_hasFreeCell_27 (by decide)) (z_c (ok_goto dX4_hasFreeCell_28 (by decide)) (z_c (ok_iconst (v := (0)) dX4_hasFreeCell_31 (by decide)) (z_c (ok_zreturn rfl dX4_hasFreeCell_32) z_n)))))))
noncomputable def tX4_hasFreeCell : zT := [(22, tX4_hasFreeCell_0), (100000, tX4_hasFreeCell_1)]
theorem kX4_hasFreeCell : zTok zg iX4_hasFreeCell tX4_hasFreeCell := (z_t kX4_hasFreeCell_0 (z_t kX4_hasFreeCell_1 z_tn))
theorem dX4_setSize_0 : decode cX4_setSize 0 = .ok (.aload_n 0, 1) := by decide +kernel
theorem dX4_setSize_1 : decode cX4_setSize 1 = .ok (.iload_n 1, 1) := by decide +kernel
theorem dX4_setSize_2 : decode cX4_setSize 2 = .ok (.putfield 44, 3) := by decide +kernel
theorem dX4_setSize_5 : decode cX4_setSize 5 = .ok (.aload_n 0, 1) := by decide +kernel
theorem dX4_setSize_6 : decode cX4_setSize 6 = .ok (.iload_n 2, 1) := by decide +kernel
theorem dX4_setSize_7 : decode cX4_setSize 7 = .ok (.putfield 47, 3) := by decide +kernel
theorem dX4_setSize_10 : decode cX4_setSize 10 = .ok (.aload_n 0, 1) := by decide +kernel
theorem dX4_setSize_11 : decode cX4_setSize 11 = .ok (.lconst 0, 1) := by decide +kernel
theorem dX4_setSize_12 : decode cX4_setSize 12 = .ok (.putfield 56, 3) := by decide +kernel
theorem dX4_setSize_15 : decode cX4_setSize 15 = .ok (.iconst 0, 1) := by decide +kernel
theorem dX4_setSize_16 : decode cX4_setSize 16 = .ok (.istore_n 3, 1) := by decide +kernel
theorem dX4_setSize_17 : decode cX4_setSize 17 = .ok (.iload_n 3, 1) := by decide +kernel
theorem dX4_setSize_18 : decode cX4_setSize 18 = .ok (.aload_n 0, 1) := by decide +kernel
theorem dX4_setSize_19 : decode cX4_setSize 19 = .ok (.getfield 47, 3) := by decide +kernel
theorem dX4_setSize_22 : decode cX4_setSize 22 = .ok (.if_icmp .ge 31, 3) := by decide +kernel
theorem dX4_setSize_25 : decode cX4_setSize 25 = .ok (.aload_n 0, 1) := by decide +kernel
theorem dX4_setSize_26 : decode cX4_setSize 26 = .ok (.dup, 1) := by decide +kernel
theorem dX4_setSize_27 : decode cX4_setSize 27 = .ok (.getfield 56, 3) := by decide +kernel
theorem dX4_setSize_30 : decode cX4_setSize 30 = .ok (.lconst 1, 1) := by decide +kernel
theorem dX4_setSize_31 : decode cX4_setSize 31 = .ok (.aload_n 0, 1) := by decide +kernel
theorem dX4_setSize_32 : decode cX4_setSize 32 = .ok (.getfield 44, 3) := by decide +kernel
theorem dX4_setSize_35 : decode cX4_setSize 35 = .ok (.lshl, 1) := by decide +kernel
theorem dX4_setSize_36 : decode cX4_setSize 36 = .ok (.lconst 1, 1) := by decide +kernel
theorem dX4_setSize_37 : decode cX4_setSize 37 = .ok (.lsub, 1) := by decide +kernel
theorem dX4_setSize_38 : decode cX4_setSize 38 = .ok (.bipush 8, 2) := by decide +kernel
theorem dX4_setSize_40 : decode cX4_setSize 40 = .ok (.iload_n 3, 1) := by decide +kernel
theorem dX4_setSize_41 : decode cX4_setSize 41 = .ok (.imul, 1) := by decide +kernel
theorem dX4_setSize_42 : decode cX4_setSize 42 = .ok (.lshl, 1) := by decide +kernel
theorem dX4_setSize_43 : decode cX4_setSize 43 = .ok (.lor, 1) := by decide +kernel
theorem dX4_setSize_44 : decode cX4_setSize 44 = .ok (.putfield 56, 3) := by decide +kernel
theorem dX4_setSize_47 : decode cX4_setSize 47 = .ok (.iinc 3 1, 3) := by decide +kernel
theorem dX4_setSize_50 : decode cX4_setSize 50 = .ok (.goto (-33), 3) := by decide +kernel
theorem dX4_setSize_53 : decode cX4_setSize 53 = .ok (.return_, 1) := by decide +kernel
noncomputable def tX4_setSize_0 : List (Nat × zF) := [(0, (zla4 0 1)), (1, (zli4 1 1)), (2, (zpf 4 1 (.int))), (5, (zla4 0 1)), (6, (zli4 2 1)), (7, (zpf 4 2 (.int))), (10, (zla4 0 1)), (11, (zst 1 (zp (.long (0))))), (12, (zpf 4 5 (.long))), (15, (zst 1 (zp (.int (0))))), (16, (zsi4 4 3 1)), (17, (zli4 3 1))]
theorem kX4_setSize_0 : ∀ q ∈ tX4_setSize_0, zOk zg iX4_setSize q.1 q.2 := (z_c (ok_aload_n dX4_setSize_0 rfl) (z_c (ok_iload_n dX4_setSize_1 rfl) (z_c (ok_putf (C := RX4) (T := TX4) (N := 18) false tyX4 tyX4_ok nmX4 rfl (by decide) zinX4 rfl zw_222 rfl (fun h => absurd h (by decide)) rfl dX4_setSize_2) (z_c (ok_aload_n dX4_setSize_5 rfl) (z_c (ok_iload_n dX4_setSize_6 rfl) (z_c (ok_putf (C := RX4) (T := TX4) (N := 18) false tyX4 tyX4_ok nmX4 rfl (by decide) zinX4 rfl zw_223 rfl (fun h => absurd h (by decide)) rfl dX4_setSize_7) (z_c (ok_aload_n dX4_setSize_10 rfl) (z_c (ok_lconst (v := (0)) dX4_setSize_11 (by decide)) (z_c (ok_putf (C := RX4) (T := TX4) (N := 18) false tyX4 tyX4_ok nmX4 rfl (by decide) zinX4 rfl zw_226 rfl (fun h => absurd h (by decide)) rfl dX4_setSize_12) (z_c (ok_iconst (v := (0)) dX4_setSize_15 (by decide)) (z_c (ok_istore_n dX4_setSize_16 rfl) (z_c (ok_iload_n dX4_setSize_17 rfl) z_n))))))))))))
noncomputable def tX4_setSize_1 : List (Nat × zF) := [(18, (zla4 0 1)), (19, (zgf 4 2)), (22, (z_ic_ge 53)), (25, (zla4 0 1)), (26, (zst 1 zdu)), (27, (zgf 4 5)), (30, (zst 1 (zp (.long (1))))), (31, (zla4 0 1)), (32, (zgf 4 1)), (35, (zst 1 z_lshl)), (36, (zst 1 (zp (.long (1))))), (37, (zst 1 z_lsub))]
theorem kX4_setSize_1 : ∀ q ∈ tX4_setSize_1, zOk zg iX4_setSize q.1 q.2 := (z_c (ok_aload_n dX4_setSize_18 rfl) (z_c (ok_getf (C := RX4) (T := TX4) (N := 18) rfl (by decide) zinX4 rfl zw_223 dX4_setSize_19) (z_c (ok_icmp_ge dX4_setSize_22 (by decide)) (z_c (ok_aload_n dX4_setSize_25 rfl) (z_c (ok_dup dX4_setSize_26) (z_c (ok_getf (C := RX4) (T := TX4) (N := 18) rfl (by decide) zinX4 rfl zw_226 dX4_setSize_27) (z_c (ok_lconst (v := (1)) dX4_setSize_30 (by decide)) (z_c (ok_aload_n dX4_setSize_31 rfl) (z_c (ok_getf (C := RX4) (T := TX4) (N := 18) rfl (by decide) zinX4 rfl zw_222 dX4_setSize_32) (z_c (ok_lshl dX4_setSize_35) (z_c (ok_lconst (v := (1)) dX4_setSize_36 (by decide)) (z_c (ok_lsub dX4_setSize_37) z_n))))))))))))
noncomputable def tX4_setSize_2 : List (Nat × zF) := [(38, (zst 2 (zp (.int (8))))), (40, (zli4 3 1)), (41, (zst 1 z_imul)), (42, (zst 1 z_lshl)), (43, (zst 1 z_lor)), (44, (zpf 4 5 (.long))), (47, (zin4 4 3 (1))), (50, (zgt 17)), (53, zrv)]
theorem kX4_setSize_2 : ∀ q ∈ tX4_setSize_2, zOk zg iX4_setSize q.1 q.2 := (z_c (ok_bipush (v := (8)) dX4_setSize_38 (by decide)) (z_c (ok_iload_n dX4_setSize_40 rfl) (z_c (ok_imul dX4_setSize_41) (z_c (ok_lshl dX4_setSize_42) (z_c (ok_lor dX4_setSize_43) (z_c (ok_putf (C := RX4) (T := TX4) (N := 18) false tyX4 tyX4_ok nmX4 rfl (by decide) zinX4 rfl zw_226 rfl (fun h => absurd h (by decide)) rfl dX4_setSize_44) (z_c (ok_iinc (v := (1)) dX4_setSize_47 (by decide)) (z_c (ok_goto dX4_setSize_50 (by decide)) (z_c (ok_return rfl dX4_setSize_53) z_n)))))))))
noncomputable def tX4_setSize : zT := [(18, tX4_setSize_0), (38, tX4_setSize_1), (100000, tX4_setSize_2)]
theorem kX4_setSize : zTok zg iX4_setSize tX4_setSize := (z_t kX4_setSize_0 (z_t kX4_setSize_1 (z_t kX4_setSize_2 z_tn)))
theorem dX4_taken_0 : decode cX4_taken 0 = .ok (.aload_n 0, 1) := by decide +kernel
theorem dX4_taken_1 : decode cX4_taken 1 = .ok (.getfield 60, 3) := by decide +kernel
theorem dX4_taken_4 : decode cX4_taken 4 = .ok (.lstore_n 1, 1) := by decide +kernel
theorem dX4_taken_5 : decode cX4_taken 5 = .ok (.iconst 0, 1) := by decide +kernel
theorem dX4_taken_6 : decode cX4_taken 6 = .ok (.istore_n 3, 1) := by decide +kernel
theorem dX4_taken_7 : decode cX4_taken 7 = .ok (.iload_n 3, 1) := by decide +kernel
theorem dX4_taken_8 : decode cX4_taken 8 = .ok (.aload_n 0, 1) := by decide +kernel
theorem dX4_taken_9 : decode cX4_taken 9 = .ok (.getfield 63, 3) := by decide +kernel
theorem dX4_taken_12 : decode cX4_taken 12 = .ok (.if_icmp .ge 21, 3) := by decide +kernel
theorem dX4_taken_15 : decode cX4_taken 15 = .ok (.lload_n 1, 1) := by decide +kernel
theorem dX4_taken_16 : decode cX4_taken 16 = .ok (.aload_n 0, 1) := by decide +kernel
theorem dX4_taken_17 : decode cX4_taken 17 = .ok (.getfield 15, 3) := by decide +kernel
theorem dX4_taken_20 : decode cX4_taken 20 = .ok (.iload_n 3, 1) := by decide +kernel
theorem dX4_taken_21 : decode cX4_taken 21 = .ok (.iaload, 1) := by decide +kernel
theorem dX4_taken_22 : decode cX4_taken 22 = .ok (.invokestatic 103, 3) := by decide +kernel
theorem dX4_taken_25 : decode cX4_taken 25 = .ok (.lor, 1) := by decide +kernel
theorem dX4_taken_26 : decode cX4_taken 26 = .ok (.lstore_n 1, 1) := by decide +kernel
theorem dX4_taken_27 : decode cX4_taken 27 = .ok (.iinc 3 1, 3) := by decide +kernel
theorem dX4_taken_30 : decode cX4_taken 30 = .ok (.goto (-23), 3) := by decide +kernel
theorem dX4_taken_33 : decode cX4_taken 33 = .ok (.iconst 0, 1) := by decide +kernel
theorem dX4_taken_34 : decode cX4_taken 34 = .ok (.istore_n 3, 1) := by decide +kernel
theorem dX4_taken_35 : decode cX4_taken 35 = .ok (.iload_n 3, 1) := by decide +kernel
theorem dX4_taken_36 : decode cX4_taken 36 = .ok (.aload_n 0, 1) := by decide +kernel
theorem dX4_taken_37 : decode cX4_taken 37 = .ok (.getfield 69, 3) := by decide +kernel
theorem dX4_taken_40 : decode cX4_taken 40 = .ok (.if_icmp .ge 31, 3) := by decide +kernel
theorem dX4_taken_43 : decode cX4_taken 43 = .ok (.lload_n 1, 1) := by decide +kernel
theorem dX4_taken_44 : decode cX4_taken 44 = .ok (.aload_n 0, 1) := by decide +kernel
theorem dX4_taken_45 : decode cX4_taken 45 = .ok (.getfield 27, 3) := by decide +kernel
theorem dX4_taken_48 : decode cX4_taken 48 = .ok (.iload_n 3, 1) := by decide +kernel
theorem dX4_taken_49 : decode cX4_taken 49 = .ok (.iaload, 1) := by decide +kernel
theorem dX4_taken_50 : decode cX4_taken 50 = .ok (.invokestatic 103, 3) := by decide +kernel
theorem dX4_taken_53 : decode cX4_taken 53 = .ok (.aload_n 0, 1) := by decide +kernel
theorem dX4_taken_54 : decode cX4_taken 54 = .ok (.getfield 30, 3) := by decide +kernel
theorem dX4_taken_57 : decode cX4_taken 57 = .ok (.iload_n 3, 1) := by decide +kernel
theorem dX4_taken_58 : decode cX4_taken 58 = .ok (.iaload, 1) := by decide +kernel
theorem dX4_taken_59 : decode cX4_taken 59 = .ok (.invokestatic 103, 3) := by decide +kernel
theorem dX4_taken_62 : decode cX4_taken 62 = .ok (.lor, 1) := by decide +kernel
theorem dX4_taken_63 : decode cX4_taken 63 = .ok (.lor, 1) := by decide +kernel
theorem dX4_taken_64 : decode cX4_taken 64 = .ok (.lstore_n 1, 1) := by decide +kernel
theorem dX4_taken_65 : decode cX4_taken 65 = .ok (.iinc 3 1, 3) := by decide +kernel
theorem dX4_taken_68 : decode cX4_taken 68 = .ok (.goto (-33), 3) := by decide +kernel
theorem dX4_taken_71 : decode cX4_taken 71 = .ok (.lload_n 1, 1) := by decide +kernel
theorem dX4_taken_72 : decode cX4_taken 72 = .ok (.lreturn, 1) := by decide +kernel
noncomputable def tX4_taken_0 : List (Nat × zF) := [(0, (zla4 0 1)), (1, (zgf 4 6)), (4, (zsl4 4 1 1)), (5, (zst 1 (zp (.int (0))))), (6, (zsi4 4 3 1)), (7, (zli4 3 1)), (8, (zla4 0 1)), (9, (zgf 4 7)), (12, (z_ic_ge 33)), (15, (zll4 1 1)), (16, (zla4 0 1)), (17, (zgf 4 9))]
theorem kX4_taken_0 : ∀ q ∈ tX4_taken_0, zOk zg iX4_taken q.1 q.2 := (z_c (ok_aload_n dX4_taken_0 rfl) (z_c (ok_getf (C := RX4) (T := TX4) (N := 18) rfl (by decide) zinX4 rfl zw_227 dX4_taken_1) (z_c (ok_lstore_n dX4_taken_4 rfl) (z_c (ok_iconst (v := (0)) dX4_taken_5 (by decide)) (z_c (ok_istore_n dX4_taken_6 rfl) (z_c (ok_iload_n dX4_taken_7 rfl) (z_c (ok_aload_n dX4_taken_8 rfl) (z_c (ok_getf (C := RX4) (T := TX4) (N := 18) rfl (by decide) zinX4 rfl zw_228 dX4_taken_9) (z_c (ok_icmp_ge dX4_taken_12 (by decide)) (z_c (ok_lload_n dX4_taken_15 rfl) (z_c (ok_aload_n dX4_taken_16 rfl) (z_c (ok_getf (C := RX4) (T := TX4) (N := 18) rfl (by decide) zinX4 rfl zw_210 dX4_taken_17) z_n))))))))))))
noncomputable def tX4_taken_1 : List (Nat × zF) := [(20, (zli4 3 1)), (21, (zal 0)), (22, (zcs 163 1)), (25, (zst 1 z_lor)), (26, (zsl4 4 1 1)), (27, (zin4 4 3 (1))), (30, (zgt 7)), (33, (zst 1 (zp (.int (0))))), (34, (zsi4 4 3 1)), (35, (zli4 3 1)), (36, (zla4 0 1)), (37, (zgf 4 13))]
theorem kX4_taken_1 : ∀ q ∈ tX4_taken_1, zOk zg iX4_taken q.1 q.2 := (z_c (ok_iload_n dX4_taken_20 rfl) (z_c (ok_iaload rfl dX4_taken_21) (z_c (ok_callSN zcal_163 zx_nest_11 zw_54 dX4_taken_22) (z_c (ok_lor dX4_taken_25) (z_c (ok_lstore_n dX4_taken_26 rfl) (z_c (ok_iinc (v := (1)) dX4_taken_27 (by decide)) (z_c (ok_goto dX4_taken_30 (by decide)) (z_c (ok_iconst (v := (0)) dX4_taken_33 (by decide)) (z_c (ok_istore_n dX4_taken_34 rfl) (z_c (ok_iload_n dX4_taken_35 rfl) (z_c (ok_aload_n dX4_taken_36 rfl) (z_c (ok_getf (C := RX4) (T := TX4) (N := 18) rfl (by decide) zinX4 rfl zw_230 dX4_taken_37) z_n))))))))))))
noncomputable def tX4_taken_2 : List (Nat × zF) := [(40, (z_ic_ge 71)), (43, (zll4 1 1)), (44, (zla4 0 1)), (45, (zgf 4 15)), (48, (zli4 3 1)), (49, (zal 0)), (50, (zcs 163 1)), (53, (zla4 0 1)), (54, (zgf 4 16)), (57, (zli4 3 1)), (58, (zal 0)), (59, (zcs 163 1))]
theorem kX4_taken_2 : ∀ q ∈ tX4_taken_2, zOk zg iX4_taken q.1 q.2 := (z_c (ok_icmp_ge dX4_taken_40 (by decide)) (z_c (ok_lload_n dX4_taken_43 rfl) (z_c (ok_aload_n dX4_taken_44 rfl) (z_c (ok_getf (C := RX4) (T := TX4) (N := 18) rfl (by decide) zinX4 rfl zw_214 dX4_taken_45) (z_c (ok_iload_n dX4_taken_48 rfl) (z_c (ok_iaload rfl dX4_taken_49) (z_c (ok_callSN zcal_163 zx_nest_11 zw_54 dX4_taken_50) (z_c (ok_aload_n dX4_taken_53 rfl) (z_c (ok_getf (C := RX4) (T := TX4) (N := 18) rfl (by decide) zinX4 rfl zw_215 dX4_taken_54) (z_c (ok_iload_n dX4_taken_57 rfl) (z_c (ok_iaload rfl dX4_taken_58) (z_c (ok_callSN zcal_163 zx_nest_11 zw_54 dX4_taken_59) z_n))))))))))))
noncomputable def tX4_taken_3 : List (Nat × zF) := [(62, (zst 1 z_lor)), (63, (zst 1 z_lor)), (64, (zsl4 4 1 1)), (65, (zin4 4 3 (1))), (68, (zgt 35)), (71, (zll4 1 1)), (72, zrl)]
theorem kX4_taken_3 : ∀ q ∈ tX4_taken_3, zOk zg iX4_taken q.1 q.2 := (z_c (ok_lor dX4_taken_62) (z_c (ok_lor dX4_taken_63) (z_c (ok_lstore_n dX4_taken_64 rfl) (z_c (ok_iinc (v := (1)) dX4_taken_65 (by decide)) (z_c (ok_goto dX4_taken_68 (by decide)) (z_c (ok_lload_n dX4_taken_71 rfl) (z_c (ok_lreturn rfl dX4_taken_72) z_n)))))))
noncomputable def tX4_taken : zT := [(20, tX4_taken_0), (40, tX4_taken_1), (62, tX4_taken_2), (100000, tX4_taken_3)]
theorem kX4_taken : zTok zg iX4_taken tX4_taken := (z_t kX4_taken_0 (z_t kX4_taken_1 (z_t kX4_taken_2 (z_t kX4_taken_3 z_tn))))
theorem dX4_thingNamed_0 : decode cX4_thingNamed 0 = .ok (.iconst 0, 1) := by decide +kernel
theorem dX4_thingNamed_1 : decode cX4_thingNamed 1 = .ok (.istore_n 2, 1) := by decide +kernel
theorem dX4_thingNamed_2 : decode cX4_thingNamed 2 = .ok (.iload_n 2, 1) := by decide +kernel
theorem dX4_thingNamed_3 : decode cX4_thingNamed 3 = .ok (.aload_n 0, 1) := by decide +kernel
theorem dX4_thingNamed_4 : decode cX4_thingNamed 4 = .ok (.getfield 63, 3) := by decide +kernel
theorem dX4_thingNamed_7 : decode cX4_thingNamed 7 = .ok (.if_icmp .ge 21, 3) := by decide +kernel
theorem dX4_thingNamed_10 : decode cX4_thingNamed 10 = .ok (.aload_n 0, 1) := by decide +kernel
theorem dX4_thingNamed_11 : decode cX4_thingNamed 11 = .ok (.getfield 9, 3) := by decide +kernel
theorem dX4_thingNamed_14 : decode cX4_thingNamed 14 = .ok (.iload_n 2, 1) := by decide +kernel
theorem dX4_thingNamed_15 : decode cX4_thingNamed 15 = .ok (.iaload, 1) := by decide +kernel
theorem dX4_thingNamed_16 : decode cX4_thingNamed 16 = .ok (.iload_n 1, 1) := by decide +kernel
theorem dX4_thingNamed_17 : decode cX4_thingNamed 17 = .ok (.if_icmp .ne 5, 3) := by decide +kernel
theorem dX4_thingNamed_20 : decode cX4_thingNamed 20 = .ok (.iload_n 2, 1) := by decide +kernel
theorem dX4_thingNamed_21 : decode cX4_thingNamed 21 = .ok (.ireturn, 1) := by decide +kernel
theorem dX4_thingNamed_22 : decode cX4_thingNamed 22 = .ok (.iinc 2 1, 3) := by decide +kernel
theorem dX4_thingNamed_25 : decode cX4_thingNamed 25 = .ok (.goto (-23), 3) := by decide +kernel
theorem dX4_thingNamed_28 : decode cX4_thingNamed 28 = .ok (.iconst (-1), 1) := by decide +kernel
theorem dX4_thingNamed_29 : decode cX4_thingNamed 29 = .ok (.ireturn, 1) := by decide +kernel
noncomputable def tX4_thingNamed_0 : List (Nat × zF) := [(0, (zst 1 (zp (.int (0))))), (1, (zsi4 3 2 1)), (2, (zli4 2 1)), (3, (zla4 0 1)), (4, (zgf 4 7)), (7, (z_ic_ge 28)), (10, (zla4 0 1)), (11, (zgf 4 8)), (14, (zli4 2 1)), (15, (zal 0)), (16, (zli4 1 1)), (17, (z_ic_ne 22))]
theorem kX4_thingNamed_0 : ∀ q ∈ tX4_thingNamed_0, zOk zg iX4_thingNamed q.1 q.2 := (z_c (ok_iconst (v := (0)) dX4_thingNamed_0 (by decide)) (z_c (ok_istore_n dX4_thingNamed_1 rfl) (z_c (ok_iload_n dX4_thingNamed_2 rfl) (z_c (ok_aload_n dX4_thingNamed_3 rfl) (z_c (ok_getf (C := RX4) (T := TX4) (N := 18) rfl (by decide) zinX4 rfl zw_228 dX4_thingNamed_4) (z_c (ok_icmp_ge dX4_thingNamed_7 (by decide)) (z_c (ok_aload_n dX4_thingNamed_10 rfl) (z_c (ok_getf (C := RX4) (T := TX4) (N := 18) rfl (by decide) zinX4 rfl zw_209 dX4_thingNamed_11) (z_c (ok_iload_n dX4_thingNamed_14 rfl) (z_c (ok_iaload rfl dX4_thingNamed_15) (z_c (ok_iload_n dX4_thingNamed_16 rfl) (z_c (ok_icmp_ne dX4_thingNamed_17 (by decide)) z_n))))))))))))
noncomputable def tX4_thingNamed_1 : List (Nat × zF) := [(20, (zli4 2 1)), (21, (zri false)), (22, (zin4 3 2 (1))), (25, (zgt 2)), (28, (zst 1 (zp (.int ((-1)))))), (29, (zri false))]
theorem kX4_thingNamed_1 : ∀ q ∈ tX4_thingNamed_1, zOk zg iX4_thingNamed q.1 q.2 := (z_c (ok_iload_n dX4_thingNamed_20 rfl) (z_c (ok_ireturn rfl dX4_thingNamed_21) (z_c (ok_iinc (v := (1)) dX4_thingNamed_22 (by decide)) (z_c (ok_goto dX4_thingNamed_25 (by decide)) (z_c (ok_iconst (v := (-1)) dX4_thingNamed_28 (by decide)) (z_c (ok_ireturn rfl dX4_thingNamed_29) z_n))))))
noncomputable def tX4_thingNamed : zT := [(20, tX4_thingNamed_0), (100000, tX4_thingNamed_1)]
theorem kX4_thingNamed : zTok zg iX4_thingNamed tX4_thingNamed := (z_t kX4_thingNamed_0 (z_t kX4_thingNamed_1 z_tn))
theorem dX4_isNamed_0 : decode cX4_isNamed 0 = .ok (.iconst 0, 1) := by decide +kernel
theorem dX4_isNamed_1 : decode cX4_isNamed 1 = .ok (.istore_n 2, 1) := by decide +kernel
theorem dX4_isNamed_2 : decode cX4_isNamed 2 = .ok (.iload_n 2, 1) := by decide +kernel
theorem dX4_isNamed_3 : decode cX4_isNamed 3 = .ok (.aload_n 0, 1) := by decide +kernel
theorem dX4_isNamed_4 : decode cX4_isNamed 4 = .ok (.getfield 69, 3) := by decide +kernel
theorem dX4_isNamed_7 : decode cX4_isNamed 7 = .ok (.if_icmp .ge 21, 3) := by decide +kernel
theorem dX4_isNamed_10 : decode cX4_isNamed 10 = .ok (.aload_n 0, 1) := by decide +kernel
theorem dX4_isNamed_11 : decode cX4_isNamed 11 = .ok (.getfield 24, 3) := by decide +kernel
theorem dX4_isNamed_14 : decode cX4_isNamed 14 = .ok (.iload_n 2, 1) := by decide +kernel
theorem dX4_isNamed_15 : decode cX4_isNamed 15 = .ok (.iaload, 1) := by decide +kernel
theorem dX4_isNamed_16 : decode cX4_isNamed 16 = .ok (.iload_n 1, 1) := by decide +kernel
theorem dX4_isNamed_17 : decode cX4_isNamed 17 = .ok (.if_icmp .ne 5, 3) := by decide +kernel
theorem dX4_isNamed_20 : decode cX4_isNamed 20 = .ok (.iconst 1, 1) := by decide +kernel
theorem dX4_isNamed_21 : decode cX4_isNamed 21 = .ok (.ireturn, 1) := by decide +kernel
theorem dX4_isNamed_22 : decode cX4_isNamed 22 = .ok (.iinc 2 1, 3) := by decide +kernel
theorem dX4_isNamed_25 : decode cX4_isNamed 25 = .ok (.goto (-23), 3) := by decide +kernel
theorem dX4_isNamed_28 : decode cX4_isNamed 28 = .ok (.aload_n 0, 1) := by decide +kernel
theorem dX4_isNamed_29 : decode cX4_isNamed 29 = .ok (.iload_n 1, 1) := by decide +kernel
theorem dX4_isNamed_30 : decode cX4_isNamed 30 = .ok (.invokevirtual 107, 3) := by decide +kernel
theorem dX4_isNamed_33 : decode cX4_isNamed 33 = .ok (.iconst (-1), 1) := by decide +kernel
theorem dX4_isNamed_34 : decode cX4_isNamed 34 = .ok (.if_icmp .eq 7, 3) := by decide +kernel
theorem dX4_isNamed_37 : decode cX4_isNamed 37 = .ok (.iconst 1, 1) := by decide +kernel
theorem dX4_isNamed_38 : decode cX4_isNamed 38 = .ok (.goto 4, 3) := by decide +kernel
theorem dX4_isNamed_41 : decode cX4_isNamed 41 = .ok (.iconst 0, 1) := by decide +kernel
theorem dX4_isNamed_42 : decode cX4_isNamed 42 = .ok (.ireturn, 1) := by decide +kernel
noncomputable def tX4_isNamed_0 : List (Nat × zF) := [(0, (zst 1 (zp (.int (0))))), (1, (zsi4 3 2 1)), (2, (zli4 2 1)), (3, (zla4 0 1)), (4, (zgf 4 13)), (7, (z_ic_ge 28)), (10, (zla4 0 1)), (11, (zgf 4 14)), (14, (zli4 2 1)), (15, (zal 0)), (16, (zli4 1 1)), (17, (z_ic_ne 22))]
theorem kX4_isNamed_0 : ∀ q ∈ tX4_isNamed_0, zOk zg iX4_isNamed q.1 q.2 := (z_c (ok_iconst (v := (0)) dX4_isNamed_0 (by decide)) (z_c (ok_istore_n dX4_isNamed_1 rfl) (z_c (ok_iload_n dX4_isNamed_2 rfl) (z_c (ok_aload_n dX4_isNamed_3 rfl) (z_c (ok_getf (C := RX4) (T := TX4) (N := 18) rfl (by decide) zinX4 rfl zw_230 dX4_isNamed_4) (z_c (ok_icmp_ge dX4_isNamed_7 (by decide)) (z_c (ok_aload_n dX4_isNamed_10 rfl) (z_c (ok_getf (C := RX4) (T := TX4) (N := 18) rfl (by decide) zinX4 rfl zw_213 dX4_isNamed_11) (z_c (ok_iload_n dX4_isNamed_14 rfl) (z_c (ok_iaload rfl dX4_isNamed_15) (z_c (ok_iload_n dX4_isNamed_16 rfl) (z_c (ok_icmp_ne dX4_isNamed_17 (by decide)) z_n))))))))))))
noncomputable def tX4_isNamed_1 : List (Nat × zF) := [(20, (zst 1 (zp (.int (1))))), (21, (zri true)), (22, (zin4 3 2 (1))), (25, (zgt 2)), (28, (zla4 0 1)), (29, (zli4 1 1)), (30, (zcv 54 1 4)), (33, (zst 1 (zp (.int ((-1)))))), (34, (z_ic_eq 41)), (37, (zst 1 (zp (.int (1))))), (38, (zgt 42)), (41, (zst 1 (zp (.int (0)))))]
theorem kX4_isNamed_1 : ∀ q ∈ tX4_isNamed_1, zOk zg iX4_isNamed q.1 q.2 := (z_c (ok_iconst (v := (1)) dX4_isNamed_20 (by decide)) (z_c (ok_zreturn rfl dX4_isNamed_21) (z_c (ok_iinc (v := (1)) dX4_isNamed_22 (by decide)) (z_c (ok_goto dX4_isNamed_25 (by decide)) (z_c (ok_aload_n dX4_isNamed_28 rfl) (z_c (ok_iload_n dX4_isNamed_29 rfl) (z_c (ok_callV zcal_54 (q := (RX4, TX4, 18)) rfl zw_240 zw_241 zw_242 dX4_isNamed_30) (z_c (ok_iconst (v := (-1)) dX4_isNamed_33 (by decide)) (z_c (ok_icmp_eq dX4_isNamed_34 (by decide)) (z_c (ok_iconst (v := (1)) dX4_isNamed_37 (by decide)) (z_c (ok_goto dX4_isNamed_38 (by decide)) (z_c (ok_iconst (v := (0)) dX4_isNamed_41 (by decide)) z_n))))))))))))
noncomputable def tX4_isNamed_2 : List (Nat × zF) := [(42, (zri true))]
theorem kX4_isNamed_2 : ∀ q ∈ tX4_isNamed_2, zOk zg iX4_isNamed q.1 q.2 := (z_c (ok_zreturn rfl dX4_isNamed_42) z_n)
noncomputable def tX4_isNamed : zT := [(20, tX4_isNamed_0), (42, tX4_isNamed_1), (100000, tX4_isNamed_2)]
theorem kX4_isNamed : zTok zg iX4_isNamed tX4_isNamed := (z_t kX4_isNamed_0 (z_t kX4_isNamed_1 (z_t kX4_isNamed_2 z_tn)))
theorem dX5_init_0 : decode cX5_init 0 = .ok (.aload_n 0, 1) := by decide +kernel
theorem dX5_init_1 : decode cX5_init 1 = .ok (.invokespecial 3, 3) := by decide +kernel
theorem dX5_init_4 : decode cX5_init 4 = .ok (.aload_n 0, 1) := by decide +kernel
theorem dX5_init_5 : decode cX5_init 5 = .ok (.bipush 26, 2) := by decide +kernel
theorem dX5_init_7 : decode cX5_init 7 = .ok (.newarray .int, 2) := by decide +kernel
theorem dX5_init_9 : decode cX5_init 9 = .ok (.putfield 9, 3) := by decide +kernel
theorem dX5_init_12 : decode cX5_init 12 = .ok (.aload_n 0, 1) := by decide +kernel
theorem dX5_init_13 : decode cX5_init 13 = .ok (.iconst 0, 1) := by decide +kernel
theorem dX5_init_14 : decode cX5_init 14 = .ok (.newarray .int, 2) := by decide +kernel
theorem dX5_init_16 : decode cX5_init 16 = .ok (.putfield 15, 3) := by decide +kernel
theorem dX5_init_19 : decode cX5_init 19 = .ok (.iconst 0, 1) := by decide +kernel
theorem dX5_init_20 : decode cX5_init 20 = .ok (.istore_n 1, 1) := by decide +kernel
theorem dX5_init_21 : decode cX5_init 21 = .ok (.iconst 0, 1) := by decide +kernel
theorem dX5_init_22 : decode cX5_init 22 = .ok (.istore_n 2, 1) := by decide +kernel
theorem dX5_init_23 : decode cX5_init 23 = .ok (.iconst 0, 1) := by decide +kernel
theorem dX5_init_24 : decode cX5_init 24 = .ok (.istore_n 3, 1) := by decide +kernel
theorem dX5_init_25 : decode cX5_init 25 = .ok (.iconst 0, 1) := by decide +kernel
theorem dX5_init_26 : decode cX5_init 26 = .ok (.istore 4, 2) := by decide +kernel
theorem dX5_init_28 : decode cX5_init 28 = .ok (.iload 4, 2) := by decide +kernel
theorem dX5_init_30 : decode cX5_init 30 = .ok (.ldc 18, 2) := by decide +kernel
theorem dX5_init_32 : decode cX5_init 32 = .ok (.invokevirtual 20, 3) := by decide +kernel
theorem dX5_init_35 : decode cX5_init 35 = .ok (.if_icmp .ge 65, 3) := by decide +kernel
theorem dX5_init_38 : decode cX5_init 38 = .ok (.iload_n 1, 1) := by decide +kernel
theorem dX5_init_39 : decode cX5_init 39 = .ok (.bipush 26, 2) := by decide +kernel
theorem dX5_init_41 : decode cX5_init 41 = .ok (.if_icmp .ge 59, 3) := by decide +kernel
theorem dX5_init_44 : decode cX5_init 44 = .ok (.ldc 18, 2) := by decide +kernel
theorem dX5_init_46 : decode cX5_init 46 = .ok (.iload 4, 2) := by decide +kernel
theorem dX5_init_48 : decode cX5_init 48 = .ok (.invokevirtual 26, 3) := by decide +kernel
theorem dX5_init_51 : decode cX5_init 51 = .ok (.istore 5, 2) := by decide +kernel
theorem dX5_init_53 : decode cX5_init 53 = .ok (.iload 5, 2) := by decide +kernel
theorem dX5_init_55 : decode cX5_init 55 = .ok (.bipush 32, 2) := by decide +kernel
theorem dX5_init_57 : decode cX5_init 57 = .ok (.if_icmp .ne 20, 3) := by decide +kernel
theorem dX5_init_60 : decode cX5_init 60 = .ok (.aload_n 0, 1) := by decide +kernel
theorem dX5_init_61 : decode cX5_init 61 = .ok (.getfield 9, 3) := by decide +kernel
theorem dX5_init_64 : decode cX5_init 64 = .ok (.iload_n 1, 1) := by decide +kernel
theorem dX5_init_65 : decode cX5_init 65 = .ok (.iload_n 2, 1) := by decide +kernel
theorem dX5_init_66 : decode cX5_init 66 = .ok (.iastore, 1) := by decide +kernel
theorem dX5_init_67 : decode cX5_init 67 = .ok (.iinc 1 1, 3) := by decide +kernel
theorem dX5_init_70 : decode cX5_init 70 = .ok (.iconst 0, 1) := by decide +kernel
theorem dX5_init_71 : decode cX5_init 71 = .ok (.istore_n 2, 1) := by decide +kernel
theorem dX5_init_72 : decode cX5_init 72 = .ok (.iconst 0, 1) := by decide +kernel
theorem dX5_init_73 : decode cX5_init 73 = .ok (.istore_n 3, 1) := by decide +kernel
theorem dX5_init_74 : decode cX5_init 74 = .ok (.goto 20, 3) := by decide +kernel
theorem dX5_init_77 : decode cX5_init 77 = .ok (.iload_n 2, 1) := by decide +kernel
theorem dX5_init_78 : decode cX5_init 78 = .ok (.iload 5, 2) := by decide +kernel
theorem dX5_init_80 : decode cX5_init 80 = .ok (.bipush 97, 2) := by decide +kernel
theorem dX5_init_82 : decode cX5_init 82 = .ok (.isub, 1) := by decide +kernel
theorem dX5_init_83 : decode cX5_init 83 = .ok (.iconst 1, 1) := by decide +kernel
theorem dX5_init_84 : decode cX5_init 84 = .ok (.iadd, 1) := by decide +kernel
theorem dX5_init_85 : decode cX5_init 85 = .ok (.iconst 5, 1) := by decide +kernel
theorem dX5_init_86 : decode cX5_init 86 = .ok (.iload_n 3, 1) := by decide +kernel
theorem dX5_init_87 : decode cX5_init 87 = .ok (.imul, 1) := by decide +kernel
theorem dX5_init_88 : decode cX5_init 88 = .ok (.ishl, 1) := by decide +kernel
theorem dX5_init_89 : decode cX5_init 89 = .ok (.ior, 1) := by decide +kernel
theorem dX5_init_90 : decode cX5_init 90 = .ok (.istore_n 2, 1) := by decide +kernel
theorem dX5_init_91 : decode cX5_init 91 = .ok (.iinc 3 1, 3) := by decide +kernel
theorem dX5_init_94 : decode cX5_init 94 = .ok (.iinc 4 1, 3) := by decide +kernel
theorem dX5_init_97 : decode cX5_init 97 = .ok (.goto (-69), 3) := by decide +kernel
theorem dX5_init_100 : decode cX5_init 100 = .ok (.return_, 1) := by decide +kernel
noncomputable def tX5_init_0 : List (Nat × zF) := [(0, (zla4 0 1)), (1, zoi), (4, (zla4 0 1)), (5, (zst 2 (zp (.int (26))))), (7, (zna 0 4 zn_int 2)), (9, (zpf 5 0 (.array .int))), (12, (zla4 0 1)), (13, (zst 1 (zp (.int (0))))), (14, (zna 0 4 zn_int 2)), (16, (zpf 5 1 (.array .int))), (19, (zst 1 (zp (.int (0))))), (20, (zsi4 6 1 1))]
theorem kX5_init_0 : ∀ q ∈ tX5_init_0, zOk zg iX5_init q.1 q.2 := (z_c (ok_aload_n dX5_init_0 rfl) (z_c (ok_objInit zw_243 zw_1 zw_2 dX5_init_1) (z_c (ok_aload_n dX5_init_4 rfl) (z_c (ok_bipush (v := (26)) dX5_init_5 (by decide)) (z_c (ok_newa (ty := .int) rfl rfl (fun _ h => by cases h) zw_96 rfl zn_int_c zn_int_n dX5_init_7) (z_c (ok_putf (C := RX5) (T := TX5) (N := 12) true tyX5 tyX5_ok nmX5 rfl (by decide) zinX5 rfl zw_244 rfl (fun _ => ⟨rfl, rfl⟩) rfl dX5_init_9) (z_c (ok_aload_n dX5_init_12 rfl) (z_c (ok_iconst (v := (0)) dX5_init_13 (by decide)) (z_c (ok_newa (ty := .int) rfl rfl (fun _ h => by cases h) zw_96 rfl zn_int_c zn_int_n dX5_init_14) (z_c (ok_putf (C := RX5) (T := TX5) (N := 12) false tyX5 tyX5_ok nmX5 rfl (by decide) zinX5 rfl zw_245 rfl (fun h => absurd h (by decide)) rfl dX5_init_16) (z_c (ok_iconst (v := (0)) dX5_init_19 (by decide)) (z_c (ok_istore_n dX5_init_20 rfl) z_n))))))))))))
noncomputable def tX5_init_1 : List (Nat × zF) := [(21, (zst 1 (zp (.int (0))))), (22, (zsi4 6 2 1)), (23, (zst 1 (zp (.int (0))))), (24, (zsi4 6 3 1)), (25, (zst 1 (zp (.int (0))))), (26, (zsi4 6 4 2)), (28, (zli4 4 2)), (30, (zst 2 (zp (.retAddr 0)))), (32, (zcx 285 0 0)), (35, (z_ic_ge 100)), (38, (zli4 1 1)), (39, (zst 2 (zp (.int (26)))))]
theorem kX5_init_1 : ∀ q ∈ tX5_init_1, zOk zg iX5_init q.1 q.2 := (z_c (ok_iconst (v := (0)) dX5_init_21 (by decide)) (z_c (ok_istore_n dX5_init_22 rfl) (z_c (ok_iconst (v := (0)) dX5_init_23 (by decide)) (z_c (ok_istore_n dX5_init_24 rfl) (z_c (ok_iconst (v := (0)) dX5_init_25 (by decide)) (z_c (ok_istore dX5_init_26) (z_c (ok_iload dX5_init_28) (z_c (ok_ldcS zx_text dX5_init_30) (z_c (ok_callX (C := RJ0) zcal_285 zx_obj zw_246 zw_247 zw_248 dX5_init_32) (z_c (ok_icmp_ge dX5_init_35 (by decide)) (z_c (ok_iload_n dX5_init_38 rfl) (z_c (ok_bipush (v := (26)) dX5_init_39 (by decide)) z_n))))))))))))
noncomputable def tX5_init_2 : List (Nat × zF) := [(41, (z_ic_ge 100)), (44, (zst 2 (zp (.retAddr 0)))), (46, (zli4 4 2)), (48, (zcx 286 1 0)), (51, (zsi4 6 5 2)), (53, (zli4 5 2)), (55, (zst 2 (zp (.int (32))))), (57, (z_ic_ne 77)), (60, (zla4 0 1)), (61, (zgf 5 0)), (64, (zli4 1 1)), (65, (zli4 2 1))]
theorem kX5_init_2 : ∀ q ∈ tX5_init_2, zOk zg iX5_init q.1 q.2 := (z_c (ok_icmp_ge dX5_init_41 (by decide)) (z_c (ok_ldcS zx_text dX5_init_44) (z_c (ok_iload dX5_init_46) (z_c (ok_callX (C := RJ0) zcal_286 zx_obj zw_249 zw_250 zw_251 dX5_init_48) (z_c (ok_istore dX5_init_51) (z_c (ok_iload dX5_init_53) (z_c (ok_bipush (v := (32)) dX5_init_55 (by decide)) (z_c (ok_icmp_ne dX5_init_57 (by decide)) (z_c (ok_aload_n dX5_init_60 rfl) (z_c (ok_getf (C := RX5) (T := TX5) (N := 12) rfl (by decide) zinX5 rfl zw_244 dX5_init_61) (z_c (ok_iload_n dX5_init_64 rfl) (z_c (ok_iload_n dX5_init_65 rfl) z_n))))))))))))
noncomputable def tX5_init_3 : List (Nat × zF) := [(66, (zas 0)), (67, (zin4 6 1 (1))), (70, (zst 1 (zp (.int (0))))), (71, (zsi4 6 2 1)), (72, (zst 1 (zp (.int (0))))), (73, (zsi4 6 3 1)), (74, (zgt 94)), (77, (zli4 2 1)), (78, (zli4 5 2)), (80, (zst 2 (zp (.int (97))))), (82, (zst 1 z_isub)), (83, (zst 1 (zp (.int (1)))))]
theorem kX5_init_3 : ∀ q ∈ tX5_init_3, zOk zg iX5_init q.1 q.2 := (z_c (ok_iastore rfl dX5_init_66) (z_c (ok_iinc (v := (1)) dX5_init_67 (by decide)) (z_c (ok_iconst (v := (0)) dX5_init_70 (by decide)) (z_c (ok_istore_n dX5_init_71 rfl) (z_c (ok_iconst (v := (0)) dX5_init_72 (by decide)) (z_c (ok_istore_n dX5_init_73 rfl) (z_c (ok_goto dX5_init_74 (by decide)) (z_c (ok_iload_n dX5_init_77 rfl) (z_c (ok_iload dX5_init_78) (z_c (ok_bipush (v := (97)) dX5_init_80 (by decide)) (z_c (ok_isub dX5_init_82) (z_c (ok_iconst (v := (1)) dX5_init_83 (by decide)) z_n))))))))))))
noncomputable def tX5_init_4 : List (Nat × zF) := [(84, (zst 1 z_iadd)), (85, (zst 1 (zp (.int (5))))), (86, (zli4 3 1)), (87, (zst 1 z_imul)), (88, (zst 1 z_ishl)), (89, (zst 1 z_ior)), (90, (zsi4 6 2 1)), (91, (zin4 6 3 (1))), (94, (zin4 6 4 (1))), (97, (zgt 28)), (100, zrv)]
theorem kX5_init_4 : ∀ q ∈ tX5_init_4, zOk zg iX5_init q.1 q.2 := (z_c (ok_iadd dX5_init_84) (z_c (ok_iconst (v := (5)) dX5_init_85 (by decide)) (z_c (ok_iload_n dX5_init_86 rfl) (z_c (ok_imul dX5_init_87) (z_c (ok_ishl dX5_init_88) (z_c (ok_ior dX5_init_89) (z_c (ok_istore_n dX5_init_90 rfl) (z_c (ok_iinc (v := (1)) dX5_init_91 (by decide)) (z_c (ok_iinc (v := (1)) dX5_init_94 (by decide)) (z_c (ok_goto dX5_init_97 (by decide)) (z_c (ok_return rfl dX5_init_100) z_n)))))))))))
noncomputable def tX5_init : zT := [(21, tX5_init_0), (41, tX5_init_1), (66, tX5_init_2), (84, tX5_init_3), (100000, tX5_init_4)]
theorem kX5_init : zTok zg iX5_init tX5_init := (z_t kX5_init_0 (z_t kX5_init_1 (z_t kX5_init_2 (z_t kX5_init_3 (z_t kX5_init_4 z_tn)))))
theorem dX5_begin_0 : decode cX5_begin 0 = .ok (.aload_n 0, 1) := by decide +kernel
theorem dX5_begin_1 : decode cX5_begin 1 = .ok (.aload_n 1, 1) := by decide +kernel
theorem dX5_begin_2 : decode cX5_begin 2 = .ok (.putfield 15, 3) := by decide +kernel
theorem dX5_begin_5 : decode cX5_begin 5 = .ok (.aload_n 0, 1) := by decide +kernel
theorem dX5_begin_6 : decode cX5_begin 6 = .ok (.iload_n 2, 1) := by decide +kernel
theorem dX5_begin_7 : decode cX5_begin 7 = .ok (.aload_n 1, 1) := by decide +kernel
theorem dX5_begin_8 : decode cX5_begin 8 = .ok (.arraylength, 1) := by decide +kernel
theorem dX5_begin_9 : decode cX5_begin 9 = .ok (.invokestatic 30, 3) := by decide +kernel
theorem dX5_begin_12 : decode cX5_begin 12 = .ok (.putfield 36, 3) := by decide +kernel
theorem dX5_begin_15 : decode cX5_begin 15 = .ok (.aload_n 0, 1) := by decide +kernel
theorem dX5_begin_16 : decode cX5_begin 16 = .ok (.iconst 0, 1) := by decide +kernel
theorem dX5_begin_17 : decode cX5_begin 17 = .ok (.putfield 39, 3) := by decide +kernel
theorem dX5_begin_20 : decode cX5_begin 20 = .ok (.aload_n 0, 1) := by decide +kernel
theorem dX5_begin_21 : decode cX5_begin 21 = .ok (.iconst 0, 1) := by decide +kernel
theorem dX5_begin_22 : decode cX5_begin 22 = .ok (.putfield 42, 3) := by decide +kernel
theorem dX5_begin_25 : decode cX5_begin 25 = .ok (.aload_n 0, 1) := by decide +kernel
theorem dX5_begin_26 : decode cX5_begin 26 = .ok (.iconst 0, 1) := by decide +kernel
theorem dX5_begin_27 : decode cX5_begin 27 = .ok (.putfield 45, 3) := by decide +kernel
theorem dX5_begin_30 : decode cX5_begin 30 = .ok (.aload_n 0, 1) := by decide +kernel
theorem dX5_begin_31 : decode cX5_begin 31 = .ok (.iconst (-1), 1) := by decide +kernel
theorem dX5_begin_32 : decode cX5_begin 32 = .ok (.putfield 48, 3) := by decide +kernel
theorem dX5_begin_35 : decode cX5_begin 35 = .ok (.aload_n 0, 1) := by decide +kernel
theorem dX5_begin_36 : decode cX5_begin 36 = .ok (.invokevirtual 51, 3) := by decide +kernel
theorem dX5_begin_39 : decode cX5_begin 39 = .ok (.return_, 1) := by decide +kernel
noncomputable def tX5_begin_0 : List (Nat × zF) := [(0, (zla4 0 1)), (1, (zla4 1 1)), (2, (zpf 5 1 (.array .int))), (5, (zla4 0 1)), (6, (zli4 2 1)), (7, (zla4 1 1)), (8, (zle4 0)), (9, zmmin), (12, (zpf 5 2 (.int))), (15, (zla4 0 1)), (16, (zst 1 (zp (.int (0))))), (17, (zpf 5 3 (.int)))]
theorem kX5_begin_0 : ∀ q ∈ tX5_begin_0, zOk zg iX5_begin q.1 q.2 := (z_c (ok_aload_n dX5_begin_0 rfl) (z_c (ok_aload_n dX5_begin_1 rfl) (z_c (ok_putf (C := RX5) (T := TX5) (N := 12) false tyX5 tyX5_ok nmX5 rfl (by decide) zinX5 rfl zw_245 rfl (fun h => absurd h (by decide)) rfl dX5_begin_2) (z_c (ok_aload_n dX5_begin_5 rfl) (z_c (ok_iload_n dX5_begin_6 rfl) (z_c (ok_aload_n dX5_begin_7 rfl) (z_c (ok_alen (ty := .int) rfl dX5_begin_8) (z_c (ok_mmin zw_252 zw_48 zw_49 zw_50 dX5_begin_9) (z_c (ok_putf (C := RX5) (T := TX5) (N := 12) false tyX5 tyX5_ok nmX5 rfl (by decide) zinX5 rfl zw_253 rfl (fun h => absurd h (by decide)) rfl dX5_begin_12) (z_c (ok_aload_n dX5_begin_15 rfl) (z_c (ok_iconst (v := (0)) dX5_begin_16 (by decide)) (z_c (ok_putf (C := RX5) (T := TX5) (N := 12) false tyX5 tyX5_ok nmX5 rfl (by decide) zinX5 rfl zw_254 rfl (fun h => absurd h (by decide)) rfl dX5_begin_17) z_n))))))))))))
noncomputable def tX5_begin_1 : List (Nat × zF) := [(20, (zla4 0 1)), (21, (zst 1 (zp (.int (0))))), (22, (zpf 5 4 (.int))), (25, (zla4 0 1)), (26, (zst 1 (zp (.int (0))))), (27, (zpf 5 10 (.int))), (30, (zla4 0 1)), (31, (zst 1 (zp (.int ((-1)))))), (32, (zpf 5 11 (.int))), (35, (zla4 0 1)), (36, (zcv 58 0 5)), (39, zrv)]
theorem kX5_begin_1 : ∀ q ∈ tX5_begin_1, zOk zg iX5_begin q.1 q.2 := (z_c (ok_aload_n dX5_begin_20 rfl) (z_c (ok_iconst (v := (0)) dX5_begin_21 (by decide)) (z_c (ok_putf (C := RX5) (T := TX5) (N := 12) false tyX5 tyX5_ok nmX5 rfl (by decide) zinX5 rfl zw_255 rfl (fun h => absurd h (by decide)) rfl dX5_begin_22) (z_c (ok_aload_n dX5_begin_25 rfl) (z_c (ok_iconst (v := (0)) dX5_begin_26 (by decide)) (z_c (ok_putf (C := RX5) (T := TX5) (N := 12) false tyX5 tyX5_ok nmX5 rfl (by decide) zinX5 rfl zw_256 rfl (fun h => absurd h (by decide)) rfl dX5_begin_27) (z_c (ok_aload_n dX5_begin_30 rfl) (z_c (ok_iconst (v := (-1)) dX5_begin_31 (by decide)) (z_c (ok_putf (C := RX5) (T := TX5) (N := 12) false tyX5 tyX5_ok nmX5 rfl (by decide) zinX5 rfl zw_257 rfl (fun h => absurd h (by decide)) rfl dX5_begin_32) (z_c (ok_aload_n dX5_begin_35 rfl) (z_c (ok_callV zcal_58 (q := (RX5, TX5, 12)) rfl zw_258 zw_259 zw_260 dX5_begin_36) (z_c (ok_return rfl dX5_begin_39) z_n))))))))))))
noncomputable def tX5_begin : zT := [(20, tX5_begin_0), (100000, tX5_begin_1)]
theorem kX5_begin : zTok zg iX5_begin tX5_begin := (z_t kX5_begin_0 (z_t kX5_begin_1 z_tn))
theorem dX5_advance_0 : decode cX5_advance 0 = .ok (.aload_n 0, 1) := by decide +kernel
theorem dX5_advance_1 : decode cX5_advance 1 = .ok (.getfield 42, 3) := by decide +kernel
theorem dX5_advance_4 : decode cX5_advance 4 = .ok (.iconst 1, 1) := by decide +kernel
theorem dX5_advance_5 : decode cX5_advance 5 = .ok (.if_icmp .eq 19, 3) := by decide +kernel
theorem dX5_advance_8 : decode cX5_advance 8 = .ok (.aload_n 0, 1) := by decide +kernel
theorem dX5_advance_9 : decode cX5_advance 9 = .ok (.getfield 42, 3) := by decide +kernel
theorem dX5_advance_12 : decode cX5_advance 12 = .ok (.iconst 2, 1) := by decide +kernel
theorem dX5_advance_13 : decode cX5_advance 13 = .ok (.if_icmp .eq 11, 3) := by decide +kernel
theorem dX5_advance_16 : decode cX5_advance 16 = .ok (.aload_n 0, 1) := by decide +kernel
theorem dX5_advance_17 : decode cX5_advance 17 = .ok (.getfield 42, 3) := by decide +kernel
theorem dX5_advance_20 : decode cX5_advance 20 = .ok (.iconst 3, 1) := by decide +kernel
theorem dX5_advance_21 : decode cX5_advance 21 = .ok (.if_icmp .ne 7, 3) := by decide +kernel
theorem dX5_advance_24 : decode cX5_advance 24 = .ok (.iconst 1, 1) := by decide +kernel
theorem dX5_advance_25 : decode cX5_advance 25 = .ok (.goto 4, 3) := by decide +kernel
theorem dX5_advance_28 : decode cX5_advance 28 = .ok (.iconst 0, 1) := by decide +kernel
theorem dX5_advance_29 : decode cX5_advance 29 = .ok (.istore_n 1, 1) := by decide +kernel
theorem dX5_advance_30 : decode cX5_advance 30 = .ok (.aload_n 0, 1) := by decide +kernel
theorem dX5_advance_31 : decode cX5_advance 31 = .ok (.getfield 39, 3) := by decide +kernel
theorem dX5_advance_34 : decode cX5_advance 34 = .ok (.istore_n 2, 1) := by decide +kernel
theorem dX5_advance_35 : decode cX5_advance 35 = .ok (.aload_n 0, 1) := by decide +kernel
theorem dX5_advance_36 : decode cX5_advance 36 = .ok (.getfield 39, 3) := by decide +kernel
theorem dX5_advance_39 : decode cX5_advance 39 = .ok (.aload_n 0, 1) := by decide +kernel
theorem dX5_advance_40 : decode cX5_advance 40 = .ok (.getfield 36, 3) := by decide +kernel
theorem dX5_advance_43 : decode cX5_advance 43 = .ok (.if_icmp .ge 44, 3) := by decide +kernel
theorem dX5_advance_46 : decode cX5_advance 46 = .ok (.aload_n 0, 1) := by decide +kernel
theorem dX5_advance_47 : decode cX5_advance 47 = .ok (.getfield 15, 3) := by decide +kernel
theorem dX5_advance_50 : decode cX5_advance 50 = .ok (.aload_n 0, 1) := by decide +kernel
theorem dX5_advance_51 : decode cX5_advance 51 = .ok (.getfield 39, 3) := by decide +kernel
theorem dX5_advance_54 : decode cX5_advance 54 = .ok (.iaload, 1) := by decide +kernel
theorem dX5_advance_55 : decode cX5_advance 55 = .ok (.bipush 32, 2) := by decide +kernel
theorem dX5_advance_57 : decode cX5_advance 57 = .ok (.if_icmp .eq 17, 3) := by decide +kernel
theorem dX5_advance_60 : decode cX5_advance 60 = .ok (.aload_n 0, 1) := by decide +kernel
theorem dX5_advance_61 : decode cX5_advance 61 = .ok (.getfield 15, 3) := by decide +kernel
theorem dX5_advance_64 : decode cX5_advance 64 = .ok (.aload_n 0, 1) := by decide +kernel
theorem dX5_advance_65 : decode cX5_advance 65 = .ok (.getfield 39, 3) := by decide +kernel
theorem dX5_advance_68 : decode cX5_advance 68 = .ok (.iaload, 1) := by decide +kernel
theorem dX5_advance_69 : decode cX5_advance 69 = .ok (.bipush 10, 2) := by decide +kernel
theorem dX5_advance_71 : decode cX5_advance 71 = .ok (.if_icmp .ne 16, 3) := by decide +kernel
theorem dX5_advance_74 : decode cX5_advance 74 = .ok (.aload_n 0, 1) := by decide +kernel
theorem dX5_advance_75 : decode cX5_advance 75 = .ok (.dup, 1) := by decide +kernel
theorem dX5_advance_76 : decode cX5_advance 76 = .ok (.getfield 39, 3) := by decide +kernel
theorem dX5_advance_79 : decode cX5_advance 79 = .ok (.iconst 1, 1) := by decide +kernel
theorem dX5_advance_80 : decode cX5_advance 80 = .ok (.iadd, 1) := by decide +kernel
theorem dX5_advance_81 : decode cX5_advance 81 = .ok (.putfield 39, 3) := by decide +kernel
theorem dX5_advance_84 : decode cX5_advance 84 = .ok (.goto (-49), 3) := by decide +kernel
theorem dX5_advance_87 : decode cX5_advance 87 = .ok (.aload_n 0, 1) := by decide +kernel
theorem dX5_advance_88 : decode cX5_advance 88 = .ok (.aload_n 0, 1) := by decide +kernel
theorem dX5_advance_89 : decode cX5_advance 89 = .ok (.getfield 39, 3) := by decide +kernel
theorem dX5_advance_92 : decode cX5_advance 92 = .ok (.putfield 54, 3) := by decide +kernel
theorem dX5_advance_95 : decode cX5_advance 95 = .ok (.aload_n 0, 1) := by decide +kernel
theorem dX5_advance_96 : decode cX5_advance 96 = .ok (.aload_n 0, 1) := by decide +kernel
theorem dX5_advance_97 : decode cX5_advance 97 = .ok (.getfield 39, 3) := by decide +kernel
theorem dX5_advance_100 : decode cX5_advance 100 = .ok (.putfield 57, 3) := by decide +kernel
theorem dX5_advance_103 : decode cX5_advance 103 = .ok (.aload_n 0, 1) := by decide +kernel
theorem dX5_advance_104 : decode cX5_advance 104 = .ok (.iconst 0, 1) := by decide +kernel
theorem dX5_advance_105 : decode cX5_advance 105 = .ok (.putfield 60, 3) := by decide +kernel
theorem dX5_advance_108 : decode cX5_advance 108 = .ok (.aload_n 0, 1) := by decide +kernel
theorem dX5_advance_109 : decode cX5_advance 109 = .ok (.getfield 39, 3) := by decide +kernel
theorem dX5_advance_112 : decode cX5_advance 112 = .ok (.aload_n 0, 1) := by decide +kernel
theorem dX5_advance_113 : decode cX5_advance 113 = .ok (.getfield 36, 3) := by decide +kernel
theorem dX5_advance_116 : decode cX5_advance 116 = .ok (.if_icmp .lt 11, 3) := by decide +kernel
theorem dX5_advance_119 : decode cX5_advance 119 = .ok (.aload_n 0, 1) := by decide +kernel
theorem dX5_advance_120 : decode cX5_advance 120 = .ok (.iconst 0, 1) := by decide +kernel
theorem dX5_advance_121 : decode cX5_advance 121 = .ok (.putfield 42, 3) := by decide +kernel
theorem dX5_advance_124 : decode cX5_advance 124 = .ok (.goto 135, 3) := by decide +kernel
theorem dX5_advance_127 : decode cX5_advance 127 = .ok (.aload_n 0, 1) := by decide +kernel
theorem dX5_advance_128 : decode cX5_advance 128 = .ok (.getfield 15, 3) := by decide +kernel
theorem dX5_advance_131 : decode cX5_advance 131 = .ok (.aload_n 0, 1) := by decide +kernel
theorem dX5_advance_132 : decode cX5_advance 132 = .ok (.getfield 39, 3) := by decide +kernel
theorem dX5_advance_135 : decode cX5_advance 135 = .ok (.iaload, 1) := by decide +kernel
theorem dX5_advance_136 : decode cX5_advance 136 = .ok (.bipush 97, 2) := by decide +kernel
theorem dX5_advance_138 : decode cX5_advance 138 = .ok (.if_icmp .lt 41, 3) := by decide +kernel
theorem dX5_advance_141 : decode cX5_advance 141 = .ok (.aload_n 0, 1) := by decide +kernel
theorem dX5_advance_142 : decode cX5_advance 142 = .ok (.getfield 15, 3) := by decide +kernel
theorem dX5_advance_145 : decode cX5_advance 145 = .ok (.aload_n 0, 1) := by decide +kernel
theorem dX5_advance_146 : decode cX5_advance 146 = .ok (.getfield 39, 3) := by decide +kernel
theorem dX5_advance_149 : decode cX5_advance 149 = .ok (.iaload, 1) := by decide +kernel
theorem dX5_advance_150 : decode cX5_advance 150 = .ok (.bipush 122, 2) := by decide +kernel
theorem dX5_advance_152 : decode cX5_advance 152 = .ok (.if_icmp .gt 27, 3) := by decide +kernel
theorem dX5_advance_155 : decode cX5_advance 155 = .ok (.aload_n 0, 1) := by decide +kernel
theorem dX5_advance_156 : decode cX5_advance 156 = .ok (.iload_n 1, 1) := by decide +kernel
theorem dX5_advance_157 : decode cX5_advance 157 = .ok (.ifCond .eq 15, 3) := by decide +kernel
theorem dX5_advance_160 : decode cX5_advance 160 = .ok (.aload_n 0, 1) := by decide +kernel
theorem dX5_advance_161 : decode cX5_advance 161 = .ok (.getfield 39, 3) := by decide +kernel
theorem dX5_advance_164 : decode cX5_advance 164 = .ok (.iload_n 2, 1) := by decide +kernel
theorem dX5_advance_165 : decode cX5_advance 165 = .ok (.if_icmp .ne 7, 3) := by decide +kernel
theorem dX5_advance_168 : decode cX5_advance 168 = .ok (.iconst 1, 1) := by decide +kernel
theorem dX5_advance_169 : decode cX5_advance 169 = .ok (.goto 4, 3) := by decide +kernel
theorem dX5_advance_172 : decode cX5_advance 172 = .ok (.iconst 0, 1) := by decide +kernel
theorem dX5_advance_173 : decode cX5_advance 173 = .ok (.invokevirtual 63, 3) := by decide +kernel
theorem dX5_advance_176 : decode cX5_advance 176 = .ok (.goto 83, 3) := by decide +kernel
theorem dX5_advance_179 : decode cX5_advance 179 = .ok (.aload_n 0, 1) := by decide +kernel
theorem dX5_advance_180 : decode cX5_advance 180 = .ok (.getfield 15, 3) := by decide +kernel
theorem dX5_advance_183 : decode cX5_advance 183 = .ok (.aload_n 0, 1) := by decide +kernel
theorem dX5_advance_184 : decode cX5_advance 184 = .ok (.getfield 39, 3) := by decide +kernel
theorem dX5_advance_187 : decode cX5_advance 187 = .ok (.iaload, 1) := by decide +kernel
theorem dX5_advance_188 : decode cX5_advance 188 = .ok (.bipush 48, 2) := by decide +kernel
theorem dX5_advance_190 : decode cX5_advance 190 = .ok (.if_icmp .lt 41, 3) := by decide +kernel
theorem dX5_advance_193 : decode cX5_advance 193 = .ok (.aload_n 0, 1) := by decide +kernel
theorem dX5_advance_194 : decode cX5_advance 194 = .ok (.getfield 15, 3) := by decide +kernel
theorem dX5_advance_197 : decode cX5_advance 197 = .ok (.aload_n 0, 1) := by decide +kernel
theorem dX5_advance_198 : decode cX5_advance 198 = .ok (.getfield 39, 3) := by decide +kernel
theorem dX5_advance_201 : decode cX5_advance 201 = .ok (.iaload, 1) := by decide +kernel
theorem dX5_advance_202 : decode cX5_advance 202 = .ok (.bipush 57, 2) := by decide +kernel
theorem dX5_advance_204 : decode cX5_advance 204 = .ok (.if_icmp .gt 27, 3) := by decide +kernel
theorem dX5_advance_207 : decode cX5_advance 207 = .ok (.aload_n 0, 1) := by decide +kernel
theorem dX5_advance_208 : decode cX5_advance 208 = .ok (.iload_n 1, 1) := by decide +kernel
theorem dX5_advance_209 : decode cX5_advance 209 = .ok (.ifCond .eq 15, 3) := by decide +kernel
theorem dX5_advance_212 : decode cX5_advance 212 = .ok (.aload_n 0, 1) := by decide +kernel
theorem dX5_advance_213 : decode cX5_advance 213 = .ok (.getfield 39, 3) := by decide +kernel
theorem dX5_advance_216 : decode cX5_advance 216 = .ok (.iload_n 2, 1) := by decide +kernel
theorem dX5_advance_217 : decode cX5_advance 217 = .ok (.if_icmp .ne 7, 3) := by decide +kernel
theorem dX5_advance_220 : decode cX5_advance 220 = .ok (.iconst 1, 1) := by decide +kernel
theorem dX5_advance_221 : decode cX5_advance 221 = .ok (.goto 4, 3) := by decide +kernel
theorem dX5_advance_224 : decode cX5_advance 224 = .ok (.iconst 0, 1) := by decide +kernel
theorem dX5_advance_225 : decode cX5_advance 225 = .ok (.invokevirtual 67, 3) := by decide +kernel
theorem dX5_advance_228 : decode cX5_advance 228 = .ok (.goto 31, 3) := by decide +kernel
theorem dX5_advance_231 : decode cX5_advance 231 = .ok (.aload_n 0, 1) := by decide +kernel
theorem dX5_advance_232 : decode cX5_advance 232 = .ok (.iconst 4, 1) := by decide +kernel
theorem dX5_advance_233 : decode cX5_advance 233 = .ok (.putfield 42, 3) := by decide +kernel
theorem dX5_advance_236 : decode cX5_advance 236 = .ok (.aload_n 0, 1) := by decide +kernel
theorem dX5_advance_237 : decode cX5_advance 237 = .ok (.aload_n 0, 1) := by decide +kernel
theorem dX5_advance_238 : decode cX5_advance 238 = .ok (.getfield 15, 3) := by decide +kernel
theorem dX5_advance_241 : decode cX5_advance 241 = .ok (.aload_n 0, 1) := by decide +kernel
theorem dX5_advance_242 : decode cX5_advance 242 = .ok (.getfield 39, 3) := by decide +kernel
theorem dX5_advance_245 : decode cX5_advance 245 = .ok (.iaload, 1) := by decide +kernel
theorem dX5_advance_246 : decode cX5_advance 246 = .ok (.putfield 60, 3) := by decide +kernel
theorem dX5_advance_249 : decode cX5_advance 249 = .ok (.aload_n 0, 1) := by decide +kernel
theorem dX5_advance_250 : decode cX5_advance 250 = .ok (.dup, 1) := by decide +kernel
theorem dX5_advance_251 : decode cX5_advance 251 = .ok (.getfield 39, 3) := by decide +kernel
theorem dX5_advance_254 : decode cX5_advance 254 = .ok (.iconst 1, 1) := by decide +kernel
theorem dX5_advance_255 : decode cX5_advance 255 = .ok (.iadd, 1) := by decide +kernel
theorem dX5_advance_256 : decode cX5_advance 256 = .ok (.putfield 39, 3) := by decide +kernel
theorem dX5_advance_259 : decode cX5_advance 259 = .ok (.return_, 1) := by decide +kernel
noncomputable def tX5_advance_0 : List (Nat × zF) := [(0, (zla4 0 1)), (1, (zgf 5 4)), (4, (zst 1 (zp (.int (1))))), (5, (z_ic_eq 24)), (8, (zla4 0 1)), (9, (zgf 5 4)), (12, (zst 1 (zp (.int (2))))), (13, (z_ic_eq 24)), (16, (zla4 0 1)), (17, (zgf 5 4)), (20, (zst 1 (zp (.int (3))))), (21, (z_ic_ne 28))]
theorem kX5_advance_0 : ∀ q ∈ tX5_advance_0, zOk zg iX5_advance q.1 q.2 := (z_c (ok_aload_n dX5_advance_0 rfl) (z_c (ok_getf (C := RX5) (T := TX5) (N := 12) rfl (by decide) zinX5 rfl zw_255 dX5_advance_1) (z_c (ok_iconst (v := (1)) dX5_advance_4 (by decide)) (z_c (ok_icmp_eq dX5_advance_5 (by decide)) (z_c (ok_aload_n dX5_advance_8 rfl) (z_c (ok_getf (C := RX5) (T := TX5) (N := 12) rfl (by decide) zinX5 rfl zw_255 dX5_advance_9) (z_c (ok_iconst (v := (2)) dX5_advance_12 (by decide)) (z_c (ok_icmp_eq dX5_advance_13 (by decide)) (z_c (ok_aload_n dX5_advance_16 rfl) (z_c (ok_getf (C := RX5) (T := TX5) (N := 12) rfl (by decide) zinX5 rfl zw_255 dX5_advance_17) (z_c (ok_iconst (v := (3)) dX5_advance_20 (by decide)) (z_c (ok_icmp_ne dX5_advance_21 (by decide)) z_n))))))))))))
noncomputable def tX5_advance_1 : List (Nat × zF) := [(24, (zst 1 (zp (.int (1))))), (25, (zgt 29)), (28, (zst 1 (zp (.int (0))))), (29, (zsi4 3 1 1)), (30, (zla4 0 1)), (31, (zgf 5 3)), (34, (zsi4 3 2 1)), (35, (zla4 0 1)), (36, (zgf 5 3)), (39, (zla4 0 1)), (40, (zgf 5 2)), (43, (z_ic_ge 87))]
theorem kX5_advance_1 : ∀ q ∈ tX5_advance_1, zOk zg iX5_advance q.1 q.2 := (z_c (ok_iconst (v := (1)) dX5_advance_24 (by decide)) (z_c (ok_goto dX5_advance_25 (by decide)) (z_c (ok_iconst (v := (0)) dX5_advance_28 (by decide)) (z_c (ok_istore_n dX5_advance_29 rfl) (z_c (ok_aload_n dX5_advance_30 rfl) (z_c (ok_getf (C := RX5) (T := TX5) (N := 12) rfl (by decide) zinX5 rfl zw_254 dX5_advance_31) (z_c (ok_istore_n dX5_advance_34 rfl) (z_c (ok_aload_n dX5_advance_35 rfl) (z_c (ok_getf (C := RX5) (T := TX5) (N := 12) rfl (by decide) zinX5 rfl zw_254 dX5_advance_36) (z_c (ok_aload_n dX5_advance_39 rfl) (z_c (ok_getf (C := RX5) (T := TX5) (N := 12) rfl (by decide) zinX5 rfl zw_253 dX5_advance_40) (z_c (ok_icmp_ge dX5_advance_43 (by decide)) z_n))))))))))))
noncomputable def tX5_advance_2 : List (Nat × zF) := [(46, (zla4 0 1)), (47, (zgf 5 1)), (50, (zla4 0 1)), (51, (zgf 5 3)), (54, (zal 0)), (55, (zst 2 (zp (.int (32))))), (57, (z_ic_eq 74)), (60, (zla4 0 1)), (61, (zgf 5 1)), (64, (zla4 0 1)), (65, (zgf 5 3)), (68, (zal 0))]
theorem kX5_advance_2 : ∀ q ∈ tX5_advance_2, zOk zg iX5_advance q.1 q.2 := (z_c (ok_aload_n dX5_advance_46 rfl) (z_c (ok_getf (C := RX5) (T := TX5) (N := 12) rfl (by decide) zinX5 rfl zw_245 dX5_advance_47) (z_c (ok_aload_n dX5_advance_50 rfl) (z_c (ok_getf (C := RX5) (T := TX5) (N := 12) rfl (by decide) zinX5 rfl zw_254 dX5_advance_51) (z_c (ok_iaload rfl dX5_advance_54) (z_c (ok_bipush (v := (32)) dX5_advance_55 (by decide)) (z_c (ok_icmp_eq dX5_advance_57 (by decide)) (z_c (ok_aload_n dX5_advance_60 rfl) (z_c (ok_getf (C := RX5) (T := TX5) (N := 12) rfl (by decide) zinX5 rfl zw_245 dX5_advance_61) (z_c (ok_aload_n dX5_advance_64 rfl) (z_c (ok_getf (C := RX5) (T := TX5) (N := 12) rfl (by decide) zinX5 rfl zw_254 dX5_advance_65) (z_c (ok_iaload rfl dX5_advance_68) z_n))))))))))))
noncomputable def tX5_advance_3 : List (Nat × zF) := [(69, (zst 2 (zp (.int (10))))), (71, (z_ic_ne 87)), (74, (zla4 0 1)), (75, (zst 1 zdu)), (76, (zgf 5 3)), (79, (zst 1 (zp (.int (1))))), (80, (zst 1 z_iadd)), (81, (zpf 5 3 (.int))), (84, (zgt 35)), (87, (zla4 0 1)), (88, (zla4 0 1)), (89, (zgf 5 3))]
theorem kX5_advance_3 : ∀ q ∈ tX5_advance_3, zOk zg iX5_advance q.1 q.2 := (z_c (ok_bipush (v := (10)) dX5_advance_69 (by decide)) (z_c (ok_icmp_ne dX5_advance_71 (by decide)) (z_c (ok_aload_n dX5_advance_74 rfl) (z_c (ok_dup dX5_advance_75) (z_c (ok_getf (C := RX5) (T := TX5) (N := 12) rfl (by decide) zinX5 rfl zw_254 dX5_advance_76) (z_c (ok_iconst (v := (1)) dX5_advance_79 (by decide)) (z_c (ok_iadd dX5_advance_80) (z_c (ok_putf (C := RX5) (T := TX5) (N := 12) false tyX5 tyX5_ok nmX5 rfl (by decide) zinX5 rfl zw_254 rfl (fun h => absurd h (by decide)) rfl dX5_advance_81) (z_c (ok_goto dX5_advance_84 (by decide)) (z_c (ok_aload_n dX5_advance_87 rfl) (z_c (ok_aload_n dX5_advance_88 rfl) (z_c (ok_getf (C := RX5) (T := TX5) (N := 12) rfl (by decide) zinX5 rfl zw_254 dX5_advance_89) z_n))))))))))))
noncomputable def tX5_advance_4 : List (Nat × zF) := [(92, (zpf 5 6 (.int))), (95, (zla4 0 1)), (96, (zla4 0 1)), (97, (zgf 5 3)), (100, (zpf 5 7 (.int))), (103, (zla4 0 1)), (104, (zst 1 (zp (.int (0))))), (105, (zpf 5 5 (.int))), (108, (zla4 0 1)), (109, (zgf 5 3)), (112, (zla4 0 1)), (113, (zgf 5 2))]
theorem kX5_advance_4 : ∀ q ∈ tX5_advance_4, zOk zg iX5_advance q.1 q.2 := (z_c (ok_putf (C := RX5) (T := TX5) (N := 12) false tyX5 tyX5_ok nmX5 rfl (by decide) zinX5 rfl zw_261 rfl (fun h => absurd h (by decide)) rfl dX5_advance_92) (z_c (ok_aload_n dX5_advance_95 rfl) (z_c (ok_aload_n dX5_advance_96 rfl) (z_c (ok_getf (C := RX5) (T := TX5) (N := 12) rfl (by decide) zinX5 rfl zw_254 dX5_advance_97) (z_c (ok_putf (C := RX5) (T := TX5) (N := 12) false tyX5 tyX5_ok nmX5 rfl (by decide) zinX5 rfl zw_262 rfl (fun h => absurd h (by decide)) rfl dX5_advance_100) (z_c (ok_aload_n dX5_advance_103 rfl) (z_c (ok_iconst (v := (0)) dX5_advance_104 (by decide)) (z_c (ok_putf (C := RX5) (T := TX5) (N := 12) false tyX5 tyX5_ok nmX5 rfl (by decide) zinX5 rfl zw_263 rfl (fun h => absurd h (by decide)) rfl dX5_advance_105) (z_c (ok_aload_n dX5_advance_108 rfl) (z_c (ok_getf (C := RX5) (T := TX5) (N := 12) rfl (by decide) zinX5 rfl zw_254 dX5_advance_109) (z_c (ok_aload_n dX5_advance_112 rfl) (z_c (ok_getf (C := RX5) (T := TX5) (N := 12) rfl (by decide) zinX5 rfl zw_253 dX5_advance_113) z_n))))))))))))
noncomputable def tX5_advance_5 : List (Nat × zF) := [(116, (z_ic_lt 127)), (119, (zla4 0 1)), (120, (zst 1 (zp (.int (0))))), (121, (zpf 5 4 (.int))), (124, (zgt 259)), (127, (zla4 0 1)), (128, (zgf 5 1)), (131, (zla4 0 1)), (132, (zgf 5 3)), (135, (zal 0)), (136, (zst 2 (zp (.int (97))))), (138, (z_ic_lt 179))]
theorem kX5_advance_5 : ∀ q ∈ tX5_advance_5, zOk zg iX5_advance q.1 q.2 := (z_c (ok_icmp_lt dX5_advance_116 (by decide)) (z_c (ok_aload_n dX5_advance_119 rfl) (z_c (ok_iconst (v := (0)) dX5_advance_120 (by decide)) (z_c (ok_putf (C := RX5) (T := TX5) (N := 12) false tyX5 tyX5_ok nmX5 rfl (by decide) zinX5 rfl zw_255 rfl (fun h => absurd h (by decide)) rfl dX5_advance_121) (z_c (ok_goto dX5_advance_124 (by decide)) (z_c (ok_aload_n dX5_advance_127 rfl) (z_c (ok_getf (C := RX5) (T := TX5) (N := 12) rfl (by decide) zinX5 rfl zw_245 dX5_advance_128) (z_c (ok_aload_n dX5_advance_131 rfl) (z_c (ok_getf (C := RX5) (T := TX5) (N := 12) rfl (by decide) zinX5 rfl zw_254 dX5_advance_132) (z_c (ok_iaload rfl dX5_advance_135) (z_c (ok_bipush (v := (97)) dX5_advance_136 (by decide)) (z_c (ok_icmp_lt dX5_advance_138 (by decide)) z_n))))))))))))
noncomputable def tX5_advance_6 : List (Nat × zF) := [(141, (zla4 0 1)), (142, (zgf 5 1)), (145, (zla4 0 1)), (146, (zgf 5 3)), (149, (zal 0)), (150, (zst 2 (zp (.int (122))))), (152, (z_ic_gt 179)), (155, (zla4 0 1)), (156, (zli4 1 1)), (157, (z_if_eq 172)), (160, (zla4 0 1)), (161, (zgf 5 3))]
theorem kX5_advance_6 : ∀ q ∈ tX5_advance_6, zOk zg iX5_advance q.1 q.2 := (z_c (ok_aload_n dX5_advance_141 rfl) (z_c (ok_getf (C := RX5) (T := TX5) (N := 12) rfl (by decide) zinX5 rfl zw_245 dX5_advance_142) (z_c (ok_aload_n dX5_advance_145 rfl) (z_c (ok_getf (C := RX5) (T := TX5) (N := 12) rfl (by decide) zinX5 rfl zw_254 dX5_advance_146) (z_c (ok_iaload rfl dX5_advance_149) (z_c (ok_bipush (v := (122)) dX5_advance_150 (by decide)) (z_c (ok_icmp_gt dX5_advance_152 (by decide)) (z_c (ok_aload_n dX5_advance_155 rfl) (z_c (ok_iload_n dX5_advance_156 rfl) (z_c (ok_if_eq dX5_advance_157 (by decide)) (z_c (ok_aload_n dX5_advance_160 rfl) (z_c (ok_getf (C := RX5) (T := TX5) (N := 12) rfl (by decide) zinX5 rfl zw_254 dX5_advance_161) z_n))))))))))))
noncomputable def tX5_advance_7 : List (Nat × zF) := [(164, (zli4 2 1)), (165, (z_ic_ne 172)), (168, (zst 1 (zp (.int (1))))), (169, (zgt 173)), (172, (zst 1 (zp (.int (0))))), (173, (zcv 59 1 5)), (176, (zgt 259)), (179, (zla4 0 1)), (180, (zgf 5 1)), (183, (zla4 0 1)), (184, (zgf 5 3)), (187, (zal 0))]
theorem kX5_advance_7 : ∀ q ∈ tX5_advance_7, zOk zg iX5_advance q.1 q.2 := (z_c (ok_iload_n dX5_advance_164 rfl) (z_c (ok_icmp_ne dX5_advance_165 (by decide)) (z_c (ok_iconst (v := (1)) dX5_advance_168 (by decide)) (z_c (ok_goto dX5_advance_169 (by decide)) (z_c (ok_iconst (v := (0)) dX5_advance_172 (by decide)) (z_c (ok_callV zcal_59 (q := (RX5, TX5, 12)) rfl zw_264 zw_265 zw_266 dX5_advance_173) (z_c (ok_goto dX5_advance_176 (by decide)) (z_c (ok_aload_n dX5_advance_179 rfl) (z_c (ok_getf (C := RX5) (T := TX5) (N := 12) rfl (by decide) zinX5 rfl zw_245 dX5_advance_180) (z_c (ok_aload_n dX5_advance_183 rfl) (z_c (ok_getf (C := RX5) (T := TX5) (N := 12) rfl (by decide) zinX5 rfl zw_254 dX5_advance_184) (z_c (ok_iaload rfl dX5_advance_187) z_n))))))))))))
noncomputable def tX5_advance_8 : List (Nat × zF) := [(188, (zst 2 (zp (.int (48))))), (190, (z_ic_lt 231)), (193, (zla4 0 1)), (194, (zgf 5 1)), (197, (zla4 0 1)), (198, (zgf 5 3)), (201, (zal 0)), (202, (zst 2 (zp (.int (57))))), (204, (z_ic_gt 231)), (207, (zla4 0 1)), (208, (zli4 1 1)), (209, (z_if_eq 224))]
theorem kX5_advance_8 : ∀ q ∈ tX5_advance_8, zOk zg iX5_advance q.1 q.2 := (z_c (ok_bipush (v := (48)) dX5_advance_188 (by decide)) (z_c (ok_icmp_lt dX5_advance_190 (by decide)) (z_c (ok_aload_n dX5_advance_193 rfl) (z_c (ok_getf (C := RX5) (T := TX5) (N := 12) rfl (by decide) zinX5 rfl zw_245 dX5_advance_194) (z_c (ok_aload_n dX5_advance_197 rfl) (z_c (ok_getf (C := RX5) (T := TX5) (N := 12) rfl (by decide) zinX5 rfl zw_254 dX5_advance_198) (z_c (ok_iaload rfl dX5_advance_201) (z_c (ok_bipush (v := (57)) dX5_advance_202 (by decide)) (z_c (ok_icmp_gt dX5_advance_204 (by decide)) (z_c (ok_aload_n dX5_advance_207 rfl) (z_c (ok_iload_n dX5_advance_208 rfl) (z_c (ok_if_eq dX5_advance_209 (by decide)) z_n))))))))))))
noncomputable def tX5_advance_9 : List (Nat × zF) := [(212, (zla4 0 1)), (213, (zgf 5 3)), (216, (zli4 2 1)), (217, (z_ic_ne 224)), (220, (zst 1 (zp (.int (1))))), (221, (zgt 225)), (224, (zst 1 (zp (.int (0))))), (225, (zcv 60 1 5)), (228, (zgt 259)), (231, (zla4 0 1)), (232, (zst 1 (zp (.int (4))))), (233, (zpf 5 4 (.int)))]
theorem kX5_advance_9 : ∀ q ∈ tX5_advance_9, zOk zg iX5_advance q.1 q.2 := (z_c (ok_aload_n dX5_advance_212 rfl) (z_c (ok_getf (C := RX5) (T := TX5) (N := 12) rfl (by decide) zinX5 rfl zw_254 dX5_advance_213) (z_c (ok_iload_n dX5_advance_216 rfl) (z_c (ok_icmp_ne dX5_advance_217 (by decide)) (z_c (ok_iconst (v := (1)) dX5_advance_220 (by decide)) (z_c (ok_goto dX5_advance_221 (by decide)) (z_c (ok_iconst (v := (0)) dX5_advance_224 (by decide)) (z_c (ok_callV zcal_60 (q := (RX5, TX5, 12)) rfl zw_267 zw_268 zw_269 dX5_advance_225) (z_c (ok_goto dX5_advance_228 (by decide)) (z_c (ok_aload_n dX5_advance_231 rfl) (z_c (ok_iconst (v := (4)) dX5_advance_232 (by decide)) (z_c (ok_putf (C := RX5) (T := TX5) (N := 12) false tyX5 tyX5_ok nmX5 rfl (by decide) zinX5 rfl zw_255 rfl (fun h => absurd h (by decide)) rfl dX5_advance_233) z_n))))))))))))
noncomputable def tX5_advance_10 : List (Nat × zF) := [(236, (zla4 0 1)), (237, (zla4 0 1)), (238, (zgf 5 1)), (241, (zla4 0 1)), (242, (zgf 5 3)), (245, (zal 0)), (246, (zpf 5 5 (.int))), (249, (zla4 0 1)), (250, (zst 1 zdu)), (251, (zgf 5 3)), (254, (zst 1 (zp (.int (1))))), (255, (zst 1 z_iadd))]
theorem kX5_advance_10 : ∀ q ∈ tX5_advance_10, zOk zg iX5_advance q.1 q.2 := (z_c (ok_aload_n dX5_advance_236 rfl) (z_c (ok_aload_n dX5_advance_237 rfl) (z_c (ok_getf (C := RX5) (T := TX5) (N := 12) rfl (by decide) zinX5 rfl zw_245 dX5_advance_238) (z_c (ok_aload_n dX5_advance_241 rfl) (z_c (ok_getf (C := RX5) (T := TX5) (N := 12) rfl (by decide) zinX5 rfl zw_254 dX5_advance_242) (z_c (ok_iaload rfl dX5_advance_245) (z_c (ok_putf (C := RX5) (T := TX5) (N := 12) false tyX5 tyX5_ok nmX5 rfl (by decide) zinX5 rfl zw_263 rfl (fun h => absurd h (by decide)) rfl dX5_advance_246) (z_c (ok_aload_n dX5_advance_249 rfl) (z_c (ok_dup dX5_advance_250) (z_c (ok_getf (C := RX5) (T := TX5) (N := 12) rfl (by decide) zinX5 rfl zw_254 dX5_advance_251) (z_c (ok_iconst (v := (1)) dX5_advance_254 (by decide)) (z_c (ok_iadd dX5_advance_255) z_n))))))))))))
noncomputable def tX5_advance_11 : List (Nat × zF) := [(256, (zpf 5 3 (.int))), (259, zrv)]
theorem kX5_advance_11 : ∀ q ∈ tX5_advance_11, zOk zg iX5_advance q.1 q.2 := (z_c (ok_putf (C := RX5) (T := TX5) (N := 12) false tyX5 tyX5_ok nmX5 rfl (by decide) zinX5 rfl zw_254 rfl (fun h => absurd h (by decide)) rfl dX5_advance_256) (z_c (ok_return rfl dX5_advance_259) z_n))
noncomputable def tX5_advance : zT := [(24, tX5_advance_0), (46, tX5_advance_1), (69, tX5_advance_2), (92, tX5_advance_3), (116, tX5_advance_4), (141, tX5_advance_5), (164, tX5_advance_6), (188, tX5_advance_7), (212, tX5_advance_8), (236, tX5_advance_9), (256, tX5_advance_10), (100000, tX5_advance_11)]
theorem kX5_advance : zTok zg iX5_advance tX5_advance := (z_t kX5_advance_0 (z_t kX5_advance_1 (z_t kX5_advance_2 (z_t kX5_advance_3 (z_t kX5_advance_4 (z_t kX5_advance_5 (z_t kX5_advance_6 (z_t kX5_advance_7 (z_t kX5_advance_8 (z_t kX5_advance_9 (z_t kX5_advance_10 (z_t kX5_advance_11 z_tn))))))))))))
theorem dX5_readWord_0 : decode cX5_readWord 0 = .ok (.iconst 0, 1) := by decide +kernel
theorem dX5_readWord_1 : decode cX5_readWord 1 = .ok (.istore_n 2, 1) := by decide +kernel
theorem dX5_readWord_2 : decode cX5_readWord 2 = .ok (.iconst 0, 1) := by decide +kernel
theorem dX5_readWord_3 : decode cX5_readWord 3 = .ok (.istore_n 3, 1) := by decide +kernel
theorem dX5_readWord_4 : decode cX5_readWord 4 = .ok (.aload_n 0, 1) := by decide +kernel
theorem dX5_readWord_5 : decode cX5_readWord 5 = .ok (.getfield 39, 3) := by decide +kernel
theorem dX5_readWord_8 : decode cX5_readWord 8 = .ok (.aload_n 0, 1) := by decide +kernel
theorem dX5_readWord_9 : decode cX5_readWord 9 = .ok (.getfield 36, 3) := by decide +kernel
theorem dX5_readWord_12 : decode cX5_readWord 12 = .ok (.if_icmp .ge 88, 3) := by decide +kernel
theorem dX5_readWord_15 : decode cX5_readWord 15 = .ok (.aload_n 0, 1) := by decide +kernel
theorem dX5_readWord_16 : decode cX5_readWord 16 = .ok (.getfield 15, 3) := by decide +kernel
theorem dX5_readWord_19 : decode cX5_readWord 19 = .ok (.aload_n 0, 1) := by decide +kernel
theorem dX5_readWord_20 : decode cX5_readWord 20 = .ok (.getfield 39, 3) := by decide +kernel
theorem dX5_readWord_23 : decode cX5_readWord 23 = .ok (.iaload, 1) := by decide +kernel
theorem dX5_readWord_24 : decode cX5_readWord 24 = .ok (.bipush 97, 2) := by decide +kernel
theorem dX5_readWord_26 : decode cX5_readWord 26 = .ok (.if_icmp .lt 74, 3) := by decide +kernel
theorem dX5_readWord_29 : decode cX5_readWord 29 = .ok (.aload_n 0, 1) := by decide +kernel
theorem dX5_readWord_30 : decode cX5_readWord 30 = .ok (.getfield 15, 3) := by decide +kernel
theorem dX5_readWord_33 : decode cX5_readWord 33 = .ok (.aload_n 0, 1) := by decide +kernel
theorem dX5_readWord_34 : decode cX5_readWord 34 = .ok (.getfield 39, 3) := by decide +kernel
theorem dX5_readWord_37 : decode cX5_readWord 37 = .ok (.iaload, 1) := by decide +kernel
theorem dX5_readWord_38 : decode cX5_readWord 38 = .ok (.bipush 122, 2) := by decide +kernel
theorem dX5_readWord_40 : decode cX5_readWord 40 = .ok (.if_icmp .gt 60, 3) := by decide +kernel
theorem dX5_readWord_43 : decode cX5_readWord 43 = .ok (.iload_n 3, 1) := by decide +kernel
theorem dX5_readWord_44 : decode cX5_readWord 44 = .ok (.bipush 6, 2) := by decide +kernel
theorem dX5_readWord_46 : decode cX5_readWord 46 = .ok (.if_icmp .ne 17, 3) := by decide +kernel
theorem dX5_readWord_49 : decode cX5_readWord 49 = .ok (.aload_n 0, 1) := by decide +kernel
theorem dX5_readWord_50 : decode cX5_readWord 50 = .ok (.iconst 5, 1) := by decide +kernel
theorem dX5_readWord_51 : decode cX5_readWord 51 = .ok (.putfield 42, 3) := by decide +kernel
theorem dX5_readWord_54 : decode cX5_readWord 54 = .ok (.aload_n 0, 1) := by decide +kernel
theorem dX5_readWord_55 : decode cX5_readWord 55 = .ok (.aload_n 0, 1) := by decide +kernel
theorem dX5_readWord_56 : decode cX5_readWord 56 = .ok (.getfield 39, 3) := by decide +kernel
theorem dX5_readWord_59 : decode cX5_readWord 59 = .ok (.putfield 57, 3) := by decide +kernel
theorem dX5_readWord_62 : decode cX5_readWord 62 = .ok (.return_, 1) := by decide +kernel
theorem dX5_readWord_63 : decode cX5_readWord 63 = .ok (.iload_n 2, 1) := by decide +kernel
theorem dX5_readWord_64 : decode cX5_readWord 64 = .ok (.aload_n 0, 1) := by decide +kernel
theorem dX5_readWord_65 : decode cX5_readWord 65 = .ok (.getfield 15, 3) := by decide +kernel
theorem dX5_readWord_68 : decode cX5_readWord 68 = .ok (.aload_n 0, 1) := by decide +kernel
theorem dX5_readWord_69 : decode cX5_readWord 69 = .ok (.getfield 39, 3) := by decide +kernel
theorem dX5_readWord_72 : decode cX5_readWord 72 = .ok (.iaload, 1) := by decide +kernel
theorem dX5_readWord_73 : decode cX5_readWord 73 = .ok (.bipush 97, 2) := by decide +kernel
theorem dX5_readWord_75 : decode cX5_readWord 75 = .ok (.isub, 1) := by decide +kernel
theorem dX5_readWord_76 : decode cX5_readWord 76 = .ok (.iconst 1, 1) := by decide +kernel
theorem dX5_readWord_77 : decode cX5_readWord 77 = .ok (.iadd, 1) := by decide +kernel
theorem dX5_readWord_78 : decode cX5_readWord 78 = .ok (.iconst 5, 1) := by decide +kernel
theorem dX5_readWord_79 : decode cX5_readWord 79 = .ok (.iload_n 3, 1) := by decide +kernel
theorem dX5_readWord_80 : decode cX5_readWord 80 = .ok (.imul, 1) := by decide +kernel
theorem dX5_readWord_81 : decode cX5_readWord 81 = .ok (.ishl, 1) := by decide +kernel
theorem dX5_readWord_82 : decode cX5_readWord 82 = .ok (.ior, 1) := by decide +kernel
theorem dX5_readWord_83 : decode cX5_readWord 83 = .ok (.istore_n 2, 1) := by decide +kernel
theorem dX5_readWord_84 : decode cX5_readWord 84 = .ok (.aload_n 0, 1) := by decide +kernel
theorem dX5_readWord_85 : decode cX5_readWord 85 = .ok (.dup, 1) := by decide +kernel
theorem dX5_readWord_86 : decode cX5_readWord 86 = .ok (.getfield 39, 3) := by decide +kernel
theorem dX5_readWord_89 : decode cX5_readWord 89 = .ok (.iconst 1, 1) := by decide +kernel
theorem dX5_readWord_90 : decode cX5_readWord 90 = .ok (.iadd, 1) := by decide +kernel
theorem dX5_readWord_91 : decode cX5_readWord 91 = .ok (.putfield 39, 3) := by decide +kernel
theorem dX5_readWord_94 : decode cX5_readWord 94 = .ok (.iinc 3 1, 3) := by decide +kernel
theorem dX5_readWord_97 : decode cX5_readWord 97 = .ok (.goto (-93), 3) := by decide +kernel
theorem dX5_readWord_100 : decode cX5_readWord 100 = .ok (.aload_n 0, 1) := by decide +kernel
theorem dX5_readWord_101 : decode cX5_readWord 101 = .ok (.iload_n 1, 1) := by decide +kernel
theorem dX5_readWord_102 : decode cX5_readWord 102 = .ok (.ifCond .eq 7, 3) := by decide +kernel
theorem dX5_readWord_105 : decode cX5_readWord 105 = .ok (.iconst 5, 1) := by decide +kernel
theorem dX5_readWord_106 : decode cX5_readWord 106 = .ok (.goto 4, 3) := by decide +kernel
theorem dX5_readWord_109 : decode cX5_readWord 109 = .ok (.iconst 1, 1) := by decide +kernel
theorem dX5_readWord_110 : decode cX5_readWord 110 = .ok (.putfield 42, 3) := by decide +kernel
theorem dX5_readWord_113 : decode cX5_readWord 113 = .ok (.aload_n 0, 1) := by decide +kernel
theorem dX5_readWord_114 : decode cX5_readWord 114 = .ok (.iload_n 2, 1) := by decide +kernel
theorem dX5_readWord_115 : decode cX5_readWord 115 = .ok (.putfield 60, 3) := by decide +kernel
theorem dX5_readWord_118 : decode cX5_readWord 118 = .ok (.iconst 0, 1) := by decide +kernel
theorem dX5_readWord_119 : decode cX5_readWord 119 = .ok (.istore_n 3, 1) := by decide +kernel
theorem dX5_readWord_120 : decode cX5_readWord 120 = .ok (.iload_n 3, 1) := by decide +kernel
theorem dX5_readWord_121 : decode cX5_readWord 121 = .ok (.bipush 26, 2) := by decide +kernel
theorem dX5_readWord_123 : decode cX5_readWord 123 = .ok (.if_icmp .ge 37, 3) := by decide +kernel
theorem dX5_readWord_126 : decode cX5_readWord 126 = .ok (.aload_n 0, 1) := by decide +kernel
theorem dX5_readWord_127 : decode cX5_readWord 127 = .ok (.getfield 42, 3) := by decide +kernel
theorem dX5_readWord_130 : decode cX5_readWord 130 = .ok (.iconst 1, 1) := by decide +kernel
theorem dX5_readWord_131 : decode cX5_readWord 131 = .ok (.if_icmp .ne 29, 3) := by decide +kernel
theorem dX5_readWord_134 : decode cX5_readWord 134 = .ok (.aload_n 0, 1) := by decide +kernel
theorem dX5_readWord_135 : decode cX5_readWord 135 = .ok (.getfield 9, 3) := by decide +kernel
theorem dX5_readWord_138 : decode cX5_readWord 138 = .ok (.iload_n 3, 1) := by decide +kernel
theorem dX5_readWord_139 : decode cX5_readWord 139 = .ok (.iaload, 1) := by decide +kernel
theorem dX5_readWord_140 : decode cX5_readWord 140 = .ok (.iload_n 2, 1) := by decide +kernel
theorem dX5_readWord_141 : decode cX5_readWord 141 = .ok (.if_icmp .ne 13, 3) := by decide +kernel
theorem dX5_readWord_144 : decode cX5_readWord 144 = .ok (.aload_n 0, 1) := by decide +kernel
theorem dX5_readWord_145 : decode cX5_readWord 145 = .ok (.iconst 2, 1) := by decide +kernel
theorem dX5_readWord_146 : decode cX5_readWord 146 = .ok (.putfield 42, 3) := by decide +kernel
theorem dX5_readWord_149 : decode cX5_readWord 149 = .ok (.aload_n 0, 1) := by decide +kernel
theorem dX5_readWord_150 : decode cX5_readWord 150 = .ok (.iload_n 3, 1) := by decide +kernel
theorem dX5_readWord_151 : decode cX5_readWord 151 = .ok (.putfield 60, 3) := by decide +kernel
theorem dX5_readWord_154 : decode cX5_readWord 154 = .ok (.iinc 3 1, 3) := by decide +kernel
theorem dX5_readWord_157 : decode cX5_readWord 157 = .ok (.goto (-37), 3) := by decide +kernel
theorem dX5_readWord_160 : decode cX5_readWord 160 = .ok (.return_, 1) := by decide +kernel
noncomputable def tX5_readWord_0 : List (Nat × zF) := [(0, (zst 1 (zp (.int (0))))), (1, (zsi4 4 2 1)), (2, (zst 1 (zp (.int (0))))), (3, (zsi4 4 3 1)), (4, (zla4 0 1)), (5, (zgf 5 3)), (8, (zla4 0 1)), (9, (zgf 5 2)), (12, (z_ic_ge 100)), (15, (zla4 0 1)), (16, (zgf 5 1)), (19, (zla4 0 1))]
theorem kX5_readWord_0 : ∀ q ∈ tX5_readWord_0, zOk zg iX5_readWord q.1 q.2 := (z_c (ok_iconst (v := (0)) dX5_readWord_0 (by decide)) (z_c (ok_istore_n dX5_readWord_1 rfl) (z_c (ok_iconst (v := (0)) dX5_readWord_2 (by decide)) (z_c (ok_istore_n dX5_readWord_3 rfl) (z_c (ok_aload_n dX5_readWord_4 rfl) (z_c (ok_getf (C := RX5) (T := TX5) (N := 12) rfl (by decide) zinX5 rfl zw_254 dX5_readWord_5) (z_c (ok_aload_n dX5_readWord_8 rfl) (z_c (ok_getf (C := RX5) (T := TX5) (N := 12) rfl (by decide) zinX5 rfl zw_253 dX5_readWord_9) (z_c (ok_icmp_ge dX5_readWord_12 (by decide)) (z_c (ok_aload_n dX5_readWord_15 rfl) (z_c (ok_getf (C := RX5) (T := TX5) (N := 12) rfl (by decide) zinX5 rfl zw_245 dX5_readWord_16) (z_c (ok_aload_n dX5_readWord_19 rfl) z_n))))))))))))
noncomputable def tX5_readWord_1 : List (Nat × zF) := [(20, (zgf 5 3)), (23, (zal 0)), (24, (zst 2 (zp (.int (97))))), (26, (z_ic_lt 100)), (29, (zla4 0 1)), (30, (zgf 5 1)), (33, (zla4 0 1)), (34, (zgf 5 3)), (37, (zal 0)), (38, (zst 2 (zp (.int (122))))), (40, (z_ic_gt 100)), (43, (zli4 3 1))]
theorem kX5_readWord_1 : ∀ q ∈ tX5_readWord_1, zOk zg iX5_readWord q.1 q.2 := (z_c (ok_getf (C := RX5) (T := TX5) (N := 12) rfl (by decide) zinX5 rfl zw_254 dX5_readWord_20) (z_c (ok_iaload rfl dX5_readWord_23) (z_c (ok_bipush (v := (97)) dX5_readWord_24 (by decide)) (z_c (ok_icmp_lt dX5_readWord_26 (by decide)) (z_c (ok_aload_n dX5_readWord_29 rfl) (z_c (ok_getf (C := RX5) (T := TX5) (N := 12) rfl (by decide) zinX5 rfl zw_245 dX5_readWord_30) (z_c (ok_aload_n dX5_readWord_33 rfl) (z_c (ok_getf (C := RX5) (T := TX5) (N := 12) rfl (by decide) zinX5 rfl zw_254 dX5_readWord_34) (z_c (ok_iaload rfl dX5_readWord_37) (z_c (ok_bipush (v := (122)) dX5_readWord_38 (by decide)) (z_c (ok_icmp_gt dX5_readWord_40 (by decide)) (z_c (ok_iload_n dX5_readWord_43 rfl) z_n))))))))))))
noncomputable def tX5_readWord_2 : List (Nat × zF) := [(44, (zst 2 (zp (.int (6))))), (46, (z_ic_ne 63)), (49, (zla4 0 1)), (50, (zst 1 (zp (.int (5))))), (51, (zpf 5 4 (.int))), (54, (zla4 0 1)), (55, (zla4 0 1)), (56, (zgf 5 3)), (59, (zpf 5 7 (.int))), (62, zrv), (63, (zli4 2 1)), (64, (zla4 0 1))]
theorem kX5_readWord_2 : ∀ q ∈ tX5_readWord_2, zOk zg iX5_readWord q.1 q.2 := (z_c (ok_bipush (v := (6)) dX5_readWord_44 (by decide)) (z_c (ok_icmp_ne dX5_readWord_46 (by decide)) (z_c (ok_aload_n dX5_readWord_49 rfl) (z_c (ok_iconst (v := (5)) dX5_readWord_50 (by decide)) (z_c (ok_putf (C := RX5) (T := TX5) (N := 12) false tyX5 tyX5_ok nmX5 rfl (by decide) zinX5 rfl zw_255 rfl (fun h => absurd h (by decide)) rfl dX5_readWord_51) (z_c (ok_aload_n dX5_readWord_54 rfl) (z_c (ok_aload_n dX5_readWord_55 rfl) (z_c (ok_getf (C := RX5) (T := TX5) (N := 12) rfl (by decide) zinX5 rfl zw_254 dX5_readWord_56) (z_c (ok_putf (C := RX5) (T := TX5) (N := 12) false tyX5 tyX5_ok nmX5 rfl (by decide) zinX5 rfl zw_262 rfl (fun h => absurd h (by decide)) rfl dX5_readWord_59) (z_c (ok_return rfl dX5_readWord_62) (z_c (ok_iload_n dX5_readWord_63 rfl) (z_c (ok_aload_n dX5_readWord_64 rfl) z_n))))))))))))
noncomputable def tX5_readWord_3 : List (Nat × zF) := [(65, (zgf 5 1)), (68, (zla4 0 1)), (69, (zgf 5 3)), (72, (zal 0)), (73, (zst 2 (zp (.int (97))))), (75, (zst 1 z_isub)), (76, (zst 1 (zp (.int (1))))), (77, (zst 1 z_iadd)), (78, (zst 1 (zp (.int (5))))), (79, (zli4 3 1)), (80, (zst 1 z_imul)), (81, (zst 1 z_ishl))]
theorem kX5_readWord_3 : ∀ q ∈ tX5_readWord_3, zOk zg iX5_readWord q.1 q.2 := (z_c (ok_getf (C := RX5) (T := TX5) (N := 12) rfl (by decide) zinX5 rfl zw_245 dX5_readWord_65) (z_c (ok_aload_n dX5_readWord_68 rfl) (z_c (ok_getf (C := RX5) (T := TX5) (N := 12) rfl (by decide) zinX5 rfl zw_254 dX5_readWord_69) (z_c (ok_iaload rfl dX5_readWord_72) (z_c (ok_bipush (v := (97)) dX5_readWord_73 (by decide)) (z_c (ok_isub dX5_readWord_75) (z_c (ok_iconst (v := (1)) dX5_readWord_76 (by decide)) (z_c (ok_iadd dX5_readWord_77) (z_c (ok_iconst (v := (5)) dX5_readWord_78 (by decide)) (z_c (ok_iload_n dX5_readWord_79 rfl) (z_c (ok_imul dX5_readWord_80) (z_c (ok_ishl dX5_readWord_81) z_n))))))))))))
noncomputable def tX5_readWord_4 : List (Nat × zF) := [(82, (zst 1 z_ior)), (83, (zsi4 4 2 1)), (84, (zla4 0 1)), (85, (zst 1 zdu)), (86, (zgf 5 3)), (89, (zst 1 (zp (.int (1))))), (90, (zst 1 z_iadd)), (91, (zpf 5 3 (.int))), (94, (zin4 4 3 (1))), (97, (zgt 4)), (100, (zla4 0 1)), (101, (zli4 1 1))]
theorem kX5_readWord_4 : ∀ q ∈ tX5_readWord_4, zOk zg iX5_readWord q.1 q.2 := (z_c (ok_ior dX5_readWord_82) (z_c (ok_istore_n dX5_readWord_83 rfl) (z_c (ok_aload_n dX5_readWord_84 rfl) (z_c (ok_dup dX5_readWord_85) (z_c (ok_getf (C := RX5) (T := TX5) (N := 12) rfl (by decide) zinX5 rfl zw_254 dX5_readWord_86) (z_c (ok_iconst (v := (1)) dX5_readWord_89 (by decide)) (z_c (ok_iadd dX5_readWord_90) (z_c (ok_putf (C := RX5) (T := TX5) (N := 12) false tyX5 tyX5_ok nmX5 rfl (by decide) zinX5 rfl zw_254 rfl (fun h => absurd h (by decide)) rfl dX5_readWord_91) (z_c (ok_iinc (v := (1)) dX5_readWord_94 (by decide)) (z_c (ok_goto dX5_readWord_97 (by decide)) (z_c (ok_aload_n dX5_readWord_100 rfl) (z_c (ok_iload_n dX5_readWord_101 rfl) z_n))))))))))))
noncomputable def tX5_readWord_5 : List (Nat × zF) := [(102, (z_if_eq 109)), (105, (zst 1 (zp (.int (5))))), (106, (zgt 110)), (109, (zst 1 (zp (.int (1))))), (110, (zpf 5 4 (.int))), (113, (zla4 0 1)), (114, (zli4 2 1)), (115, (zpf 5 5 (.int))), (118, (zst 1 (zp (.int (0))))), (119, (zsi4 4 3 1)), (120, (zli4 3 1)), (121, (zst 2 (zp (.int (26)))))]
theorem kX5_readWord_5 : ∀ q ∈ tX5_readWord_5, zOk zg iX5_readWord q.1 q.2 := (z_c (ok_if_eq dX5_readWord_102 (by decide)) (z_c (ok_iconst (v := (5)) dX5_readWord_105 (by decide)) (z_c (ok_goto dX5_readWord_106 (by decide)) (z_c (ok_iconst (v := (1)) dX5_readWord_109 (by decide)) (z_c (ok_putf (C := RX5) (T := TX5) (N := 12) false tyX5 tyX5_ok nmX5 rfl (by decide) zinX5 rfl zw_255 rfl (fun h => absurd h (by decide)) rfl dX5_readWord_110) (z_c (ok_aload_n dX5_readWord_113 rfl) (z_c (ok_iload_n dX5_readWord_114 rfl) (z_c (ok_putf (C := RX5) (T := TX5) (N := 12) false tyX5 tyX5_ok nmX5 rfl (by decide) zinX5 rfl zw_263 rfl (fun h => absurd h (by decide)) rfl dX5_readWord_115) (z_c (ok_iconst (v := (0)) dX5_readWord_118 (by decide)) (z_c (ok_istore_n dX5_readWord_119 rfl) (z_c (ok_iload_n dX5_readWord_120 rfl) (z_c (ok_bipush (v := (26)) dX5_readWord_121 (by decide)) z_n))))))))))))
noncomputable def tX5_readWord_6 : List (Nat × zF) := [(123, (z_ic_ge 160)), (126, (zla4 0 1)), (127, (zgf 5 4)), (130, (zst 1 (zp (.int (1))))), (131, (z_ic_ne 160)), (134, (zla4 0 1)), (135, (zgf 5 0)), (138, (zli4 3 1)), (139, (zal 0)), (140, (zli4 2 1)), (141, (z_ic_ne 154)), (144, (zla4 0 1))]
theorem kX5_readWord_6 : ∀ q ∈ tX5_readWord_6, zOk zg iX5_readWord q.1 q.2 := (z_c (ok_icmp_ge dX5_readWord_123 (by decide)) (z_c (ok_aload_n dX5_readWord_126 rfl) (z_c (ok_getf (C := RX5) (T := TX5) (N := 12) rfl (by decide) zinX5 rfl zw_255 dX5_readWord_127) (z_c (ok_iconst (v := (1)) dX5_readWord_130 (by decide)) (z_c (ok_icmp_ne dX5_readWord_131 (by decide)) (z_c (ok_aload_n dX5_readWord_134 rfl) (z_c (ok_getf (C := RX5) (T := TX5) (N := 12) rfl (by decide) zinX5 rfl zw_244 dX5_readWord_135) (z_c (ok_iload_n dX5_readWord_138 rfl) (z_c (ok_iaload rfl dX5_readWord_139) (z_c (ok_iload_n dX5_readWord_140 rfl) (z_c (ok_icmp_ne dX5_readWord_141 (by decide)) (z_c (ok_aload_n dX5_readWord_144 rfl) z_n))))))))))))
noncomputable def tX5_readWord_7 : List (Nat × zF) := [(145, (zst 1 (zp (.int (2))))), (146, (zpf 5 4 (.int))), (149, (zla4 0 1)), (150, (zli4 3 1)), (151, (zpf 5 5 (.int))), (154, (zin4 4 3 (1))), (157, (zgt 120)), (160, zrv)]
theorem kX5_readWord_7 : ∀ q ∈ tX5_readWord_7, zOk zg iX5_readWord q.1 q.2 := (z_c (ok_iconst (v := (2)) dX5_readWord_145 (by decide)) (z_c (ok_putf (C := RX5) (T := TX5) (N := 12) false tyX5 tyX5_ok nmX5 rfl (by decide) zinX5 rfl zw_255 rfl (fun h => absurd h (by decide)) rfl dX5_readWord_146) (z_c (ok_aload_n dX5_readWord_149 rfl) (z_c (ok_iload_n dX5_readWord_150 rfl) (z_c (ok_putf (C := RX5) (T := TX5) (N := 12) false tyX5 tyX5_ok nmX5 rfl (by decide) zinX5 rfl zw_263 rfl (fun h => absurd h (by decide)) rfl dX5_readWord_151) (z_c (ok_iinc (v := (1)) dX5_readWord_154 (by decide)) (z_c (ok_goto dX5_readWord_157 (by decide)) (z_c (ok_return rfl dX5_readWord_160) z_n))))))))
noncomputable def tX5_readWord : zT := [(20, tX5_readWord_0), (44, tX5_readWord_1), (65, tX5_readWord_2), (82, tX5_readWord_3), (102, tX5_readWord_4), (123, tX5_readWord_5), (145, tX5_readWord_6), (100000, tX5_readWord_7)]
theorem kX5_readWord : zTok zg iX5_readWord tX5_readWord := (z_t kX5_readWord_0 (z_t kX5_readWord_1 (z_t kX5_readWord_2 (z_t kX5_readWord_3 (z_t kX5_readWord_4 (z_t kX5_readWord_5 (z_t kX5_readWord_6 (z_t kX5_readWord_7 z_tn))))))))
theorem dX5_readNumber_0 : decode cX5_readNumber 0 = .ok (.iconst 0, 1) := by decide +kernel
theorem dX5_readNumber_1 : decode cX5_readNumber 1 = .ok (.istore_n 2, 1) := by decide +kernel
theorem dX5_readNumber_2 : decode cX5_readNumber 2 = .ok (.aload_n 0, 1) := by decide +kernel
theorem dX5_readNumber_3 : decode cX5_readNumber 3 = .ok (.getfield 39, 3) := by decide +kernel
theorem dX5_readNumber_6 : decode cX5_readNumber 6 = .ok (.aload_n 0, 1) := by decide +kernel
theorem dX5_readNumber_7 : decode cX5_readNumber 7 = .ok (.getfield 36, 3) := by decide +kernel
theorem dX5_readNumber_10 : decode cX5_readNumber 10 = .ok (.if_icmp .ge 90, 3) := by decide +kernel
theorem dX5_readNumber_13 : decode cX5_readNumber 13 = .ok (.aload_n 0, 1) := by decide +kernel
theorem dX5_readNumber_14 : decode cX5_readNumber 14 = .ok (.getfield 15, 3) := by decide +kernel
theorem dX5_readNumber_17 : decode cX5_readNumber 17 = .ok (.aload_n 0, 1) := by decide +kernel
theorem dX5_readNumber_18 : decode cX5_readNumber 18 = .ok (.getfield 39, 3) := by decide +kernel
theorem dX5_readNumber_21 : decode cX5_readNumber 21 = .ok (.iaload, 1) := by decide +kernel
theorem dX5_readNumber_22 : decode cX5_readNumber 22 = .ok (.bipush 48, 2) := by decide +kernel
theorem dX5_readNumber_24 : decode cX5_readNumber 24 = .ok (.if_icmp .lt 76, 3) := by decide +kernel
theorem dX5_readNumber_27 : decode cX5_readNumber 27 = .ok (.aload_n 0, 1) := by decide +kernel
theorem dX5_readNumber_28 : decode cX5_readNumber 28 = .ok (.getfield 15, 3) := by decide +kernel
theorem dX5_readNumber_31 : decode cX5_readNumber 31 = .ok (.aload_n 0, 1) := by decide +kernel
theorem dX5_readNumber_32 : decode cX5_readNumber 32 = .ok (.getfield 39, 3) := by decide +kernel
theorem dX5_readNumber_35 : decode cX5_readNumber 35 = .ok (.iaload, 1) := by decide +kernel
theorem dX5_readNumber_36 : decode cX5_readNumber 36 = .ok (.bipush 57, 2) := by decide +kernel
theorem dX5_readNumber_38 : decode cX5_readNumber 38 = .ok (.if_icmp .gt 62, 3) := by decide +kernel
theorem dX5_readNumber_41 : decode cX5_readNumber 41 = .ok (.iload_n 2, 1) := by decide +kernel
theorem dX5_readNumber_42 : decode cX5_readNumber 42 = .ok (.iconst 4, 1) := by decide +kernel
theorem dX5_readNumber_43 : decode cX5_readNumber 43 = .ok (.if_icmp .ne 17, 3) := by decide +kernel
theorem dX5_readNumber_46 : decode cX5_readNumber 46 = .ok (.aload_n 0, 1) := by decide +kernel
theorem dX5_readNumber_47 : decode cX5_readNumber 47 = .ok (.iconst 5, 1) := by decide +kernel
theorem dX5_readNumber_48 : decode cX5_readNumber 48 = .ok (.putfield 42, 3) := by decide +kernel
theorem dX5_readNumber_51 : decode cX5_readNumber 51 = .ok (.aload_n 0, 1) := by decide +kernel
theorem dX5_readNumber_52 : decode cX5_readNumber 52 = .ok (.aload_n 0, 1) := by decide +kernel
theorem dX5_readNumber_53 : decode cX5_readNumber 53 = .ok (.getfield 39, 3) := by decide +kernel
theorem dX5_readNumber_56 : decode cX5_readNumber 56 = .ok (.putfield 57, 3) := by decide +kernel
theorem dX5_readNumber_59 : decode cX5_readNumber 59 = .ok (.return_, 1) := by decide +kernel
theorem dX5_readNumber_60 : decode cX5_readNumber 60 = .ok (.aload_n 0, 1) := by decide +kernel
theorem dX5_readNumber_61 : decode cX5_readNumber 61 = .ok (.bipush 10, 2) := by decide +kernel
theorem dX5_readNumber_63 : decode cX5_readNumber 63 = .ok (.aload_n 0, 1) := by decide +kernel
theorem dX5_readNumber_64 : decode cX5_readNumber 64 = .ok (.getfield 60, 3) := by decide +kernel
theorem dX5_readNumber_67 : decode cX5_readNumber 67 = .ok (.imul, 1) := by decide +kernel
theorem dX5_readNumber_68 : decode cX5_readNumber 68 = .ok (.aload_n 0, 1) := by decide +kernel
theorem dX5_readNumber_69 : decode cX5_readNumber 69 = .ok (.getfield 15, 3) := by decide +kernel
theorem dX5_readNumber_72 : decode cX5_readNumber 72 = .ok (.aload_n 0, 1) := by decide +kernel
theorem dX5_readNumber_73 : decode cX5_readNumber 73 = .ok (.getfield 39, 3) := by decide +kernel
theorem dX5_readNumber_76 : decode cX5_readNumber 76 = .ok (.iaload, 1) := by decide +kernel
theorem dX5_readNumber_77 : decode cX5_readNumber 77 = .ok (.iadd, 1) := by decide +kernel
theorem dX5_readNumber_78 : decode cX5_readNumber 78 = .ok (.bipush 48, 2) := by decide +kernel
theorem dX5_readNumber_80 : decode cX5_readNumber 80 = .ok (.isub, 1) := by decide +kernel
theorem dX5_readNumber_81 : decode cX5_readNumber 81 = .ok (.putfield 60, 3) := by decide +kernel
theorem dX5_readNumber_84 : decode cX5_readNumber 84 = .ok (.aload_n 0, 1) := by decide +kernel
theorem dX5_readNumber_85 : decode cX5_readNumber 85 = .ok (.dup, 1) := by decide +kernel
theorem dX5_readNumber_86 : decode cX5_readNumber 86 = .ok (.getfield 39, 3) := by decide +kernel
theorem dX5_readNumber_89 : decode cX5_readNumber 89 = .ok (.iconst 1, 1) := by decide +kernel
theorem dX5_readNumber_90 : decode cX5_readNumber 90 = .ok (.iadd, 1) := by decide +kernel
theorem dX5_readNumber_91 : decode cX5_readNumber 91 = .ok (.putfield 39, 3) := by decide +kernel
theorem dX5_readNumber_94 : decode cX5_readNumber 94 = .ok (.iinc 2 1, 3) := by decide +kernel
theorem dX5_readNumber_97 : decode cX5_readNumber 97 = .ok (.goto (-95), 3) := by decide +kernel
theorem dX5_readNumber_100 : decode cX5_readNumber 100 = .ok (.aload_n 0, 1) := by decide +kernel
theorem dX5_readNumber_101 : decode cX5_readNumber 101 = .ok (.iload_n 1, 1) := by decide +kernel
theorem dX5_readNumber_102 : decode cX5_readNumber 102 = .ok (.ifCond .eq 7, 3) := by decide +kernel
theorem dX5_readNumber_105 : decode cX5_readNumber 105 = .ok (.iconst 5, 1) := by decide +kernel
theorem dX5_readNumber_106 : decode cX5_readNumber 106 = .ok (.goto 4, 3) := by decide +kernel
theorem dX5_readNumber_109 : decode cX5_readNumber 109 = .ok (.iconst 3, 1) := by decide +kernel
theorem dX5_readNumber_110 : decode cX5_readNumber 110 = .ok (.putfield 42, 3) := by decide +kernel
theorem dX5_readNumber_113 : decode cX5_readNumber 113 = .ok (.return_, 1) := by decide +kernel
noncomputable def tX5_readNumber_0 : List (Nat × zF) := [(0, (zst 1 (zp (.int (0))))), (1, (zsi4 3 2 1)), (2, (zla4 0 1)), (3, (zgf 5 3)), (6, (zla4 0 1)), (7, (zgf 5 2)), (10, (z_ic_ge 100)), (13, (zla4 0 1)), (14, (zgf 5 1)), (17, (zla4 0 1)), (18, (zgf 5 3)), (21, (zal 0))]
theorem kX5_readNumber_0 : ∀ q ∈ tX5_readNumber_0, zOk zg iX5_readNumber q.1 q.2 := (z_c (ok_iconst (v := (0)) dX5_readNumber_0 (by decide)) (z_c (ok_istore_n dX5_readNumber_1 rfl) (z_c (ok_aload_n dX5_readNumber_2 rfl) (z_c (ok_getf (C := RX5) (T := TX5) (N := 12) rfl (by decide) zinX5 rfl zw_254 dX5_readNumber_3) (z_c (ok_aload_n dX5_readNumber_6 rfl) (z_c (ok_getf (C := RX5) (T := TX5) (N := 12) rfl (by decide) zinX5 rfl zw_253 dX5_readNumber_7) (z_c (ok_icmp_ge dX5_readNumber_10 (by decide)) (z_c (ok_aload_n dX5_readNumber_13 rfl) (z_c (ok_getf (C := RX5) (T := TX5) (N := 12) rfl (by decide) zinX5 rfl zw_245 dX5_readNumber_14) (z_c (ok_aload_n dX5_readNumber_17 rfl) (z_c (ok_getf (C := RX5) (T := TX5) (N := 12) rfl (by decide) zinX5 rfl zw_254 dX5_readNumber_18) (z_c (ok_iaload rfl dX5_readNumber_21) z_n))))))))))))
noncomputable def tX5_readNumber_1 : List (Nat × zF) := [(22, (zst 2 (zp (.int (48))))), (24, (z_ic_lt 100)), (27, (zla4 0 1)), (28, (zgf 5 1)), (31, (zla4 0 1)), (32, (zgf 5 3)), (35, (zal 0)), (36, (zst 2 (zp (.int (57))))), (38, (z_ic_gt 100)), (41, (zli4 2 1)), (42, (zst 1 (zp (.int (4))))), (43, (z_ic_ne 60))]
theorem kX5_readNumber_1 : ∀ q ∈ tX5_readNumber_1, zOk zg iX5_readNumber q.1 q.2 := (z_c (ok_bipush (v := (48)) dX5_readNumber_22 (by decide)) (z_c (ok_icmp_lt dX5_readNumber_24 (by decide)) (z_c (ok_aload_n dX5_readNumber_27 rfl) (z_c (ok_getf (C := RX5) (T := TX5) (N := 12) rfl (by decide) zinX5 rfl zw_245 dX5_readNumber_28) (z_c (ok_aload_n dX5_readNumber_31 rfl) (z_c (ok_getf (C := RX5) (T := TX5) (N := 12) rfl (by decide) zinX5 rfl zw_254 dX5_readNumber_32) (z_c (ok_iaload rfl dX5_readNumber_35) (z_c (ok_bipush (v := (57)) dX5_readNumber_36 (by decide)) (z_c (ok_icmp_gt dX5_readNumber_38 (by decide)) (z_c (ok_iload_n dX5_readNumber_41 rfl) (z_c (ok_iconst (v := (4)) dX5_readNumber_42 (by decide)) (z_c (ok_icmp_ne dX5_readNumber_43 (by decide)) z_n))))))))))))
noncomputable def tX5_readNumber_2 : List (Nat × zF) := [(46, (zla4 0 1)), (47, (zst 1 (zp (.int (5))))), (48, (zpf 5 4 (.int))), (51, (zla4 0 1)), (52, (zla4 0 1)), (53, (zgf 5 3)), (56, (zpf 5 7 (.int))), (59, zrv), (60, (zla4 0 1)), (61, (zst 2 (zp (.int (10))))), (63, (zla4 0 1)), (64, (zgf 5 5))]
theorem kX5_readNumber_2 : ∀ q ∈ tX5_readNumber_2, zOk zg iX5_readNumber q.1 q.2 := (z_c (ok_aload_n dX5_readNumber_46 rfl) (z_c (ok_iconst (v := (5)) dX5_readNumber_47 (by decide)) (z_c (ok_putf (C := RX5) (T := TX5) (N := 12) false tyX5 tyX5_ok nmX5 rfl (by decide) zinX5 rfl zw_255 rfl (fun h => absurd h (by decide)) rfl dX5_readNumber_48) (z_c (ok_aload_n dX5_readNumber_51 rfl) (z_c (ok_aload_n dX5_readNumber_52 rfl) (z_c (ok_getf (C := RX5) (T := TX5) (N := 12) rfl (by decide) zinX5 rfl zw_254 dX5_readNumber_53) (z_c (ok_putf (C := RX5) (T := TX5) (N := 12) false tyX5 tyX5_ok nmX5 rfl (by decide) zinX5 rfl zw_262 rfl (fun h => absurd h (by decide)) rfl dX5_readNumber_56) (z_c (ok_return rfl dX5_readNumber_59) (z_c (ok_aload_n dX5_readNumber_60 rfl) (z_c (ok_bipush (v := (10)) dX5_readNumber_61 (by decide)) (z_c (ok_aload_n dX5_readNumber_63 rfl) (z_c (ok_getf (C := RX5) (T := TX5) (N := 12) rfl (by decide) zinX5 rfl zw_263 dX5_readNumber_64) z_n))))))))))))
noncomputable def tX5_readNumber_3 : List (Nat × zF) := [(67, (zst 1 z_imul)), (68, (zla4 0 1)), (69, (zgf 5 1)), (72, (zla4 0 1)), (73, (zgf 5 3)), (76, (zal 0)), (77, (zst 1 z_iadd)), (78, (zst 2 (zp (.int (48))))), (80, (zst 1 z_isub)), (81, (zpf 5 5 (.int))), (84, (zla4 0 1)), (85, (zst 1 zdu))]
theorem kX5_readNumber_3 : ∀ q ∈ tX5_readNumber_3, zOk zg iX5_readNumber q.1 q.2 := (z_c (ok_imul dX5_readNumber_67) (z_c (ok_aload_n dX5_readNumber_68 rfl) (z_c (ok_getf (C := RX5) (T := TX5) (N := 12) rfl (by decide) zinX5 rfl zw_245 dX5_readNumber_69) (z_c (ok_aload_n dX5_readNumber_72 rfl) (z_c (ok_getf (C := RX5) (T := TX5) (N := 12) rfl (by decide) zinX5 rfl zw_254 dX5_readNumber_73) (z_c (ok_iaload rfl dX5_readNumber_76) (z_c (ok_iadd dX5_readNumber_77) (z_c (ok_bipush (v := (48)) dX5_readNumber_78 (by decide)) (z_c (ok_isub dX5_readNumber_80) (z_c (ok_putf (C := RX5) (T := TX5) (N := 12) false tyX5 tyX5_ok nmX5 rfl (by decide) zinX5 rfl zw_263 rfl (fun h => absurd h (by decide)) rfl dX5_readNumber_81) (z_c (ok_aload_n dX5_readNumber_84 rfl) (z_c (ok_dup dX5_readNumber_85) z_n))))))))))))
noncomputable def tX5_readNumber_4 : List (Nat × zF) := [(86, (zgf 5 3)), (89, (zst 1 (zp (.int (1))))), (90, (zst 1 z_iadd)), (91, (zpf 5 3 (.int))), (94, (zin4 3 2 (1))), (97, (zgt 2)), (100, (zla4 0 1)), (101, (zli4 1 1)), (102, (z_if_eq 109)), (105, (zst 1 (zp (.int (5))))), (106, (zgt 110)), (109, (zst 1 (zp (.int (3)))))]
theorem kX5_readNumber_4 : ∀ q ∈ tX5_readNumber_4, zOk zg iX5_readNumber q.1 q.2 := (z_c (ok_getf (C := RX5) (T := TX5) (N := 12) rfl (by decide) zinX5 rfl zw_254 dX5_readNumber_86) (z_c (ok_iconst (v := (1)) dX5_readNumber_89 (by decide)) (z_c (ok_iadd dX5_readNumber_90) (z_c (ok_putf (C := RX5) (T := TX5) (N := 12) false tyX5 tyX5_ok nmX5 rfl (by decide) zinX5 rfl zw_254 rfl (fun h => absurd h (by decide)) rfl dX5_readNumber_91) (z_c (ok_iinc (v := (1)) dX5_readNumber_94 (by decide)) (z_c (ok_goto dX5_readNumber_97 (by decide)) (z_c (ok_aload_n dX5_readNumber_100 rfl) (z_c (ok_iload_n dX5_readNumber_101 rfl) (z_c (ok_if_eq dX5_readNumber_102 (by decide)) (z_c (ok_iconst (v := (5)) dX5_readNumber_105 (by decide)) (z_c (ok_goto dX5_readNumber_106 (by decide)) (z_c (ok_iconst (v := (3)) dX5_readNumber_109 (by decide)) z_n))))))))))))
noncomputable def tX5_readNumber_5 : List (Nat × zF) := [(110, (zpf 5 4 (.int))), (113, zrv)]
theorem kX5_readNumber_5 : ∀ q ∈ tX5_readNumber_5, zOk zg iX5_readNumber q.1 q.2 := (z_c (ok_putf (C := RX5) (T := TX5) (N := 12) false tyX5 tyX5_ok nmX5 rfl (by decide) zinX5 rfl zw_255 rfl (fun h => absurd h (by decide)) rfl dX5_readNumber_110) (z_c (ok_return rfl dX5_readNumber_113) z_n))
noncomputable def tX5_readNumber : zT := [(22, tX5_readNumber_0), (46, tX5_readNumber_1), (67, tX5_readNumber_2), (86, tX5_readNumber_3), (110, tX5_readNumber_4), (100000, tX5_readNumber_5)]
theorem kX5_readNumber : zTok zg iX5_readNumber tX5_readNumber := (z_t kX5_readNumber_0 (z_t kX5_readNumber_1 (z_t kX5_readNumber_2 (z_t kX5_readNumber_3 (z_t kX5_readNumber_4 (z_t kX5_readNumber_5 z_tn))))))
theorem dX5_isOwn_0 : decode cX5_isOwn 0 = .ok (.aload_n 0, 1) := by decide +kernel
theorem dX5_isOwn_1 : decode cX5_isOwn 1 = .ok (.getfield 42, 3) := by decide +kernel
theorem dX5_isOwn_4 : decode cX5_isOwn 4 = .ok (.iconst 2, 1) := by decide +kernel
theorem dX5_isOwn_5 : decode cX5_isOwn 5 = .ok (.if_icmp .ne 15, 3) := by decide +kernel
theorem dX5_isOwn_8 : decode cX5_isOwn 8 = .ok (.aload_n 0, 1) := by decide +kernel
theorem dX5_isOwn_9 : decode cX5_isOwn 9 = .ok (.getfield 60, 3) := by decide +kernel
theorem dX5_isOwn_12 : decode cX5_isOwn 12 = .ok (.iload_n 1, 1) := by decide +kernel
theorem dX5_isOwn_13 : decode cX5_isOwn 13 = .ok (.if_icmp .ne 7, 3) := by decide +kernel
theorem dX5_isOwn_16 : decode cX5_isOwn 16 = .ok (.iconst 1, 1) := by decide +kernel
theorem dX5_isOwn_17 : decode cX5_isOwn 17 = .ok (.goto 4, 3) := by decide +kernel
theorem dX5_isOwn_20 : decode cX5_isOwn 20 = .ok (.iconst 0, 1) := by decide +kernel
theorem dX5_isOwn_21 : decode cX5_isOwn 21 = .ok (.ireturn, 1) := by decide +kernel
noncomputable def tX5_isOwn_0 : List (Nat × zF) := [(0, (zla4 0 1)), (1, (zgf 5 4)), (4, (zst 1 (zp (.int (2))))), (5, (z_ic_ne 20)), (8, (zla4 0 1)), (9, (zgf 5 5)), (12, (zli4 1 1)), (13, (z_ic_ne 20)), (16, (zst 1 (zp (.int (1))))), (17, (zgt 21)), (20, (zst 1 (zp (.int (0))))), (21, (zri true))]
theorem kX5_isOwn_0 : ∀ q ∈ tX5_isOwn_0, zOk zg iX5_isOwn q.1 q.2 := (z_c (ok_aload_n dX5_isOwn_0 rfl) (z_c (ok_getf (C := RX5) (T := TX5) (N := 12) rfl (by decide) zinX5 rfl zw_255 dX5_isOwn_1) (z_c (ok_iconst (v := (2)) dX5_isOwn_4 (by decide)) (z_c (ok_icmp_ne dX5_isOwn_5 (by decide)) (z_c (ok_aload_n dX5_isOwn_8 rfl) (z_c (ok_getf (C := RX5) (T := TX5) (N := 12) rfl (by decide) zinX5 rfl zw_263 dX5_isOwn_9) (z_c (ok_iload_n dX5_isOwn_12 rfl) (z_c (ok_icmp_ne dX5_isOwn_13 (by decide)) (z_c (ok_iconst (v := (1)) dX5_isOwn_16 (by decide)) (z_c (ok_goto dX5_isOwn_17 (by decide)) (z_c (ok_iconst (v := (0)) dX5_isOwn_20 (by decide)) (z_c (ok_zreturn rfl dX5_isOwn_21) z_n))))))))))))
noncomputable def tX5_isOwn : zT := [(100000, tX5_isOwn_0)]
theorem kX5_isOwn : zTok zg iX5_isOwn tX5_isOwn := (z_t kX5_isOwn_0 z_tn)
theorem dX5_isSign_0 : decode cX5_isSign 0 = .ok (.aload_n 0, 1) := by decide +kernel
theorem dX5_isSign_1 : decode cX5_isSign 1 = .ok (.getfield 42, 3) := by decide +kernel
theorem dX5_isSign_4 : decode cX5_isSign 4 = .ok (.iconst 4, 1) := by decide +kernel
theorem dX5_isSign_5 : decode cX5_isSign 5 = .ok (.if_icmp .ne 15, 3) := by decide +kernel
theorem dX5_isSign_8 : decode cX5_isSign 8 = .ok (.aload_n 0, 1) := by decide +kernel
theorem dX5_isSign_9 : decode cX5_isSign 9 = .ok (.getfield 60, 3) := by decide +kernel
theorem dX5_isSign_12 : decode cX5_isSign 12 = .ok (.iload_n 1, 1) := by decide +kernel
theorem dX5_isSign_13 : decode cX5_isSign 13 = .ok (.if_icmp .ne 7, 3) := by decide +kernel
theorem dX5_isSign_16 : decode cX5_isSign 16 = .ok (.iconst 1, 1) := by decide +kernel
theorem dX5_isSign_17 : decode cX5_isSign 17 = .ok (.goto 4, 3) := by decide +kernel
theorem dX5_isSign_20 : decode cX5_isSign 20 = .ok (.iconst 0, 1) := by decide +kernel
theorem dX5_isSign_21 : decode cX5_isSign 21 = .ok (.ireturn, 1) := by decide +kernel
noncomputable def tX5_isSign_0 : List (Nat × zF) := [(0, (zla4 0 1)), (1, (zgf 5 4)), (4, (zst 1 (zp (.int (4))))), (5, (z_ic_ne 20)), (8, (zla4 0 1)), (9, (zgf 5 5)), (12, (zli4 1 1)), (13, (z_ic_ne 20)), (16, (zst 1 (zp (.int (1))))), (17, (zgt 21)), (20, (zst 1 (zp (.int (0))))), (21, (zri true))]
theorem kX5_isSign_0 : ∀ q ∈ tX5_isSign_0, zOk zg iX5_isSign q.1 q.2 := (z_c (ok_aload_n dX5_isSign_0 rfl) (z_c (ok_getf (C := RX5) (T := TX5) (N := 12) rfl (by decide) zinX5 rfl zw_255 dX5_isSign_1) (z_c (ok_iconst (v := (4)) dX5_isSign_4 (by decide)) (z_c (ok_icmp_ne dX5_isSign_5 (by decide)) (z_c (ok_aload_n dX5_isSign_8 rfl) (z_c (ok_getf (C := RX5) (T := TX5) (N := 12) rfl (by decide) zinX5 rfl zw_263 dX5_isSign_9) (z_c (ok_iload_n dX5_isSign_12 rfl) (z_c (ok_icmp_ne dX5_isSign_13 (by decide)) (z_c (ok_iconst (v := (1)) dX5_isSign_16 (by decide)) (z_c (ok_goto dX5_isSign_17 (by decide)) (z_c (ok_iconst (v := (0)) dX5_isSign_20 (by decide)) (z_c (ok_zreturn rfl dX5_isSign_21) z_n))))))))))))
noncomputable def tX5_isSign : zT := [(100000, tX5_isSign_0)]
theorem kX5_isSign : zTok zg iX5_isSign tX5_isSign := (z_t kX5_isSign_0 z_tn)
theorem dX5_faults_0 : decode cX5_faults 0 = .ok (.aload_n 0, 1) := by decide +kernel
theorem dX5_faults_1 : decode cX5_faults 1 = .ok (.iload_n 1, 1) := by decide +kernel
theorem dX5_faults_2 : decode cX5_faults 2 = .ok (.putfield 45, 3) := by decide +kernel
theorem dX5_faults_5 : decode cX5_faults 5 = .ok (.aload_n 0, 1) := by decide +kernel
theorem dX5_faults_6 : decode cX5_faults 6 = .ok (.iload_n 2, 1) := by decide +kernel
theorem dX5_faults_7 : decode cX5_faults 7 = .ok (.putfield 48, 3) := by decide +kernel
theorem dX5_faults_10 : decode cX5_faults 10 = .ok (.iconst 0, 1) := by decide +kernel
theorem dX5_faults_11 : decode cX5_faults 11 = .ok (.ireturn, 1) := by decide +kernel
noncomputable def tX5_faults_0 : List (Nat × zF) := [(0, (zla4 0 1)), (1, (zli4 1 1)), (2, (zpf 5 10 (.int))), (5, (zla4 0 1)), (6, (zli4 2 1)), (7, (zpf 5 11 (.int))), (10, (zst 1 (zp (.int (0))))), (11, (zri true))]
theorem kX5_faults_0 : ∀ q ∈ tX5_faults_0, zOk zg iX5_faults q.1 q.2 := (z_c (ok_aload_n dX5_faults_0 rfl) (z_c (ok_iload_n dX5_faults_1 rfl) (z_c (ok_putf (C := RX5) (T := TX5) (N := 12) false tyX5 tyX5_ok nmX5 rfl (by decide) zinX5 rfl zw_256 rfl (fun h => absurd h (by decide)) rfl dX5_faults_2) (z_c (ok_aload_n dX5_faults_5 rfl) (z_c (ok_iload_n dX5_faults_6 rfl) (z_c (ok_putf (C := RX5) (T := TX5) (N := 12) false tyX5 tyX5_ok nmX5 rfl (by decide) zinX5 rfl zw_257 rfl (fun h => absurd h (by decide)) rfl dX5_faults_7) (z_c (ok_iconst (v := (0)) dX5_faults_10 (by decide)) (z_c (ok_zreturn rfl dX5_faults_11) z_n))))))))
noncomputable def tX5_faults : zT := [(100000, tX5_faults_0)]
theorem kX5_faults : zTok zg iX5_faults tX5_faults := (z_t kX5_faults_0 z_tn)
theorem dX5_takesOwn_0 : decode cX5_takesOwn 0 = .ok (.aload_n 0, 1) := by decide +kernel
theorem dX5_takesOwn_1 : decode cX5_takesOwn 1 = .ok (.iload_n 1, 1) := by decide +kernel
theorem dX5_takesOwn_2 : decode cX5_takesOwn 2 = .ok (.invokevirtual 70, 3) := by decide +kernel
theorem dX5_takesOwn_5 : decode cX5_takesOwn 5 = .ok (.ifCond .ne 13, 3) := by decide +kernel
theorem dX5_takesOwn_8 : decode cX5_takesOwn 8 = .ok (.aload_n 0, 1) := by decide +kernel
theorem dX5_takesOwn_9 : decode cX5_takesOwn 9 = .ok (.iconst 1, 1) := by decide +kernel
theorem dX5_takesOwn_10 : decode cX5_takesOwn 10 = .ok (.aload_n 0, 1) := by decide +kernel
theorem dX5_takesOwn_11 : decode cX5_takesOwn 11 = .ok (.getfield 57, 3) := by decide +kernel
theorem dX5_takesOwn_14 : decode cX5_takesOwn 14 = .ok (.invokevirtual 74, 3) := by decide +kernel
theorem dX5_takesOwn_17 : decode cX5_takesOwn 17 = .ok (.ireturn, 1) := by decide +kernel
theorem dX5_takesOwn_18 : decode cX5_takesOwn 18 = .ok (.aload_n 0, 1) := by decide +kernel
theorem dX5_takesOwn_19 : decode cX5_takesOwn 19 = .ok (.invokevirtual 51, 3) := by decide +kernel
theorem dX5_takesOwn_22 : decode cX5_takesOwn 22 = .ok (.iconst 1, 1) := by decide +kernel
theorem dX5_takesOwn_23 : decode cX5_takesOwn 23 = .ok (.ireturn, 1) := by decide +kernel
noncomputable def tX5_takesOwn_0 : List (Nat × zF) := [(0, (zla4 0 1)), (1, (zli4 1 1)), (2, (zcv 61 1 5)), (5, (z_if_ne 18)), (8, (zla4 0 1)), (9, (zst 1 (zp (.int (1))))), (10, (zla4 0 1)), (11, (zgf 5 7)), (14, (zcv 63 2 5)), (17, (zri true)), (18, (zla4 0 1)), (19, (zcv 58 0 5))]
theorem kX5_takesOwn_0 : ∀ q ∈ tX5_takesOwn_0, zOk zg iX5_takesOwn q.1 q.2 := (z_c (ok_aload_n dX5_takesOwn_0 rfl) (z_c (ok_iload_n dX5_takesOwn_1 rfl) (z_c (ok_callV zcal_61 (q := (RX5, TX5, 12)) rfl zw_270 zw_271 zw_272 dX5_takesOwn_2) (z_c (ok_if_ne dX5_takesOwn_5 (by decide)) (z_c (ok_aload_n dX5_takesOwn_8 rfl) (z_c (ok_iconst (v := (1)) dX5_takesOwn_9 (by decide)) (z_c (ok_aload_n dX5_takesOwn_10 rfl) (z_c (ok_getf (C := RX5) (T := TX5) (N := 12) rfl (by decide) zinX5 rfl zw_262 dX5_takesOwn_11) (z_c (ok_callV zcal_63 (q := (RX5, TX5, 12)) rfl zw_273 zw_274 zw_275 dX5_takesOwn_14) (z_c (ok_zreturn rfl dX5_takesOwn_17) (z_c (ok_aload_n dX5_takesOwn_18 rfl) (z_c (ok_callV zcal_58 (q := (RX5, TX5, 12)) rfl zw_258 zw_259 zw_260 dX5_takesOwn_19) z_n))))))))))))
noncomputable def tX5_takesOwn_1 : List (Nat × zF) := [(22, (zst 1 (zp (.int (1))))), (23, (zri true))]
theorem kX5_takesOwn_1 : ∀ q ∈ tX5_takesOwn_1, zOk zg iX5_takesOwn q.1 q.2 := (z_c (ok_iconst (v := (1)) dX5_takesOwn_22 (by decide)) (z_c (ok_zreturn rfl dX5_takesOwn_23) z_n))
noncomputable def tX5_takesOwn : zT := [(22, tX5_takesOwn_0), (100000, tX5_takesOwn_1)]
theorem kX5_takesOwn : zTok zg iX5_takesOwn tX5_takesOwn := (z_t kX5_takesOwn_0 (z_t kX5_takesOwn_1 z_tn))
theorem dX5_takesSign_0 : decode cX5_takesSign 0 = .ok (.aload_n 0, 1) := by decide +kernel
theorem dX5_takesSign_1 : decode cX5_takesSign 1 = .ok (.iload_n 1, 1) := by decide +kernel
theorem dX5_takesSign_2 : decode cX5_takesSign 2 = .ok (.invokevirtual 78, 3) := by decide +kernel
theorem dX5_takesSign_5 : decode cX5_takesSign 5 = .ok (.ifCond .ne 13, 3) := by decide +kernel
theorem dX5_takesSign_8 : decode cX5_takesSign 8 = .ok (.aload_n 0, 1) := by decide +kernel
theorem dX5_takesSign_9 : decode cX5_takesSign 9 = .ok (.iconst 1, 1) := by decide +kernel
theorem dX5_takesSign_10 : decode cX5_takesSign 10 = .ok (.aload_n 0, 1) := by decide +kernel
theorem dX5_takesSign_11 : decode cX5_takesSign 11 = .ok (.getfield 57, 3) := by decide +kernel
theorem dX5_takesSign_14 : decode cX5_takesSign 14 = .ok (.invokevirtual 74, 3) := by decide +kernel
theorem dX5_takesSign_17 : decode cX5_takesSign 17 = .ok (.ireturn, 1) := by decide +kernel
theorem dX5_takesSign_18 : decode cX5_takesSign 18 = .ok (.aload_n 0, 1) := by decide +kernel
theorem dX5_takesSign_19 : decode cX5_takesSign 19 = .ok (.invokevirtual 51, 3) := by decide +kernel
theorem dX5_takesSign_22 : decode cX5_takesSign 22 = .ok (.iconst 1, 1) := by decide +kernel
theorem dX5_takesSign_23 : decode cX5_takesSign 23 = .ok (.ireturn, 1) := by decide +kernel
noncomputable def tX5_takesSign_0 : List (Nat × zF) := [(0, (zla4 0 1)), (1, (zli4 1 1)), (2, (zcv 62 1 5)), (5, (z_if_ne 18)), (8, (zla4 0 1)), (9, (zst 1 (zp (.int (1))))), (10, (zla4 0 1)), (11, (zgf 5 7)), (14, (zcv 63 2 5)), (17, (zri true)), (18, (zla4 0 1)), (19, (zcv 58 0 5))]
theorem kX5_takesSign_0 : ∀ q ∈ tX5_takesSign_0, zOk zg iX5_takesSign q.1 q.2 := (z_c (ok_aload_n dX5_takesSign_0 rfl) (z_c (ok_iload_n dX5_takesSign_1 rfl) (z_c (ok_callV zcal_62 (q := (RX5, TX5, 12)) rfl zw_276 zw_277 zw_278 dX5_takesSign_2) (z_c (ok_if_ne dX5_takesSign_5 (by decide)) (z_c (ok_aload_n dX5_takesSign_8 rfl) (z_c (ok_iconst (v := (1)) dX5_takesSign_9 (by decide)) (z_c (ok_aload_n dX5_takesSign_10 rfl) (z_c (ok_getf (C := RX5) (T := TX5) (N := 12) rfl (by decide) zinX5 rfl zw_262 dX5_takesSign_11) (z_c (ok_callV zcal_63 (q := (RX5, TX5, 12)) rfl zw_273 zw_274 zw_275 dX5_takesSign_14) (z_c (ok_zreturn rfl dX5_takesSign_17) (z_c (ok_aload_n dX5_takesSign_18 rfl) (z_c (ok_callV zcal_58 (q := (RX5, TX5, 12)) rfl zw_258 zw_259 zw_260 dX5_takesSign_19) z_n))))))))))))
noncomputable def tX5_takesSign_1 : List (Nat × zF) := [(22, (zst 1 (zp (.int (1))))), (23, (zri true))]
theorem kX5_takesSign_1 : ∀ q ∈ tX5_takesSign_1, zOk zg iX5_takesSign q.1 q.2 := (z_c (ok_iconst (v := (1)) dX5_takesSign_22 (by decide)) (z_c (ok_zreturn rfl dX5_takesSign_23) z_n))
noncomputable def tX5_takesSign : zT := [(22, tX5_takesSign_0), (100000, tX5_takesSign_1)]
theorem kX5_takesSign : zTok zg iX5_takesSign tX5_takesSign := (z_t kX5_takesSign_0 (z_t kX5_takesSign_1 z_tn))
theorem dX5_takesName_0 : decode cX5_takesName 0 = .ok (.aload_n 0, 1) := by decide +kernel
theorem dX5_takesName_1 : decode cX5_takesName 1 = .ok (.getfield 42, 3) := by decide +kernel
theorem dX5_takesName_4 : decode cX5_takesName 4 = .ok (.iconst 1, 1) := by decide +kernel
theorem dX5_takesName_5 : decode cX5_takesName 5 = .ok (.if_icmp .eq 13, 3) := by decide +kernel
theorem dX5_takesName_8 : decode cX5_takesName 8 = .ok (.aload_n 0, 1) := by decide +kernel
theorem dX5_takesName_9 : decode cX5_takesName 9 = .ok (.iconst 1, 1) := by decide +kernel
theorem dX5_takesName_10 : decode cX5_takesName 10 = .ok (.aload_n 0, 1) := by decide +kernel
theorem dX5_takesName_11 : decode cX5_takesName 11 = .ok (.getfield 57, 3) := by decide +kernel
theorem dX5_takesName_14 : decode cX5_takesName 14 = .ok (.invokevirtual 74, 3) := by decide +kernel
theorem dX5_takesName_17 : decode cX5_takesName 17 = .ok (.ireturn, 1) := by decide +kernel
theorem dX5_takesName_18 : decode cX5_takesName 18 = .ok (.aload_n 0, 1) := by decide +kernel
theorem dX5_takesName_19 : decode cX5_takesName 19 = .ok (.aload_n 0, 1) := by decide +kernel
theorem dX5_takesName_20 : decode cX5_takesName 20 = .ok (.getfield 60, 3) := by decide +kernel
theorem dX5_takesName_23 : decode cX5_takesName 23 = .ok (.putfield 81, 3) := by decide +kernel
theorem dX5_takesName_26 : decode cX5_takesName 26 = .ok (.aload_n 0, 1) := by decide +kernel
theorem dX5_takesName_27 : decode cX5_takesName 27 = .ok (.aload_n 0, 1) := by decide +kernel
theorem dX5_takesName_28 : decode cX5_takesName 28 = .ok (.getfield 57, 3) := by decide +kernel
theorem dX5_takesName_31 : decode cX5_takesName 31 = .ok (.putfield 84, 3) := by decide +kernel
theorem dX5_takesName_34 : decode cX5_takesName 34 = .ok (.aload_n 0, 1) := by decide +kernel
theorem dX5_takesName_35 : decode cX5_takesName 35 = .ok (.invokevirtual 51, 3) := by decide +kernel
theorem dX5_takesName_38 : decode cX5_takesName 38 = .ok (.iconst 1, 1) := by decide +kernel
theorem dX5_takesName_39 : decode cX5_takesName 39 = .ok (.ireturn, 1) := by decide +kernel
noncomputable def tX5_takesName_0 : List (Nat × zF) := [(0, (zla4 0 1)), (1, (zgf 5 4)), (4, (zst 1 (zp (.int (1))))), (5, (z_ic_eq 18)), (8, (zla4 0 1)), (9, (zst 1 (zp (.int (1))))), (10, (zla4 0 1)), (11, (zgf 5 7)), (14, (zcv 63 2 5)), (17, (zri true)), (18, (zla4 0 1)), (19, (zla4 0 1))]
theorem kX5_takesName_0 : ∀ q ∈ tX5_takesName_0, zOk zg iX5_takesName q.1 q.2 := (z_c (ok_aload_n dX5_takesName_0 rfl) (z_c (ok_getf (C := RX5) (T := TX5) (N := 12) rfl (by decide) zinX5 rfl zw_255 dX5_takesName_1) (z_c (ok_iconst (v := (1)) dX5_takesName_4 (by decide)) (z_c (ok_icmp_eq dX5_takesName_5 (by decide)) (z_c (ok_aload_n dX5_takesName_8 rfl) (z_c (ok_iconst (v := (1)) dX5_takesName_9 (by decide)) (z_c (ok_aload_n dX5_takesName_10 rfl) (z_c (ok_getf (C := RX5) (T := TX5) (N := 12) rfl (by decide) zinX5 rfl zw_262 dX5_takesName_11) (z_c (ok_callV zcal_63 (q := (RX5, TX5, 12)) rfl zw_273 zw_274 zw_275 dX5_takesName_14) (z_c (ok_zreturn rfl dX5_takesName_17) (z_c (ok_aload_n dX5_takesName_18 rfl) (z_c (ok_aload_n dX5_takesName_19 rfl) z_n))))))))))))
noncomputable def tX5_takesName_1 : List (Nat × zF) := [(20, (zgf 5 5)), (23, (zpf 5 8 (.int))), (26, (zla4 0 1)), (27, (zla4 0 1)), (28, (zgf 5 7)), (31, (zpf 5 9 (.int))), (34, (zla4 0 1)), (35, (zcv 58 0 5)), (38, (zst 1 (zp (.int (1))))), (39, (zri true))]
theorem kX5_takesName_1 : ∀ q ∈ tX5_takesName_1, zOk zg iX5_takesName q.1 q.2 := (z_c (ok_getf (C := RX5) (T := TX5) (N := 12) rfl (by decide) zinX5 rfl zw_263 dX5_takesName_20) (z_c (ok_putf (C := RX5) (T := TX5) (N := 12) false tyX5 tyX5_ok nmX5 rfl (by decide) zinX5 rfl zw_279 rfl (fun h => absurd h (by decide)) rfl dX5_takesName_23) (z_c (ok_aload_n dX5_takesName_26 rfl) (z_c (ok_aload_n dX5_takesName_27 rfl) (z_c (ok_getf (C := RX5) (T := TX5) (N := 12) rfl (by decide) zinX5 rfl zw_262 dX5_takesName_28) (z_c (ok_putf (C := RX5) (T := TX5) (N := 12) false tyX5 tyX5_ok nmX5 rfl (by decide) zinX5 rfl zw_280 rfl (fun h => absurd h (by decide)) rfl dX5_takesName_31) (z_c (ok_aload_n dX5_takesName_34 rfl) (z_c (ok_callV zcal_58 (q := (RX5, TX5, 12)) rfl zw_258 zw_259 zw_260 dX5_takesName_35) (z_c (ok_iconst (v := (1)) dX5_takesName_38 (by decide)) (z_c (ok_zreturn rfl dX5_takesName_39) z_n))))))))))
noncomputable def tX5_takesName : zT := [(20, tX5_takesName_0), (100000, tX5_takesName_1)]
theorem kX5_takesName : zTok zg iX5_takesName tX5_takesName := (z_t kX5_takesName_0 (z_t kX5_takesName_1 z_tn))
theorem dX5_takesNumber_0 : decode cX5_takesNumber 0 = .ok (.aload_n 0, 1) := by decide +kernel
theorem dX5_takesNumber_1 : decode cX5_takesNumber 1 = .ok (.getfield 42, 3) := by decide +kernel
theorem dX5_takesNumber_4 : decode cX5_takesNumber 4 = .ok (.iconst 3, 1) := by decide +kernel
theorem dX5_takesNumber_5 : decode cX5_takesNumber 5 = .ok (.if_icmp .eq 13, 3) := by decide +kernel
theorem dX5_takesNumber_8 : decode cX5_takesNumber 8 = .ok (.aload_n 0, 1) := by decide +kernel
theorem dX5_takesNumber_9 : decode cX5_takesNumber 9 = .ok (.iconst 1, 1) := by decide +kernel
theorem dX5_takesNumber_10 : decode cX5_takesNumber 10 = .ok (.aload_n 0, 1) := by decide +kernel
theorem dX5_takesNumber_11 : decode cX5_takesNumber 11 = .ok (.getfield 57, 3) := by decide +kernel
theorem dX5_takesNumber_14 : decode cX5_takesNumber 14 = .ok (.invokevirtual 74, 3) := by decide +kernel
theorem dX5_takesNumber_17 : decode cX5_takesNumber 17 = .ok (.ireturn, 1) := by decide +kernel
theorem dX5_takesNumber_18 : decode cX5_takesNumber 18 = .ok (.aload_n 0, 1) := by decide +kernel
theorem dX5_takesNumber_19 : decode cX5_takesNumber 19 = .ok (.getfield 60, 3) := by decide +kernel
theorem dX5_takesNumber_22 : decode cX5_takesNumber 22 = .ok (.iload_n 1, 1) := by decide +kernel
theorem dX5_takesNumber_23 : decode cX5_takesNumber 23 = .ok (.if_icmp .lt 11, 3) := by decide +kernel
theorem dX5_takesNumber_26 : decode cX5_takesNumber 26 = .ok (.aload_n 0, 1) := by decide +kernel
theorem dX5_takesNumber_27 : decode cX5_takesNumber 27 = .ok (.getfield 60, 3) := by decide +kernel
theorem dX5_takesNumber_30 : decode cX5_takesNumber 30 = .ok (.iload_n 2, 1) := by decide +kernel
theorem dX5_takesNumber_31 : decode cX5_takesNumber 31 = .ok (.if_icmp .le 13, 3) := by decide +kernel
theorem dX5_takesNumber_34 : decode cX5_takesNumber 34 = .ok (.aload_n 0, 1) := by decide +kernel
theorem dX5_takesNumber_35 : decode cX5_takesNumber 35 = .ok (.iconst 4, 1) := by decide +kernel
theorem dX5_takesNumber_36 : decode cX5_takesNumber 36 = .ok (.aload_n 0, 1) := by decide +kernel
theorem dX5_takesNumber_37 : decode cX5_takesNumber 37 = .ok (.getfield 57, 3) := by decide +kernel
theorem dX5_takesNumber_40 : decode cX5_takesNumber 40 = .ok (.invokevirtual 74, 3) := by decide +kernel
theorem dX5_takesNumber_43 : decode cX5_takesNumber 43 = .ok (.ireturn, 1) := by decide +kernel
theorem dX5_takesNumber_44 : decode cX5_takesNumber 44 = .ok (.aload_n 0, 1) := by decide +kernel
theorem dX5_takesNumber_45 : decode cX5_takesNumber 45 = .ok (.aload_n 0, 1) := by decide +kernel
theorem dX5_takesNumber_46 : decode cX5_takesNumber 46 = .ok (.getfield 60, 3) := by decide +kernel
theorem dX5_takesNumber_49 : decode cX5_takesNumber 49 = .ok (.putfield 81, 3) := by decide +kernel
theorem dX5_takesNumber_52 : decode cX5_takesNumber 52 = .ok (.aload_n 0, 1) := by decide +kernel
theorem dX5_takesNumber_53 : decode cX5_takesNumber 53 = .ok (.aload_n 0, 1) := by decide +kernel
theorem dX5_takesNumber_54 : decode cX5_takesNumber 54 = .ok (.getfield 57, 3) := by decide +kernel
theorem dX5_takesNumber_57 : decode cX5_takesNumber 57 = .ok (.putfield 84, 3) := by decide +kernel
theorem dX5_takesNumber_60 : decode cX5_takesNumber 60 = .ok (.aload_n 0, 1) := by decide +kernel
theorem dX5_takesNumber_61 : decode cX5_takesNumber 61 = .ok (.invokevirtual 51, 3) := by decide +kernel
theorem dX5_takesNumber_64 : decode cX5_takesNumber 64 = .ok (.iconst 1, 1) := by decide +kernel
theorem dX5_takesNumber_65 : decode cX5_takesNumber 65 = .ok (.ireturn, 1) := by decide +kernel
noncomputable def tX5_takesNumber_0 : List (Nat × zF) := [(0, (zla4 0 1)), (1, (zgf 5 4)), (4, (zst 1 (zp (.int (3))))), (5, (z_ic_eq 18)), (8, (zla4 0 1)), (9, (zst 1 (zp (.int (1))))), (10, (zla4 0 1)), (11, (zgf 5 7)), (14, (zcv 63 2 5)), (17, (zri true)), (18, (zla4 0 1)), (19, (zgf 5 5))]
theorem kX5_takesNumber_0 : ∀ q ∈ tX5_takesNumber_0, zOk zg iX5_takesNumber q.1 q.2 := (z_c (ok_aload_n dX5_takesNumber_0 rfl) (z_c (ok_getf (C := RX5) (T := TX5) (N := 12) rfl (by decide) zinX5 rfl zw_255 dX5_takesNumber_1) (z_c (ok_iconst (v := (3)) dX5_takesNumber_4 (by decide)) (z_c (ok_icmp_eq dX5_takesNumber_5 (by decide)) (z_c (ok_aload_n dX5_takesNumber_8 rfl) (z_c (ok_iconst (v := (1)) dX5_takesNumber_9 (by decide)) (z_c (ok_aload_n dX5_takesNumber_10 rfl) (z_c (ok_getf (C := RX5) (T := TX5) (N := 12) rfl (by decide) zinX5 rfl zw_262 dX5_takesNumber_11) (z_c (ok_callV zcal_63 (q := (RX5, TX5, 12)) rfl zw_273 zw_274 zw_275 dX5_takesNumber_14) (z_c (ok_zreturn rfl dX5_takesNumber_17) (z_c (ok_aload_n dX5_takesNumber_18 rfl) (z_c (ok_getf (C := RX5) (T := TX5) (N := 12) rfl (by decide) zinX5 rfl zw_263 dX5_takesNumber_19) z_n))))))))))))
noncomputable def tX5_takesNumber_1 : List (Nat × zF) := [(22, (zli4 1 1)), (23, (z_ic_lt 34)), (26, (zla4 0 1)), (27, (zgf 5 5)), (30, (zli4 2 1)), (31, (z_ic_le 44)), (34, (zla4 0 1)), (35, (zst 1 (zp (.int (4))))), (36, (zla4 0 1)), (37, (zgf 5 7)), (40, (zcv 63 2 5)), (43, (zri true))]
theorem kX5_takesNumber_1 : ∀ q ∈ tX5_takesNumber_1, zOk zg iX5_takesNumber q.1 q.2 := (z_c (ok_iload_n dX5_takesNumber_22 rfl) (z_c (ok_icmp_lt dX5_takesNumber_23 (by decide)) (z_c (ok_aload_n dX5_takesNumber_26 rfl) (z_c (ok_getf (C := RX5) (T := TX5) (N := 12) rfl (by decide) zinX5 rfl zw_263 dX5_takesNumber_27) (z_c (ok_iload_n dX5_takesNumber_30 rfl) (z_c (ok_icmp_le dX5_takesNumber_31 (by decide)) (z_c (ok_aload_n dX5_takesNumber_34 rfl) (z_c (ok_iconst (v := (4)) dX5_takesNumber_35 (by decide)) (z_c (ok_aload_n dX5_takesNumber_36 rfl) (z_c (ok_getf (C := RX5) (T := TX5) (N := 12) rfl (by decide) zinX5 rfl zw_262 dX5_takesNumber_37) (z_c (ok_callV zcal_63 (q := (RX5, TX5, 12)) rfl zw_273 zw_274 zw_275 dX5_takesNumber_40) (z_c (ok_zreturn rfl dX5_takesNumber_43) z_n))))))))))))
noncomputable def tX5_takesNumber_2 : List (Nat × zF) := [(44, (zla4 0 1)), (45, (zla4 0 1)), (46, (zgf 5 5)), (49, (zpf 5 8 (.int))), (52, (zla4 0 1)), (53, (zla4 0 1)), (54, (zgf 5 7)), (57, (zpf 5 9 (.int))), (60, (zla4 0 1)), (61, (zcv 58 0 5)), (64, (zst 1 (zp (.int (1))))), (65, (zri true))]
theorem kX5_takesNumber_2 : ∀ q ∈ tX5_takesNumber_2, zOk zg iX5_takesNumber q.1 q.2 := (z_c (ok_aload_n dX5_takesNumber_44 rfl) (z_c (ok_aload_n dX5_takesNumber_45 rfl) (z_c (ok_getf (C := RX5) (T := TX5) (N := 12) rfl (by decide) zinX5 rfl zw_263 dX5_takesNumber_46) (z_c (ok_putf (C := RX5) (T := TX5) (N := 12) false tyX5 tyX5_ok nmX5 rfl (by decide) zinX5 rfl zw_279 rfl (fun h => absurd h (by decide)) rfl dX5_takesNumber_49) (z_c (ok_aload_n dX5_takesNumber_52 rfl) (z_c (ok_aload_n dX5_takesNumber_53 rfl) (z_c (ok_getf (C := RX5) (T := TX5) (N := 12) rfl (by decide) zinX5 rfl zw_262 dX5_takesNumber_54) (z_c (ok_putf (C := RX5) (T := TX5) (N := 12) false tyX5 tyX5_ok nmX5 rfl (by decide) zinX5 rfl zw_280 rfl (fun h => absurd h (by decide)) rfl dX5_takesNumber_57) (z_c (ok_aload_n dX5_takesNumber_60 rfl) (z_c (ok_callV zcal_58 (q := (RX5, TX5, 12)) rfl zw_258 zw_259 zw_260 dX5_takesNumber_61) (z_c (ok_iconst (v := (1)) dX5_takesNumber_64 (by decide)) (z_c (ok_zreturn rfl dX5_takesNumber_65) z_n))))))))))))
noncomputable def tX5_takesNumber : zT := [(22, tX5_takesNumber_0), (44, tX5_takesNumber_1), (100000, tX5_takesNumber_2)]
theorem kX5_takesNumber : zTok zg iX5_takesNumber tX5_takesNumber := (z_t kX5_takesNumber_0 (z_t kX5_takesNumber_1 (z_t kX5_takesNumber_2 z_tn)))
theorem dX6_init_0 : decode cX6_init 0 = .ok (.aload_n 0, 1) := by decide +kernel
theorem dX6_init_1 : decode cX6_init 1 = .ok (.invokespecial 3, 3) := by decide +kernel
theorem dX6_init_4 : decode cX6_init 4 = .ok (.aload_n 0, 1) := by decide +kernel
theorem dX6_init_5 : decode cX6_init 5 = .ok (.sipush 128, 3) := by decide +kernel
theorem dX6_init_8 : decode cX6_init 8 = .ok (.newarray .int, 2) := by decide +kernel
theorem dX6_init_10 : decode cX6_init 10 = .ok (.putfield 9, 3) := by decide +kernel
theorem dX6_init_13 : decode cX6_init 13 = .ok (.return_, 1) := by decide +kernel
noncomputable def tX6_init_0 : List (Nat × zF) := [(0, (zla4 0 1)), (1, zoi), (4, (zla4 0 1)), (5, (zst 3 (zp (.int (128))))), (8, (zna 0 4 zn_int 2)), (10, (zpf 6 0 (.array .int))), (13, zrv)]
theorem kX6_init_0 : ∀ q ∈ tX6_init_0, zOk zg iX6_init q.1 q.2 := (z_c (ok_aload_n dX6_init_0 rfl) (z_c (ok_objInit zw_281 zw_1 zw_2 dX6_init_1) (z_c (ok_aload_n dX6_init_4 rfl) (z_c (ok_sipush (v := (128)) dX6_init_5 (by decide)) (z_c (ok_newa (ty := .int) rfl rfl (fun _ h => by cases h) zw_96 rfl zn_int_c zn_int_n dX6_init_8) (z_c (ok_putf (C := RX6) (T := TX6) (N := 7) true tyX6 tyX6_ok nmX6 rfl (by decide) zinX6 rfl zw_282 rfl (fun _ => ⟨rfl, rfl⟩) rfl dX6_init_10) (z_c (ok_return rfl dX6_init_13) z_n)))))))
noncomputable def tX6_init : zT := [(100000, tX6_init_0)]
theorem kX6_init : zTok zg iX6_init tX6_init := (z_t kX6_init_0 z_tn)
theorem dX6_value_0 : decode cX6_value 0 = .ok (.iconst 2, 1) := by decide +kernel
theorem dX6_value_1 : decode cX6_value 1 = .ok (.istore_n 3, 1) := by decide +kernel
theorem dX6_value_2 : decode cX6_value 2 = .ok (.aload_n 1, 1) := by decide +kernel
theorem dX6_value_3 : decode cX6_value 3 = .ok (.getfield 15, 3) := by decide +kernel
theorem dX6_value_6 : decode cX6_value 6 = .ok (.iload_n 2, 1) := by decide +kernel
theorem dX6_value_7 : decode cX6_value 7 = .ok (.iaload, 1) := by decide +kernel
theorem dX6_value_8 : decode cX6_value 8 = .ok (.istore 4, 2) := by decide +kernel
theorem dX6_value_10 : decode cX6_value 10 = .ok (.iload 4, 2) := by decide +kernel
theorem dX6_value_12 : decode cX6_value 12 = .ok (.aload_n 1, 1) := by decide +kernel
theorem dX6_value_13 : decode cX6_value 13 = .ok (.getfield 20, 3) := by decide +kernel
theorem dX6_value_16 : decode cX6_value 16 = .ok (.iload_n 2, 1) := by decide +kernel
theorem dX6_value_17 : decode cX6_value 17 = .ok (.iaload, 1) := by decide +kernel
theorem dX6_value_18 : decode cX6_value 18 = .ok (.if_icmp .ge 192, 3) := by decide +kernel
theorem dX6_value_21 : decode cX6_value 21 = .ok (.iload_n 3, 1) := by decide +kernel
theorem dX6_value_22 : decode cX6_value 22 = .ok (.iconst 2, 1) := by decide +kernel
theorem dX6_value_23 : decode cX6_value 23 = .ok (.if_icmp .lt 12, 3) := by decide +kernel
theorem dX6_value_26 : decode cX6_value 26 = .ok (.iload_n 3, 1) := by decide +kernel
theorem dX6_value_27 : decode cX6_value 27 = .ok (.iconst 1, 1) := by decide +kernel
theorem dX6_value_28 : decode cX6_value 28 = .ok (.iadd, 1) := by decide +kernel
theorem dX6_value_29 : decode cX6_value 29 = .ok (.sipush 128, 3) := by decide +kernel
theorem dX6_value_32 : decode cX6_value 32 = .ok (.if_icmp .lt 5, 3) := by decide +kernel
theorem dX6_value_35 : decode cX6_value 35 = .ok (.iconst 0, 1) := by decide +kernel
theorem dX6_value_36 : decode cX6_value 36 = .ok (.ireturn, 1) := by decide +kernel
theorem dX6_value_37 : decode cX6_value 37 = .ok (.aload_n 1, 1) := by decide +kernel
theorem dX6_value_38 : decode cX6_value 38 = .ok (.getfield 23, 3) := by decide +kernel
theorem dX6_value_41 : decode cX6_value 41 = .ok (.iload 4, 2) := by decide +kernel
theorem dX6_value_43 : decode cX6_value 43 = .ok (.iaload, 1) := by decide +kernel
theorem dX6_value_44 : decode cX6_value 44 = .ok (.istore 5, 2) := by decide +kernel
theorem dX6_value_46 : decode cX6_value 46 = .ok (.iload 5, 2) := by decide +kernel
theorem dX6_value_48 : decode cX6_value 48 = .ok (.sipush 10000, 3) := by decide +kernel
theorem dX6_value_51 : decode cX6_value 51 = .ok (.isub, 1) := by decide +kernel
theorem dX6_value_52 : decode cX6_value 52 = .ok (.istore 6, 2) := by decide +kernel
theorem dX6_value_54 : decode cX6_value 54 = .ok (.iload 6, 2) := by decide +kernel
theorem dX6_value_56 : decode cX6_value 56 = .ok (.ifCond .ge 17, 3) := by decide +kernel
theorem dX6_value_59 : decode cX6_value 59 = .ok (.iinc 3 1, 3) := by decide +kernel
theorem dX6_value_62 : decode cX6_value 62 = .ok (.aload_n 0, 1) := by decide +kernel
theorem dX6_value_63 : decode cX6_value 63 = .ok (.getfield 9, 3) := by decide +kernel
theorem dX6_value_66 : decode cX6_value 66 = .ok (.iload_n 3, 1) := by decide +kernel
theorem dX6_value_67 : decode cX6_value 67 = .ok (.iload 5, 2) := by decide +kernel
theorem dX6_value_69 : decode cX6_value 69 = .ok (.iastore, 1) := by decide +kernel
theorem dX6_value_70 : decode cX6_value 70 = .ok (.goto 134, 3) := by decide +kernel
theorem dX6_value_73 : decode cX6_value 73 = .ok (.iload 6, 2) := by decide +kernel
theorem dX6_value_75 : decode cX6_value 75 = .ok (.bipush 22, 2) := by decide +kernel
theorem dX6_value_77 : decode cX6_value 77 = .ok (.if_icmp .ne 20, 3) := by decide +kernel
theorem dX6_value_80 : decode cX6_value 80 = .ok (.aload_n 0, 1) := by decide +kernel
theorem dX6_value_81 : decode cX6_value 81 = .ok (.getfield 9, 3) := by decide +kernel
theorem dX6_value_84 : decode cX6_value 84 = .ok (.iload_n 3, 1) := by decide +kernel
theorem dX6_value_85 : decode cX6_value 85 = .ok (.iconst 1, 1) := by decide +kernel
theorem dX6_value_86 : decode cX6_value 86 = .ok (.aload_n 0, 1) := by decide +kernel
theorem dX6_value_87 : decode cX6_value 87 = .ok (.getfield 9, 3) := by decide +kernel
theorem dX6_value_90 : decode cX6_value 90 = .ok (.iload_n 3, 1) := by decide +kernel
theorem dX6_value_91 : decode cX6_value 91 = .ok (.iaload, 1) := by decide +kernel
theorem dX6_value_92 : decode cX6_value 92 = .ok (.isub, 1) := by decide +kernel
theorem dX6_value_93 : decode cX6_value 93 = .ok (.iastore, 1) := by decide +kernel
theorem dX6_value_94 : decode cX6_value 94 = .ok (.goto 110, 3) := by decide +kernel
theorem dX6_value_97 : decode cX6_value 97 = .ok (.iload 6, 2) := by decide +kernel
theorem dX6_value_99 : decode cX6_value 99 = .ok (.bipush 19, 2) := by decide +kernel
theorem dX6_value_101 : decode cX6_value 101 = .ok (.if_icmp .ne 43, 3) := by decide +kernel
theorem dX6_value_104 : decode cX6_value 104 = .ok (.iinc 3 (-2), 3) := by decide +kernel
theorem dX6_value_107 : decode cX6_value 107 = .ok (.aload_n 0, 1) := by decide +kernel
theorem dX6_value_108 : decode cX6_value 108 = .ok (.getfield 9, 3) := by decide +kernel
theorem dX6_value_111 : decode cX6_value 111 = .ok (.iload_n 3, 1) := by decide +kernel
theorem dX6_value_112 : decode cX6_value 112 = .ok (.aload_n 0, 1) := by decide +kernel
theorem dX6_value_113 : decode cX6_value 113 = .ok (.getfield 9, 3) := by decide +kernel
theorem dX6_value_116 : decode cX6_value 116 = .ok (.iload_n 3, 1) := by decide +kernel
theorem dX6_value_117 : decode cX6_value 117 = .ok (.iaload, 1) := by decide +kernel
theorem dX6_value_118 : decode cX6_value 118 = .ok (.ifCond .eq 14, 3) := by decide +kernel
theorem dX6_value_121 : decode cX6_value 121 = .ok (.aload_n 0, 1) := by decide +kernel
theorem dX6_value_122 : decode cX6_value 122 = .ok (.getfield 9, 3) := by decide +kernel
theorem dX6_value_125 : decode cX6_value 125 = .ok (.iload_n 3, 1) := by decide +kernel
theorem dX6_value_126 : decode cX6_value 126 = .ok (.iconst 1, 1) := by decide +kernel
theorem dX6_value_127 : decode cX6_value 127 = .ok (.iadd, 1) := by decide +kernel
theorem dX6_value_128 : decode cX6_value 128 = .ok (.iaload, 1) := by decide +kernel
theorem dX6_value_129 : decode cX6_value 129 = .ok (.goto 11, 3) := by decide +kernel
theorem dX6_value_132 : decode cX6_value 132 = .ok (.aload_n 0, 1) := by decide +kernel
theorem dX6_value_133 : decode cX6_value 133 = .ok (.getfield 9, 3) := by decide +kernel
theorem dX6_value_136 : decode cX6_value 136 = .ok (.iload_n 3, 1) := by decide +kernel
theorem dX6_value_137 : decode cX6_value 137 = .ok (.iconst 2, 1) := by decide +kernel
theorem dX6_value_138 : decode cX6_value 138 = .ok (.iadd, 1) := by decide +kernel
theorem dX6_value_139 : decode cX6_value 139 = .ok (.iaload, 1) := by decide +kernel
theorem dX6_value_140 : decode cX6_value 140 = .ok (.iastore, 1) := by decide +kernel
theorem dX6_value_141 : decode cX6_value 141 = .ok (.goto 63, 3) := by decide +kernel
theorem dX6_value_144 : decode cX6_value 144 = .ok (.iload 6, 2) := by decide +kernel
theorem dX6_value_146 : decode cX6_value 146 = .ok (.bipush 20, 2) := by decide +kernel
theorem dX6_value_148 : decode cX6_value 148 = .ok (.if_icmp .lt 41, 3) := by decide +kernel
theorem dX6_value_151 : decode cX6_value 151 = .ok (.iload 6, 2) := by decide +kernel
theorem dX6_value_153 : decode cX6_value 153 = .ok (.bipush 23, 2) := by decide +kernel
theorem dX6_value_155 : decode cX6_value 155 = .ok (.if_icmp .eq 34, 3) := by decide +kernel
theorem dX6_value_158 : decode cX6_value 158 = .ok (.iinc 3 (-1), 3) := by decide +kernel
theorem dX6_value_161 : decode cX6_value 161 = .ok (.aload_n 0, 1) := by decide +kernel
theorem dX6_value_162 : decode cX6_value 162 = .ok (.getfield 9, 3) := by decide +kernel
theorem dX6_value_165 : decode cX6_value 165 = .ok (.iload_n 3, 1) := by decide +kernel
theorem dX6_value_166 : decode cX6_value 166 = .ok (.iload 6, 2) := by decide +kernel
theorem dX6_value_168 : decode cX6_value 168 = .ok (.aload_n 0, 1) := by decide +kernel
theorem dX6_value_169 : decode cX6_value 169 = .ok (.getfield 9, 3) := by decide +kernel
theorem dX6_value_172 : decode cX6_value 172 = .ok (.iload_n 3, 1) := by decide +kernel
theorem dX6_value_173 : decode cX6_value 173 = .ok (.iaload, 1) := by decide +kernel
theorem dX6_value_174 : decode cX6_value 174 = .ok (.aload_n 0, 1) := by decide +kernel
theorem dX6_value_175 : decode cX6_value 175 = .ok (.getfield 9, 3) := by decide +kernel
theorem dX6_value_178 : decode cX6_value 178 = .ok (.iload_n 3, 1) := by decide +kernel
theorem dX6_value_179 : decode cX6_value 179 = .ok (.iconst 1, 1) := by decide +kernel
theorem dX6_value_180 : decode cX6_value 180 = .ok (.iadd, 1) := by decide +kernel
theorem dX6_value_181 : decode cX6_value 181 = .ok (.iaload, 1) := by decide +kernel
theorem dX6_value_182 : decode cX6_value 182 = .ok (.invokestatic 26, 3) := by decide +kernel
theorem dX6_value_185 : decode cX6_value 185 = .ok (.iastore, 1) := by decide +kernel
theorem dX6_value_186 : decode cX6_value 186 = .ok (.goto 18, 3) := by decide +kernel
theorem dX6_value_189 : decode cX6_value 189 = .ok (.iinc 3 1, 3) := by decide +kernel
theorem dX6_value_192 : decode cX6_value 192 = .ok (.aload_n 0, 1) := by decide +kernel
theorem dX6_value_193 : decode cX6_value 193 = .ok (.getfield 9, 3) := by decide +kernel
theorem dX6_value_196 : decode cX6_value 196 = .ok (.iload_n 3, 1) := by decide +kernel
theorem dX6_value_197 : decode cX6_value 197 = .ok (.aload_n 0, 1) := by decide +kernel
theorem dX6_value_198 : decode cX6_value 198 = .ok (.iload 6, 2) := by decide +kernel
theorem dX6_value_200 : decode cX6_value 200 = .ok (.invokevirtual 30, 3) := by decide +kernel
theorem dX6_value_203 : decode cX6_value 203 = .ok (.iastore, 1) := by decide +kernel
theorem dX6_value_204 : decode cX6_value 204 = .ok (.iinc 4 1, 3) := by decide +kernel
theorem dX6_value_207 : decode cX6_value 207 = .ok (.goto (-197), 3) := by decide +kernel
theorem dX6_value_210 : decode cX6_value 210 = .ok (.aload_n 0, 1) := by decide +kernel
theorem dX6_value_211 : decode cX6_value 211 = .ok (.getfield 9, 3) := by decide +kernel
theorem dX6_value_214 : decode cX6_value 214 = .ok (.iload_n 3, 1) := by decide +kernel
theorem dX6_value_215 : decode cX6_value 215 = .ok (.iconst 0, 1) := by decide +kernel
theorem dX6_value_216 : decode cX6_value 216 = .ok (.invokestatic 34, 3) := by decide +kernel
theorem dX6_value_219 : decode cX6_value 219 = .ok (.iaload, 1) := by decide +kernel
theorem dX6_value_220 : decode cX6_value 220 = .ok (.ireturn, 1) := by decide +kernel
noncomputable def tX6_value_0 : List (Nat × zF) := [(0, (zst 1 (zp (.int (2))))), (1, (zsi4 7 3 1)), (2, (zla4 1 1)), (3, (zgf 7 1)), (6, (zli4 2 1)), (7, (zal 0)), (8, (zsi4 7 4 2)), (10, (zli4 4 2)), (12, (zla4 1 1)), (13, (zgf 7 2)), (16, (zli4 2 1)), (17, (zal 0))]
theorem kX6_value_0 : ∀ q ∈ tX6_value_0, zOk zg iX6_value q.1 q.2 := (z_c (ok_iconst (v := (2)) dX6_value_0 (by decide)) (z_c (ok_istore_n dX6_value_1 rfl) (z_c (ok_aload_n dX6_value_2 rfl) (z_c (ok_getf (C := RX7) (T := TX7) (N := 4) rfl (by decide) zinX7 rfl zw_283 dX6_value_3) (z_c (ok_iload_n dX6_value_6 rfl) (z_c (ok_iaload rfl dX6_value_7) (z_c (ok_istore dX6_value_8) (z_c (ok_iload dX6_value_10) (z_c (ok_aload_n dX6_value_12 rfl) (z_c (ok_getf (C := RX7) (T := TX7) (N := 4) rfl (by decide) zinX7 rfl zw_284 dX6_value_13) (z_c (ok_iload_n dX6_value_16 rfl) (z_c (ok_iaload rfl dX6_value_17) z_n))))))))))))
noncomputable def tX6_value_1 : List (Nat × zF) := [(18, (z_ic_ge 210)), (21, (zli4 3 1)), (22, (zst 1 (zp (.int (2))))), (23, (z_ic_lt 35)), (26, (zli4 3 1)), (27, (zst 1 (zp (.int (1))))), (28, (zst 1 z_iadd)), (29, (zst 3 (zp (.int (128))))), (32, (z_ic_lt 37)), (35, (zst 1 (zp (.int (0))))), (36, (zri false)), (37, (zla4 1 1))]
theorem kX6_value_1 : ∀ q ∈ tX6_value_1, zOk zg iX6_value q.1 q.2 := (z_c (ok_icmp_ge dX6_value_18 (by decide)) (z_c (ok_iload_n dX6_value_21 rfl) (z_c (ok_iconst (v := (2)) dX6_value_22 (by decide)) (z_c (ok_icmp_lt dX6_value_23 (by decide)) (z_c (ok_iload_n dX6_value_26 rfl) (z_c (ok_iconst (v := (1)) dX6_value_27 (by decide)) (z_c (ok_iadd dX6_value_28) (z_c (ok_sipush (v := (128)) dX6_value_29 (by decide)) (z_c (ok_icmp_lt dX6_value_32 (by decide)) (z_c (ok_iconst (v := (0)) dX6_value_35 (by decide)) (z_c (ok_ireturn rfl dX6_value_36) (z_c (ok_aload_n dX6_value_37 rfl) z_n))))))))))))
noncomputable def tX6_value_2 : List (Nat × zF) := [(38, (zgf 7 0)), (41, (zli4 4 2)), (43, (zal 0)), (44, (zsi4 7 5 2)), (46, (zli4 5 2)), (48, (zst 3 (zp (.int (10000))))), (51, (zst 1 z_isub)), (52, (zsi4 7 6 2)), (54, (zli4 6 2)), (56, (z_if_ge 73)), (59, (zin4 7 3 (1))), (62, (zla4 0 1))]
theorem kX6_value_2 : ∀ q ∈ tX6_value_2, zOk zg iX6_value q.1 q.2 := (z_c (ok_getf (C := RX7) (T := TX7) (N := 4) rfl (by decide) zinX7 rfl zw_285 dX6_value_38) (z_c (ok_iload dX6_value_41) (z_c (ok_iaload rfl dX6_value_43) (z_c (ok_istore dX6_value_44) (z_c (ok_iload dX6_value_46) (z_c (ok_sipush (v := (10000)) dX6_value_48 (by decide)) (z_c (ok_isub dX6_value_51) (z_c (ok_istore dX6_value_52) (z_c (ok_iload dX6_value_54) (z_c (ok_if_ge dX6_value_56 (by decide)) (z_c (ok_iinc (v := (1)) dX6_value_59 (by decide)) (z_c (ok_aload_n dX6_value_62 rfl) z_n))))))))))))
noncomputable def tX6_value_3 : List (Nat × zF) := [(63, (zgf 6 0)), (66, (zli4 3 1)), (67, (zli4 5 2)), (69, (zas 0)), (70, (zgt 204)), (73, (zli4 6 2)), (75, (zst 2 (zp (.int (22))))), (77, (z_ic_ne 97)), (80, (zla4 0 1)), (81, (zgf 6 0)), (84, (zli4 3 1)), (85, (zst 1 (zp (.int (1)))))]
theorem kX6_value_3 : ∀ q ∈ tX6_value_3, zOk zg iX6_value q.1 q.2 := (z_c (ok_getf (C := RX6) (T := TX6) (N := 7) rfl (by decide) zinX6 rfl zw_282 dX6_value_63) (z_c (ok_iload_n dX6_value_66 rfl) (z_c (ok_iload dX6_value_67) (z_c (ok_iastore rfl dX6_value_69) (z_c (ok_goto dX6_value_70 (by decide)) (z_c (ok_iload dX6_value_73) (z_c (ok_bipush (v := (22)) dX6_value_75 (by decide)) (z_c (ok_icmp_ne dX6_value_77 (by decide)) (z_c (ok_aload_n dX6_value_80 rfl) (z_c (ok_getf (C := RX6) (T := TX6) (N := 7) rfl (by decide) zinX6 rfl zw_282 dX6_value_81) (z_c (ok_iload_n dX6_value_84 rfl) (z_c (ok_iconst (v := (1)) dX6_value_85 (by decide)) z_n))))))))))))
noncomputable def tX6_value_4 : List (Nat × zF) := [(86, (zla4 0 1)), (87, (zgf 6 0)), (90, (zli4 3 1)), (91, (zal 0)), (92, (zst 1 z_isub)), (93, (zas 0)), (94, (zgt 204)), (97, (zli4 6 2)), (99, (zst 2 (zp (.int (19))))), (101, (z_ic_ne 144)), (104, (zin4 7 3 (-2))), (107, (zla4 0 1))]
theorem kX6_value_4 : ∀ q ∈ tX6_value_4, zOk zg iX6_value q.1 q.2 := (z_c (ok_aload_n dX6_value_86 rfl) (z_c (ok_getf (C := RX6) (T := TX6) (N := 7) rfl (by decide) zinX6 rfl zw_282 dX6_value_87) (z_c (ok_iload_n dX6_value_90 rfl) (z_c (ok_iaload rfl dX6_value_91) (z_c (ok_isub dX6_value_92) (z_c (ok_iastore rfl dX6_value_93) (z_c (ok_goto dX6_value_94 (by decide)) (z_c (ok_iload dX6_value_97) (z_c (ok_bipush (v := (19)) dX6_value_99 (by decide)) (z_c (ok_icmp_ne dX6_value_101 (by decide)) (z_c (ok_iinc (v := (-2)) dX6_value_104 (by decide)) (z_c (ok_aload_n dX6_value_107 rfl) z_n))))))))))))
noncomputable def tX6_value_5 : List (Nat × zF) := [(108, (zgf 6 0)), (111, (zli4 3 1)), (112, (zla4 0 1)), (113, (zgf 6 0)), (116, (zli4 3 1)), (117, (zal 0)), (118, (z_if_eq 132)), (121, (zla4 0 1)), (122, (zgf 6 0)), (125, (zli4 3 1)), (126, (zst 1 (zp (.int (1))))), (127, (zst 1 z_iadd))]
theorem kX6_value_5 : ∀ q ∈ tX6_value_5, zOk zg iX6_value q.1 q.2 := (z_c (ok_getf (C := RX6) (T := TX6) (N := 7) rfl (by decide) zinX6 rfl zw_282 dX6_value_108) (z_c (ok_iload_n dX6_value_111 rfl) (z_c (ok_aload_n dX6_value_112 rfl) (z_c (ok_getf (C := RX6) (T := TX6) (N := 7) rfl (by decide) zinX6 rfl zw_282 dX6_value_113) (z_c (ok_iload_n dX6_value_116 rfl) (z_c (ok_iaload rfl dX6_value_117) (z_c (ok_if_eq dX6_value_118 (by decide)) (z_c (ok_aload_n dX6_value_121 rfl) (z_c (ok_getf (C := RX6) (T := TX6) (N := 7) rfl (by decide) zinX6 rfl zw_282 dX6_value_122) (z_c (ok_iload_n dX6_value_125 rfl) (z_c (ok_iconst (v := (1)) dX6_value_126 (by decide)) (z_c (ok_iadd dX6_value_127) z_n))))))))))))
noncomputable def tX6_value_6 : List (Nat × zF) := [(128, (zal 0)), (129, (zgt 140)), (132, (zla4 0 1)), (133, (zgf 6 0)), (136, (zli4 3 1)), (137, (zst 1 (zp (.int (2))))), (138, (zst 1 z_iadd)), (139, (zal 0)), (140, (zas 0)), (141, (zgt 204)), (144, (zli4 6 2)), (146, (zst 2 (zp (.int (20)))))]
theorem kX6_value_6 : ∀ q ∈ tX6_value_6, zOk zg iX6_value q.1 q.2 := (z_c (ok_iaload rfl dX6_value_128) (z_c (ok_goto dX6_value_129 (by decide)) (z_c (ok_aload_n dX6_value_132 rfl) (z_c (ok_getf (C := RX6) (T := TX6) (N := 7) rfl (by decide) zinX6 rfl zw_282 dX6_value_133) (z_c (ok_iload_n dX6_value_136 rfl) (z_c (ok_iconst (v := (2)) dX6_value_137 (by decide)) (z_c (ok_iadd dX6_value_138) (z_c (ok_iaload rfl dX6_value_139) (z_c (ok_iastore rfl dX6_value_140) (z_c (ok_goto dX6_value_141 (by decide)) (z_c (ok_iload dX6_value_144) (z_c (ok_bipush (v := (20)) dX6_value_146 (by decide)) z_n))))))))))))
noncomputable def tX6_value_7 : List (Nat × zF) := [(148, (z_ic_lt 189)), (151, (zli4 6 2)), (153, (zst 2 (zp (.int (23))))), (155, (z_ic_eq 189)), (158, (zin4 7 3 (-1))), (161, (zla4 0 1)), (162, (zgf 6 0)), (165, (zli4 3 1)), (166, (zli4 6 2)), (168, (zla4 0 1)), (169, (zgf 6 0)), (172, (zli4 3 1))]
theorem kX6_value_7 : ∀ q ∈ tX6_value_7, zOk zg iX6_value q.1 q.2 := (z_c (ok_icmp_lt dX6_value_148 (by decide)) (z_c (ok_iload dX6_value_151) (z_c (ok_bipush (v := (23)) dX6_value_153 (by decide)) (z_c (ok_icmp_eq dX6_value_155 (by decide)) (z_c (ok_iinc (v := (-1)) dX6_value_158 (by decide)) (z_c (ok_aload_n dX6_value_161 rfl) (z_c (ok_getf (C := RX6) (T := TX6) (N := 7) rfl (by decide) zinX6 rfl zw_282 dX6_value_162) (z_c (ok_iload_n dX6_value_165 rfl) (z_c (ok_iload dX6_value_166) (z_c (ok_aload_n dX6_value_168 rfl) (z_c (ok_getf (C := RX6) (T := TX6) (N := 7) rfl (by decide) zinX6 rfl zw_282 dX6_value_169) (z_c (ok_iload_n dX6_value_172 rfl) z_n))))))))))))
noncomputable def tX6_value_8 : List (Nat × zF) := [(173, (zal 0)), (174, (zla4 0 1)), (175, (zgf 6 0)), (178, (zli4 3 1)), (179, (zst 1 (zp (.int (1))))), (180, (zst 1 z_iadd)), (181, (zal 0)), (182, (zcs 71 3)), (185, (zas 0)), (186, (zgt 204)), (189, (zin4 7 3 (1))), (192, (zla4 0 1))]
theorem kX6_value_8 : ∀ q ∈ tX6_value_8, zOk zg iX6_value q.1 q.2 := (z_c (ok_iaload rfl dX6_value_173) (z_c (ok_aload_n dX6_value_174 rfl) (z_c (ok_getf (C := RX6) (T := TX6) (N := 7) rfl (by decide) zinX6 rfl zw_282 dX6_value_175) (z_c (ok_iload_n dX6_value_178 rfl) (z_c (ok_iconst (v := (1)) dX6_value_179 (by decide)) (z_c (ok_iadd dX6_value_180) (z_c (ok_iaload rfl dX6_value_181) (z_c (ok_callS zcal_71 zw_286 zw_287 dX6_value_182) (z_c (ok_iastore rfl dX6_value_185) (z_c (ok_goto dX6_value_186 (by decide)) (z_c (ok_iinc (v := (1)) dX6_value_189 (by decide)) (z_c (ok_aload_n dX6_value_192 rfl) z_n))))))))))))
noncomputable def tX6_value_9 : List (Nat × zF) := [(193, (zgf 6 0)), (196, (zli4 3 1)), (197, (zla4 0 1)), (198, (zli4 6 2)), (200, (zcv 70 1 6)), (203, (zas 0)), (204, (zin4 7 4 (1))), (207, (zgt 10)), (210, (zla4 0 1)), (211, (zgf 6 0)), (214, (zli4 3 1)), (215, (zst 1 (zp (.int (0)))))]
theorem kX6_value_9 : ∀ q ∈ tX6_value_9, zOk zg iX6_value q.1 q.2 := (z_c (ok_getf (C := RX6) (T := TX6) (N := 7) rfl (by decide) zinX6 rfl zw_282 dX6_value_193) (z_c (ok_iload_n dX6_value_196 rfl) (z_c (ok_aload_n dX6_value_197 rfl) (z_c (ok_iload dX6_value_198) (z_c (ok_callV zcal_70 (q := (RX6, TX6, 7)) rfl zw_288 zw_289 zw_290 dX6_value_200) (z_c (ok_iastore rfl dX6_value_203) (z_c (ok_iinc (v := (1)) dX6_value_204 (by decide)) (z_c (ok_goto dX6_value_207 (by decide)) (z_c (ok_aload_n dX6_value_210 rfl) (z_c (ok_getf (C := RX6) (T := TX6) (N := 7) rfl (by decide) zinX6 rfl zw_282 dX6_value_211) (z_c (ok_iload_n dX6_value_214 rfl) (z_c (ok_iconst (v := (0)) dX6_value_215 (by decide)) z_n))))))))))))
noncomputable def tX6_value_10 : List (Nat × zF) := [(216, zmmax), (219, (zal 0)), (220, (zri false))]
theorem kX6_value_10 : ∀ q ∈ tX6_value_10, zOk zg iX6_value q.1 q.2 := (z_c (ok_mmax zw_291 zw_52 zw_49 zw_53 dX6_value_216) (z_c (ok_iaload rfl dX6_value_219) (z_c (ok_ireturn rfl dX6_value_220) z_n)))
noncomputable def tX6_value : zT := [(18, tX6_value_0), (38, tX6_value_1), (63, tX6_value_2), (86, tX6_value_3), (108, tX6_value_4), (128, tX6_value_5), (148, tX6_value_6), (173, tX6_value_7), (193, tX6_value_8), (216, tX6_value_9), (100000, tX6_value_10)]
theorem kX6_value : zTok zg iX6_value tX6_value := (z_t kX6_value_0 (z_t kX6_value_1 (z_t kX6_value_2 (z_t kX6_value_3 (z_t kX6_value_4 (z_t kX6_value_5 (z_t kX6_value_6 (z_t kX6_value_7 (z_t kX6_value_8 (z_t kX6_value_9 (z_t kX6_value_10 z_tn)))))))))))
theorem dX6_named_0 : decode cX6_named 0 = .ok (.iload_n 1, 1) := by decide +kernel
theorem dX6_named_1 : decode cX6_named 1 = .ok (.tableswitch 93 7 18 #[68, 73, 93, 93, 93, 93, 93, 93, 63, 78, 83, 88], 63) := by decide +kernel
theorem dX6_named_64 : decode cX6_named 64 = .ok (.aload_n 0, 1) := by decide +kernel
theorem dX6_named_65 : decode cX6_named 65 = .ok (.getfield 40, 3) := by decide +kernel
theorem dX6_named_68 : decode cX6_named 68 = .ok (.ireturn, 1) := by decide +kernel
theorem dX6_named_69 : decode cX6_named 69 = .ok (.aload_n 0, 1) := by decide +kernel
theorem dX6_named_70 : decode cX6_named 70 = .ok (.getfield 44, 3) := by decide +kernel
theorem dX6_named_73 : decode cX6_named 73 = .ok (.ireturn, 1) := by decide +kernel
theorem dX6_named_74 : decode cX6_named 74 = .ok (.aload_n 0, 1) := by decide +kernel
theorem dX6_named_75 : decode cX6_named 75 = .ok (.getfield 47, 3) := by decide +kernel
theorem dX6_named_78 : decode cX6_named 78 = .ok (.ireturn, 1) := by decide +kernel
theorem dX6_named_79 : decode cX6_named 79 = .ok (.aload_n 0, 1) := by decide +kernel
theorem dX6_named_80 : decode cX6_named 80 = .ok (.getfield 50, 3) := by decide +kernel
theorem dX6_named_83 : decode cX6_named 83 = .ok (.ireturn, 1) := by decide +kernel
theorem dX6_named_84 : decode cX6_named 84 = .ok (.aload_n 0, 1) := by decide +kernel
theorem dX6_named_85 : decode cX6_named 85 = .ok (.getfield 53, 3) := by decide +kernel
theorem dX6_named_88 : decode cX6_named 88 = .ok (.ireturn, 1) := by decide +kernel
theorem dX6_named_89 : decode cX6_named 89 = .ok (.aload_n 0, 1) := by decide +kernel
theorem dX6_named_90 : decode cX6_named 90 = .ok (.getfield 56, 3) := by decide +kernel
theorem dX6_named_93 : decode cX6_named 93 = .ok (.ireturn, 1) := by decide +kernel
theorem dX6_named_94 : decode cX6_named 94 = .ok (.iconst 1, 1) := by decide +kernel
theorem dX6_named_95 : decode cX6_named 95 = .ok (.ireturn, 1) := by decide +kernel
noncomputable def tX6_named_0 : List (Nat × zF) := [(0, (zli4 1 1)), (1, (zts [(7, 69), (8, 74), (9, 94), (10, 94), (11, 94), (12, 94), (13, 94), (14, 94), (15, 64), (16, 79), (17, 84), (18, 89)] 94)), (64, (zla4 0 1)), (65, (zgf 6 1)), (68, (zri false)), (69, (zla4 0 1)), (70, (zgf 6 2)), (73, (zri false)), (74, (zla4 0 1)), (75, (zgf 6 3)), (78, (zri false)), (79, (zla4 0 1))]
theorem kX6_named_0 : ∀ q ∈ tX6_named_0, zOk zg iX6_named q.1 q.2 := (z_c (ok_iload_n dX6_named_0 rfl) (z_c (ok_tsw dX6_named_1 (by decide) (by decide +kernel) (by decide +kernel) (by decide)) (z_c (ok_aload_n dX6_named_64 rfl) (z_c (ok_getf (C := RX6) (T := TX6) (N := 7) rfl (by decide) zinX6 rfl zw_292 dX6_named_65) (z_c (ok_ireturn rfl dX6_named_68) (z_c (ok_aload_n dX6_named_69 rfl) (z_c (ok_getf (C := RX6) (T := TX6) (N := 7) rfl (by decide) zinX6 rfl zw_293 dX6_named_70) (z_c (ok_ireturn rfl dX6_named_73) (z_c (ok_aload_n dX6_named_74 rfl) (z_c (ok_getf (C := RX6) (T := TX6) (N := 7) rfl (by decide) zinX6 rfl zw_294 dX6_named_75) (z_c (ok_ireturn rfl dX6_named_78) (z_c (ok_aload_n dX6_named_79 rfl) z_n))))))))))))
noncomputable def tX6_named_1 : List (Nat × zF) := [(80, (zgf 6 4)), (83, (zri false)), (84, (zla4 0 1)), (85, (zgf 6 5)), (88, (zri false)), (89, (zla4 0 1)), (90, (zgf 6 6)), (93, (zri false)), (94, (zst 1 (zp (.int (1))))), (95, (zri false))]
theorem kX6_named_1 : ∀ q ∈ tX6_named_1, zOk zg iX6_named q.1 q.2 := (z_c (ok_getf (C := RX6) (T := TX6) (N := 7) rfl (by decide) zinX6 rfl zw_295 dX6_named_80) (z_c (ok_ireturn rfl dX6_named_83) (z_c (ok_aload_n dX6_named_84 rfl) (z_c (ok_getf (C := RX6) (T := TX6) (N := 7) rfl (by decide) zinX6 rfl zw_296 dX6_named_85) (z_c (ok_ireturn rfl dX6_named_88) (z_c (ok_aload_n dX6_named_89 rfl) (z_c (ok_getf (C := RX6) (T := TX6) (N := 7) rfl (by decide) zinX6 rfl zw_297 dX6_named_90) (z_c (ok_ireturn rfl dX6_named_93) (z_c (ok_iconst (v := (1)) dX6_named_94 (by decide)) (z_c (ok_ireturn rfl dX6_named_95) z_n))))))))))
noncomputable def tX6_named : zT := [(80, tX6_named_0), (100000, tX6_named_1)]
theorem kX6_named : zTok zg iX6_named tX6_named := (z_t kX6_named_0 (z_t kX6_named_1 z_tn))
theorem dX6_joined_0 : decode cX6_joined 0 = .ok (.iload_n 0, 1) := by decide +kernel
theorem dX6_joined_1 : decode cX6_joined 1 = .ok (.lookupswitch 183 #[(21, 177), (24, 177), (37, 130), (42, 107), (43, 91), (45, 99), (47, 116), (60, 144), (61, 166), (62, 155)], 91) := by decide +kernel
theorem dX6_joined_92 : decode cX6_joined 92 = .ok (.iload_n 1, 1) := by decide +kernel
theorem dX6_joined_93 : decode cX6_joined 93 = .ok (.iload_n 2, 1) := by decide +kernel
theorem dX6_joined_94 : decode cX6_joined 94 = .ok (.iadd, 1) := by decide +kernel
theorem dX6_joined_95 : decode cX6_joined 95 = .ok (.i2l, 1) := by decide +kernel
theorem dX6_joined_96 : decode cX6_joined 96 = .ok (.invokestatic 59, 3) := by decide +kernel
theorem dX6_joined_99 : decode cX6_joined 99 = .ok (.ireturn, 1) := by decide +kernel
theorem dX6_joined_100 : decode cX6_joined 100 = .ok (.iload_n 1, 1) := by decide +kernel
theorem dX6_joined_101 : decode cX6_joined 101 = .ok (.iload_n 2, 1) := by decide +kernel
theorem dX6_joined_102 : decode cX6_joined 102 = .ok (.isub, 1) := by decide +kernel
theorem dX6_joined_103 : decode cX6_joined 103 = .ok (.i2l, 1) := by decide +kernel
theorem dX6_joined_104 : decode cX6_joined 104 = .ok (.invokestatic 59, 3) := by decide +kernel
theorem dX6_joined_107 : decode cX6_joined 107 = .ok (.ireturn, 1) := by decide +kernel
theorem dX6_joined_108 : decode cX6_joined 108 = .ok (.iload_n 1, 1) := by decide +kernel
theorem dX6_joined_109 : decode cX6_joined 109 = .ok (.i2l, 1) := by decide +kernel
theorem dX6_joined_110 : decode cX6_joined 110 = .ok (.iload_n 2, 1) := by decide +kernel
theorem dX6_joined_111 : decode cX6_joined 111 = .ok (.i2l, 1) := by decide +kernel
theorem dX6_joined_112 : decode cX6_joined 112 = .ok (.lmul, 1) := by decide +kernel
theorem dX6_joined_113 : decode cX6_joined 113 = .ok (.invokestatic 59, 3) := by decide +kernel
theorem dX6_joined_116 : decode cX6_joined 116 = .ok (.ireturn, 1) := by decide +kernel
theorem dX6_joined_117 : decode cX6_joined 117 = .ok (.iload_n 2, 1) := by decide +kernel
theorem dX6_joined_118 : decode cX6_joined 118 = .ok (.ifCond .ne 7, 3) := by decide +kernel
theorem dX6_joined_121 : decode cX6_joined 121 = .ok (.iconst 0, 1) := by decide +kernel
theorem dX6_joined_122 : decode cX6_joined 122 = .ok (.goto 8, 3) := by decide +kernel
theorem dX6_joined_125 : decode cX6_joined 125 = .ok (.iload_n 1, 1) := by decide +kernel
theorem dX6_joined_126 : decode cX6_joined 126 = .ok (.iload_n 2, 1) := by decide +kernel
theorem dX6_joined_127 : decode cX6_joined 127 = .ok (.invokestatic 63, 3) := by decide +kernel
theorem dX6_joined_130 : decode cX6_joined 130 = .ok (.ireturn, 1) := by decide +kernel
theorem dX6_joined_131 : decode cX6_joined 131 = .ok (.iload_n 2, 1) := by decide +kernel
theorem dX6_joined_132 : decode cX6_joined 132 = .ok (.ifCond .ne 7, 3) := by decide +kernel
theorem dX6_joined_135 : decode cX6_joined 135 = .ok (.iconst 0, 1) := by decide +kernel
theorem dX6_joined_136 : decode cX6_joined 136 = .ok (.goto 8, 3) := by decide +kernel
theorem dX6_joined_139 : decode cX6_joined 139 = .ok (.iload_n 1, 1) := by decide +kernel
theorem dX6_joined_140 : decode cX6_joined 140 = .ok (.iload_n 2, 1) := by decide +kernel
theorem dX6_joined_141 : decode cX6_joined 141 = .ok (.invokestatic 66, 3) := by decide +kernel
theorem dX6_joined_144 : decode cX6_joined 144 = .ok (.ireturn, 1) := by decide +kernel
theorem dX6_joined_145 : decode cX6_joined 145 = .ok (.iload_n 1, 1) := by decide +kernel
theorem dX6_joined_146 : decode cX6_joined 146 = .ok (.iload_n 2, 1) := by decide +kernel
theorem dX6_joined_147 : decode cX6_joined 147 = .ok (.if_icmp .ge 7, 3) := by decide +kernel
theorem dX6_joined_150 : decode cX6_joined 150 = .ok (.iconst 1, 1) := by decide +kernel
theorem dX6_joined_151 : decode cX6_joined 151 = .ok (.goto 4, 3) := by decide +kernel
theorem dX6_joined_154 : decode cX6_joined 154 = .ok (.iconst 0, 1) := by decide +kernel
theorem dX6_joined_155 : decode cX6_joined 155 = .ok (.ireturn, 1) := by decide +kernel
theorem dX6_joined_156 : decode cX6_joined 156 = .ok (.iload_n 1, 1) := by decide +kernel
theorem dX6_joined_157 : decode cX6_joined 157 = .ok (.iload_n 2, 1) := by decide +kernel
theorem dX6_joined_158 : decode cX6_joined 158 = .ok (.if_icmp .le 7, 3) := by decide +kernel
theorem dX6_joined_161 : decode cX6_joined 161 = .ok (.iconst 1, 1) := by decide +kernel
theorem dX6_joined_162 : decode cX6_joined 162 = .ok (.goto 4, 3) := by decide +kernel
theorem dX6_joined_165 : decode cX6_joined 165 = .ok (.iconst 0, 1) := by decide +kernel
theorem dX6_joined_166 : decode cX6_joined 166 = .ok (.ireturn, 1) := by decide +kernel
theorem dX6_joined_167 : decode cX6_joined 167 = .ok (.iload_n 1, 1) := by decide +kernel
theorem dX6_joined_168 : decode cX6_joined 168 = .ok (.iload_n 2, 1) := by decide +kernel
theorem dX6_joined_169 : decode cX6_joined 169 = .ok (.if_icmp .ne 7, 3) := by decide +kernel
theorem dX6_joined_172 : decode cX6_joined 172 = .ok (.iconst 1, 1) := by decide +kernel
theorem dX6_joined_173 : decode cX6_joined 173 = .ok (.goto 4, 3) := by decide +kernel
theorem dX6_joined_176 : decode cX6_joined 176 = .ok (.iconst 0, 1) := by decide +kernel
theorem dX6_joined_177 : decode cX6_joined 177 = .ok (.ireturn, 1) := by decide +kernel
theorem dX6_joined_178 : decode cX6_joined 178 = .ok (.iload_n 1, 1) := by decide +kernel
theorem dX6_joined_179 : decode cX6_joined 179 = .ok (.iload_n 2, 1) := by decide +kernel
theorem dX6_joined_180 : decode cX6_joined 180 = .ok (.invokestatic 69, 3) := by decide +kernel
theorem dX6_joined_183 : decode cX6_joined 183 = .ok (.ireturn, 1) := by decide +kernel
theorem dX6_joined_184 : decode cX6_joined 184 = .ok (.iload_n 1, 1) := by decide +kernel
theorem dX6_joined_185 : decode cX6_joined 185 = .ok (.iload_n 2, 1) := by decide +kernel
theorem dX6_joined_186 : decode cX6_joined 186 = .ok (.invokestatic 34, 3) := by decide +kernel
theorem dX6_joined_189 : decode cX6_joined 189 = .ok (.ireturn, 1) := by decide +kernel
noncomputable def tX6_joined_0 : List (Nat × zF) := [(0, (zli4 0 1)), (1, (zts [(21, 178), (24, 178), (37, 131), (42, 108), (43, 92), (45, 100), (47, 117), (60, 145), (61, 167), (62, 156)] 184)), (92, (zli4 1 1)), (93, (zli4 2 1)), (94, (zst 1 z_iadd)), (95, (zst 1 zil)), (96, (zcs 72 1)), (99, (zri false)), (100, (zli4 1 1)), (101, (zli4 2 1)), (102, (zst 1 z_isub)), (103, (zst 1 zil))]
theorem kX6_joined_0 : ∀ q ∈ tX6_joined_0, zOk zg iX6_joined q.1 q.2 := (z_c (ok_iload_n dX6_joined_0 rfl) (z_c (ok_lsw dX6_joined_1 (by decide) (by decide) (by decide +kernel) (by decide +kernel)) (z_c (ok_iload_n dX6_joined_92 rfl) (z_c (ok_iload_n dX6_joined_93 rfl) (z_c (ok_iadd dX6_joined_94) (z_c (ok_i2l dX6_joined_95) (z_c (ok_callS zcal_72 zw_298 zw_299 dX6_joined_96) (z_c (ok_ireturn rfl dX6_joined_99) (z_c (ok_iload_n dX6_joined_100 rfl) (z_c (ok_iload_n dX6_joined_101 rfl) (z_c (ok_isub dX6_joined_102) (z_c (ok_i2l dX6_joined_103) z_n))))))))))))
noncomputable def tX6_joined_1 : List (Nat × zF) := [(104, (zcs 72 1)), (107, (zri false)), (108, (zli4 1 1)), (109, (zst 1 zil)), (110, (zli4 2 1)), (111, (zst 1 zil)), (112, (zst 1 z_lmul)), (113, (zcs 72 1)), (116, (zri false)), (117, (zli4 2 1)), (118, (z_if_ne 125)), (121, (zst 1 (zp (.int (0)))))]
theorem kX6_joined_1 : ∀ q ∈ tX6_joined_1, zOk zg iX6_joined q.1 q.2 := (z_c (ok_callS zcal_72 zw_298 zw_299 dX6_joined_104) (z_c (ok_ireturn rfl dX6_joined_107) (z_c (ok_iload_n dX6_joined_108 rfl) (z_c (ok_i2l dX6_joined_109) (z_c (ok_iload_n dX6_joined_110 rfl) (z_c (ok_i2l dX6_joined_111) (z_c (ok_lmul dX6_joined_112) (z_c (ok_callS zcal_72 zw_298 zw_299 dX6_joined_113) (z_c (ok_ireturn rfl dX6_joined_116) (z_c (ok_iload_n dX6_joined_117 rfl) (z_c (ok_if_ne dX6_joined_118 (by decide)) (z_c (ok_iconst (v := (0)) dX6_joined_121 (by decide)) z_n))))))))))))
noncomputable def tX6_joined_2 : List (Nat × zF) := [(122, (zgt 130)), (125, (zli4 1 1)), (126, (zli4 2 1)), (127, (zcs 281 2)), (130, (zri false)), (131, (zli4 2 1)), (132, (z_if_ne 139)), (135, (zst 1 (zp (.int (0))))), (136, (zgt 144)), (139, (zli4 1 1)), (140, (zli4 2 1)), (141, (zcs 282 2))]
theorem kX6_joined_2 : ∀ q ∈ tX6_joined_2, zOk zg iX6_joined q.1 q.2 := (z_c (ok_goto dX6_joined_122 (by decide)) (z_c (ok_iload_n dX6_joined_125 rfl) (z_c (ok_iload_n dX6_joined_126 rfl) (z_c (ok_callS zcal_281 zw_300 zw_301 dX6_joined_127) (z_c (ok_ireturn rfl dX6_joined_130) (z_c (ok_iload_n dX6_joined_131 rfl) (z_c (ok_if_ne dX6_joined_132 (by decide)) (z_c (ok_iconst (v := (0)) dX6_joined_135 (by decide)) (z_c (ok_goto dX6_joined_136 (by decide)) (z_c (ok_iload_n dX6_joined_139 rfl) (z_c (ok_iload_n dX6_joined_140 rfl) (z_c (ok_callS zcal_282 zw_302 zw_303 dX6_joined_141) z_n))))))))))))
noncomputable def tX6_joined_3 : List (Nat × zF) := [(144, (zri false)), (145, (zli4 1 1)), (146, (zli4 2 1)), (147, (z_ic_ge 154)), (150, (zst 1 (zp (.int (1))))), (151, (zgt 155)), (154, (zst 1 (zp (.int (0))))), (155, (zri false)), (156, (zli4 1 1)), (157, (zli4 2 1)), (158, (z_ic_le 165)), (161, (zst 1 (zp (.int (1)))))]
theorem kX6_joined_3 : ∀ q ∈ tX6_joined_3, zOk zg iX6_joined q.1 q.2 := (z_c (ok_ireturn rfl dX6_joined_144) (z_c (ok_iload_n dX6_joined_145 rfl) (z_c (ok_iload_n dX6_joined_146 rfl) (z_c (ok_icmp_ge dX6_joined_147 (by decide)) (z_c (ok_iconst (v := (1)) dX6_joined_150 (by decide)) (z_c (ok_goto dX6_joined_151 (by decide)) (z_c (ok_iconst (v := (0)) dX6_joined_154 (by decide)) (z_c (ok_ireturn rfl dX6_joined_155) (z_c (ok_iload_n dX6_joined_156 rfl) (z_c (ok_iload_n dX6_joined_157 rfl) (z_c (ok_icmp_le dX6_joined_158 (by decide)) (z_c (ok_iconst (v := (1)) dX6_joined_161 (by decide)) z_n))))))))))))
noncomputable def tX6_joined_4 : List (Nat × zF) := [(162, (zgt 166)), (165, (zst 1 (zp (.int (0))))), (166, (zri false)), (167, (zli4 1 1)), (168, (zli4 2 1)), (169, (z_ic_ne 176)), (172, (zst 1 (zp (.int (1))))), (173, (zgt 177)), (176, (zst 1 (zp (.int (0))))), (177, (zri false)), (178, (zli4 1 1)), (179, (zli4 2 1))]
theorem kX6_joined_4 : ∀ q ∈ tX6_joined_4, zOk zg iX6_joined q.1 q.2 := (z_c (ok_goto dX6_joined_162 (by decide)) (z_c (ok_iconst (v := (0)) dX6_joined_165 (by decide)) (z_c (ok_ireturn rfl dX6_joined_166) (z_c (ok_iload_n dX6_joined_167 rfl) (z_c (ok_iload_n dX6_joined_168 rfl) (z_c (ok_icmp_ne dX6_joined_169 (by decide)) (z_c (ok_iconst (v := (1)) dX6_joined_172 (by decide)) (z_c (ok_goto dX6_joined_173 (by decide)) (z_c (ok_iconst (v := (0)) dX6_joined_176 (by decide)) (z_c (ok_ireturn rfl dX6_joined_177) (z_c (ok_iload_n dX6_joined_178 rfl) (z_c (ok_iload_n dX6_joined_179 rfl) z_n))))))))))))
noncomputable def tX6_joined_5 : List (Nat × zF) := [(180, zmmin), (183, (zri false)), (184, (zli4 1 1)), (185, (zli4 2 1)), (186, zmmax), (189, (zri false))]
theorem kX6_joined_5 : ∀ q ∈ tX6_joined_5, zOk zg iX6_joined q.1 q.2 := (z_c (ok_mmin zw_304 zw_48 zw_49 zw_50 dX6_joined_180) (z_c (ok_ireturn rfl dX6_joined_183) (z_c (ok_iload_n dX6_joined_184 rfl) (z_c (ok_iload_n dX6_joined_185 rfl) (z_c (ok_mmax zw_291 zw_52 zw_49 zw_53 dX6_joined_186) (z_c (ok_ireturn rfl dX6_joined_189) z_n))))))
noncomputable def tX6_joined : zT := [(104, tX6_joined_0), (122, tX6_joined_1), (144, tX6_joined_2), (162, tX6_joined_3), (180, tX6_joined_4), (100000, tX6_joined_5)]
theorem kX6_joined : zTok zg iX6_joined tX6_joined := (z_t kX6_joined_0 (z_t kX6_joined_1 (z_t kX6_joined_2 (z_t kX6_joined_3 (z_t kX6_joined_4 (z_t kX6_joined_5 z_tn))))))
theorem dX6_bounded_0 : decode cX6_bounded 0 = .ok (.lload_n 0, 1) := by decide +kernel
theorem dX6_bounded_1 : decode cX6_bounded 1 = .ok (.ldc2_w 72, 3) := by decide +kernel
theorem dX6_bounded_4 : decode cX6_bounded 4 = .ok (.lcmp, 1) := by decide +kernel
theorem dX6_bounded_5 : decode cX6_bounded 5 = .ok (.ifCond .le 6, 3) := by decide +kernel
theorem dX6_bounded_8 : decode cX6_bounded 8 = .ok (.ldc 74, 2) := by decide +kernel
theorem dX6_bounded_10 : decode cX6_bounded 10 = .ok (.ireturn, 1) := by decide +kernel
theorem dX6_bounded_11 : decode cX6_bounded 11 = .ok (.lload_n 0, 1) := by decide +kernel
theorem dX6_bounded_12 : decode cX6_bounded 12 = .ok (.ldc2_w 75, 3) := by decide +kernel
theorem dX6_bounded_15 : decode cX6_bounded 15 = .ok (.lcmp, 1) := by decide +kernel
theorem dX6_bounded_16 : decode cX6_bounded 16 = .ok (.ifCond .ge 8, 3) := by decide +kernel
theorem dX6_bounded_19 : decode cX6_bounded 19 = .ok (.ldc 77, 2) := by decide +kernel
theorem dX6_bounded_21 : decode cX6_bounded 21 = .ok (.goto 5, 3) := by decide +kernel
theorem dX6_bounded_24 : decode cX6_bounded 24 = .ok (.lload_n 0, 1) := by decide +kernel
theorem dX6_bounded_25 : decode cX6_bounded 25 = .ok (.l2i, 1) := by decide +kernel
theorem dX6_bounded_26 : decode cX6_bounded 26 = .ok (.ireturn, 1) := by decide +kernel
noncomputable def tX6_bounded_0 : List (Nat × zF) := [(0, (zll4 0 1)), (1, (zst 3 (zp (.long (1000000))))), (4, (zst 1 zcm)), (5, (z_if_le 11)), (8, (zst 2 (zp (.int (1000000))))), (10, (zri false)), (11, (zll4 0 1)), (12, (zst 3 (zp (.long (-1000000))))), (15, (zst 1 zcm)), (16, (z_if_ge 24)), (19, (zst 2 (zp (.int (-1000000))))), (21, (zgt 26))]
theorem kX6_bounded_0 : ∀ q ∈ tX6_bounded_0, zOk zg iX6_bounded q.1 q.2 := (z_c (ok_lload_n dX6_bounded_0 rfl) (z_c (ok_ldc2 (v := (1000000)) zw_305 dX6_bounded_1) (z_c (ok_lcmp dX6_bounded_4) (z_c (ok_if_le dX6_bounded_5 (by decide)) (z_c (ok_ldc (v := (1000000)) zw_306 dX6_bounded_8) (z_c (ok_ireturn rfl dX6_bounded_10) (z_c (ok_lload_n dX6_bounded_11 rfl) (z_c (ok_ldc2 (v := (-1000000)) zw_307 dX6_bounded_12) (z_c (ok_lcmp dX6_bounded_15) (z_c (ok_if_ge dX6_bounded_16 (by decide)) (z_c (ok_ldc (v := (-1000000)) zw_308 dX6_bounded_19) (z_c (ok_goto dX6_bounded_21 (by decide)) z_n))))))))))))
noncomputable def tX6_bounded_1 : List (Nat × zF) := [(24, (zll4 0 1)), (25, (zst 1 zli)), (26, (zri false))]
theorem kX6_bounded_1 : ∀ q ∈ tX6_bounded_1, zOk zg iX6_bounded q.1 q.2 := (z_c (ok_lload_n dX6_bounded_24 rfl) (z_c (ok_l2i dX6_bounded_25) (z_c (ok_ireturn rfl dX6_bounded_26) z_n)))
noncomputable def tX6_bounded : zT := [(24, tX6_bounded_0), (100000, tX6_bounded_1)]
theorem kX6_bounded : zTok zg iX6_bounded tX6_bounded := (z_t kX6_bounded_0 (z_t kX6_bounded_1 z_tn))
theorem dX7_init_0 : decode cX7_init 0 = .ok (.aload_n 0, 1) := by decide +kernel
theorem dX7_init_1 : decode cX7_init 1 = .ok (.invokespecial 3, 3) := by decide +kernel
theorem dX7_init_4 : decode cX7_init 4 = .ok (.aload_n 0, 1) := by decide +kernel
theorem dX7_init_5 : decode cX7_init 5 = .ok (.sipush 1600, 3) := by decide +kernel
theorem dX7_init_8 : decode cX7_init 8 = .ok (.newarray .int, 2) := by decide +kernel
theorem dX7_init_10 : decode cX7_init 10 = .ok (.putfield 9, 3) := by decide +kernel
theorem dX7_init_13 : decode cX7_init 13 = .ok (.aload_n 0, 1) := by decide +kernel
theorem dX7_init_14 : decode cX7_init 14 = .ok (.iconst 3, 1) := by decide +kernel
theorem dX7_init_15 : decode cX7_init 15 = .ok (.newarray .int, 2) := by decide +kernel
theorem dX7_init_17 : decode cX7_init 17 = .ok (.putfield 15, 3) := by decide +kernel
theorem dX7_init_20 : decode cX7_init 20 = .ok (.aload_n 0, 1) := by decide +kernel
theorem dX7_init_21 : decode cX7_init 21 = .ok (.iconst 3, 1) := by decide +kernel
theorem dX7_init_22 : decode cX7_init 22 = .ok (.newarray .int, 2) := by decide +kernel
theorem dX7_init_24 : decode cX7_init 24 = .ok (.putfield 18, 3) := by decide +kernel
theorem dX7_init_27 : decode cX7_init 27 = .ok (.return_, 1) := by decide +kernel
noncomputable def tX7_init_0 : List (Nat × zF) := [(0, (zla4 0 1)), (1, zoi), (4, (zla4 0 1)), (5, (zst 3 (zp (.int (1600))))), (8, (zna 0 4 zn_int 2)), (10, (zpf 7 0 (.array .int))), (13, (zla4 0 1)), (14, (zst 1 (zp (.int (3))))), (15, (zna 0 4 zn_int 2)), (17, (zpf 7 1 (.array .int))), (20, (zla4 0 1)), (21, (zst 1 (zp (.int (3)))))]
theorem kX7_init_0 : ∀ q ∈ tX7_init_0, zOk zg iX7_init q.1 q.2 := (z_c (ok_aload_n dX7_init_0 rfl) (z_c (ok_objInit zw_309 zw_1 zw_2 dX7_init_1) (z_c (ok_aload_n dX7_init_4 rfl) (z_c (ok_sipush (v := (1600)) dX7_init_5 (by decide)) (z_c (ok_newa (ty := .int) rfl rfl (fun _ h => by cases h) zw_96 rfl zn_int_c zn_int_n dX7_init_8) (z_c (ok_putf (C := RX7) (T := TX7) (N := 4) true tyX7 tyX7_ok nmX7 rfl (by decide) zinX7 rfl zw_310 rfl (fun _ => ⟨rfl, rfl⟩) rfl dX7_init_10) (z_c (ok_aload_n dX7_init_13 rfl) (z_c (ok_iconst (v := (3)) dX7_init_14 (by decide)) (z_c (ok_newa (ty := .int) rfl rfl (fun _ h => by cases h) zw_96 rfl zn_int_c zn_int_n dX7_init_15) (z_c (ok_putf (C := RX7) (T := TX7) (N := 4) true tyX7 tyX7_ok nmX7 rfl (by decide) zinX7 rfl zw_311 rfl (fun _ => ⟨rfl, rfl⟩) rfl dX7_init_17) (z_c (ok_aload_n dX7_init_20 rfl) (z_c (ok_iconst (v := (3)) dX7_init_21 (by decide)) z_n))))))))))))
noncomputable def tX7_init_1 : List (Nat × zF) := [(22, (zna 0 4 zn_int 2)), (24, (zpf 7 2 (.array .int))), (27, zrv)]
theorem kX7_init_1 : ∀ q ∈ tX7_init_1, zOk zg iX7_init q.1 q.2 := (z_c (ok_newa (ty := .int) rfl rfl (fun _ h => by cases h) zw_96 rfl zn_int_c zn_int_n dX7_init_22) (z_c (ok_putf (C := RX7) (T := TX7) (N := 4) true tyX7 tyX7_ok nmX7 rfl (by decide) zinX7 rfl zw_312 rfl (fun _ => ⟨rfl, rfl⟩) rfl dX7_init_24) (z_c (ok_return rfl dX7_init_27) z_n)))
noncomputable def tX7_init : zT := [(22, tX7_init_0), (100000, tX7_init_1)]
theorem kX7_init : zTok zg iX7_init tX7_init := (z_t kX7_init_0 (z_t kX7_init_1 z_tn))
theorem dX7_clear_0 : decode cX7_clear 0 = .ok (.aload_n 0, 1) := by decide +kernel
theorem dX7_clear_1 : decode cX7_clear 1 = .ok (.iconst 0, 1) := by decide +kernel
theorem dX7_clear_2 : decode cX7_clear 2 = .ok (.putfield 21, 3) := by decide +kernel
theorem dX7_clear_5 : decode cX7_clear 5 = .ok (.iconst 0, 1) := by decide +kernel
theorem dX7_clear_6 : decode cX7_clear 6 = .ok (.istore_n 1, 1) := by decide +kernel
theorem dX7_clear_7 : decode cX7_clear 7 = .ok (.iload_n 1, 1) := by decide +kernel
theorem dX7_clear_8 : decode cX7_clear 8 = .ok (.iconst 3, 1) := by decide +kernel
theorem dX7_clear_9 : decode cX7_clear 9 = .ok (.if_icmp .ge 23, 3) := by decide +kernel
theorem dX7_clear_12 : decode cX7_clear 12 = .ok (.aload_n 0, 1) := by decide +kernel
theorem dX7_clear_13 : decode cX7_clear 13 = .ok (.getfield 15, 3) := by decide +kernel
theorem dX7_clear_16 : decode cX7_clear 16 = .ok (.iload_n 1, 1) := by decide +kernel
theorem dX7_clear_17 : decode cX7_clear 17 = .ok (.iconst 0, 1) := by decide +kernel
theorem dX7_clear_18 : decode cX7_clear 18 = .ok (.iastore, 1) := by decide +kernel
theorem dX7_clear_19 : decode cX7_clear 19 = .ok (.aload_n 0, 1) := by decide +kernel
theorem dX7_clear_20 : decode cX7_clear 20 = .ok (.getfield 18, 3) := by decide +kernel
theorem dX7_clear_23 : decode cX7_clear 23 = .ok (.iload_n 1, 1) := by decide +kernel
theorem dX7_clear_24 : decode cX7_clear 24 = .ok (.iconst 0, 1) := by decide +kernel
theorem dX7_clear_25 : decode cX7_clear 25 = .ok (.iastore, 1) := by decide +kernel
theorem dX7_clear_26 : decode cX7_clear 26 = .ok (.iinc 1 1, 3) := by decide +kernel
theorem dX7_clear_29 : decode cX7_clear 29 = .ok (.goto (-22), 3) := by decide +kernel
theorem dX7_clear_32 : decode cX7_clear 32 = .ok (.return_, 1) := by decide +kernel
noncomputable def tX7_clear_0 : List (Nat × zF) := [(0, (zla4 0 1)), (1, (zst 1 (zp (.int (0))))), (2, (zpf 7 3 (.int))), (5, (zst 1 (zp (.int (0))))), (6, (zsi4 2 1 1)), (7, (zli4 1 1)), (8, (zst 1 (zp (.int (3))))), (9, (z_ic_ge 32)), (12, (zla4 0 1)), (13, (zgf 7 1)), (16, (zli4 1 1)), (17, (zst 1 (zp (.int (0)))))]
theorem kX7_clear_0 : ∀ q ∈ tX7_clear_0, zOk zg iX7_clear q.1 q.2 := (z_c (ok_aload_n dX7_clear_0 rfl) (z_c (ok_iconst (v := (0)) dX7_clear_1 (by decide)) (z_c (ok_putf (C := RX7) (T := TX7) (N := 4) false tyX7 tyX7_ok nmX7 rfl (by decide) zinX7 rfl zw_313 rfl (fun h => absurd h (by decide)) rfl dX7_clear_2) (z_c (ok_iconst (v := (0)) dX7_clear_5 (by decide)) (z_c (ok_istore_n dX7_clear_6 rfl) (z_c (ok_iload_n dX7_clear_7 rfl) (z_c (ok_iconst (v := (3)) dX7_clear_8 (by decide)) (z_c (ok_icmp_ge dX7_clear_9 (by decide)) (z_c (ok_aload_n dX7_clear_12 rfl) (z_c (ok_getf (C := RX7) (T := TX7) (N := 4) rfl (by decide) zinX7 rfl zw_311 dX7_clear_13) (z_c (ok_iload_n dX7_clear_16 rfl) (z_c (ok_iconst (v := (0)) dX7_clear_17 (by decide)) z_n))))))))))))
noncomputable def tX7_clear_1 : List (Nat × zF) := [(18, (zas 0)), (19, (zla4 0 1)), (20, (zgf 7 2)), (23, (zli4 1 1)), (24, (zst 1 (zp (.int (0))))), (25, (zas 0)), (26, (zin4 2 1 (1))), (29, (zgt 7)), (32, zrv)]
theorem kX7_clear_1 : ∀ q ∈ tX7_clear_1, zOk zg iX7_clear q.1 q.2 := (z_c (ok_iastore rfl dX7_clear_18) (z_c (ok_aload_n dX7_clear_19 rfl) (z_c (ok_getf (C := RX7) (T := TX7) (N := 4) rfl (by decide) zinX7 rfl zw_312 dX7_clear_20) (z_c (ok_iload_n dX7_clear_23 rfl) (z_c (ok_iconst (v := (0)) dX7_clear_24 (by decide)) (z_c (ok_iastore rfl dX7_clear_25) (z_c (ok_iinc (v := (1)) dX7_clear_26 (by decide)) (z_c (ok_goto dX7_clear_29 (by decide)) (z_c (ok_return rfl dX7_clear_32) z_n)))))))))
noncomputable def tX7_clear : zT := [(18, tX7_clear_0), (100000, tX7_clear_1)]
theorem kX7_clear : zTok zg iX7_clear tX7_clear := (z_t kX7_clear_0 (z_t kX7_clear_1 z_tn))
theorem dX7_isTold_0 : decode cX7_isTold 0 = .ok (.aload_n 0, 1) := by decide +kernel
theorem dX7_isTold_1 : decode cX7_isTold 1 = .ok (.getfield 18, 3) := by decide +kernel
theorem dX7_isTold_4 : decode cX7_isTold 4 = .ok (.iload_n 1, 1) := by decide +kernel
theorem dX7_isTold_5 : decode cX7_isTold 5 = .ok (.iaload, 1) := by decide +kernel
theorem dX7_isTold_6 : decode cX7_isTold 6 = .ok (.aload_n 0, 1) := by decide +kernel
theorem dX7_isTold_7 : decode cX7_isTold 7 = .ok (.getfield 15, 3) := by decide +kernel
theorem dX7_isTold_10 : decode cX7_isTold 10 = .ok (.iload_n 1, 1) := by decide +kernel
theorem dX7_isTold_11 : decode cX7_isTold 11 = .ok (.iaload, 1) := by decide +kernel
theorem dX7_isTold_12 : decode cX7_isTold 12 = .ok (.if_icmp .le 7, 3) := by decide +kernel
theorem dX7_isTold_15 : decode cX7_isTold 15 = .ok (.iconst 1, 1) := by decide +kernel
theorem dX7_isTold_16 : decode cX7_isTold 16 = .ok (.goto 4, 3) := by decide +kernel
theorem dX7_isTold_19 : decode cX7_isTold 19 = .ok (.iconst 0, 1) := by decide +kernel
theorem dX7_isTold_20 : decode cX7_isTold 20 = .ok (.ireturn, 1) := by decide +kernel
noncomputable def tX7_isTold_0 : List (Nat × zF) := [(0, (zla4 0 1)), (1, (zgf 7 2)), (4, (zli4 1 1)), (5, (zal 0)), (6, (zla4 0 1)), (7, (zgf 7 1)), (10, (zli4 1 1)), (11, (zal 0)), (12, (z_ic_le 19)), (15, (zst 1 (zp (.int (1))))), (16, (zgt 20)), (19, (zst 1 (zp (.int (0)))))]
theorem kX7_isTold_0 : ∀ q ∈ tX7_isTold_0, zOk zg iX7_isTold q.1 q.2 := (z_c (ok_aload_n dX7_isTold_0 rfl) (z_c (ok_getf (C := RX7) (T := TX7) (N := 4) rfl (by decide) zinX7 rfl zw_312 dX7_isTold_1) (z_c (ok_iload_n dX7_isTold_4 rfl) (z_c (ok_iaload rfl dX7_isTold_5) (z_c (ok_aload_n dX7_isTold_6 rfl) (z_c (ok_getf (C := RX7) (T := TX7) (N := 4) rfl (by decide) zinX7 rfl zw_311 dX7_isTold_7) (z_c (ok_iload_n dX7_isTold_10 rfl) (z_c (ok_iaload rfl dX7_isTold_11) (z_c (ok_icmp_le dX7_isTold_12 (by decide)) (z_c (ok_iconst (v := (1)) dX7_isTold_15 (by decide)) (z_c (ok_goto dX7_isTold_16 (by decide)) (z_c (ok_iconst (v := (0)) dX7_isTold_19 (by decide)) z_n))))))))))))
noncomputable def tX7_isTold_1 : List (Nat × zF) := [(20, (zri true))]
theorem kX7_isTold_1 : ∀ q ∈ tX7_isTold_1, zOk zg iX7_isTold q.1 q.2 := (z_c (ok_zreturn rfl dX7_isTold_20) z_n)
noncomputable def tX7_isTold : zT := [(20, tX7_isTold_0), (100000, tX7_isTold_1)]
theorem kX7_isTold : zTok zg iX7_isTold tX7_isTold := (z_t kX7_isTold_0 (z_t kX7_isTold_1 z_tn))
theorem dX7_begin_0 : decode cX7_begin 0 = .ok (.aload_n 0, 1) := by decide +kernel
theorem dX7_begin_1 : decode cX7_begin 1 = .ok (.getfield 15, 3) := by decide +kernel
theorem dX7_begin_4 : decode cX7_begin 4 = .ok (.iload_n 1, 1) := by decide +kernel
theorem dX7_begin_5 : decode cX7_begin 5 = .ok (.aload_n 0, 1) := by decide +kernel
theorem dX7_begin_6 : decode cX7_begin 6 = .ok (.getfield 21, 3) := by decide +kernel
theorem dX7_begin_9 : decode cX7_begin 9 = .ok (.iastore, 1) := by decide +kernel
theorem dX7_begin_10 : decode cX7_begin 10 = .ok (.return_, 1) := by decide +kernel
noncomputable def tX7_begin_0 : List (Nat × zF) := [(0, (zla4 0 1)), (1, (zgf 7 1)), (4, (zli4 1 1)), (5, (zla4 0 1)), (6, (zgf 7 3)), (9, (zas 0)), (10, zrv)]
theorem kX7_begin_0 : ∀ q ∈ tX7_begin_0, zOk zg iX7_begin q.1 q.2 := (z_c (ok_aload_n dX7_begin_0 rfl) (z_c (ok_getf (C := RX7) (T := TX7) (N := 4) rfl (by decide) zinX7 rfl zw_311 dX7_begin_1) (z_c (ok_iload_n dX7_begin_4 rfl) (z_c (ok_aload_n dX7_begin_5 rfl) (z_c (ok_getf (C := RX7) (T := TX7) (N := 4) rfl (by decide) zinX7 rfl zw_313 dX7_begin_6) (z_c (ok_iastore rfl dX7_begin_9) (z_c (ok_return rfl dX7_begin_10) z_n)))))))
noncomputable def tX7_begin : zT := [(100000, tX7_begin_0)]
theorem kX7_begin : zTok zg iX7_begin tX7_begin := (z_t kX7_begin_0 z_tn)
theorem dX7_close_0 : decode cX7_close 0 = .ok (.aload_n 0, 1) := by decide +kernel
theorem dX7_close_1 : decode cX7_close 1 = .ok (.getfield 18, 3) := by decide +kernel
theorem dX7_close_4 : decode cX7_close 4 = .ok (.iload_n 1, 1) := by decide +kernel
theorem dX7_close_5 : decode cX7_close 5 = .ok (.aload_n 0, 1) := by decide +kernel
theorem dX7_close_6 : decode cX7_close 6 = .ok (.getfield 21, 3) := by decide +kernel
theorem dX7_close_9 : decode cX7_close 9 = .ok (.iastore, 1) := by decide +kernel
theorem dX7_close_10 : decode cX7_close 10 = .ok (.return_, 1) := by decide +kernel
noncomputable def tX7_close_0 : List (Nat × zF) := [(0, (zla4 0 1)), (1, (zgf 7 2)), (4, (zli4 1 1)), (5, (zla4 0 1)), (6, (zgf 7 3)), (9, (zas 0)), (10, zrv)]
theorem kX7_close_0 : ∀ q ∈ tX7_close_0, zOk zg iX7_close q.1 q.2 := (z_c (ok_aload_n dX7_close_0 rfl) (z_c (ok_getf (C := RX7) (T := TX7) (N := 4) rfl (by decide) zinX7 rfl zw_312 dX7_close_1) (z_c (ok_iload_n dX7_close_4 rfl) (z_c (ok_aload_n dX7_close_5 rfl) (z_c (ok_getf (C := RX7) (T := TX7) (N := 4) rfl (by decide) zinX7 rfl zw_313 dX7_close_6) (z_c (ok_iastore rfl dX7_close_9) (z_c (ok_return rfl dX7_close_10) z_n)))))))
noncomputable def tX7_close : zT := [(100000, tX7_close_0)]
theorem kX7_close : zTok zg iX7_close tX7_close := (z_t kX7_close_0 z_tn)
theorem dX7_put_0 : decode cX7_put 0 = .ok (.aload_n 0, 1) := by decide +kernel
theorem dX7_put_1 : decode cX7_put 1 = .ok (.getfield 21, 3) := by decide +kernel
theorem dX7_put_4 : decode cX7_put 4 = .ok (.aload_n 0, 1) := by decide +kernel
theorem dX7_put_5 : decode cX7_put 5 = .ok (.getfield 9, 3) := by decide +kernel
theorem dX7_put_8 : decode cX7_put 8 = .ok (.arraylength, 1) := by decide +kernel
theorem dX7_put_9 : decode cX7_put 9 = .ok (.if_icmp .ge 23, 3) := by decide +kernel
theorem dX7_put_12 : decode cX7_put 12 = .ok (.aload_n 0, 1) := by decide +kernel
theorem dX7_put_13 : decode cX7_put 13 = .ok (.getfield 9, 3) := by decide +kernel
theorem dX7_put_16 : decode cX7_put 16 = .ok (.aload_n 0, 1) := by decide +kernel
theorem dX7_put_17 : decode cX7_put 17 = .ok (.getfield 21, 3) := by decide +kernel
theorem dX7_put_20 : decode cX7_put 20 = .ok (.iload_n 1, 1) := by decide +kernel
theorem dX7_put_21 : decode cX7_put 21 = .ok (.iastore, 1) := by decide +kernel
theorem dX7_put_22 : decode cX7_put 22 = .ok (.aload_n 0, 1) := by decide +kernel
theorem dX7_put_23 : decode cX7_put 23 = .ok (.dup, 1) := by decide +kernel
theorem dX7_put_24 : decode cX7_put 24 = .ok (.getfield 21, 3) := by decide +kernel
theorem dX7_put_27 : decode cX7_put 27 = .ok (.iconst 1, 1) := by decide +kernel
theorem dX7_put_28 : decode cX7_put 28 = .ok (.iadd, 1) := by decide +kernel
theorem dX7_put_29 : decode cX7_put 29 = .ok (.putfield 21, 3) := by decide +kernel
theorem dX7_put_32 : decode cX7_put 32 = .ok (.iconst 1, 1) := by decide +kernel
theorem dX7_put_33 : decode cX7_put 33 = .ok (.ireturn, 1) := by decide +kernel
noncomputable def tX7_put_0 : List (Nat × zF) := [(0, (zla4 0 1)), (1, (zgf 7 3)), (4, (zla4 0 1)), (5, (zgf 7 0)), (8, (zle4 0)), (9, (z_ic_ge 32)), (12, (zla4 0 1)), (13, (zgf 7 0)), (16, (zla4 0 1)), (17, (zgf 7 3)), (20, (zli4 1 1)), (21, (zas 0))]
theorem kX7_put_0 : ∀ q ∈ tX7_put_0, zOk zg iX7_put q.1 q.2 := (z_c (ok_aload_n dX7_put_0 rfl) (z_c (ok_getf (C := RX7) (T := TX7) (N := 4) rfl (by decide) zinX7 rfl zw_313 dX7_put_1) (z_c (ok_aload_n dX7_put_4 rfl) (z_c (ok_getf (C := RX7) (T := TX7) (N := 4) rfl (by decide) zinX7 rfl zw_310 dX7_put_5) (z_c (ok_alen (ty := .int) rfl dX7_put_8) (z_c (ok_icmp_ge dX7_put_9 (by decide)) (z_c (ok_aload_n dX7_put_12 rfl) (z_c (ok_getf (C := RX7) (T := TX7) (N := 4) rfl (by decide) zinX7 rfl zw_310 dX7_put_13) (z_c (ok_aload_n dX7_put_16 rfl) (z_c (ok_getf (C := RX7) (T := TX7) (N := 4) rfl (by decide) zinX7 rfl zw_313 dX7_put_17) (z_c (ok_iload_n dX7_put_20 rfl) (z_c (ok_iastore rfl dX7_put_21) z_n))))))))))))
noncomputable def tX7_put_1 : List (Nat × zF) := [(22, (zla4 0 1)), (23, (zst 1 zdu)), (24, (zgf 7 3)), (27, (zst 1 (zp (.int (1))))), (28, (zst 1 z_iadd)), (29, (zpf 7 3 (.int))), (32, (zst 1 (zp (.int (1))))), (33, (zri true))]
theorem kX7_put_1 : ∀ q ∈ tX7_put_1, zOk zg iX7_put q.1 q.2 := (z_c (ok_aload_n dX7_put_22 rfl) (z_c (ok_dup dX7_put_23) (z_c (ok_getf (C := RX7) (T := TX7) (N := 4) rfl (by decide) zinX7 rfl zw_313 dX7_put_24) (z_c (ok_iconst (v := (1)) dX7_put_27 (by decide)) (z_c (ok_iadd dX7_put_28) (z_c (ok_putf (C := RX7) (T := TX7) (N := 4) false tyX7 tyX7_ok nmX7 rfl (by decide) zinX7 rfl zw_313 rfl (fun h => absurd h (by decide)) rfl dX7_put_29) (z_c (ok_iconst (v := (1)) dX7_put_32 (by decide)) (z_c (ok_zreturn rfl dX7_put_33) z_n))))))))
noncomputable def tX7_put : zT := [(22, tX7_put_0), (100000, tX7_put_1)]
theorem kX7_put : zTok zg iX7_put tX7_put := (z_t kX7_put_0 (z_t kX7_put_1 z_tn))
theorem dX8_init_0 : decode cX8_init 0 = .ok (.aload_n 0, 1) := by decide +kernel
theorem dX8_init_1 : decode cX8_init 1 = .ok (.invokespecial 3, 3) := by decide +kernel
theorem dX8_init_4 : decode cX8_init 4 = .ok (.aload_n 0, 1) := by decide +kernel
theorem dX8_init_5 : decode cX8_init 5 = .ok (.bipush 9, 2) := by decide +kernel
theorem dX8_init_7 : decode cX8_init 7 = .ok (.newarray .int, 2) := by decide +kernel
theorem dX8_init_9 : decode cX8_init 9 = .ok (.putfield 9, 3) := by decide +kernel
theorem dX8_init_12 : decode cX8_init 12 = .ok (.aload_n 0, 1) := by decide +kernel
theorem dX8_init_13 : decode cX8_init 13 = .ok (.bipush 6, 2) := by decide +kernel
theorem dX8_init_15 : decode cX8_init 15 = .ok (.newarray .int, 2) := by decide +kernel
theorem dX8_init_17 : decode cX8_init 17 = .ok (.putfield 15, 3) := by decide +kernel
theorem dX8_init_20 : decode cX8_init 20 = .ok (.aload_n 0, 1) := by decide +kernel
theorem dX8_init_21 : decode cX8_init 21 = .ok (.iconst (-1), 1) := by decide +kernel
theorem dX8_init_22 : decode cX8_init 22 = .ok (.putfield 18, 3) := by decide +kernel
theorem dX8_init_25 : decode cX8_init 25 = .ok (.return_, 1) := by decide +kernel
noncomputable def tX8_init_0 : List (Nat × zF) := [(0, (zla4 0 1)), (1, zoi), (4, (zla4 0 1)), (5, (zst 2 (zp (.int (9))))), (7, (zna 0 4 zn_int 2)), (9, (zpf 8 2 (.array .int))), (12, (zla4 0 1)), (13, (zst 2 (zp (.int (6))))), (15, (zna 0 4 zn_int 2)), (17, (zpf 8 3 (.array .int))), (20, (zla4 0 1)), (21, (zst 1 (zp (.int ((-1))))))]
theorem kX8_init_0 : ∀ q ∈ tX8_init_0, zOk zg iX8_init q.1 q.2 := (z_c (ok_aload_n dX8_init_0 rfl) (z_c (ok_objInit zw_314 zw_1 zw_2 dX8_init_1) (z_c (ok_aload_n dX8_init_4 rfl) (z_c (ok_bipush (v := (9)) dX8_init_5 (by decide)) (z_c (ok_newa (ty := .int) rfl rfl (fun _ h => by cases h) zw_96 rfl zn_int_c zn_int_n dX8_init_7) (z_c (ok_putf (C := RX8) (T := TX8) (N := 6) true tyX8 tyX8_ok nmX8 rfl (by decide) zinX8 rfl zw_315 rfl (fun _ => ⟨rfl, rfl⟩) rfl dX8_init_9) (z_c (ok_aload_n dX8_init_12 rfl) (z_c (ok_bipush (v := (6)) dX8_init_13 (by decide)) (z_c (ok_newa (ty := .int) rfl rfl (fun _ h => by cases h) zw_96 rfl zn_int_c zn_int_n dX8_init_15) (z_c (ok_putf (C := RX8) (T := TX8) (N := 6) true tyX8 tyX8_ok nmX8 rfl (by decide) zinX8 rfl zw_316 rfl (fun _ => ⟨rfl, rfl⟩) rfl dX8_init_17) (z_c (ok_aload_n dX8_init_20 rfl) (z_c (ok_iconst (v := (-1)) dX8_init_21 (by decide)) z_n))))))))))))
noncomputable def tX8_init_1 : List (Nat × zF) := [(22, (zpf 8 4 (.int))), (25, zrv)]
theorem kX8_init_1 : ∀ q ∈ tX8_init_1, zOk zg iX8_init q.1 q.2 := (z_c (ok_putf (C := RX8) (T := TX8) (N := 6) false tyX8 tyX8_ok nmX8 rfl (by decide) zinX8 rfl zw_317 rfl (fun h => absurd h (by decide)) rfl dX8_init_22) (z_c (ok_return rfl dX8_init_25) z_n))
noncomputable def tX8_init : zT := [(22, tX8_init_0), (100000, tX8_init_1)]
theorem kX8_init : zTok zg iX8_init tX8_init := (z_t kX8_init_0 (z_t kX8_init_1 z_tn))
theorem dX8_copyFrom_0 : decode cX8_copyFrom 0 = .ok (.aload_n 0, 1) := by decide +kernel
theorem dX8_copyFrom_1 : decode cX8_copyFrom 1 = .ok (.aload_n 1, 1) := by decide +kernel
theorem dX8_copyFrom_2 : decode cX8_copyFrom 2 = .ok (.getfield 22, 3) := by decide +kernel
theorem dX8_copyFrom_5 : decode cX8_copyFrom 5 = .ok (.putfield 22, 3) := by decide +kernel
theorem dX8_copyFrom_8 : decode cX8_copyFrom 8 = .ok (.aload_n 0, 1) := by decide +kernel
theorem dX8_copyFrom_9 : decode cX8_copyFrom 9 = .ok (.aload_n 1, 1) := by decide +kernel
theorem dX8_copyFrom_10 : decode cX8_copyFrom 10 = .ok (.getfield 25, 3) := by decide +kernel
theorem dX8_copyFrom_13 : decode cX8_copyFrom 13 = .ok (.putfield 25, 3) := by decide +kernel
theorem dX8_copyFrom_16 : decode cX8_copyFrom 16 = .ok (.aload_n 1, 1) := by decide +kernel
theorem dX8_copyFrom_17 : decode cX8_copyFrom 17 = .ok (.getfield 9, 3) := by decide +kernel
theorem dX8_copyFrom_20 : decode cX8_copyFrom 20 = .ok (.iconst 0, 1) := by decide +kernel
theorem dX8_copyFrom_21 : decode cX8_copyFrom 21 = .ok (.aload_n 0, 1) := by decide +kernel
theorem dX8_copyFrom_22 : decode cX8_copyFrom 22 = .ok (.getfield 9, 3) := by decide +kernel
theorem dX8_copyFrom_25 : decode cX8_copyFrom 25 = .ok (.iconst 0, 1) := by decide +kernel
theorem dX8_copyFrom_26 : decode cX8_copyFrom 26 = .ok (.bipush 9, 2) := by decide +kernel
theorem dX8_copyFrom_28 : decode cX8_copyFrom 28 = .ok (.invokestatic 28, 3) := by decide +kernel
theorem dX8_copyFrom_31 : decode cX8_copyFrom 31 = .ok (.aload_n 1, 1) := by decide +kernel
theorem dX8_copyFrom_32 : decode cX8_copyFrom 32 = .ok (.getfield 15, 3) := by decide +kernel
theorem dX8_copyFrom_35 : decode cX8_copyFrom 35 = .ok (.iconst 0, 1) := by decide +kernel
theorem dX8_copyFrom_36 : decode cX8_copyFrom 36 = .ok (.aload_n 0, 1) := by decide +kernel
theorem dX8_copyFrom_37 : decode cX8_copyFrom 37 = .ok (.getfield 15, 3) := by decide +kernel
theorem dX8_copyFrom_40 : decode cX8_copyFrom 40 = .ok (.iconst 0, 1) := by decide +kernel
theorem dX8_copyFrom_41 : decode cX8_copyFrom 41 = .ok (.bipush 6, 2) := by decide +kernel
theorem dX8_copyFrom_43 : decode cX8_copyFrom 43 = .ok (.invokestatic 28, 3) := by decide +kernel
theorem dX8_copyFrom_46 : decode cX8_copyFrom 46 = .ok (.aload_n 0, 1) := by decide +kernel
theorem dX8_copyFrom_47 : decode cX8_copyFrom 47 = .ok (.aload_n 1, 1) := by decide +kernel
theorem dX8_copyFrom_48 : decode cX8_copyFrom 48 = .ok (.getfield 18, 3) := by decide +kernel
theorem dX8_copyFrom_51 : decode cX8_copyFrom 51 = .ok (.putfield 18, 3) := by decide +kernel
theorem dX8_copyFrom_54 : decode cX8_copyFrom 54 = .ok (.aload_n 0, 1) := by decide +kernel
theorem dX8_copyFrom_55 : decode cX8_copyFrom 55 = .ok (.aload_n 1, 1) := by decide +kernel
theorem dX8_copyFrom_56 : decode cX8_copyFrom 56 = .ok (.getfield 34, 3) := by decide +kernel
theorem dX8_copyFrom_59 : decode cX8_copyFrom 59 = .ok (.putfield 34, 3) := by decide +kernel
theorem dX8_copyFrom_62 : decode cX8_copyFrom 62 = .ok (.return_, 1) := by decide +kernel
noncomputable def tX8_copyFrom_0 : List (Nat × zF) := [(0, (zla4 0 1)), (1, (zla4 1 1)), (2, (zgf 8 0)), (5, (zpf 8 0 (.int))), (8, (zla4 0 1)), (9, (zla4 1 1)), (10, (zgf 8 1)), (13, (zpf 8 1 (.int))), (16, (zla4 1 1)), (17, (zgf 8 2)), (20, (zst 1 (zp (.int (0))))), (21, (zla4 0 1))]
theorem kX8_copyFrom_0 : ∀ q ∈ tX8_copyFrom_0, zOk zg iX8_copyFrom q.1 q.2 := (z_c (ok_aload_n dX8_copyFrom_0 rfl) (z_c (ok_aload_n dX8_copyFrom_1 rfl) (z_c (ok_getf (C := RX8) (T := TX8) (N := 6) rfl (by decide) zinX8 rfl zw_318 dX8_copyFrom_2) (z_c (ok_putf (C := RX8) (T := TX8) (N := 6) false tyX8 tyX8_ok nmX8 rfl (by decide) zinX8 rfl zw_318 rfl (fun h => absurd h (by decide)) rfl dX8_copyFrom_5) (z_c (ok_aload_n dX8_copyFrom_8 rfl) (z_c (ok_aload_n dX8_copyFrom_9 rfl) (z_c (ok_getf (C := RX8) (T := TX8) (N := 6) rfl (by decide) zinX8 rfl zw_319 dX8_copyFrom_10) (z_c (ok_putf (C := RX8) (T := TX8) (N := 6) false tyX8 tyX8_ok nmX8 rfl (by decide) zinX8 rfl zw_319 rfl (fun h => absurd h (by decide)) rfl dX8_copyFrom_13) (z_c (ok_aload_n dX8_copyFrom_16 rfl) (z_c (ok_getf (C := RX8) (T := TX8) (N := 6) rfl (by decide) zinX8 rfl zw_315 dX8_copyFrom_17) (z_c (ok_iconst (v := (0)) dX8_copyFrom_20 (by decide)) (z_c (ok_aload_n dX8_copyFrom_21 rfl) z_n))))))))))))
noncomputable def tX8_copyFrom_1 : List (Nat × zF) := [(22, (zgf 8 2)), (25, (zst 1 (zp (.int (0))))), (26, (zst 2 (zp (.int (9))))), (28, (zcp 0)), (31, (zla4 1 1)), (32, (zgf 8 3)), (35, (zst 1 (zp (.int (0))))), (36, (zla4 0 1)), (37, (zgf 8 3)), (40, (zst 1 (zp (.int (0))))), (41, (zst 2 (zp (.int (6))))), (43, (zcp 0))]
theorem kX8_copyFrom_1 : ∀ q ∈ tX8_copyFrom_1, zOk zg iX8_copyFrom q.1 q.2 := (z_c (ok_getf (C := RX8) (T := TX8) (N := 6) rfl (by decide) zinX8 rfl zw_315 dX8_copyFrom_22) (z_c (ok_iconst (v := (0)) dX8_copyFrom_25 (by decide)) (z_c (ok_bipush (v := (9)) dX8_copyFrom_26 (by decide)) (z_c (ok_copyi rfl zw_320 zw_102 zw_103 zw_104 dX8_copyFrom_28) (z_c (ok_aload_n dX8_copyFrom_31 rfl) (z_c (ok_getf (C := RX8) (T := TX8) (N := 6) rfl (by decide) zinX8 rfl zw_316 dX8_copyFrom_32) (z_c (ok_iconst (v := (0)) dX8_copyFrom_35 (by decide)) (z_c (ok_aload_n dX8_copyFrom_36 rfl) (z_c (ok_getf (C := RX8) (T := TX8) (N := 6) rfl (by decide) zinX8 rfl zw_316 dX8_copyFrom_37) (z_c (ok_iconst (v := (0)) dX8_copyFrom_40 (by decide)) (z_c (ok_bipush (v := (6)) dX8_copyFrom_41 (by decide)) (z_c (ok_copyi rfl zw_320 zw_102 zw_103 zw_104 dX8_copyFrom_43) z_n))))))))))))
noncomputable def tX8_copyFrom_2 : List (Nat × zF) := [(46, (zla4 0 1)), (47, (zla4 1 1)), (48, (zgf 8 4)), (51, (zpf 8 4 (.int))), (54, (zla4 0 1)), (55, (zla4 1 1)), (56, (zgf 8 5)), (59, (zpf 8 5 (.int))), (62, zrv)]
theorem kX8_copyFrom_2 : ∀ q ∈ tX8_copyFrom_2, zOk zg iX8_copyFrom q.1 q.2 := (z_c (ok_aload_n dX8_copyFrom_46 rfl) (z_c (ok_aload_n dX8_copyFrom_47 rfl) (z_c (ok_getf (C := RX8) (T := TX8) (N := 6) rfl (by decide) zinX8 rfl zw_317 dX8_copyFrom_48) (z_c (ok_putf (C := RX8) (T := TX8) (N := 6) false tyX8 tyX8_ok nmX8 rfl (by decide) zinX8 rfl zw_317 rfl (fun h => absurd h (by decide)) rfl dX8_copyFrom_51) (z_c (ok_aload_n dX8_copyFrom_54 rfl) (z_c (ok_aload_n dX8_copyFrom_55 rfl) (z_c (ok_getf (C := RX8) (T := TX8) (N := 6) rfl (by decide) zinX8 rfl zw_321 dX8_copyFrom_56) (z_c (ok_putf (C := RX8) (T := TX8) (N := 6) false tyX8 tyX8_ok nmX8 rfl (by decide) zinX8 rfl zw_321 rfl (fun h => absurd h (by decide)) rfl dX8_copyFrom_59) (z_c (ok_return rfl dX8_copyFrom_62) z_n)))))))))
noncomputable def tX8_copyFrom : zT := [(22, tX8_copyFrom_0), (46, tX8_copyFrom_1), (100000, tX8_copyFrom_2)]
theorem kX8_copyFrom : zTok zg iX8_copyFrom tX8_copyFrom := (z_t kX8_copyFrom_0 (z_t kX8_copyFrom_1 (z_t kX8_copyFrom_2 z_tn)))
theorem dX8_isMissing_0 : decode cX8_isMissing 0 = .ok (.aload_n 0, 1) := by decide +kernel
theorem dX8_isMissing_1 : decode cX8_isMissing 1 = .ok (.getfield 25, 3) := by decide +kernel
theorem dX8_isMissing_4 : decode cX8_isMissing 4 = .ok (.iload_n 1, 1) := by decide +kernel
theorem dX8_isMissing_5 : decode cX8_isMissing 5 = .ok (.ishr, 1) := by decide +kernel
theorem dX8_isMissing_6 : decode cX8_isMissing 6 = .ok (.iconst 1, 1) := by decide +kernel
theorem dX8_isMissing_7 : decode cX8_isMissing 7 = .ok (.iand, 1) := by decide +kernel
theorem dX8_isMissing_8 : decode cX8_isMissing 8 = .ok (.ifCond .eq 7, 3) := by decide +kernel
theorem dX8_isMissing_11 : decode cX8_isMissing 11 = .ok (.iconst 1, 1) := by decide +kernel
theorem dX8_isMissing_12 : decode cX8_isMissing 12 = .ok (.goto 4, 3) := by decide +kernel
theorem dX8_isMissing_15 : decode cX8_isMissing 15 = .ok (.iconst 0, 1) := by decide +kernel
theorem dX8_isMissing_16 : decode cX8_isMissing 16 = .ok (.ireturn, 1) := by decide +kernel
noncomputable def tX8_isMissing_0 : List (Nat × zF) := [(0, (zla4 0 1)), (1, (zgf 8 1)), (4, (zli4 1 1)), (5, (zst 1 z_ishr)), (6, (zst 1 (zp (.int (1))))), (7, (zst 1 z_iand)), (8, (z_if_eq 15)), (11, (zst 1 (zp (.int (1))))), (12, (zgt 16)), (15, (zst 1 (zp (.int (0))))), (16, (zri true))]
theorem kX8_isMissing_0 : ∀ q ∈ tX8_isMissing_0, zOk zg iX8_isMissing q.1 q.2 := (z_c (ok_aload_n dX8_isMissing_0 rfl) (z_c (ok_getf (C := RX8) (T := TX8) (N := 6) rfl (by decide) zinX8 rfl zw_319 dX8_isMissing_1) (z_c (ok_iload_n dX8_isMissing_4 rfl) (z_c (ok_ishr dX8_isMissing_5) (z_c (ok_iconst (v := (1)) dX8_isMissing_6 (by decide)) (z_c (ok_iand dX8_isMissing_7) (z_c (ok_if_eq dX8_isMissing_8 (by decide)) (z_c (ok_iconst (v := (1)) dX8_isMissing_11 (by decide)) (z_c (ok_goto dX8_isMissing_12 (by decide)) (z_c (ok_iconst (v := (0)) dX8_isMissing_15 (by decide)) (z_c (ok_zreturn rfl dX8_isMissing_16) z_n)))))))))))
noncomputable def tX8_isMissing : zT := [(100000, tX8_isMissing_0)]
theorem kX8_isMissing : zTok zg iX8_isMissing tX8_isMissing := (z_t kX8_isMissing_0 z_tn)
theorem dX8_turn_0 : decode cX8_turn 0 = .ok (.aload_n 0, 1) := by decide +kernel
theorem dX8_turn_1 : decode cX8_turn 1 = .ok (.dup, 1) := by decide +kernel
theorem dX8_turn_2 : decode cX8_turn 2 = .ok (.getfield 25, 3) := by decide +kernel
theorem dX8_turn_5 : decode cX8_turn 5 = .ok (.iconst 1, 1) := by decide +kernel
theorem dX8_turn_6 : decode cX8_turn 6 = .ok (.iload_n 1, 1) := by decide +kernel
theorem dX8_turn_7 : decode cX8_turn 7 = .ok (.ishl, 1) := by decide +kernel
theorem dX8_turn_8 : decode cX8_turn 8 = .ok (.ixor, 1) := by decide +kernel
theorem dX8_turn_9 : decode cX8_turn 9 = .ok (.putfield 25, 3) := by decide +kernel
theorem dX8_turn_12 : decode cX8_turn 12 = .ok (.aload_n 0, 1) := by decide +kernel
theorem dX8_turn_13 : decode cX8_turn 13 = .ok (.getfield 9, 3) := by decide +kernel
theorem dX8_turn_16 : decode cX8_turn 16 = .ok (.iload_n 1, 1) := by decide +kernel
theorem dX8_turn_17 : decode cX8_turn 17 = .ok (.iconst 0, 1) := by decide +kernel
theorem dX8_turn_18 : decode cX8_turn 18 = .ok (.iastore, 1) := by decide +kernel
theorem dX8_turn_19 : decode cX8_turn 19 = .ok (.return_, 1) := by decide +kernel
noncomputable def tX8_turn_0 : List (Nat × zF) := [(0, (zla4 0 1)), (1, (zst 1 zdu)), (2, (zgf 8 1)), (5, (zst 1 (zp (.int (1))))), (6, (zli4 1 1)), (7, (zst 1 z_ishl)), (8, (zst 1 z_ixor)), (9, (zpf 8 1 (.int))), (12, (zla4 0 1)), (13, (zgf 8 2)), (16, (zli4 1 1)), (17, (zst 1 (zp (.int (0)))))]
theorem kX8_turn_0 : ∀ q ∈ tX8_turn_0, zOk zg iX8_turn q.1 q.2 := (z_c (ok_aload_n dX8_turn_0 rfl) (z_c (ok_dup dX8_turn_1) (z_c (ok_getf (C := RX8) (T := TX8) (N := 6) rfl (by decide) zinX8 rfl zw_319 dX8_turn_2) (z_c (ok_iconst (v := (1)) dX8_turn_5 (by decide)) (z_c (ok_iload_n dX8_turn_6 rfl) (z_c (ok_ishl dX8_turn_7) (z_c (ok_ixor dX8_turn_8) (z_c (ok_putf (C := RX8) (T := TX8) (N := 6) false tyX8 tyX8_ok nmX8 rfl (by decide) zinX8 rfl zw_319 rfl (fun h => absurd h (by decide)) rfl dX8_turn_9) (z_c (ok_aload_n dX8_turn_12 rfl) (z_c (ok_getf (C := RX8) (T := TX8) (N := 6) rfl (by decide) zinX8 rfl zw_315 dX8_turn_13) (z_c (ok_iload_n dX8_turn_16 rfl) (z_c (ok_iconst (v := (0)) dX8_turn_17 (by decide)) z_n))))))))))))
noncomputable def tX8_turn_1 : List (Nat × zF) := [(18, (zas 0)), (19, zrv)]
theorem kX8_turn_1 : ∀ q ∈ tX8_turn_1, zOk zg iX8_turn q.1 q.2 := (z_c (ok_iastore rfl dX8_turn_18) (z_c (ok_return rfl dX8_turn_19) z_n))
noncomputable def tX8_turn : zT := [(18, tX8_turn_0), (100000, tX8_turn_1)]
theorem kX8_turn : zTok zg iX8_turn tX8_turn := (z_t kX8_turn_0 (z_t kX8_turn_1 z_tn))
theorem dX9_init_0 : decode cX9_init 0 = .ok (.aload_n 0, 1) := by decide +kernel
theorem dX9_init_1 : decode cX9_init 1 = .ok (.invokespecial 3, 3) := by decide +kernel
theorem dX9_init_4 : decode cX9_init 4 = .ok (.aload_n 0, 1) := by decide +kernel
theorem dX9_init_5 : decode cX9_init 5 = .ok (.new 9, 3) := by decide +kernel
theorem dX9_init_8 : decode cX9_init 8 = .ok (.dup, 1) := by decide +kernel
theorem dX9_init_9 : decode cX9_init 9 = .ok (.invokespecial 11, 3) := by decide +kernel
theorem dX9_init_12 : decode cX9_init 12 = .ok (.putfield 12, 3) := by decide +kernel
theorem dX9_init_15 : decode cX9_init 15 = .ok (.aload_n 0, 1) := by decide +kernel
theorem dX9_init_16 : decode cX9_init 16 = .ok (.aload_n 1, 1) := by decide +kernel
theorem dX9_init_17 : decode cX9_init 17 = .ok (.putfield 18, 3) := by decide +kernel
theorem dX9_init_20 : decode cX9_init 20 = .ok (.aload_n 0, 1) := by decide +kernel
theorem dX9_init_21 : decode cX9_init 21 = .ok (.new 22, 3) := by decide +kernel
theorem dX9_init_24 : decode cX9_init 24 = .ok (.dup, 1) := by decide +kernel
theorem dX9_init_25 : decode cX9_init 25 = .ok (.aload_n 0, 1) := by decide +kernel
theorem dX9_init_26 : decode cX9_init 26 = .ok (.getfield 12, 3) := by decide +kernel
theorem dX9_init_29 : decode cX9_init 29 = .ok (.aload_n 1, 1) := by decide +kernel
theorem dX9_init_30 : decode cX9_init 30 = .ok (.getfield 24, 3) := by decide +kernel
theorem dX9_init_33 : decode cX9_init 33 = .ok (.invokespecial 30, 3) := by decide +kernel
theorem dX9_init_36 : decode cX9_init 36 = .ok (.putfield 33, 3) := by decide +kernel
theorem dX9_init_39 : decode cX9_init 39 = .ok (.return_, 1) := by decide +kernel
noncomputable def tX9_init_0 : List (Nat × zF) := [(0, (zla4 0 1)), (1, zoi), (4, (zla4 0 1)), (5, (znw 5 zdfX5)), (8, (zst 1 zdu)), (9, (zci 56 0)), (12, (zpf 9 0 (.object "MissingLamps$Reader"))), (15, (zla4 0 1)), (16, (zla4 1 1)), (17, (zpf 9 2 (.object "MissingLamps$Quay"))), (20, (zla4 0 1)), (21, (znw 10 zdfX10))]
theorem kX9_init_0 : ∀ q ∈ tX9_init_0, zOk zg iX9_init q.1 q.2 := (z_c (ok_aload_n dX9_init_0 rfl) (z_c (ok_objInit zw_322 zw_1 zw_2 dX9_init_1) (z_c (ok_aload_n dX9_init_4 rfl) (z_c (ok_new (C := RX5) (T := TX5) (N := 12) tyX5 tyX5_ok rfl zinX5 zw_323 zw_324 zw_325 rfl (fun _ _ => rfl) zdfX5_ok dX9_init_5) (z_c (ok_dup dX9_init_8) (z_c (ok_callI zcal_56 rfl rfl zw_326 zw_327 dX9_init_9) (z_c (ok_putf (C := RX9) (T := TX9) (N := 4) true tyX9 tyX9_ok nmX9 rfl (by decide) zinX9 rfl zw_328 rfl (fun _ => ⟨rfl, rfl⟩) rfl dX9_init_12) (z_c (ok_aload_n dX9_init_15 rfl) (z_c (ok_aload_n dX9_init_16 rfl) (z_c (ok_putf (C := RX9) (T := TX9) (N := 4) false tyX9 tyX9_ok nmX9 rfl (by decide) zinX9 rfl zw_329 rfl (fun h => absurd h (by decide)) rfl dX9_init_17) (z_c (ok_aload_n dX9_init_20 rfl) (z_c (ok_new (C := RX10) (T := TX10) (N := 3) tyX10 tyX10_ok rfl zinX10 zw_330 zw_331 zw_332 rfl (fun _ _ => rfl) zdfX10_ok dX9_init_21) z_n))))))))))))
noncomputable def tX9_init_1 : List (Nat × zF) := [(24, (zst 1 zdu)), (25, (zla4 0 1)), (26, (zgf 9 0)), (29, (zla4 1 1)), (30, (zgf 4 17)), (33, (zci 98 2)), (36, (zpf 9 1 (.object "MissingLamps$SumReader"))), (39, zrv)]
theorem kX9_init_1 : ∀ q ∈ tX9_init_1, zOk zg iX9_init q.1 q.2 := (z_c (ok_dup dX9_init_24) (z_c (ok_aload_n dX9_init_25 rfl) (z_c (ok_getf (C := RX9) (T := TX9) (N := 4) rfl (by decide) zinX9 rfl zw_328 dX9_init_26) (z_c (ok_aload_n dX9_init_29 rfl) (z_c (ok_getf (C := RX4) (T := TX4) (N := 18) rfl (by decide) zinX4 rfl zw_333 dX9_init_30) (z_c (ok_callI zcal_98 rfl rfl zw_334 zw_335 dX9_init_33) (z_c (ok_putf (C := RX9) (T := TX9) (N := 4) true tyX9 tyX9_ok nmX9 rfl (by decide) zinX9 rfl zw_336 rfl (fun _ => ⟨rfl, rfl⟩) rfl dX9_init_36) (z_c (ok_return rfl dX9_init_39) z_n))))))))
noncomputable def tX9_init : zT := [(24, tX9_init_0), (100000, tX9_init_1)]
theorem kX9_init : zTok zg iX9_init tX9_init := (z_t kX9_init_0 (z_t kX9_init_1 z_tn))
