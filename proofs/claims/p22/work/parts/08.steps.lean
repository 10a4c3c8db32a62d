theorem dX9_faultKind_0 : decode cX9_faultKind 0 = .ok (.aload_n 0, 1) := by decide +kernel
theorem dX9_faultKind_1 : decode cX9_faultKind 1 = .ok (.getfield 12, 3) := by decide +kernel
theorem dX9_faultKind_4 : decode cX9_faultKind 4 = .ok (.getfield 37, 3) := by decide +kernel
theorem dX9_faultKind_7 : decode cX9_faultKind 7 = .ok (.ireturn, 1) := by decide +kernel
noncomputable def tX9_faultKind_0 : List (Nat × zF) := [(0, (zla4 0 1)), (1, (zgf 9 0)), (4, (zgf 5 10)), (7, (zri false))]
theorem kX9_faultKind_0 : ∀ q ∈ tX9_faultKind_0, zOk zg iX9_faultKind q.1 q.2 := (z_c (ok_aload_n dX9_faultKind_0 rfl) (z_c (ok_getf (C := RX9) (T := TX9) (N := 4) rfl (by decide) zinX9 rfl zw_328 dX9_faultKind_1) (z_c (ok_getf (C := RX5) (T := TX5) (N := 12) rfl (by decide) zinX5 rfl zw_337 dX9_faultKind_4) (z_c (ok_ireturn rfl dX9_faultKind_7) z_n))))
noncomputable def tX9_faultKind : zT := [(100000, tX9_faultKind_0)]
theorem kX9_faultKind : zTok zg iX9_faultKind tX9_faultKind := (z_t kX9_faultKind_0 z_tn)
theorem dX9_faultPlace_0 : decode cX9_faultPlace 0 = .ok (.aload_n 0, 1) := by decide +kernel
theorem dX9_faultPlace_1 : decode cX9_faultPlace 1 = .ok (.getfield 12, 3) := by decide +kernel
theorem dX9_faultPlace_4 : decode cX9_faultPlace 4 = .ok (.getfield 41, 3) := by decide +kernel
theorem dX9_faultPlace_7 : decode cX9_faultPlace 7 = .ok (.ireturn, 1) := by decide +kernel
noncomputable def tX9_faultPlace_0 : List (Nat × zF) := [(0, (zla4 0 1)), (1, (zgf 9 0)), (4, (zgf 5 11)), (7, (zri false))]
theorem kX9_faultPlace_0 : ∀ q ∈ tX9_faultPlace_0, zOk zg iX9_faultPlace q.1 q.2 := (z_c (ok_aload_n dX9_faultPlace_0 rfl) (z_c (ok_getf (C := RX9) (T := TX9) (N := 4) rfl (by decide) zinX9 rfl zw_328 dX9_faultPlace_1) (z_c (ok_getf (C := RX5) (T := TX5) (N := 12) rfl (by decide) zinX5 rfl zw_338 dX9_faultPlace_4) (z_c (ok_ireturn rfl dX9_faultPlace_7) z_n))))
noncomputable def tX9_faultPlace : zT := [(100000, tX9_faultPlace_0)]
theorem kX9_faultPlace : zTok zg iX9_faultPlace tX9_faultPlace := (z_t kX9_faultPlace_0 z_tn)
theorem dX9_reads_0 : decode cX9_reads 0 = .ok (.aload_n 0, 1) := by decide +kernel
theorem dX9_reads_1 : decode cX9_reads 1 = .ok (.aload_n 3, 1) := by decide +kernel
theorem dX9_reads_2 : decode cX9_reads 2 = .ok (.putfield 18, 3) := by decide +kernel
theorem dX9_reads_5 : decode cX9_reads 5 = .ok (.aload_n 0, 1) := by decide +kernel
theorem dX9_reads_6 : decode cX9_reads 6 = .ok (.getfield 18, 3) := by decide +kernel
theorem dX9_reads_9 : decode cX9_reads 9 = .ok (.invokevirtual 44, 3) := by decide +kernel
theorem dX9_reads_12 : decode cX9_reads 12 = .ok (.aload_n 0, 1) := by decide +kernel
theorem dX9_reads_13 : decode cX9_reads 13 = .ok (.getfield 12, 3) := by decide +kernel
theorem dX9_reads_16 : decode cX9_reads 16 = .ok (.aload_n 1, 1) := by decide +kernel
theorem dX9_reads_17 : decode cX9_reads 17 = .ok (.iload_n 2, 1) := by decide +kernel
theorem dX9_reads_18 : decode cX9_reads 18 = .ok (.invokevirtual 47, 3) := by decide +kernel
theorem dX9_reads_21 : decode cX9_reads 21 = .ok (.aload_n 0, 1) := by decide +kernel
theorem dX9_reads_22 : decode cX9_reads 22 = .ok (.invokevirtual 51, 3) := by decide +kernel
theorem dX9_reads_25 : decode cX9_reads 25 = .ok (.ifCond .eq 19, 3) := by decide +kernel
theorem dX9_reads_28 : decode cX9_reads 28 = .ok (.aload_n 0, 1) := by decide +kernel
theorem dX9_reads_29 : decode cX9_reads 29 = .ok (.getfield 12, 3) := by decide +kernel
theorem dX9_reads_32 : decode cX9_reads 32 = .ok (.bipush 59, 2) := by decide +kernel
theorem dX9_reads_34 : decode cX9_reads 34 = .ok (.invokevirtual 55, 3) := by decide +kernel
theorem dX9_reads_37 : decode cX9_reads 37 = .ok (.ifCond .eq 7, 3) := by decide +kernel
theorem dX9_reads_40 : decode cX9_reads 40 = .ok (.iconst 1, 1) := by decide +kernel
theorem dX9_reads_41 : decode cX9_reads 41 = .ok (.goto 4, 3) := by decide +kernel
theorem dX9_reads_44 : decode cX9_reads 44 = .ok (.iconst 0, 1) := by decide +kernel
theorem dX9_reads_45 : decode cX9_reads 45 = .ok (.istore 4, 2) := by decide +kernel
theorem dX9_reads_47 : decode cX9_reads 47 = .ok (.aload_n 0, 1) := by decide +kernel
theorem dX9_reads_48 : decode cX9_reads 48 = .ok (.getfield 18, 3) := by decide +kernel
theorem dX9_reads_51 : decode cX9_reads 51 = .ok (.iconst 1, 1) := by decide +kernel
theorem dX9_reads_52 : decode cX9_reads 52 = .ok (.putfield 59, 3) := by decide +kernel
theorem dX9_reads_55 : decode cX9_reads 55 = .ok (.iconst 1, 1) := by decide +kernel
theorem dX9_reads_56 : decode cX9_reads 56 = .ok (.istore 5, 2) := by decide +kernel
theorem dX9_reads_58 : decode cX9_reads 58 = .ok (.iload 5, 2) := by decide +kernel
theorem dX9_reads_60 : decode cX9_reads 60 = .ok (.bipush 80, 2) := by decide +kernel
theorem dX9_reads_62 : decode cX9_reads 62 = .ok (.if_icmp .gt 89, 3) := by decide +kernel
theorem dX9_reads_65 : decode cX9_reads 65 = .ok (.iload 4, 2) := by decide +kernel
theorem dX9_reads_67 : decode cX9_reads 67 = .ok (.ifCond .eq 84, 3) := by decide +kernel
theorem dX9_reads_70 : decode cX9_reads 70 = .ok (.aload_n 0, 1) := by decide +kernel
theorem dX9_reads_71 : decode cX9_reads 71 = .ok (.getfield 12, 3) := by decide +kernel
theorem dX9_reads_74 : decode cX9_reads 74 = .ok (.getfield 62, 3) := by decide +kernel
theorem dX9_reads_77 : decode cX9_reads 77 = .ok (.ifCond .eq 74, 3) := by decide +kernel
theorem dX9_reads_80 : decode cX9_reads 80 = .ok (.iload 5, 2) := by decide +kernel
theorem dX9_reads_82 : decode cX9_reads 82 = .ok (.bipush 80, 2) := by decide +kernel
theorem dX9_reads_84 : decode cX9_reads 84 = .ok (.if_icmp .ge 30, 3) := by decide +kernel
theorem dX9_reads_87 : decode cX9_reads 87 = .ok (.aload_n 0, 1) := by decide +kernel
theorem dX9_reads_88 : decode cX9_reads 88 = .ok (.invokevirtual 65, 3) := by decide +kernel
theorem dX9_reads_91 : decode cX9_reads 91 = .ok (.ifCond .eq 19, 3) := by decide +kernel
theorem dX9_reads_94 : decode cX9_reads 94 = .ok (.aload_n 0, 1) := by decide +kernel
theorem dX9_reads_95 : decode cX9_reads 95 = .ok (.getfield 12, 3) := by decide +kernel
theorem dX9_reads_98 : decode cX9_reads 98 = .ok (.bipush 59, 2) := by decide +kernel
theorem dX9_reads_100 : decode cX9_reads 100 = .ok (.invokevirtual 55, 3) := by decide +kernel
theorem dX9_reads_103 : decode cX9_reads 103 = .ok (.ifCond .eq 7, 3) := by decide +kernel
theorem dX9_reads_106 : decode cX9_reads 106 = .ok (.iconst 1, 1) := by decide +kernel
theorem dX9_reads_107 : decode cX9_reads 107 = .ok (.goto 23, 3) := by decide +kernel
theorem dX9_reads_110 : decode cX9_reads 110 = .ok (.iconst 0, 1) := by decide +kernel
theorem dX9_reads_111 : decode cX9_reads 111 = .ok (.goto 19, 3) := by decide +kernel
theorem dX9_reads_114 : decode cX9_reads 114 = .ok (.aload_n 0, 1) := by decide +kernel
theorem dX9_reads_115 : decode cX9_reads 115 = .ok (.getfield 12, 3) := by decide +kernel
theorem dX9_reads_118 : decode cX9_reads 118 = .ok (.bipush 6, 2) := by decide +kernel
theorem dX9_reads_120 : decode cX9_reads 120 = .ok (.aload_n 0, 1) := by decide +kernel
theorem dX9_reads_121 : decode cX9_reads 121 = .ok (.getfield 12, 3) := by decide +kernel
theorem dX9_reads_124 : decode cX9_reads 124 = .ok (.getfield 68, 3) := by decide +kernel
theorem dX9_reads_127 : decode cX9_reads 127 = .ok (.invokevirtual 71, 3) := by decide +kernel
theorem dX9_reads_130 : decode cX9_reads 130 = .ok (.istore 4, 2) := by decide +kernel
theorem dX9_reads_132 : decode cX9_reads 132 = .ok (.aload_n 0, 1) := by decide +kernel
theorem dX9_reads_133 : decode cX9_reads 133 = .ok (.getfield 18, 3) := by decide +kernel
theorem dX9_reads_136 : decode cX9_reads 136 = .ok (.dup, 1) := by decide +kernel
theorem dX9_reads_137 : decode cX9_reads 137 = .ok (.getfield 59, 3) := by decide +kernel
theorem dX9_reads_140 : decode cX9_reads 140 = .ok (.iconst 1, 1) := by decide +kernel
theorem dX9_reads_141 : decode cX9_reads 141 = .ok (.iadd, 1) := by decide +kernel
theorem dX9_reads_142 : decode cX9_reads 142 = .ok (.putfield 59, 3) := by decide +kernel
theorem dX9_reads_145 : decode cX9_reads 145 = .ok (.iinc 5 1, 3) := by decide +kernel
theorem dX9_reads_148 : decode cX9_reads 148 = .ok (.goto (-90), 3) := by decide +kernel
theorem dX9_reads_151 : decode cX9_reads 151 = .ok (.iload 4, 2) := by decide +kernel
theorem dX9_reads_153 : decode cX9_reads 153 = .ok (.ireturn, 1) := by decide +kernel
noncomputable def tX9_reads_0 : List (Nat × zF) := [(0, (zla4 0 1)), (1, (zla4 3 1)), (2, (zpf 9 2 (.object "MissingLamps$Quay"))), (5, (zla4 0 1)), (6, (zgf 9 2)), (9, (zcv 48 0 4)), (12, (zla4 0 1)), (13, (zgf 9 0)), (16, (zla4 1 1)), (17, (zli4 2 1)), (18, (zcv 57 2 5)), (21, (zla4 0 1))]
theorem kX9_reads_0 : ∀ q ∈ tX9_reads_0, zOk zg iX9_reads q.1 q.2 := (z_c (ok_aload_n dX9_reads_0 rfl) (z_c (ok_aload_n dX9_reads_1 rfl) (z_c (ok_putf (C := RX9) (T := TX9) (N := 4) false tyX9 tyX9_ok nmX9 rfl (by decide) zinX9 rfl zw_329 rfl (fun h => absurd h (by decide)) rfl dX9_reads_2) (z_c (ok_aload_n dX9_reads_5 rfl) (z_c (ok_getf (C := RX9) (T := TX9) (N := 4) rfl (by decide) zinX9 rfl zw_329 dX9_reads_6) (z_c (ok_callV zcal_48 (q := (RX4, TX4, 18)) rfl zw_339 zw_340 zw_341 dX9_reads_9) (z_c (ok_aload_n dX9_reads_12 rfl) (z_c (ok_getf (C := RX9) (T := TX9) (N := 4) rfl (by decide) zinX9 rfl zw_328 dX9_reads_13) (z_c (ok_aload_n dX9_reads_16 rfl) (z_c (ok_iload_n dX9_reads_17 rfl) (z_c (ok_callV zcal_57 (q := (RX5, TX5, 12)) rfl zw_342 zw_343 zw_344 dX9_reads_18) (z_c (ok_aload_n dX9_reads_21 rfl) z_n))))))))))))
noncomputable def tX9_reads_1 : List (Nat × zF) := [(22, (zcv 87 0 9)), (25, (z_if_eq 44)), (28, (zla4 0 1)), (29, (zgf 9 0)), (32, (zst 2 (zp (.int (59))))), (34, (zcv 65 1 5)), (37, (z_if_eq 44)), (40, (zst 1 (zp (.int (1))))), (41, (zgt 45)), (44, (zst 1 (zp (.int (0))))), (45, (zsi4 6 4 2)), (47, (zla4 0 1))]
theorem kX9_reads_1 : ∀ q ∈ tX9_reads_1, zOk zg iX9_reads q.1 q.2 := (z_c (ok_callV zcal_87 (q := (RX9, TX9, 4)) rfl zw_345 zw_346 zw_347 dX9_reads_22) (z_c (ok_if_eq dX9_reads_25 (by decide)) (z_c (ok_aload_n dX9_reads_28 rfl) (z_c (ok_getf (C := RX9) (T := TX9) (N := 4) rfl (by decide) zinX9 rfl zw_328 dX9_reads_29) (z_c (ok_bipush (v := (59)) dX9_reads_32 (by decide)) (z_c (ok_callV zcal_65 (q := (RX5, TX5, 12)) rfl zw_348 zw_349 zw_350 dX9_reads_34) (z_c (ok_if_eq dX9_reads_37 (by decide)) (z_c (ok_iconst (v := (1)) dX9_reads_40 (by decide)) (z_c (ok_goto dX9_reads_41 (by decide)) (z_c (ok_iconst (v := (0)) dX9_reads_44 (by decide)) (z_c (ok_istore dX9_reads_45) (z_c (ok_aload_n dX9_reads_47 rfl) z_n))))))))))))
noncomputable def tX9_reads_2 : List (Nat × zF) := [(48, (zgf 9 2)), (51, (zst 1 (zp (.int (1))))), (52, (zpf 4 0 (.int))), (55, (zst 1 (zp (.int (1))))), (56, (zsi4 6 5 2)), (58, (zli4 5 2)), (60, (zst 2 (zp (.int (80))))), (62, (z_ic_gt 151)), (65, (zli4 4 2)), (67, (z_if_eq 151)), (70, (zla4 0 1)), (71, (zgf 9 0))]
theorem kX9_reads_2 : ∀ q ∈ tX9_reads_2, zOk zg iX9_reads q.1 q.2 := (z_c (ok_getf (C := RX9) (T := TX9) (N := 4) rfl (by decide) zinX9 rfl zw_329 dX9_reads_48) (z_c (ok_iconst (v := (1)) dX9_reads_51 (by decide)) (z_c (ok_putf (C := RX4) (T := TX4) (N := 18) false tyX4 tyX4_ok nmX4 rfl (by decide) zinX4 rfl zw_351 rfl (fun h => absurd h (by decide)) rfl dX9_reads_52) (z_c (ok_iconst (v := (1)) dX9_reads_55 (by decide)) (z_c (ok_istore dX9_reads_56) (z_c (ok_iload dX9_reads_58) (z_c (ok_bipush (v := (80)) dX9_reads_60 (by decide)) (z_c (ok_icmp_gt dX9_reads_62 (by decide)) (z_c (ok_iload dX9_reads_65) (z_c (ok_if_eq dX9_reads_67 (by decide)) (z_c (ok_aload_n dX9_reads_70 rfl) (z_c (ok_getf (C := RX9) (T := TX9) (N := 4) rfl (by decide) zinX9 rfl zw_328 dX9_reads_71) z_n))))))))))))
noncomputable def tX9_reads_3 : List (Nat × zF) := [(74, (zgf 5 4)), (77, (z_if_eq 151)), (80, (zli4 5 2)), (82, (zst 2 (zp (.int (80))))), (84, (z_ic_ge 114)), (87, (zla4 0 1)), (88, (zcv 88 0 9)), (91, (z_if_eq 110)), (94, (zla4 0 1)), (95, (zgf 9 0)), (98, (zst 2 (zp (.int (59))))), (100, (zcv 65 1 5))]
theorem kX9_reads_3 : ∀ q ∈ tX9_reads_3, zOk zg iX9_reads q.1 q.2 := (z_c (ok_getf (C := RX5) (T := TX5) (N := 12) rfl (by decide) zinX5 rfl zw_352 dX9_reads_74) (z_c (ok_if_eq dX9_reads_77 (by decide)) (z_c (ok_iload dX9_reads_80) (z_c (ok_bipush (v := (80)) dX9_reads_82 (by decide)) (z_c (ok_icmp_ge dX9_reads_84 (by decide)) (z_c (ok_aload_n dX9_reads_87 rfl) (z_c (ok_callV zcal_88 (q := (RX9, TX9, 4)) rfl zw_353 zw_354 zw_355 dX9_reads_88) (z_c (ok_if_eq dX9_reads_91 (by decide)) (z_c (ok_aload_n dX9_reads_94 rfl) (z_c (ok_getf (C := RX9) (T := TX9) (N := 4) rfl (by decide) zinX9 rfl zw_328 dX9_reads_95) (z_c (ok_bipush (v := (59)) dX9_reads_98 (by decide)) (z_c (ok_callV zcal_65 (q := (RX5, TX5, 12)) rfl zw_348 zw_349 zw_350 dX9_reads_100) z_n))))))))))))
noncomputable def tX9_reads_4 : List (Nat × zF) := [(103, (z_if_eq 110)), (106, (zst 1 (zp (.int (1))))), (107, (zgt 130)), (110, (zst 1 (zp (.int (0))))), (111, (zgt 130)), (114, (zla4 0 1)), (115, (zgf 9 0)), (118, (zst 2 (zp (.int (6))))), (120, (zla4 0 1)), (121, (zgf 9 0)), (124, (zgf 5 6)), (127, (zcv 63 2 5))]
theorem kX9_reads_4 : ∀ q ∈ tX9_reads_4, zOk zg iX9_reads q.1 q.2 := (z_c (ok_if_eq dX9_reads_103 (by decide)) (z_c (ok_iconst (v := (1)) dX9_reads_106 (by decide)) (z_c (ok_goto dX9_reads_107 (by decide)) (z_c (ok_iconst (v := (0)) dX9_reads_110 (by decide)) (z_c (ok_goto dX9_reads_111 (by decide)) (z_c (ok_aload_n dX9_reads_114 rfl) (z_c (ok_getf (C := RX9) (T := TX9) (N := 4) rfl (by decide) zinX9 rfl zw_328 dX9_reads_115) (z_c (ok_bipush (v := (6)) dX9_reads_118 (by decide)) (z_c (ok_aload_n dX9_reads_120 rfl) (z_c (ok_getf (C := RX9) (T := TX9) (N := 4) rfl (by decide) zinX9 rfl zw_328 dX9_reads_121) (z_c (ok_getf (C := RX5) (T := TX5) (N := 12) rfl (by decide) zinX5 rfl zw_356 dX9_reads_124) (z_c (ok_callV zcal_63 (q := (RX5, TX5, 12)) rfl zw_357 zw_274 zw_275 dX9_reads_127) z_n))))))))))))
noncomputable def tX9_reads_5 : List (Nat × zF) := [(130, (zsi4 6 4 2)), (132, (zla4 0 1)), (133, (zgf 9 2)), (136, (zst 1 zdu)), (137, (zgf 4 0)), (140, (zst 1 (zp (.int (1))))), (141, (zst 1 z_iadd)), (142, (zpf 4 0 (.int))), (145, (zin4 6 5 (1))), (148, (zgt 58)), (151, (zli4 4 2)), (153, (zri true))]
theorem kX9_reads_5 : ∀ q ∈ tX9_reads_5, zOk zg iX9_reads q.1 q.2 := (z_c (ok_istore dX9_reads_130) (z_c (ok_aload_n dX9_reads_132 rfl) (z_c (ok_getf (C := RX9) (T := TX9) (N := 4) rfl (by decide) zinX9 rfl zw_329 dX9_reads_133) (z_c (ok_dup dX9_reads_136) (z_c (ok_getf (C := RX4) (T := TX4) (N := 18) rfl (by decide) zinX4 rfl zw_351 dX9_reads_137) (z_c (ok_iconst (v := (1)) dX9_reads_140 (by decide)) (z_c (ok_iadd dX9_reads_141) (z_c (ok_putf (C := RX4) (T := TX4) (N := 18) false tyX4 tyX4_ok nmX4 rfl (by decide) zinX4 rfl zw_351 rfl (fun h => absurd h (by decide)) rfl dX9_reads_142) (z_c (ok_iinc (v := (1)) dX9_reads_145 (by decide)) (z_c (ok_goto dX9_reads_148 (by decide)) (z_c (ok_iload dX9_reads_151) (z_c (ok_zreturn rfl dX9_reads_153) z_n))))))))))))
noncomputable def tX9_reads : zT := [(22, tX9_reads_0), (48, tX9_reads_1), (74, tX9_reads_2), (103, tX9_reads_3), (130, tX9_reads_4), (100000, tX9_reads_5)]
theorem kX9_reads : zTok zg iX9_reads tX9_reads := (z_t kX9_reads_0 (z_t kX9_reads_1 (z_t kX9_reads_2 (z_t kX9_reads_3 (z_t kX9_reads_4 (z_t kX9_reads_5 z_tn))))))
theorem dX9_takesSize_0 : decode cX9_takesSize 0 = .ok (.aload_n 0, 1) := by decide +kernel
theorem dX9_takesSize_1 : decode cX9_takesSize 1 = .ok (.getfield 12, 3) := by decide +kernel
theorem dX9_takesSize_4 : decode cX9_takesSize 4 = .ok (.iconst 0, 1) := by decide +kernel
theorem dX9_takesSize_5 : decode cX9_takesSize 5 = .ok (.invokevirtual 75, 3) := by decide +kernel
theorem dX9_takesSize_8 : decode cX9_takesSize 8 = .ok (.ifCond .eq 16, 3) := by decide +kernel
theorem dX9_takesSize_11 : decode cX9_takesSize 11 = .ok (.aload_n 0, 1) := by decide +kernel
theorem dX9_takesSize_12 : decode cX9_takesSize 12 = .ok (.getfield 12, 3) := by decide +kernel
theorem dX9_takesSize_15 : decode cX9_takesSize 15 = .ok (.iconst 3, 1) := by decide +kernel
theorem dX9_takesSize_16 : decode cX9_takesSize 16 = .ok (.bipush 7, 2) := by decide +kernel
theorem dX9_takesSize_18 : decode cX9_takesSize 18 = .ok (.invokevirtual 78, 3) := by decide +kernel
theorem dX9_takesSize_21 : decode cX9_takesSize 21 = .ok (.ifCond .ne 5, 3) := by decide +kernel
theorem dX9_takesSize_24 : decode cX9_takesSize 24 = .ok (.iconst 0, 1) := by decide +kernel
theorem dX9_takesSize_25 : decode cX9_takesSize 25 = .ok (.ireturn, 1) := by decide +kernel
theorem dX9_takesSize_26 : decode cX9_takesSize 26 = .ok (.aload_n 0, 1) := by decide +kernel
theorem dX9_takesSize_27 : decode cX9_takesSize 27 = .ok (.getfield 12, 3) := by decide +kernel
theorem dX9_takesSize_30 : decode cX9_takesSize 30 = .ok (.getfield 81, 3) := by decide +kernel
theorem dX9_takesSize_33 : decode cX9_takesSize 33 = .ok (.istore_n 1, 1) := by decide +kernel
theorem dX9_takesSize_34 : decode cX9_takesSize 34 = .ok (.aload_n 0, 1) := by decide +kernel
theorem dX9_takesSize_35 : decode cX9_takesSize 35 = .ok (.getfield 12, 3) := by decide +kernel
theorem dX9_takesSize_38 : decode cX9_takesSize 38 = .ok (.iconst 1, 1) := by decide +kernel
theorem dX9_takesSize_39 : decode cX9_takesSize 39 = .ok (.invokevirtual 75, 3) := by decide +kernel
theorem dX9_takesSize_42 : decode cX9_takesSize 42 = .ok (.ifCond .eq 16, 3) := by decide +kernel
theorem dX9_takesSize_45 : decode cX9_takesSize 45 = .ok (.aload_n 0, 1) := by decide +kernel
theorem dX9_takesSize_46 : decode cX9_takesSize 46 = .ok (.getfield 12, 3) := by decide +kernel
theorem dX9_takesSize_49 : decode cX9_takesSize 49 = .ok (.iconst 3, 1) := by decide +kernel
theorem dX9_takesSize_50 : decode cX9_takesSize 50 = .ok (.bipush 7, 2) := by decide +kernel
theorem dX9_takesSize_52 : decode cX9_takesSize 52 = .ok (.invokevirtual 78, 3) := by decide +kernel
theorem dX9_takesSize_55 : decode cX9_takesSize 55 = .ok (.ifCond .ne 5, 3) := by decide +kernel
theorem dX9_takesSize_58 : decode cX9_takesSize 58 = .ok (.iconst 0, 1) := by decide +kernel
theorem dX9_takesSize_59 : decode cX9_takesSize 59 = .ok (.ireturn, 1) := by decide +kernel
theorem dX9_takesSize_60 : decode cX9_takesSize 60 = .ok (.aload_n 0, 1) := by decide +kernel
theorem dX9_takesSize_61 : decode cX9_takesSize 61 = .ok (.getfield 18, 3) := by decide +kernel
theorem dX9_takesSize_64 : decode cX9_takesSize 64 = .ok (.iload_n 1, 1) := by decide +kernel
theorem dX9_takesSize_65 : decode cX9_takesSize 65 = .ok (.aload_n 0, 1) := by decide +kernel
theorem dX9_takesSize_66 : decode cX9_takesSize 66 = .ok (.getfield 12, 3) := by decide +kernel
theorem dX9_takesSize_69 : decode cX9_takesSize 69 = .ok (.getfield 81, 3) := by decide +kernel
theorem dX9_takesSize_72 : decode cX9_takesSize 72 = .ok (.invokevirtual 84, 3) := by decide +kernel
theorem dX9_takesSize_75 : decode cX9_takesSize 75 = .ok (.iconst 1, 1) := by decide +kernel
theorem dX9_takesSize_76 : decode cX9_takesSize 76 = .ok (.ireturn, 1) := by decide +kernel
noncomputable def tX9_takesSize_0 : List (Nat × zF) := [(0, (zla4 0 1)), (1, (zgf 9 0)), (4, (zst 1 (zp (.int (0))))), (5, (zcv 64 1 5)), (8, (z_if_eq 24)), (11, (zla4 0 1)), (12, (zgf 9 0)), (15, (zst 1 (zp (.int (3))))), (16, (zst 2 (zp (.int (7))))), (18, (zcv 67 2 5)), (21, (z_if_ne 26)), (24, (zst 1 (zp (.int (0)))))]
theorem kX9_takesSize_0 : ∀ q ∈ tX9_takesSize_0, zOk zg iX9_takesSize q.1 q.2 := (z_c (ok_aload_n dX9_takesSize_0 rfl) (z_c (ok_getf (C := RX9) (T := TX9) (N := 4) rfl (by decide) zinX9 rfl zw_328 dX9_takesSize_1) (z_c (ok_iconst (v := (0)) dX9_takesSize_4 (by decide)) (z_c (ok_callV zcal_64 (q := (RX5, TX5, 12)) rfl zw_358 zw_359 zw_360 dX9_takesSize_5) (z_c (ok_if_eq dX9_takesSize_8 (by decide)) (z_c (ok_aload_n dX9_takesSize_11 rfl) (z_c (ok_getf (C := RX9) (T := TX9) (N := 4) rfl (by decide) zinX9 rfl zw_328 dX9_takesSize_12) (z_c (ok_iconst (v := (3)) dX9_takesSize_15 (by decide)) (z_c (ok_bipush (v := (7)) dX9_takesSize_16 (by decide)) (z_c (ok_callV zcal_67 (q := (RX5, TX5, 12)) rfl zw_361 zw_362 zw_363 dX9_takesSize_18) (z_c (ok_if_ne dX9_takesSize_21 (by decide)) (z_c (ok_iconst (v := (0)) dX9_takesSize_24 (by decide)) z_n))))))))))))
noncomputable def tX9_takesSize_1 : List (Nat × zF) := [(25, (zri true)), (26, (zla4 0 1)), (27, (zgf 9 0)), (30, (zgf 5 8)), (33, (zsi4 2 1 1)), (34, (zla4 0 1)), (35, (zgf 9 0)), (38, (zst 1 (zp (.int (1))))), (39, (zcv 64 1 5)), (42, (z_if_eq 58)), (45, (zla4 0 1)), (46, (zgf 9 0))]
theorem kX9_takesSize_1 : ∀ q ∈ tX9_takesSize_1, zOk zg iX9_takesSize q.1 q.2 := (z_c (ok_zreturn rfl dX9_takesSize_25) (z_c (ok_aload_n dX9_takesSize_26 rfl) (z_c (ok_getf (C := RX9) (T := TX9) (N := 4) rfl (by decide) zinX9 rfl zw_328 dX9_takesSize_27) (z_c (ok_getf (C := RX5) (T := TX5) (N := 12) rfl (by decide) zinX5 rfl zw_364 dX9_takesSize_30) (z_c (ok_istore_n dX9_takesSize_33 rfl) (z_c (ok_aload_n dX9_takesSize_34 rfl) (z_c (ok_getf (C := RX9) (T := TX9) (N := 4) rfl (by decide) zinX9 rfl zw_328 dX9_takesSize_35) (z_c (ok_iconst (v := (1)) dX9_takesSize_38 (by decide)) (z_c (ok_callV zcal_64 (q := (RX5, TX5, 12)) rfl zw_358 zw_359 zw_360 dX9_takesSize_39) (z_c (ok_if_eq dX9_takesSize_42 (by decide)) (z_c (ok_aload_n dX9_takesSize_45 rfl) (z_c (ok_getf (C := RX9) (T := TX9) (N := 4) rfl (by decide) zinX9 rfl zw_328 dX9_takesSize_46) z_n))))))))))))
noncomputable def tX9_takesSize_2 : List (Nat × zF) := [(49, (zst 1 (zp (.int (3))))), (50, (zst 2 (zp (.int (7))))), (52, (zcv 67 2 5)), (55, (z_if_ne 60)), (58, (zst 1 (zp (.int (0))))), (59, (zri true)), (60, (zla4 0 1)), (61, (zgf 9 2)), (64, (zli4 1 1)), (65, (zla4 0 1)), (66, (zgf 9 0)), (69, (zgf 5 8))]
theorem kX9_takesSize_2 : ∀ q ∈ tX9_takesSize_2, zOk zg iX9_takesSize q.1 q.2 := (z_c (ok_iconst (v := (3)) dX9_takesSize_49 (by decide)) (z_c (ok_bipush (v := (7)) dX9_takesSize_50 (by decide)) (z_c (ok_callV zcal_67 (q := (RX5, TX5, 12)) rfl zw_361 zw_362 zw_363 dX9_takesSize_52) (z_c (ok_if_ne dX9_takesSize_55 (by decide)) (z_c (ok_iconst (v := (0)) dX9_takesSize_58 (by decide)) (z_c (ok_zreturn rfl dX9_takesSize_59) (z_c (ok_aload_n dX9_takesSize_60 rfl) (z_c (ok_getf (C := RX9) (T := TX9) (N := 4) rfl (by decide) zinX9 rfl zw_329 dX9_takesSize_61) (z_c (ok_iload_n dX9_takesSize_64 rfl) (z_c (ok_aload_n dX9_takesSize_65 rfl) (z_c (ok_getf (C := RX9) (T := TX9) (N := 4) rfl (by decide) zinX9 rfl zw_328 dX9_takesSize_66) (z_c (ok_getf (C := RX5) (T := TX5) (N := 12) rfl (by decide) zinX5 rfl zw_364 dX9_takesSize_69) z_n))))))))))))
noncomputable def tX9_takesSize_3 : List (Nat × zF) := [(72, (zcv 52 2 4)), (75, (zst 1 (zp (.int (1))))), (76, (zri true))]
theorem kX9_takesSize_3 : ∀ q ∈ tX9_takesSize_3, zOk zg iX9_takesSize q.1 q.2 := (z_c (ok_callV zcal_52 (q := (RX4, TX4, 18)) rfl zw_365 zw_366 zw_367 dX9_takesSize_72) (z_c (ok_iconst (v := (1)) dX9_takesSize_75 (by decide)) (z_c (ok_zreturn rfl dX9_takesSize_76) z_n)))
noncomputable def tX9_takesSize : zT := [(25, tX9_takesSize_0), (49, tX9_takesSize_1), (72, tX9_takesSize_2), (100000, tX9_takesSize_3)]
theorem kX9_takesSize : zTok zg iX9_takesSize tX9_takesSize := (z_t kX9_takesSize_0 (z_t kX9_takesSize_1 (z_t kX9_takesSize_2 (z_t kX9_takesSize_3 z_tn))))
theorem dX9_takesStatement_0 : decode cX9_takesStatement 0 = .ok (.aload_n 0, 1) := by decide +kernel
theorem dX9_takesStatement_1 : decode cX9_takesStatement 1 = .ok (.getfield 12, 3) := by decide +kernel
theorem dX9_takesStatement_4 : decode cX9_takesStatement 4 = .ok (.getfield 62, 3) := by decide +kernel
theorem dX9_takesStatement_7 : decode cX9_takesStatement 7 = .ok (.iconst 2, 1) := by decide +kernel
theorem dX9_takesStatement_8 : decode cX9_takesStatement 8 = .ok (.if_icmp .ne 13, 3) := by decide +kernel
theorem dX9_takesStatement_11 : decode cX9_takesStatement 11 = .ok (.aload_n 0, 1) := by decide +kernel
theorem dX9_takesStatement_12 : decode cX9_takesStatement 12 = .ok (.getfield 12, 3) := by decide +kernel
theorem dX9_takesStatement_15 : decode cX9_takesStatement 15 = .ok (.getfield 88, 3) := by decide +kernel
theorem dX9_takesStatement_18 : decode cX9_takesStatement 18 = .ok (.goto 4, 3) := by decide +kernel
theorem dX9_takesStatement_21 : decode cX9_takesStatement 21 = .ok (.iconst (-1), 1) := by decide +kernel
theorem dX9_takesStatement_22 : decode cX9_takesStatement 22 = .ok (.istore_n 1, 1) := by decide +kernel
theorem dX9_takesStatement_23 : decode cX9_takesStatement 23 = .ok (.iload_n 1, 1) := by decide +kernel
theorem dX9_takesStatement_24 : decode cX9_takesStatement 24 = .ok (.tableswitch 116 2 14 #[68, 73, 78, 83, 116, 116, 116, 88, 93, 116, 98, 104, 110], 68) := by decide +kernel
theorem dX9_takesStatement_92 : decode cX9_takesStatement 92 = .ok (.aload_n 0, 1) := by decide +kernel
theorem dX9_takesStatement_93 : decode cX9_takesStatement 93 = .ok (.invokevirtual 91, 3) := by decide +kernel
theorem dX9_takesStatement_96 : decode cX9_takesStatement 96 = .ok (.ireturn, 1) := by decide +kernel
theorem dX9_takesStatement_97 : decode cX9_takesStatement 97 = .ok (.aload_n 0, 1) := by decide +kernel
theorem dX9_takesStatement_98 : decode cX9_takesStatement 98 = .ok (.invokevirtual 94, 3) := by decide +kernel
theorem dX9_takesStatement_101 : decode cX9_takesStatement 101 = .ok (.ireturn, 1) := by decide +kernel
theorem dX9_takesStatement_102 : decode cX9_takesStatement 102 = .ok (.aload_n 0, 1) := by decide +kernel
theorem dX9_takesStatement_103 : decode cX9_takesStatement 103 = .ok (.invokevirtual 97, 3) := by decide +kernel
theorem dX9_takesStatement_106 : decode cX9_takesStatement 106 = .ok (.ireturn, 1) := by decide +kernel
theorem dX9_takesStatement_107 : decode cX9_takesStatement 107 = .ok (.aload_n 0, 1) := by decide +kernel
theorem dX9_takesStatement_108 : decode cX9_takesStatement 108 = .ok (.invokevirtual 100, 3) := by decide +kernel
theorem dX9_takesStatement_111 : decode cX9_takesStatement 111 = .ok (.ireturn, 1) := by decide +kernel
theorem dX9_takesStatement_112 : decode cX9_takesStatement 112 = .ok (.aload_n 0, 1) := by decide +kernel
theorem dX9_takesStatement_113 : decode cX9_takesStatement 113 = .ok (.invokevirtual 103, 3) := by decide +kernel
theorem dX9_takesStatement_116 : decode cX9_takesStatement 116 = .ok (.ireturn, 1) := by decide +kernel
theorem dX9_takesStatement_117 : decode cX9_takesStatement 117 = .ok (.aload_n 0, 1) := by decide +kernel
theorem dX9_takesStatement_118 : decode cX9_takesStatement 118 = .ok (.invokevirtual 106, 3) := by decide +kernel
theorem dX9_takesStatement_121 : decode cX9_takesStatement 121 = .ok (.ireturn, 1) := by decide +kernel
theorem dX9_takesStatement_122 : decode cX9_takesStatement 122 = .ok (.aload_n 0, 1) := by decide +kernel
theorem dX9_takesStatement_123 : decode cX9_takesStatement 123 = .ok (.iconst 0, 1) := by decide +kernel
theorem dX9_takesStatement_124 : decode cX9_takesStatement 124 = .ok (.invokevirtual 109, 3) := by decide +kernel
theorem dX9_takesStatement_127 : decode cX9_takesStatement 127 = .ok (.ireturn, 1) := by decide +kernel
theorem dX9_takesStatement_128 : decode cX9_takesStatement 128 = .ok (.aload_n 0, 1) := by decide +kernel
theorem dX9_takesStatement_129 : decode cX9_takesStatement 129 = .ok (.iconst 1, 1) := by decide +kernel
theorem dX9_takesStatement_130 : decode cX9_takesStatement 130 = .ok (.invokevirtual 109, 3) := by decide +kernel
theorem dX9_takesStatement_133 : decode cX9_takesStatement 133 = .ok (.ireturn, 1) := by decide +kernel
theorem dX9_takesStatement_134 : decode cX9_takesStatement 134 = .ok (.aload_n 0, 1) := by decide +kernel
theorem dX9_takesStatement_135 : decode cX9_takesStatement 135 = .ok (.iconst 2, 1) := by decide +kernel
theorem dX9_takesStatement_136 : decode cX9_takesStatement 136 = .ok (.invokevirtual 109, 3) := by decide +kernel
theorem dX9_takesStatement_139 : decode cX9_takesStatement 139 = .ok (.ireturn, 1) := by decide +kernel
theorem dX9_takesStatement_140 : decode cX9_takesStatement 140 = .ok (.aload_n 0, 1) := by decide +kernel
theorem dX9_takesStatement_141 : decode cX9_takesStatement 141 = .ok (.getfield 12, 3) := by decide +kernel
theorem dX9_takesStatement_144 : decode cX9_takesStatement 144 = .ok (.iconst 1, 1) := by decide +kernel
theorem dX9_takesStatement_145 : decode cX9_takesStatement 145 = .ok (.aload_n 0, 1) := by decide +kernel
theorem dX9_takesStatement_146 : decode cX9_takesStatement 146 = .ok (.getfield 12, 3) := by decide +kernel
theorem dX9_takesStatement_149 : decode cX9_takesStatement 149 = .ok (.getfield 112, 3) := by decide +kernel
theorem dX9_takesStatement_152 : decode cX9_takesStatement 152 = .ok (.invokevirtual 71, 3) := by decide +kernel
theorem dX9_takesStatement_155 : decode cX9_takesStatement 155 = .ok (.ireturn, 1) := by decide +kernel
noncomputable def tX9_takesStatement_0 : List (Nat × zF) := [(0, (zla4 0 1)), (1, (zgf 9 0)), (4, (zgf 5 4)), (7, (zst 1 (zp (.int (2))))), (8, (z_ic_ne 21)), (11, (zla4 0 1)), (12, (zgf 9 0)), (15, (zgf 5 5)), (18, (zgt 22)), (21, (zst 1 (zp (.int ((-1)))))), (22, (zsi4 2 1 1)), (23, (zli4 1 1))]
theorem kX9_takesStatement_0 : ∀ q ∈ tX9_takesStatement_0, zOk zg iX9_takesStatement q.1 q.2 := (z_c (ok_aload_n dX9_takesStatement_0 rfl) (z_c (ok_getf (C := RX9) (T := TX9) (N := 4) rfl (by decide) zinX9 rfl zw_328 dX9_takesStatement_1) (z_c (ok_getf (C := RX5) (T := TX5) (N := 12) rfl (by decide) zinX5 rfl zw_352 dX9_takesStatement_4) (z_c (ok_iconst (v := (2)) dX9_takesStatement_7 (by decide)) (z_c (ok_icmp_ne dX9_takesStatement_8 (by decide)) (z_c (ok_aload_n dX9_takesStatement_11 rfl) (z_c (ok_getf (C := RX9) (T := TX9) (N := 4) rfl (by decide) zinX9 rfl zw_328 dX9_takesStatement_12) (z_c (ok_getf (C := RX5) (T := TX5) (N := 12) rfl (by decide) zinX5 rfl zw_368 dX9_takesStatement_15) (z_c (ok_goto dX9_takesStatement_18 (by decide)) (z_c (ok_iconst (v := (-1)) dX9_takesStatement_21 (by decide)) (z_c (ok_istore_n dX9_takesStatement_22 rfl) (z_c (ok_iload_n dX9_takesStatement_23 rfl) z_n))))))))))))
noncomputable def tX9_takesStatement_1 : List (Nat × zF) := [(24, (zts [(2, 92), (3, 97), (4, 102), (5, 107), (6, 140), (7, 140), (8, 140), (9, 112), (10, 117), (11, 140), (12, 122), (13, 128), (14, 134)] 140)), (92, (zla4 0 1)), (93, (zcv 89 0 9)), (96, (zri true)), (97, (zla4 0 1)), (98, (zcv 90 0 9)), (101, (zri true)), (102, (zla4 0 1)), (103, (zcv 91 0 9)), (106, (zri true)), (107, (zla4 0 1)), (108, (zcv 92 0 9))]
theorem kX9_takesStatement_1 : ∀ q ∈ tX9_takesStatement_1, zOk zg iX9_takesStatement q.1 q.2 := (z_c (ok_tsw dX9_takesStatement_24 (by decide) (by decide +kernel) (by decide +kernel) (by decide)) (z_c (ok_aload_n dX9_takesStatement_92 rfl) (z_c (ok_callV zcal_89 (q := (RX9, TX9, 4)) rfl zw_369 zw_370 zw_371 dX9_takesStatement_93) (z_c (ok_zreturn rfl dX9_takesStatement_96) (z_c (ok_aload_n dX9_takesStatement_97 rfl) (z_c (ok_callV zcal_90 (q := (RX9, TX9, 4)) rfl zw_372 zw_373 zw_374 dX9_takesStatement_98) (z_c (ok_zreturn rfl dX9_takesStatement_101) (z_c (ok_aload_n dX9_takesStatement_102 rfl) (z_c (ok_callV zcal_91 (q := (RX9, TX9, 4)) rfl zw_375 zw_376 zw_377 dX9_takesStatement_103) (z_c (ok_zreturn rfl dX9_takesStatement_106) (z_c (ok_aload_n dX9_takesStatement_107 rfl) (z_c (ok_callV zcal_92 (q := (RX9, TX9, 4)) rfl zw_378 zw_379 zw_380 dX9_takesStatement_108) z_n))))))))))))
noncomputable def tX9_takesStatement_2 : List (Nat × zF) := [(111, (zri true)), (112, (zla4 0 1)), (113, (zcv 93 0 9)), (116, (zri true)), (117, (zla4 0 1)), (118, (zcv 94 0 9)), (121, (zri true)), (122, (zla4 0 1)), (123, (zst 1 (zp (.int (0))))), (124, (zcv 95 1 9)), (127, (zri true)), (128, (zla4 0 1))]
theorem kX9_takesStatement_2 : ∀ q ∈ tX9_takesStatement_2, zOk zg iX9_takesStatement q.1 q.2 := (z_c (ok_zreturn rfl dX9_takesStatement_111) (z_c (ok_aload_n dX9_takesStatement_112 rfl) (z_c (ok_callV zcal_93 (q := (RX9, TX9, 4)) rfl zw_381 zw_382 zw_383 dX9_takesStatement_113) (z_c (ok_zreturn rfl dX9_takesStatement_116) (z_c (ok_aload_n dX9_takesStatement_117 rfl) (z_c (ok_callV zcal_94 (q := (RX9, TX9, 4)) rfl zw_384 zw_385 zw_386 dX9_takesStatement_118) (z_c (ok_zreturn rfl dX9_takesStatement_121) (z_c (ok_aload_n dX9_takesStatement_122 rfl) (z_c (ok_iconst (v := (0)) dX9_takesStatement_123 (by decide)) (z_c (ok_callV zcal_95 (q := (RX9, TX9, 4)) rfl zw_387 zw_388 zw_389 dX9_takesStatement_124) (z_c (ok_zreturn rfl dX9_takesStatement_127) (z_c (ok_aload_n dX9_takesStatement_128 rfl) z_n))))))))))))
noncomputable def tX9_takesStatement_3 : List (Nat × zF) := [(129, (zst 1 (zp (.int (1))))), (130, (zcv 95 1 9)), (133, (zri true)), (134, (zla4 0 1)), (135, (zst 1 (zp (.int (2))))), (136, (zcv 95 1 9)), (139, (zri true)), (140, (zla4 0 1)), (141, (zgf 9 0)), (144, (zst 1 (zp (.int (1))))), (145, (zla4 0 1)), (146, (zgf 9 0))]
theorem kX9_takesStatement_3 : ∀ q ∈ tX9_takesStatement_3, zOk zg iX9_takesStatement q.1 q.2 := (z_c (ok_iconst (v := (1)) dX9_takesStatement_129 (by decide)) (z_c (ok_callV zcal_95 (q := (RX9, TX9, 4)) rfl zw_387 zw_388 zw_389 dX9_takesStatement_130) (z_c (ok_zreturn rfl dX9_takesStatement_133) (z_c (ok_aload_n dX9_takesStatement_134 rfl) (z_c (ok_iconst (v := (2)) dX9_takesStatement_135 (by decide)) (z_c (ok_callV zcal_95 (q := (RX9, TX9, 4)) rfl zw_387 zw_388 zw_389 dX9_takesStatement_136) (z_c (ok_zreturn rfl dX9_takesStatement_139) (z_c (ok_aload_n dX9_takesStatement_140 rfl) (z_c (ok_getf (C := RX9) (T := TX9) (N := 4) rfl (by decide) zinX9 rfl zw_328 dX9_takesStatement_141) (z_c (ok_iconst (v := (1)) dX9_takesStatement_144 (by decide)) (z_c (ok_aload_n dX9_takesStatement_145 rfl) (z_c (ok_getf (C := RX9) (T := TX9) (N := 4) rfl (by decide) zinX9 rfl zw_328 dX9_takesStatement_146) z_n))))))))))))
noncomputable def tX9_takesStatement_4 : List (Nat × zF) := [(149, (zgf 5 7)), (152, (zcv 63 2 5)), (155, (zri true))]
theorem kX9_takesStatement_4 : ∀ q ∈ tX9_takesStatement_4, zOk zg iX9_takesStatement q.1 q.2 := (z_c (ok_getf (C := RX5) (T := TX5) (N := 12) rfl (by decide) zinX5 rfl zw_390 dX9_takesStatement_149) (z_c (ok_callV zcal_63 (q := (RX5, TX5, 12)) rfl zw_357 zw_274 zw_275 dX9_takesStatement_152) (z_c (ok_zreturn rfl dX9_takesStatement_155) z_n)))
noncomputable def tX9_takesStatement : zT := [(24, tX9_takesStatement_0), (111, tX9_takesStatement_1), (129, tX9_takesStatement_2), (149, tX9_takesStatement_3), (100000, tX9_takesStatement_4)]
theorem kX9_takesStatement : zTok zg iX9_takesStatement tX9_takesStatement := (z_t kX9_takesStatement_0 (z_t kX9_takesStatement_1 (z_t kX9_takesStatement_2 (z_t kX9_takesStatement_3 (z_t kX9_takesStatement_4 z_tn)))))
theorem dX9_takesPace_0 : decode cX9_takesPace 0 = .ok (.aload_n 0, 1) := by decide +kernel
theorem dX9_takesPace_1 : decode cX9_takesPace 1 = .ok (.getfield 12, 3) := by decide +kernel
theorem dX9_takesPace_4 : decode cX9_takesPace 4 = .ok (.invokevirtual 115, 3) := by decide +kernel
theorem dX9_takesPace_7 : decode cX9_takesPace 7 = .ok (.aload_n 0, 1) := by decide +kernel
theorem dX9_takesPace_8 : decode cX9_takesPace 8 = .ok (.getfield 12, 3) := by decide +kernel
theorem dX9_takesPace_11 : decode cX9_takesPace 11 = .ok (.iconst 1, 1) := by decide +kernel
theorem dX9_takesPace_12 : decode cX9_takesPace 12 = .ok (.bipush 9, 2) := by decide +kernel
theorem dX9_takesPace_14 : decode cX9_takesPace 14 = .ok (.invokevirtual 78, 3) := by decide +kernel
theorem dX9_takesPace_17 : decode cX9_takesPace 17 = .ok (.ifCond .ne 5, 3) := by decide +kernel
theorem dX9_takesPace_20 : decode cX9_takesPace 20 = .ok (.iconst 0, 1) := by decide +kernel
theorem dX9_takesPace_21 : decode cX9_takesPace 21 = .ok (.ireturn, 1) := by decide +kernel
theorem dX9_takesPace_22 : decode cX9_takesPace 22 = .ok (.aload_n 0, 1) := by decide +kernel
theorem dX9_takesPace_23 : decode cX9_takesPace 23 = .ok (.getfield 18, 3) := by decide +kernel
theorem dX9_takesPace_26 : decode cX9_takesPace 26 = .ok (.aload_n 0, 1) := by decide +kernel
theorem dX9_takesPace_27 : decode cX9_takesPace 27 = .ok (.getfield 12, 3) := by decide +kernel
theorem dX9_takesPace_30 : decode cX9_takesPace 30 = .ok (.getfield 81, 3) := by decide +kernel
theorem dX9_takesPace_33 : decode cX9_takesPace 33 = .ok (.putfield 118, 3) := by decide +kernel
theorem dX9_takesPace_36 : decode cX9_takesPace 36 = .ok (.iconst 1, 1) := by decide +kernel
theorem dX9_takesPace_37 : decode cX9_takesPace 37 = .ok (.ireturn, 1) := by decide +kernel
noncomputable def tX9_takesPace_0 : List (Nat × zF) := [(0, (zla4 0 1)), (1, (zgf 9 0)), (4, (zcv 58 0 5)), (7, (zla4 0 1)), (8, (zgf 9 0)), (11, (zst 1 (zp (.int (1))))), (12, (zst 2 (zp (.int (9))))), (14, (zcv 67 2 5)), (17, (z_if_ne 22)), (20, (zst 1 (zp (.int (0))))), (21, (zri true)), (22, (zla4 0 1))]
theorem kX9_takesPace_0 : ∀ q ∈ tX9_takesPace_0, zOk zg iX9_takesPace q.1 q.2 := (z_c (ok_aload_n dX9_takesPace_0 rfl) (z_c (ok_getf (C := RX9) (T := TX9) (N := 4) rfl (by decide) zinX9 rfl zw_328 dX9_takesPace_1) (z_c (ok_callV zcal_58 (q := (RX5, TX5, 12)) rfl zw_391 zw_259 zw_260 dX9_takesPace_4) (z_c (ok_aload_n dX9_takesPace_7 rfl) (z_c (ok_getf (C := RX9) (T := TX9) (N := 4) rfl (by decide) zinX9 rfl zw_328 dX9_takesPace_8) (z_c (ok_iconst (v := (1)) dX9_takesPace_11 (by decide)) (z_c (ok_bipush (v := (9)) dX9_takesPace_12 (by decide)) (z_c (ok_callV zcal_67 (q := (RX5, TX5, 12)) rfl zw_361 zw_362 zw_363 dX9_takesPace_14) (z_c (ok_if_ne dX9_takesPace_17 (by decide)) (z_c (ok_iconst (v := (0)) dX9_takesPace_20 (by decide)) (z_c (ok_zreturn rfl dX9_takesPace_21) (z_c (ok_aload_n dX9_takesPace_22 rfl) z_n))))))))))))
noncomputable def tX9_takesPace_1 : List (Nat × zF) := [(23, (zgf 9 2)), (26, (zla4 0 1)), (27, (zgf 9 0)), (30, (zgf 5 8)), (33, (zpf 4 3 (.int))), (36, (zst 1 (zp (.int (1))))), (37, (zri true))]
theorem kX9_takesPace_1 : ∀ q ∈ tX9_takesPace_1, zOk zg iX9_takesPace q.1 q.2 := (z_c (ok_getf (C := RX9) (T := TX9) (N := 4) rfl (by decide) zinX9 rfl zw_329 dX9_takesPace_23) (z_c (ok_aload_n dX9_takesPace_26 rfl) (z_c (ok_getf (C := RX9) (T := TX9) (N := 4) rfl (by decide) zinX9 rfl zw_328 dX9_takesPace_27) (z_c (ok_getf (C := RX5) (T := TX5) (N := 12) rfl (by decide) zinX5 rfl zw_364 dX9_takesPace_30) (z_c (ok_putf (C := RX4) (T := TX4) (N := 18) false tyX4 tyX4_ok nmX4 rfl (by decide) zinX4 rfl zw_392 rfl (fun h => absurd h (by decide)) rfl dX9_takesPace_33) (z_c (ok_iconst (v := (1)) dX9_takesPace_36 (by decide)) (z_c (ok_zreturn rfl dX9_takesPace_37) z_n)))))))
noncomputable def tX9_takesPace : zT := [(23, tX9_takesPace_0), (100000, tX9_takesPace_1)]
theorem kX9_takesPace : zTok zg iX9_takesPace tX9_takesPace := (z_t kX9_takesPace_0 (z_t kX9_takesPace_1 z_tn))
theorem dX9_takesGale_0 : decode cX9_takesGale 0 = .ok (.aload_n 0, 1) := by decide +kernel
theorem dX9_takesGale_1 : decode cX9_takesGale 1 = .ok (.getfield 12, 3) := by decide +kernel
theorem dX9_takesGale_4 : decode cX9_takesGale 4 = .ok (.invokevirtual 115, 3) := by decide +kernel
theorem dX9_takesGale_7 : decode cX9_takesGale 7 = .ok (.aload_n 0, 1) := by decide +kernel
theorem dX9_takesGale_8 : decode cX9_takesGale 8 = .ok (.getfield 12, 3) := by decide +kernel
theorem dX9_takesGale_11 : decode cX9_takesGale 11 = .ok (.iconst 0, 1) := by decide +kernel
theorem dX9_takesGale_12 : decode cX9_takesGale 12 = .ok (.bipush 100, 2) := by decide +kernel
theorem dX9_takesGale_14 : decode cX9_takesGale 14 = .ok (.invokevirtual 78, 3) := by decide +kernel
theorem dX9_takesGale_17 : decode cX9_takesGale 17 = .ok (.ifCond .ne 5, 3) := by decide +kernel
theorem dX9_takesGale_20 : decode cX9_takesGale 20 = .ok (.iconst 0, 1) := by decide +kernel
theorem dX9_takesGale_21 : decode cX9_takesGale 21 = .ok (.ireturn, 1) := by decide +kernel
theorem dX9_takesGale_22 : decode cX9_takesGale 22 = .ok (.aload_n 0, 1) := by decide +kernel
theorem dX9_takesGale_23 : decode cX9_takesGale 23 = .ok (.getfield 18, 3) := by decide +kernel
theorem dX9_takesGale_26 : decode cX9_takesGale 26 = .ok (.aload_n 0, 1) := by decide +kernel
theorem dX9_takesGale_27 : decode cX9_takesGale 27 = .ok (.getfield 12, 3) := by decide +kernel
theorem dX9_takesGale_30 : decode cX9_takesGale 30 = .ok (.getfield 81, 3) := by decide +kernel
theorem dX9_takesGale_33 : decode cX9_takesGale 33 = .ok (.putfield 121, 3) := by decide +kernel
theorem dX9_takesGale_36 : decode cX9_takesGale 36 = .ok (.iconst 1, 1) := by decide +kernel
theorem dX9_takesGale_37 : decode cX9_takesGale 37 = .ok (.ireturn, 1) := by decide +kernel
noncomputable def tX9_takesGale_0 : List (Nat × zF) := [(0, (zla4 0 1)), (1, (zgf 9 0)), (4, (zcv 58 0 5)), (7, (zla4 0 1)), (8, (zgf 9 0)), (11, (zst 1 (zp (.int (0))))), (12, (zst 2 (zp (.int (100))))), (14, (zcv 67 2 5)), (17, (z_if_ne 22)), (20, (zst 1 (zp (.int (0))))), (21, (zri true)), (22, (zla4 0 1))]
theorem kX9_takesGale_0 : ∀ q ∈ tX9_takesGale_0, zOk zg iX9_takesGale q.1 q.2 := (z_c (ok_aload_n dX9_takesGale_0 rfl) (z_c (ok_getf (C := RX9) (T := TX9) (N := 4) rfl (by decide) zinX9 rfl zw_328 dX9_takesGale_1) (z_c (ok_callV zcal_58 (q := (RX5, TX5, 12)) rfl zw_391 zw_259 zw_260 dX9_takesGale_4) (z_c (ok_aload_n dX9_takesGale_7 rfl) (z_c (ok_getf (C := RX9) (T := TX9) (N := 4) rfl (by decide) zinX9 rfl zw_328 dX9_takesGale_8) (z_c (ok_iconst (v := (0)) dX9_takesGale_11 (by decide)) (z_c (ok_bipush (v := (100)) dX9_takesGale_12 (by decide)) (z_c (ok_callV zcal_67 (q := (RX5, TX5, 12)) rfl zw_361 zw_362 zw_363 dX9_takesGale_14) (z_c (ok_if_ne dX9_takesGale_17 (by decide)) (z_c (ok_iconst (v := (0)) dX9_takesGale_20 (by decide)) (z_c (ok_zreturn rfl dX9_takesGale_21) (z_c (ok_aload_n dX9_takesGale_22 rfl) z_n))))))))))))
noncomputable def tX9_takesGale_1 : List (Nat × zF) := [(23, (zgf 9 2)), (26, (zla4 0 1)), (27, (zgf 9 0)), (30, (zgf 5 8)), (33, (zpf 4 4 (.int))), (36, (zst 1 (zp (.int (1))))), (37, (zri true))]
theorem kX9_takesGale_1 : ∀ q ∈ tX9_takesGale_1, zOk zg iX9_takesGale q.1 q.2 := (z_c (ok_getf (C := RX9) (T := TX9) (N := 4) rfl (by decide) zinX9 rfl zw_329 dX9_takesGale_23) (z_c (ok_aload_n dX9_takesGale_26 rfl) (z_c (ok_getf (C := RX9) (T := TX9) (N := 4) rfl (by decide) zinX9 rfl zw_328 dX9_takesGale_27) (z_c (ok_getf (C := RX5) (T := TX5) (N := 12) rfl (by decide) zinX5 rfl zw_364 dX9_takesGale_30) (z_c (ok_putf (C := RX4) (T := TX4) (N := 18) false tyX4 tyX4_ok nmX4 rfl (by decide) zinX4 rfl zw_393 rfl (fun h => absurd h (by decide)) rfl dX9_takesGale_33) (z_c (ok_iconst (v := (1)) dX9_takesGale_36 (by decide)) (z_c (ok_zreturn rfl dX9_takesGale_37) z_n)))))))
noncomputable def tX9_takesGale : zT := [(23, tX9_takesGale_0), (100000, tX9_takesGale_1)]
theorem kX9_takesGale : zTok zg iX9_takesGale tX9_takesGale := (z_t kX9_takesGale_0 (z_t kX9_takesGale_1 z_tn))
theorem dX9_takesWall_0 : decode cX9_takesWall 0 = .ok (.aload_n 0, 1) := by decide +kernel
theorem dX9_takesWall_1 : decode cX9_takesWall 1 = .ok (.getfield 12, 3) := by decide +kernel
theorem dX9_takesWall_4 : decode cX9_takesWall 4 = .ok (.invokevirtual 115, 3) := by decide +kernel
theorem dX9_takesWall_7 : decode cX9_takesWall 7 = .ok (.aload_n 0, 1) := by decide +kernel
theorem dX9_takesWall_8 : decode cX9_takesWall 8 = .ok (.aload_n 0, 1) := by decide +kernel
theorem dX9_takesWall_9 : decode cX9_takesWall 9 = .ok (.getfield 18, 3) := by decide +kernel
theorem dX9_takesWall_12 : decode cX9_takesWall 12 = .ok (.invokevirtual 124, 3) := by decide +kernel
theorem dX9_takesWall_15 : decode cX9_takesWall 15 = .ok (.invokevirtual 127, 3) := by decide +kernel
theorem dX9_takesWall_18 : decode cX9_takesWall 18 = .ok (.ifCond .ne 5, 3) := by decide +kernel
theorem dX9_takesWall_21 : decode cX9_takesWall 21 = .ok (.iconst 0, 1) := by decide +kernel
theorem dX9_takesWall_22 : decode cX9_takesWall 22 = .ok (.ireturn, 1) := by decide +kernel
theorem dX9_takesWall_23 : decode cX9_takesWall 23 = .ok (.aload_n 0, 1) := by decide +kernel
theorem dX9_takesWall_24 : decode cX9_takesWall 24 = .ok (.getfield 18, 3) := by decide +kernel
theorem dX9_takesWall_27 : decode cX9_takesWall 27 = .ok (.dup, 1) := by decide +kernel
theorem dX9_takesWall_28 : decode cX9_takesWall 28 = .ok (.getfield 131, 3) := by decide +kernel
theorem dX9_takesWall_31 : decode cX9_takesWall 31 = .ok (.aload_n 0, 1) := by decide +kernel
theorem dX9_takesWall_32 : decode cX9_takesWall 32 = .ok (.getfield 135, 3) := by decide +kernel
theorem dX9_takesWall_35 : decode cX9_takesWall 35 = .ok (.invokestatic 138, 3) := by decide +kernel
theorem dX9_takesWall_38 : decode cX9_takesWall 38 = .ok (.lor, 1) := by decide +kernel
theorem dX9_takesWall_39 : decode cX9_takesWall 39 = .ok (.putfield 131, 3) := by decide +kernel
theorem dX9_takesWall_42 : decode cX9_takesWall 42 = .ok (.iconst 1, 1) := by decide +kernel
theorem dX9_takesWall_43 : decode cX9_takesWall 43 = .ok (.ireturn, 1) := by decide +kernel
noncomputable def tX9_takesWall_0 : List (Nat × zF) := [(0, (zla4 0 1)), (1, (zgf 9 0)), (4, (zcv 58 0 5)), (7, (zla4 0 1)), (8, (zla4 0 1)), (9, (zgf 9 2)), (12, (zcv 53 0 4)), (15, (zcv 97 1 9)), (18, (z_if_ne 23)), (21, (zst 1 (zp (.int (0))))), (22, (zri true)), (23, (zla4 0 1))]
theorem kX9_takesWall_0 : ∀ q ∈ tX9_takesWall_0, zOk zg iX9_takesWall q.1 q.2 := (z_c (ok_aload_n dX9_takesWall_0 rfl) (z_c (ok_getf (C := RX9) (T := TX9) (N := 4) rfl (by decide) zinX9 rfl zw_328 dX9_takesWall_1) (z_c (ok_callV zcal_58 (q := (RX5, TX5, 12)) rfl zw_391 zw_259 zw_260 dX9_takesWall_4) (z_c (ok_aload_n dX9_takesWall_7 rfl) (z_c (ok_aload_n dX9_takesWall_8 rfl) (z_c (ok_getf (C := RX9) (T := TX9) (N := 4) rfl (by decide) zinX9 rfl zw_329 dX9_takesWall_9) (z_c (ok_callV zcal_53 (q := (RX4, TX4, 18)) rfl zw_394 zw_395 zw_396 dX9_takesWall_12) (z_c (ok_callV zcal_97 (q := (RX9, TX9, 4)) rfl zw_397 zw_398 zw_399 dX9_takesWall_15) (z_c (ok_if_ne dX9_takesWall_18 (by decide)) (z_c (ok_iconst (v := (0)) dX9_takesWall_21 (by decide)) (z_c (ok_zreturn rfl dX9_takesWall_22) (z_c (ok_aload_n dX9_takesWall_23 rfl) z_n))))))))))))
noncomputable def tX9_takesWall_1 : List (Nat × zF) := [(24, (zgf 9 2)), (27, (zst 1 zdu)), (28, (zgf 4 6)), (31, (zla4 0 1)), (32, (zgf 9 3)), (35, (zcs 163 1)), (38, (zst 1 z_lor)), (39, (zpf 4 6 (.long))), (42, (zst 1 (zp (.int (1))))), (43, (zri true))]
theorem kX9_takesWall_1 : ∀ q ∈ tX9_takesWall_1, zOk zg iX9_takesWall q.1 q.2 := (z_c (ok_getf (C := RX9) (T := TX9) (N := 4) rfl (by decide) zinX9 rfl zw_329 dX9_takesWall_24) (z_c (ok_dup dX9_takesWall_27) (z_c (ok_getf (C := RX4) (T := TX4) (N := 18) rfl (by decide) zinX4 rfl zw_400 dX9_takesWall_28) (z_c (ok_aload_n dX9_takesWall_31 rfl) (z_c (ok_getf (C := RX9) (T := TX9) (N := 4) rfl (by decide) zinX9 rfl zw_401 dX9_takesWall_32) (z_c (ok_callSN zcal_163 zx_nest_12 zw_54 dX9_takesWall_35) (z_c (ok_lor dX9_takesWall_38) (z_c (ok_putf (C := RX4) (T := TX4) (N := 18) false tyX4 tyX4_ok nmX4 rfl (by decide) zinX4 rfl zw_400 rfl (fun h => absurd h (by decide)) rfl dX9_takesWall_39) (z_c (ok_iconst (v := (1)) dX9_takesWall_42 (by decide)) (z_c (ok_zreturn rfl dX9_takesWall_43) z_n))))))))))
noncomputable def tX9_takesWall : zT := [(24, tX9_takesWall_0), (100000, tX9_takesWall_1)]
theorem kX9_takesWall : zTok zg iX9_takesWall tX9_takesWall := (z_t kX9_takesWall_0 (z_t kX9_takesWall_1 z_tn))
theorem dX9_takesLack_0 : decode cX9_takesLack 0 = .ok (.aload_n 0, 1) := by decide +kernel
theorem dX9_takesLack_1 : decode cX9_takesLack 1 = .ok (.getfield 18, 3) := by decide +kernel
theorem dX9_takesLack_4 : decode cX9_takesLack 4 = .ok (.getfield 142, 3) := by decide +kernel
theorem dX9_takesLack_7 : decode cX9_takesLack 7 = .ok (.istore_n 1, 1) := by decide +kernel
theorem dX9_takesLack_8 : decode cX9_takesLack 8 = .ok (.iload_n 1, 1) := by decide +kernel
theorem dX9_takesLack_9 : decode cX9_takesLack 9 = .ok (.bipush 9, 2) := by decide +kernel
theorem dX9_takesLack_11 : decode cX9_takesLack 11 = .ok (.if_icmp .lt 20, 3) := by decide +kernel
theorem dX9_takesLack_14 : decode cX9_takesLack 14 = .ok (.aload_n 0, 1) := by decide +kernel
theorem dX9_takesLack_15 : decode cX9_takesLack 15 = .ok (.getfield 12, 3) := by decide +kernel
theorem dX9_takesLack_18 : decode cX9_takesLack 18 = .ok (.bipush 6, 2) := by decide +kernel
theorem dX9_takesLack_20 : decode cX9_takesLack 20 = .ok (.aload_n 0, 1) := by decide +kernel
theorem dX9_takesLack_21 : decode cX9_takesLack 21 = .ok (.getfield 12, 3) := by decide +kernel
theorem dX9_takesLack_24 : decode cX9_takesLack 24 = .ok (.getfield 68, 3) := by decide +kernel
theorem dX9_takesLack_27 : decode cX9_takesLack 27 = .ok (.invokevirtual 71, 3) := by decide +kernel
theorem dX9_takesLack_30 : decode cX9_takesLack 30 = .ok (.ireturn, 1) := by decide +kernel
theorem dX9_takesLack_31 : decode cX9_takesLack 31 = .ok (.aload_n 0, 1) := by decide +kernel
theorem dX9_takesLack_32 : decode cX9_takesLack 32 = .ok (.getfield 12, 3) := by decide +kernel
theorem dX9_takesLack_35 : decode cX9_takesLack 35 = .ok (.invokevirtual 115, 3) := by decide +kernel
theorem dX9_takesLack_38 : decode cX9_takesLack 38 = .ok (.aload_n 0, 1) := by decide +kernel
theorem dX9_takesLack_39 : decode cX9_takesLack 39 = .ok (.invokevirtual 145, 3) := by decide +kernel
theorem dX9_takesLack_42 : decode cX9_takesLack 42 = .ok (.ifCond .ne 5, 3) := by decide +kernel
theorem dX9_takesLack_45 : decode cX9_takesLack 45 = .ok (.iconst 0, 1) := by decide +kernel
theorem dX9_takesLack_46 : decode cX9_takesLack 46 = .ok (.ireturn, 1) := by decide +kernel
theorem dX9_takesLack_47 : decode cX9_takesLack 47 = .ok (.aload_n 0, 1) := by decide +kernel
theorem dX9_takesLack_48 : decode cX9_takesLack 48 = .ok (.getfield 18, 3) := by decide +kernel
theorem dX9_takesLack_51 : decode cX9_takesLack 51 = .ok (.getfield 148, 3) := by decide +kernel
theorem dX9_takesLack_54 : decode cX9_takesLack 54 = .ok (.iload_n 1, 1) := by decide +kernel
theorem dX9_takesLack_55 : decode cX9_takesLack 55 = .ok (.aload_n 0, 1) := by decide +kernel
theorem dX9_takesLack_56 : decode cX9_takesLack 56 = .ok (.getfield 12, 3) := by decide +kernel
theorem dX9_takesLack_59 : decode cX9_takesLack 59 = .ok (.getfield 81, 3) := by decide +kernel
theorem dX9_takesLack_62 : decode cX9_takesLack 62 = .ok (.iastore, 1) := by decide +kernel
theorem dX9_takesLack_63 : decode cX9_takesLack 63 = .ok (.aload_n 0, 1) := by decide +kernel
theorem dX9_takesLack_64 : decode cX9_takesLack 64 = .ok (.getfield 12, 3) := by decide +kernel
theorem dX9_takesLack_67 : decode cX9_takesLack 67 = .ok (.bipush 6, 2) := by decide +kernel
theorem dX9_takesLack_69 : decode cX9_takesLack 69 = .ok (.invokevirtual 75, 3) := by decide +kernel
theorem dX9_takesLack_72 : decode cX9_takesLack 72 = .ok (.ifCond .eq 17, 3) := by decide +kernel
theorem dX9_takesLack_75 : decode cX9_takesLack 75 = .ok (.aload_n 0, 1) := by decide +kernel
theorem dX9_takesLack_76 : decode cX9_takesLack 76 = .ok (.aload_n 0, 1) := by decide +kernel
theorem dX9_takesLack_77 : decode cX9_takesLack 77 = .ok (.getfield 18, 3) := by decide +kernel
theorem dX9_takesLack_80 : decode cX9_takesLack 80 = .ok (.getfield 131, 3) := by decide +kernel
theorem dX9_takesLack_83 : decode cX9_takesLack 83 = .ok (.invokevirtual 127, 3) := by decide +kernel
theorem dX9_takesLack_86 : decode cX9_takesLack 86 = .ok (.ifCond .ne 5, 3) := by decide +kernel
theorem dX9_takesLack_89 : decode cX9_takesLack 89 = .ok (.iconst 0, 1) := by decide +kernel
theorem dX9_takesLack_90 : decode cX9_takesLack 90 = .ok (.ireturn, 1) := by decide +kernel
theorem dX9_takesLack_91 : decode cX9_takesLack 91 = .ok (.aload_n 0, 1) := by decide +kernel
theorem dX9_takesLack_92 : decode cX9_takesLack 92 = .ok (.getfield 18, 3) := by decide +kernel
theorem dX9_takesLack_95 : decode cX9_takesLack 95 = .ok (.getfield 152, 3) := by decide +kernel
theorem dX9_takesLack_98 : decode cX9_takesLack 98 = .ok (.iload_n 1, 1) := by decide +kernel
theorem dX9_takesLack_99 : decode cX9_takesLack 99 = .ok (.aload_n 0, 1) := by decide +kernel
theorem dX9_takesLack_100 : decode cX9_takesLack 100 = .ok (.getfield 135, 3) := by decide +kernel
theorem dX9_takesLack_103 : decode cX9_takesLack 103 = .ok (.iastore, 1) := by decide +kernel
theorem dX9_takesLack_104 : decode cX9_takesLack 104 = .ok (.aload_n 0, 1) := by decide +kernel
theorem dX9_takesLack_105 : decode cX9_takesLack 105 = .ok (.getfield 12, 3) := by decide +kernel
theorem dX9_takesLack_108 : decode cX9_takesLack 108 = .ok (.bipush 7, 2) := by decide +kernel
theorem dX9_takesLack_110 : decode cX9_takesLack 110 = .ok (.invokevirtual 75, 3) := by decide +kernel
theorem dX9_takesLack_113 : decode cX9_takesLack 113 = .ok (.ifCond .eq 16, 3) := by decide +kernel
theorem dX9_takesLack_116 : decode cX9_takesLack 116 = .ok (.aload_n 0, 1) := by decide +kernel
theorem dX9_takesLack_117 : decode cX9_takesLack 117 = .ok (.getfield 12, 3) := by decide +kernel
theorem dX9_takesLack_120 : decode cX9_takesLack 120 = .ok (.iconst 1, 1) := by decide +kernel
theorem dX9_takesLack_121 : decode cX9_takesLack 121 = .ok (.bipush 9, 2) := by decide +kernel
theorem dX9_takesLack_123 : decode cX9_takesLack 123 = .ok (.invokevirtual 78, 3) := by decide +kernel
theorem dX9_takesLack_126 : decode cX9_takesLack 126 = .ok (.ifCond .ne 5, 3) := by decide +kernel
theorem dX9_takesLack_129 : decode cX9_takesLack 129 = .ok (.iconst 0, 1) := by decide +kernel
theorem dX9_takesLack_130 : decode cX9_takesLack 130 = .ok (.ireturn, 1) := by decide +kernel
theorem dX9_takesLack_131 : decode cX9_takesLack 131 = .ok (.aload_n 0, 1) := by decide +kernel
theorem dX9_takesLack_132 : decode cX9_takesLack 132 = .ok (.getfield 18, 3) := by decide +kernel
theorem dX9_takesLack_135 : decode cX9_takesLack 135 = .ok (.getfield 155, 3) := by decide +kernel
theorem dX9_takesLack_138 : decode cX9_takesLack 138 = .ok (.iload_n 1, 1) := by decide +kernel
theorem dX9_takesLack_139 : decode cX9_takesLack 139 = .ok (.aload_n 0, 1) := by decide +kernel
theorem dX9_takesLack_140 : decode cX9_takesLack 140 = .ok (.getfield 12, 3) := by decide +kernel
theorem dX9_takesLack_143 : decode cX9_takesLack 143 = .ok (.getfield 81, 3) := by decide +kernel
theorem dX9_takesLack_146 : decode cX9_takesLack 146 = .ok (.iastore, 1) := by decide +kernel
theorem dX9_takesLack_147 : decode cX9_takesLack 147 = .ok (.aload_n 0, 1) := by decide +kernel
theorem dX9_takesLack_148 : decode cX9_takesLack 148 = .ok (.getfield 12, 3) := by decide +kernel
theorem dX9_takesLack_151 : decode cX9_takesLack 151 = .ok (.bipush 8, 2) := by decide +kernel
theorem dX9_takesLack_153 : decode cX9_takesLack 153 = .ok (.invokevirtual 75, 3) := by decide +kernel
theorem dX9_takesLack_156 : decode cX9_takesLack 156 = .ok (.ifCond .eq 16, 3) := by decide +kernel
theorem dX9_takesLack_159 : decode cX9_takesLack 159 = .ok (.aload_n 0, 1) := by decide +kernel
theorem dX9_takesLack_160 : decode cX9_takesLack 160 = .ok (.getfield 12, 3) := by decide +kernel
theorem dX9_takesLack_163 : decode cX9_takesLack 163 = .ok (.iconst 0, 1) := by decide +kernel
theorem dX9_takesLack_164 : decode cX9_takesLack 164 = .ok (.bipush 9, 2) := by decide +kernel
theorem dX9_takesLack_166 : decode cX9_takesLack 166 = .ok (.invokevirtual 78, 3) := by decide +kernel
theorem dX9_takesLack_169 : decode cX9_takesLack 169 = .ok (.ifCond .ne 5, 3) := by decide +kernel
theorem dX9_takesLack_172 : decode cX9_takesLack 172 = .ok (.iconst 0, 1) := by decide +kernel
theorem dX9_takesLack_173 : decode cX9_takesLack 173 = .ok (.ireturn, 1) := by decide +kernel
theorem dX9_takesLack_174 : decode cX9_takesLack 174 = .ok (.aload_n 0, 1) := by decide +kernel
theorem dX9_takesLack_175 : decode cX9_takesLack 175 = .ok (.getfield 18, 3) := by decide +kernel
theorem dX9_takesLack_178 : decode cX9_takesLack 178 = .ok (.getfield 158, 3) := by decide +kernel
theorem dX9_takesLack_181 : decode cX9_takesLack 181 = .ok (.iload_n 1, 1) := by decide +kernel
theorem dX9_takesLack_182 : decode cX9_takesLack 182 = .ok (.aload_n 0, 1) := by decide +kernel
theorem dX9_takesLack_183 : decode cX9_takesLack 183 = .ok (.getfield 12, 3) := by decide +kernel
theorem dX9_takesLack_186 : decode cX9_takesLack 186 = .ok (.getfield 81, 3) := by decide +kernel
theorem dX9_takesLack_189 : decode cX9_takesLack 189 = .ok (.iastore, 1) := by decide +kernel
theorem dX9_takesLack_190 : decode cX9_takesLack 190 = .ok (.aload_n 0, 1) := by decide +kernel
theorem dX9_takesLack_191 : decode cX9_takesLack 191 = .ok (.getfield 18, 3) := by decide +kernel
theorem dX9_takesLack_194 : decode cX9_takesLack 194 = .ok (.dup, 1) := by decide +kernel
theorem dX9_takesLack_195 : decode cX9_takesLack 195 = .ok (.getfield 161, 3) := by decide +kernel
theorem dX9_takesLack_198 : decode cX9_takesLack 198 = .ok (.iconst 1, 1) := by decide +kernel
theorem dX9_takesLack_199 : decode cX9_takesLack 199 = .ok (.iload_n 1, 1) := by decide +kernel
theorem dX9_takesLack_200 : decode cX9_takesLack 200 = .ok (.ishl, 1) := by decide +kernel
theorem dX9_takesLack_201 : decode cX9_takesLack 201 = .ok (.ior, 1) := by decide +kernel
theorem dX9_takesLack_202 : decode cX9_takesLack 202 = .ok (.putfield 161, 3) := by decide +kernel
theorem dX9_takesLack_205 : decode cX9_takesLack 205 = .ok (.aload_n 0, 1) := by decide +kernel
theorem dX9_takesLack_206 : decode cX9_takesLack 206 = .ok (.getfield 18, 3) := by decide +kernel
theorem dX9_takesLack_209 : decode cX9_takesLack 209 = .ok (.iload_n 1, 1) := by decide +kernel
theorem dX9_takesLack_210 : decode cX9_takesLack 210 = .ok (.iconst 1, 1) := by decide +kernel
theorem dX9_takesLack_211 : decode cX9_takesLack 211 = .ok (.iadd, 1) := by decide +kernel
theorem dX9_takesLack_212 : decode cX9_takesLack 212 = .ok (.putfield 142, 3) := by decide +kernel
theorem dX9_takesLack_215 : decode cX9_takesLack 215 = .ok (.iconst 1, 1) := by decide +kernel
theorem dX9_takesLack_216 : decode cX9_takesLack 216 = .ok (.ireturn, 1) := by decide +kernel
noncomputable def tX9_takesLack_0 : List (Nat × zF) := [(0, (zla4 0 1)), (1, (zgf 9 2)), (4, (zgf 4 7)), (7, (zsi4 2 1 1)), (8, (zli4 1 1)), (9, (zst 2 (zp (.int (9))))), (11, (z_ic_lt 31)), (14, (zla4 0 1)), (15, (zgf 9 0)), (18, (zst 2 (zp (.int (6))))), (20, (zla4 0 1)), (21, (zgf 9 0))]
theorem kX9_takesLack_0 : ∀ q ∈ tX9_takesLack_0, zOk zg iX9_takesLack q.1 q.2 := (z_c (ok_aload_n dX9_takesLack_0 rfl) (z_c (ok_getf (C := RX9) (T := TX9) (N := 4) rfl (by decide) zinX9 rfl zw_329 dX9_takesLack_1) (z_c (ok_getf (C := RX4) (T := TX4) (N := 18) rfl (by decide) zinX4 rfl zw_402 dX9_takesLack_4) (z_c (ok_istore_n dX9_takesLack_7 rfl) (z_c (ok_iload_n dX9_takesLack_8 rfl) (z_c (ok_bipush (v := (9)) dX9_takesLack_9 (by decide)) (z_c (ok_icmp_lt dX9_takesLack_11 (by decide)) (z_c (ok_aload_n dX9_takesLack_14 rfl) (z_c (ok_getf (C := RX9) (T := TX9) (N := 4) rfl (by decide) zinX9 rfl zw_328 dX9_takesLack_15) (z_c (ok_bipush (v := (6)) dX9_takesLack_18 (by decide)) (z_c (ok_aload_n dX9_takesLack_20 rfl) (z_c (ok_getf (C := RX9) (T := TX9) (N := 4) rfl (by decide) zinX9 rfl zw_328 dX9_takesLack_21) z_n))))))))))))
noncomputable def tX9_takesLack_1 : List (Nat × zF) := [(24, (zgf 5 6)), (27, (zcv 63 2 5)), (30, (zri true)), (31, (zla4 0 1)), (32, (zgf 9 0)), (35, (zcv 58 0 5)), (38, (zla4 0 1)), (39, (zcv 96 0 9)), (42, (z_if_ne 47)), (45, (zst 1 (zp (.int (0))))), (46, (zri true)), (47, (zla4 0 1))]
theorem kX9_takesLack_1 : ∀ q ∈ tX9_takesLack_1, zOk zg iX9_takesLack q.1 q.2 := (z_c (ok_getf (C := RX5) (T := TX5) (N := 12) rfl (by decide) zinX5 rfl zw_356 dX9_takesLack_24) (z_c (ok_callV zcal_63 (q := (RX5, TX5, 12)) rfl zw_357 zw_274 zw_275 dX9_takesLack_27) (z_c (ok_zreturn rfl dX9_takesLack_30) (z_c (ok_aload_n dX9_takesLack_31 rfl) (z_c (ok_getf (C := RX9) (T := TX9) (N := 4) rfl (by decide) zinX9 rfl zw_328 dX9_takesLack_32) (z_c (ok_callV zcal_58 (q := (RX5, TX5, 12)) rfl zw_391 zw_259 zw_260 dX9_takesLack_35) (z_c (ok_aload_n dX9_takesLack_38 rfl) (z_c (ok_callV zcal_96 (q := (RX9, TX9, 4)) rfl zw_403 zw_404 zw_405 dX9_takesLack_39) (z_c (ok_if_ne dX9_takesLack_42 (by decide)) (z_c (ok_iconst (v := (0)) dX9_takesLack_45 (by decide)) (z_c (ok_zreturn rfl dX9_takesLack_46) (z_c (ok_aload_n dX9_takesLack_47 rfl) z_n))))))))))))
noncomputable def tX9_takesLack_2 : List (Nat × zF) := [(48, (zgf 9 2)), (51, (zgf 4 8)), (54, (zli4 1 1)), (55, (zla4 0 1)), (56, (zgf 9 0)), (59, (zgf 5 8)), (62, (zas 0)), (63, (zla4 0 1)), (64, (zgf 9 0)), (67, (zst 2 (zp (.int (6))))), (69, (zcv 64 1 5)), (72, (z_if_eq 89))]
theorem kX9_takesLack_2 : ∀ q ∈ tX9_takesLack_2, zOk zg iX9_takesLack q.1 q.2 := (z_c (ok_getf (C := RX9) (T := TX9) (N := 4) rfl (by decide) zinX9 rfl zw_329 dX9_takesLack_48) (z_c (ok_getf (C := RX4) (T := TX4) (N := 18) rfl (by decide) zinX4 rfl zw_406 dX9_takesLack_51) (z_c (ok_iload_n dX9_takesLack_54 rfl) (z_c (ok_aload_n dX9_takesLack_55 rfl) (z_c (ok_getf (C := RX9) (T := TX9) (N := 4) rfl (by decide) zinX9 rfl zw_328 dX9_takesLack_56) (z_c (ok_getf (C := RX5) (T := TX5) (N := 12) rfl (by decide) zinX5 rfl zw_364 dX9_takesLack_59) (z_c (ok_iastore rfl dX9_takesLack_62) (z_c (ok_aload_n dX9_takesLack_63 rfl) (z_c (ok_getf (C := RX9) (T := TX9) (N := 4) rfl (by decide) zinX9 rfl zw_328 dX9_takesLack_64) (z_c (ok_bipush (v := (6)) dX9_takesLack_67 (by decide)) (z_c (ok_callV zcal_64 (q := (RX5, TX5, 12)) rfl zw_358 zw_359 zw_360 dX9_takesLack_69) (z_c (ok_if_eq dX9_takesLack_72 (by decide)) z_n))))))))))))
noncomputable def tX9_takesLack_3 : List (Nat × zF) := [(75, (zla4 0 1)), (76, (zla4 0 1)), (77, (zgf 9 2)), (80, (zgf 4 6)), (83, (zcv 97 1 9)), (86, (z_if_ne 91)), (89, (zst 1 (zp (.int (0))))), (90, (zri true)), (91, (zla4 0 1)), (92, (zgf 9 2)), (95, (zgf 4 9)), (98, (zli4 1 1))]
theorem kX9_takesLack_3 : ∀ q ∈ tX9_takesLack_3, zOk zg iX9_takesLack q.1 q.2 := (z_c (ok_aload_n dX9_takesLack_75 rfl) (z_c (ok_aload_n dX9_takesLack_76 rfl) (z_c (ok_getf (C := RX9) (T := TX9) (N := 4) rfl (by decide) zinX9 rfl zw_329 dX9_takesLack_77) (z_c (ok_getf (C := RX4) (T := TX4) (N := 18) rfl (by decide) zinX4 rfl zw_400 dX9_takesLack_80) (z_c (ok_callV zcal_97 (q := (RX9, TX9, 4)) rfl zw_397 zw_398 zw_399 dX9_takesLack_83) (z_c (ok_if_ne dX9_takesLack_86 (by decide)) (z_c (ok_iconst (v := (0)) dX9_takesLack_89 (by decide)) (z_c (ok_zreturn rfl dX9_takesLack_90) (z_c (ok_aload_n dX9_takesLack_91 rfl) (z_c (ok_getf (C := RX9) (T := TX9) (N := 4) rfl (by decide) zinX9 rfl zw_329 dX9_takesLack_92) (z_c (ok_getf (C := RX4) (T := TX4) (N := 18) rfl (by decide) zinX4 rfl zw_407 dX9_takesLack_95) (z_c (ok_iload_n dX9_takesLack_98 rfl) z_n))))))))))))
noncomputable def tX9_takesLack_4 : List (Nat × zF) := [(99, (zla4 0 1)), (100, (zgf 9 3)), (103, (zas 0)), (104, (zla4 0 1)), (105, (zgf 9 0)), (108, (zst 2 (zp (.int (7))))), (110, (zcv 64 1 5)), (113, (z_if_eq 129)), (116, (zla4 0 1)), (117, (zgf 9 0)), (120, (zst 1 (zp (.int (1))))), (121, (zst 2 (zp (.int (9)))))]
theorem kX9_takesLack_4 : ∀ q ∈ tX9_takesLack_4, zOk zg iX9_takesLack q.1 q.2 := (z_c (ok_aload_n dX9_takesLack_99 rfl) (z_c (ok_getf (C := RX9) (T := TX9) (N := 4) rfl (by decide) zinX9 rfl zw_401 dX9_takesLack_100) (z_c (ok_iastore rfl dX9_takesLack_103) (z_c (ok_aload_n dX9_takesLack_104 rfl) (z_c (ok_getf (C := RX9) (T := TX9) (N := 4) rfl (by decide) zinX9 rfl zw_328 dX9_takesLack_105) (z_c (ok_bipush (v := (7)) dX9_takesLack_108 (by decide)) (z_c (ok_callV zcal_64 (q := (RX5, TX5, 12)) rfl zw_358 zw_359 zw_360 dX9_takesLack_110) (z_c (ok_if_eq dX9_takesLack_113 (by decide)) (z_c (ok_aload_n dX9_takesLack_116 rfl) (z_c (ok_getf (C := RX9) (T := TX9) (N := 4) rfl (by decide) zinX9 rfl zw_328 dX9_takesLack_117) (z_c (ok_iconst (v := (1)) dX9_takesLack_120 (by decide)) (z_c (ok_bipush (v := (9)) dX9_takesLack_121 (by decide)) z_n))))))))))))
noncomputable def tX9_takesLack_5 : List (Nat × zF) := [(123, (zcv 67 2 5)), (126, (z_if_ne 131)), (129, (zst 1 (zp (.int (0))))), (130, (zri true)), (131, (zla4 0 1)), (132, (zgf 9 2)), (135, (zgf 4 10)), (138, (zli4 1 1)), (139, (zla4 0 1)), (140, (zgf 9 0)), (143, (zgf 5 8)), (146, (zas 0))]
theorem kX9_takesLack_5 : ∀ q ∈ tX9_takesLack_5, zOk zg iX9_takesLack q.1 q.2 := (z_c (ok_callV zcal_67 (q := (RX5, TX5, 12)) rfl zw_361 zw_362 zw_363 dX9_takesLack_123) (z_c (ok_if_ne dX9_takesLack_126 (by decide)) (z_c (ok_iconst (v := (0)) dX9_takesLack_129 (by decide)) (z_c (ok_zreturn rfl dX9_takesLack_130) (z_c (ok_aload_n dX9_takesLack_131 rfl) (z_c (ok_getf (C := RX9) (T := TX9) (N := 4) rfl (by decide) zinX9 rfl zw_329 dX9_takesLack_132) (z_c (ok_getf (C := RX4) (T := TX4) (N := 18) rfl (by decide) zinX4 rfl zw_408 dX9_takesLack_135) (z_c (ok_iload_n dX9_takesLack_138 rfl) (z_c (ok_aload_n dX9_takesLack_139 rfl) (z_c (ok_getf (C := RX9) (T := TX9) (N := 4) rfl (by decide) zinX9 rfl zw_328 dX9_takesLack_140) (z_c (ok_getf (C := RX5) (T := TX5) (N := 12) rfl (by decide) zinX5 rfl zw_364 dX9_takesLack_143) (z_c (ok_iastore rfl dX9_takesLack_146) z_n))))))))))))
noncomputable def tX9_takesLack_6 : List (Nat × zF) := [(147, (zla4 0 1)), (148, (zgf 9 0)), (151, (zst 2 (zp (.int (8))))), (153, (zcv 64 1 5)), (156, (z_if_eq 172)), (159, (zla4 0 1)), (160, (zgf 9 0)), (163, (zst 1 (zp (.int (0))))), (164, (zst 2 (zp (.int (9))))), (166, (zcv 67 2 5)), (169, (z_if_ne 174)), (172, (zst 1 (zp (.int (0)))))]
theorem kX9_takesLack_6 : ∀ q ∈ tX9_takesLack_6, zOk zg iX9_takesLack q.1 q.2 := (z_c (ok_aload_n dX9_takesLack_147 rfl) (z_c (ok_getf (C := RX9) (T := TX9) (N := 4) rfl (by decide) zinX9 rfl zw_328 dX9_takesLack_148) (z_c (ok_bipush (v := (8)) dX9_takesLack_151 (by decide)) (z_c (ok_callV zcal_64 (q := (RX5, TX5, 12)) rfl zw_358 zw_359 zw_360 dX9_takesLack_153) (z_c (ok_if_eq dX9_takesLack_156 (by decide)) (z_c (ok_aload_n dX9_takesLack_159 rfl) (z_c (ok_getf (C := RX9) (T := TX9) (N := 4) rfl (by decide) zinX9 rfl zw_328 dX9_takesLack_160) (z_c (ok_iconst (v := (0)) dX9_takesLack_163 (by decide)) (z_c (ok_bipush (v := (9)) dX9_takesLack_164 (by decide)) (z_c (ok_callV zcal_67 (q := (RX5, TX5, 12)) rfl zw_361 zw_362 zw_363 dX9_takesLack_166) (z_c (ok_if_ne dX9_takesLack_169 (by decide)) (z_c (ok_iconst (v := (0)) dX9_takesLack_172 (by decide)) z_n))))))))))))
noncomputable def tX9_takesLack_7 : List (Nat × zF) := [(173, (zri true)), (174, (zla4 0 1)), (175, (zgf 9 2)), (178, (zgf 4 11)), (181, (zli4 1 1)), (182, (zla4 0 1)), (183, (zgf 9 0)), (186, (zgf 5 8)), (189, (zas 0)), (190, (zla4 0 1)), (191, (zgf 9 2)), (194, (zst 1 zdu))]
theorem kX9_takesLack_7 : ∀ q ∈ tX9_takesLack_7, zOk zg iX9_takesLack q.1 q.2 := (z_c (ok_zreturn rfl dX9_takesLack_173) (z_c (ok_aload_n dX9_takesLack_174 rfl) (z_c (ok_getf (C := RX9) (T := TX9) (N := 4) rfl (by decide) zinX9 rfl zw_329 dX9_takesLack_175) (z_c (ok_getf (C := RX4) (T := TX4) (N := 18) rfl (by decide) zinX4 rfl zw_409 dX9_takesLack_178) (z_c (ok_iload_n dX9_takesLack_181 rfl) (z_c (ok_aload_n dX9_takesLack_182 rfl) (z_c (ok_getf (C := RX9) (T := TX9) (N := 4) rfl (by decide) zinX9 rfl zw_328 dX9_takesLack_183) (z_c (ok_getf (C := RX5) (T := TX5) (N := 12) rfl (by decide) zinX5 rfl zw_364 dX9_takesLack_186) (z_c (ok_iastore rfl dX9_takesLack_189) (z_c (ok_aload_n dX9_takesLack_190 rfl) (z_c (ok_getf (C := RX9) (T := TX9) (N := 4) rfl (by decide) zinX9 rfl zw_329 dX9_takesLack_191) (z_c (ok_dup dX9_takesLack_194) z_n))))))))))))
noncomputable def tX9_takesLack_8 : List (Nat × zF) := [(195, (zgf 4 12)), (198, (zst 1 (zp (.int (1))))), (199, (zli4 1 1)), (200, (zst 1 z_ishl)), (201, (zst 1 z_ior)), (202, (zpf 4 12 (.int))), (205, (zla4 0 1)), (206, (zgf 9 2)), (209, (zli4 1 1)), (210, (zst 1 (zp (.int (1))))), (211, (zst 1 z_iadd)), (212, (zpf 4 7 (.int)))]
theorem kX9_takesLack_8 : ∀ q ∈ tX9_takesLack_8, zOk zg iX9_takesLack q.1 q.2 := (z_c (ok_getf (C := RX4) (T := TX4) (N := 18) rfl (by decide) zinX4 rfl zw_410 dX9_takesLack_195) (z_c (ok_iconst (v := (1)) dX9_takesLack_198 (by decide)) (z_c (ok_iload_n dX9_takesLack_199 rfl) (z_c (ok_ishl dX9_takesLack_200) (z_c (ok_ior dX9_takesLack_201) (z_c (ok_putf (C := RX4) (T := TX4) (N := 18) false tyX4 tyX4_ok nmX4 rfl (by decide) zinX4 rfl zw_410 rfl (fun h => absurd h (by decide)) rfl dX9_takesLack_202) (z_c (ok_aload_n dX9_takesLack_205 rfl) (z_c (ok_getf (C := RX9) (T := TX9) (N := 4) rfl (by decide) zinX9 rfl zw_329 dX9_takesLack_206) (z_c (ok_iload_n dX9_takesLack_209 rfl) (z_c (ok_iconst (v := (1)) dX9_takesLack_210 (by decide)) (z_c (ok_iadd dX9_takesLack_211) (z_c (ok_putf (C := RX4) (T := TX4) (N := 18) false tyX4 tyX4_ok nmX4 rfl (by decide) zinX4 rfl zw_402 rfl (fun h => absurd h (by decide)) rfl dX9_takesLack_212) z_n))))))))))))
noncomputable def tX9_takesLack_9 : List (Nat × zF) := [(215, (zst 1 (zp (.int (1))))), (216, (zri true))]
theorem kX9_takesLack_9 : ∀ q ∈ tX9_takesLack_9, zOk zg iX9_takesLack q.1 q.2 := (z_c (ok_iconst (v := (1)) dX9_takesLack_215 (by decide)) (z_c (ok_zreturn rfl dX9_takesLack_216) z_n))
noncomputable def tX9_takesLack : zT := [(24, tX9_takesLack_0), (48, tX9_takesLack_1), (75, tX9_takesLack_2), (99, tX9_takesLack_3), (123, tX9_takesLack_4), (147, tX9_takesLack_5), (173, tX9_takesLack_6), (195, tX9_takesLack_7), (215, tX9_takesLack_8), (100000, tX9_takesLack_9)]
theorem kX9_takesLack : zTok zg iX9_takesLack tX9_takesLack := (z_t kX9_takesLack_0 (z_t kX9_takesLack_1 (z_t kX9_takesLack_2 (z_t kX9_takesLack_3 (z_t kX9_takesLack_4 (z_t kX9_takesLack_5 (z_t kX9_takesLack_6 (z_t kX9_takesLack_7 (z_t kX9_takesLack_8 (z_t kX9_takesLack_9 z_tn))))))))))
theorem dX9_takesHas_0 : decode cX9_takesHas 0 = .ok (.aload_n 0, 1) := by decide +kernel
theorem dX9_takesHas_1 : decode cX9_takesHas 1 = .ok (.getfield 12, 3) := by decide +kernel
theorem dX9_takesHas_4 : decode cX9_takesHas 4 = .ok (.invokevirtual 115, 3) := by decide +kernel
theorem dX9_takesHas_7 : decode cX9_takesHas 7 = .ok (.aload_n 0, 1) := by decide +kernel
theorem dX9_takesHas_8 : decode cX9_takesHas 8 = .ok (.getfield 12, 3) := by decide +kernel
theorem dX9_takesHas_11 : decode cX9_takesHas 11 = .ok (.invokevirtual 164, 3) := by decide +kernel
theorem dX9_takesHas_14 : decode cX9_takesHas 14 = .ok (.ifCond .ne 5, 3) := by decide +kernel
theorem dX9_takesHas_17 : decode cX9_takesHas 17 = .ok (.iconst 0, 1) := by decide +kernel
theorem dX9_takesHas_18 : decode cX9_takesHas 18 = .ok (.ireturn, 1) := by decide +kernel
theorem dX9_takesHas_19 : decode cX9_takesHas 19 = .ok (.aload_n 0, 1) := by decide +kernel
theorem dX9_takesHas_20 : decode cX9_takesHas 20 = .ok (.getfield 18, 3) := by decide +kernel
theorem dX9_takesHas_23 : decode cX9_takesHas 23 = .ok (.aload_n 0, 1) := by decide +kernel
theorem dX9_takesHas_24 : decode cX9_takesHas 24 = .ok (.getfield 12, 3) := by decide +kernel
theorem dX9_takesHas_27 : decode cX9_takesHas 27 = .ok (.getfield 81, 3) := by decide +kernel
theorem dX9_takesHas_30 : decode cX9_takesHas 30 = .ok (.invokevirtual 167, 3) := by decide +kernel
theorem dX9_takesHas_33 : decode cX9_takesHas 33 = .ok (.istore_n 1, 1) := by decide +kernel
theorem dX9_takesHas_34 : decode cX9_takesHas 34 = .ok (.iload_n 1, 1) := by decide +kernel
theorem dX9_takesHas_35 : decode cX9_takesHas 35 = .ok (.iconst (-1), 1) := by decide +kernel
theorem dX9_takesHas_36 : decode cX9_takesHas 36 = .ok (.if_icmp .eq 17, 3) := by decide +kernel
theorem dX9_takesHas_39 : decode cX9_takesHas 39 = .ok (.aload_n 0, 1) := by decide +kernel
theorem dX9_takesHas_40 : decode cX9_takesHas 40 = .ok (.getfield 18, 3) := by decide +kernel
theorem dX9_takesHas_43 : decode cX9_takesHas 43 = .ok (.getfield 161, 3) := by decide +kernel
theorem dX9_takesHas_46 : decode cX9_takesHas 46 = .ok (.iload_n 1, 1) := by decide +kernel
theorem dX9_takesHas_47 : decode cX9_takesHas 47 = .ok (.ishr, 1) := by decide +kernel
theorem dX9_takesHas_48 : decode cX9_takesHas 48 = .ok (.iconst 1, 1) := by decide +kernel
theorem dX9_takesHas_49 : decode cX9_takesHas 49 = .ok (.iand, 1) := by decide +kernel
theorem dX9_takesHas_50 : decode cX9_takesHas 50 = .ok (.ifCond .ne 19, 3) := by decide +kernel
theorem dX9_takesHas_53 : decode cX9_takesHas 53 = .ok (.aload_n 0, 1) := by decide +kernel
theorem dX9_takesHas_54 : decode cX9_takesHas 54 = .ok (.getfield 12, 3) := by decide +kernel
theorem dX9_takesHas_57 : decode cX9_takesHas 57 = .ok (.iconst 3, 1) := by decide +kernel
theorem dX9_takesHas_58 : decode cX9_takesHas 58 = .ok (.aload_n 0, 1) := by decide +kernel
theorem dX9_takesHas_59 : decode cX9_takesHas 59 = .ok (.getfield 12, 3) := by decide +kernel
theorem dX9_takesHas_62 : decode cX9_takesHas 62 = .ok (.getfield 171, 3) := by decide +kernel
theorem dX9_takesHas_65 : decode cX9_takesHas 65 = .ok (.invokevirtual 71, 3) := by decide +kernel
theorem dX9_takesHas_68 : decode cX9_takesHas 68 = .ok (.ireturn, 1) := by decide +kernel
theorem dX9_takesHas_69 : decode cX9_takesHas 69 = .ok (.aload_n 0, 1) := by decide +kernel
theorem dX9_takesHas_70 : decode cX9_takesHas 70 = .ok (.getfield 18, 3) := by decide +kernel
theorem dX9_takesHas_73 : decode cX9_takesHas 73 = .ok (.dup, 1) := by decide +kernel
theorem dX9_takesHas_74 : decode cX9_takesHas 74 = .ok (.getfield 161, 3) := by decide +kernel
theorem dX9_takesHas_77 : decode cX9_takesHas 77 = .ok (.iconst 1, 1) := by decide +kernel
theorem dX9_takesHas_78 : decode cX9_takesHas 78 = .ok (.iload_n 1, 1) := by decide +kernel
theorem dX9_takesHas_79 : decode cX9_takesHas 79 = .ok (.ishl, 1) := by decide +kernel
theorem dX9_takesHas_80 : decode cX9_takesHas 80 = .ok (.iconst (-1), 1) := by decide +kernel
theorem dX9_takesHas_81 : decode cX9_takesHas 81 = .ok (.ixor, 1) := by decide +kernel
theorem dX9_takesHas_82 : decode cX9_takesHas 82 = .ok (.iand, 1) := by decide +kernel
theorem dX9_takesHas_83 : decode cX9_takesHas 83 = .ok (.putfield 161, 3) := by decide +kernel
theorem dX9_takesHas_86 : decode cX9_takesHas 86 = .ok (.iconst 1, 1) := by decide +kernel
theorem dX9_takesHas_87 : decode cX9_takesHas 87 = .ok (.ireturn, 1) := by decide +kernel
noncomputable def tX9_takesHas_0 : List (Nat × zF) := [(0, (zla4 0 1)), (1, (zgf 9 0)), (4, (zcv 58 0 5)), (7, (zla4 0 1)), (8, (zgf 9 0)), (11, (zcv 66 0 5)), (14, (z_if_ne 19)), (17, (zst 1 (zp (.int (0))))), (18, (zri true)), (19, (zla4 0 1)), (20, (zgf 9 2)), (23, (zla4 0 1))]
theorem kX9_takesHas_0 : ∀ q ∈ tX9_takesHas_0, zOk zg iX9_takesHas q.1 q.2 := (z_c (ok_aload_n dX9_takesHas_0 rfl) (z_c (ok_getf (C := RX9) (T := TX9) (N := 4) rfl (by decide) zinX9 rfl zw_328 dX9_takesHas_1) (z_c (ok_callV zcal_58 (q := (RX5, TX5, 12)) rfl zw_391 zw_259 zw_260 dX9_takesHas_4) (z_c (ok_aload_n dX9_takesHas_7 rfl) (z_c (ok_getf (C := RX9) (T := TX9) (N := 4) rfl (by decide) zinX9 rfl zw_328 dX9_takesHas_8) (z_c (ok_callV zcal_66 (q := (RX5, TX5, 12)) rfl zw_411 zw_412 zw_413 dX9_takesHas_11) (z_c (ok_if_ne dX9_takesHas_14 (by decide)) (z_c (ok_iconst (v := (0)) dX9_takesHas_17 (by decide)) (z_c (ok_zreturn rfl dX9_takesHas_18) (z_c (ok_aload_n dX9_takesHas_19 rfl) (z_c (ok_getf (C := RX9) (T := TX9) (N := 4) rfl (by decide) zinX9 rfl zw_329 dX9_takesHas_20) (z_c (ok_aload_n dX9_takesHas_23 rfl) z_n))))))))))))
noncomputable def tX9_takesHas_1 : List (Nat × zF) := [(24, (zgf 9 0)), (27, (zgf 5 8)), (30, (zcv 54 1 4)), (33, (zsi4 2 1 1)), (34, (zli4 1 1)), (35, (zst 1 (zp (.int ((-1)))))), (36, (z_ic_eq 53)), (39, (zla4 0 1)), (40, (zgf 9 2)), (43, (zgf 4 12)), (46, (zli4 1 1)), (47, (zst 1 z_ishr))]
theorem kX9_takesHas_1 : ∀ q ∈ tX9_takesHas_1, zOk zg iX9_takesHas q.1 q.2 := (z_c (ok_getf (C := RX9) (T := TX9) (N := 4) rfl (by decide) zinX9 rfl zw_328 dX9_takesHas_24) (z_c (ok_getf (C := RX5) (T := TX5) (N := 12) rfl (by decide) zinX5 rfl zw_364 dX9_takesHas_27) (z_c (ok_callV zcal_54 (q := (RX4, TX4, 18)) rfl zw_414 zw_241 zw_242 dX9_takesHas_30) (z_c (ok_istore_n dX9_takesHas_33 rfl) (z_c (ok_iload_n dX9_takesHas_34 rfl) (z_c (ok_iconst (v := (-1)) dX9_takesHas_35 (by decide)) (z_c (ok_icmp_eq dX9_takesHas_36 (by decide)) (z_c (ok_aload_n dX9_takesHas_39 rfl) (z_c (ok_getf (C := RX9) (T := TX9) (N := 4) rfl (by decide) zinX9 rfl zw_329 dX9_takesHas_40) (z_c (ok_getf (C := RX4) (T := TX4) (N := 18) rfl (by decide) zinX4 rfl zw_410 dX9_takesHas_43) (z_c (ok_iload_n dX9_takesHas_46 rfl) (z_c (ok_ishr dX9_takesHas_47) z_n))))))))))))
noncomputable def tX9_takesHas_2 : List (Nat × zF) := [(48, (zst 1 (zp (.int (1))))), (49, (zst 1 z_iand)), (50, (z_if_ne 69)), (53, (zla4 0 1)), (54, (zgf 9 0)), (57, (zst 1 (zp (.int (3))))), (58, (zla4 0 1)), (59, (zgf 9 0)), (62, (zgf 5 9)), (65, (zcv 63 2 5)), (68, (zri true)), (69, (zla4 0 1))]
theorem kX9_takesHas_2 : ∀ q ∈ tX9_takesHas_2, zOk zg iX9_takesHas q.1 q.2 := (z_c (ok_iconst (v := (1)) dX9_takesHas_48 (by decide)) (z_c (ok_iand dX9_takesHas_49) (z_c (ok_if_ne dX9_takesHas_50 (by decide)) (z_c (ok_aload_n dX9_takesHas_53 rfl) (z_c (ok_getf (C := RX9) (T := TX9) (N := 4) rfl (by decide) zinX9 rfl zw_328 dX9_takesHas_54) (z_c (ok_iconst (v := (3)) dX9_takesHas_57 (by decide)) (z_c (ok_aload_n dX9_takesHas_58 rfl) (z_c (ok_getf (C := RX9) (T := TX9) (N := 4) rfl (by decide) zinX9 rfl zw_328 dX9_takesHas_59) (z_c (ok_getf (C := RX5) (T := TX5) (N := 12) rfl (by decide) zinX5 rfl zw_415 dX9_takesHas_62) (z_c (ok_callV zcal_63 (q := (RX5, TX5, 12)) rfl zw_357 zw_274 zw_275 dX9_takesHas_65) (z_c (ok_zreturn rfl dX9_takesHas_68) (z_c (ok_aload_n dX9_takesHas_69 rfl) z_n))))))))))))
noncomputable def tX9_takesHas_3 : List (Nat × zF) := [(70, (zgf 9 2)), (73, (zst 1 zdu)), (74, (zgf 4 12)), (77, (zst 1 (zp (.int (1))))), (78, (zli4 1 1)), (79, (zst 1 z_ishl)), (80, (zst 1 (zp (.int ((-1)))))), (81, (zst 1 z_ixor)), (82, (zst 1 z_iand)), (83, (zpf 4 12 (.int))), (86, (zst 1 (zp (.int (1))))), (87, (zri true))]
theorem kX9_takesHas_3 : ∀ q ∈ tX9_takesHas_3, zOk zg iX9_takesHas q.1 q.2 := (z_c (ok_getf (C := RX9) (T := TX9) (N := 4) rfl (by decide) zinX9 rfl zw_329 dX9_takesHas_70) (z_c (ok_dup dX9_takesHas_73) (z_c (ok_getf (C := RX4) (T := TX4) (N := 18) rfl (by decide) zinX4 rfl zw_410 dX9_takesHas_74) (z_c (ok_iconst (v := (1)) dX9_takesHas_77 (by decide)) (z_c (ok_iload_n dX9_takesHas_78 rfl) (z_c (ok_ishl dX9_takesHas_79) (z_c (ok_iconst (v := (-1)) dX9_takesHas_80 (by decide)) (z_c (ok_ixor dX9_takesHas_81) (z_c (ok_iand dX9_takesHas_82) (z_c (ok_putf (C := RX4) (T := TX4) (N := 18) false tyX4 tyX4_ok nmX4 rfl (by decide) zinX4 rfl zw_410 rfl (fun h => absurd h (by decide)) rfl dX9_takesHas_83) (z_c (ok_iconst (v := (1)) dX9_takesHas_86 (by decide)) (z_c (ok_zreturn rfl dX9_takesHas_87) z_n))))))))))))
noncomputable def tX9_takesHas : zT := [(24, tX9_takesHas_0), (48, tX9_takesHas_1), (70, tX9_takesHas_2), (100000, tX9_takesHas_3)]
theorem kX9_takesHas : zTok zg iX9_takesHas tX9_takesHas := (z_t kX9_takesHas_0 (z_t kX9_takesHas_1 (z_t kX9_takesHas_2 (z_t kX9_takesHas_3 z_tn))))
theorem dX9_takesFolk_0 : decode cX9_takesFolk 0 = .ok (.aload_n 0, 1) := by decide +kernel
theorem dX9_takesFolk_1 : decode cX9_takesFolk 1 = .ok (.getfield 18, 3) := by decide +kernel
theorem dX9_takesFolk_4 : decode cX9_takesFolk 4 = .ok (.getfield 174, 3) := by decide +kernel
theorem dX9_takesFolk_7 : decode cX9_takesFolk 7 = .ok (.istore_n 1, 1) := by decide +kernel
theorem dX9_takesFolk_8 : decode cX9_takesFolk 8 = .ok (.iload_n 1, 1) := by decide +kernel
theorem dX9_takesFolk_9 : decode cX9_takesFolk 9 = .ok (.bipush 6, 2) := by decide +kernel
theorem dX9_takesFolk_11 : decode cX9_takesFolk 11 = .ok (.if_icmp .lt 20, 3) := by decide +kernel
theorem dX9_takesFolk_14 : decode cX9_takesFolk 14 = .ok (.aload_n 0, 1) := by decide +kernel
theorem dX9_takesFolk_15 : decode cX9_takesFolk 15 = .ok (.getfield 12, 3) := by decide +kernel
theorem dX9_takesFolk_18 : decode cX9_takesFolk 18 = .ok (.bipush 6, 2) := by decide +kernel
theorem dX9_takesFolk_20 : decode cX9_takesFolk 20 = .ok (.aload_n 0, 1) := by decide +kernel
theorem dX9_takesFolk_21 : decode cX9_takesFolk 21 = .ok (.getfield 12, 3) := by decide +kernel
theorem dX9_takesFolk_24 : decode cX9_takesFolk 24 = .ok (.getfield 68, 3) := by decide +kernel
theorem dX9_takesFolk_27 : decode cX9_takesFolk 27 = .ok (.invokevirtual 71, 3) := by decide +kernel
theorem dX9_takesFolk_30 : decode cX9_takesFolk 30 = .ok (.ireturn, 1) := by decide +kernel
theorem dX9_takesFolk_31 : decode cX9_takesFolk 31 = .ok (.aload_n 0, 1) := by decide +kernel
theorem dX9_takesFolk_32 : decode cX9_takesFolk 32 = .ok (.getfield 12, 3) := by decide +kernel
theorem dX9_takesFolk_35 : decode cX9_takesFolk 35 = .ok (.invokevirtual 115, 3) := by decide +kernel
theorem dX9_takesFolk_38 : decode cX9_takesFolk 38 = .ok (.aload_n 0, 1) := by decide +kernel
theorem dX9_takesFolk_39 : decode cX9_takesFolk 39 = .ok (.invokevirtual 145, 3) := by decide +kernel
theorem dX9_takesFolk_42 : decode cX9_takesFolk 42 = .ok (.ifCond .ne 5, 3) := by decide +kernel
theorem dX9_takesFolk_45 : decode cX9_takesFolk 45 = .ok (.iconst 0, 1) := by decide +kernel
theorem dX9_takesFolk_46 : decode cX9_takesFolk 46 = .ok (.ireturn, 1) := by decide +kernel
theorem dX9_takesFolk_47 : decode cX9_takesFolk 47 = .ok (.aload_n 0, 1) := by decide +kernel
theorem dX9_takesFolk_48 : decode cX9_takesFolk 48 = .ok (.getfield 18, 3) := by decide +kernel
theorem dX9_takesFolk_51 : decode cX9_takesFolk 51 = .ok (.getfield 177, 3) := by decide +kernel
theorem dX9_takesFolk_54 : decode cX9_takesFolk 54 = .ok (.iload_n 1, 1) := by decide +kernel
theorem dX9_takesFolk_55 : decode cX9_takesFolk 55 = .ok (.aload_n 0, 1) := by decide +kernel
theorem dX9_takesFolk_56 : decode cX9_takesFolk 56 = .ok (.getfield 12, 3) := by decide +kernel
theorem dX9_takesFolk_59 : decode cX9_takesFolk 59 = .ok (.getfield 81, 3) := by decide +kernel
theorem dX9_takesFolk_62 : decode cX9_takesFolk 62 = .ok (.iastore, 1) := by decide +kernel
theorem dX9_takesFolk_63 : decode cX9_takesFolk 63 = .ok (.aload_n 0, 1) := by decide +kernel
theorem dX9_takesFolk_64 : decode cX9_takesFolk 64 = .ok (.getfield 12, 3) := by decide +kernel
theorem dX9_takesFolk_67 : decode cX9_takesFolk 67 = .ok (.bipush 6, 2) := by decide +kernel
theorem dX9_takesFolk_69 : decode cX9_takesFolk 69 = .ok (.invokevirtual 75, 3) := by decide +kernel
theorem dX9_takesFolk_72 : decode cX9_takesFolk 72 = .ok (.ifCond .eq 17, 3) := by decide +kernel
theorem dX9_takesFolk_75 : decode cX9_takesFolk 75 = .ok (.aload_n 0, 1) := by decide +kernel
theorem dX9_takesFolk_76 : decode cX9_takesFolk 76 = .ok (.aload_n 0, 1) := by decide +kernel
theorem dX9_takesFolk_77 : decode cX9_takesFolk 77 = .ok (.getfield 18, 3) := by decide +kernel
theorem dX9_takesFolk_80 : decode cX9_takesFolk 80 = .ok (.getfield 131, 3) := by decide +kernel
theorem dX9_takesFolk_83 : decode cX9_takesFolk 83 = .ok (.invokevirtual 127, 3) := by decide +kernel
theorem dX9_takesFolk_86 : decode cX9_takesFolk 86 = .ok (.ifCond .ne 5, 3) := by decide +kernel
theorem dX9_takesFolk_89 : decode cX9_takesFolk 89 = .ok (.iconst 0, 1) := by decide +kernel
theorem dX9_takesFolk_90 : decode cX9_takesFolk 90 = .ok (.ireturn, 1) := by decide +kernel
theorem dX9_takesFolk_91 : decode cX9_takesFolk 91 = .ok (.aload_n 0, 1) := by decide +kernel
theorem dX9_takesFolk_92 : decode cX9_takesFolk 92 = .ok (.getfield 18, 3) := by decide +kernel
theorem dX9_takesFolk_95 : decode cX9_takesFolk 95 = .ok (.getfield 180, 3) := by decide +kernel
theorem dX9_takesFolk_98 : decode cX9_takesFolk 98 = .ok (.iload_n 1, 1) := by decide +kernel
theorem dX9_takesFolk_99 : decode cX9_takesFolk 99 = .ok (.aload_n 0, 1) := by decide +kernel
theorem dX9_takesFolk_100 : decode cX9_takesFolk 100 = .ok (.getfield 135, 3) := by decide +kernel
theorem dX9_takesFolk_103 : decode cX9_takesFolk 103 = .ok (.iastore, 1) := by decide +kernel
theorem dX9_takesFolk_104 : decode cX9_takesFolk 104 = .ok (.aload_n 0, 1) := by decide +kernel
theorem dX9_takesFolk_105 : decode cX9_takesFolk 105 = .ok (.getfield 12, 3) := by decide +kernel
theorem dX9_takesFolk_108 : decode cX9_takesFolk 108 = .ok (.bipush 11, 2) := by decide +kernel
theorem dX9_takesFolk_110 : decode cX9_takesFolk 110 = .ok (.invokevirtual 75, 3) := by decide +kernel
theorem dX9_takesFolk_113 : decode cX9_takesFolk 113 = .ok (.ifCond .eq 17, 3) := by decide +kernel
theorem dX9_takesFolk_116 : decode cX9_takesFolk 116 = .ok (.aload_n 0, 1) := by decide +kernel
theorem dX9_takesFolk_117 : decode cX9_takesFolk 117 = .ok (.aload_n 0, 1) := by decide +kernel
theorem dX9_takesFolk_118 : decode cX9_takesFolk 118 = .ok (.getfield 18, 3) := by decide +kernel
theorem dX9_takesFolk_121 : decode cX9_takesFolk 121 = .ok (.getfield 131, 3) := by decide +kernel
theorem dX9_takesFolk_124 : decode cX9_takesFolk 124 = .ok (.invokevirtual 127, 3) := by decide +kernel
theorem dX9_takesFolk_127 : decode cX9_takesFolk 127 = .ok (.ifCond .ne 5, 3) := by decide +kernel
theorem dX9_takesFolk_130 : decode cX9_takesFolk 130 = .ok (.iconst 0, 1) := by decide +kernel
theorem dX9_takesFolk_131 : decode cX9_takesFolk 131 = .ok (.ireturn, 1) := by decide +kernel
theorem dX9_takesFolk_132 : decode cX9_takesFolk 132 = .ok (.aload_n 0, 1) := by decide +kernel
theorem dX9_takesFolk_133 : decode cX9_takesFolk 133 = .ok (.getfield 18, 3) := by decide +kernel
theorem dX9_takesFolk_136 : decode cX9_takesFolk 136 = .ok (.getfield 183, 3) := by decide +kernel
theorem dX9_takesFolk_139 : decode cX9_takesFolk 139 = .ok (.iload_n 1, 1) := by decide +kernel
theorem dX9_takesFolk_140 : decode cX9_takesFolk 140 = .ok (.aload_n 0, 1) := by decide +kernel
theorem dX9_takesFolk_141 : decode cX9_takesFolk 141 = .ok (.getfield 135, 3) := by decide +kernel
theorem dX9_takesFolk_144 : decode cX9_takesFolk 144 = .ok (.iastore, 1) := by decide +kernel
theorem dX9_takesFolk_145 : decode cX9_takesFolk 145 = .ok (.aload_n 0, 1) := by decide +kernel
theorem dX9_takesFolk_146 : decode cX9_takesFolk 146 = .ok (.getfield 18, 3) := by decide +kernel
theorem dX9_takesFolk_149 : decode cX9_takesFolk 149 = .ok (.iload_n 1, 1) := by decide +kernel
theorem dX9_takesFolk_150 : decode cX9_takesFolk 150 = .ok (.iconst 1, 1) := by decide +kernel
theorem dX9_takesFolk_151 : decode cX9_takesFolk 151 = .ok (.iadd, 1) := by decide +kernel
theorem dX9_takesFolk_152 : decode cX9_takesFolk 152 = .ok (.putfield 174, 3) := by decide +kernel
theorem dX9_takesFolk_155 : decode cX9_takesFolk 155 = .ok (.iconst 1, 1) := by decide +kernel
theorem dX9_takesFolk_156 : decode cX9_takesFolk 156 = .ok (.ireturn, 1) := by decide +kernel
noncomputable def tX9_takesFolk_0 : List (Nat × zF) := [(0, (zla4 0 1)), (1, (zgf 9 2)), (4, (zgf 4 13)), (7, (zsi4 2 1 1)), (8, (zli4 1 1)), (9, (zst 2 (zp (.int (6))))), (11, (z_ic_lt 31)), (14, (zla4 0 1)), (15, (zgf 9 0)), (18, (zst 2 (zp (.int (6))))), (20, (zla4 0 1)), (21, (zgf 9 0))]
theorem kX9_takesFolk_0 : ∀ q ∈ tX9_takesFolk_0, zOk zg iX9_takesFolk q.1 q.2 := (z_c (ok_aload_n dX9_takesFolk_0 rfl) (z_c (ok_getf (C := RX9) (T := TX9) (N := 4) rfl (by decide) zinX9 rfl zw_329 dX9_takesFolk_1) (z_c (ok_getf (C := RX4) (T := TX4) (N := 18) rfl (by decide) zinX4 rfl zw_416 dX9_takesFolk_4) (z_c (ok_istore_n dX9_takesFolk_7 rfl) (z_c (ok_iload_n dX9_takesFolk_8 rfl) (z_c (ok_bipush (v := (6)) dX9_takesFolk_9 (by decide)) (z_c (ok_icmp_lt dX9_takesFolk_11 (by decide)) (z_c (ok_aload_n dX9_takesFolk_14 rfl) (z_c (ok_getf (C := RX9) (T := TX9) (N := 4) rfl (by decide) zinX9 rfl zw_328 dX9_takesFolk_15) (z_c (ok_bipush (v := (6)) dX9_takesFolk_18 (by decide)) (z_c (ok_aload_n dX9_takesFolk_20 rfl) (z_c (ok_getf (C := RX9) (T := TX9) (N := 4) rfl (by decide) zinX9 rfl zw_328 dX9_takesFolk_21) z_n))))))))))))
noncomputable def tX9_takesFolk_1 : List (Nat × zF) := [(24, (zgf 5 6)), (27, (zcv 63 2 5)), (30, (zri true)), (31, (zla4 0 1)), (32, (zgf 9 0)), (35, (zcv 58 0 5)), (38, (zla4 0 1)), (39, (zcv 96 0 9)), (42, (z_if_ne 47)), (45, (zst 1 (zp (.int (0))))), (46, (zri true)), (47, (zla4 0 1))]
theorem kX9_takesFolk_1 : ∀ q ∈ tX9_takesFolk_1, zOk zg iX9_takesFolk q.1 q.2 := (z_c (ok_getf (C := RX5) (T := TX5) (N := 12) rfl (by decide) zinX5 rfl zw_356 dX9_takesFolk_24) (z_c (ok_callV zcal_63 (q := (RX5, TX5, 12)) rfl zw_357 zw_274 zw_275 dX9_takesFolk_27) (z_c (ok_zreturn rfl dX9_takesFolk_30) (z_c (ok_aload_n dX9_takesFolk_31 rfl) (z_c (ok_getf (C := RX9) (T := TX9) (N := 4) rfl (by decide) zinX9 rfl zw_328 dX9_takesFolk_32) (z_c (ok_callV zcal_58 (q := (RX5, TX5, 12)) rfl zw_391 zw_259 zw_260 dX9_takesFolk_35) (z_c (ok_aload_n dX9_takesFolk_38 rfl) (z_c (ok_callV zcal_96 (q := (RX9, TX9, 4)) rfl zw_403 zw_404 zw_405 dX9_takesFolk_39) (z_c (ok_if_ne dX9_takesFolk_42 (by decide)) (z_c (ok_iconst (v := (0)) dX9_takesFolk_45 (by decide)) (z_c (ok_zreturn rfl dX9_takesFolk_46) (z_c (ok_aload_n dX9_takesFolk_47 rfl) z_n))))))))))))
noncomputable def tX9_takesFolk_2 : List (Nat × zF) := [(48, (zgf 9 2)), (51, (zgf 4 14)), (54, (zli4 1 1)), (55, (zla4 0 1)), (56, (zgf 9 0)), (59, (zgf 5 8)), (62, (zas 0)), (63, (zla4 0 1)), (64, (zgf 9 0)), (67, (zst 2 (zp (.int (6))))), (69, (zcv 64 1 5)), (72, (z_if_eq 89))]
theorem kX9_takesFolk_2 : ∀ q ∈ tX9_takesFolk_2, zOk zg iX9_takesFolk q.1 q.2 := (z_c (ok_getf (C := RX9) (T := TX9) (N := 4) rfl (by decide) zinX9 rfl zw_329 dX9_takesFolk_48) (z_c (ok_getf (C := RX4) (T := TX4) (N := 18) rfl (by decide) zinX4 rfl zw_417 dX9_takesFolk_51) (z_c (ok_iload_n dX9_takesFolk_54 rfl) (z_c (ok_aload_n dX9_takesFolk_55 rfl) (z_c (ok_getf (C := RX9) (T := TX9) (N := 4) rfl (by decide) zinX9 rfl zw_328 dX9_takesFolk_56) (z_c (ok_getf (C := RX5) (T := TX5) (N := 12) rfl (by decide) zinX5 rfl zw_364 dX9_takesFolk_59) (z_c (ok_iastore rfl dX9_takesFolk_62) (z_c (ok_aload_n dX9_takesFolk_63 rfl) (z_c (ok_getf (C := RX9) (T := TX9) (N := 4) rfl (by decide) zinX9 rfl zw_328 dX9_takesFolk_64) (z_c (ok_bipush (v := (6)) dX9_takesFolk_67 (by decide)) (z_c (ok_callV zcal_64 (q := (RX5, TX5, 12)) rfl zw_358 zw_359 zw_360 dX9_takesFolk_69) (z_c (ok_if_eq dX9_takesFolk_72 (by decide)) z_n))))))))))))
noncomputable def tX9_takesFolk_3 : List (Nat × zF) := [(75, (zla4 0 1)), (76, (zla4 0 1)), (77, (zgf 9 2)), (80, (zgf 4 6)), (83, (zcv 97 1 9)), (86, (z_if_ne 91)), (89, (zst 1 (zp (.int (0))))), (90, (zri true)), (91, (zla4 0 1)), (92, (zgf 9 2)), (95, (zgf 4 15)), (98, (zli4 1 1))]
theorem kX9_takesFolk_3 : ∀ q ∈ tX9_takesFolk_3, zOk zg iX9_takesFolk q.1 q.2 := (z_c (ok_aload_n dX9_takesFolk_75 rfl) (z_c (ok_aload_n dX9_takesFolk_76 rfl) (z_c (ok_getf (C := RX9) (T := TX9) (N := 4) rfl (by decide) zinX9 rfl zw_329 dX9_takesFolk_77) (z_c (ok_getf (C := RX4) (T := TX4) (N := 18) rfl (by decide) zinX4 rfl zw_400 dX9_takesFolk_80) (z_c (ok_callV zcal_97 (q := (RX9, TX9, 4)) rfl zw_397 zw_398 zw_399 dX9_takesFolk_83) (z_c (ok_if_ne dX9_takesFolk_86 (by decide)) (z_c (ok_iconst (v := (0)) dX9_takesFolk_89 (by decide)) (z_c (ok_zreturn rfl dX9_takesFolk_90) (z_c (ok_aload_n dX9_takesFolk_91 rfl) (z_c (ok_getf (C := RX9) (T := TX9) (N := 4) rfl (by decide) zinX9 rfl zw_329 dX9_takesFolk_92) (z_c (ok_getf (C := RX4) (T := TX4) (N := 18) rfl (by decide) zinX4 rfl zw_418 dX9_takesFolk_95) (z_c (ok_iload_n dX9_takesFolk_98 rfl) z_n))))))))))))
noncomputable def tX9_takesFolk_4 : List (Nat × zF) := [(99, (zla4 0 1)), (100, (zgf 9 3)), (103, (zas 0)), (104, (zla4 0 1)), (105, (zgf 9 0)), (108, (zst 2 (zp (.int (11))))), (110, (zcv 64 1 5)), (113, (z_if_eq 130)), (116, (zla4 0 1)), (117, (zla4 0 1)), (118, (zgf 9 2)), (121, (zgf 4 6))]
theorem kX9_takesFolk_4 : ∀ q ∈ tX9_takesFolk_4, zOk zg iX9_takesFolk q.1 q.2 := (z_c (ok_aload_n dX9_takesFolk_99 rfl) (z_c (ok_getf (C := RX9) (T := TX9) (N := 4) rfl (by decide) zinX9 rfl zw_401 dX9_takesFolk_100) (z_c (ok_iastore rfl dX9_takesFolk_103) (z_c (ok_aload_n dX9_takesFolk_104 rfl) (z_c (ok_getf (C := RX9) (T := TX9) (N := 4) rfl (by decide) zinX9 rfl zw_328 dX9_takesFolk_105) (z_c (ok_bipush (v := (11)) dX9_takesFolk_108 (by decide)) (z_c (ok_callV zcal_64 (q := (RX5, TX5, 12)) rfl zw_358 zw_359 zw_360 dX9_takesFolk_110) (z_c (ok_if_eq dX9_takesFolk_113 (by decide)) (z_c (ok_aload_n dX9_takesFolk_116 rfl) (z_c (ok_aload_n dX9_takesFolk_117 rfl) (z_c (ok_getf (C := RX9) (T := TX9) (N := 4) rfl (by decide) zinX9 rfl zw_329 dX9_takesFolk_118) (z_c (ok_getf (C := RX4) (T := TX4) (N := 18) rfl (by decide) zinX4 rfl zw_400 dX9_takesFolk_121) z_n))))))))))))
noncomputable def tX9_takesFolk_5 : List (Nat × zF) := [(124, (zcv 97 1 9)), (127, (z_if_ne 132)), (130, (zst 1 (zp (.int (0))))), (131, (zri true)), (132, (zla4 0 1)), (133, (zgf 9 2)), (136, (zgf 4 16)), (139, (zli4 1 1)), (140, (zla4 0 1)), (141, (zgf 9 3)), (144, (zas 0)), (145, (zla4 0 1))]
theorem kX9_takesFolk_5 : ∀ q ∈ tX9_takesFolk_5, zOk zg iX9_takesFolk q.1 q.2 := (z_c (ok_callV zcal_97 (q := (RX9, TX9, 4)) rfl zw_397 zw_398 zw_399 dX9_takesFolk_124) (z_c (ok_if_ne dX9_takesFolk_127 (by decide)) (z_c (ok_iconst (v := (0)) dX9_takesFolk_130 (by decide)) (z_c (ok_zreturn rfl dX9_takesFolk_131) (z_c (ok_aload_n dX9_takesFolk_132 rfl) (z_c (ok_getf (C := RX9) (T := TX9) (N := 4) rfl (by decide) zinX9 rfl zw_329 dX9_takesFolk_133) (z_c (ok_getf (C := RX4) (T := TX4) (N := 18) rfl (by decide) zinX4 rfl zw_419 dX9_takesFolk_136) (z_c (ok_iload_n dX9_takesFolk_139 rfl) (z_c (ok_aload_n dX9_takesFolk_140 rfl) (z_c (ok_getf (C := RX9) (T := TX9) (N := 4) rfl (by decide) zinX9 rfl zw_401 dX9_takesFolk_141) (z_c (ok_iastore rfl dX9_takesFolk_144) (z_c (ok_aload_n dX9_takesFolk_145 rfl) z_n))))))))))))
noncomputable def tX9_takesFolk_6 : List (Nat × zF) := [(146, (zgf 9 2)), (149, (zli4 1 1)), (150, (zst 1 (zp (.int (1))))), (151, (zst 1 z_iadd)), (152, (zpf 4 13 (.int))), (155, (zst 1 (zp (.int (1))))), (156, (zri true))]
theorem kX9_takesFolk_6 : ∀ q ∈ tX9_takesFolk_6, zOk zg iX9_takesFolk q.1 q.2 := (z_c (ok_getf (C := RX9) (T := TX9) (N := 4) rfl (by decide) zinX9 rfl zw_329 dX9_takesFolk_146) (z_c (ok_iload_n dX9_takesFolk_149 rfl) (z_c (ok_iconst (v := (1)) dX9_takesFolk_150 (by decide)) (z_c (ok_iadd dX9_takesFolk_151) (z_c (ok_putf (C := RX4) (T := TX4) (N := 18) false tyX4 tyX4_ok nmX4 rfl (by decide) zinX4 rfl zw_416 rfl (fun h => absurd h (by decide)) rfl dX9_takesFolk_152) (z_c (ok_iconst (v := (1)) dX9_takesFolk_155 (by decide)) (z_c (ok_zreturn rfl dX9_takesFolk_156) z_n)))))))
noncomputable def tX9_takesFolk : zT := [(24, tX9_takesFolk_0), (48, tX9_takesFolk_1), (75, tX9_takesFolk_2), (99, tX9_takesFolk_3), (124, tX9_takesFolk_4), (146, tX9_takesFolk_5), (100000, tX9_takesFolk_6)]
theorem kX9_takesFolk : zTok zg iX9_takesFolk tX9_takesFolk := (z_t kX9_takesFolk_0 (z_t kX9_takesFolk_1 (z_t kX9_takesFolk_2 (z_t kX9_takesFolk_3 (z_t kX9_takesFolk_4 (z_t kX9_takesFolk_5 (z_t kX9_takesFolk_6 z_tn)))))))
theorem dX9_takesRule_0 : decode cX9_takesRule 0 = .ok (.aload_n 0, 1) := by decide +kernel
theorem dX9_takesRule_1 : decode cX9_takesRule 1 = .ok (.getfield 18, 3) := by decide +kernel
theorem dX9_takesRule_4 : decode cX9_takesRule 4 = .ok (.getfield 24, 3) := by decide +kernel
theorem dX9_takesRule_7 : decode cX9_takesRule 7 = .ok (.iload_n 1, 1) := by decide +kernel
theorem dX9_takesRule_8 : decode cX9_takesRule 8 = .ok (.invokevirtual 186, 3) := by decide +kernel
theorem dX9_takesRule_11 : decode cX9_takesRule 11 = .ok (.ifCond .eq 20, 3) := by decide +kernel
theorem dX9_takesRule_14 : decode cX9_takesRule 14 = .ok (.aload_n 0, 1) := by decide +kernel
theorem dX9_takesRule_15 : decode cX9_takesRule 15 = .ok (.getfield 12, 3) := by decide +kernel
theorem dX9_takesRule_18 : decode cX9_takesRule 18 = .ok (.bipush 6, 2) := by decide +kernel
theorem dX9_takesRule_20 : decode cX9_takesRule 20 = .ok (.aload_n 0, 1) := by decide +kernel
theorem dX9_takesRule_21 : decode cX9_takesRule 21 = .ok (.getfield 12, 3) := by decide +kernel
theorem dX9_takesRule_24 : decode cX9_takesRule 24 = .ok (.getfield 68, 3) := by decide +kernel
theorem dX9_takesRule_27 : decode cX9_takesRule 27 = .ok (.invokevirtual 71, 3) := by decide +kernel
theorem dX9_takesRule_30 : decode cX9_takesRule 30 = .ok (.ireturn, 1) := by decide +kernel
theorem dX9_takesRule_31 : decode cX9_takesRule 31 = .ok (.aload_n 0, 1) := by decide +kernel
theorem dX9_takesRule_32 : decode cX9_takesRule 32 = .ok (.getfield 12, 3) := by decide +kernel
theorem dX9_takesRule_35 : decode cX9_takesRule 35 = .ok (.invokevirtual 115, 3) := by decide +kernel
theorem dX9_takesRule_38 : decode cX9_takesRule 38 = .ok (.aload_n 0, 1) := by decide +kernel
theorem dX9_takesRule_39 : decode cX9_takesRule 39 = .ok (.getfield 33, 3) := by decide +kernel
theorem dX9_takesRule_42 : decode cX9_takesRule 42 = .ok (.aload_n 0, 1) := by decide +kernel
theorem dX9_takesRule_43 : decode cX9_takesRule 43 = .ok (.getfield 18, 3) := by decide +kernel
theorem dX9_takesRule_46 : decode cX9_takesRule 46 = .ok (.getfield 24, 3) := by decide +kernel
theorem dX9_takesRule_49 : decode cX9_takesRule 49 = .ok (.iload_n 1, 1) := by decide +kernel
theorem dX9_takesRule_50 : decode cX9_takesRule 50 = .ok (.invokevirtual 191, 3) := by decide +kernel
theorem dX9_takesRule_53 : decode cX9_takesRule 53 = .ok (.aload_n 0, 1) := by decide +kernel
theorem dX9_takesRule_54 : decode cX9_takesRule 54 = .ok (.getfield 18, 3) := by decide +kernel
theorem dX9_takesRule_57 : decode cX9_takesRule 57 = .ok (.getfield 24, 3) := by decide +kernel
theorem dX9_takesRule_60 : decode cX9_takesRule 60 = .ok (.iload_n 1, 1) := by decide +kernel
theorem dX9_takesRule_61 : decode cX9_takesRule 61 = .ok (.invokevirtual 194, 3) := by decide +kernel
theorem dX9_takesRule_64 : decode cX9_takesRule 64 = .ok (.iload_n 1, 1) := by decide +kernel
theorem dX9_takesRule_65 : decode cX9_takesRule 65 = .ok (.ifCond .ne 14, 3) := by decide +kernel
theorem dX9_takesRule_68 : decode cX9_takesRule 68 = .ok (.aload_n 0, 1) := by decide +kernel
theorem dX9_takesRule_69 : decode cX9_takesRule 69 = .ok (.getfield 33, 3) := by decide +kernel
theorem dX9_takesRule_72 : decode cX9_takesRule 72 = .ok (.iconst 0, 1) := by decide +kernel
theorem dX9_takesRule_73 : decode cX9_takesRule 73 = .ok (.invokevirtual 197, 3) := by decide +kernel
theorem dX9_takesRule_76 : decode cX9_takesRule 76 = .ok (.goto 11, 3) := by decide +kernel
theorem dX9_takesRule_79 : decode cX9_takesRule 79 = .ok (.aload_n 0, 1) := by decide +kernel
theorem dX9_takesRule_80 : decode cX9_takesRule 80 = .ok (.getfield 33, 3) := by decide +kernel
theorem dX9_takesRule_83 : decode cX9_takesRule 83 = .ok (.iconst 0, 1) := by decide +kernel
theorem dX9_takesRule_84 : decode cX9_takesRule 84 = .ok (.invokevirtual 200, 3) := by decide +kernel
theorem dX9_takesRule_87 : decode cX9_takesRule 87 = .ok (.istore_n 2, 1) := by decide +kernel
theorem dX9_takesRule_88 : decode cX9_takesRule 88 = .ok (.aload_n 0, 1) := by decide +kernel
theorem dX9_takesRule_89 : decode cX9_takesRule 89 = .ok (.getfield 18, 3) := by decide +kernel
theorem dX9_takesRule_92 : decode cX9_takesRule 92 = .ok (.getfield 24, 3) := by decide +kernel
theorem dX9_takesRule_95 : decode cX9_takesRule 95 = .ok (.iload_n 1, 1) := by decide +kernel
theorem dX9_takesRule_96 : decode cX9_takesRule 96 = .ok (.invokevirtual 203, 3) := by decide +kernel
theorem dX9_takesRule_99 : decode cX9_takesRule 99 = .ok (.iload_n 2, 1) := by decide +kernel
theorem dX9_takesRule_100 : decode cX9_takesRule 100 = .ok (.ireturn, 1) := by decide +kernel
noncomputable def tX9_takesRule_0 : List (Nat × zF) := [(0, (zla4 0 1)), (1, (zgf 9 2)), (4, (zgf 4 17)), (7, (zli4 1 1)), (8, (zcv 75 1 7)), (11, (z_if_eq 31)), (14, (zla4 0 1)), (15, (zgf 9 0)), (18, (zst 2 (zp (.int (6))))), (20, (zla4 0 1)), (21, (zgf 9 0)), (24, (zgf 5 6))]
theorem kX9_takesRule_0 : ∀ q ∈ tX9_takesRule_0, zOk zg iX9_takesRule q.1 q.2 := (z_c (ok_aload_n dX9_takesRule_0 rfl) (z_c (ok_getf (C := RX9) (T := TX9) (N := 4) rfl (by decide) zinX9 rfl zw_329 dX9_takesRule_1) (z_c (ok_getf (C := RX4) (T := TX4) (N := 18) rfl (by decide) zinX4 rfl zw_333 dX9_takesRule_4) (z_c (ok_iload_n dX9_takesRule_7 rfl) (z_c (ok_callV zcal_75 (q := (RX7, TX7, 4)) rfl zw_420 zw_36 zw_37 dX9_takesRule_8) (z_c (ok_if_eq dX9_takesRule_11 (by decide)) (z_c (ok_aload_n dX9_takesRule_14 rfl) (z_c (ok_getf (C := RX9) (T := TX9) (N := 4) rfl (by decide) zinX9 rfl zw_328 dX9_takesRule_15) (z_c (ok_bipush (v := (6)) dX9_takesRule_18 (by decide)) (z_c (ok_aload_n dX9_takesRule_20 rfl) (z_c (ok_getf (C := RX9) (T := TX9) (N := 4) rfl (by decide) zinX9 rfl zw_328 dX9_takesRule_21) (z_c (ok_getf (C := RX5) (T := TX5) (N := 12) rfl (by decide) zinX5 rfl zw_356 dX9_takesRule_24) z_n))))))))))))
noncomputable def tX9_takesRule_1 : List (Nat × zF) := [(27, (zcv 63 2 5)), (30, (zri true)), (31, (zla4 0 1)), (32, (zgf 9 0)), (35, (zcv 58 0 5)), (38, (zla4 0 1)), (39, (zgf 9 1)), (42, (zla4 0 1)), (43, (zgf 9 2)), (46, (zgf 4 17)), (49, (zli4 1 1)), (50, (zcv 99 2 10))]
theorem kX9_takesRule_1 : ∀ q ∈ tX9_takesRule_1, zOk zg iX9_takesRule q.1 q.2 := (z_c (ok_callV zcal_63 (q := (RX5, TX5, 12)) rfl zw_357 zw_274 zw_275 dX9_takesRule_27) (z_c (ok_zreturn rfl dX9_takesRule_30) (z_c (ok_aload_n dX9_takesRule_31 rfl) (z_c (ok_getf (C := RX9) (T := TX9) (N := 4) rfl (by decide) zinX9 rfl zw_328 dX9_takesRule_32) (z_c (ok_callV zcal_58 (q := (RX5, TX5, 12)) rfl zw_391 zw_259 zw_260 dX9_takesRule_35) (z_c (ok_aload_n dX9_takesRule_38 rfl) (z_c (ok_getf (C := RX9) (T := TX9) (N := 4) rfl (by decide) zinX9 rfl zw_336 dX9_takesRule_39) (z_c (ok_aload_n dX9_takesRule_42 rfl) (z_c (ok_getf (C := RX9) (T := TX9) (N := 4) rfl (by decide) zinX9 rfl zw_329 dX9_takesRule_43) (z_c (ok_getf (C := RX4) (T := TX4) (N := 18) rfl (by decide) zinX4 rfl zw_333 dX9_takesRule_46) (z_c (ok_iload_n dX9_takesRule_49 rfl) (z_c (ok_callV zcal_99 (q := (RX10, TX10, 3)) rfl zw_421 zw_422 zw_423 dX9_takesRule_50) z_n))))))))))))
noncomputable def tX9_takesRule_2 : List (Nat × zF) := [(53, (zla4 0 1)), (54, (zgf 9 2)), (57, (zgf 4 17)), (60, (zli4 1 1)), (61, (zcv 76 1 7)), (64, (zli4 1 1)), (65, (z_if_ne 79)), (68, (zla4 0 1)), (69, (zgf 9 1)), (72, (zst 1 (zp (.int (0))))), (73, (zcv 104 1 10)), (76, (zgt 87))]
theorem kX9_takesRule_2 : ∀ q ∈ tX9_takesRule_2, zOk zg iX9_takesRule q.1 q.2 := (z_c (ok_aload_n dX9_takesRule_53 rfl) (z_c (ok_getf (C := RX9) (T := TX9) (N := 4) rfl (by decide) zinX9 rfl zw_329 dX9_takesRule_54) (z_c (ok_getf (C := RX4) (T := TX4) (N := 18) rfl (by decide) zinX4 rfl zw_333 dX9_takesRule_57) (z_c (ok_iload_n dX9_takesRule_60 rfl) (z_c (ok_callV zcal_76 (q := (RX7, TX7, 4)) rfl zw_424 zw_425 zw_426 dX9_takesRule_61) (z_c (ok_iload_n dX9_takesRule_64 rfl) (z_c (ok_if_ne dX9_takesRule_65 (by decide)) (z_c (ok_aload_n dX9_takesRule_68 rfl) (z_c (ok_getf (C := RX9) (T := TX9) (N := 4) rfl (by decide) zinX9 rfl zw_336 dX9_takesRule_69) (z_c (ok_iconst (v := (0)) dX9_takesRule_72 (by decide)) (z_c (ok_callVN zcal_104 (q := (RX10, TX10, 3)) rfl zx_nest_13 zw_427 zw_428 dX9_takesRule_73) (z_c (ok_goto dX9_takesRule_76 (by decide)) z_n))))))))))))
noncomputable def tX9_takesRule_3 : List (Nat × zF) := [(79, (zla4 0 1)), (80, (zgf 9 1)), (83, (zst 1 (zp (.int (0))))), (84, (zcv 100 1 10)), (87, (zsi4 3 2 1)), (88, (zla4 0 1)), (89, (zgf 9 2)), (92, (zgf 4 17)), (95, (zli4 1 1)), (96, (zcv 77 1 7)), (99, (zli4 2 1)), (100, (zri true))]
theorem kX9_takesRule_3 : ∀ q ∈ tX9_takesRule_3, zOk zg iX9_takesRule q.1 q.2 := (z_c (ok_aload_n dX9_takesRule_79 rfl) (z_c (ok_getf (C := RX9) (T := TX9) (N := 4) rfl (by decide) zinX9 rfl zw_336 dX9_takesRule_80) (z_c (ok_iconst (v := (0)) dX9_takesRule_83 (by decide)) (z_c (ok_callVN zcal_100 (q := (RX10, TX10, 3)) rfl zx_nest_14 zw_429 zw_430 dX9_takesRule_84) (z_c (ok_istore_n dX9_takesRule_87 rfl) (z_c (ok_aload_n dX9_takesRule_88 rfl) (z_c (ok_getf (C := RX9) (T := TX9) (N := 4) rfl (by decide) zinX9 rfl zw_329 dX9_takesRule_89) (z_c (ok_getf (C := RX4) (T := TX4) (N := 18) rfl (by decide) zinX4 rfl zw_333 dX9_takesRule_92) (z_c (ok_iload_n dX9_takesRule_95 rfl) (z_c (ok_callV zcal_77 (q := (RX7, TX7, 4)) rfl zw_431 zw_432 zw_433 dX9_takesRule_96) (z_c (ok_iload_n dX9_takesRule_99 rfl) (z_c (ok_zreturn rfl dX9_takesRule_100) z_n))))))))))))
noncomputable def tX9_takesRule : zT := [(27, tX9_takesRule_0), (53, tX9_takesRule_1), (79, tX9_takesRule_2), (100000, tX9_takesRule_3)]
theorem kX9_takesRule : zTok zg iX9_takesRule tX9_takesRule := (z_t kX9_takesRule_0 (z_t kX9_takesRule_1 (z_t kX9_takesRule_2 (z_t kX9_takesRule_3 z_tn))))
theorem dX9_takesNewName_0 : decode cX9_takesNewName 0 = .ok (.aload_n 0, 1) := by decide +kernel
theorem dX9_takesNewName_1 : decode cX9_takesNewName 1 = .ok (.getfield 12, 3) := by decide +kernel
theorem dX9_takesNewName_4 : decode cX9_takesNewName 4 = .ok (.invokevirtual 164, 3) := by decide +kernel
theorem dX9_takesNewName_7 : decode cX9_takesNewName 7 = .ok (.ifCond .ne 5, 3) := by decide +kernel
theorem dX9_takesNewName_10 : decode cX9_takesNewName 10 = .ok (.iconst 0, 1) := by decide +kernel
theorem dX9_takesNewName_11 : decode cX9_takesNewName 11 = .ok (.ireturn, 1) := by decide +kernel
theorem dX9_takesNewName_12 : decode cX9_takesNewName 12 = .ok (.aload_n 0, 1) := by decide +kernel
theorem dX9_takesNewName_13 : decode cX9_takesNewName 13 = .ok (.getfield 18, 3) := by decide +kernel
theorem dX9_takesNewName_16 : decode cX9_takesNewName 16 = .ok (.aload_n 0, 1) := by decide +kernel
theorem dX9_takesNewName_17 : decode cX9_takesNewName 17 = .ok (.getfield 12, 3) := by decide +kernel
theorem dX9_takesNewName_20 : decode cX9_takesNewName 20 = .ok (.getfield 81, 3) := by decide +kernel
theorem dX9_takesNewName_23 : decode cX9_takesNewName 23 = .ok (.invokevirtual 206, 3) := by decide +kernel
theorem dX9_takesNewName_26 : decode cX9_takesNewName 26 = .ok (.ifCond .eq 21, 3) := by decide +kernel
theorem dX9_takesNewName_29 : decode cX9_takesNewName 29 = .ok (.aload_n 0, 1) := by decide +kernel
theorem dX9_takesNewName_30 : decode cX9_takesNewName 30 = .ok (.getfield 12, 3) := by decide +kernel
theorem dX9_takesNewName_33 : decode cX9_takesNewName 33 = .ok (.iconst 2, 1) := by decide +kernel
theorem dX9_takesNewName_34 : decode cX9_takesNewName 34 = .ok (.aload_n 0, 1) := by decide +kernel
theorem dX9_takesNewName_35 : decode cX9_takesNewName 35 = .ok (.getfield 12, 3) := by decide +kernel
theorem dX9_takesNewName_38 : decode cX9_takesNewName 38 = .ok (.getfield 171, 3) := by decide +kernel
theorem dX9_takesNewName_41 : decode cX9_takesNewName 41 = .ok (.invokevirtual 71, 3) := by decide +kernel
theorem dX9_takesNewName_44 : decode cX9_takesNewName 44 = .ok (.ifCond .eq 7, 3) := by decide +kernel
theorem dX9_takesNewName_47 : decode cX9_takesNewName 47 = .ok (.iconst 1, 1) := by decide +kernel
theorem dX9_takesNewName_48 : decode cX9_takesNewName 48 = .ok (.goto 4, 3) := by decide +kernel
theorem dX9_takesNewName_51 : decode cX9_takesNewName 51 = .ok (.iconst 0, 1) := by decide +kernel
theorem dX9_takesNewName_52 : decode cX9_takesNewName 52 = .ok (.ireturn, 1) := by decide +kernel
noncomputable def tX9_takesNewName_0 : List (Nat × zF) := [(0, (zla4 0 1)), (1, (zgf 9 0)), (4, (zcv 66 0 5)), (7, (z_if_ne 12)), (10, (zst 1 (zp (.int (0))))), (11, (zri true)), (12, (zla4 0 1)), (13, (zgf 9 2)), (16, (zla4 0 1)), (17, (zgf 9 0)), (20, (zgf 5 8)), (23, (zcv 55 1 4))]
theorem kX9_takesNewName_0 : ∀ q ∈ tX9_takesNewName_0, zOk zg iX9_takesNewName q.1 q.2 := (z_c (ok_aload_n dX9_takesNewName_0 rfl) (z_c (ok_getf (C := RX9) (T := TX9) (N := 4) rfl (by decide) zinX9 rfl zw_328 dX9_takesNewName_1) (z_c (ok_callV zcal_66 (q := (RX5, TX5, 12)) rfl zw_411 zw_412 zw_413 dX9_takesNewName_4) (z_c (ok_if_ne dX9_takesNewName_7 (by decide)) (z_c (ok_iconst (v := (0)) dX9_takesNewName_10 (by decide)) (z_c (ok_zreturn rfl dX9_takesNewName_11) (z_c (ok_aload_n dX9_takesNewName_12 rfl) (z_c (ok_getf (C := RX9) (T := TX9) (N := 4) rfl (by decide) zinX9 rfl zw_329 dX9_takesNewName_13) (z_c (ok_aload_n dX9_takesNewName_16 rfl) (z_c (ok_getf (C := RX9) (T := TX9) (N := 4) rfl (by decide) zinX9 rfl zw_328 dX9_takesNewName_17) (z_c (ok_getf (C := RX5) (T := TX5) (N := 12) rfl (by decide) zinX5 rfl zw_364 dX9_takesNewName_20) (z_c (ok_callV zcal_55 (q := (RX4, TX4, 18)) rfl zw_434 zw_435 zw_436 dX9_takesNewName_23) z_n))))))))))))
noncomputable def tX9_takesNewName_1 : List (Nat × zF) := [(26, (z_if_eq 47)), (29, (zla4 0 1)), (30, (zgf 9 0)), (33, (zst 1 (zp (.int (2))))), (34, (zla4 0 1)), (35, (zgf 9 0)), (38, (zgf 5 9)), (41, (zcv 63 2 5)), (44, (z_if_eq 51)), (47, (zst 1 (zp (.int (1))))), (48, (zgt 52)), (51, (zst 1 (zp (.int (0)))))]
theorem kX9_takesNewName_1 : ∀ q ∈ tX9_takesNewName_1, zOk zg iX9_takesNewName q.1 q.2 := (z_c (ok_if_eq dX9_takesNewName_26 (by decide)) (z_c (ok_aload_n dX9_takesNewName_29 rfl) (z_c (ok_getf (C := RX9) (T := TX9) (N := 4) rfl (by decide) zinX9 rfl zw_328 dX9_takesNewName_30) (z_c (ok_iconst (v := (2)) dX9_takesNewName_33 (by decide)) (z_c (ok_aload_n dX9_takesNewName_34 rfl) (z_c (ok_getf (C := RX9) (T := TX9) (N := 4) rfl (by decide) zinX9 rfl zw_328 dX9_takesNewName_35) (z_c (ok_getf (C := RX5) (T := TX5) (N := 12) rfl (by decide) zinX5 rfl zw_415 dX9_takesNewName_38) (z_c (ok_callV zcal_63 (q := (RX5, TX5, 12)) rfl zw_357 zw_274 zw_275 dX9_takesNewName_41) (z_c (ok_if_eq dX9_takesNewName_44 (by decide)) (z_c (ok_iconst (v := (1)) dX9_takesNewName_47 (by decide)) (z_c (ok_goto dX9_takesNewName_48 (by decide)) (z_c (ok_iconst (v := (0)) dX9_takesNewName_51 (by decide)) z_n))))))))))))
noncomputable def tX9_takesNewName_2 : List (Nat × zF) := [(52, (zri true))]
theorem kX9_takesNewName_2 : ∀ q ∈ tX9_takesNewName_2, zOk zg iX9_takesNewName q.1 q.2 := (z_c (ok_zreturn rfl dX9_takesNewName_52) z_n)
noncomputable def tX9_takesNewName : zT := [(26, tX9_takesNewName_0), (52, tX9_takesNewName_1), (100000, tX9_takesNewName_2)]
theorem kX9_takesNewName : zTok zg iX9_takesNewName tX9_takesNewName := (z_t kX9_takesNewName_0 (z_t kX9_takesNewName_1 (z_t kX9_takesNewName_2 z_tn)))
theorem dX9_takesCell_0 : decode cX9_takesCell 0 = .ok (.aload_n 0, 1) := by decide +kernel
theorem dX9_takesCell_1 : decode cX9_takesCell 1 = .ok (.getfield 12, 3) := by decide +kernel
theorem dX9_takesCell_4 : decode cX9_takesCell 4 = .ok (.iconst 0, 1) := by decide +kernel
theorem dX9_takesCell_5 : decode cX9_takesCell 5 = .ok (.aload_n 0, 1) := by decide +kernel
theorem dX9_takesCell_6 : decode cX9_takesCell 6 = .ok (.getfield 18, 3) := by decide +kernel
theorem dX9_takesCell_9 : decode cX9_takesCell 9 = .ok (.getfield 209, 3) := by decide +kernel
theorem dX9_takesCell_12 : decode cX9_takesCell 12 = .ok (.iconst 1, 1) := by decide +kernel
theorem dX9_takesCell_13 : decode cX9_takesCell 13 = .ok (.isub, 1) := by decide +kernel
theorem dX9_takesCell_14 : decode cX9_takesCell 14 = .ok (.invokevirtual 78, 3) := by decide +kernel
theorem dX9_takesCell_17 : decode cX9_takesCell 17 = .ok (.ifCond .ne 5, 3) := by decide +kernel
theorem dX9_takesCell_20 : decode cX9_takesCell 20 = .ok (.iconst 0, 1) := by decide +kernel
theorem dX9_takesCell_21 : decode cX9_takesCell 21 = .ok (.ireturn, 1) := by decide +kernel
theorem dX9_takesCell_22 : decode cX9_takesCell 22 = .ok (.aload_n 0, 1) := by decide +kernel
theorem dX9_takesCell_23 : decode cX9_takesCell 23 = .ok (.getfield 12, 3) := by decide +kernel
theorem dX9_takesCell_26 : decode cX9_takesCell 26 = .ok (.getfield 81, 3) := by decide +kernel
theorem dX9_takesCell_29 : decode cX9_takesCell 29 = .ok (.istore_n 3, 1) := by decide +kernel
theorem dX9_takesCell_30 : decode cX9_takesCell 30 = .ok (.aload_n 0, 1) := by decide +kernel
theorem dX9_takesCell_31 : decode cX9_takesCell 31 = .ok (.getfield 12, 3) := by decide +kernel
theorem dX9_takesCell_34 : decode cX9_takesCell 34 = .ok (.iconst 0, 1) := by decide +kernel
theorem dX9_takesCell_35 : decode cX9_takesCell 35 = .ok (.aload_n 0, 1) := by decide +kernel
theorem dX9_takesCell_36 : decode cX9_takesCell 36 = .ok (.getfield 18, 3) := by decide +kernel
theorem dX9_takesCell_39 : decode cX9_takesCell 39 = .ok (.getfield 212, 3) := by decide +kernel
theorem dX9_takesCell_42 : decode cX9_takesCell 42 = .ok (.iconst 1, 1) := by decide +kernel
theorem dX9_takesCell_43 : decode cX9_takesCell 43 = .ok (.isub, 1) := by decide +kernel
theorem dX9_takesCell_44 : decode cX9_takesCell 44 = .ok (.invokevirtual 78, 3) := by decide +kernel
theorem dX9_takesCell_47 : decode cX9_takesCell 47 = .ok (.ifCond .ne 5, 3) := by decide +kernel
theorem dX9_takesCell_50 : decode cX9_takesCell 50 = .ok (.iconst 0, 1) := by decide +kernel
theorem dX9_takesCell_51 : decode cX9_takesCell 51 = .ok (.ireturn, 1) := by decide +kernel
theorem dX9_takesCell_52 : decode cX9_takesCell 52 = .ok (.aload_n 0, 1) := by decide +kernel
theorem dX9_takesCell_53 : decode cX9_takesCell 53 = .ok (.iload_n 3, 1) := by decide +kernel
theorem dX9_takesCell_54 : decode cX9_takesCell 54 = .ok (.aload_n 0, 1) := by decide +kernel
theorem dX9_takesCell_55 : decode cX9_takesCell 55 = .ok (.getfield 12, 3) := by decide +kernel
theorem dX9_takesCell_58 : decode cX9_takesCell 58 = .ok (.getfield 81, 3) := by decide +kernel
theorem dX9_takesCell_61 : decode cX9_takesCell 61 = .ok (.invokestatic 215, 3) := by decide +kernel
theorem dX9_takesCell_64 : decode cX9_takesCell 64 = .ok (.putfield 135, 3) := by decide +kernel
theorem dX9_takesCell_67 : decode cX9_takesCell 67 = .ok (.lload_n 1, 1) := by decide +kernel
theorem dX9_takesCell_68 : decode cX9_takesCell 68 = .ok (.aload_n 0, 1) := by decide +kernel
theorem dX9_takesCell_69 : decode cX9_takesCell 69 = .ok (.getfield 135, 3) := by decide +kernel
theorem dX9_takesCell_72 : decode cX9_takesCell 72 = .ok (.invokestatic 138, 3) := by decide +kernel
theorem dX9_takesCell_75 : decode cX9_takesCell 75 = .ok (.land, 1) := by decide +kernel
theorem dX9_takesCell_76 : decode cX9_takesCell 76 = .ok (.lconst 0, 1) := by decide +kernel
theorem dX9_takesCell_77 : decode cX9_takesCell 77 = .ok (.lcmp, 1) := by decide +kernel
theorem dX9_takesCell_78 : decode cX9_takesCell 78 = .ok (.ifCond .eq 21, 3) := by decide +kernel
theorem dX9_takesCell_81 : decode cX9_takesCell 81 = .ok (.aload_n 0, 1) := by decide +kernel
theorem dX9_takesCell_82 : decode cX9_takesCell 82 = .ok (.getfield 12, 3) := by decide +kernel
theorem dX9_takesCell_85 : decode cX9_takesCell 85 = .ok (.iconst 4, 1) := by decide +kernel
theorem dX9_takesCell_86 : decode cX9_takesCell 86 = .ok (.aload_n 0, 1) := by decide +kernel
theorem dX9_takesCell_87 : decode cX9_takesCell 87 = .ok (.getfield 12, 3) := by decide +kernel
theorem dX9_takesCell_90 : decode cX9_takesCell 90 = .ok (.getfield 171, 3) := by decide +kernel
theorem dX9_takesCell_93 : decode cX9_takesCell 93 = .ok (.invokevirtual 71, 3) := by decide +kernel
theorem dX9_takesCell_96 : decode cX9_takesCell 96 = .ok (.ifCond .eq 7, 3) := by decide +kernel
theorem dX9_takesCell_99 : decode cX9_takesCell 99 = .ok (.iconst 1, 1) := by decide +kernel
theorem dX9_takesCell_100 : decode cX9_takesCell 100 = .ok (.goto 4, 3) := by decide +kernel
theorem dX9_takesCell_103 : decode cX9_takesCell 103 = .ok (.iconst 0, 1) := by decide +kernel
theorem dX9_takesCell_104 : decode cX9_takesCell 104 = .ok (.ireturn, 1) := by decide +kernel
noncomputable def tX9_takesCell_0 : List (Nat × zF) := [(0, (zla4 0 1)), (1, (zgf 9 0)), (4, (zst 1 (zp (.int (0))))), (5, (zla4 0 1)), (6, (zgf 9 2)), (9, (zgf 4 1)), (12, (zst 1 (zp (.int (1))))), (13, (zst 1 z_isub)), (14, (zcv 67 2 5)), (17, (z_if_ne 22)), (20, (zst 1 (zp (.int (0))))), (21, (zri true))]
theorem kX9_takesCell_0 : ∀ q ∈ tX9_takesCell_0, zOk zg iX9_takesCell q.1 q.2 := (z_c (ok_aload_n dX9_takesCell_0 rfl) (z_c (ok_getf (C := RX9) (T := TX9) (N := 4) rfl (by decide) zinX9 rfl zw_328 dX9_takesCell_1) (z_c (ok_iconst (v := (0)) dX9_takesCell_4 (by decide)) (z_c (ok_aload_n dX9_takesCell_5 rfl) (z_c (ok_getf (C := RX9) (T := TX9) (N := 4) rfl (by decide) zinX9 rfl zw_329 dX9_takesCell_6) (z_c (ok_getf (C := RX4) (T := TX4) (N := 18) rfl (by decide) zinX4 rfl zw_437 dX9_takesCell_9) (z_c (ok_iconst (v := (1)) dX9_takesCell_12 (by decide)) (z_c (ok_isub dX9_takesCell_13) (z_c (ok_callV zcal_67 (q := (RX5, TX5, 12)) rfl zw_361 zw_362 zw_363 dX9_takesCell_14) (z_c (ok_if_ne dX9_takesCell_17 (by decide)) (z_c (ok_iconst (v := (0)) dX9_takesCell_20 (by decide)) (z_c (ok_zreturn rfl dX9_takesCell_21) z_n))))))))))))
noncomputable def tX9_takesCell_1 : List (Nat × zF) := [(22, (zla4 0 1)), (23, (zgf 9 0)), (26, (zgf 5 8)), (29, (zsi4 4 3 1)), (30, (zla4 0 1)), (31, (zgf 9 0)), (34, (zst 1 (zp (.int (0))))), (35, (zla4 0 1)), (36, (zgf 9 2)), (39, (zgf 4 2)), (42, (zst 1 (zp (.int (1))))), (43, (zst 1 z_isub))]
theorem kX9_takesCell_1 : ∀ q ∈ tX9_takesCell_1, zOk zg iX9_takesCell q.1 q.2 := (z_c (ok_aload_n dX9_takesCell_22 rfl) (z_c (ok_getf (C := RX9) (T := TX9) (N := 4) rfl (by decide) zinX9 rfl zw_328 dX9_takesCell_23) (z_c (ok_getf (C := RX5) (T := TX5) (N := 12) rfl (by decide) zinX5 rfl zw_364 dX9_takesCell_26) (z_c (ok_istore_n dX9_takesCell_29 rfl) (z_c (ok_aload_n dX9_takesCell_30 rfl) (z_c (ok_getf (C := RX9) (T := TX9) (N := 4) rfl (by decide) zinX9 rfl zw_328 dX9_takesCell_31) (z_c (ok_iconst (v := (0)) dX9_takesCell_34 (by decide)) (z_c (ok_aload_n dX9_takesCell_35 rfl) (z_c (ok_getf (C := RX9) (T := TX9) (N := 4) rfl (by decide) zinX9 rfl zw_329 dX9_takesCell_36) (z_c (ok_getf (C := RX4) (T := TX4) (N := 18) rfl (by decide) zinX4 rfl zw_438 dX9_takesCell_39) (z_c (ok_iconst (v := (1)) dX9_takesCell_42 (by decide)) (z_c (ok_isub dX9_takesCell_43) z_n))))))))))))
noncomputable def tX9_takesCell_2 : List (Nat × zF) := [(44, (zcv 67 2 5)), (47, (z_if_ne 52)), (50, (zst 1 (zp (.int (0))))), (51, (zri true)), (52, (zla4 0 1)), (53, (zli4 3 1)), (54, (zla4 0 1)), (55, (zgf 9 0)), (58, (zgf 5 8)), (61, (zcs 160 2)), (64, (zpf 9 3 (.int))), (67, (zll4 1 1))]
theorem kX9_takesCell_2 : ∀ q ∈ tX9_takesCell_2, zOk zg iX9_takesCell q.1 q.2 := (z_c (ok_callV zcal_67 (q := (RX5, TX5, 12)) rfl zw_361 zw_362 zw_363 dX9_takesCell_44) (z_c (ok_if_ne dX9_takesCell_47 (by decide)) (z_c (ok_iconst (v := (0)) dX9_takesCell_50 (by decide)) (z_c (ok_zreturn rfl dX9_takesCell_51) (z_c (ok_aload_n dX9_takesCell_52 rfl) (z_c (ok_iload_n dX9_takesCell_53 rfl) (z_c (ok_aload_n dX9_takesCell_54 rfl) (z_c (ok_getf (C := RX9) (T := TX9) (N := 4) rfl (by decide) zinX9 rfl zw_328 dX9_takesCell_55) (z_c (ok_getf (C := RX5) (T := TX5) (N := 12) rfl (by decide) zinX5 rfl zw_364 dX9_takesCell_58) (z_c (ok_callSN zcal_160 zx_nest_15 zw_198 dX9_takesCell_61) (z_c (ok_putf (C := RX9) (T := TX9) (N := 4) false tyX9 tyX9_ok nmX9 rfl (by decide) zinX9 rfl zw_401 rfl (fun h => absurd h (by decide)) rfl dX9_takesCell_64) (z_c (ok_lload_n dX9_takesCell_67 rfl) z_n))))))))))))
noncomputable def tX9_takesCell_3 : List (Nat × zF) := [(68, (zla4 0 1)), (69, (zgf 9 3)), (72, (zcs 163 1)), (75, (zst 1 z_land)), (76, (zst 1 (zp (.long (0))))), (77, (zst 1 zcm)), (78, (z_if_eq 99)), (81, (zla4 0 1)), (82, (zgf 9 0)), (85, (zst 1 (zp (.int (4))))), (86, (zla4 0 1)), (87, (zgf 9 0))]
theorem kX9_takesCell_3 : ∀ q ∈ tX9_takesCell_3, zOk zg iX9_takesCell q.1 q.2 := (z_c (ok_aload_n dX9_takesCell_68 rfl) (z_c (ok_getf (C := RX9) (T := TX9) (N := 4) rfl (by decide) zinX9 rfl zw_401 dX9_takesCell_69) (z_c (ok_callSN zcal_163 zx_nest_12 zw_54 dX9_takesCell_72) (z_c (ok_land dX9_takesCell_75) (z_c (ok_lconst (v := (0)) dX9_takesCell_76 (by decide)) (z_c (ok_lcmp dX9_takesCell_77) (z_c (ok_if_eq dX9_takesCell_78 (by decide)) (z_c (ok_aload_n dX9_takesCell_81 rfl) (z_c (ok_getf (C := RX9) (T := TX9) (N := 4) rfl (by decide) zinX9 rfl zw_328 dX9_takesCell_82) (z_c (ok_iconst (v := (4)) dX9_takesCell_85 (by decide)) (z_c (ok_aload_n dX9_takesCell_86 rfl) (z_c (ok_getf (C := RX9) (T := TX9) (N := 4) rfl (by decide) zinX9 rfl zw_328 dX9_takesCell_87) z_n))))))))))))
noncomputable def tX9_takesCell_4 : List (Nat × zF) := [(90, (zgf 5 9)), (93, (zcv 63 2 5)), (96, (z_if_eq 103)), (99, (zst 1 (zp (.int (1))))), (100, (zgt 104)), (103, (zst 1 (zp (.int (0))))), (104, (zri true))]
theorem kX9_takesCell_4 : ∀ q ∈ tX9_takesCell_4, zOk zg iX9_takesCell q.1 q.2 := (z_c (ok_getf (C := RX5) (T := TX5) (N := 12) rfl (by decide) zinX5 rfl zw_415 dX9_takesCell_90) (z_c (ok_callV zcal_63 (q := (RX5, TX5, 12)) rfl zw_357 zw_274 zw_275 dX9_takesCell_93) (z_c (ok_if_eq dX9_takesCell_96 (by decide)) (z_c (ok_iconst (v := (1)) dX9_takesCell_99 (by decide)) (z_c (ok_goto dX9_takesCell_100 (by decide)) (z_c (ok_iconst (v := (0)) dX9_takesCell_103 (by decide)) (z_c (ok_zreturn rfl dX9_takesCell_104) z_n)))))))
noncomputable def tX9_takesCell : zT := [(22, tX9_takesCell_0), (44, tX9_takesCell_1), (68, tX9_takesCell_2), (90, tX9_takesCell_3), (100000, tX9_takesCell_4)]
theorem kX9_takesCell : zTok zg iX9_takesCell tX9_takesCell := (z_t kX9_takesCell_0 (z_t kX9_takesCell_1 (z_t kX9_takesCell_2 (z_t kX9_takesCell_3 (z_t kX9_takesCell_4 z_tn)))))
theorem dX10_init_0 : decode cX10_init 0 = .ok (.aload_n 0, 1) := by decide +kernel
theorem dX10_init_1 : decode cX10_init 1 = .ok (.invokespecial 3, 3) := by decide +kernel
theorem dX10_init_4 : decode cX10_init 4 = .ok (.aload_n 0, 1) := by decide +kernel
theorem dX10_init_5 : decode cX10_init 5 = .ok (.aload_n 1, 1) := by decide +kernel
theorem dX10_init_6 : decode cX10_init 6 = .ok (.putfield 9, 3) := by decide +kernel
theorem dX10_init_9 : decode cX10_init 9 = .ok (.aload_n 0, 1) := by decide +kernel
theorem dX10_init_10 : decode cX10_init 10 = .ok (.aload_n 2, 1) := by decide +kernel
theorem dX10_init_11 : decode cX10_init 11 = .ok (.putfield 15, 3) := by decide +kernel
theorem dX10_init_14 : decode cX10_init 14 = .ok (.return_, 1) := by decide +kernel
noncomputable def tX10_init_0 : List (Nat × zF) := [(0, (zla4 0 1)), (1, zoi), (4, (zla4 0 1)), (5, (zla4 1 1)), (6, (zpf 10 0 (.object "MissingLamps$Reader"))), (9, (zla4 0 1)), (10, (zla4 2 1)), (11, (zpf 10 1 (.object "MissingLamps$Rules"))), (14, zrv)]
theorem kX10_init_0 : ∀ q ∈ tX10_init_0, zOk zg iX10_init q.1 q.2 := (z_c (ok_aload_n dX10_init_0 rfl) (z_c (ok_objInit zw_439 zw_1 zw_2 dX10_init_1) (z_c (ok_aload_n dX10_init_4 rfl) (z_c (ok_aload_n dX10_init_5 rfl) (z_c (ok_putf (C := RX10) (T := TX10) (N := 3) true tyX10 tyX10_ok nmX10 rfl (by decide) zinX10 rfl zw_440 rfl (fun _ => ⟨rfl, rfl⟩) rfl dX10_init_6) (z_c (ok_aload_n dX10_init_9 rfl) (z_c (ok_aload_n dX10_init_10 rfl) (z_c (ok_putf (C := RX10) (T := TX10) (N := 3) false tyX10 tyX10_ok nmX10 rfl (by decide) zinX10 rfl zw_441 rfl (fun h => absurd h (by decide)) rfl dX10_init_11) (z_c (ok_return rfl dX10_init_14) z_n)))))))))
noncomputable def tX10_init : zT := [(100000, tX10_init_0)]
theorem kX10_init : zTok zg iX10_init tX10_init := (z_t kX10_init_0 z_tn)
theorem dX10_begin_0 : decode cX10_begin 0 = .ok (.aload_n 0, 1) := by decide +kernel
theorem dX10_begin_1 : decode cX10_begin 1 = .ok (.aload_n 1, 1) := by decide +kernel
theorem dX10_begin_2 : decode cX10_begin 2 = .ok (.putfield 15, 3) := by decide +kernel
theorem dX10_begin_5 : decode cX10_begin 5 = .ok (.aload_n 0, 1) := by decide +kernel
theorem dX10_begin_6 : decode cX10_begin 6 = .ok (.iload_n 2, 1) := by decide +kernel
theorem dX10_begin_7 : decode cX10_begin 7 = .ok (.putfield 19, 3) := by decide +kernel
theorem dX10_begin_10 : decode cX10_begin 10 = .ok (.return_, 1) := by decide +kernel
noncomputable def tX10_begin_0 : List (Nat × zF) := [(0, (zla4 0 1)), (1, (zla4 1 1)), (2, (zpf 10 1 (.object "MissingLamps$Rules"))), (5, (zla4 0 1)), (6, (zli4 2 1)), (7, (zpf 10 2 (.int))), (10, zrv)]
theorem kX10_begin_0 : ∀ q ∈ tX10_begin_0, zOk zg iX10_begin q.1 q.2 := (z_c (ok_aload_n dX10_begin_0 rfl) (z_c (ok_aload_n dX10_begin_1 rfl) (z_c (ok_putf (C := RX10) (T := TX10) (N := 3) false tyX10 tyX10_ok nmX10 rfl (by decide) zinX10 rfl zw_441 rfl (fun h => absurd h (by decide)) rfl dX10_begin_2) (z_c (ok_aload_n dX10_begin_5 rfl) (z_c (ok_iload_n dX10_begin_6 rfl) (z_c (ok_putf (C := RX10) (T := TX10) (N := 3) false tyX10 tyX10_ok nmX10 rfl (by decide) zinX10 rfl zw_442 rfl (fun h => absurd h (by decide)) rfl dX10_begin_7) (z_c (ok_return rfl dX10_begin_10) z_n)))))))
noncomputable def tX10_begin : zT := [(100000, tX10_begin_0)]
theorem kX10_begin : zTok zg iX10_begin tX10_begin := (z_t kX10_begin_0 z_tn)
theorem dX10_takesTest_0 : decode cX10_takesTest 0 = .ok (.aload_n 0, 1) := by decide +kernel
theorem dX10_takesTest_1 : decode cX10_takesTest 1 = .ok (.iload_n 1, 1) := by decide +kernel
theorem dX10_takesTest_2 : decode cX10_takesTest 2 = .ok (.invokevirtual 23, 3) := by decide +kernel
theorem dX10_takesTest_5 : decode cX10_takesTest 5 = .ok (.istore_n 2, 1) := by decide +kernel
theorem dX10_takesTest_6 : decode cX10_takesTest 6 = .ok (.iconst 0, 1) := by decide +kernel
theorem dX10_takesTest_7 : decode cX10_takesTest 7 = .ok (.istore_n 3, 1) := by decide +kernel
theorem dX10_takesTest_8 : decode cX10_takesTest 8 = .ok (.iload_n 3, 1) := by decide +kernel
theorem dX10_takesTest_9 : decode cX10_takesTest 9 = .ok (.sipush 1600, 3) := by decide +kernel
theorem dX10_takesTest_12 : decode cX10_takesTest 12 = .ok (.if_icmp .ge 59, 3) := by decide +kernel
theorem dX10_takesTest_15 : decode cX10_takesTest 15 = .ok (.iload_n 2, 1) := by decide +kernel
theorem dX10_takesTest_16 : decode cX10_takesTest 16 = .ok (.ifCond .eq 55, 3) := by decide +kernel
theorem dX10_takesTest_19 : decode cX10_takesTest 19 = .ok (.aload_n 0, 1) := by decide +kernel
theorem dX10_takesTest_20 : decode cX10_takesTest 20 = .ok (.getfield 9, 3) := by decide +kernel
theorem dX10_takesTest_23 : decode cX10_takesTest 23 = .ok (.bipush 20, 2) := by decide +kernel
theorem dX10_takesTest_25 : decode cX10_takesTest 25 = .ok (.invokevirtual 27, 3) := by decide +kernel
theorem dX10_takesTest_28 : decode cX10_takesTest 28 = .ok (.ifCond .eq 43, 3) := by decide +kernel
theorem dX10_takesTest_31 : decode cX10_takesTest 31 = .ok (.aload_n 0, 1) := by decide +kernel
theorem dX10_takesTest_32 : decode cX10_takesTest 32 = .ok (.getfield 9, 3) := by decide +kernel
theorem dX10_takesTest_35 : decode cX10_takesTest 35 = .ok (.invokevirtual 32, 3) := by decide +kernel
theorem dX10_takesTest_38 : decode cX10_takesTest 38 = .ok (.aload_n 0, 1) := by decide +kernel
theorem dX10_takesTest_39 : decode cX10_takesTest 39 = .ok (.iload_n 1, 1) := by decide +kernel
theorem dX10_takesTest_40 : decode cX10_takesTest 40 = .ok (.invokevirtual 23, 3) := by decide +kernel
theorem dX10_takesTest_43 : decode cX10_takesTest 43 = .ok (.ifCond .eq 20, 3) := by decide +kernel
theorem dX10_takesTest_46 : decode cX10_takesTest 46 = .ok (.aload_n 0, 1) := by decide +kernel
theorem dX10_takesTest_47 : decode cX10_takesTest 47 = .ok (.getfield 15, 3) := by decide +kernel
theorem dX10_takesTest_50 : decode cX10_takesTest 50 = .ok (.sipush 10020, 3) := by decide +kernel
theorem dX10_takesTest_53 : decode cX10_takesTest 53 = .ok (.invokevirtual 35, 3) := by decide +kernel
theorem dX10_takesTest_56 : decode cX10_takesTest 56 = .ok (.ifCond .eq 7, 3) := by decide +kernel
theorem dX10_takesTest_59 : decode cX10_takesTest 59 = .ok (.iconst 1, 1) := by decide +kernel
theorem dX10_takesTest_60 : decode cX10_takesTest 60 = .ok (.goto 4, 3) := by decide +kernel
theorem dX10_takesTest_63 : decode cX10_takesTest 63 = .ok (.iconst 0, 1) := by decide +kernel
theorem dX10_takesTest_64 : decode cX10_takesTest 64 = .ok (.istore_n 2, 1) := by decide +kernel
theorem dX10_takesTest_65 : decode cX10_takesTest 65 = .ok (.iinc 3 1, 3) := by decide +kernel
theorem dX10_takesTest_68 : decode cX10_takesTest 68 = .ok (.goto (-60), 3) := by decide +kernel
theorem dX10_takesTest_71 : decode cX10_takesTest 71 = .ok (.iload_n 2, 1) := by decide +kernel
theorem dX10_takesTest_72 : decode cX10_takesTest 72 = .ok (.ireturn, 1) := by decide +kernel
noncomputable def tX10_takesTest_0 : List (Nat × zF) := [(0, (zla4 0 1)), (1, (zli4 1 1)), (2, (zcv 101 1 10)), (5, (zsi4 4 2 1)), (6, (zst 1 (zp (.int (0))))), (7, (zsi4 4 3 1)), (8, (zli4 3 1)), (9, (zst 3 (zp (.int (1600))))), (12, (z_ic_ge 71)), (15, (zli4 2 1)), (16, (z_if_eq 71)), (19, (zla4 0 1))]
theorem kX10_takesTest_0 : ∀ q ∈ tX10_takesTest_0, zOk zg iX10_takesTest q.1 q.2 := (z_c (ok_aload_n dX10_takesTest_0 rfl) (z_c (ok_iload_n dX10_takesTest_1 rfl) (z_c (ok_callV zcal_101 (q := (RX10, TX10, 3)) rfl zw_443 zw_444 zw_445 dX10_takesTest_2) (z_c (ok_istore_n dX10_takesTest_5 rfl) (z_c (ok_iconst (v := (0)) dX10_takesTest_6 (by decide)) (z_c (ok_istore_n dX10_takesTest_7 rfl) (z_c (ok_iload_n dX10_takesTest_8 rfl) (z_c (ok_sipush (v := (1600)) dX10_takesTest_9 (by decide)) (z_c (ok_icmp_ge dX10_takesTest_12 (by decide)) (z_c (ok_iload_n dX10_takesTest_15 rfl) (z_c (ok_if_eq dX10_takesTest_16 (by decide)) (z_c (ok_aload_n dX10_takesTest_19 rfl) z_n))))))))))))
noncomputable def tX10_takesTest_1 : List (Nat × zF) := [(20, (zgf 10 0)), (23, (zst 2 (zp (.int (20))))), (25, (zcv 61 1 5)), (28, (z_if_eq 71)), (31, (zla4 0 1)), (32, (zgf 10 0)), (35, (zcv 58 0 5)), (38, (zla4 0 1)), (39, (zli4 1 1)), (40, (zcv 101 1 10)), (43, (z_if_eq 63)), (46, (zla4 0 1))]
theorem kX10_takesTest_1 : ∀ q ∈ tX10_takesTest_1, zOk zg iX10_takesTest q.1 q.2 := (z_c (ok_getf (C := RX10) (T := TX10) (N := 3) rfl (by decide) zinX10 rfl zw_440 dX10_takesTest_20) (z_c (ok_bipush (v := (20)) dX10_takesTest_23 (by decide)) (z_c (ok_callV zcal_61 (q := (RX5, TX5, 12)) rfl zw_446 zw_271 zw_272 dX10_takesTest_25) (z_c (ok_if_eq dX10_takesTest_28 (by decide)) (z_c (ok_aload_n dX10_takesTest_31 rfl) (z_c (ok_getf (C := RX10) (T := TX10) (N := 3) rfl (by decide) zinX10 rfl zw_440 dX10_takesTest_32) (z_c (ok_callV zcal_58 (q := (RX5, TX5, 12)) rfl zw_447 zw_259 zw_260 dX10_takesTest_35) (z_c (ok_aload_n dX10_takesTest_38 rfl) (z_c (ok_iload_n dX10_takesTest_39 rfl) (z_c (ok_callV zcal_101 (q := (RX10, TX10, 3)) rfl zw_443 zw_444 zw_445 dX10_takesTest_40) (z_c (ok_if_eq dX10_takesTest_43 (by decide)) (z_c (ok_aload_n dX10_takesTest_46 rfl) z_n))))))))))))
noncomputable def tX10_takesTest_2 : List (Nat × zF) := [(47, (zgf 10 1)), (50, (zst 3 (zp (.int (10020))))), (53, (zcv 78 1 7)), (56, (z_if_eq 63)), (59, (zst 1 (zp (.int (1))))), (60, (zgt 64)), (63, (zst 1 (zp (.int (0))))), (64, (zsi4 4 2 1)), (65, (zin4 4 3 (1))), (68, (zgt 8)), (71, (zli4 2 1)), (72, (zri true))]
theorem kX10_takesTest_2 : ∀ q ∈ tX10_takesTest_2, zOk zg iX10_takesTest q.1 q.2 := (z_c (ok_getf (C := RX10) (T := TX10) (N := 3) rfl (by decide) zinX10 rfl zw_441 dX10_takesTest_47) (z_c (ok_sipush (v := (10020)) dX10_takesTest_50 (by decide)) (z_c (ok_callV zcal_78 (q := (RX7, TX7, 4)) rfl zw_448 zw_449 zw_450 dX10_takesTest_53) (z_c (ok_if_eq dX10_takesTest_56 (by decide)) (z_c (ok_iconst (v := (1)) dX10_takesTest_59 (by decide)) (z_c (ok_goto dX10_takesTest_60 (by decide)) (z_c (ok_iconst (v := (0)) dX10_takesTest_63 (by decide)) (z_c (ok_istore_n dX10_takesTest_64 rfl) (z_c (ok_iinc (v := (1)) dX10_takesTest_65 (by decide)) (z_c (ok_goto dX10_takesTest_68 (by decide)) (z_c (ok_iload_n dX10_takesTest_71 rfl) (z_c (ok_zreturn rfl dX10_takesTest_72) z_n))))))))))))
noncomputable def tX10_takesTest : zT := [(20, tX10_takesTest_0), (47, tX10_takesTest_1), (100000, tX10_takesTest_2)]
theorem kX10_takesTest : zTok zg iX10_takesTest tX10_takesTest := (z_t kX10_takesTest_0 (z_t kX10_takesTest_1 (z_t kX10_takesTest_2 z_tn)))
theorem dX10_takesBoth_0 : decode cX10_takesBoth 0 = .ok (.aload_n 0, 1) := by decide +kernel
theorem dX10_takesBoth_1 : decode cX10_takesBoth 1 = .ok (.iload_n 1, 1) := by decide +kernel
theorem dX10_takesBoth_2 : decode cX10_takesBoth 2 = .ok (.invokevirtual 40, 3) := by decide +kernel
theorem dX10_takesBoth_5 : decode cX10_takesBoth 5 = .ok (.istore_n 2, 1) := by decide +kernel
theorem dX10_takesBoth_6 : decode cX10_takesBoth 6 = .ok (.iconst 0, 1) := by decide +kernel
theorem dX10_takesBoth_7 : decode cX10_takesBoth 7 = .ok (.istore_n 3, 1) := by decide +kernel
theorem dX10_takesBoth_8 : decode cX10_takesBoth 8 = .ok (.iload_n 3, 1) := by decide +kernel
theorem dX10_takesBoth_9 : decode cX10_takesBoth 9 = .ok (.sipush 1600, 3) := by decide +kernel
theorem dX10_takesBoth_12 : decode cX10_takesBoth 12 = .ok (.if_icmp .ge 59, 3) := by decide +kernel
theorem dX10_takesBoth_15 : decode cX10_takesBoth 15 = .ok (.iload_n 2, 1) := by decide +kernel
theorem dX10_takesBoth_16 : decode cX10_takesBoth 16 = .ok (.ifCond .eq 55, 3) := by decide +kernel
theorem dX10_takesBoth_19 : decode cX10_takesBoth 19 = .ok (.aload_n 0, 1) := by decide +kernel
theorem dX10_takesBoth_20 : decode cX10_takesBoth 20 = .ok (.getfield 9, 3) := by decide +kernel
theorem dX10_takesBoth_23 : decode cX10_takesBoth 23 = .ok (.bipush 21, 2) := by decide +kernel
theorem dX10_takesBoth_25 : decode cX10_takesBoth 25 = .ok (.invokevirtual 27, 3) := by decide +kernel
theorem dX10_takesBoth_28 : decode cX10_takesBoth 28 = .ok (.ifCond .eq 43, 3) := by decide +kernel
theorem dX10_takesBoth_31 : decode cX10_takesBoth 31 = .ok (.aload_n 0, 1) := by decide +kernel
theorem dX10_takesBoth_32 : decode cX10_takesBoth 32 = .ok (.getfield 9, 3) := by decide +kernel
theorem dX10_takesBoth_35 : decode cX10_takesBoth 35 = .ok (.invokevirtual 32, 3) := by decide +kernel
theorem dX10_takesBoth_38 : decode cX10_takesBoth 38 = .ok (.aload_n 0, 1) := by decide +kernel
theorem dX10_takesBoth_39 : decode cX10_takesBoth 39 = .ok (.iload_n 1, 1) := by decide +kernel
theorem dX10_takesBoth_40 : decode cX10_takesBoth 40 = .ok (.invokevirtual 40, 3) := by decide +kernel
theorem dX10_takesBoth_43 : decode cX10_takesBoth 43 = .ok (.ifCond .eq 20, 3) := by decide +kernel
theorem dX10_takesBoth_46 : decode cX10_takesBoth 46 = .ok (.aload_n 0, 1) := by decide +kernel
theorem dX10_takesBoth_47 : decode cX10_takesBoth 47 = .ok (.getfield 15, 3) := by decide +kernel
theorem dX10_takesBoth_50 : decode cX10_takesBoth 50 = .ok (.sipush 10021, 3) := by decide +kernel
theorem dX10_takesBoth_53 : decode cX10_takesBoth 53 = .ok (.invokevirtual 35, 3) := by decide +kernel
theorem dX10_takesBoth_56 : decode cX10_takesBoth 56 = .ok (.ifCond .eq 7, 3) := by decide +kernel
theorem dX10_takesBoth_59 : decode cX10_takesBoth 59 = .ok (.iconst 1, 1) := by decide +kernel
theorem dX10_takesBoth_60 : decode cX10_takesBoth 60 = .ok (.goto 4, 3) := by decide +kernel
theorem dX10_takesBoth_63 : decode cX10_takesBoth 63 = .ok (.iconst 0, 1) := by decide +kernel
theorem dX10_takesBoth_64 : decode cX10_takesBoth 64 = .ok (.istore_n 2, 1) := by decide +kernel
theorem dX10_takesBoth_65 : decode cX10_takesBoth 65 = .ok (.iinc 3 1, 3) := by decide +kernel
theorem dX10_takesBoth_68 : decode cX10_takesBoth 68 = .ok (.goto (-60), 3) := by decide +kernel
theorem dX10_takesBoth_71 : decode cX10_takesBoth 71 = .ok (.iload_n 2, 1) := by decide +kernel
theorem dX10_takesBoth_72 : decode cX10_takesBoth 72 = .ok (.ireturn, 1) := by decide +kernel
noncomputable def tX10_takesBoth_0 : List (Nat × zF) := [(0, (zla4 0 1)), (1, (zli4 1 1)), (2, (zcv 102 1 10)), (5, (zsi4 4 2 1)), (6, (zst 1 (zp (.int (0))))), (7, (zsi4 4 3 1)), (8, (zli4 3 1)), (9, (zst 3 (zp (.int (1600))))), (12, (z_ic_ge 71)), (15, (zli4 2 1)), (16, (z_if_eq 71)), (19, (zla4 0 1))]
theorem kX10_takesBoth_0 : ∀ q ∈ tX10_takesBoth_0, zOk zg iX10_takesBoth q.1 q.2 := (z_c (ok_aload_n dX10_takesBoth_0 rfl) (z_c (ok_iload_n dX10_takesBoth_1 rfl) (z_c (ok_callV zcal_102 (q := (RX10, TX10, 3)) rfl zw_451 zw_452 zw_453 dX10_takesBoth_2) (z_c (ok_istore_n dX10_takesBoth_5 rfl) (z_c (ok_iconst (v := (0)) dX10_takesBoth_6 (by decide)) (z_c (ok_istore_n dX10_takesBoth_7 rfl) (z_c (ok_iload_n dX10_takesBoth_8 rfl) (z_c (ok_sipush (v := (1600)) dX10_takesBoth_9 (by decide)) (z_c (ok_icmp_ge dX10_takesBoth_12 (by decide)) (z_c (ok_iload_n dX10_takesBoth_15 rfl) (z_c (ok_if_eq dX10_takesBoth_16 (by decide)) (z_c (ok_aload_n dX10_takesBoth_19 rfl) z_n))))))))))))
noncomputable def tX10_takesBoth_1 : List (Nat × zF) := [(20, (zgf 10 0)), (23, (zst 2 (zp (.int (21))))), (25, (zcv 61 1 5)), (28, (z_if_eq 71)), (31, (zla4 0 1)), (32, (zgf 10 0)), (35, (zcv 58 0 5)), (38, (zla4 0 1)), (39, (zli4 1 1)), (40, (zcv 102 1 10)), (43, (z_if_eq 63)), (46, (zla4 0 1))]
theorem kX10_takesBoth_1 : ∀ q ∈ tX10_takesBoth_1, zOk zg iX10_takesBoth q.1 q.2 := (z_c (ok_getf (C := RX10) (T := TX10) (N := 3) rfl (by decide) zinX10 rfl zw_440 dX10_takesBoth_20) (z_c (ok_bipush (v := (21)) dX10_takesBoth_23 (by decide)) (z_c (ok_callV zcal_61 (q := (RX5, TX5, 12)) rfl zw_446 zw_271 zw_272 dX10_takesBoth_25) (z_c (ok_if_eq dX10_takesBoth_28 (by decide)) (z_c (ok_aload_n dX10_takesBoth_31 rfl) (z_c (ok_getf (C := RX10) (T := TX10) (N := 3) rfl (by decide) zinX10 rfl zw_440 dX10_takesBoth_32) (z_c (ok_callV zcal_58 (q := (RX5, TX5, 12)) rfl zw_447 zw_259 zw_260 dX10_takesBoth_35) (z_c (ok_aload_n dX10_takesBoth_38 rfl) (z_c (ok_iload_n dX10_takesBoth_39 rfl) (z_c (ok_callV zcal_102 (q := (RX10, TX10, 3)) rfl zw_451 zw_452 zw_453 dX10_takesBoth_40) (z_c (ok_if_eq dX10_takesBoth_43 (by decide)) (z_c (ok_aload_n dX10_takesBoth_46 rfl) z_n))))))))))))
noncomputable def tX10_takesBoth_2 : List (Nat × zF) := [(47, (zgf 10 1)), (50, (zst 3 (zp (.int (10021))))), (53, (zcv 78 1 7)), (56, (z_if_eq 63)), (59, (zst 1 (zp (.int (1))))), (60, (zgt 64)), (63, (zst 1 (zp (.int (0))))), (64, (zsi4 4 2 1)), (65, (zin4 4 3 (1))), (68, (zgt 8)), (71, (zli4 2 1)), (72, (zri true))]
theorem kX10_takesBoth_2 : ∀ q ∈ tX10_takesBoth_2, zOk zg iX10_takesBoth q.1 q.2 := (z_c (ok_getf (C := RX10) (T := TX10) (N := 3) rfl (by decide) zinX10 rfl zw_441 dX10_takesBoth_47) (z_c (ok_sipush (v := (10021)) dX10_takesBoth_50 (by decide)) (z_c (ok_callV zcal_78 (q := (RX7, TX7, 4)) rfl zw_448 zw_449 zw_450 dX10_takesBoth_53) (z_c (ok_if_eq dX10_takesBoth_56 (by decide)) (z_c (ok_iconst (v := (1)) dX10_takesBoth_59 (by decide)) (z_c (ok_goto dX10_takesBoth_60 (by decide)) (z_c (ok_iconst (v := (0)) dX10_takesBoth_63 (by decide)) (z_c (ok_istore_n dX10_takesBoth_64 rfl) (z_c (ok_iinc (v := (1)) dX10_takesBoth_65 (by decide)) (z_c (ok_goto dX10_takesBoth_68 (by decide)) (z_c (ok_iload_n dX10_takesBoth_71 rfl) (z_c (ok_zreturn rfl dX10_takesBoth_72) z_n))))))))))))
noncomputable def tX10_takesBoth : zT := [(20, tX10_takesBoth_0), (47, tX10_takesBoth_1), (100000, tX10_takesBoth_2)]
theorem kX10_takesBoth : zTok zg iX10_takesBoth tX10_takesBoth := (z_t kX10_takesBoth_0 (z_t kX10_takesBoth_1 (z_t kX10_takesBoth_2 z_tn)))
theorem dX10_takesFact_0 : decode cX10_takesFact 0 = .ok (.aload_n 0, 1) := by decide +kernel
theorem dX10_takesFact_1 : decode cX10_takesFact 1 = .ok (.getfield 9, 3) := by decide +kernel
theorem dX10_takesFact_4 : decode cX10_takesFact 4 = .ok (.bipush 22, 2) := by decide +kernel
theorem dX10_takesFact_6 : decode cX10_takesFact 6 = .ok (.invokevirtual 27, 3) := by decide +kernel
theorem dX10_takesFact_9 : decode cX10_takesFact 9 = .ok (.ifCond .eq 41, 3) := by decide +kernel
theorem dX10_takesFact_12 : decode cX10_takesFact 12 = .ok (.aload_n 0, 1) := by decide +kernel
theorem dX10_takesFact_13 : decode cX10_takesFact 13 = .ok (.iload_n 1, 1) := by decide +kernel
theorem dX10_takesFact_14 : decode cX10_takesFact 14 = .ok (.iconst 1, 1) := by decide +kernel
theorem dX10_takesFact_15 : decode cX10_takesFact 15 = .ok (.invokevirtual 43, 3) := by decide +kernel
theorem dX10_takesFact_18 : decode cX10_takesFact 18 = .ok (.ifCond .eq 30, 3) := by decide +kernel
theorem dX10_takesFact_21 : decode cX10_takesFact 21 = .ok (.aload_n 0, 1) := by decide +kernel
theorem dX10_takesFact_22 : decode cX10_takesFact 22 = .ok (.iload_n 1, 1) := by decide +kernel
theorem dX10_takesFact_23 : decode cX10_takesFact 23 = .ok (.iconst 1, 1) := by decide +kernel
theorem dX10_takesFact_24 : decode cX10_takesFact 24 = .ok (.iadd, 1) := by decide +kernel
theorem dX10_takesFact_25 : decode cX10_takesFact 25 = .ok (.invokevirtual 40, 3) := by decide +kernel
theorem dX10_takesFact_28 : decode cX10_takesFact 28 = .ok (.ifCond .eq 20, 3) := by decide +kernel
theorem dX10_takesFact_31 : decode cX10_takesFact 31 = .ok (.aload_n 0, 1) := by decide +kernel
theorem dX10_takesFact_32 : decode cX10_takesFact 32 = .ok (.getfield 15, 3) := by decide +kernel
theorem dX10_takesFact_35 : decode cX10_takesFact 35 = .ok (.sipush 10022, 3) := by decide +kernel
theorem dX10_takesFact_38 : decode cX10_takesFact 38 = .ok (.invokevirtual 35, 3) := by decide +kernel
theorem dX10_takesFact_41 : decode cX10_takesFact 41 = .ok (.ifCond .eq 7, 3) := by decide +kernel
theorem dX10_takesFact_44 : decode cX10_takesFact 44 = .ok (.iconst 1, 1) := by decide +kernel
theorem dX10_takesFact_45 : decode cX10_takesFact 45 = .ok (.goto 4, 3) := by decide +kernel
theorem dX10_takesFact_48 : decode cX10_takesFact 48 = .ok (.iconst 0, 1) := by decide +kernel
theorem dX10_takesFact_49 : decode cX10_takesFact 49 = .ok (.ireturn, 1) := by decide +kernel
theorem dX10_takesFact_50 : decode cX10_takesFact 50 = .ok (.aload_n 0, 1) := by decide +kernel
theorem dX10_takesFact_51 : decode cX10_takesFact 51 = .ok (.getfield 9, 3) := by decide +kernel
theorem dX10_takesFact_54 : decode cX10_takesFact 54 = .ok (.bipush 91, 2) := by decide +kernel
theorem dX10_takesFact_56 : decode cX10_takesFact 56 = .ok (.invokevirtual 47, 3) := by decide +kernel
theorem dX10_takesFact_59 : decode cX10_takesFact 59 = .ok (.ifCond .eq 40, 3) := by decide +kernel
theorem dX10_takesFact_62 : decode cX10_takesFact 62 = .ok (.aload_n 0, 1) := by decide +kernel
theorem dX10_takesFact_63 : decode cX10_takesFact 63 = .ok (.iload_n 1, 1) := by decide +kernel
theorem dX10_takesFact_64 : decode cX10_takesFact 64 = .ok (.iconst 1, 1) := by decide +kernel
theorem dX10_takesFact_65 : decode cX10_takesFact 65 = .ok (.invokevirtual 43, 3) := by decide +kernel
theorem dX10_takesFact_68 : decode cX10_takesFact 68 = .ok (.ifCond .eq 29, 3) := by decide +kernel
theorem dX10_takesFact_71 : decode cX10_takesFact 71 = .ok (.aload_n 0, 1) := by decide +kernel
theorem dX10_takesFact_72 : decode cX10_takesFact 72 = .ok (.iload_n 1, 1) := by decide +kernel
theorem dX10_takesFact_73 : decode cX10_takesFact 73 = .ok (.iconst 1, 1) := by decide +kernel
theorem dX10_takesFact_74 : decode cX10_takesFact 74 = .ok (.iadd, 1) := by decide +kernel
theorem dX10_takesFact_75 : decode cX10_takesFact 75 = .ok (.invokevirtual 50, 3) := by decide +kernel
theorem dX10_takesFact_78 : decode cX10_takesFact 78 = .ok (.ifCond .eq 19, 3) := by decide +kernel
theorem dX10_takesFact_81 : decode cX10_takesFact 81 = .ok (.aload_n 0, 1) := by decide +kernel
theorem dX10_takesFact_82 : decode cX10_takesFact 82 = .ok (.getfield 9, 3) := by decide +kernel
theorem dX10_takesFact_85 : decode cX10_takesFact 85 = .ok (.bipush 93, 2) := by decide +kernel
theorem dX10_takesFact_87 : decode cX10_takesFact 87 = .ok (.invokevirtual 53, 3) := by decide +kernel
theorem dX10_takesFact_90 : decode cX10_takesFact 90 = .ok (.ifCond .eq 7, 3) := by decide +kernel
theorem dX10_takesFact_93 : decode cX10_takesFact 93 = .ok (.iconst 1, 1) := by decide +kernel
theorem dX10_takesFact_94 : decode cX10_takesFact 94 = .ok (.goto 4, 3) := by decide +kernel
theorem dX10_takesFact_97 : decode cX10_takesFact 97 = .ok (.iconst 0, 1) := by decide +kernel
theorem dX10_takesFact_98 : decode cX10_takesFact 98 = .ok (.ireturn, 1) := by decide +kernel
theorem dX10_takesFact_99 : decode cX10_takesFact 99 = .ok (.aload_n 0, 1) := by decide +kernel
theorem dX10_takesFact_100 : decode cX10_takesFact 100 = .ok (.getfield 9, 3) := by decide +kernel
theorem dX10_takesFact_103 : decode cX10_takesFact 103 = .ok (.bipush 23, 2) := by decide +kernel
theorem dX10_takesFact_105 : decode cX10_takesFact 105 = .ok (.invokevirtual 27, 3) := by decide +kernel
theorem dX10_takesFact_108 : decode cX10_takesFact 108 = .ok (.ifCond .eq 21, 3) := by decide +kernel
theorem dX10_takesFact_111 : decode cX10_takesFact 111 = .ok (.aload_n 0, 1) := by decide +kernel
theorem dX10_takesFact_112 : decode cX10_takesFact 112 = .ok (.getfield 9, 3) := by decide +kernel
theorem dX10_takesFact_115 : decode cX10_takesFact 115 = .ok (.invokevirtual 32, 3) := by decide +kernel
theorem dX10_takesFact_118 : decode cX10_takesFact 118 = .ok (.aload_n 0, 1) := by decide +kernel
theorem dX10_takesFact_119 : decode cX10_takesFact 119 = .ok (.getfield 15, 3) := by decide +kernel
theorem dX10_takesFact_122 : decode cX10_takesFact 122 = .ok (.sipush 10023, 3) := by decide +kernel
theorem dX10_takesFact_125 : decode cX10_takesFact 125 = .ok (.invokevirtual 35, 3) := by decide +kernel
theorem dX10_takesFact_128 : decode cX10_takesFact 128 = .ok (.ireturn, 1) := by decide +kernel
theorem dX10_takesFact_129 : decode cX10_takesFact 129 = .ok (.aload_n 0, 1) := by decide +kernel
theorem dX10_takesFact_130 : decode cX10_takesFact 130 = .ok (.iload_n 1, 1) := by decide +kernel
theorem dX10_takesFact_131 : decode cX10_takesFact 131 = .ok (.invokevirtual 56, 3) := by decide +kernel
theorem dX10_takesFact_134 : decode cX10_takesFact 134 = .ok (.ifCond .eq 15, 3) := by decide +kernel
theorem dX10_takesFact_137 : decode cX10_takesFact 137 = .ok (.aload_n 0, 1) := by decide +kernel
theorem dX10_takesFact_138 : decode cX10_takesFact 138 = .ok (.iload_n 1, 1) := by decide +kernel
theorem dX10_takesFact_139 : decode cX10_takesFact 139 = .ok (.invokevirtual 59, 3) := by decide +kernel
theorem dX10_takesFact_142 : decode cX10_takesFact 142 = .ok (.ifCond .eq 7, 3) := by decide +kernel
theorem dX10_takesFact_145 : decode cX10_takesFact 145 = .ok (.iconst 1, 1) := by decide +kernel
theorem dX10_takesFact_146 : decode cX10_takesFact 146 = .ok (.goto 4, 3) := by decide +kernel
theorem dX10_takesFact_149 : decode cX10_takesFact 149 = .ok (.iconst 0, 1) := by decide +kernel
theorem dX10_takesFact_150 : decode cX10_takesFact 150 = .ok (.ireturn, 1) := by decide +kernel
noncomputable def tX10_takesFact_0 : List (Nat × zF) := [(0, (zla4 0 1)), (1, (zgf 10 0)), (4, (zst 2 (zp (.int (22))))), (6, (zcv 61 1 5)), (9, (z_if_eq 50)), (12, (zla4 0 1)), (13, (zli4 1 1)), (14, (zst 1 (zp (.int (1))))), (15, (zcv 110 2 10)), (18, (z_if_eq 48)), (21, (zla4 0 1)), (22, (zli4 1 1))]
theorem kX10_takesFact_0 : ∀ q ∈ tX10_takesFact_0, zOk zg iX10_takesFact q.1 q.2 := (z_c (ok_aload_n dX10_takesFact_0 rfl) (z_c (ok_getf (C := RX10) (T := TX10) (N := 3) rfl (by decide) zinX10 rfl zw_440 dX10_takesFact_1) (z_c (ok_bipush (v := (22)) dX10_takesFact_4 (by decide)) (z_c (ok_callV zcal_61 (q := (RX5, TX5, 12)) rfl zw_446 zw_271 zw_272 dX10_takesFact_6) (z_c (ok_if_eq dX10_takesFact_9 (by decide)) (z_c (ok_aload_n dX10_takesFact_12 rfl) (z_c (ok_iload_n dX10_takesFact_13 rfl) (z_c (ok_iconst (v := (1)) dX10_takesFact_14 (by decide)) (z_c (ok_callV zcal_110 (q := (RX10, TX10, 3)) rfl zw_454 zw_455 zw_456 dX10_takesFact_15) (z_c (ok_if_eq dX10_takesFact_18 (by decide)) (z_c (ok_aload_n dX10_takesFact_21 rfl) (z_c (ok_iload_n dX10_takesFact_22 rfl) z_n))))))))))))
noncomputable def tX10_takesFact_1 : List (Nat × zF) := [(23, (zst 1 (zp (.int (1))))), (24, (zst 1 z_iadd)), (25, (zcv 102 1 10)), (28, (z_if_eq 48)), (31, (zla4 0 1)), (32, (zgf 10 1)), (35, (zst 3 (zp (.int (10022))))), (38, (zcv 78 1 7)), (41, (z_if_eq 48)), (44, (zst 1 (zp (.int (1))))), (45, (zgt 49)), (48, (zst 1 (zp (.int (0)))))]
theorem kX10_takesFact_1 : ∀ q ∈ tX10_takesFact_1, zOk zg iX10_takesFact q.1 q.2 := (z_c (ok_iconst (v := (1)) dX10_takesFact_23 (by decide)) (z_c (ok_iadd dX10_takesFact_24) (z_c (ok_callV zcal_102 (q := (RX10, TX10, 3)) rfl zw_451 zw_452 zw_453 dX10_takesFact_25) (z_c (ok_if_eq dX10_takesFact_28 (by decide)) (z_c (ok_aload_n dX10_takesFact_31 rfl) (z_c (ok_getf (C := RX10) (T := TX10) (N := 3) rfl (by decide) zinX10 rfl zw_441 dX10_takesFact_32) (z_c (ok_sipush (v := (10022)) dX10_takesFact_35 (by decide)) (z_c (ok_callV zcal_78 (q := (RX7, TX7, 4)) rfl zw_448 zw_449 zw_450 dX10_takesFact_38) (z_c (ok_if_eq dX10_takesFact_41 (by decide)) (z_c (ok_iconst (v := (1)) dX10_takesFact_44 (by decide)) (z_c (ok_goto dX10_takesFact_45 (by decide)) (z_c (ok_iconst (v := (0)) dX10_takesFact_48 (by decide)) z_n))))))))))))
noncomputable def tX10_takesFact_2 : List (Nat × zF) := [(49, (zri true)), (50, (zla4 0 1)), (51, (zgf 10 0)), (54, (zst 2 (zp (.int (91))))), (56, (zcv 62 1 5)), (59, (z_if_eq 99)), (62, (zla4 0 1)), (63, (zli4 1 1)), (64, (zst 1 (zp (.int (1))))), (65, (zcv 110 2 10)), (68, (z_if_eq 97)), (71, (zla4 0 1))]
theorem kX10_takesFact_2 : ∀ q ∈ tX10_takesFact_2, zOk zg iX10_takesFact q.1 q.2 := (z_c (ok_zreturn rfl dX10_takesFact_49) (z_c (ok_aload_n dX10_takesFact_50 rfl) (z_c (ok_getf (C := RX10) (T := TX10) (N := 3) rfl (by decide) zinX10 rfl zw_440 dX10_takesFact_51) (z_c (ok_bipush (v := (91)) dX10_takesFact_54 (by decide)) (z_c (ok_callV zcal_62 (q := (RX5, TX5, 12)) rfl zw_457 zw_277 zw_278 dX10_takesFact_56) (z_c (ok_if_eq dX10_takesFact_59 (by decide)) (z_c (ok_aload_n dX10_takesFact_62 rfl) (z_c (ok_iload_n dX10_takesFact_63 rfl) (z_c (ok_iconst (v := (1)) dX10_takesFact_64 (by decide)) (z_c (ok_callV zcal_110 (q := (RX10, TX10, 3)) rfl zw_454 zw_455 zw_456 dX10_takesFact_65) (z_c (ok_if_eq dX10_takesFact_68 (by decide)) (z_c (ok_aload_n dX10_takesFact_71 rfl) z_n))))))))))))
noncomputable def tX10_takesFact_3 : List (Nat × zF) := [(72, (zli4 1 1)), (73, (zst 1 (zp (.int (1))))), (74, (zst 1 z_iadd)), (75, (zcv 100 1 10)), (78, (z_if_eq 97)), (81, (zla4 0 1)), (82, (zgf 10 0)), (85, (zst 2 (zp (.int (93))))), (87, (zcv 65 1 5)), (90, (z_if_eq 97)), (93, (zst 1 (zp (.int (1))))), (94, (zgt 98))]
theorem kX10_takesFact_3 : ∀ q ∈ tX10_takesFact_3, zOk zg iX10_takesFact q.1 q.2 := (z_c (ok_iload_n dX10_takesFact_72 rfl) (z_c (ok_iconst (v := (1)) dX10_takesFact_73 (by decide)) (z_c (ok_iadd dX10_takesFact_74) (z_c (ok_callV zcal_100 (q := (RX10, TX10, 3)) rfl zw_458 zw_429 zw_430 dX10_takesFact_75) (z_c (ok_if_eq dX10_takesFact_78 (by decide)) (z_c (ok_aload_n dX10_takesFact_81 rfl) (z_c (ok_getf (C := RX10) (T := TX10) (N := 3) rfl (by decide) zinX10 rfl zw_440 dX10_takesFact_82) (z_c (ok_bipush (v := (93)) dX10_takesFact_85 (by decide)) (z_c (ok_callV zcal_65 (q := (RX5, TX5, 12)) rfl zw_459 zw_349 zw_350 dX10_takesFact_87) (z_c (ok_if_eq dX10_takesFact_90 (by decide)) (z_c (ok_iconst (v := (1)) dX10_takesFact_93 (by decide)) (z_c (ok_goto dX10_takesFact_94 (by decide)) z_n))))))))))))
noncomputable def tX10_takesFact_4 : List (Nat × zF) := [(97, (zst 1 (zp (.int (0))))), (98, (zri true)), (99, (zla4 0 1)), (100, (zgf 10 0)), (103, (zst 2 (zp (.int (23))))), (105, (zcv 61 1 5)), (108, (z_if_eq 129)), (111, (zla4 0 1)), (112, (zgf 10 0)), (115, (zcv 58 0 5)), (118, (zla4 0 1)), (119, (zgf 10 1))]
theorem kX10_takesFact_4 : ∀ q ∈ tX10_takesFact_4, zOk zg iX10_takesFact q.1 q.2 := (z_c (ok_iconst (v := (0)) dX10_takesFact_97 (by decide)) (z_c (ok_zreturn rfl dX10_takesFact_98) (z_c (ok_aload_n dX10_takesFact_99 rfl) (z_c (ok_getf (C := RX10) (T := TX10) (N := 3) rfl (by decide) zinX10 rfl zw_440 dX10_takesFact_100) (z_c (ok_bipush (v := (23)) dX10_takesFact_103 (by decide)) (z_c (ok_callV zcal_61 (q := (RX5, TX5, 12)) rfl zw_446 zw_271 zw_272 dX10_takesFact_105) (z_c (ok_if_eq dX10_takesFact_108 (by decide)) (z_c (ok_aload_n dX10_takesFact_111 rfl) (z_c (ok_getf (C := RX10) (T := TX10) (N := 3) rfl (by decide) zinX10 rfl zw_440 dX10_takesFact_112) (z_c (ok_callV zcal_58 (q := (RX5, TX5, 12)) rfl zw_447 zw_259 zw_260 dX10_takesFact_115) (z_c (ok_aload_n dX10_takesFact_118 rfl) (z_c (ok_getf (C := RX10) (T := TX10) (N := 3) rfl (by decide) zinX10 rfl zw_441 dX10_takesFact_119) z_n))))))))))))
noncomputable def tX10_takesFact_5 : List (Nat × zF) := [(122, (zst 3 (zp (.int (10023))))), (125, (zcv 78 1 7)), (128, (zri true)), (129, (zla4 0 1)), (130, (zli4 1 1)), (131, (zcv 104 1 10)), (134, (z_if_eq 149)), (137, (zla4 0 1)), (138, (zli4 1 1)), (139, (zcv 103 1 10)), (142, (z_if_eq 149)), (145, (zst 1 (zp (.int (1)))))]
theorem kX10_takesFact_5 : ∀ q ∈ tX10_takesFact_5, zOk zg iX10_takesFact q.1 q.2 := (z_c (ok_sipush (v := (10023)) dX10_takesFact_122 (by decide)) (z_c (ok_callV zcal_78 (q := (RX7, TX7, 4)) rfl zw_448 zw_449 zw_450 dX10_takesFact_125) (z_c (ok_zreturn rfl dX10_takesFact_128) (z_c (ok_aload_n dX10_takesFact_129 rfl) (z_c (ok_iload_n dX10_takesFact_130 rfl) (z_c (ok_callV zcal_104 (q := (RX10, TX10, 3)) rfl zw_460 zw_427 zw_428 dX10_takesFact_131) (z_c (ok_if_eq dX10_takesFact_134 (by decide)) (z_c (ok_aload_n dX10_takesFact_137 rfl) (z_c (ok_iload_n dX10_takesFact_138 rfl) (z_c (ok_callV zcal_103 (q := (RX10, TX10, 3)) rfl zw_461 zw_462 zw_463 dX10_takesFact_139) (z_c (ok_if_eq dX10_takesFact_142 (by decide)) (z_c (ok_iconst (v := (1)) dX10_takesFact_145 (by decide)) z_n))))))))))))
noncomputable def tX10_takesFact_6 : List (Nat × zF) := [(146, (zgt 150)), (149, (zst 1 (zp (.int (0))))), (150, (zri true))]
theorem kX10_takesFact_6 : ∀ q ∈ tX10_takesFact_6, zOk zg iX10_takesFact q.1 q.2 := (z_c (ok_goto dX10_takesFact_146 (by decide)) (z_c (ok_iconst (v := (0)) dX10_takesFact_149 (by decide)) (z_c (ok_zreturn rfl dX10_takesFact_150) z_n)))
noncomputable def tX10_takesFact : zT := [(23, tX10_takesFact_0), (49, tX10_takesFact_1), (72, tX10_takesFact_2), (97, tX10_takesFact_3), (122, tX10_takesFact_4), (146, tX10_takesFact_5), (100000, tX10_takesFact_6)]
theorem kX10_takesFact : zTok zg iX10_takesFact tX10_takesFact := (z_t kX10_takesFact_0 (z_t kX10_takesFact_1 (z_t kX10_takesFact_2 (z_t kX10_takesFact_3 (z_t kX10_takesFact_4 (z_t kX10_takesFact_5 (z_t kX10_takesFact_6 z_tn)))))))
theorem dX10_takesComparison_0 : decode cX10_takesComparison 0 = .ok (.aload_n 0, 1) := by decide +kernel
theorem dX10_takesComparison_1 : decode cX10_takesComparison 1 = .ok (.getfield 9, 3) := by decide +kernel
theorem dX10_takesComparison_4 : decode cX10_takesComparison 4 = .ok (.getfield 62, 3) := by decide +kernel
theorem dX10_takesComparison_7 : decode cX10_takesComparison 7 = .ok (.istore_n 2, 1) := by decide +kernel
theorem dX10_takesComparison_8 : decode cX10_takesComparison 8 = .ok (.aload_n 0, 1) := by decide +kernel
theorem dX10_takesComparison_9 : decode cX10_takesComparison 9 = .ok (.getfield 9, 3) := by decide +kernel
theorem dX10_takesComparison_12 : decode cX10_takesComparison 12 = .ok (.bipush 60, 2) := by decide +kernel
theorem dX10_takesComparison_14 : decode cX10_takesComparison 14 = .ok (.invokevirtual 47, 3) := by decide +kernel
theorem dX10_takesComparison_17 : decode cX10_takesComparison 17 = .ok (.ifCond .ne 43, 3) := by decide +kernel
theorem dX10_takesComparison_20 : decode cX10_takesComparison 20 = .ok (.aload_n 0, 1) := by decide +kernel
theorem dX10_takesComparison_21 : decode cX10_takesComparison 21 = .ok (.getfield 9, 3) := by decide +kernel
theorem dX10_takesComparison_24 : decode cX10_takesComparison 24 = .ok (.bipush 62, 2) := by decide +kernel
theorem dX10_takesComparison_26 : decode cX10_takesComparison 26 = .ok (.invokevirtual 47, 3) := by decide +kernel
theorem dX10_takesComparison_29 : decode cX10_takesComparison 29 = .ok (.ifCond .ne 31, 3) := by decide +kernel
theorem dX10_takesComparison_32 : decode cX10_takesComparison 32 = .ok (.aload_n 0, 1) := by decide +kernel
theorem dX10_takesComparison_33 : decode cX10_takesComparison 33 = .ok (.getfield 9, 3) := by decide +kernel
theorem dX10_takesComparison_36 : decode cX10_takesComparison 36 = .ok (.bipush 61, 2) := by decide +kernel
theorem dX10_takesComparison_38 : decode cX10_takesComparison 38 = .ok (.invokevirtual 47, 3) := by decide +kernel
theorem dX10_takesComparison_41 : decode cX10_takesComparison 41 = .ok (.ifCond .ne 19, 3) := by decide +kernel
theorem dX10_takesComparison_44 : decode cX10_takesComparison 44 = .ok (.aload_n 0, 1) := by decide +kernel
theorem dX10_takesComparison_45 : decode cX10_takesComparison 45 = .ok (.getfield 9, 3) := by decide +kernel
theorem dX10_takesComparison_48 : decode cX10_takesComparison 48 = .ok (.iconst 1, 1) := by decide +kernel
theorem dX10_takesComparison_49 : decode cX10_takesComparison 49 = .ok (.aload_n 0, 1) := by decide +kernel
theorem dX10_takesComparison_50 : decode cX10_takesComparison 50 = .ok (.getfield 9, 3) := by decide +kernel
theorem dX10_takesComparison_53 : decode cX10_takesComparison 53 = .ok (.getfield 65, 3) := by decide +kernel
theorem dX10_takesComparison_56 : decode cX10_takesComparison 56 = .ok (.invokevirtual 68, 3) := by decide +kernel
theorem dX10_takesComparison_59 : decode cX10_takesComparison 59 = .ok (.ireturn, 1) := by decide +kernel
theorem dX10_takesComparison_60 : decode cX10_takesComparison 60 = .ok (.aload_n 0, 1) := by decide +kernel
theorem dX10_takesComparison_61 : decode cX10_takesComparison 61 = .ok (.getfield 9, 3) := by decide +kernel
theorem dX10_takesComparison_64 : decode cX10_takesComparison 64 = .ok (.invokevirtual 32, 3) := by decide +kernel
theorem dX10_takesComparison_67 : decode cX10_takesComparison 67 = .ok (.aload_n 0, 1) := by decide +kernel
theorem dX10_takesComparison_68 : decode cX10_takesComparison 68 = .ok (.iload_n 1, 1) := by decide +kernel
theorem dX10_takesComparison_69 : decode cX10_takesComparison 69 = .ok (.invokevirtual 56, 3) := by decide +kernel
theorem dX10_takesComparison_72 : decode cX10_takesComparison 72 = .ok (.ifCond .eq 22, 3) := by decide +kernel
theorem dX10_takesComparison_75 : decode cX10_takesComparison 75 = .ok (.aload_n 0, 1) := by decide +kernel
theorem dX10_takesComparison_76 : decode cX10_takesComparison 76 = .ok (.getfield 15, 3) := by decide +kernel
theorem dX10_takesComparison_79 : decode cX10_takesComparison 79 = .ok (.sipush 10000, 3) := by decide +kernel
theorem dX10_takesComparison_82 : decode cX10_takesComparison 82 = .ok (.iload_n 2, 1) := by decide +kernel
theorem dX10_takesComparison_83 : decode cX10_takesComparison 83 = .ok (.iadd, 1) := by decide +kernel
theorem dX10_takesComparison_84 : decode cX10_takesComparison 84 = .ok (.invokevirtual 35, 3) := by decide +kernel
theorem dX10_takesComparison_87 : decode cX10_takesComparison 87 = .ok (.ifCond .eq 7, 3) := by decide +kernel
theorem dX10_takesComparison_90 : decode cX10_takesComparison 90 = .ok (.iconst 1, 1) := by decide +kernel
theorem dX10_takesComparison_91 : decode cX10_takesComparison 91 = .ok (.goto 4, 3) := by decide +kernel
theorem dX10_takesComparison_94 : decode cX10_takesComparison 94 = .ok (.iconst 0, 1) := by decide +kernel
theorem dX10_takesComparison_95 : decode cX10_takesComparison 95 = .ok (.ireturn, 1) := by decide +kernel
noncomputable def tX10_takesComparison_0 : List (Nat × zF) := [(0, (zla4 0 1)), (1, (zgf 10 0)), (4, (zgf 5 5)), (7, (zsi4 3 2 1)), (8, (zla4 0 1)), (9, (zgf 10 0)), (12, (zst 2 (zp (.int (60))))), (14, (zcv 62 1 5)), (17, (z_if_ne 60)), (20, (zla4 0 1)), (21, (zgf 10 0)), (24, (zst 2 (zp (.int (62)))))]
theorem kX10_takesComparison_0 : ∀ q ∈ tX10_takesComparison_0, zOk zg iX10_takesComparison q.1 q.2 := (z_c (ok_aload_n dX10_takesComparison_0 rfl) (z_c (ok_getf (C := RX10) (T := TX10) (N := 3) rfl (by decide) zinX10 rfl zw_440 dX10_takesComparison_1) (z_c (ok_getf (C := RX5) (T := TX5) (N := 12) rfl (by decide) zinX5 rfl zw_464 dX10_takesComparison_4) (z_c (ok_istore_n dX10_takesComparison_7 rfl) (z_c (ok_aload_n dX10_takesComparison_8 rfl) (z_c (ok_getf (C := RX10) (T := TX10) (N := 3) rfl (by decide) zinX10 rfl zw_440 dX10_takesComparison_9) (z_c (ok_bipush (v := (60)) dX10_takesComparison_12 (by decide)) (z_c (ok_callV zcal_62 (q := (RX5, TX5, 12)) rfl zw_457 zw_277 zw_278 dX10_takesComparison_14) (z_c (ok_if_ne dX10_takesComparison_17 (by decide)) (z_c (ok_aload_n dX10_takesComparison_20 rfl) (z_c (ok_getf (C := RX10) (T := TX10) (N := 3) rfl (by decide) zinX10 rfl zw_440 dX10_takesComparison_21) (z_c (ok_bipush (v := (62)) dX10_takesComparison_24 (by decide)) z_n))))))))))))
noncomputable def tX10_takesComparison_1 : List (Nat × zF) := [(26, (zcv 62 1 5)), (29, (z_if_ne 60)), (32, (zla4 0 1)), (33, (zgf 10 0)), (36, (zst 2 (zp (.int (61))))), (38, (zcv 62 1 5)), (41, (z_if_ne 60)), (44, (zla4 0 1)), (45, (zgf 10 0)), (48, (zst 1 (zp (.int (1))))), (49, (zla4 0 1)), (50, (zgf 10 0))]
theorem kX10_takesComparison_1 : ∀ q ∈ tX10_takesComparison_1, zOk zg iX10_takesComparison q.1 q.2 := (z_c (ok_callV zcal_62 (q := (RX5, TX5, 12)) rfl zw_457 zw_277 zw_278 dX10_takesComparison_26) (z_c (ok_if_ne dX10_takesComparison_29 (by decide)) (z_c (ok_aload_n dX10_takesComparison_32 rfl) (z_c (ok_getf (C := RX10) (T := TX10) (N := 3) rfl (by decide) zinX10 rfl zw_440 dX10_takesComparison_33) (z_c (ok_bipush (v := (61)) dX10_takesComparison_36 (by decide)) (z_c (ok_callV zcal_62 (q := (RX5, TX5, 12)) rfl zw_457 zw_277 zw_278 dX10_takesComparison_38) (z_c (ok_if_ne dX10_takesComparison_41 (by decide)) (z_c (ok_aload_n dX10_takesComparison_44 rfl) (z_c (ok_getf (C := RX10) (T := TX10) (N := 3) rfl (by decide) zinX10 rfl zw_440 dX10_takesComparison_45) (z_c (ok_iconst (v := (1)) dX10_takesComparison_48 (by decide)) (z_c (ok_aload_n dX10_takesComparison_49 rfl) (z_c (ok_getf (C := RX10) (T := TX10) (N := 3) rfl (by decide) zinX10 rfl zw_440 dX10_takesComparison_50) z_n))))))))))))
noncomputable def tX10_takesComparison_2 : List (Nat × zF) := [(53, (zgf 5 7)), (56, (zcv 63 2 5)), (59, (zri true)), (60, (zla4 0 1)), (61, (zgf 10 0)), (64, (zcv 58 0 5)), (67, (zla4 0 1)), (68, (zli4 1 1)), (69, (zcv 104 1 10)), (72, (z_if_eq 94)), (75, (zla4 0 1)), (76, (zgf 10 1))]
theorem kX10_takesComparison_2 : ∀ q ∈ tX10_takesComparison_2, zOk zg iX10_takesComparison q.1 q.2 := (z_c (ok_getf (C := RX5) (T := TX5) (N := 12) rfl (by decide) zinX5 rfl zw_465 dX10_takesComparison_53) (z_c (ok_callV zcal_63 (q := (RX5, TX5, 12)) rfl zw_466 zw_274 zw_275 dX10_takesComparison_56) (z_c (ok_zreturn rfl dX10_takesComparison_59) (z_c (ok_aload_n dX10_takesComparison_60 rfl) (z_c (ok_getf (C := RX10) (T := TX10) (N := 3) rfl (by decide) zinX10 rfl zw_440 dX10_takesComparison_61) (z_c (ok_callV zcal_58 (q := (RX5, TX5, 12)) rfl zw_447 zw_259 zw_260 dX10_takesComparison_64) (z_c (ok_aload_n dX10_takesComparison_67 rfl) (z_c (ok_iload_n dX10_takesComparison_68 rfl) (z_c (ok_callV zcal_104 (q := (RX10, TX10, 3)) rfl zw_460 zw_427 zw_428 dX10_takesComparison_69) (z_c (ok_if_eq dX10_takesComparison_72 (by decide)) (z_c (ok_aload_n dX10_takesComparison_75 rfl) (z_c (ok_getf (C := RX10) (T := TX10) (N := 3) rfl (by decide) zinX10 rfl zw_441 dX10_takesComparison_76) z_n))))))))))))
noncomputable def tX10_takesComparison_3 : List (Nat × zF) := [(79, (zst 3 (zp (.int (10000))))), (82, (zli4 2 1)), (83, (zst 1 z_iadd)), (84, (zcv 78 1 7)), (87, (z_if_eq 94)), (90, (zst 1 (zp (.int (1))))), (91, (zgt 95)), (94, (zst 1 (zp (.int (0))))), (95, (zri true))]
theorem kX10_takesComparison_3 : ∀ q ∈ tX10_takesComparison_3, zOk zg iX10_takesComparison q.1 q.2 := (z_c (ok_sipush (v := (10000)) dX10_takesComparison_79 (by decide)) (z_c (ok_iload_n dX10_takesComparison_82 rfl) (z_c (ok_iadd dX10_takesComparison_83) (z_c (ok_callV zcal_78 (q := (RX7, TX7, 4)) rfl zw_448 zw_449 zw_450 dX10_takesComparison_84) (z_c (ok_if_eq dX10_takesComparison_87 (by decide)) (z_c (ok_iconst (v := (1)) dX10_takesComparison_90 (by decide)) (z_c (ok_goto dX10_takesComparison_91 (by decide)) (z_c (ok_iconst (v := (0)) dX10_takesComparison_94 (by decide)) (z_c (ok_zreturn rfl dX10_takesComparison_95) z_n)))))))))
noncomputable def tX10_takesComparison : zT := [(26, tX10_takesComparison_0), (53, tX10_takesComparison_1), (79, tX10_takesComparison_2), (100000, tX10_takesComparison_3)]
theorem kX10_takesComparison : zTok zg iX10_takesComparison tX10_takesComparison := (z_t kX10_takesComparison_0 (z_t kX10_takesComparison_1 (z_t kX10_takesComparison_2 (z_t kX10_takesComparison_3 z_tn))))
theorem dX10_takesSum_0 : decode cX10_takesSum 0 = .ok (.aload_n 0, 1) := by decide +kernel
theorem dX10_takesSum_1 : decode cX10_takesSum 1 = .ok (.iload_n 1, 1) := by decide +kernel
theorem dX10_takesSum_2 : decode cX10_takesSum 2 = .ok (.invokevirtual 72, 3) := by decide +kernel
theorem dX10_takesSum_5 : decode cX10_takesSum 5 = .ok (.istore_n 2, 1) := by decide +kernel
theorem dX10_takesSum_6 : decode cX10_takesSum 6 = .ok (.iconst 0, 1) := by decide +kernel
theorem dX10_takesSum_7 : decode cX10_takesSum 7 = .ok (.istore_n 3, 1) := by decide +kernel
theorem dX10_takesSum_8 : decode cX10_takesSum 8 = .ok (.iload_n 3, 1) := by decide +kernel
theorem dX10_takesSum_9 : decode cX10_takesSum 9 = .ok (.sipush 1600, 3) := by decide +kernel
theorem dX10_takesSum_12 : decode cX10_takesSum 12 = .ok (.if_icmp .ge 83, 3) := by decide +kernel
theorem dX10_takesSum_15 : decode cX10_takesSum 15 = .ok (.iload_n 2, 1) := by decide +kernel
theorem dX10_takesSum_16 : decode cX10_takesSum 16 = .ok (.ifCond .eq 79, 3) := by decide +kernel
theorem dX10_takesSum_19 : decode cX10_takesSum 19 = .ok (.aload_n 0, 1) := by decide +kernel
theorem dX10_takesSum_20 : decode cX10_takesSum 20 = .ok (.getfield 9, 3) := by decide +kernel
theorem dX10_takesSum_23 : decode cX10_takesSum 23 = .ok (.bipush 43, 2) := by decide +kernel
theorem dX10_takesSum_25 : decode cX10_takesSum 25 = .ok (.invokevirtual 47, 3) := by decide +kernel
theorem dX10_takesSum_28 : decode cX10_takesSum 28 = .ok (.ifCond .ne 15, 3) := by decide +kernel
theorem dX10_takesSum_31 : decode cX10_takesSum 31 = .ok (.aload_n 0, 1) := by decide +kernel
theorem dX10_takesSum_32 : decode cX10_takesSum 32 = .ok (.getfield 9, 3) := by decide +kernel
theorem dX10_takesSum_35 : decode cX10_takesSum 35 = .ok (.bipush 45, 2) := by decide +kernel
theorem dX10_takesSum_37 : decode cX10_takesSum 37 = .ok (.invokevirtual 47, 3) := by decide +kernel
theorem dX10_takesSum_40 : decode cX10_takesSum 40 = .ok (.ifCond .eq 55, 3) := by decide +kernel
theorem dX10_takesSum_43 : decode cX10_takesSum 43 = .ok (.aload_n 0, 1) := by decide +kernel
theorem dX10_takesSum_44 : decode cX10_takesSum 44 = .ok (.getfield 9, 3) := by decide +kernel
theorem dX10_takesSum_47 : decode cX10_takesSum 47 = .ok (.getfield 62, 3) := by decide +kernel
theorem dX10_takesSum_50 : decode cX10_takesSum 50 = .ok (.istore 4, 2) := by decide +kernel
theorem dX10_takesSum_52 : decode cX10_takesSum 52 = .ok (.aload_n 0, 1) := by decide +kernel
theorem dX10_takesSum_53 : decode cX10_takesSum 53 = .ok (.getfield 9, 3) := by decide +kernel
theorem dX10_takesSum_56 : decode cX10_takesSum 56 = .ok (.invokevirtual 32, 3) := by decide +kernel
theorem dX10_takesSum_59 : decode cX10_takesSum 59 = .ok (.aload_n 0, 1) := by decide +kernel
theorem dX10_takesSum_60 : decode cX10_takesSum 60 = .ok (.iload_n 1, 1) := by decide +kernel
theorem dX10_takesSum_61 : decode cX10_takesSum 61 = .ok (.invokevirtual 72, 3) := by decide +kernel
theorem dX10_takesSum_64 : decode cX10_takesSum 64 = .ok (.ifCond .eq 23, 3) := by decide +kernel
theorem dX10_takesSum_67 : decode cX10_takesSum 67 = .ok (.aload_n 0, 1) := by decide +kernel
theorem dX10_takesSum_68 : decode cX10_takesSum 68 = .ok (.getfield 15, 3) := by decide +kernel
theorem dX10_takesSum_71 : decode cX10_takesSum 71 = .ok (.sipush 10000, 3) := by decide +kernel
theorem dX10_takesSum_74 : decode cX10_takesSum 74 = .ok (.iload 4, 2) := by decide +kernel
theorem dX10_takesSum_76 : decode cX10_takesSum 76 = .ok (.iadd, 1) := by decide +kernel
theorem dX10_takesSum_77 : decode cX10_takesSum 77 = .ok (.invokevirtual 35, 3) := by decide +kernel
theorem dX10_takesSum_80 : decode cX10_takesSum 80 = .ok (.ifCond .eq 7, 3) := by decide +kernel
theorem dX10_takesSum_83 : decode cX10_takesSum 83 = .ok (.iconst 1, 1) := by decide +kernel
theorem dX10_takesSum_84 : decode cX10_takesSum 84 = .ok (.goto 4, 3) := by decide +kernel
theorem dX10_takesSum_87 : decode cX10_takesSum 87 = .ok (.iconst 0, 1) := by decide +kernel
theorem dX10_takesSum_88 : decode cX10_takesSum 88 = .ok (.istore_n 2, 1) := by decide +kernel
theorem dX10_takesSum_89 : decode cX10_takesSum 89 = .ok (.iinc 3 1, 3) := by decide +kernel
theorem dX10_takesSum_92 : decode cX10_takesSum 92 = .ok (.goto (-84), 3) := by decide +kernel
theorem dX10_takesSum_95 : decode cX10_takesSum 95 = .ok (.iload_n 2, 1) := by decide +kernel
theorem dX10_takesSum_96 : decode cX10_takesSum 96 = .ok (.ireturn, 1) := by decide +kernel
noncomputable def tX10_takesSum_0 : List (Nat × zF) := [(0, (zla4 0 1)), (1, (zli4 1 1)), (2, (zcv 105 1 10)), (5, (zsi4 5 2 1)), (6, (zst 1 (zp (.int (0))))), (7, (zsi4 5 3 1)), (8, (zli4 3 1)), (9, (zst 3 (zp (.int (1600))))), (12, (z_ic_ge 95)), (15, (zli4 2 1)), (16, (z_if_eq 95)), (19, (zla4 0 1))]
theorem kX10_takesSum_0 : ∀ q ∈ tX10_takesSum_0, zOk zg iX10_takesSum q.1 q.2 := (z_c (ok_aload_n dX10_takesSum_0 rfl) (z_c (ok_iload_n dX10_takesSum_1 rfl) (z_c (ok_callV zcal_105 (q := (RX10, TX10, 3)) rfl zw_467 zw_468 zw_469 dX10_takesSum_2) (z_c (ok_istore_n dX10_takesSum_5 rfl) (z_c (ok_iconst (v := (0)) dX10_takesSum_6 (by decide)) (z_c (ok_istore_n dX10_takesSum_7 rfl) (z_c (ok_iload_n dX10_takesSum_8 rfl) (z_c (ok_sipush (v := (1600)) dX10_takesSum_9 (by decide)) (z_c (ok_icmp_ge dX10_takesSum_12 (by decide)) (z_c (ok_iload_n dX10_takesSum_15 rfl) (z_c (ok_if_eq dX10_takesSum_16 (by decide)) (z_c (ok_aload_n dX10_takesSum_19 rfl) z_n))))))))))))
noncomputable def tX10_takesSum_1 : List (Nat × zF) := [(20, (zgf 10 0)), (23, (zst 2 (zp (.int (43))))), (25, (zcv 62 1 5)), (28, (z_if_ne 43)), (31, (zla4 0 1)), (32, (zgf 10 0)), (35, (zst 2 (zp (.int (45))))), (37, (zcv 62 1 5)), (40, (z_if_eq 95)), (43, (zla4 0 1)), (44, (zgf 10 0)), (47, (zgf 5 5))]
theorem kX10_takesSum_1 : ∀ q ∈ tX10_takesSum_1, zOk zg iX10_takesSum q.1 q.2 := (z_c (ok_getf (C := RX10) (T := TX10) (N := 3) rfl (by decide) zinX10 rfl zw_440 dX10_takesSum_20) (z_c (ok_bipush (v := (43)) dX10_takesSum_23 (by decide)) (z_c (ok_callV zcal_62 (q := (RX5, TX5, 12)) rfl zw_457 zw_277 zw_278 dX10_takesSum_25) (z_c (ok_if_ne dX10_takesSum_28 (by decide)) (z_c (ok_aload_n dX10_takesSum_31 rfl) (z_c (ok_getf (C := RX10) (T := TX10) (N := 3) rfl (by decide) zinX10 rfl zw_440 dX10_takesSum_32) (z_c (ok_bipush (v := (45)) dX10_takesSum_35 (by decide)) (z_c (ok_callV zcal_62 (q := (RX5, TX5, 12)) rfl zw_457 zw_277 zw_278 dX10_takesSum_37) (z_c (ok_if_eq dX10_takesSum_40 (by decide)) (z_c (ok_aload_n dX10_takesSum_43 rfl) (z_c (ok_getf (C := RX10) (T := TX10) (N := 3) rfl (by decide) zinX10 rfl zw_440 dX10_takesSum_44) (z_c (ok_getf (C := RX5) (T := TX5) (N := 12) rfl (by decide) zinX5 rfl zw_464 dX10_takesSum_47) z_n))))))))))))
noncomputable def tX10_takesSum_2 : List (Nat × zF) := [(50, (zsi4 5 4 2)), (52, (zla4 0 1)), (53, (zgf 10 0)), (56, (zcv 58 0 5)), (59, (zla4 0 1)), (60, (zli4 1 1)), (61, (zcv 105 1 10)), (64, (z_if_eq 87)), (67, (zla4 0 1)), (68, (zgf 10 1)), (71, (zst 3 (zp (.int (10000))))), (74, (zli4 4 2))]
theorem kX10_takesSum_2 : ∀ q ∈ tX10_takesSum_2, zOk zg iX10_takesSum q.1 q.2 := (z_c (ok_istore dX10_takesSum_50) (z_c (ok_aload_n dX10_takesSum_52 rfl) (z_c (ok_getf (C := RX10) (T := TX10) (N := 3) rfl (by decide) zinX10 rfl zw_440 dX10_takesSum_53) (z_c (ok_callV zcal_58 (q := (RX5, TX5, 12)) rfl zw_447 zw_259 zw_260 dX10_takesSum_56) (z_c (ok_aload_n dX10_takesSum_59 rfl) (z_c (ok_iload_n dX10_takesSum_60 rfl) (z_c (ok_callV zcal_105 (q := (RX10, TX10, 3)) rfl zw_467 zw_468 zw_469 dX10_takesSum_61) (z_c (ok_if_eq dX10_takesSum_64 (by decide)) (z_c (ok_aload_n dX10_takesSum_67 rfl) (z_c (ok_getf (C := RX10) (T := TX10) (N := 3) rfl (by decide) zinX10 rfl zw_441 dX10_takesSum_68) (z_c (ok_sipush (v := (10000)) dX10_takesSum_71 (by decide)) (z_c (ok_iload dX10_takesSum_74) z_n))))))))))))
noncomputable def tX10_takesSum_3 : List (Nat × zF) := [(76, (zst 1 z_iadd)), (77, (zcv 78 1 7)), (80, (z_if_eq 87)), (83, (zst 1 (zp (.int (1))))), (84, (zgt 88)), (87, (zst 1 (zp (.int (0))))), (88, (zsi4 5 2 1)), (89, (zin4 5 3 (1))), (92, (zgt 8)), (95, (zli4 2 1)), (96, (zri true))]
theorem kX10_takesSum_3 : ∀ q ∈ tX10_takesSum_3, zOk zg iX10_takesSum q.1 q.2 := (z_c (ok_iadd dX10_takesSum_76) (z_c (ok_callV zcal_78 (q := (RX7, TX7, 4)) rfl zw_448 zw_449 zw_450 dX10_takesSum_77) (z_c (ok_if_eq dX10_takesSum_80 (by decide)) (z_c (ok_iconst (v := (1)) dX10_takesSum_83 (by decide)) (z_c (ok_goto dX10_takesSum_84 (by decide)) (z_c (ok_iconst (v := (0)) dX10_takesSum_87 (by decide)) (z_c (ok_istore_n dX10_takesSum_88 rfl) (z_c (ok_iinc (v := (1)) dX10_takesSum_89 (by decide)) (z_c (ok_goto dX10_takesSum_92 (by decide)) (z_c (ok_iload_n dX10_takesSum_95 rfl) (z_c (ok_zreturn rfl dX10_takesSum_96) z_n)))))))))))
noncomputable def tX10_takesSum : zT := [(20, tX10_takesSum_0), (50, tX10_takesSum_1), (76, tX10_takesSum_2), (100000, tX10_takesSum_3)]
theorem kX10_takesSum : zTok zg iX10_takesSum tX10_takesSum := (z_t kX10_takesSum_0 (z_t kX10_takesSum_1 (z_t kX10_takesSum_2 (z_t kX10_takesSum_3 z_tn))))
theorem dX10_takesProduct_0 : decode cX10_takesProduct 0 = .ok (.aload_n 0, 1) := by decide +kernel
theorem dX10_takesProduct_1 : decode cX10_takesProduct 1 = .ok (.iload_n 1, 1) := by decide +kernel
theorem dX10_takesProduct_2 : decode cX10_takesProduct 2 = .ok (.invokevirtual 75, 3) := by decide +kernel
theorem dX10_takesProduct_5 : decode cX10_takesProduct 5 = .ok (.istore_n 2, 1) := by decide +kernel
theorem dX10_takesProduct_6 : decode cX10_takesProduct 6 = .ok (.iconst 0, 1) := by decide +kernel
theorem dX10_takesProduct_7 : decode cX10_takesProduct 7 = .ok (.istore_n 3, 1) := by decide +kernel
theorem dX10_takesProduct_8 : decode cX10_takesProduct 8 = .ok (.iload_n 3, 1) := by decide +kernel
theorem dX10_takesProduct_9 : decode cX10_takesProduct 9 = .ok (.sipush 1600, 3) := by decide +kernel
theorem dX10_takesProduct_12 : decode cX10_takesProduct 12 = .ok (.if_icmp .ge 66, 3) := by decide +kernel
theorem dX10_takesProduct_15 : decode cX10_takesProduct 15 = .ok (.iload_n 2, 1) := by decide +kernel
theorem dX10_takesProduct_16 : decode cX10_takesProduct 16 = .ok (.ifCond .eq 62, 3) := by decide +kernel
theorem dX10_takesProduct_19 : decode cX10_takesProduct 19 = .ok (.aload_n 0, 1) := by decide +kernel
theorem dX10_takesProduct_20 : decode cX10_takesProduct 20 = .ok (.invokevirtual 78, 3) := by decide +kernel
theorem dX10_takesProduct_23 : decode cX10_takesProduct 23 = .ok (.ifCond .eq 55, 3) := by decide +kernel
theorem dX10_takesProduct_26 : decode cX10_takesProduct 26 = .ok (.aload_n 0, 1) := by decide +kernel
theorem dX10_takesProduct_27 : decode cX10_takesProduct 27 = .ok (.getfield 9, 3) := by decide +kernel
theorem dX10_takesProduct_30 : decode cX10_takesProduct 30 = .ok (.getfield 62, 3) := by decide +kernel
theorem dX10_takesProduct_33 : decode cX10_takesProduct 33 = .ok (.istore 4, 2) := by decide +kernel
theorem dX10_takesProduct_35 : decode cX10_takesProduct 35 = .ok (.aload_n 0, 1) := by decide +kernel
theorem dX10_takesProduct_36 : decode cX10_takesProduct 36 = .ok (.getfield 9, 3) := by decide +kernel
theorem dX10_takesProduct_39 : decode cX10_takesProduct 39 = .ok (.invokevirtual 32, 3) := by decide +kernel
theorem dX10_takesProduct_42 : decode cX10_takesProduct 42 = .ok (.aload_n 0, 1) := by decide +kernel
theorem dX10_takesProduct_43 : decode cX10_takesProduct 43 = .ok (.iload_n 1, 1) := by decide +kernel
theorem dX10_takesProduct_44 : decode cX10_takesProduct 44 = .ok (.invokevirtual 75, 3) := by decide +kernel
theorem dX10_takesProduct_47 : decode cX10_takesProduct 47 = .ok (.ifCond .eq 23, 3) := by decide +kernel
theorem dX10_takesProduct_50 : decode cX10_takesProduct 50 = .ok (.aload_n 0, 1) := by decide +kernel
theorem dX10_takesProduct_51 : decode cX10_takesProduct 51 = .ok (.getfield 15, 3) := by decide +kernel
theorem dX10_takesProduct_54 : decode cX10_takesProduct 54 = .ok (.sipush 10000, 3) := by decide +kernel
theorem dX10_takesProduct_57 : decode cX10_takesProduct 57 = .ok (.iload 4, 2) := by decide +kernel
theorem dX10_takesProduct_59 : decode cX10_takesProduct 59 = .ok (.iadd, 1) := by decide +kernel
theorem dX10_takesProduct_60 : decode cX10_takesProduct 60 = .ok (.invokevirtual 35, 3) := by decide +kernel
theorem dX10_takesProduct_63 : decode cX10_takesProduct 63 = .ok (.ifCond .eq 7, 3) := by decide +kernel
theorem dX10_takesProduct_66 : decode cX10_takesProduct 66 = .ok (.iconst 1, 1) := by decide +kernel
theorem dX10_takesProduct_67 : decode cX10_takesProduct 67 = .ok (.goto 4, 3) := by decide +kernel
theorem dX10_takesProduct_70 : decode cX10_takesProduct 70 = .ok (.iconst 0, 1) := by decide +kernel
theorem dX10_takesProduct_71 : decode cX10_takesProduct 71 = .ok (.istore_n 2, 1) := by decide +kernel
theorem dX10_takesProduct_72 : decode cX10_takesProduct 72 = .ok (.iinc 3 1, 3) := by decide +kernel
theorem dX10_takesProduct_75 : decode cX10_takesProduct 75 = .ok (.goto (-67), 3) := by decide +kernel
theorem dX10_takesProduct_78 : decode cX10_takesProduct 78 = .ok (.iload_n 2, 1) := by decide +kernel
theorem dX10_takesProduct_79 : decode cX10_takesProduct 79 = .ok (.ireturn, 1) := by decide +kernel
noncomputable def tX10_takesProduct_0 : List (Nat × zF) := [(0, (zla4 0 1)), (1, (zli4 1 1)), (2, (zcv 107 1 10)), (5, (zsi4 5 2 1)), (6, (zst 1 (zp (.int (0))))), (7, (zsi4 5 3 1)), (8, (zli4 3 1)), (9, (zst 3 (zp (.int (1600))))), (12, (z_ic_ge 78)), (15, (zli4 2 1)), (16, (z_if_eq 78)), (19, (zla4 0 1))]
theorem kX10_takesProduct_0 : ∀ q ∈ tX10_takesProduct_0, zOk zg iX10_takesProduct q.1 q.2 := (z_c (ok_aload_n dX10_takesProduct_0 rfl) (z_c (ok_iload_n dX10_takesProduct_1 rfl) (z_c (ok_callV zcal_107 (q := (RX10, TX10, 3)) rfl zw_470 zw_471 zw_472 dX10_takesProduct_2) (z_c (ok_istore_n dX10_takesProduct_5 rfl) (z_c (ok_iconst (v := (0)) dX10_takesProduct_6 (by decide)) (z_c (ok_istore_n dX10_takesProduct_7 rfl) (z_c (ok_iload_n dX10_takesProduct_8 rfl) (z_c (ok_sipush (v := (1600)) dX10_takesProduct_9 (by decide)) (z_c (ok_icmp_ge dX10_takesProduct_12 (by decide)) (z_c (ok_iload_n dX10_takesProduct_15 rfl) (z_c (ok_if_eq dX10_takesProduct_16 (by decide)) (z_c (ok_aload_n dX10_takesProduct_19 rfl) z_n))))))))))))
noncomputable def tX10_takesProduct_1 : List (Nat × zF) := [(20, (zcv 106 0 10)), (23, (z_if_eq 78)), (26, (zla4 0 1)), (27, (zgf 10 0)), (30, (zgf 5 5)), (33, (zsi4 5 4 2)), (35, (zla4 0 1)), (36, (zgf 10 0)), (39, (zcv 58 0 5)), (42, (zla4 0 1)), (43, (zli4 1 1)), (44, (zcv 107 1 10))]
theorem kX10_takesProduct_1 : ∀ q ∈ tX10_takesProduct_1, zOk zg iX10_takesProduct q.1 q.2 := (z_c (ok_callV zcal_106 (q := (RX10, TX10, 3)) rfl zw_473 zw_474 zw_475 dX10_takesProduct_20) (z_c (ok_if_eq dX10_takesProduct_23 (by decide)) (z_c (ok_aload_n dX10_takesProduct_26 rfl) (z_c (ok_getf (C := RX10) (T := TX10) (N := 3) rfl (by decide) zinX10 rfl zw_440 dX10_takesProduct_27) (z_c (ok_getf (C := RX5) (T := TX5) (N := 12) rfl (by decide) zinX5 rfl zw_464 dX10_takesProduct_30) (z_c (ok_istore dX10_takesProduct_33) (z_c (ok_aload_n dX10_takesProduct_35 rfl) (z_c (ok_getf (C := RX10) (T := TX10) (N := 3) rfl (by decide) zinX10 rfl zw_440 dX10_takesProduct_36) (z_c (ok_callV zcal_58 (q := (RX5, TX5, 12)) rfl zw_447 zw_259 zw_260 dX10_takesProduct_39) (z_c (ok_aload_n dX10_takesProduct_42 rfl) (z_c (ok_iload_n dX10_takesProduct_43 rfl) (z_c (ok_callV zcal_107 (q := (RX10, TX10, 3)) rfl zw_470 zw_471 zw_472 dX10_takesProduct_44) z_n))))))))))))
noncomputable def tX10_takesProduct_2 : List (Nat × zF) := [(47, (z_if_eq 70)), (50, (zla4 0 1)), (51, (zgf 10 1)), (54, (zst 3 (zp (.int (10000))))), (57, (zli4 4 2)), (59, (zst 1 z_iadd)), (60, (zcv 78 1 7)), (63, (z_if_eq 70)), (66, (zst 1 (zp (.int (1))))), (67, (zgt 71)), (70, (zst 1 (zp (.int (0))))), (71, (zsi4 5 2 1))]
theorem kX10_takesProduct_2 : ∀ q ∈ tX10_takesProduct_2, zOk zg iX10_takesProduct q.1 q.2 := (z_c (ok_if_eq dX10_takesProduct_47 (by decide)) (z_c (ok_aload_n dX10_takesProduct_50 rfl) (z_c (ok_getf (C := RX10) (T := TX10) (N := 3) rfl (by decide) zinX10 rfl zw_441 dX10_takesProduct_51) (z_c (ok_sipush (v := (10000)) dX10_takesProduct_54 (by decide)) (z_c (ok_iload dX10_takesProduct_57) (z_c (ok_iadd dX10_takesProduct_59) (z_c (ok_callV zcal_78 (q := (RX7, TX7, 4)) rfl zw_448 zw_449 zw_450 dX10_takesProduct_60) (z_c (ok_if_eq dX10_takesProduct_63 (by decide)) (z_c (ok_iconst (v := (1)) dX10_takesProduct_66 (by decide)) (z_c (ok_goto dX10_takesProduct_67 (by decide)) (z_c (ok_iconst (v := (0)) dX10_takesProduct_70 (by decide)) (z_c (ok_istore_n dX10_takesProduct_71 rfl) z_n))))))))))))
noncomputable def tX10_takesProduct_3 : List (Nat × zF) := [(72, (zin4 5 3 (1))), (75, (zgt 8)), (78, (zli4 2 1)), (79, (zri true))]
theorem kX10_takesProduct_3 : ∀ q ∈ tX10_takesProduct_3, zOk zg iX10_takesProduct q.1 q.2 := (z_c (ok_iinc (v := (1)) dX10_takesProduct_72 (by decide)) (z_c (ok_goto dX10_takesProduct_75 (by decide)) (z_c (ok_iload_n dX10_takesProduct_78 rfl) (z_c (ok_zreturn rfl dX10_takesProduct_79) z_n))))
noncomputable def tX10_takesProduct : zT := [(20, tX10_takesProduct_0), (47, tX10_takesProduct_1), (72, tX10_takesProduct_2), (100000, tX10_takesProduct_3)]
theorem kX10_takesProduct : zTok zg iX10_takesProduct tX10_takesProduct := (z_t kX10_takesProduct_0 (z_t kX10_takesProduct_1 (z_t kX10_takesProduct_2 (z_t kX10_takesProduct_3 z_tn))))
theorem dX10_isFactorSign_0 : decode cX10_isFactorSign 0 = .ok (.aload_n 0, 1) := by decide +kernel
theorem dX10_isFactorSign_1 : decode cX10_isFactorSign 1 = .ok (.getfield 9, 3) := by decide +kernel
theorem dX10_isFactorSign_4 : decode cX10_isFactorSign 4 = .ok (.bipush 42, 2) := by decide +kernel
theorem dX10_isFactorSign_6 : decode cX10_isFactorSign 6 = .ok (.invokevirtual 47, 3) := by decide +kernel
theorem dX10_isFactorSign_9 : decode cX10_isFactorSign 9 = .ok (.ifCond .ne 27, 3) := by decide +kernel
theorem dX10_isFactorSign_12 : decode cX10_isFactorSign 12 = .ok (.aload_n 0, 1) := by decide +kernel
theorem dX10_isFactorSign_13 : decode cX10_isFactorSign 13 = .ok (.getfield 9, 3) := by decide +kernel
theorem dX10_isFactorSign_16 : decode cX10_isFactorSign 16 = .ok (.bipush 47, 2) := by decide +kernel
theorem dX10_isFactorSign_18 : decode cX10_isFactorSign 18 = .ok (.invokevirtual 47, 3) := by decide +kernel
theorem dX10_isFactorSign_21 : decode cX10_isFactorSign 21 = .ok (.ifCond .ne 15, 3) := by decide +kernel
theorem dX10_isFactorSign_24 : decode cX10_isFactorSign 24 = .ok (.aload_n 0, 1) := by decide +kernel
theorem dX10_isFactorSign_25 : decode cX10_isFactorSign 25 = .ok (.getfield 9, 3) := by decide +kernel
theorem dX10_isFactorSign_28 : decode cX10_isFactorSign 28 = .ok (.bipush 37, 2) := by decide +kernel
theorem dX10_isFactorSign_30 : decode cX10_isFactorSign 30 = .ok (.invokevirtual 47, 3) := by decide +kernel
theorem dX10_isFactorSign_33 : decode cX10_isFactorSign 33 = .ok (.ifCond .eq 7, 3) := by decide +kernel
theorem dX10_isFactorSign_36 : decode cX10_isFactorSign 36 = .ok (.iconst 1, 1) := by decide +kernel
theorem dX10_isFactorSign_37 : decode cX10_isFactorSign 37 = .ok (.goto 4, 3) := by decide +kernel
theorem dX10_isFactorSign_40 : decode cX10_isFactorSign 40 = .ok (.iconst 0, 1) := by decide +kernel
theorem dX10_isFactorSign_41 : decode cX10_isFactorSign 41 = .ok (.ireturn, 1) := by decide +kernel
noncomputable def tX10_isFactorSign_0 : List (Nat × zF) := [(0, (zla4 0 1)), (1, (zgf 10 0)), (4, (zst 2 (zp (.int (42))))), (6, (zcv 62 1 5)), (9, (z_if_ne 36)), (12, (zla4 0 1)), (13, (zgf 10 0)), (16, (zst 2 (zp (.int (47))))), (18, (zcv 62 1 5)), (21, (z_if_ne 36)), (24, (zla4 0 1)), (25, (zgf 10 0))]
theorem kX10_isFactorSign_0 : ∀ q ∈ tX10_isFactorSign_0, zOk zg iX10_isFactorSign q.1 q.2 := (z_c (ok_aload_n dX10_isFactorSign_0 rfl) (z_c (ok_getf (C := RX10) (T := TX10) (N := 3) rfl (by decide) zinX10 rfl zw_440 dX10_isFactorSign_1) (z_c (ok_bipush (v := (42)) dX10_isFactorSign_4 (by decide)) (z_c (ok_callV zcal_62 (q := (RX5, TX5, 12)) rfl zw_457 zw_277 zw_278 dX10_isFactorSign_6) (z_c (ok_if_ne dX10_isFactorSign_9 (by decide)) (z_c (ok_aload_n dX10_isFactorSign_12 rfl) (z_c (ok_getf (C := RX10) (T := TX10) (N := 3) rfl (by decide) zinX10 rfl zw_440 dX10_isFactorSign_13) (z_c (ok_bipush (v := (47)) dX10_isFactorSign_16 (by decide)) (z_c (ok_callV zcal_62 (q := (RX5, TX5, 12)) rfl zw_457 zw_277 zw_278 dX10_isFactorSign_18) (z_c (ok_if_ne dX10_isFactorSign_21 (by decide)) (z_c (ok_aload_n dX10_isFactorSign_24 rfl) (z_c (ok_getf (C := RX10) (T := TX10) (N := 3) rfl (by decide) zinX10 rfl zw_440 dX10_isFactorSign_25) z_n))))))))))))
noncomputable def tX10_isFactorSign_1 : List (Nat × zF) := [(28, (zst 2 (zp (.int (37))))), (30, (zcv 62 1 5)), (33, (z_if_eq 40)), (36, (zst 1 (zp (.int (1))))), (37, (zgt 41)), (40, (zst 1 (zp (.int (0))))), (41, (zri true))]
theorem kX10_isFactorSign_1 : ∀ q ∈ tX10_isFactorSign_1, zOk zg iX10_isFactorSign q.1 q.2 := (z_c (ok_bipush (v := (37)) dX10_isFactorSign_28 (by decide)) (z_c (ok_callV zcal_62 (q := (RX5, TX5, 12)) rfl zw_457 zw_277 zw_278 dX10_isFactorSign_30) (z_c (ok_if_eq dX10_isFactorSign_33 (by decide)) (z_c (ok_iconst (v := (1)) dX10_isFactorSign_36 (by decide)) (z_c (ok_goto dX10_isFactorSign_37 (by decide)) (z_c (ok_iconst (v := (0)) dX10_isFactorSign_40 (by decide)) (z_c (ok_zreturn rfl dX10_isFactorSign_41) z_n)))))))
noncomputable def tX10_isFactorSign : zT := [(28, tX10_isFactorSign_0), (100000, tX10_isFactorSign_1)]
theorem kX10_isFactorSign : zTok zg iX10_isFactorSign tX10_isFactorSign := (z_t kX10_isFactorSign_0 (z_t kX10_isFactorSign_1 z_tn))
theorem dX10_takesPart_0 : decode cX10_takesPart 0 = .ok (.aload_n 0, 1) := by decide +kernel
theorem dX10_takesPart_1 : decode cX10_takesPart 1 = .ok (.getfield 9, 3) := by decide +kernel
theorem dX10_takesPart_4 : decode cX10_takesPart 4 = .ok (.getfield 82, 3) := by decide +kernel
theorem dX10_takesPart_7 : decode cX10_takesPart 7 = .ok (.iconst 3, 1) := by decide +kernel
theorem dX10_takesPart_8 : decode cX10_takesPart 8 = .ok (.if_icmp .ne 27, 3) := by decide +kernel
theorem dX10_takesPart_11 : decode cX10_takesPart 11 = .ok (.aload_n 0, 1) := by decide +kernel
theorem dX10_takesPart_12 : decode cX10_takesPart 12 = .ok (.getfield 15, 3) := by decide +kernel
theorem dX10_takesPart_15 : decode cX10_takesPart 15 = .ok (.aload_n 0, 1) := by decide +kernel
theorem dX10_takesPart_16 : decode cX10_takesPart 16 = .ok (.getfield 9, 3) := by decide +kernel
theorem dX10_takesPart_19 : decode cX10_takesPart 19 = .ok (.getfield 62, 3) := by decide +kernel
theorem dX10_takesPart_22 : decode cX10_takesPart 22 = .ok (.invokevirtual 35, 3) := by decide +kernel
theorem dX10_takesPart_25 : decode cX10_takesPart 25 = .ok (.pop, 1) := by decide +kernel
theorem dX10_takesPart_26 : decode cX10_takesPart 26 = .ok (.aload_n 0, 1) := by decide +kernel
theorem dX10_takesPart_27 : decode cX10_takesPart 27 = .ok (.getfield 9, 3) := by decide +kernel
theorem dX10_takesPart_30 : decode cX10_takesPart 30 = .ok (.invokevirtual 32, 3) := by decide +kernel
theorem dX10_takesPart_33 : decode cX10_takesPart 33 = .ok (.iconst 1, 1) := by decide +kernel
theorem dX10_takesPart_34 : decode cX10_takesPart 34 = .ok (.ireturn, 1) := by decide +kernel
theorem dX10_takesPart_35 : decode cX10_takesPart 35 = .ok (.aload_n 0, 1) := by decide +kernel
theorem dX10_takesPart_36 : decode cX10_takesPart 36 = .ok (.getfield 9, 3) := by decide +kernel
theorem dX10_takesPart_39 : decode cX10_takesPart 39 = .ok (.bipush 40, 2) := by decide +kernel
theorem dX10_takesPart_41 : decode cX10_takesPart 41 = .ok (.invokevirtual 47, 3) := by decide +kernel
theorem dX10_takesPart_44 : decode cX10_takesPart 44 = .ok (.ifCond .eq 40, 3) := by decide +kernel
theorem dX10_takesPart_47 : decode cX10_takesPart 47 = .ok (.aload_n 0, 1) := by decide +kernel
theorem dX10_takesPart_48 : decode cX10_takesPart 48 = .ok (.iload_n 1, 1) := by decide +kernel
theorem dX10_takesPart_49 : decode cX10_takesPart 49 = .ok (.iconst 1, 1) := by decide +kernel
theorem dX10_takesPart_50 : decode cX10_takesPart 50 = .ok (.invokevirtual 43, 3) := by decide +kernel
theorem dX10_takesPart_53 : decode cX10_takesPart 53 = .ok (.ifCond .eq 29, 3) := by decide +kernel
theorem dX10_takesPart_56 : decode cX10_takesPart 56 = .ok (.aload_n 0, 1) := by decide +kernel
theorem dX10_takesPart_57 : decode cX10_takesPart 57 = .ok (.iload_n 1, 1) := by decide +kernel
theorem dX10_takesPart_58 : decode cX10_takesPart 58 = .ok (.iconst 1, 1) := by decide +kernel
theorem dX10_takesPart_59 : decode cX10_takesPart 59 = .ok (.iadd, 1) := by decide +kernel
theorem dX10_takesPart_60 : decode cX10_takesPart 60 = .ok (.invokevirtual 56, 3) := by decide +kernel
theorem dX10_takesPart_63 : decode cX10_takesPart 63 = .ok (.ifCond .eq 19, 3) := by decide +kernel
theorem dX10_takesPart_66 : decode cX10_takesPart 66 = .ok (.aload_n 0, 1) := by decide +kernel
theorem dX10_takesPart_67 : decode cX10_takesPart 67 = .ok (.getfield 9, 3) := by decide +kernel
theorem dX10_takesPart_70 : decode cX10_takesPart 70 = .ok (.bipush 41, 2) := by decide +kernel
theorem dX10_takesPart_72 : decode cX10_takesPart 72 = .ok (.invokevirtual 53, 3) := by decide +kernel
theorem dX10_takesPart_75 : decode cX10_takesPart 75 = .ok (.ifCond .eq 7, 3) := by decide +kernel
theorem dX10_takesPart_78 : decode cX10_takesPart 78 = .ok (.iconst 1, 1) := by decide +kernel
theorem dX10_takesPart_79 : decode cX10_takesPart 79 = .ok (.goto 4, 3) := by decide +kernel
theorem dX10_takesPart_82 : decode cX10_takesPart 82 = .ok (.iconst 0, 1) := by decide +kernel
theorem dX10_takesPart_83 : decode cX10_takesPart 83 = .ok (.ireturn, 1) := by decide +kernel
theorem dX10_takesPart_84 : decode cX10_takesPart 84 = .ok (.aload_n 0, 1) := by decide +kernel
theorem dX10_takesPart_85 : decode cX10_takesPart 85 = .ok (.getfield 9, 3) := by decide +kernel
theorem dX10_takesPart_88 : decode cX10_takesPart 88 = .ok (.getfield 82, 3) := by decide +kernel
theorem dX10_takesPart_91 : decode cX10_takesPart 91 = .ok (.iconst 2, 1) := by decide +kernel
theorem dX10_takesPart_92 : decode cX10_takesPart 92 = .ok (.if_icmp .ne 13, 3) := by decide +kernel
theorem dX10_takesPart_95 : decode cX10_takesPart 95 = .ok (.aload_n 0, 1) := by decide +kernel
theorem dX10_takesPart_96 : decode cX10_takesPart 96 = .ok (.getfield 9, 3) := by decide +kernel
theorem dX10_takesPart_99 : decode cX10_takesPart 99 = .ok (.getfield 62, 3) := by decide +kernel
theorem dX10_takesPart_102 : decode cX10_takesPart 102 = .ok (.goto 4, 3) := by decide +kernel
theorem dX10_takesPart_105 : decode cX10_takesPart 105 = .ok (.iconst (-1), 1) := by decide +kernel
theorem dX10_takesPart_106 : decode cX10_takesPart 106 = .ok (.istore_n 2, 1) := by decide +kernel
theorem dX10_takesPart_107 : decode cX10_takesPart 107 = .ok (.aload_n 0, 1) := by decide +kernel
theorem dX10_takesPart_108 : decode cX10_takesPart 108 = .ok (.iload_n 2, 1) := by decide +kernel
theorem dX10_takesPart_109 : decode cX10_takesPart 109 = .ok (.invokevirtual 85, 3) := by decide +kernel
theorem dX10_takesPart_112 : decode cX10_takesPart 112 = .ok (.ifCond .eq 23, 3) := by decide +kernel
theorem dX10_takesPart_115 : decode cX10_takesPart 115 = .ok (.aload_n 0, 1) := by decide +kernel
theorem dX10_takesPart_116 : decode cX10_takesPart 116 = .ok (.getfield 9, 3) := by decide +kernel
theorem dX10_takesPart_119 : decode cX10_takesPart 119 = .ok (.invokevirtual 32, 3) := by decide +kernel
theorem dX10_takesPart_122 : decode cX10_takesPart 122 = .ok (.aload_n 0, 1) := by decide +kernel
theorem dX10_takesPart_123 : decode cX10_takesPart 123 = .ok (.getfield 15, 3) := by decide +kernel
theorem dX10_takesPart_126 : decode cX10_takesPart 126 = .ok (.sipush 10000, 3) := by decide +kernel
theorem dX10_takesPart_129 : decode cX10_takesPart 129 = .ok (.iload_n 2, 1) := by decide +kernel
theorem dX10_takesPart_130 : decode cX10_takesPart 130 = .ok (.iadd, 1) := by decide +kernel
theorem dX10_takesPart_131 : decode cX10_takesPart 131 = .ok (.invokevirtual 35, 3) := by decide +kernel
theorem dX10_takesPart_134 : decode cX10_takesPart 134 = .ok (.ireturn, 1) := by decide +kernel
theorem dX10_takesPart_135 : decode cX10_takesPart 135 = .ok (.iload_n 2, 1) := by decide +kernel
theorem dX10_takesPart_136 : decode cX10_takesPart 136 = .ok (.bipush 24, 2) := by decide +kernel
theorem dX10_takesPart_138 : decode cX10_takesPart 138 = .ok (.if_icmp .eq 9, 3) := by decide +kernel
theorem dX10_takesPart_141 : decode cX10_takesPart 141 = .ok (.iload_n 2, 1) := by decide +kernel
theorem dX10_takesPart_142 : decode cX10_takesPart 142 = .ok (.bipush 25, 2) := by decide +kernel
theorem dX10_takesPart_144 : decode cX10_takesPart 144 = .ok (.if_icmp .ne 58, 3) := by decide +kernel
theorem dX10_takesPart_147 : decode cX10_takesPart 147 = .ok (.aload_n 0, 1) := by decide +kernel
theorem dX10_takesPart_148 : decode cX10_takesPart 148 = .ok (.getfield 9, 3) := by decide +kernel
theorem dX10_takesPart_151 : decode cX10_takesPart 151 = .ok (.invokevirtual 32, 3) := by decide +kernel
theorem dX10_takesPart_154 : decode cX10_takesPart 154 = .ok (.aload_n 0, 1) := by decide +kernel
theorem dX10_takesPart_155 : decode cX10_takesPart 155 = .ok (.iload_n 1, 1) := by decide +kernel
theorem dX10_takesPart_156 : decode cX10_takesPart 156 = .ok (.aload_n 0, 1) := by decide +kernel
theorem dX10_takesPart_157 : decode cX10_takesPart 157 = .ok (.getfield 9, 3) := by decide +kernel
theorem dX10_takesPart_160 : decode cX10_takesPart 160 = .ok (.bipush 40, 2) := by decide +kernel
theorem dX10_takesPart_162 : decode cX10_takesPart 162 = .ok (.invokevirtual 47, 3) := by decide +kernel
theorem dX10_takesPart_165 : decode cX10_takesPart 165 = .ok (.invokevirtual 43, 3) := by decide +kernel
theorem dX10_takesPart_168 : decode cX10_takesPart 168 = .ok (.ifCond .eq 32, 3) := by decide +kernel
theorem dX10_takesPart_171 : decode cX10_takesPart 171 = .ok (.aload_n 0, 1) := by decide +kernel
theorem dX10_takesPart_172 : decode cX10_takesPart 172 = .ok (.iload_n 1, 1) := by decide +kernel
theorem dX10_takesPart_173 : decode cX10_takesPart 173 = .ok (.iconst 1, 1) := by decide +kernel
theorem dX10_takesPart_174 : decode cX10_takesPart 174 = .ok (.iadd, 1) := by decide +kernel
theorem dX10_takesPart_175 : decode cX10_takesPart 175 = .ok (.invokevirtual 88, 3) := by decide +kernel
theorem dX10_takesPart_178 : decode cX10_takesPart 178 = .ok (.ifCond .eq 22, 3) := by decide +kernel
theorem dX10_takesPart_181 : decode cX10_takesPart 181 = .ok (.aload_n 0, 1) := by decide +kernel
theorem dX10_takesPart_182 : decode cX10_takesPart 182 = .ok (.getfield 15, 3) := by decide +kernel
theorem dX10_takesPart_185 : decode cX10_takesPart 185 = .ok (.sipush 10000, 3) := by decide +kernel
theorem dX10_takesPart_188 : decode cX10_takesPart 188 = .ok (.iload_n 2, 1) := by decide +kernel
theorem dX10_takesPart_189 : decode cX10_takesPart 189 = .ok (.iadd, 1) := by decide +kernel
theorem dX10_takesPart_190 : decode cX10_takesPart 190 = .ok (.invokevirtual 35, 3) := by decide +kernel
theorem dX10_takesPart_193 : decode cX10_takesPart 193 = .ok (.ifCond .eq 7, 3) := by decide +kernel
theorem dX10_takesPart_196 : decode cX10_takesPart 196 = .ok (.iconst 1, 1) := by decide +kernel
theorem dX10_takesPart_197 : decode cX10_takesPart 197 = .ok (.goto 4, 3) := by decide +kernel
theorem dX10_takesPart_200 : decode cX10_takesPart 200 = .ok (.iconst 0, 1) := by decide +kernel
theorem dX10_takesPart_201 : decode cX10_takesPart 201 = .ok (.ireturn, 1) := by decide +kernel
theorem dX10_takesPart_202 : decode cX10_takesPart 202 = .ok (.iload_n 2, 1) := by decide +kernel
theorem dX10_takesPart_203 : decode cX10_takesPart 203 = .ok (.bipush 19, 2) := by decide +kernel
theorem dX10_takesPart_205 : decode cX10_takesPart 205 = .ok (.if_icmp .ne 80, 3) := by decide +kernel
theorem dX10_takesPart_208 : decode cX10_takesPart 208 = .ok (.aload_n 0, 1) := by decide +kernel
theorem dX10_takesPart_209 : decode cX10_takesPart 209 = .ok (.getfield 9, 3) := by decide +kernel
theorem dX10_takesPart_212 : decode cX10_takesPart 212 = .ok (.invokevirtual 32, 3) := by decide +kernel
theorem dX10_takesPart_215 : decode cX10_takesPart 215 = .ok (.aload_n 0, 1) := by decide +kernel
theorem dX10_takesPart_216 : decode cX10_takesPart 216 = .ok (.iload_n 1, 1) := by decide +kernel
theorem dX10_takesPart_217 : decode cX10_takesPart 217 = .ok (.aload_n 0, 1) := by decide +kernel
theorem dX10_takesPart_218 : decode cX10_takesPart 218 = .ok (.getfield 9, 3) := by decide +kernel
theorem dX10_takesPart_221 : decode cX10_takesPart 221 = .ok (.bipush 40, 2) := by decide +kernel
theorem dX10_takesPart_223 : decode cX10_takesPart 223 = .ok (.invokevirtual 47, 3) := by decide +kernel
theorem dX10_takesPart_226 : decode cX10_takesPart 226 = .ok (.invokevirtual 43, 3) := by decide +kernel
theorem dX10_takesPart_229 : decode cX10_takesPart 229 = .ok (.ifCond .eq 54, 3) := by decide +kernel
theorem dX10_takesPart_232 : decode cX10_takesPart 232 = .ok (.aload_n 0, 1) := by decide +kernel
theorem dX10_takesPart_233 : decode cX10_takesPart 233 = .ok (.iload_n 1, 1) := by decide +kernel
theorem dX10_takesPart_234 : decode cX10_takesPart 234 = .ok (.iconst 1, 1) := by decide +kernel
theorem dX10_takesPart_235 : decode cX10_takesPart 235 = .ok (.iadd, 1) := by decide +kernel
theorem dX10_takesPart_236 : decode cX10_takesPart 236 = .ok (.invokevirtual 50, 3) := by decide +kernel
theorem dX10_takesPart_239 : decode cX10_takesPart 239 = .ok (.ifCond .eq 44, 3) := by decide +kernel
theorem dX10_takesPart_242 : decode cX10_takesPart 242 = .ok (.aload_n 0, 1) := by decide +kernel
theorem dX10_takesPart_243 : decode cX10_takesPart 243 = .ok (.getfield 9, 3) := by decide +kernel
theorem dX10_takesPart_246 : decode cX10_takesPart 246 = .ok (.bipush 44, 2) := by decide +kernel
theorem dX10_takesPart_248 : decode cX10_takesPart 248 = .ok (.invokevirtual 53, 3) := by decide +kernel
theorem dX10_takesPart_251 : decode cX10_takesPart 251 = .ok (.ifCond .eq 32, 3) := by decide +kernel
theorem dX10_takesPart_254 : decode cX10_takesPart 254 = .ok (.aload_n 0, 1) := by decide +kernel
theorem dX10_takesPart_255 : decode cX10_takesPart 255 = .ok (.iload_n 1, 1) := by decide +kernel
theorem dX10_takesPart_256 : decode cX10_takesPart 256 = .ok (.iconst 1, 1) := by decide +kernel
theorem dX10_takesPart_257 : decode cX10_takesPart 257 = .ok (.iadd, 1) := by decide +kernel
theorem dX10_takesPart_258 : decode cX10_takesPart 258 = .ok (.invokevirtual 88, 3) := by decide +kernel
theorem dX10_takesPart_261 : decode cX10_takesPart 261 = .ok (.ifCond .eq 22, 3) := by decide +kernel
theorem dX10_takesPart_264 : decode cX10_takesPart 264 = .ok (.aload_n 0, 1) := by decide +kernel
theorem dX10_takesPart_265 : decode cX10_takesPart 265 = .ok (.getfield 15, 3) := by decide +kernel
theorem dX10_takesPart_268 : decode cX10_takesPart 268 = .ok (.sipush 10000, 3) := by decide +kernel
theorem dX10_takesPart_271 : decode cX10_takesPart 271 = .ok (.iload_n 2, 1) := by decide +kernel
theorem dX10_takesPart_272 : decode cX10_takesPart 272 = .ok (.iadd, 1) := by decide +kernel
theorem dX10_takesPart_273 : decode cX10_takesPart 273 = .ok (.invokevirtual 35, 3) := by decide +kernel
theorem dX10_takesPart_276 : decode cX10_takesPart 276 = .ok (.ifCond .eq 7, 3) := by decide +kernel
theorem dX10_takesPart_279 : decode cX10_takesPart 279 = .ok (.iconst 1, 1) := by decide +kernel
theorem dX10_takesPart_280 : decode cX10_takesPart 280 = .ok (.goto 4, 3) := by decide +kernel
theorem dX10_takesPart_283 : decode cX10_takesPart 283 = .ok (.iconst 0, 1) := by decide +kernel
theorem dX10_takesPart_284 : decode cX10_takesPart 284 = .ok (.ireturn, 1) := by decide +kernel
theorem dX10_takesPart_285 : decode cX10_takesPart 285 = .ok (.aload_n 0, 1) := by decide +kernel
theorem dX10_takesPart_286 : decode cX10_takesPart 286 = .ok (.getfield 9, 3) := by decide +kernel
theorem dX10_takesPart_289 : decode cX10_takesPart 289 = .ok (.iconst 1, 1) := by decide +kernel
theorem dX10_takesPart_290 : decode cX10_takesPart 290 = .ok (.aload_n 0, 1) := by decide +kernel
theorem dX10_takesPart_291 : decode cX10_takesPart 291 = .ok (.getfield 9, 3) := by decide +kernel
theorem dX10_takesPart_294 : decode cX10_takesPart 294 = .ok (.getfield 65, 3) := by decide +kernel
theorem dX10_takesPart_297 : decode cX10_takesPart 297 = .ok (.invokevirtual 68, 3) := by decide +kernel
theorem dX10_takesPart_300 : decode cX10_takesPart 300 = .ok (.ireturn, 1) := by decide +kernel
noncomputable def tX10_takesPart_0 : List (Nat × zF) := [(0, (zla4 0 1)), (1, (zgf 10 0)), (4, (zgf 5 4)), (7, (zst 1 (zp (.int (3))))), (8, (z_ic_ne 35)), (11, (zla4 0 1)), (12, (zgf 10 1)), (15, (zla4 0 1)), (16, (zgf 10 0)), (19, (zgf 5 5)), (22, (zcv 78 1 7)), (25, (zst 1 zpo))]
theorem kX10_takesPart_0 : ∀ q ∈ tX10_takesPart_0, zOk zg iX10_takesPart q.1 q.2 := (z_c (ok_aload_n dX10_takesPart_0 rfl) (z_c (ok_getf (C := RX10) (T := TX10) (N := 3) rfl (by decide) zinX10 rfl zw_440 dX10_takesPart_1) (z_c (ok_getf (C := RX5) (T := TX5) (N := 12) rfl (by decide) zinX5 rfl zw_476 dX10_takesPart_4) (z_c (ok_iconst (v := (3)) dX10_takesPart_7 (by decide)) (z_c (ok_icmp_ne dX10_takesPart_8 (by decide)) (z_c (ok_aload_n dX10_takesPart_11 rfl) (z_c (ok_getf (C := RX10) (T := TX10) (N := 3) rfl (by decide) zinX10 rfl zw_441 dX10_takesPart_12) (z_c (ok_aload_n dX10_takesPart_15 rfl) (z_c (ok_getf (C := RX10) (T := TX10) (N := 3) rfl (by decide) zinX10 rfl zw_440 dX10_takesPart_16) (z_c (ok_getf (C := RX5) (T := TX5) (N := 12) rfl (by decide) zinX5 rfl zw_464 dX10_takesPart_19) (z_c (ok_callV zcal_78 (q := (RX7, TX7, 4)) rfl zw_448 zw_449 zw_450 dX10_takesPart_22) (z_c (ok_pop dX10_takesPart_25) z_n))))))))))))
noncomputable def tX10_takesPart_1 : List (Nat × zF) := [(26, (zla4 0 1)), (27, (zgf 10 0)), (30, (zcv 58 0 5)), (33, (zst 1 (zp (.int (1))))), (34, (zri true)), (35, (zla4 0 1)), (36, (zgf 10 0)), (39, (zst 2 (zp (.int (40))))), (41, (zcv 62 1 5)), (44, (z_if_eq 84)), (47, (zla4 0 1)), (48, (zli4 1 1))]
theorem kX10_takesPart_1 : ∀ q ∈ tX10_takesPart_1, zOk zg iX10_takesPart q.1 q.2 := (z_c (ok_aload_n dX10_takesPart_26 rfl) (z_c (ok_getf (C := RX10) (T := TX10) (N := 3) rfl (by decide) zinX10 rfl zw_440 dX10_takesPart_27) (z_c (ok_callV zcal_58 (q := (RX5, TX5, 12)) rfl zw_447 zw_259 zw_260 dX10_takesPart_30) (z_c (ok_iconst (v := (1)) dX10_takesPart_33 (by decide)) (z_c (ok_zreturn rfl dX10_takesPart_34) (z_c (ok_aload_n dX10_takesPart_35 rfl) (z_c (ok_getf (C := RX10) (T := TX10) (N := 3) rfl (by decide) zinX10 rfl zw_440 dX10_takesPart_36) (z_c (ok_bipush (v := (40)) dX10_takesPart_39 (by decide)) (z_c (ok_callV zcal_62 (q := (RX5, TX5, 12)) rfl zw_457 zw_277 zw_278 dX10_takesPart_41) (z_c (ok_if_eq dX10_takesPart_44 (by decide)) (z_c (ok_aload_n dX10_takesPart_47 rfl) (z_c (ok_iload_n dX10_takesPart_48 rfl) z_n))))))))))))
noncomputable def tX10_takesPart_2 : List (Nat × zF) := [(49, (zst 1 (zp (.int (1))))), (50, (zcv 110 2 10)), (53, (z_if_eq 82)), (56, (zla4 0 1)), (57, (zli4 1 1)), (58, (zst 1 (zp (.int (1))))), (59, (zst 1 z_iadd)), (60, (zcv 104 1 10)), (63, (z_if_eq 82)), (66, (zla4 0 1)), (67, (zgf 10 0)), (70, (zst 2 (zp (.int (41)))))]
theorem kX10_takesPart_2 : ∀ q ∈ tX10_takesPart_2, zOk zg iX10_takesPart q.1 q.2 := (z_c (ok_iconst (v := (1)) dX10_takesPart_49 (by decide)) (z_c (ok_callV zcal_110 (q := (RX10, TX10, 3)) rfl zw_454 zw_455 zw_456 dX10_takesPart_50) (z_c (ok_if_eq dX10_takesPart_53 (by decide)) (z_c (ok_aload_n dX10_takesPart_56 rfl) (z_c (ok_iload_n dX10_takesPart_57 rfl) (z_c (ok_iconst (v := (1)) dX10_takesPart_58 (by decide)) (z_c (ok_iadd dX10_takesPart_59) (z_c (ok_callV zcal_104 (q := (RX10, TX10, 3)) rfl zw_460 zw_427 zw_428 dX10_takesPart_60) (z_c (ok_if_eq dX10_takesPart_63 (by decide)) (z_c (ok_aload_n dX10_takesPart_66 rfl) (z_c (ok_getf (C := RX10) (T := TX10) (N := 3) rfl (by decide) zinX10 rfl zw_440 dX10_takesPart_67) (z_c (ok_bipush (v := (41)) dX10_takesPart_70 (by decide)) z_n))))))))))))
noncomputable def tX10_takesPart_3 : List (Nat × zF) := [(72, (zcv 65 1 5)), (75, (z_if_eq 82)), (78, (zst 1 (zp (.int (1))))), (79, (zgt 83)), (82, (zst 1 (zp (.int (0))))), (83, (zri true)), (84, (zla4 0 1)), (85, (zgf 10 0)), (88, (zgf 5 4)), (91, (zst 1 (zp (.int (2))))), (92, (z_ic_ne 105)), (95, (zla4 0 1))]
theorem kX10_takesPart_3 : ∀ q ∈ tX10_takesPart_3, zOk zg iX10_takesPart q.1 q.2 := (z_c (ok_callV zcal_65 (q := (RX5, TX5, 12)) rfl zw_459 zw_349 zw_350 dX10_takesPart_72) (z_c (ok_if_eq dX10_takesPart_75 (by decide)) (z_c (ok_iconst (v := (1)) dX10_takesPart_78 (by decide)) (z_c (ok_goto dX10_takesPart_79 (by decide)) (z_c (ok_iconst (v := (0)) dX10_takesPart_82 (by decide)) (z_c (ok_zreturn rfl dX10_takesPart_83) (z_c (ok_aload_n dX10_takesPart_84 rfl) (z_c (ok_getf (C := RX10) (T := TX10) (N := 3) rfl (by decide) zinX10 rfl zw_440 dX10_takesPart_85) (z_c (ok_getf (C := RX5) (T := TX5) (N := 12) rfl (by decide) zinX5 rfl zw_476 dX10_takesPart_88) (z_c (ok_iconst (v := (2)) dX10_takesPart_91 (by decide)) (z_c (ok_icmp_ne dX10_takesPart_92 (by decide)) (z_c (ok_aload_n dX10_takesPart_95 rfl) z_n))))))))))))
noncomputable def tX10_takesPart_4 : List (Nat × zF) := [(96, (zgf 10 0)), (99, (zgf 5 5)), (102, (zgt 106)), (105, (zst 1 (zp (.int ((-1)))))), (106, (zsi4 3 2 1)), (107, (zla4 0 1)), (108, (zli4 2 1)), (109, (zcv 108 1 10)), (112, (z_if_eq 135)), (115, (zla4 0 1)), (116, (zgf 10 0)), (119, (zcv 58 0 5))]
theorem kX10_takesPart_4 : ∀ q ∈ tX10_takesPart_4, zOk zg iX10_takesPart q.1 q.2 := (z_c (ok_getf (C := RX10) (T := TX10) (N := 3) rfl (by decide) zinX10 rfl zw_440 dX10_takesPart_96) (z_c (ok_getf (C := RX5) (T := TX5) (N := 12) rfl (by decide) zinX5 rfl zw_464 dX10_takesPart_99) (z_c (ok_goto dX10_takesPart_102 (by decide)) (z_c (ok_iconst (v := (-1)) dX10_takesPart_105 (by decide)) (z_c (ok_istore_n dX10_takesPart_106 rfl) (z_c (ok_aload_n dX10_takesPart_107 rfl) (z_c (ok_iload_n dX10_takesPart_108 rfl) (z_c (ok_callV zcal_108 (q := (RX10, TX10, 3)) rfl zw_477 zw_478 zw_479 dX10_takesPart_109) (z_c (ok_if_eq dX10_takesPart_112 (by decide)) (z_c (ok_aload_n dX10_takesPart_115 rfl) (z_c (ok_getf (C := RX10) (T := TX10) (N := 3) rfl (by decide) zinX10 rfl zw_440 dX10_takesPart_116) (z_c (ok_callV zcal_58 (q := (RX5, TX5, 12)) rfl zw_447 zw_259 zw_260 dX10_takesPart_119) z_n))))))))))))
noncomputable def tX10_takesPart_5 : List (Nat × zF) := [(122, (zla4 0 1)), (123, (zgf 10 1)), (126, (zst 3 (zp (.int (10000))))), (129, (zli4 2 1)), (130, (zst 1 z_iadd)), (131, (zcv 78 1 7)), (134, (zri true)), (135, (zli4 2 1)), (136, (zst 2 (zp (.int (24))))), (138, (z_ic_eq 147)), (141, (zli4 2 1)), (142, (zst 2 (zp (.int (25)))))]
theorem kX10_takesPart_5 : ∀ q ∈ tX10_takesPart_5, zOk zg iX10_takesPart q.1 q.2 := (z_c (ok_aload_n dX10_takesPart_122 rfl) (z_c (ok_getf (C := RX10) (T := TX10) (N := 3) rfl (by decide) zinX10 rfl zw_441 dX10_takesPart_123) (z_c (ok_sipush (v := (10000)) dX10_takesPart_126 (by decide)) (z_c (ok_iload_n dX10_takesPart_129 rfl) (z_c (ok_iadd dX10_takesPart_130) (z_c (ok_callV zcal_78 (q := (RX7, TX7, 4)) rfl zw_448 zw_449 zw_450 dX10_takesPart_131) (z_c (ok_zreturn rfl dX10_takesPart_134) (z_c (ok_iload_n dX10_takesPart_135 rfl) (z_c (ok_bipush (v := (24)) dX10_takesPart_136 (by decide)) (z_c (ok_icmp_eq dX10_takesPart_138 (by decide)) (z_c (ok_iload_n dX10_takesPart_141 rfl) (z_c (ok_bipush (v := (25)) dX10_takesPart_142 (by decide)) z_n))))))))))))
noncomputable def tX10_takesPart_6 : List (Nat × zF) := [(144, (z_ic_ne 202)), (147, (zla4 0 1)), (148, (zgf 10 0)), (151, (zcv 58 0 5)), (154, (zla4 0 1)), (155, (zli4 1 1)), (156, (zla4 0 1)), (157, (zgf 10 0)), (160, (zst 2 (zp (.int (40))))), (162, (zcv 62 1 5)), (165, (zcv 110 2 10)), (168, (z_if_eq 200))]
theorem kX10_takesPart_6 : ∀ q ∈ tX10_takesPart_6, zOk zg iX10_takesPart q.1 q.2 := (z_c (ok_icmp_ne dX10_takesPart_144 (by decide)) (z_c (ok_aload_n dX10_takesPart_147 rfl) (z_c (ok_getf (C := RX10) (T := TX10) (N := 3) rfl (by decide) zinX10 rfl zw_440 dX10_takesPart_148) (z_c (ok_callV zcal_58 (q := (RX5, TX5, 12)) rfl zw_447 zw_259 zw_260 dX10_takesPart_151) (z_c (ok_aload_n dX10_takesPart_154 rfl) (z_c (ok_iload_n dX10_takesPart_155 rfl) (z_c (ok_aload_n dX10_takesPart_156 rfl) (z_c (ok_getf (C := RX10) (T := TX10) (N := 3) rfl (by decide) zinX10 rfl zw_440 dX10_takesPart_157) (z_c (ok_bipush (v := (40)) dX10_takesPart_160 (by decide)) (z_c (ok_callV zcal_62 (q := (RX5, TX5, 12)) rfl zw_457 zw_277 zw_278 dX10_takesPart_162) (z_c (ok_callV zcal_110 (q := (RX10, TX10, 3)) rfl zw_454 zw_455 zw_456 dX10_takesPart_165) (z_c (ok_if_eq dX10_takesPart_168 (by decide)) z_n))))))))))))
noncomputable def tX10_takesPart_7 : List (Nat × zF) := [(171, (zla4 0 1)), (172, (zli4 1 1)), (173, (zst 1 (zp (.int (1))))), (174, (zst 1 z_iadd)), (175, (zcv 109 1 10)), (178, (z_if_eq 200)), (181, (zla4 0 1)), (182, (zgf 10 1)), (185, (zst 3 (zp (.int (10000))))), (188, (zli4 2 1)), (189, (zst 1 z_iadd)), (190, (zcv 78 1 7))]
theorem kX10_takesPart_7 : ∀ q ∈ tX10_takesPart_7, zOk zg iX10_takesPart q.1 q.2 := (z_c (ok_aload_n dX10_takesPart_171 rfl) (z_c (ok_iload_n dX10_takesPart_172 rfl) (z_c (ok_iconst (v := (1)) dX10_takesPart_173 (by decide)) (z_c (ok_iadd dX10_takesPart_174) (z_c (ok_callV zcal_109 (q := (RX10, TX10, 3)) rfl zw_480 zw_481 zw_482 dX10_takesPart_175) (z_c (ok_if_eq dX10_takesPart_178 (by decide)) (z_c (ok_aload_n dX10_takesPart_181 rfl) (z_c (ok_getf (C := RX10) (T := TX10) (N := 3) rfl (by decide) zinX10 rfl zw_441 dX10_takesPart_182) (z_c (ok_sipush (v := (10000)) dX10_takesPart_185 (by decide)) (z_c (ok_iload_n dX10_takesPart_188 rfl) (z_c (ok_iadd dX10_takesPart_189) (z_c (ok_callV zcal_78 (q := (RX7, TX7, 4)) rfl zw_448 zw_449 zw_450 dX10_takesPart_190) z_n))))))))))))
noncomputable def tX10_takesPart_8 : List (Nat × zF) := [(193, (z_if_eq 200)), (196, (zst 1 (zp (.int (1))))), (197, (zgt 201)), (200, (zst 1 (zp (.int (0))))), (201, (zri true)), (202, (zli4 2 1)), (203, (zst 2 (zp (.int (19))))), (205, (z_ic_ne 285)), (208, (zla4 0 1)), (209, (zgf 10 0)), (212, (zcv 58 0 5)), (215, (zla4 0 1))]
theorem kX10_takesPart_8 : ∀ q ∈ tX10_takesPart_8, zOk zg iX10_takesPart q.1 q.2 := (z_c (ok_if_eq dX10_takesPart_193 (by decide)) (z_c (ok_iconst (v := (1)) dX10_takesPart_196 (by decide)) (z_c (ok_goto dX10_takesPart_197 (by decide)) (z_c (ok_iconst (v := (0)) dX10_takesPart_200 (by decide)) (z_c (ok_zreturn rfl dX10_takesPart_201) (z_c (ok_iload_n dX10_takesPart_202 rfl) (z_c (ok_bipush (v := (19)) dX10_takesPart_203 (by decide)) (z_c (ok_icmp_ne dX10_takesPart_205 (by decide)) (z_c (ok_aload_n dX10_takesPart_208 rfl) (z_c (ok_getf (C := RX10) (T := TX10) (N := 3) rfl (by decide) zinX10 rfl zw_440 dX10_takesPart_209) (z_c (ok_callV zcal_58 (q := (RX5, TX5, 12)) rfl zw_447 zw_259 zw_260 dX10_takesPart_212) (z_c (ok_aload_n dX10_takesPart_215 rfl) z_n))))))))))))
noncomputable def tX10_takesPart_9 : List (Nat × zF) := [(216, (zli4 1 1)), (217, (zla4 0 1)), (218, (zgf 10 0)), (221, (zst 2 (zp (.int (40))))), (223, (zcv 62 1 5)), (226, (zcv 110 2 10)), (229, (z_if_eq 283)), (232, (zla4 0 1)), (233, (zli4 1 1)), (234, (zst 1 (zp (.int (1))))), (235, (zst 1 z_iadd)), (236, (zcv 100 1 10))]
theorem kX10_takesPart_9 : ∀ q ∈ tX10_takesPart_9, zOk zg iX10_takesPart q.1 q.2 := (z_c (ok_iload_n dX10_takesPart_216 rfl) (z_c (ok_aload_n dX10_takesPart_217 rfl) (z_c (ok_getf (C := RX10) (T := TX10) (N := 3) rfl (by decide) zinX10 rfl zw_440 dX10_takesPart_218) (z_c (ok_bipush (v := (40)) dX10_takesPart_221 (by decide)) (z_c (ok_callV zcal_62 (q := (RX5, TX5, 12)) rfl zw_457 zw_277 zw_278 dX10_takesPart_223) (z_c (ok_callV zcal_110 (q := (RX10, TX10, 3)) rfl zw_454 zw_455 zw_456 dX10_takesPart_226) (z_c (ok_if_eq dX10_takesPart_229 (by decide)) (z_c (ok_aload_n dX10_takesPart_232 rfl) (z_c (ok_iload_n dX10_takesPart_233 rfl) (z_c (ok_iconst (v := (1)) dX10_takesPart_234 (by decide)) (z_c (ok_iadd dX10_takesPart_235) (z_c (ok_callV zcal_100 (q := (RX10, TX10, 3)) rfl zw_458 zw_429 zw_430 dX10_takesPart_236) z_n))))))))))))
noncomputable def tX10_takesPart_10 : List (Nat × zF) := [(239, (z_if_eq 283)), (242, (zla4 0 1)), (243, (zgf 10 0)), (246, (zst 2 (zp (.int (44))))), (248, (zcv 65 1 5)), (251, (z_if_eq 283)), (254, (zla4 0 1)), (255, (zli4 1 1)), (256, (zst 1 (zp (.int (1))))), (257, (zst 1 z_iadd)), (258, (zcv 109 1 10)), (261, (z_if_eq 283))]
theorem kX10_takesPart_10 : ∀ q ∈ tX10_takesPart_10, zOk zg iX10_takesPart q.1 q.2 := (z_c (ok_if_eq dX10_takesPart_239 (by decide)) (z_c (ok_aload_n dX10_takesPart_242 rfl) (z_c (ok_getf (C := RX10) (T := TX10) (N := 3) rfl (by decide) zinX10 rfl zw_440 dX10_takesPart_243) (z_c (ok_bipush (v := (44)) dX10_takesPart_246 (by decide)) (z_c (ok_callV zcal_65 (q := (RX5, TX5, 12)) rfl zw_459 zw_349 zw_350 dX10_takesPart_248) (z_c (ok_if_eq dX10_takesPart_251 (by decide)) (z_c (ok_aload_n dX10_takesPart_254 rfl) (z_c (ok_iload_n dX10_takesPart_255 rfl) (z_c (ok_iconst (v := (1)) dX10_takesPart_256 (by decide)) (z_c (ok_iadd dX10_takesPart_257) (z_c (ok_callV zcal_109 (q := (RX10, TX10, 3)) rfl zw_480 zw_481 zw_482 dX10_takesPart_258) (z_c (ok_if_eq dX10_takesPart_261 (by decide)) z_n))))))))))))
noncomputable def tX10_takesPart_11 : List (Nat × zF) := [(264, (zla4 0 1)), (265, (zgf 10 1)), (268, (zst 3 (zp (.int (10000))))), (271, (zli4 2 1)), (272, (zst 1 z_iadd)), (273, (zcv 78 1 7)), (276, (z_if_eq 283)), (279, (zst 1 (zp (.int (1))))), (280, (zgt 284)), (283, (zst 1 (zp (.int (0))))), (284, (zri true)), (285, (zla4 0 1))]
theorem kX10_takesPart_11 : ∀ q ∈ tX10_takesPart_11, zOk zg iX10_takesPart q.1 q.2 := (z_c (ok_aload_n dX10_takesPart_264 rfl) (z_c (ok_getf (C := RX10) (T := TX10) (N := 3) rfl (by decide) zinX10 rfl zw_441 dX10_takesPart_265) (z_c (ok_sipush (v := (10000)) dX10_takesPart_268 (by decide)) (z_c (ok_iload_n dX10_takesPart_271 rfl) (z_c (ok_iadd dX10_takesPart_272) (z_c (ok_callV zcal_78 (q := (RX7, TX7, 4)) rfl zw_448 zw_449 zw_450 dX10_takesPart_273) (z_c (ok_if_eq dX10_takesPart_276 (by decide)) (z_c (ok_iconst (v := (1)) dX10_takesPart_279 (by decide)) (z_c (ok_goto dX10_takesPart_280 (by decide)) (z_c (ok_iconst (v := (0)) dX10_takesPart_283 (by decide)) (z_c (ok_zreturn rfl dX10_takesPart_284) (z_c (ok_aload_n dX10_takesPart_285 rfl) z_n))))))))))))
noncomputable def tX10_takesPart_12 : List (Nat × zF) := [(286, (zgf 10 0)), (289, (zst 1 (zp (.int (1))))), (290, (zla4 0 1)), (291, (zgf 10 0)), (294, (zgf 5 7)), (297, (zcv 63 2 5)), (300, (zri true))]
theorem kX10_takesPart_12 : ∀ q ∈ tX10_takesPart_12, zOk zg iX10_takesPart q.1 q.2 := (z_c (ok_getf (C := RX10) (T := TX10) (N := 3) rfl (by decide) zinX10 rfl zw_440 dX10_takesPart_286) (z_c (ok_iconst (v := (1)) dX10_takesPart_289 (by decide)) (z_c (ok_aload_n dX10_takesPart_290 rfl) (z_c (ok_getf (C := RX10) (T := TX10) (N := 3) rfl (by decide) zinX10 rfl zw_440 dX10_takesPart_291) (z_c (ok_getf (C := RX5) (T := TX5) (N := 12) rfl (by decide) zinX5 rfl zw_465 dX10_takesPart_294) (z_c (ok_callV zcal_63 (q := (RX5, TX5, 12)) rfl zw_466 zw_274 zw_275 dX10_takesPart_297) (z_c (ok_zreturn rfl dX10_takesPart_300) z_n)))))))
noncomputable def tX10_takesPart : zT := [(26, tX10_takesPart_0), (49, tX10_takesPart_1), (72, tX10_takesPart_2), (96, tX10_takesPart_3), (122, tX10_takesPart_4), (144, tX10_takesPart_5), (171, tX10_takesPart_6), (193, tX10_takesPart_7), (216, tX10_takesPart_8), (239, tX10_takesPart_9), (264, tX10_takesPart_10), (286, tX10_takesPart_11), (100000, tX10_takesPart_12)]
theorem kX10_takesPart : zTok zg iX10_takesPart tX10_takesPart := (z_t kX10_takesPart_0 (z_t kX10_takesPart_1 (z_t kX10_takesPart_2 (z_t kX10_takesPart_3 (z_t kX10_takesPart_4 (z_t kX10_takesPart_5 (z_t kX10_takesPart_6 (z_t kX10_takesPart_7 (z_t kX10_takesPart_8 (z_t kX10_takesPart_9 (z_t kX10_takesPart_10 (z_t kX10_takesPart_11 (z_t kX10_takesPart_12 z_tn)))))))))))))
theorem dX10_isValue_0 : decode cX10_isValue 0 = .ok (.iload_n 1, 1) := by decide +kernel
theorem dX10_isValue_1 : decode cX10_isValue 1 = .ok (.tableswitch 93 7 18 #[63, 63, 93, 93, 93, 93, 93, 93, 63, 63, 65, 79], 63) := by decide +kernel
theorem dX10_isValue_64 : decode cX10_isValue 64 = .ok (.iconst 1, 1) := by decide +kernel
theorem dX10_isValue_65 : decode cX10_isValue 65 = .ok (.ireturn, 1) := by decide +kernel
theorem dX10_isValue_66 : decode cX10_isValue 66 = .ok (.aload_n 0, 1) := by decide +kernel
theorem dX10_isValue_67 : decode cX10_isValue 67 = .ok (.getfield 19, 3) := by decide +kernel
theorem dX10_isValue_70 : decode cX10_isValue 70 = .ok (.iconst 1, 1) := by decide +kernel
theorem dX10_isValue_71 : decode cX10_isValue 71 = .ok (.if_icmp .eq 7, 3) := by decide +kernel
theorem dX10_isValue_74 : decode cX10_isValue 74 = .ok (.iconst 1, 1) := by decide +kernel
theorem dX10_isValue_75 : decode cX10_isValue 75 = .ok (.goto 4, 3) := by decide +kernel
theorem dX10_isValue_78 : decode cX10_isValue 78 = .ok (.iconst 0, 1) := by decide +kernel
theorem dX10_isValue_79 : decode cX10_isValue 79 = .ok (.ireturn, 1) := by decide +kernel
theorem dX10_isValue_80 : decode cX10_isValue 80 = .ok (.aload_n 0, 1) := by decide +kernel
theorem dX10_isValue_81 : decode cX10_isValue 81 = .ok (.getfield 19, 3) := by decide +kernel
theorem dX10_isValue_84 : decode cX10_isValue 84 = .ok (.iconst 1, 1) := by decide +kernel
theorem dX10_isValue_85 : decode cX10_isValue 85 = .ok (.if_icmp .ne 7, 3) := by decide +kernel
theorem dX10_isValue_88 : decode cX10_isValue 88 = .ok (.iconst 1, 1) := by decide +kernel
theorem dX10_isValue_89 : decode cX10_isValue 89 = .ok (.goto 4, 3) := by decide +kernel
theorem dX10_isValue_92 : decode cX10_isValue 92 = .ok (.iconst 0, 1) := by decide +kernel
theorem dX10_isValue_93 : decode cX10_isValue 93 = .ok (.ireturn, 1) := by decide +kernel
theorem dX10_isValue_94 : decode cX10_isValue 94 = .ok (.iconst 0, 1) := by decide +kernel
theorem dX10_isValue_95 : decode cX10_isValue 95 = .ok (.ireturn, 1) := by decide +kernel
noncomputable def tX10_isValue_0 : List (Nat × zF) := [(0, (zli4 1 1)), (1, (zts [(7, 64), (8, 64), (9, 94), (10, 94), (11, 94), (12, 94), (13, 94), (14, 94), (15, 64), (16, 64), (17, 66), (18, 80)] 94)), (64, (zst 1 (zp (.int (1))))), (65, (zri true)), (66, (zla4 0 1)), (67, (zgf 10 2)), (70, (zst 1 (zp (.int (1))))), (71, (z_ic_eq 78)), (74, (zst 1 (zp (.int (1))))), (75, (zgt 79)), (78, (zst 1 (zp (.int (0))))), (79, (zri true))]
theorem kX10_isValue_0 : ∀ q ∈ tX10_isValue_0, zOk zg iX10_isValue q.1 q.2 := (z_c (ok_iload_n dX10_isValue_0 rfl) (z_c (ok_tsw dX10_isValue_1 (by decide) (by decide +kernel) (by decide +kernel) (by decide)) (z_c (ok_iconst (v := (1)) dX10_isValue_64 (by decide)) (z_c (ok_zreturn rfl dX10_isValue_65) (z_c (ok_aload_n dX10_isValue_66 rfl) (z_c (ok_getf (C := RX10) (T := TX10) (N := 3) rfl (by decide) zinX10 rfl zw_442 dX10_isValue_67) (z_c (ok_iconst (v := (1)) dX10_isValue_70 (by decide)) (z_c (ok_icmp_eq dX10_isValue_71 (by decide)) (z_c (ok_iconst (v := (1)) dX10_isValue_74 (by decide)) (z_c (ok_goto dX10_isValue_75 (by decide)) (z_c (ok_iconst (v := (0)) dX10_isValue_78 (by decide)) (z_c (ok_zreturn rfl dX10_isValue_79) z_n))))))))))))
noncomputable def tX10_isValue_1 : List (Nat × zF) := [(80, (zla4 0 1)), (81, (zgf 10 2)), (84, (zst 1 (zp (.int (1))))), (85, (z_ic_ne 92)), (88, (zst 1 (zp (.int (1))))), (89, (zgt 93)), (92, (zst 1 (zp (.int (0))))), (93, (zri true)), (94, (zst 1 (zp (.int (0))))), (95, (zri true))]
theorem kX10_isValue_1 : ∀ q ∈ tX10_isValue_1, zOk zg iX10_isValue q.1 q.2 := (z_c (ok_aload_n dX10_isValue_80 rfl) (z_c (ok_getf (C := RX10) (T := TX10) (N := 3) rfl (by decide) zinX10 rfl zw_442 dX10_isValue_81) (z_c (ok_iconst (v := (1)) dX10_isValue_84 (by decide)) (z_c (ok_icmp_ne dX10_isValue_85 (by decide)) (z_c (ok_iconst (v := (1)) dX10_isValue_88 (by decide)) (z_c (ok_goto dX10_isValue_89 (by decide)) (z_c (ok_iconst (v := (0)) dX10_isValue_92 (by decide)) (z_c (ok_zreturn rfl dX10_isValue_93) (z_c (ok_iconst (v := (0)) dX10_isValue_94 (by decide)) (z_c (ok_zreturn rfl dX10_isValue_95) z_n))))))))))
noncomputable def tX10_isValue : zT := [(80, tX10_isValue_0), (100000, tX10_isValue_1)]
theorem kX10_isValue : zTok zg iX10_isValue tX10_isValue := (z_t kX10_isValue_0 (z_t kX10_isValue_1 z_tn))
theorem dX10_takesPair_0 : decode cX10_takesPair 0 = .ok (.aload_n 0, 1) := by decide +kernel
theorem dX10_takesPair_1 : decode cX10_takesPair 1 = .ok (.iload_n 1, 1) := by decide +kernel
theorem dX10_takesPair_2 : decode cX10_takesPair 2 = .ok (.invokevirtual 56, 3) := by decide +kernel
theorem dX10_takesPair_5 : decode cX10_takesPair 5 = .ok (.ifCond .eq 39, 3) := by decide +kernel
theorem dX10_takesPair_8 : decode cX10_takesPair 8 = .ok (.aload_n 0, 1) := by decide +kernel
theorem dX10_takesPair_9 : decode cX10_takesPair 9 = .ok (.getfield 9, 3) := by decide +kernel
theorem dX10_takesPair_12 : decode cX10_takesPair 12 = .ok (.bipush 44, 2) := by decide +kernel
theorem dX10_takesPair_14 : decode cX10_takesPair 14 = .ok (.invokevirtual 53, 3) := by decide +kernel
theorem dX10_takesPair_17 : decode cX10_takesPair 17 = .ok (.ifCond .eq 27, 3) := by decide +kernel
theorem dX10_takesPair_20 : decode cX10_takesPair 20 = .ok (.aload_n 0, 1) := by decide +kernel
theorem dX10_takesPair_21 : decode cX10_takesPair 21 = .ok (.iload_n 1, 1) := by decide +kernel
theorem dX10_takesPair_22 : decode cX10_takesPair 22 = .ok (.invokevirtual 56, 3) := by decide +kernel
theorem dX10_takesPair_25 : decode cX10_takesPair 25 = .ok (.ifCond .eq 19, 3) := by decide +kernel
theorem dX10_takesPair_28 : decode cX10_takesPair 28 = .ok (.aload_n 0, 1) := by decide +kernel
theorem dX10_takesPair_29 : decode cX10_takesPair 29 = .ok (.getfield 9, 3) := by decide +kernel
theorem dX10_takesPair_32 : decode cX10_takesPair 32 = .ok (.bipush 41, 2) := by decide +kernel
theorem dX10_takesPair_34 : decode cX10_takesPair 34 = .ok (.invokevirtual 53, 3) := by decide +kernel
theorem dX10_takesPair_37 : decode cX10_takesPair 37 = .ok (.ifCond .eq 7, 3) := by decide +kernel
theorem dX10_takesPair_40 : decode cX10_takesPair 40 = .ok (.iconst 1, 1) := by decide +kernel
theorem dX10_takesPair_41 : decode cX10_takesPair 41 = .ok (.goto 4, 3) := by decide +kernel
theorem dX10_takesPair_44 : decode cX10_takesPair 44 = .ok (.iconst 0, 1) := by decide +kernel
theorem dX10_takesPair_45 : decode cX10_takesPair 45 = .ok (.ireturn, 1) := by decide +kernel
noncomputable def tX10_takesPair_0 : List (Nat × zF) := [(0, (zla4 0 1)), (1, (zli4 1 1)), (2, (zcv 104 1 10)), (5, (z_if_eq 44)), (8, (zla4 0 1)), (9, (zgf 10 0)), (12, (zst 2 (zp (.int (44))))), (14, (zcv 65 1 5)), (17, (z_if_eq 44)), (20, (zla4 0 1)), (21, (zli4 1 1)), (22, (zcv 104 1 10))]
theorem kX10_takesPair_0 : ∀ q ∈ tX10_takesPair_0, zOk zg iX10_takesPair q.1 q.2 := (z_c (ok_aload_n dX10_takesPair_0 rfl) (z_c (ok_iload_n dX10_takesPair_1 rfl) (z_c (ok_callV zcal_104 (q := (RX10, TX10, 3)) rfl zw_460 zw_427 zw_428 dX10_takesPair_2) (z_c (ok_if_eq dX10_takesPair_5 (by decide)) (z_c (ok_aload_n dX10_takesPair_8 rfl) (z_c (ok_getf (C := RX10) (T := TX10) (N := 3) rfl (by decide) zinX10 rfl zw_440 dX10_takesPair_9) (z_c (ok_bipush (v := (44)) dX10_takesPair_12 (by decide)) (z_c (ok_callV zcal_65 (q := (RX5, TX5, 12)) rfl zw_459 zw_349 zw_350 dX10_takesPair_14) (z_c (ok_if_eq dX10_takesPair_17 (by decide)) (z_c (ok_aload_n dX10_takesPair_20 rfl) (z_c (ok_iload_n dX10_takesPair_21 rfl) (z_c (ok_callV zcal_104 (q := (RX10, TX10, 3)) rfl zw_460 zw_427 zw_428 dX10_takesPair_22) z_n))))))))))))
noncomputable def tX10_takesPair_1 : List (Nat × zF) := [(25, (z_if_eq 44)), (28, (zla4 0 1)), (29, (zgf 10 0)), (32, (zst 2 (zp (.int (41))))), (34, (zcv 65 1 5)), (37, (z_if_eq 44)), (40, (zst 1 (zp (.int (1))))), (41, (zgt 45)), (44, (zst 1 (zp (.int (0))))), (45, (zri true))]
theorem kX10_takesPair_1 : ∀ q ∈ tX10_takesPair_1, zOk zg iX10_takesPair q.1 q.2 := (z_c (ok_if_eq dX10_takesPair_25 (by decide)) (z_c (ok_aload_n dX10_takesPair_28 rfl) (z_c (ok_getf (C := RX10) (T := TX10) (N := 3) rfl (by decide) zinX10 rfl zw_440 dX10_takesPair_29) (z_c (ok_bipush (v := (41)) dX10_takesPair_32 (by decide)) (z_c (ok_callV zcal_65 (q := (RX5, TX5, 12)) rfl zw_459 zw_349 zw_350 dX10_takesPair_34) (z_c (ok_if_eq dX10_takesPair_37 (by decide)) (z_c (ok_iconst (v := (1)) dX10_takesPair_40 (by decide)) (z_c (ok_goto dX10_takesPair_41 (by decide)) (z_c (ok_iconst (v := (0)) dX10_takesPair_44 (by decide)) (z_c (ok_zreturn rfl dX10_takesPair_45) z_n))))))))))
noncomputable def tX10_takesPair : zT := [(25, tX10_takesPair_0), (100000, tX10_takesPair_1)]
theorem kX10_takesPair : zTok zg iX10_takesPair tX10_takesPair := (z_t kX10_takesPair_0 (z_t kX10_takesPair_1 z_tn))
theorem dX10_opens_0 : decode cX10_opens 0 = .ok (.iload_n 2, 1) := by decide +kernel
theorem dX10_opens_1 : decode cX10_opens 1 = .ok (.ifCond .ne 19, 3) := by decide +kernel
theorem dX10_opens_4 : decode cX10_opens 4 = .ok (.aload_n 0, 1) := by decide +kernel
theorem dX10_opens_5 : decode cX10_opens 5 = .ok (.getfield 9, 3) := by decide +kernel
theorem dX10_opens_8 : decode cX10_opens 8 = .ok (.iconst 1, 1) := by decide +kernel
theorem dX10_opens_9 : decode cX10_opens 9 = .ok (.aload_n 0, 1) := by decide +kernel
theorem dX10_opens_10 : decode cX10_opens 10 = .ok (.getfield 9, 3) := by decide +kernel
theorem dX10_opens_13 : decode cX10_opens 13 = .ok (.getfield 65, 3) := by decide +kernel
theorem dX10_opens_16 : decode cX10_opens 16 = .ok (.invokevirtual 68, 3) := by decide +kernel
theorem dX10_opens_19 : decode cX10_opens 19 = .ok (.ireturn, 1) := by decide +kernel
theorem dX10_opens_20 : decode cX10_opens 20 = .ok (.iload_n 1, 1) := by decide +kernel
theorem dX10_opens_21 : decode cX10_opens 21 = .ok (.bipush 7, 2) := by decide +kernel
theorem dX10_opens_23 : decode cX10_opens 23 = .ok (.if_icmp .lt 19, 3) := by decide +kernel
theorem dX10_opens_26 : decode cX10_opens 26 = .ok (.aload_n 0, 1) := by decide +kernel
theorem dX10_opens_27 : decode cX10_opens 27 = .ok (.getfield 9, 3) := by decide +kernel
theorem dX10_opens_30 : decode cX10_opens 30 = .ok (.iconst 5, 1) := by decide +kernel
theorem dX10_opens_31 : decode cX10_opens 31 = .ok (.aload_n 0, 1) := by decide +kernel
theorem dX10_opens_32 : decode cX10_opens 32 = .ok (.getfield 9, 3) := by decide +kernel
theorem dX10_opens_35 : decode cX10_opens 35 = .ok (.getfield 65, 3) := by decide +kernel
theorem dX10_opens_38 : decode cX10_opens 38 = .ok (.invokevirtual 68, 3) := by decide +kernel
theorem dX10_opens_41 : decode cX10_opens 41 = .ok (.ireturn, 1) := by decide +kernel
theorem dX10_opens_42 : decode cX10_opens 42 = .ok (.aload_n 0, 1) := by decide +kernel
theorem dX10_opens_43 : decode cX10_opens 43 = .ok (.getfield 9, 3) := by decide +kernel
theorem dX10_opens_46 : decode cX10_opens 46 = .ok (.invokevirtual 32, 3) := by decide +kernel
theorem dX10_opens_49 : decode cX10_opens 49 = .ok (.iconst 1, 1) := by decide +kernel
theorem dX10_opens_50 : decode cX10_opens 50 = .ok (.ireturn, 1) := by decide +kernel
noncomputable def tX10_opens_0 : List (Nat × zF) := [(0, (zli4 2 1)), (1, (z_if_ne 20)), (4, (zla4 0 1)), (5, (zgf 10 0)), (8, (zst 1 (zp (.int (1))))), (9, (zla4 0 1)), (10, (zgf 10 0)), (13, (zgf 5 7)), (16, (zcv 63 2 5)), (19, (zri true)), (20, (zli4 1 1)), (21, (zst 2 (zp (.int (7)))))]
theorem kX10_opens_0 : ∀ q ∈ tX10_opens_0, zOk zg iX10_opens q.1 q.2 := (z_c (ok_iload_n dX10_opens_0 rfl) (z_c (ok_if_ne dX10_opens_1 (by decide)) (z_c (ok_aload_n dX10_opens_4 rfl) (z_c (ok_getf (C := RX10) (T := TX10) (N := 3) rfl (by decide) zinX10 rfl zw_440 dX10_opens_5) (z_c (ok_iconst (v := (1)) dX10_opens_8 (by decide)) (z_c (ok_aload_n dX10_opens_9 rfl) (z_c (ok_getf (C := RX10) (T := TX10) (N := 3) rfl (by decide) zinX10 rfl zw_440 dX10_opens_10) (z_c (ok_getf (C := RX5) (T := TX5) (N := 12) rfl (by decide) zinX5 rfl zw_465 dX10_opens_13) (z_c (ok_callV zcal_63 (q := (RX5, TX5, 12)) rfl zw_466 zw_274 zw_275 dX10_opens_16) (z_c (ok_zreturn rfl dX10_opens_19) (z_c (ok_iload_n dX10_opens_20 rfl) (z_c (ok_bipush (v := (7)) dX10_opens_21 (by decide)) z_n))))))))))))
noncomputable def tX10_opens_1 : List (Nat × zF) := [(23, (z_ic_lt 42)), (26, (zla4 0 1)), (27, (zgf 10 0)), (30, (zst 1 (zp (.int (5))))), (31, (zla4 0 1)), (32, (zgf 10 0)), (35, (zgf 5 7)), (38, (zcv 63 2 5)), (41, (zri true)), (42, (zla4 0 1)), (43, (zgf 10 0)), (46, (zcv 58 0 5))]
theorem kX10_opens_1 : ∀ q ∈ tX10_opens_1, zOk zg iX10_opens q.1 q.2 := (z_c (ok_icmp_lt dX10_opens_23 (by decide)) (z_c (ok_aload_n dX10_opens_26 rfl) (z_c (ok_getf (C := RX10) (T := TX10) (N := 3) rfl (by decide) zinX10 rfl zw_440 dX10_opens_27) (z_c (ok_iconst (v := (5)) dX10_opens_30 (by decide)) (z_c (ok_aload_n dX10_opens_31 rfl) (z_c (ok_getf (C := RX10) (T := TX10) (N := 3) rfl (by decide) zinX10 rfl zw_440 dX10_opens_32) (z_c (ok_getf (C := RX5) (T := TX5) (N := 12) rfl (by decide) zinX5 rfl zw_465 dX10_opens_35) (z_c (ok_callV zcal_63 (q := (RX5, TX5, 12)) rfl zw_466 zw_274 zw_275 dX10_opens_38) (z_c (ok_zreturn rfl dX10_opens_41) (z_c (ok_aload_n dX10_opens_42 rfl) (z_c (ok_getf (C := RX10) (T := TX10) (N := 3) rfl (by decide) zinX10 rfl zw_440 dX10_opens_43) (z_c (ok_callV zcal_58 (q := (RX5, TX5, 12)) rfl zw_447 zw_259 zw_260 dX10_opens_46) z_n))))))))))))
noncomputable def tX10_opens_2 : List (Nat × zF) := [(49, (zst 1 (zp (.int (1))))), (50, (zri true))]
theorem kX10_opens_2 : ∀ q ∈ tX10_opens_2, zOk zg iX10_opens q.1 q.2 := (z_c (ok_iconst (v := (1)) dX10_opens_49 (by decide)) (z_c (ok_zreturn rfl dX10_opens_50) z_n))
noncomputable def tX10_opens : zT := [(23, tX10_opens_0), (49, tX10_opens_1), (100000, tX10_opens_2)]
theorem kX10_opens : zTok zg iX10_opens tX10_opens := (z_t kX10_opens_0 (z_t kX10_opens_1 (z_t kX10_opens_2 z_tn)))
theorem dX11_init_0 : decode cX11_init 0 = .ok (.aload_n 0, 1) := by decide +kernel
theorem dX11_init_1 : decode cX11_init 1 = .ok (.invokespecial 3, 3) := by decide +kernel
theorem dX11_init_4 : decode cX11_init 4 = .ok (.aload_n 0, 1) := by decide +kernel
theorem dX11_init_5 : decode cX11_init 5 = .ok (.sipush 1600, 3) := by decide +kernel
theorem dX11_init_8 : decode cX11_init 8 = .ok (.newarray .int, 2) := by decide +kernel
theorem dX11_init_10 : decode cX11_init 10 = .ok (.putfield 9, 3) := by decide +kernel
theorem dX11_init_13 : decode cX11_init 13 = .ok (.aload_n 0, 1) := by decide +kernel
theorem dX11_init_14 : decode cX11_init 14 = .ok (.iconst (-1), 1) := by decide +kernel
theorem dX11_init_15 : decode cX11_init 15 = .ok (.putfield 13, 3) := by decide +kernel
theorem dX11_init_18 : decode cX11_init 18 = .ok (.aload_n 0, 1) := by decide +kernel
theorem dX11_init_19 : decode cX11_init 19 = .ok (.new 17, 3) := by decide +kernel
theorem dX11_init_22 : decode cX11_init 22 = .ok (.dup, 1) := by decide +kernel
theorem dX11_init_23 : decode cX11_init 23 = .ok (.invokespecial 19, 3) := by decide +kernel
theorem dX11_init_26 : decode cX11_init 26 = .ok (.putfield 20, 3) := by decide +kernel
theorem dX11_init_29 : decode cX11_init 29 = .ok (.aload_n 0, 1) := by decide +kernel
theorem dX11_init_30 : decode cX11_init 30 = .ok (.new 17, 3) := by decide +kernel
theorem dX11_init_33 : decode cX11_init 33 = .ok (.dup, 1) := by decide +kernel
theorem dX11_init_34 : decode cX11_init 34 = .ok (.invokespecial 19, 3) := by decide +kernel
theorem dX11_init_37 : decode cX11_init 37 = .ok (.putfield 24, 3) := by decide +kernel
theorem dX11_init_40 : decode cX11_init 40 = .ok (.aload_n 0, 1) := by decide +kernel
theorem dX11_init_41 : decode cX11_init 41 = .ok (.new 27, 3) := by decide +kernel
theorem dX11_init_44 : decode cX11_init 44 = .ok (.dup, 1) := by decide +kernel
theorem dX11_init_45 : decode cX11_init 45 = .ok (.aload_n 0, 1) := by decide +kernel
theorem dX11_init_46 : decode cX11_init 46 = .ok (.getfield 24, 3) := by decide +kernel
theorem dX11_init_49 : decode cX11_init 49 = .ok (.invokespecial 29, 3) := by decide +kernel
theorem dX11_init_52 : decode cX11_init 52 = .ok (.putfield 32, 3) := by decide +kernel
theorem dX11_init_55 : decode cX11_init 55 = .ok (.aload_n 0, 1) := by decide +kernel
theorem dX11_init_56 : decode cX11_init 56 = .ok (.new 36, 3) := by decide +kernel
theorem dX11_init_59 : decode cX11_init 59 = .ok (.dup, 1) := by decide +kernel
theorem dX11_init_60 : decode cX11_init 60 = .ok (.invokespecial 38, 3) := by decide +kernel
theorem dX11_init_63 : decode cX11_init 63 = .ok (.putfield 39, 3) := by decide +kernel
theorem dX11_init_66 : decode cX11_init 66 = .ok (.aload_n 0, 1) := by decide +kernel
theorem dX11_init_67 : decode cX11_init 67 = .ok (.new 43, 3) := by decide +kernel
theorem dX11_init_70 : decode cX11_init 70 = .ok (.dup, 1) := by decide +kernel
theorem dX11_init_71 : decode cX11_init 71 = .ok (.invokespecial 45, 3) := by decide +kernel
theorem dX11_init_74 : decode cX11_init 74 = .ok (.putfield 46, 3) := by decide +kernel
theorem dX11_init_77 : decode cX11_init 77 = .ok (.aload_n 0, 1) := by decide +kernel
theorem dX11_init_78 : decode cX11_init 78 = .ok (.new 50, 3) := by decide +kernel
theorem dX11_init_81 : decode cX11_init 81 = .ok (.dup, 1) := by decide +kernel
theorem dX11_init_82 : decode cX11_init 82 = .ok (.invokespecial 52, 3) := by decide +kernel
theorem dX11_init_85 : decode cX11_init 85 = .ok (.putfield 53, 3) := by decide +kernel
theorem dX11_init_88 : decode cX11_init 88 = .ok (.aload_n 0, 1) := by decide +kernel
theorem dX11_init_89 : decode cX11_init 89 = .ok (.new 57, 3) := by decide +kernel
theorem dX11_init_92 : decode cX11_init 92 = .ok (.dup, 1) := by decide +kernel
theorem dX11_init_93 : decode cX11_init 93 = .ok (.aload_n 0, 1) := by decide +kernel
theorem dX11_init_94 : decode cX11_init 94 = .ok (.getfield 20, 3) := by decide +kernel
theorem dX11_init_97 : decode cX11_init 97 = .ok (.invokespecial 59, 3) := by decide +kernel
theorem dX11_init_100 : decode cX11_init 100 = .ok (.putfield 60, 3) := by decide +kernel
theorem dX11_init_103 : decode cX11_init 103 = .ok (.aload_n 0, 1) := by decide +kernel
theorem dX11_init_104 : decode cX11_init 104 = .ok (.new 64, 3) := by decide +kernel
theorem dX11_init_107 : decode cX11_init 107 = .ok (.dup, 1) := by decide +kernel
theorem dX11_init_108 : decode cX11_init 108 = .ok (.aload_n 0, 1) := by decide +kernel
theorem dX11_init_109 : decode cX11_init 109 = .ok (.getfield 60, 3) := by decide +kernel
theorem dX11_init_112 : decode cX11_init 112 = .ok (.invokespecial 66, 3) := by decide +kernel
theorem dX11_init_115 : decode cX11_init 115 = .ok (.putfield 69, 3) := by decide +kernel
theorem dX11_init_118 : decode cX11_init 118 = .ok (.aload_n 0, 1) := by decide +kernel
theorem dX11_init_119 : decode cX11_init 119 = .ok (.bipush 33, 2) := by decide +kernel
theorem dX11_init_121 : decode cX11_init 121 = .ok (.newarray .int, 2) := by decide +kernel
theorem dX11_init_123 : decode cX11_init 123 = .ok (.putfield 73, 3) := by decide +kernel
theorem dX11_init_126 : decode cX11_init 126 = .ok (.aload_n 0, 1) := by decide +kernel
theorem dX11_init_127 : decode cX11_init 127 = .ok (.bipush 6, 2) := by decide +kernel
theorem dX11_init_129 : decode cX11_init 129 = .ok (.newarray .int, 2) := by decide +kernel
theorem dX11_init_131 : decode cX11_init 131 = .ok (.putfield 76, 3) := by decide +kernel
theorem dX11_init_134 : decode cX11_init 134 = .ok (.aload_n 0, 1) := by decide +kernel
theorem dX11_init_135 : decode cX11_init 135 = .ok (.iconst 1, 1) := by decide +kernel
theorem dX11_init_136 : decode cX11_init 136 = .ok (.putfield 79, 3) := by decide +kernel
theorem dX11_init_139 : decode cX11_init 139 = .ok (.return_, 1) := by decide +kernel
noncomputable def tX11_init_0 : List (Nat × zF) := [(0, (zla4 0 1)), (1, zoi), (4, (zla4 0 1)), (5, (zst 3 (zp (.int (1600))))), (8, (zna 0 4 zn_int 2)), (10, (zpf 11 0 (.array .int))), (13, (zla4 0 1)), (14, (zst 1 (zp (.int ((-1)))))), (15, (zpf 11 3 (.int))), (18, (zla4 0 1)), (19, (znw 4 zdfX4)), (22, (zst 1 zdu))]
theorem kX11_init_0 : ∀ q ∈ tX11_init_0, zOk zg iX11_init q.1 q.2 := (z_c (ok_aload_n dX11_init_0 rfl) (z_c (ok_objInit zw_483 zw_1 zw_2 dX11_init_1) (z_c (ok_aload_n dX11_init_4 rfl) (z_c (ok_sipush (v := (1600)) dX11_init_5 (by decide)) (z_c (ok_newa (ty := .int) rfl rfl (fun _ h => by cases h) zw_96 rfl zn_int_c zn_int_n dX11_init_8) (z_c (ok_putf (C := RX11) (T := TX11) (N := 16) true tyX11 tyX11_ok nmX11 rfl (by decide) zinX11 rfl zw_484 rfl (fun _ => ⟨rfl, rfl⟩) rfl dX11_init_10) (z_c (ok_aload_n dX11_init_13 rfl) (z_c (ok_iconst (v := (-1)) dX11_init_14 (by decide)) (z_c (ok_putf (C := RX11) (T := TX11) (N := 16) false tyX11 tyX11_ok nmX11 rfl (by decide) zinX11 rfl zw_485 rfl (fun h => absurd h (by decide)) rfl dX11_init_15) (z_c (ok_aload_n dX11_init_18 rfl) (z_c (ok_new (C := RX4) (T := TX4) (N := 18) tyX4 tyX4_ok rfl zinX4 zw_486 zw_487 zw_488 rfl (fun _ _ => rfl) zdfX4_ok dX11_init_19) (z_c (ok_dup dX11_init_22) z_n))))))))))))
noncomputable def tX11_init_1 : List (Nat × zF) := [(23, (zci 47 0)), (26, (zpf 11 4 (.object "MissingLamps$Quay"))), (29, (zla4 0 1)), (30, (znw 4 zdfX4)), (33, (zst 1 zdu)), (34, (zci 47 0)), (37, (zpf 11 5 (.object "MissingLamps$Quay"))), (40, (zla4 0 1)), (41, (znw 9 zdfX9)), (44, (zst 1 zdu)), (45, (zla4 0 1)), (46, (zgf 11 5))]
theorem kX11_init_1 : ∀ q ∈ tX11_init_1, zOk zg iX11_init q.1 q.2 := (z_c (ok_callIN zcal_47 rfl rfl zx_nest_0 zw_489 dX11_init_23) (z_c (ok_putf (C := RX11) (T := TX11) (N := 16) false tyX11 tyX11_ok nmX11 rfl (by decide) zinX11 rfl zw_490 rfl (fun h => absurd h (by decide)) rfl dX11_init_26) (z_c (ok_aload_n dX11_init_29 rfl) (z_c (ok_new (C := RX4) (T := TX4) (N := 18) tyX4 tyX4_ok rfl zinX4 zw_486 zw_487 zw_488 rfl (fun _ _ => rfl) zdfX4_ok dX11_init_30) (z_c (ok_dup dX11_init_33) (z_c (ok_callIN zcal_47 rfl rfl zx_nest_0 zw_489 dX11_init_34) (z_c (ok_putf (C := RX11) (T := TX11) (N := 16) false tyX11 tyX11_ok nmX11 rfl (by decide) zinX11 rfl zw_491 rfl (fun h => absurd h (by decide)) rfl dX11_init_37) (z_c (ok_aload_n dX11_init_40 rfl) (z_c (ok_new (C := RX9) (T := TX9) (N := 4) tyX9 tyX9_ok rfl zinX9 zw_492 zw_493 zw_494 rfl (fun _ _ => rfl) zdfX9_ok dX11_init_41) (z_c (ok_dup dX11_init_44) (z_c (ok_aload_n dX11_init_45 rfl) (z_c (ok_getf (C := RX11) (T := TX11) (N := 16) rfl (by decide) zinX11 rfl zw_491 dX11_init_46) z_n))))))))))))
noncomputable def tX11_init_2 : List (Nat × zF) := [(49, (zci 83 1)), (52, (zpf 11 6 (.object "MissingLamps$StatementReader"))), (55, (zla4 0 1)), (56, (znw 8 zdfX8)), (59, (zst 1 zdu)), (60, (zci 79 0)), (63, (zpf 11 7 (.object "MissingLamps$State"))), (66, (zla4 0 1)), (67, (znw 1 zdfX1)), (70, (zst 1 zdu)), (71, (zci 19 0)), (74, (zpf 11 8 (.object "MissingLamps$KeptRows")))]
theorem kX11_init_2 : ∀ q ∈ tX11_init_2, zOk zg iX11_init q.1 q.2 := (z_c (ok_callI zcal_83 rfl rfl zw_495 zw_496 dX11_init_49) (z_c (ok_putf (C := RX11) (T := TX11) (N := 16) true tyX11 tyX11_ok nmX11 rfl (by decide) zinX11 rfl zw_497 rfl (fun _ => ⟨rfl, rfl⟩) rfl dX11_init_52) (z_c (ok_aload_n dX11_init_55 rfl) (z_c (ok_new (C := RX8) (T := TX8) (N := 6) tyX8 tyX8_ok rfl zinX8 zw_498 zw_110 zw_111 rfl (fun _ _ => rfl) zdfX8_ok dX11_init_56) (z_c (ok_dup dX11_init_59) (z_c (ok_callIN zcal_79 rfl rfl zx_nest_1 zw_112 dX11_init_60) (z_c (ok_putf (C := RX11) (T := TX11) (N := 16) true tyX11 tyX11_ok nmX11 rfl (by decide) zinX11 rfl zw_499 rfl (fun _ => ⟨rfl, rfl⟩) rfl dX11_init_63) (z_c (ok_aload_n dX11_init_66 rfl) (z_c (ok_new (C := RX1) (T := TX1) (N := 4) tyX1 tyX1_ok rfl zinX1 zw_500 zw_113 zw_114 rfl (fun _ _ => rfl) zdfX1_ok dX11_init_67) (z_c (ok_dup dX11_init_70) (z_c (ok_callIN zcal_19 rfl rfl zx_nest_2 zw_115 dX11_init_71) (z_c (ok_putf (C := RX11) (T := TX11) (N := 16) true tyX11 tyX11_ok nmX11 rfl (by decide) zinX11 rfl zw_501 rfl (fun _ => ⟨rfl, rfl⟩) rfl dX11_init_74) z_n))))))))))))
noncomputable def tX11_init_3 : List (Nat × zF) := [(77, (zla4 0 1)), (78, (znw 2 zdfX2)), (81, (zst 1 zdu)), (82, (zci 22 0)), (85, (zpf 11 9 (.object "MissingLamps$Past"))), (88, (zla4 0 1)), (89, (znw 0 zdfX0)), (92, (zst 1 zdu)), (93, (zla4 0 1)), (94, (zgf 11 4)), (97, (zci 0 1)), (100, (zpf 11 10 (.object "MissingLamps$Harbour")))]
theorem kX11_init_3 : ∀ q ∈ tX11_init_3, zOk zg iX11_init q.1 q.2 := (z_c (ok_aload_n dX11_init_77 rfl) (z_c (ok_new (C := RX2) (T := TX2) (N := 4) tyX2 tyX2_ok rfl zinX2 zw_502 zw_503 zw_504 rfl (fun _ _ => rfl) zdfX2_ok dX11_init_78) (z_c (ok_dup dX11_init_81) (z_c (ok_callI zcal_22 rfl rfl zw_505 zw_506 dX11_init_82) (z_c (ok_putf (C := RX11) (T := TX11) (N := 16) true tyX11 tyX11_ok nmX11 rfl (by decide) zinX11 rfl zw_507 rfl (fun _ => ⟨rfl, rfl⟩) rfl dX11_init_85) (z_c (ok_aload_n dX11_init_88 rfl) (z_c (ok_new (C := RX0) (T := TX0) (N := 5) tyX0 tyX0_ok rfl zinX0 zw_508 zw_509 zw_510 rfl (fun _ _ => rfl) zdfX0_ok dX11_init_89) (z_c (ok_dup dX11_init_92) (z_c (ok_aload_n dX11_init_93 rfl) (z_c (ok_getf (C := RX11) (T := TX11) (N := 16) rfl (by decide) zinX11 rfl zw_490 dX11_init_94) (z_c (ok_callI zcal_0 rfl rfl zw_511 zw_512 dX11_init_97) (z_c (ok_putf (C := RX11) (T := TX11) (N := 16) true tyX11 tyX11_ok nmX11 rfl (by decide) zinX11 rfl zw_513 rfl (fun _ => ⟨rfl, rfl⟩) rfl dX11_init_100) z_n))))))))))))
noncomputable def tX11_init_4 : List (Nat × zF) := [(103, (zla4 0 1)), (104, (znw 3 zdfX3)), (107, (zst 1 zdu)), (108, (zla4 0 1)), (109, (zgf 11 10)), (112, (zci 25 1)), (115, (zpf 11 11 (.object "MissingLamps$Planner"))), (118, (zla4 0 1)), (119, (zst 2 (zp (.int (33))))), (121, (zna 0 4 zn_int 2)), (123, (zpf 11 12 (.array .int))), (126, (zla4 0 1))]
theorem kX11_init_4 : ∀ q ∈ tX11_init_4, zOk zg iX11_init q.1 q.2 := (z_c (ok_aload_n dX11_init_103 rfl) (z_c (ok_new (C := RX3) (T := TX3) (N := 13) tyX3 tyX3_ok rfl zinX3 zw_514 zw_515 zw_516 rfl (fun _ _ => rfl) zdfX3_ok dX11_init_104) (z_c (ok_dup dX11_init_107) (z_c (ok_aload_n dX11_init_108 rfl) (z_c (ok_getf (C := RX11) (T := TX11) (N := 16) rfl (by decide) zinX11 rfl zw_513 dX11_init_109) (z_c (ok_callI zcal_25 rfl rfl zw_517 zw_518 dX11_init_112) (z_c (ok_putf (C := RX11) (T := TX11) (N := 16) true tyX11 tyX11_ok nmX11 rfl (by decide) zinX11 rfl zw_519 rfl (fun _ => ⟨rfl, rfl⟩) rfl dX11_init_115) (z_c (ok_aload_n dX11_init_118 rfl) (z_c (ok_bipush (v := (33)) dX11_init_119 (by decide)) (z_c (ok_newa (ty := .int) rfl rfl (fun _ h => by cases h) zw_96 rfl zn_int_c zn_int_n dX11_init_121) (z_c (ok_putf (C := RX11) (T := TX11) (N := 16) true tyX11 tyX11_ok nmX11 rfl (by decide) zinX11 rfl zw_520 rfl (fun _ => ⟨rfl, rfl⟩) rfl dX11_init_123) (z_c (ok_aload_n dX11_init_126 rfl) z_n))))))))))))
noncomputable def tX11_init_5 : List (Nat × zF) := [(127, (zst 2 (zp (.int (6))))), (129, (zna 0 4 zn_int 2)), (131, (zpf 11 14 (.array .int))), (134, (zla4 0 1)), (135, (zst 1 (zp (.int (1))))), (136, (zpf 11 15 (.int))), (139, zrv)]
theorem kX11_init_5 : ∀ q ∈ tX11_init_5, zOk zg iX11_init q.1 q.2 := (z_c (ok_bipush (v := (6)) dX11_init_127 (by decide)) (z_c (ok_newa (ty := .int) rfl rfl (fun _ h => by cases h) zw_96 rfl zn_int_c zn_int_n dX11_init_129) (z_c (ok_putf (C := RX11) (T := TX11) (N := 16) true tyX11 tyX11_ok nmX11 rfl (by decide) zinX11 rfl zw_521 rfl (fun _ => ⟨rfl, rfl⟩) rfl dX11_init_131) (z_c (ok_aload_n dX11_init_134 rfl) (z_c (ok_iconst (v := (1)) dX11_init_135 (by decide)) (z_c (ok_putf (C := RX11) (T := TX11) (N := 16) false tyX11 tyX11_ok nmX11 rfl (by decide) zinX11 rfl zw_522 rfl (fun h => absurd h (by decide)) rfl dX11_init_136) (z_c (ok_return rfl dX11_init_139) z_n)))))))
noncomputable def tX11_init : zT := [(23, tX11_init_0), (49, tX11_init_1), (77, tX11_init_2), (103, tX11_init_3), (127, tX11_init_4), (100000, tX11_init_5)]
theorem kX11_init : zTok zg iX11_init tX11_init := (z_t kX11_init_0 (z_t kX11_init_1 (z_t kX11_init_2 (z_t kX11_init_3 (z_t kX11_init_4 (z_t kX11_init_5 z_tn))))))
theorem dX11_feed_0 : decode cX11_feed 0 = .ok (.aload_n 0, 1) := by decide +kernel
theorem dX11_feed_1 : decode cX11_feed 1 = .ok (.getfield 82, 3) := by decide +kernel
theorem dX11_feed_4 : decode cX11_feed 4 = .ok (.bipush 20, 2) := by decide +kernel
theorem dX11_feed_6 : decode cX11_feed 6 = .ok (.iadd, 1) := by decide +kernel
theorem dX11_feed_7 : decode cX11_feed 7 = .ok (.sipush 1600, 3) := by decide +kernel
theorem dX11_feed_10 : decode cX11_feed 10 = .ok (.if_icmp .le 9, 3) := by decide +kernel
theorem dX11_feed_13 : decode cX11_feed 13 = .ok (.aload_n 0, 1) := by decide +kernel
theorem dX11_feed_14 : decode cX11_feed 14 = .ok (.iconst 0, 1) := by decide +kernel
theorem dX11_feed_15 : decode cX11_feed 15 = .ok (.invokevirtual 85, 3) := by decide +kernel
theorem dX11_feed_18 : decode cX11_feed 18 = .ok (.ireturn, 1) := by decide +kernel
theorem dX11_feed_19 : decode cX11_feed 19 = .ok (.aload_n 0, 1) := by decide +kernel
theorem dX11_feed_20 : decode cX11_feed 20 = .ok (.iload_n 1, 1) := by decide +kernel
theorem dX11_feed_21 : decode cX11_feed 21 = .ok (.invokevirtual 89, 3) := by decide +kernel
theorem dX11_feed_24 : decode cX11_feed 24 = .ok (.aload_n 0, 1) := by decide +kernel
theorem dX11_feed_25 : decode cX11_feed 25 = .ok (.iload_n 2, 1) := by decide +kernel
theorem dX11_feed_26 : decode cX11_feed 26 = .ok (.invokevirtual 89, 3) := by decide +kernel
theorem dX11_feed_29 : decode cX11_feed 29 = .ok (.aload_n 0, 1) := by decide +kernel
theorem dX11_feed_30 : decode cX11_feed 30 = .ok (.iload_n 3, 1) := by decide +kernel
theorem dX11_feed_31 : decode cX11_feed 31 = .ok (.invokevirtual 89, 3) := by decide +kernel
theorem dX11_feed_34 : decode cX11_feed 34 = .ok (.aload_n 0, 1) := by decide +kernel
theorem dX11_feed_35 : decode cX11_feed 35 = .ok (.iload 4, 2) := by decide +kernel
theorem dX11_feed_37 : decode cX11_feed 37 = .ok (.invokevirtual 89, 3) := by decide +kernel
theorem dX11_feed_40 : decode cX11_feed 40 = .ok (.aload_n 0, 1) := by decide +kernel
theorem dX11_feed_41 : decode cX11_feed 41 = .ok (.iload 5, 2) := by decide +kernel
theorem dX11_feed_43 : decode cX11_feed 43 = .ok (.invokevirtual 89, 3) := by decide +kernel
theorem dX11_feed_46 : decode cX11_feed 46 = .ok (.aload_n 0, 1) := by decide +kernel
theorem dX11_feed_47 : decode cX11_feed 47 = .ok (.getfield 82, 3) := by decide +kernel
theorem dX11_feed_50 : decode cX11_feed 50 = .ok (.ireturn, 1) := by decide +kernel
noncomputable def tX11_feed_0 : List (Nat × zF) := [(0, (zla4 0 1)), (1, (zgf 11 1)), (4, (zst 2 (zp (.int (20))))), (6, (zst 1 z_iadd)), (7, (zst 3 (zp (.int (1600))))), (10, (z_ic_le 19)), (13, (zla4 0 1)), (14, (zst 1 (zp (.int (0))))), (15, (zcv 144 1 11)), (18, (zri false)), (19, (zla4 0 1)), (20, (zli4 1 1))]
theorem kX11_feed_0 : ∀ q ∈ tX11_feed_0, zOk zg iX11_feed q.1 q.2 := (z_c (ok_aload_n dX11_feed_0 rfl) (z_c (ok_getf (C := RX11) (T := TX11) (N := 16) rfl (by decide) zinX11 rfl zw_523 dX11_feed_1) (z_c (ok_bipush (v := (20)) dX11_feed_4 (by decide)) (z_c (ok_iadd dX11_feed_6) (z_c (ok_sipush (v := (1600)) dX11_feed_7 (by decide)) (z_c (ok_icmp_le dX11_feed_10 (by decide)) (z_c (ok_aload_n dX11_feed_13 rfl) (z_c (ok_iconst (v := (0)) dX11_feed_14 (by decide)) (z_c (ok_callV zcal_144 (q := (RX11, TX11, 16)) rfl zw_524 zw_525 zw_526 dX11_feed_15) (z_c (ok_ireturn rfl dX11_feed_18) (z_c (ok_aload_n dX11_feed_19 rfl) (z_c (ok_iload_n dX11_feed_20 rfl) z_n))))))))))))
noncomputable def tX11_feed_1 : List (Nat × zF) := [(21, (zcv 146 1 11)), (24, (zla4 0 1)), (25, (zli4 2 1)), (26, (zcv 146 1 11)), (29, (zla4 0 1)), (30, (zli4 3 1)), (31, (zcv 146 1 11)), (34, (zla4 0 1)), (35, (zli4 4 2)), (37, (zcv 146 1 11)), (40, (zla4 0 1)), (41, (zli4 5 2))]
theorem kX11_feed_1 : ∀ q ∈ tX11_feed_1, zOk zg iX11_feed q.1 q.2 := (z_c (ok_callV zcal_146 (q := (RX11, TX11, 16)) rfl zw_527 zw_528 zw_529 dX11_feed_21) (z_c (ok_aload_n dX11_feed_24 rfl) (z_c (ok_iload_n dX11_feed_25 rfl) (z_c (ok_callV zcal_146 (q := (RX11, TX11, 16)) rfl zw_527 zw_528 zw_529 dX11_feed_26) (z_c (ok_aload_n dX11_feed_29 rfl) (z_c (ok_iload_n dX11_feed_30 rfl) (z_c (ok_callV zcal_146 (q := (RX11, TX11, 16)) rfl zw_527 zw_528 zw_529 dX11_feed_31) (z_c (ok_aload_n dX11_feed_34 rfl) (z_c (ok_iload dX11_feed_35) (z_c (ok_callV zcal_146 (q := (RX11, TX11, 16)) rfl zw_527 zw_528 zw_529 dX11_feed_37) (z_c (ok_aload_n dX11_feed_40 rfl) (z_c (ok_iload dX11_feed_41) z_n))))))))))))
noncomputable def tX11_feed_2 : List (Nat × zF) := [(43, (zcv 146 1 11)), (46, (zla4 0 1)), (47, (zgf 11 1)), (50, (zri false))]
theorem kX11_feed_2 : ∀ q ∈ tX11_feed_2, zOk zg iX11_feed q.1 q.2 := (z_c (ok_callV zcal_146 (q := (RX11, TX11, 16)) rfl zw_527 zw_528 zw_529 dX11_feed_43) (z_c (ok_aload_n dX11_feed_46 rfl) (z_c (ok_getf (C := RX11) (T := TX11) (N := 16) rfl (by decide) zinX11 rfl zw_523 dX11_feed_47) (z_c (ok_ireturn rfl dX11_feed_50) z_n))))
noncomputable def tX11_feed : zT := [(21, tX11_feed_0), (43, tX11_feed_1), (100000, tX11_feed_2)]
theorem kX11_feed : zTok zg iX11_feed tX11_feed := (z_t kX11_feed_0 (z_t kX11_feed_1 (z_t kX11_feed_2 z_tn)))
theorem dX11_end_0 : decode cX11_end 0 = .ok (.iload_n 1, 1) := by decide +kernel
theorem dX11_end_1 : decode cX11_end 1 = .ok (.ifCond .lt 11, 3) := by decide +kernel
theorem dX11_end_4 : decode cX11_end 4 = .ok (.iload_n 1, 1) := by decide +kernel
theorem dX11_end_5 : decode cX11_end 5 = .ok (.aload_n 0, 1) := by decide +kernel
theorem dX11_end_6 : decode cX11_end 6 = .ok (.getfield 82, 3) := by decide +kernel
theorem dX11_end_9 : decode cX11_end 9 = .ok (.if_icmp .le 9, 3) := by decide +kernel
theorem dX11_end_12 : decode cX11_end 12 = .ok (.aload_n 0, 1) := by decide +kernel
theorem dX11_end_13 : decode cX11_end 13 = .ok (.iconst 0, 1) := by decide +kernel
theorem dX11_end_14 : decode cX11_end 14 = .ok (.invokevirtual 93, 3) := by decide +kernel
theorem dX11_end_17 : decode cX11_end 17 = .ok (.ireturn, 1) := by decide +kernel
theorem dX11_end_18 : decode cX11_end 18 = .ok (.aload_n 0, 1) := by decide +kernel
theorem dX11_end_19 : decode cX11_end 19 = .ok (.iload_n 1, 1) := by decide +kernel
theorem dX11_end_20 : decode cX11_end 20 = .ok (.putfield 82, 3) := by decide +kernel
theorem dX11_end_23 : decode cX11_end 23 = .ok (.iconst 1, 1) := by decide +kernel
theorem dX11_end_24 : decode cX11_end 24 = .ok (.ireturn, 1) := by decide +kernel
noncomputable def tX11_end_0 : List (Nat × zF) := [(0, (zli4 1 1)), (1, (z_if_lt 12)), (4, (zli4 1 1)), (5, (zla4 0 1)), (6, (zgf 11 1)), (9, (z_ic_le 18)), (12, (zla4 0 1)), (13, (zst 1 (zp (.int (0))))), (14, (zcv 145 1 11)), (17, (zri true)), (18, (zla4 0 1)), (19, (zli4 1 1))]
theorem kX11_end_0 : ∀ q ∈ tX11_end_0, zOk zg iX11_end q.1 q.2 := (z_c (ok_iload_n dX11_end_0 rfl) (z_c (ok_if_lt dX11_end_1 (by decide)) (z_c (ok_iload_n dX11_end_4 rfl) (z_c (ok_aload_n dX11_end_5 rfl) (z_c (ok_getf (C := RX11) (T := TX11) (N := 16) rfl (by decide) zinX11 rfl zw_523 dX11_end_6) (z_c (ok_icmp_le dX11_end_9 (by decide)) (z_c (ok_aload_n dX11_end_12 rfl) (z_c (ok_iconst (v := (0)) dX11_end_13 (by decide)) (z_c (ok_callV zcal_145 (q := (RX11, TX11, 16)) rfl zw_530 zw_531 zw_532 dX11_end_14) (z_c (ok_zreturn rfl dX11_end_17) (z_c (ok_aload_n dX11_end_18 rfl) (z_c (ok_iload_n dX11_end_19 rfl) z_n))))))))))))
noncomputable def tX11_end_1 : List (Nat × zF) := [(20, (zpf 11 1 (.int))), (23, (zst 1 (zp (.int (1))))), (24, (zri true))]
theorem kX11_end_1 : ∀ q ∈ tX11_end_1, zOk zg iX11_end q.1 q.2 := (z_c (ok_putf (C := RX11) (T := TX11) (N := 16) false tyX11 tyX11_ok nmX11 rfl (by decide) zinX11 rfl zw_523 rfl (fun h => absurd h (by decide)) rfl dX11_end_20) (z_c (ok_iconst (v := (1)) dX11_end_23 (by decide)) (z_c (ok_zreturn rfl dX11_end_24) z_n)))
noncomputable def tX11_end : zT := [(20, tX11_end_0), (100000, tX11_end_1)]
theorem kX11_end : zTok zg iX11_end tX11_end := (z_t kX11_end_0 (z_t kX11_end_1 z_tn))
theorem dX11_quay_0 : decode cX11_quay 0 = .ok (.aload_n 0, 1) := by decide +kernel
theorem dX11_quay_1 : decode cX11_quay 1 = .ok (.invokevirtual 97, 3) := by decide +kernel
theorem dX11_quay_4 : decode cX11_quay 4 = .ok (.istore_n 1, 1) := by decide +kernel
theorem dX11_quay_5 : decode cX11_quay 5 = .ok (.aload_n 0, 1) := by decide +kernel
theorem dX11_quay_6 : decode cX11_quay 6 = .ok (.getfield 32, 3) := by decide +kernel
theorem dX11_quay_9 : decode cX11_quay 9 = .ok (.aload_n 0, 1) := by decide +kernel
theorem dX11_quay_10 : decode cX11_quay 10 = .ok (.getfield 9, 3) := by decide +kernel
theorem dX11_quay_13 : decode cX11_quay 13 = .ok (.iload_n 1, 1) := by decide +kernel
theorem dX11_quay_14 : decode cX11_quay 14 = .ok (.aload_n 0, 1) := by decide +kernel
theorem dX11_quay_15 : decode cX11_quay 15 = .ok (.getfield 24, 3) := by decide +kernel
theorem dX11_quay_18 : decode cX11_quay 18 = .ok (.invokevirtual 101, 3) := by decide +kernel
theorem dX11_quay_21 : decode cX11_quay 21 = .ok (.ifCond .ne 31, 3) := by decide +kernel
theorem dX11_quay_24 : decode cX11_quay 24 = .ok (.aload_n 0, 1) := by decide +kernel
theorem dX11_quay_25 : decode cX11_quay 25 = .ok (.aload_n 0, 1) := by decide +kernel
theorem dX11_quay_26 : decode cX11_quay 26 = .ok (.getfield 32, 3) := by decide +kernel
theorem dX11_quay_29 : decode cX11_quay 29 = .ok (.invokevirtual 105, 3) := by decide +kernel
theorem dX11_quay_32 : decode cX11_quay 32 = .ok (.putfield 108, 3) := by decide +kernel
theorem dX11_quay_35 : decode cX11_quay 35 = .ok (.aload_n 0, 1) := by decide +kernel
theorem dX11_quay_36 : decode cX11_quay 36 = .ok (.aload_n 0, 1) := by decide +kernel
theorem dX11_quay_37 : decode cX11_quay 37 = .ok (.getfield 32, 3) := by decide +kernel
theorem dX11_quay_40 : decode cX11_quay 40 = .ok (.invokevirtual 110, 3) := by decide +kernel
theorem dX11_quay_43 : decode cX11_quay 43 = .ok (.putfield 13, 3) := by decide +kernel
theorem dX11_quay_46 : decode cX11_quay 46 = .ok (.aload_n 0, 1) := by decide +kernel
theorem dX11_quay_47 : decode cX11_quay 47 = .ok (.iconst 1, 1) := by decide +kernel
theorem dX11_quay_48 : decode cX11_quay 48 = .ok (.invokevirtual 85, 3) := by decide +kernel
theorem dX11_quay_51 : decode cX11_quay 51 = .ok (.ireturn, 1) := by decide +kernel
theorem dX11_quay_52 : decode cX11_quay 52 = .ok (.aload_n 0, 1) := by decide +kernel
theorem dX11_quay_53 : decode cX11_quay 53 = .ok (.iconst 0, 1) := by decide +kernel
theorem dX11_quay_54 : decode cX11_quay 54 = .ok (.putfield 108, 3) := by decide +kernel
theorem dX11_quay_57 : decode cX11_quay 57 = .ok (.aload_n 0, 1) := by decide +kernel
theorem dX11_quay_58 : decode cX11_quay 58 = .ok (.iconst (-1), 1) := by decide +kernel
theorem dX11_quay_59 : decode cX11_quay 59 = .ok (.putfield 13, 3) := by decide +kernel
theorem dX11_quay_62 : decode cX11_quay 62 = .ok (.aload_n 0, 1) := by decide +kernel
theorem dX11_quay_63 : decode cX11_quay 63 = .ok (.getfield 20, 3) := by decide +kernel
theorem dX11_quay_66 : decode cX11_quay 66 = .ok (.astore_n 2, 1) := by decide +kernel
theorem dX11_quay_67 : decode cX11_quay 67 = .ok (.aload_n 0, 1) := by decide +kernel
theorem dX11_quay_68 : decode cX11_quay 68 = .ok (.aload_n 0, 1) := by decide +kernel
theorem dX11_quay_69 : decode cX11_quay 69 = .ok (.getfield 24, 3) := by decide +kernel
theorem dX11_quay_72 : decode cX11_quay 72 = .ok (.putfield 20, 3) := by decide +kernel
theorem dX11_quay_75 : decode cX11_quay 75 = .ok (.aload_n 0, 1) := by decide +kernel
theorem dX11_quay_76 : decode cX11_quay 76 = .ok (.aload_n 2, 1) := by decide +kernel
theorem dX11_quay_77 : decode cX11_quay 77 = .ok (.putfield 24, 3) := by decide +kernel
theorem dX11_quay_80 : decode cX11_quay 80 = .ok (.aload_n 0, 1) := by decide +kernel
theorem dX11_quay_81 : decode cX11_quay 81 = .ok (.getfield 60, 3) := by decide +kernel
theorem dX11_quay_84 : decode cX11_quay 84 = .ok (.aload_n 0, 1) := by decide +kernel
theorem dX11_quay_85 : decode cX11_quay 85 = .ok (.getfield 20, 3) := by decide +kernel
theorem dX11_quay_88 : decode cX11_quay 88 = .ok (.invokevirtual 112, 3) := by decide +kernel
theorem dX11_quay_91 : decode cX11_quay 91 = .ok (.aload_n 0, 1) := by decide +kernel
theorem dX11_quay_92 : decode cX11_quay 92 = .ok (.getfield 20, 3) := by decide +kernel
theorem dX11_quay_95 : decode cX11_quay 95 = .ok (.aload_n 0, 1) := by decide +kernel
theorem dX11_quay_96 : decode cX11_quay 96 = .ok (.getfield 39, 3) := by decide +kernel
theorem dX11_quay_99 : decode cX11_quay 99 = .ok (.invokevirtual 115, 3) := by decide +kernel
theorem dX11_quay_102 : decode cX11_quay 102 = .ok (.aload_n 0, 1) := by decide +kernel
theorem dX11_quay_103 : decode cX11_quay 103 = .ok (.invokevirtual 119, 3) := by decide +kernel
theorem dX11_quay_106 : decode cX11_quay 106 = .ok (.aload_n 0, 1) := by decide +kernel
theorem dX11_quay_107 : decode cX11_quay 107 = .ok (.getfield 69, 3) := by decide +kernel
theorem dX11_quay_110 : decode cX11_quay 110 = .ok (.invokevirtual 122, 3) := by decide +kernel
theorem dX11_quay_113 : decode cX11_quay 113 = .ok (.aload_n 0, 1) := by decide +kernel
theorem dX11_quay_114 : decode cX11_quay 114 = .ok (.getfield 20, 3) := by decide +kernel
theorem dX11_quay_117 : decode cX11_quay 117 = .ok (.getfield 125, 3) := by decide +kernel
theorem dX11_quay_120 : decode cX11_quay 120 = .ok (.ireturn, 1) := by decide +kernel
noncomputable def tX11_quay_0 : List (Nat × zF) := [(0, (zla4 0 1)), (1, (zcv 147 0 11)), (4, (zsi4 3 1 1)), (5, (zla4 0 1)), (6, (zgf 11 6)), (9, (zla4 0 1)), (10, (zgf 11 0)), (13, (zli4 1 1)), (14, (zla4 0 1)), (15, (zgf 11 5)), (18, (zcv 86 3 9)), (21, (z_if_ne 52))]
theorem kX11_quay_0 : ∀ q ∈ tX11_quay_0, zOk zg iX11_quay q.1 q.2 := (z_c (ok_aload_n dX11_quay_0 rfl) (z_c (ok_callV zcal_147 (q := (RX11, TX11, 16)) rfl zw_533 zw_534 zw_535 dX11_quay_1) (z_c (ok_istore_n dX11_quay_4 rfl) (z_c (ok_aload_n dX11_quay_5 rfl) (z_c (ok_getf (C := RX11) (T := TX11) (N := 16) rfl (by decide) zinX11 rfl zw_497 dX11_quay_6) (z_c (ok_aload_n dX11_quay_9 rfl) (z_c (ok_getf (C := RX11) (T := TX11) (N := 16) rfl (by decide) zinX11 rfl zw_484 dX11_quay_10) (z_c (ok_iload_n dX11_quay_13 rfl) (z_c (ok_aload_n dX11_quay_14 rfl) (z_c (ok_getf (C := RX11) (T := TX11) (N := 16) rfl (by decide) zinX11 rfl zw_491 dX11_quay_15) (z_c (ok_callV zcal_86 (q := (RX9, TX9, 4)) rfl zw_536 zw_537 zw_538 dX11_quay_18) (z_c (ok_if_ne dX11_quay_21 (by decide)) z_n))))))))))))
noncomputable def tX11_quay_1 : List (Nat × zF) := [(24, (zla4 0 1)), (25, (zla4 0 1)), (26, (zgf 11 6)), (29, (zcv 84 0 9)), (32, (zpf 11 2 (.int))), (35, (zla4 0 1)), (36, (zla4 0 1)), (37, (zgf 11 6)), (40, (zcv 85 0 9)), (43, (zpf 11 3 (.int))), (46, (zla4 0 1)), (47, (zst 1 (zp (.int (1)))))]
theorem kX11_quay_1 : ∀ q ∈ tX11_quay_1, zOk zg iX11_quay q.1 q.2 := (z_c (ok_aload_n dX11_quay_24 rfl) (z_c (ok_aload_n dX11_quay_25 rfl) (z_c (ok_getf (C := RX11) (T := TX11) (N := 16) rfl (by decide) zinX11 rfl zw_497 dX11_quay_26) (z_c (ok_callV zcal_84 (q := (RX9, TX9, 4)) rfl zw_539 zw_540 zw_541 dX11_quay_29) (z_c (ok_putf (C := RX11) (T := TX11) (N := 16) false tyX11 tyX11_ok nmX11 rfl (by decide) zinX11 rfl zw_542 rfl (fun h => absurd h (by decide)) rfl dX11_quay_32) (z_c (ok_aload_n dX11_quay_35 rfl) (z_c (ok_aload_n dX11_quay_36 rfl) (z_c (ok_getf (C := RX11) (T := TX11) (N := 16) rfl (by decide) zinX11 rfl zw_497 dX11_quay_37) (z_c (ok_callV zcal_85 (q := (RX9, TX9, 4)) rfl zw_543 zw_544 zw_545 dX11_quay_40) (z_c (ok_putf (C := RX11) (T := TX11) (N := 16) false tyX11 tyX11_ok nmX11 rfl (by decide) zinX11 rfl zw_485 rfl (fun h => absurd h (by decide)) rfl dX11_quay_43) (z_c (ok_aload_n dX11_quay_46 rfl) (z_c (ok_iconst (v := (1)) dX11_quay_47 (by decide)) z_n))))))))))))
noncomputable def tX11_quay_2 : List (Nat × zF) := [(48, (zcv 144 1 11)), (51, (zri false)), (52, (zla4 0 1)), (53, (zst 1 (zp (.int (0))))), (54, (zpf 11 2 (.int))), (57, (zla4 0 1)), (58, (zst 1 (zp (.int ((-1)))))), (59, (zpf 11 3 (.int))), (62, (zla4 0 1)), (63, (zgf 11 4)), (66, (zsa4 3 2 1)), (67, (zla4 0 1))]
theorem kX11_quay_2 : ∀ q ∈ tX11_quay_2, zOk zg iX11_quay q.1 q.2 := (z_c (ok_callV zcal_144 (q := (RX11, TX11, 16)) rfl zw_524 zw_525 zw_526 dX11_quay_48) (z_c (ok_ireturn rfl dX11_quay_51) (z_c (ok_aload_n dX11_quay_52 rfl) (z_c (ok_iconst (v := (0)) dX11_quay_53 (by decide)) (z_c (ok_putf (C := RX11) (T := TX11) (N := 16) false tyX11 tyX11_ok nmX11 rfl (by decide) zinX11 rfl zw_542 rfl (fun h => absurd h (by decide)) rfl dX11_quay_54) (z_c (ok_aload_n dX11_quay_57 rfl) (z_c (ok_iconst (v := (-1)) dX11_quay_58 (by decide)) (z_c (ok_putf (C := RX11) (T := TX11) (N := 16) false tyX11 tyX11_ok nmX11 rfl (by decide) zinX11 rfl zw_485 rfl (fun h => absurd h (by decide)) rfl dX11_quay_59) (z_c (ok_aload_n dX11_quay_62 rfl) (z_c (ok_getf (C := RX11) (T := TX11) (N := 16) rfl (by decide) zinX11 rfl zw_490 dX11_quay_63) (z_c (ok_astore_n dX11_quay_66 rfl) (z_c (ok_aload_n dX11_quay_67 rfl) z_n))))))))))))
noncomputable def tX11_quay_3 : List (Nat × zF) := [(68, (zla4 0 1)), (69, (zgf 11 5)), (72, (zpf 11 4 (.object "MissingLamps$Quay"))), (75, (zla4 0 1)), (76, (zla4 2 1)), (77, (zpf 11 5 (.object "MissingLamps$Quay"))), (80, (zla4 0 1)), (81, (zgf 11 10)), (84, (zla4 0 1)), (85, (zgf 11 4)), (88, (zcv 1 1 0)), (91, (zla4 0 1))]
theorem kX11_quay_3 : ∀ q ∈ tX11_quay_3, zOk zg iX11_quay q.1 q.2 := (z_c (ok_aload_n dX11_quay_68 rfl) (z_c (ok_getf (C := RX11) (T := TX11) (N := 16) rfl (by decide) zinX11 rfl zw_491 dX11_quay_69) (z_c (ok_putf (C := RX11) (T := TX11) (N := 16) false tyX11 tyX11_ok nmX11 rfl (by decide) zinX11 rfl zw_490 rfl (fun h => absurd h (by decide)) rfl dX11_quay_72) (z_c (ok_aload_n dX11_quay_75 rfl) (z_c (ok_aload_n dX11_quay_76 rfl) (z_c (ok_putf (C := RX11) (T := TX11) (N := 16) false tyX11 tyX11_ok nmX11 rfl (by decide) zinX11 rfl zw_491 rfl (fun h => absurd h (by decide)) rfl dX11_quay_77) (z_c (ok_aload_n dX11_quay_80 rfl) (z_c (ok_getf (C := RX11) (T := TX11) (N := 16) rfl (by decide) zinX11 rfl zw_513 dX11_quay_81) (z_c (ok_aload_n dX11_quay_84 rfl) (z_c (ok_getf (C := RX11) (T := TX11) (N := 16) rfl (by decide) zinX11 rfl zw_490 dX11_quay_85) (z_c (ok_callV zcal_1 (q := (RX0, TX0, 5)) rfl zw_546 zw_547 zw_548 dX11_quay_88) (z_c (ok_aload_n dX11_quay_91 rfl) z_n))))))))))))
noncomputable def tX11_quay_4 : List (Nat × zF) := [(92, (zgf 11 4)), (95, (zla4 0 1)), (96, (zgf 11 7)), (99, (zcv 49 1 4)), (102, (zla4 0 1)), (103, (zcv 148 0 11)), (106, (zla4 0 1)), (107, (zgf 11 11)), (110, (zcv 39 0 3)), (113, (zla4 0 1)), (114, (zgf 11 4)), (117, (zgf 4 0))]
theorem kX11_quay_4 : ∀ q ∈ tX11_quay_4, zOk zg iX11_quay q.1 q.2 := (z_c (ok_getf (C := RX11) (T := TX11) (N := 16) rfl (by decide) zinX11 rfl zw_490 dX11_quay_92) (z_c (ok_aload_n dX11_quay_95 rfl) (z_c (ok_getf (C := RX11) (T := TX11) (N := 16) rfl (by decide) zinX11 rfl zw_499 dX11_quay_96) (z_c (ok_callV zcal_49 (q := (RX4, TX4, 18)) rfl zw_549 zw_550 zw_551 dX11_quay_99) (z_c (ok_aload_n dX11_quay_102 rfl) (z_c (ok_callV zcal_148 (q := (RX11, TX11, 16)) rfl zw_552 zw_553 zw_554 dX11_quay_103) (z_c (ok_aload_n dX11_quay_106 rfl) (z_c (ok_getf (C := RX11) (T := TX11) (N := 16) rfl (by decide) zinX11 rfl zw_519 dX11_quay_107) (z_c (ok_callV zcal_39 (q := (RX3, TX3, 13)) rfl zw_555 zw_556 zw_557 dX11_quay_110) (z_c (ok_aload_n dX11_quay_113 rfl) (z_c (ok_getf (C := RX11) (T := TX11) (N := 16) rfl (by decide) zinX11 rfl zw_490 dX11_quay_114) (z_c (ok_getf (C := RX4) (T := TX4) (N := 18) rfl (by decide) zinX4 rfl zw_558 dX11_quay_117) z_n))))))))))))
noncomputable def tX11_quay_5 : List (Nat × zF) := [(120, (zri false))]
theorem kX11_quay_5 : ∀ q ∈ tX11_quay_5, zOk zg iX11_quay q.1 q.2 := (z_c (ok_ireturn rfl dX11_quay_120) z_n)
noncomputable def tX11_quay : zT := [(24, tX11_quay_0), (48, tX11_quay_1), (68, tX11_quay_2), (92, tX11_quay_3), (120, tX11_quay_4), (100000, tX11_quay_5)]
theorem kX11_quay : zTok zg iX11_quay tX11_quay := (z_t kX11_quay_0 (z_t kX11_quay_1 (z_t kX11_quay_2 (z_t kX11_quay_3 (z_t kX11_quay_4 (z_t kX11_quay_5 z_tn))))))
theorem dX11_fault_0 : decode cX11_fault 0 = .ok (.iload_n 1, 1) := by decide +kernel
theorem dX11_fault_1 : decode cX11_fault 1 = .ok (.ifCond .ne 8, 3) := by decide +kernel
theorem dX11_fault_4 : decode cX11_fault 4 = .ok (.aload_n 0, 1) := by decide +kernel
theorem dX11_fault_5 : decode cX11_fault 5 = .ok (.getfield 108, 3) := by decide +kernel
theorem dX11_fault_8 : decode cX11_fault 8 = .ok (.ireturn, 1) := by decide +kernel
theorem dX11_fault_9 : decode cX11_fault 9 = .ok (.iload_n 1, 1) := by decide +kernel
theorem dX11_fault_10 : decode cX11_fault 10 = .ok (.iconst 1, 1) := by decide +kernel
theorem dX11_fault_11 : decode cX11_fault 11 = .ok (.if_icmp .ne 10, 3) := by decide +kernel
theorem dX11_fault_14 : decode cX11_fault 14 = .ok (.aload_n 0, 1) := by decide +kernel
theorem dX11_fault_15 : decode cX11_fault 15 = .ok (.getfield 13, 3) := by decide +kernel
theorem dX11_fault_18 : decode cX11_fault 18 = .ok (.goto 4, 3) := by decide +kernel
theorem dX11_fault_21 : decode cX11_fault 21 = .ok (.iconst (-1), 1) := by decide +kernel
theorem dX11_fault_22 : decode cX11_fault 22 = .ok (.ireturn, 1) := by decide +kernel
noncomputable def tX11_fault_0 : List (Nat × zF) := [(0, (zli4 1 1)), (1, (z_if_ne 9)), (4, (zla4 0 1)), (5, (zgf 11 2)), (8, (zri false)), (9, (zli4 1 1)), (10, (zst 1 (zp (.int (1))))), (11, (z_ic_ne 21)), (14, (zla4 0 1)), (15, (zgf 11 3)), (18, (zgt 22)), (21, (zst 1 (zp (.int ((-1))))))]
theorem kX11_fault_0 : ∀ q ∈ tX11_fault_0, zOk zg iX11_fault q.1 q.2 := (z_c (ok_iload_n dX11_fault_0 rfl) (z_c (ok_if_ne dX11_fault_1 (by decide)) (z_c (ok_aload_n dX11_fault_4 rfl) (z_c (ok_getf (C := RX11) (T := TX11) (N := 16) rfl (by decide) zinX11 rfl zw_542 dX11_fault_5) (z_c (ok_ireturn rfl dX11_fault_8) (z_c (ok_iload_n dX11_fault_9 rfl) (z_c (ok_iconst (v := (1)) dX11_fault_10 (by decide)) (z_c (ok_icmp_ne dX11_fault_11 (by decide)) (z_c (ok_aload_n dX11_fault_14 rfl) (z_c (ok_getf (C := RX11) (T := TX11) (N := 16) rfl (by decide) zinX11 rfl zw_485 dX11_fault_15) (z_c (ok_goto dX11_fault_18 (by decide)) (z_c (ok_iconst (v := (-1)) dX11_fault_21 (by decide)) z_n))))))))))))
noncomputable def tX11_fault_1 : List (Nat × zF) := [(22, (zri false))]
theorem kX11_fault_1 : ∀ q ∈ tX11_fault_1, zOk zg iX11_fault q.1 q.2 := (z_c (ok_ireturn rfl dX11_fault_22) z_n)
noncomputable def tX11_fault : zT := [(22, tX11_fault_0), (100000, tX11_fault_1)]
theorem kX11_fault : zTok zg iX11_fault tX11_fault := (z_t kX11_fault_0 (z_t kX11_fault_1 z_tn))
theorem dX11_has_0 : decode cX11_has 0 = .ok (.iload_n 1, 1) := by decide +kernel
theorem dX11_has_1 : decode cX11_has 1 = .ok (.tableswitch 186 0 12 #[67, 75, 83, 94, 102, 110, 118, 129, 145, 157, 165, 173, 181], 67) := by decide +kernel
theorem dX11_has_68 : decode cX11_has 68 = .ok (.aload_n 0, 1) := by decide +kernel
theorem dX11_has_69 : decode cX11_has 69 = .ok (.getfield 20, 3) := by decide +kernel
theorem dX11_has_72 : decode cX11_has 72 = .ok (.getfield 127, 3) := by decide +kernel
theorem dX11_has_75 : decode cX11_has 75 = .ok (.ireturn, 1) := by decide +kernel
theorem dX11_has_76 : decode cX11_has 76 = .ok (.aload_n 0, 1) := by decide +kernel
theorem dX11_has_77 : decode cX11_has 77 = .ok (.getfield 20, 3) := by decide +kernel
theorem dX11_has_80 : decode cX11_has 80 = .ok (.getfield 130, 3) := by decide +kernel
theorem dX11_has_83 : decode cX11_has 83 = .ok (.ireturn, 1) := by decide +kernel
theorem dX11_has_84 : decode cX11_has 84 = .ok (.aload_n 0, 1) := by decide +kernel
theorem dX11_has_85 : decode cX11_has 85 = .ok (.getfield 20, 3) := by decide +kernel
theorem dX11_has_88 : decode cX11_has 88 = .ok (.getfield 133, 3) := by decide +kernel
theorem dX11_has_91 : decode cX11_has 91 = .ok (.invokestatic 137, 3) := by decide +kernel
theorem dX11_has_94 : decode cX11_has 94 = .ok (.ireturn, 1) := by decide +kernel
theorem dX11_has_95 : decode cX11_has 95 = .ok (.aload_n 0, 1) := by decide +kernel
theorem dX11_has_96 : decode cX11_has 96 = .ok (.getfield 20, 3) := by decide +kernel
theorem dX11_has_99 : decode cX11_has 99 = .ok (.getfield 143, 3) := by decide +kernel
theorem dX11_has_102 : decode cX11_has 102 = .ok (.ireturn, 1) := by decide +kernel
theorem dX11_has_103 : decode cX11_has 103 = .ok (.aload_n 0, 1) := by decide +kernel
theorem dX11_has_104 : decode cX11_has 104 = .ok (.getfield 20, 3) := by decide +kernel
theorem dX11_has_107 : decode cX11_has 107 = .ok (.getfield 146, 3) := by decide +kernel
theorem dX11_has_110 : decode cX11_has 110 = .ok (.ireturn, 1) := by decide +kernel
theorem dX11_has_111 : decode cX11_has 111 = .ok (.aload_n 0, 1) := by decide +kernel
theorem dX11_has_112 : decode cX11_has 112 = .ok (.getfield 39, 3) := by decide +kernel
theorem dX11_has_115 : decode cX11_has 115 = .ok (.getfield 149, 3) := by decide +kernel
theorem dX11_has_118 : decode cX11_has 118 = .ok (.ireturn, 1) := by decide +kernel
theorem dX11_has_119 : decode cX11_has 119 = .ok (.aload_n 0, 1) := by decide +kernel
theorem dX11_has_120 : decode cX11_has 120 = .ok (.getfield 39, 3) := by decide +kernel
theorem dX11_has_123 : decode cX11_has 123 = .ok (.getfield 152, 3) := by decide +kernel
theorem dX11_has_126 : decode cX11_has 126 = .ok (.invokestatic 155, 3) := by decide +kernel
theorem dX11_has_129 : decode cX11_has 129 = .ok (.ireturn, 1) := by decide +kernel
theorem dX11_has_130 : decode cX11_has 130 = .ok (.aload_n 0, 1) := by decide +kernel
theorem dX11_has_131 : decode cX11_has 131 = .ok (.getfield 60, 3) := by decide +kernel
theorem dX11_has_134 : decode cX11_has 134 = .ok (.aload_n 0, 1) := by decide +kernel
theorem dX11_has_135 : decode cX11_has 135 = .ok (.getfield 39, 3) := by decide +kernel
theorem dX11_has_138 : decode cX11_has 138 = .ok (.iconst (-1), 1) := by decide +kernel
theorem dX11_has_139 : decode cX11_has 139 = .ok (.invokevirtual 159, 3) := by decide +kernel
theorem dX11_has_142 : decode cX11_has 142 = .ok (.invokestatic 137, 3) := by decide +kernel
theorem dX11_has_145 : decode cX11_has 145 = .ok (.ireturn, 1) := by decide +kernel
theorem dX11_has_146 : decode cX11_has 146 = .ok (.aload_n 0, 1) := by decide +kernel
theorem dX11_has_147 : decode cX11_has 147 = .ok (.getfield 60, 3) := by decide +kernel
theorem dX11_has_150 : decode cX11_has 150 = .ok (.aload_n 0, 1) := by decide +kernel
theorem dX11_has_151 : decode cX11_has 151 = .ok (.getfield 39, 3) := by decide +kernel
theorem dX11_has_154 : decode cX11_has 154 = .ok (.invokevirtual 163, 3) := by decide +kernel
theorem dX11_has_157 : decode cX11_has 157 = .ok (.ireturn, 1) := by decide +kernel
theorem dX11_has_158 : decode cX11_has 158 = .ok (.aload_n 0, 1) := by decide +kernel
theorem dX11_has_159 : decode cX11_has 159 = .ok (.getfield 46, 3) := by decide +kernel
theorem dX11_has_162 : decode cX11_has 162 = .ok (.getfield 167, 3) := by decide +kernel
theorem dX11_has_165 : decode cX11_has 165 = .ok (.ireturn, 1) := by decide +kernel
theorem dX11_has_166 : decode cX11_has 166 = .ok (.aload_n 0, 1) := by decide +kernel
theorem dX11_has_167 : decode cX11_has 167 = .ok (.getfield 69, 3) := by decide +kernel
theorem dX11_has_170 : decode cX11_has 170 = .ok (.getfield 170, 3) := by decide +kernel
theorem dX11_has_173 : decode cX11_has 173 = .ok (.ireturn, 1) := by decide +kernel
theorem dX11_has_174 : decode cX11_has 174 = .ok (.aload_n 0, 1) := by decide +kernel
theorem dX11_has_175 : decode cX11_has 175 = .ok (.getfield 53, 3) := by decide +kernel
theorem dX11_has_178 : decode cX11_has 178 = .ok (.getfield 173, 3) := by decide +kernel
theorem dX11_has_181 : decode cX11_has 181 = .ok (.ireturn, 1) := by decide +kernel
theorem dX11_has_182 : decode cX11_has 182 = .ok (.aload_n 0, 1) := by decide +kernel
theorem dX11_has_183 : decode cX11_has 183 = .ok (.getfield 79, 3) := by decide +kernel
theorem dX11_has_186 : decode cX11_has 186 = .ok (.ireturn, 1) := by decide +kernel
theorem dX11_has_187 : decode cX11_has 187 = .ok (.iconst (-1), 1) := by decide +kernel
theorem dX11_has_188 : decode cX11_has 188 = .ok (.ireturn, 1) := by decide +kernel
noncomputable def tX11_has_0 : List (Nat × zF) := [(0, (zli4 1 1)), (1, (zts [(0, 68), (1, 76), (2, 84), (3, 95), (4, 103), (5, 111), (6, 119), (7, 130), (8, 146), (9, 158), (10, 166), (11, 174), (12, 182)] 187)), (68, (zla4 0 1)), (69, (zgf 11 4)), (72, (zgf 4 1)), (75, (zri false)), (76, (zla4 0 1)), (77, (zgf 11 4)), (80, (zgf 4 2)), (83, (zri false)), (84, (zla4 0 1)), (85, (zgf 11 4))]
theorem kX11_has_0 : ∀ q ∈ tX11_has_0, zOk zg iX11_has q.1 q.2 := (z_c (ok_iload_n dX11_has_0 rfl) (z_c (ok_tsw dX11_has_1 (by decide) (by decide +kernel) (by decide +kernel) (by decide)) (z_c (ok_aload_n dX11_has_68 rfl) (z_c (ok_getf (C := RX11) (T := TX11) (N := 16) rfl (by decide) zinX11 rfl zw_490 dX11_has_69) (z_c (ok_getf (C := RX4) (T := TX4) (N := 18) rfl (by decide) zinX4 rfl zw_559 dX11_has_72) (z_c (ok_ireturn rfl dX11_has_75) (z_c (ok_aload_n dX11_has_76 rfl) (z_c (ok_getf (C := RX11) (T := TX11) (N := 16) rfl (by decide) zinX11 rfl zw_490 dX11_has_77) (z_c (ok_getf (C := RX4) (T := TX4) (N := 18) rfl (by decide) zinX4 rfl zw_560 dX11_has_80) (z_c (ok_ireturn rfl dX11_has_83) (z_c (ok_aload_n dX11_has_84 rfl) (z_c (ok_getf (C := RX11) (T := TX11) (N := 16) rfl (by decide) zinX11 rfl zw_490 dX11_has_85) z_n))))))))))))
noncomputable def tX11_has_1 : List (Nat × zF) := [(88, (zgf 4 6)), (91, (zcs 280 1)), (94, (zri false)), (95, (zla4 0 1)), (96, (zgf 11 4)), (99, (zgf 4 7)), (102, (zri false)), (103, (zla4 0 1)), (104, (zgf 11 4)), (107, (zgf 4 13)), (110, (zri false)), (111, (zla4 0 1))]
theorem kX11_has_1 : ∀ q ∈ tX11_has_1, zOk zg iX11_has q.1 q.2 := (z_c (ok_getf (C := RX4) (T := TX4) (N := 18) rfl (by decide) zinX4 rfl zw_561 dX11_has_88) (z_c (ok_callS zcal_280 zw_562 zw_563 dX11_has_91) (z_c (ok_ireturn rfl dX11_has_94) (z_c (ok_aload_n dX11_has_95 rfl) (z_c (ok_getf (C := RX11) (T := TX11) (N := 16) rfl (by decide) zinX11 rfl zw_490 dX11_has_96) (z_c (ok_getf (C := RX4) (T := TX4) (N := 18) rfl (by decide) zinX4 rfl zw_564 dX11_has_99) (z_c (ok_ireturn rfl dX11_has_102) (z_c (ok_aload_n dX11_has_103 rfl) (z_c (ok_getf (C := RX11) (T := TX11) (N := 16) rfl (by decide) zinX11 rfl zw_490 dX11_has_104) (z_c (ok_getf (C := RX4) (T := TX4) (N := 18) rfl (by decide) zinX4 rfl zw_565 dX11_has_107) (z_c (ok_ireturn rfl dX11_has_110) (z_c (ok_aload_n dX11_has_111 rfl) z_n))))))))))))
noncomputable def tX11_has_2 : List (Nat × zF) := [(112, (zgf 11 7)), (115, (zgf 8 0)), (118, (zri false)), (119, (zla4 0 1)), (120, (zgf 11 7)), (123, (zgf 8 1)), (126, (zcs 279 1)), (129, (zri false)), (130, (zla4 0 1)), (131, (zgf 11 10)), (134, (zla4 0 1)), (135, (zgf 11 7))]
theorem kX11_has_2 : ∀ q ∈ tX11_has_2, zOk zg iX11_has q.1 q.2 := (z_c (ok_getf (C := RX11) (T := TX11) (N := 16) rfl (by decide) zinX11 rfl zw_499 dX11_has_112) (z_c (ok_getf (C := RX8) (T := TX8) (N := 6) rfl (by decide) zinX8 rfl zw_566 dX11_has_115) (z_c (ok_ireturn rfl dX11_has_118) (z_c (ok_aload_n dX11_has_119 rfl) (z_c (ok_getf (C := RX11) (T := TX11) (N := 16) rfl (by decide) zinX11 rfl zw_499 dX11_has_120) (z_c (ok_getf (C := RX8) (T := TX8) (N := 6) rfl (by decide) zinX8 rfl zw_567 dX11_has_123) (z_c (ok_callS zcal_279 zw_568 zw_87 dX11_has_126) (z_c (ok_ireturn rfl dX11_has_129) (z_c (ok_aload_n dX11_has_130 rfl) (z_c (ok_getf (C := RX11) (T := TX11) (N := 16) rfl (by decide) zinX11 rfl zw_513 dX11_has_131) (z_c (ok_aload_n dX11_has_134 rfl) (z_c (ok_getf (C := RX11) (T := TX11) (N := 16) rfl (by decide) zinX11 rfl zw_499 dX11_has_135) z_n))))))))))))
noncomputable def tX11_has_3 : List (Nat × zF) := [(138, (zst 1 (zp (.int ((-1)))))), (139, (zcv 3 2 0)), (142, (zcs 280 1)), (145, (zri false)), (146, (zla4 0 1)), (147, (zgf 11 10)), (150, (zla4 0 1)), (151, (zgf 11 7)), (154, (zcv 18 1 0)), (157, (zri false)), (158, (zla4 0 1)), (159, (zgf 11 8))]
theorem kX11_has_3 : ∀ q ∈ tX11_has_3, zOk zg iX11_has q.1 q.2 := (z_c (ok_iconst (v := (-1)) dX11_has_138 (by decide)) (z_c (ok_callV zcal_3 (q := (RX0, TX0, 5)) rfl zw_569 zw_12 zw_13 dX11_has_139) (z_c (ok_callS zcal_280 zw_562 zw_563 dX11_has_142) (z_c (ok_ireturn rfl dX11_has_145) (z_c (ok_aload_n dX11_has_146 rfl) (z_c (ok_getf (C := RX11) (T := TX11) (N := 16) rfl (by decide) zinX11 rfl zw_513 dX11_has_147) (z_c (ok_aload_n dX11_has_150 rfl) (z_c (ok_getf (C := RX11) (T := TX11) (N := 16) rfl (by decide) zinX11 rfl zw_499 dX11_has_151) (z_c (ok_callV zcal_18 (q := (RX0, TX0, 5)) rfl zw_570 zw_152 zw_153 dX11_has_154) (z_c (ok_ireturn rfl dX11_has_157) (z_c (ok_aload_n dX11_has_158 rfl) (z_c (ok_getf (C := RX11) (T := TX11) (N := 16) rfl (by decide) zinX11 rfl zw_501 dX11_has_159) z_n))))))))))))
noncomputable def tX11_has_4 : List (Nat × zF) := [(162, (zgf 1 3)), (165, (zri false)), (166, (zla4 0 1)), (167, (zgf 11 11)), (170, (zgf 3 9)), (173, (zri false)), (174, (zla4 0 1)), (175, (zgf 11 9)), (178, (zgf 2 3)), (181, (zri false)), (182, (zla4 0 1)), (183, (zgf 11 15))]
theorem kX11_has_4 : ∀ q ∈ tX11_has_4, zOk zg iX11_has q.1 q.2 := (z_c (ok_getf (C := RX1) (T := TX1) (N := 4) rfl (by decide) zinX1 rfl zw_571 dX11_has_162) (z_c (ok_ireturn rfl dX11_has_165) (z_c (ok_aload_n dX11_has_166 rfl) (z_c (ok_getf (C := RX11) (T := TX11) (N := 16) rfl (by decide) zinX11 rfl zw_519 dX11_has_167) (z_c (ok_getf (C := RX3) (T := TX3) (N := 13) rfl (by decide) zinX3 rfl zw_572 dX11_has_170) (z_c (ok_ireturn rfl dX11_has_173) (z_c (ok_aload_n dX11_has_174 rfl) (z_c (ok_getf (C := RX11) (T := TX11) (N := 16) rfl (by decide) zinX11 rfl zw_507 dX11_has_175) (z_c (ok_getf (C := RX2) (T := TX2) (N := 4) rfl (by decide) zinX2 rfl zw_573 dX11_has_178) (z_c (ok_ireturn rfl dX11_has_181) (z_c (ok_aload_n dX11_has_182 rfl) (z_c (ok_getf (C := RX11) (T := TX11) (N := 16) rfl (by decide) zinX11 rfl zw_522 dX11_has_183) z_n))))))))))))
noncomputable def tX11_has_5 : List (Nat × zF) := [(186, (zri false)), (187, (zst 1 (zp (.int ((-1)))))), (188, (zri false))]
theorem kX11_has_5 : ∀ q ∈ tX11_has_5, zOk zg iX11_has q.1 q.2 := (z_c (ok_ireturn rfl dX11_has_186) (z_c (ok_iconst (v := (-1)) dX11_has_187 (by decide)) (z_c (ok_ireturn rfl dX11_has_188) z_n)))
noncomputable def tX11_has : zT := [(88, tX11_has_0), (112, tX11_has_1), (138, tX11_has_2), (162, tX11_has_3), (186, tX11_has_4), (100000, tX11_has_5)]
theorem kX11_has : zTok zg iX11_has tX11_has := (z_t kX11_has_0 (z_t kX11_has_1 (z_t kX11_has_2 (z_t kX11_has_3 (z_t kX11_has_4 (z_t kX11_has_5 z_tn))))))
theorem dX11_letter_0 : decode cX11_letter 0 = .ok (.iload_n 3, 1) := by decide +kernel
theorem dX11_letter_1 : decode cX11_letter 1 = .ok (.ifCond .lt 9, 3) := by decide +kernel
theorem dX11_letter_4 : decode cX11_letter 4 = .ok (.iload_n 3, 1) := by decide +kernel
theorem dX11_letter_5 : decode cX11_letter 5 = .ok (.bipush 6, 2) := by decide +kernel
theorem dX11_letter_7 : decode cX11_letter 7 = .ok (.if_icmp .lt 5, 3) := by decide +kernel
theorem dX11_letter_10 : decode cX11_letter 10 = .ok (.iconst (-1), 1) := by decide +kernel
theorem dX11_letter_11 : decode cX11_letter 11 = .ok (.ireturn, 1) := by decide +kernel
theorem dX11_letter_12 : decode cX11_letter 12 = .ok (.iload_n 1, 1) := by decide +kernel
theorem dX11_letter_13 : decode cX11_letter 13 = .ok (.ifCond .ne 25, 3) := by decide +kernel
theorem dX11_letter_16 : decode cX11_letter 16 = .ok (.aload_n 0, 1) := by decide +kernel
theorem dX11_letter_17 : decode cX11_letter 17 = .ok (.iload_n 2, 1) := by decide +kernel
theorem dX11_letter_18 : decode cX11_letter 18 = .ok (.invokevirtual 174, 3) := by decide +kernel
theorem dX11_letter_21 : decode cX11_letter 21 = .ok (.ifCond .eq 17, 3) := by decide +kernel
theorem dX11_letter_24 : decode cX11_letter 24 = .ok (.aload_n 0, 1) := by decide +kernel
theorem dX11_letter_25 : decode cX11_letter 25 = .ok (.getfield 20, 3) := by decide +kernel
theorem dX11_letter_28 : decode cX11_letter 28 = .ok (.getfield 177, 3) := by decide +kernel
theorem dX11_letter_31 : decode cX11_letter 31 = .ok (.iload_n 2, 1) := by decide +kernel
theorem dX11_letter_32 : decode cX11_letter 32 = .ok (.iaload, 1) := by decide +kernel
theorem dX11_letter_33 : decode cX11_letter 33 = .ok (.iload_n 3, 1) := by decide +kernel
theorem dX11_letter_34 : decode cX11_letter 34 = .ok (.invokestatic 180, 3) := by decide +kernel
theorem dX11_letter_37 : decode cX11_letter 37 = .ok (.ireturn, 1) := by decide +kernel
theorem dX11_letter_38 : decode cX11_letter 38 = .ok (.iload_n 1, 1) := by decide +kernel
theorem dX11_letter_39 : decode cX11_letter 39 = .ok (.iconst 1, 1) := by decide +kernel
theorem dX11_letter_40 : decode cX11_letter 40 = .ok (.if_icmp .ne 25, 3) := by decide +kernel
theorem dX11_letter_43 : decode cX11_letter 43 = .ok (.aload_n 0, 1) := by decide +kernel
theorem dX11_letter_44 : decode cX11_letter 44 = .ok (.iload_n 2, 1) := by decide +kernel
theorem dX11_letter_45 : decode cX11_letter 45 = .ok (.invokevirtual 184, 3) := by decide +kernel
theorem dX11_letter_48 : decode cX11_letter 48 = .ok (.ifCond .eq 17, 3) := by decide +kernel
theorem dX11_letter_51 : decode cX11_letter 51 = .ok (.aload_n 0, 1) := by decide +kernel
theorem dX11_letter_52 : decode cX11_letter 52 = .ok (.getfield 20, 3) := by decide +kernel
theorem dX11_letter_55 : decode cX11_letter 55 = .ok (.getfield 187, 3) := by decide +kernel
theorem dX11_letter_58 : decode cX11_letter 58 = .ok (.iload_n 2, 1) := by decide +kernel
theorem dX11_letter_59 : decode cX11_letter 59 = .ok (.iaload, 1) := by decide +kernel
theorem dX11_letter_60 : decode cX11_letter 60 = .ok (.iload_n 3, 1) := by decide +kernel
theorem dX11_letter_61 : decode cX11_letter 61 = .ok (.invokestatic 180, 3) := by decide +kernel
theorem dX11_letter_64 : decode cX11_letter 64 = .ok (.ireturn, 1) := by decide +kernel
theorem dX11_letter_65 : decode cX11_letter 65 = .ok (.iconst (-1), 1) := by decide +kernel
theorem dX11_letter_66 : decode cX11_letter 66 = .ok (.ireturn, 1) := by decide +kernel
noncomputable def tX11_letter_0 : List (Nat × zF) := [(0, (zli4 3 1)), (1, (z_if_lt 10)), (4, (zli4 3 1)), (5, (zst 2 (zp (.int (6))))), (7, (z_ic_lt 12)), (10, (zst 1 (zp (.int ((-1)))))), (11, (zri false)), (12, (zli4 1 1)), (13, (z_if_ne 38)), (16, (zla4 0 1)), (17, (zli4 2 1)), (18, (zcv 149 1 11))]
theorem kX11_letter_0 : ∀ q ∈ tX11_letter_0, zOk zg iX11_letter q.1 q.2 := (z_c (ok_iload_n dX11_letter_0 rfl) (z_c (ok_if_lt dX11_letter_1 (by decide)) (z_c (ok_iload_n dX11_letter_4 rfl) (z_c (ok_bipush (v := (6)) dX11_letter_5 (by decide)) (z_c (ok_icmp_lt dX11_letter_7 (by decide)) (z_c (ok_iconst (v := (-1)) dX11_letter_10 (by decide)) (z_c (ok_ireturn rfl dX11_letter_11) (z_c (ok_iload_n dX11_letter_12 rfl) (z_c (ok_if_ne dX11_letter_13 (by decide)) (z_c (ok_aload_n dX11_letter_16 rfl) (z_c (ok_iload_n dX11_letter_17 rfl) (z_c (ok_callV zcal_149 (q := (RX11, TX11, 16)) rfl zw_574 zw_575 zw_576 dX11_letter_18) z_n))))))))))))
noncomputable def tX11_letter_1 : List (Nat × zF) := [(21, (z_if_eq 38)), (24, (zla4 0 1)), (25, (zgf 11 4)), (28, (zgf 4 8)), (31, (zli4 2 1)), (32, (zal 0)), (33, (zli4 3 1)), (34, (zcs 159 2)), (37, (zri false)), (38, (zli4 1 1)), (39, (zst 1 (zp (.int (1))))), (40, (z_ic_ne 65))]
theorem kX11_letter_1 : ∀ q ∈ tX11_letter_1, zOk zg iX11_letter q.1 q.2 := (z_c (ok_if_eq dX11_letter_21 (by decide)) (z_c (ok_aload_n dX11_letter_24 rfl) (z_c (ok_getf (C := RX11) (T := TX11) (N := 16) rfl (by decide) zinX11 rfl zw_490 dX11_letter_25) (z_c (ok_getf (C := RX4) (T := TX4) (N := 18) rfl (by decide) zinX4 rfl zw_577 dX11_letter_28) (z_c (ok_iload_n dX11_letter_31 rfl) (z_c (ok_iaload rfl dX11_letter_32) (z_c (ok_iload_n dX11_letter_33 rfl) (z_c (ok_callS zcal_159 zw_578 zw_579 dX11_letter_34) (z_c (ok_ireturn rfl dX11_letter_37) (z_c (ok_iload_n dX11_letter_38 rfl) (z_c (ok_iconst (v := (1)) dX11_letter_39 (by decide)) (z_c (ok_icmp_ne dX11_letter_40 (by decide)) z_n))))))))))))
noncomputable def tX11_letter_2 : List (Nat × zF) := [(43, (zla4 0 1)), (44, (zli4 2 1)), (45, (zcv 150 1 11)), (48, (z_if_eq 65)), (51, (zla4 0 1)), (52, (zgf 11 4)), (55, (zgf 4 14)), (58, (zli4 2 1)), (59, (zal 0)), (60, (zli4 3 1)), (61, (zcs 159 2)), (64, (zri false))]
theorem kX11_letter_2 : ∀ q ∈ tX11_letter_2, zOk zg iX11_letter q.1 q.2 := (z_c (ok_aload_n dX11_letter_43 rfl) (z_c (ok_iload_n dX11_letter_44 rfl) (z_c (ok_callV zcal_150 (q := (RX11, TX11, 16)) rfl zw_580 zw_581 zw_582 dX11_letter_45) (z_c (ok_if_eq dX11_letter_48 (by decide)) (z_c (ok_aload_n dX11_letter_51 rfl) (z_c (ok_getf (C := RX11) (T := TX11) (N := 16) rfl (by decide) zinX11 rfl zw_490 dX11_letter_52) (z_c (ok_getf (C := RX4) (T := TX4) (N := 18) rfl (by decide) zinX4 rfl zw_583 dX11_letter_55) (z_c (ok_iload_n dX11_letter_58 rfl) (z_c (ok_iaload rfl dX11_letter_59) (z_c (ok_iload_n dX11_letter_60 rfl) (z_c (ok_callS zcal_159 zw_578 zw_579 dX11_letter_61) (z_c (ok_ireturn rfl dX11_letter_64) z_n))))))))))))
noncomputable def tX11_letter_3 : List (Nat × zF) := [(65, (zst 1 (zp (.int ((-1)))))), (66, (zri false))]
theorem kX11_letter_3 : ∀ q ∈ tX11_letter_3, zOk zg iX11_letter q.1 q.2 := (z_c (ok_iconst (v := (-1)) dX11_letter_65 (by decide)) (z_c (ok_ireturn rfl dX11_letter_66) z_n))
noncomputable def tX11_letter : zT := [(21, tX11_letter_0), (43, tX11_letter_1), (65, tX11_letter_2), (100000, tX11_letter_3)]
theorem kX11_letter : zTok zg iX11_letter tX11_letter := (z_t kX11_letter_0 (z_t kX11_letter_1 (z_t kX11_letter_2 (z_t kX11_letter_3 z_tn))))
theorem dX11_cell_0 : decode cX11_cell 0 = .ok (.aload_n 0, 1) := by decide +kernel
theorem dX11_cell_1 : decode cX11_cell 1 = .ok (.getfield 20, 3) := by decide +kernel
theorem dX11_cell_4 : decode cX11_cell 4 = .ok (.iload_n 1, 1) := by decide +kernel
theorem dX11_cell_5 : decode cX11_cell 5 = .ok (.iload_n 2, 1) := by decide +kernel
theorem dX11_cell_6 : decode cX11_cell 6 = .ok (.invokevirtual 190, 3) := by decide +kernel
theorem dX11_cell_9 : decode cX11_cell 9 = .ok (.ifCond .ne 5, 3) := by decide +kernel
theorem dX11_cell_12 : decode cX11_cell 12 = .ok (.iconst (-1), 1) := by decide +kernel
theorem dX11_cell_13 : decode cX11_cell 13 = .ok (.ireturn, 1) := by decide +kernel
theorem dX11_cell_14 : decode cX11_cell 14 = .ok (.iload_n 1, 1) := by decide +kernel
theorem dX11_cell_15 : decode cX11_cell 15 = .ok (.iload_n 2, 1) := by decide +kernel
theorem dX11_cell_16 : decode cX11_cell 16 = .ok (.invokestatic 194, 3) := by decide +kernel
theorem dX11_cell_19 : decode cX11_cell 19 = .ok (.invokestatic 197, 3) := by decide +kernel
theorem dX11_cell_22 : decode cX11_cell 22 = .ok (.lstore 4, 2) := by decide +kernel
theorem dX11_cell_24 : decode cX11_cell 24 = .ok (.iload_n 3, 1) := by decide +kernel
theorem dX11_cell_25 : decode cX11_cell 25 = .ok (.tableswitch 88 0 2 #[27, 48, 74], 27) := by decide +kernel
theorem dX11_cell_52 : decode cX11_cell 52 = .ok (.aload_n 0, 1) := by decide +kernel
theorem dX11_cell_53 : decode cX11_cell 53 = .ok (.getfield 20, 3) := by decide +kernel
theorem dX11_cell_56 : decode cX11_cell 56 = .ok (.getfield 133, 3) := by decide +kernel
theorem dX11_cell_59 : decode cX11_cell 59 = .ok (.lload 4, 2) := by decide +kernel
theorem dX11_cell_61 : decode cX11_cell 61 = .ok (.land, 1) := by decide +kernel
theorem dX11_cell_62 : decode cX11_cell 62 = .ok (.lconst 0, 1) := by decide +kernel
theorem dX11_cell_63 : decode cX11_cell 63 = .ok (.lcmp, 1) := by decide +kernel
theorem dX11_cell_64 : decode cX11_cell 64 = .ok (.ifCond .eq 7, 3) := by decide +kernel
theorem dX11_cell_67 : decode cX11_cell 67 = .ok (.iconst 1, 1) := by decide +kernel
theorem dX11_cell_68 : decode cX11_cell 68 = .ok (.goto 4, 3) := by decide +kernel
theorem dX11_cell_71 : decode cX11_cell 71 = .ok (.iconst 0, 1) := by decide +kernel
theorem dX11_cell_72 : decode cX11_cell 72 = .ok (.ireturn, 1) := by decide +kernel
theorem dX11_cell_73 : decode cX11_cell 73 = .ok (.aload_n 0, 1) := by decide +kernel
theorem dX11_cell_74 : decode cX11_cell 74 = .ok (.getfield 60, 3) := by decide +kernel
theorem dX11_cell_77 : decode cX11_cell 77 = .ok (.aload_n 0, 1) := by decide +kernel
theorem dX11_cell_78 : decode cX11_cell 78 = .ok (.getfield 39, 3) := by decide +kernel
theorem dX11_cell_81 : decode cX11_cell 81 = .ok (.iconst (-1), 1) := by decide +kernel
theorem dX11_cell_82 : decode cX11_cell 82 = .ok (.invokevirtual 159, 3) := by decide +kernel
theorem dX11_cell_85 : decode cX11_cell 85 = .ok (.lload 4, 2) := by decide +kernel
theorem dX11_cell_87 : decode cX11_cell 87 = .ok (.land, 1) := by decide +kernel
theorem dX11_cell_88 : decode cX11_cell 88 = .ok (.lconst 0, 1) := by decide +kernel
theorem dX11_cell_89 : decode cX11_cell 89 = .ok (.lcmp, 1) := by decide +kernel
theorem dX11_cell_90 : decode cX11_cell 90 = .ok (.ifCond .eq 7, 3) := by decide +kernel
theorem dX11_cell_93 : decode cX11_cell 93 = .ok (.iconst 1, 1) := by decide +kernel
theorem dX11_cell_94 : decode cX11_cell 94 = .ok (.goto 4, 3) := by decide +kernel
theorem dX11_cell_97 : decode cX11_cell 97 = .ok (.iconst 0, 1) := by decide +kernel
theorem dX11_cell_98 : decode cX11_cell 98 = .ok (.ireturn, 1) := by decide +kernel
theorem dX11_cell_99 : decode cX11_cell 99 = .ok (.aload_n 0, 1) := by decide +kernel
theorem dX11_cell_100 : decode cX11_cell 100 = .ok (.getfield 60, 3) := by decide +kernel
theorem dX11_cell_103 : decode cX11_cell 103 = .ok (.aload_n 0, 1) := by decide +kernel
theorem dX11_cell_104 : decode cX11_cell 104 = .ok (.getfield 39, 3) := by decide +kernel
theorem dX11_cell_107 : decode cX11_cell 107 = .ok (.lload 4, 2) := by decide +kernel
theorem dX11_cell_109 : decode cX11_cell 109 = .ok (.invokevirtual 201, 3) := by decide +kernel
theorem dX11_cell_112 : decode cX11_cell 112 = .ok (.ireturn, 1) := by decide +kernel
theorem dX11_cell_113 : decode cX11_cell 113 = .ok (.iconst (-1), 1) := by decide +kernel
theorem dX11_cell_114 : decode cX11_cell 114 = .ok (.ireturn, 1) := by decide +kernel
noncomputable def tX11_cell_0 : List (Nat × zF) := [(0, (zla4 0 1)), (1, (zgf 11 4)), (4, (zli4 1 1)), (5, (zli4 2 1)), (6, (zcv 50 2 4)), (9, (z_if_ne 14)), (12, (zst 1 (zp (.int ((-1)))))), (13, (zri false)), (14, (zli4 1 1)), (15, (zli4 2 1)), (16, (zcs 160 2)), (19, (zcs 163 1))]
theorem kX11_cell_0 : ∀ q ∈ tX11_cell_0, zOk zg iX11_cell q.1 q.2 := (z_c (ok_aload_n dX11_cell_0 rfl) (z_c (ok_getf (C := RX11) (T := TX11) (N := 16) rfl (by decide) zinX11 rfl zw_490 dX11_cell_1) (z_c (ok_iload_n dX11_cell_4 rfl) (z_c (ok_iload_n dX11_cell_5 rfl) (z_c (ok_callV zcal_50 (q := (RX4, TX4, 18)) rfl zw_584 zw_187 zw_188 dX11_cell_6) (z_c (ok_if_ne dX11_cell_9 (by decide)) (z_c (ok_iconst (v := (-1)) dX11_cell_12 (by decide)) (z_c (ok_ireturn rfl dX11_cell_13) (z_c (ok_iload_n dX11_cell_14 rfl) (z_c (ok_iload_n dX11_cell_15 rfl) (z_c (ok_callS zcal_160 zw_585 zw_198 dX11_cell_16) (z_c (ok_callS zcal_163 zw_586 zw_54 dX11_cell_19) z_n))))))))))))
noncomputable def tX11_cell_1 : List (Nat × zF) := [(22, (zsl4 6 4 2)), (24, (zli4 3 1)), (25, (zts [(0, 52), (1, 73), (2, 99)] 113)), (52, (zla4 0 1)), (53, (zgf 11 4)), (56, (zgf 4 6)), (59, (zll4 4 2)), (61, (zst 1 z_land)), (62, (zst 1 (zp (.long (0))))), (63, (zst 1 zcm)), (64, (z_if_eq 71)), (67, (zst 1 (zp (.int (1)))))]
theorem kX11_cell_1 : ∀ q ∈ tX11_cell_1, zOk zg iX11_cell q.1 q.2 := (z_c (ok_lstore dX11_cell_22) (z_c (ok_iload_n dX11_cell_24 rfl) (z_c (ok_tsw dX11_cell_25 (by decide) (by decide +kernel) (by decide +kernel) (by decide)) (z_c (ok_aload_n dX11_cell_52 rfl) (z_c (ok_getf (C := RX11) (T := TX11) (N := 16) rfl (by decide) zinX11 rfl zw_490 dX11_cell_53) (z_c (ok_getf (C := RX4) (T := TX4) (N := 18) rfl (by decide) zinX4 rfl zw_561 dX11_cell_56) (z_c (ok_lload dX11_cell_59) (z_c (ok_land dX11_cell_61) (z_c (ok_lconst (v := (0)) dX11_cell_62 (by decide)) (z_c (ok_lcmp dX11_cell_63) (z_c (ok_if_eq dX11_cell_64 (by decide)) (z_c (ok_iconst (v := (1)) dX11_cell_67 (by decide)) z_n))))))))))))
noncomputable def tX11_cell_2 : List (Nat × zF) := [(68, (zgt 72)), (71, (zst 1 (zp (.int (0))))), (72, (zri false)), (73, (zla4 0 1)), (74, (zgf 11 10)), (77, (zla4 0 1)), (78, (zgf 11 7)), (81, (zst 1 (zp (.int ((-1)))))), (82, (zcv 3 2 0)), (85, (zll4 4 2)), (87, (zst 1 z_land)), (88, (zst 1 (zp (.long (0)))))]
theorem kX11_cell_2 : ∀ q ∈ tX11_cell_2, zOk zg iX11_cell q.1 q.2 := (z_c (ok_goto dX11_cell_68 (by decide)) (z_c (ok_iconst (v := (0)) dX11_cell_71 (by decide)) (z_c (ok_ireturn rfl dX11_cell_72) (z_c (ok_aload_n dX11_cell_73 rfl) (z_c (ok_getf (C := RX11) (T := TX11) (N := 16) rfl (by decide) zinX11 rfl zw_513 dX11_cell_74) (z_c (ok_aload_n dX11_cell_77 rfl) (z_c (ok_getf (C := RX11) (T := TX11) (N := 16) rfl (by decide) zinX11 rfl zw_499 dX11_cell_78) (z_c (ok_iconst (v := (-1)) dX11_cell_81 (by decide)) (z_c (ok_callV zcal_3 (q := (RX0, TX0, 5)) rfl zw_569 zw_12 zw_13 dX11_cell_82) (z_c (ok_lload dX11_cell_85) (z_c (ok_land dX11_cell_87) (z_c (ok_lconst (v := (0)) dX11_cell_88 (by decide)) z_n))))))))))))
noncomputable def tX11_cell_3 : List (Nat × zF) := [(89, (zst 1 zcm)), (90, (z_if_eq 97)), (93, (zst 1 (zp (.int (1))))), (94, (zgt 98)), (97, (zst 1 (zp (.int (0))))), (98, (zri false)), (99, (zla4 0 1)), (100, (zgf 11 10)), (103, (zla4 0 1)), (104, (zgf 11 7)), (107, (zll4 4 2)), (109, (zcv 7 2 0))]
theorem kX11_cell_3 : ∀ q ∈ tX11_cell_3, zOk zg iX11_cell q.1 q.2 := (z_c (ok_lcmp dX11_cell_89) (z_c (ok_if_eq dX11_cell_90 (by decide)) (z_c (ok_iconst (v := (1)) dX11_cell_93 (by decide)) (z_c (ok_goto dX11_cell_94 (by decide)) (z_c (ok_iconst (v := (0)) dX11_cell_97 (by decide)) (z_c (ok_ireturn rfl dX11_cell_98) (z_c (ok_aload_n dX11_cell_99 rfl) (z_c (ok_getf (C := RX11) (T := TX11) (N := 16) rfl (by decide) zinX11 rfl zw_513 dX11_cell_100) (z_c (ok_aload_n dX11_cell_103 rfl) (z_c (ok_getf (C := RX11) (T := TX11) (N := 16) rfl (by decide) zinX11 rfl zw_499 dX11_cell_104) (z_c (ok_lload dX11_cell_107) (z_c (ok_callV zcal_7 (q := (RX0, TX0, 5)) rfl zw_587 zw_588 zw_589 dX11_cell_109) z_n))))))))))))
noncomputable def tX11_cell_4 : List (Nat × zF) := [(112, (zri false)), (113, (zst 1 (zp (.int ((-1)))))), (114, (zri false))]
theorem kX11_cell_4 : ∀ q ∈ tX11_cell_4, zOk zg iX11_cell q.1 q.2 := (z_c (ok_ireturn rfl dX11_cell_112) (z_c (ok_iconst (v := (-1)) dX11_cell_113 (by decide)) (z_c (ok_ireturn rfl dX11_cell_114) z_n)))
noncomputable def tX11_cell : zT := [(22, tX11_cell_0), (68, tX11_cell_1), (89, tX11_cell_2), (112, tX11_cell_3), (100000, tX11_cell_4)]
theorem kX11_cell : zTok zg iX11_cell tX11_cell := (z_t kX11_cell_0 (z_t kX11_cell_1 (z_t kX11_cell_2 (z_t kX11_cell_3 (z_t kX11_cell_4 z_tn)))))
theorem dX11_thing_0 : decode cX11_thing 0 = .ok (.aload_n 0, 1) := by decide +kernel
theorem dX11_thing_1 : decode cX11_thing 1 = .ok (.iload_n 1, 1) := by decide +kernel
theorem dX11_thing_2 : decode cX11_thing 2 = .ok (.invokevirtual 174, 3) := by decide +kernel
theorem dX11_thing_5 : decode cX11_thing 5 = .ok (.ifCond .ne 5, 3) := by decide +kernel
theorem dX11_thing_8 : decode cX11_thing 8 = .ok (.iconst (-1), 1) := by decide +kernel
theorem dX11_thing_9 : decode cX11_thing 9 = .ok (.ireturn, 1) := by decide +kernel
theorem dX11_thing_10 : decode cX11_thing 10 = .ok (.iload_n 2, 1) := by decide +kernel
theorem dX11_thing_11 : decode cX11_thing 11 = .ok (.tableswitch 142 0 6 #[41, 54, 67, 77, 87, 104, 114], 41) := by decide +kernel
theorem dX11_thing_52 : decode cX11_thing 52 = .ok (.aload_n 0, 1) := by decide +kernel
theorem dX11_thing_53 : decode cX11_thing 53 = .ok (.getfield 20, 3) := by decide +kernel
theorem dX11_thing_56 : decode cX11_thing 56 = .ok (.getfield 205, 3) := by decide +kernel
theorem dX11_thing_59 : decode cX11_thing 59 = .ok (.iload_n 1, 1) := by decide +kernel
theorem dX11_thing_60 : decode cX11_thing 60 = .ok (.iaload, 1) := by decide +kernel
theorem dX11_thing_61 : decode cX11_thing 61 = .ok (.invokestatic 208, 3) := by decide +kernel
theorem dX11_thing_64 : decode cX11_thing 64 = .ok (.ireturn, 1) := by decide +kernel
theorem dX11_thing_65 : decode cX11_thing 65 = .ok (.aload_n 0, 1) := by decide +kernel
theorem dX11_thing_66 : decode cX11_thing 66 = .ok (.getfield 20, 3) := by decide +kernel
theorem dX11_thing_69 : decode cX11_thing 69 = .ok (.getfield 205, 3) := by decide +kernel
theorem dX11_thing_72 : decode cX11_thing 72 = .ok (.iload_n 1, 1) := by decide +kernel
theorem dX11_thing_73 : decode cX11_thing 73 = .ok (.iaload, 1) := by decide +kernel
theorem dX11_thing_74 : decode cX11_thing 74 = .ok (.invokestatic 211, 3) := by decide +kernel
theorem dX11_thing_77 : decode cX11_thing 77 = .ok (.ireturn, 1) := by decide +kernel
theorem dX11_thing_78 : decode cX11_thing 78 = .ok (.aload_n 0, 1) := by decide +kernel
theorem dX11_thing_79 : decode cX11_thing 79 = .ok (.getfield 20, 3) := by decide +kernel
theorem dX11_thing_82 : decode cX11_thing 82 = .ok (.getfield 214, 3) := by decide +kernel
theorem dX11_thing_85 : decode cX11_thing 85 = .ok (.iload_n 1, 1) := by decide +kernel
theorem dX11_thing_86 : decode cX11_thing 86 = .ok (.iaload, 1) := by decide +kernel
theorem dX11_thing_87 : decode cX11_thing 87 = .ok (.ireturn, 1) := by decide +kernel
theorem dX11_thing_88 : decode cX11_thing 88 = .ok (.aload_n 0, 1) := by decide +kernel
theorem dX11_thing_89 : decode cX11_thing 89 = .ok (.getfield 20, 3) := by decide +kernel
theorem dX11_thing_92 : decode cX11_thing 92 = .ok (.getfield 217, 3) := by decide +kernel
theorem dX11_thing_95 : decode cX11_thing 95 = .ok (.iload_n 1, 1) := by decide +kernel
theorem dX11_thing_96 : decode cX11_thing 96 = .ok (.iaload, 1) := by decide +kernel
theorem dX11_thing_97 : decode cX11_thing 97 = .ok (.ireturn, 1) := by decide +kernel
theorem dX11_thing_98 : decode cX11_thing 98 = .ok (.aload_n 0, 1) := by decide +kernel
theorem dX11_thing_99 : decode cX11_thing 99 = .ok (.getfield 39, 3) := by decide +kernel
theorem dX11_thing_102 : decode cX11_thing 102 = .ok (.iload_n 1, 1) := by decide +kernel
theorem dX11_thing_103 : decode cX11_thing 103 = .ok (.invokevirtual 220, 3) := by decide +kernel
theorem dX11_thing_106 : decode cX11_thing 106 = .ok (.ifCond .eq 7, 3) := by decide +kernel
theorem dX11_thing_109 : decode cX11_thing 109 = .ok (.iconst 1, 1) := by decide +kernel
theorem dX11_thing_110 : decode cX11_thing 110 = .ok (.goto 4, 3) := by decide +kernel
theorem dX11_thing_113 : decode cX11_thing 113 = .ok (.iconst 0, 1) := by decide +kernel
theorem dX11_thing_114 : decode cX11_thing 114 = .ok (.ireturn, 1) := by decide +kernel
theorem dX11_thing_115 : decode cX11_thing 115 = .ok (.aload_n 0, 1) := by decide +kernel
theorem dX11_thing_116 : decode cX11_thing 116 = .ok (.getfield 39, 3) := by decide +kernel
theorem dX11_thing_119 : decode cX11_thing 119 = .ok (.getfield 223, 3) := by decide +kernel
theorem dX11_thing_122 : decode cX11_thing 122 = .ok (.iload_n 1, 1) := by decide +kernel
theorem dX11_thing_123 : decode cX11_thing 123 = .ok (.iaload, 1) := by decide +kernel
theorem dX11_thing_124 : decode cX11_thing 124 = .ok (.ireturn, 1) := by decide +kernel
theorem dX11_thing_125 : decode cX11_thing 125 = .ok (.aload_n 0, 1) := by decide +kernel
theorem dX11_thing_126 : decode cX11_thing 126 = .ok (.getfield 39, 3) := by decide +kernel
theorem dX11_thing_129 : decode cX11_thing 129 = .ok (.iload_n 1, 1) := by decide +kernel
theorem dX11_thing_130 : decode cX11_thing 130 = .ok (.invokevirtual 220, 3) := by decide +kernel
theorem dX11_thing_133 : decode cX11_thing 133 = .ok (.ifCond .eq 18, 3) := by decide +kernel
theorem dX11_thing_136 : decode cX11_thing 136 = .ok (.aload_n 0, 1) := by decide +kernel
theorem dX11_thing_137 : decode cX11_thing 137 = .ok (.getfield 60, 3) := by decide +kernel
theorem dX11_thing_140 : decode cX11_thing 140 = .ok (.aload_n 0, 1) := by decide +kernel
theorem dX11_thing_141 : decode cX11_thing 141 = .ok (.getfield 39, 3) := by decide +kernel
theorem dX11_thing_144 : decode cX11_thing 144 = .ok (.iload_n 1, 1) := by decide +kernel
theorem dX11_thing_145 : decode cX11_thing 145 = .ok (.invokevirtual 226, 3) := by decide +kernel
theorem dX11_thing_148 : decode cX11_thing 148 = .ok (.goto 4, 3) := by decide +kernel
theorem dX11_thing_151 : decode cX11_thing 151 = .ok (.iconst (-1), 1) := by decide +kernel
theorem dX11_thing_152 : decode cX11_thing 152 = .ok (.ireturn, 1) := by decide +kernel
theorem dX11_thing_153 : decode cX11_thing 153 = .ok (.iconst (-1), 1) := by decide +kernel
theorem dX11_thing_154 : decode cX11_thing 154 = .ok (.ireturn, 1) := by decide +kernel
noncomputable def tX11_thing_0 : List (Nat × zF) := [(0, (zla4 0 1)), (1, (zli4 1 1)), (2, (zcv 149 1 11)), (5, (z_if_ne 10)), (8, (zst 1 (zp (.int ((-1)))))), (9, (zri false)), (10, (zli4 2 1)), (11, (zts [(0, 52), (1, 65), (2, 78), (3, 88), (4, 98), (5, 115), (6, 125)] 153)), (52, (zla4 0 1)), (53, (zgf 11 4)), (56, (zgf 4 9)), (59, (zli4 1 1))]
theorem kX11_thing_0 : ∀ q ∈ tX11_thing_0, zOk zg iX11_thing q.1 q.2 := (z_c (ok_aload_n dX11_thing_0 rfl) (z_c (ok_iload_n dX11_thing_1 rfl) (z_c (ok_callV zcal_149 (q := (RX11, TX11, 16)) rfl zw_574 zw_575 zw_576 dX11_thing_2) (z_c (ok_if_ne dX11_thing_5 (by decide)) (z_c (ok_iconst (v := (-1)) dX11_thing_8 (by decide)) (z_c (ok_ireturn rfl dX11_thing_9) (z_c (ok_iload_n dX11_thing_10 rfl) (z_c (ok_tsw dX11_thing_11 (by decide) (by decide +kernel) (by decide +kernel) (by decide)) (z_c (ok_aload_n dX11_thing_52 rfl) (z_c (ok_getf (C := RX11) (T := TX11) (N := 16) rfl (by decide) zinX11 rfl zw_490 dX11_thing_53) (z_c (ok_getf (C := RX4) (T := TX4) (N := 18) rfl (by decide) zinX4 rfl zw_590 dX11_thing_56) (z_c (ok_iload_n dX11_thing_59 rfl) z_n))))))))))))
noncomputable def tX11_thing_1 : List (Nat × zF) := [(60, (zal 0)), (61, (zcs 161 1)), (64, (zri false)), (65, (zla4 0 1)), (66, (zgf 11 4)), (69, (zgf 4 9)), (72, (zli4 1 1)), (73, (zal 0)), (74, (zcs 162 1)), (77, (zri false)), (78, (zla4 0 1)), (79, (zgf 11 4))]
theorem kX11_thing_1 : ∀ q ∈ tX11_thing_1, zOk zg iX11_thing q.1 q.2 := (z_c (ok_iaload rfl dX11_thing_60) (z_c (ok_callS zcal_161 zw_591 zw_592 dX11_thing_61) (z_c (ok_ireturn rfl dX11_thing_64) (z_c (ok_aload_n dX11_thing_65 rfl) (z_c (ok_getf (C := RX11) (T := TX11) (N := 16) rfl (by decide) zinX11 rfl zw_490 dX11_thing_66) (z_c (ok_getf (C := RX4) (T := TX4) (N := 18) rfl (by decide) zinX4 rfl zw_590 dX11_thing_69) (z_c (ok_iload_n dX11_thing_72 rfl) (z_c (ok_iaload rfl dX11_thing_73) (z_c (ok_callS zcal_162 zw_593 zw_594 dX11_thing_74) (z_c (ok_ireturn rfl dX11_thing_77) (z_c (ok_aload_n dX11_thing_78 rfl) (z_c (ok_getf (C := RX11) (T := TX11) (N := 16) rfl (by decide) zinX11 rfl zw_490 dX11_thing_79) z_n))))))))))))
noncomputable def tX11_thing_2 : List (Nat × zF) := [(82, (zgf 4 10)), (85, (zli4 1 1)), (86, (zal 0)), (87, (zri false)), (88, (zla4 0 1)), (89, (zgf 11 4)), (92, (zgf 4 11)), (95, (zli4 1 1)), (96, (zal 0)), (97, (zri false)), (98, (zla4 0 1)), (99, (zgf 11 7))]
theorem kX11_thing_2 : ∀ q ∈ tX11_thing_2, zOk zg iX11_thing q.1 q.2 := (z_c (ok_getf (C := RX4) (T := TX4) (N := 18) rfl (by decide) zinX4 rfl zw_595 dX11_thing_82) (z_c (ok_iload_n dX11_thing_85 rfl) (z_c (ok_iaload rfl dX11_thing_86) (z_c (ok_ireturn rfl dX11_thing_87) (z_c (ok_aload_n dX11_thing_88 rfl) (z_c (ok_getf (C := RX11) (T := TX11) (N := 16) rfl (by decide) zinX11 rfl zw_490 dX11_thing_89) (z_c (ok_getf (C := RX4) (T := TX4) (N := 18) rfl (by decide) zinX4 rfl zw_596 dX11_thing_92) (z_c (ok_iload_n dX11_thing_95 rfl) (z_c (ok_iaload rfl dX11_thing_96) (z_c (ok_ireturn rfl dX11_thing_97) (z_c (ok_aload_n dX11_thing_98 rfl) (z_c (ok_getf (C := RX11) (T := TX11) (N := 16) rfl (by decide) zinX11 rfl zw_499 dX11_thing_99) z_n))))))))))))
noncomputable def tX11_thing_3 : List (Nat × zF) := [(102, (zli4 1 1)), (103, (zcv 81 1 8)), (106, (z_if_eq 113)), (109, (zst 1 (zp (.int (1))))), (110, (zgt 114)), (113, (zst 1 (zp (.int (0))))), (114, (zri false)), (115, (zla4 0 1)), (116, (zgf 11 7)), (119, (zgf 8 2)), (122, (zli4 1 1)), (123, (zal 0))]
theorem kX11_thing_3 : ∀ q ∈ tX11_thing_3, zOk zg iX11_thing q.1 q.2 := (z_c (ok_iload_n dX11_thing_102 rfl) (z_c (ok_callV zcal_81 (q := (RX8, TX8, 6)) rfl zw_597 zw_25 zw_26 dX11_thing_103) (z_c (ok_if_eq dX11_thing_106 (by decide)) (z_c (ok_iconst (v := (1)) dX11_thing_109 (by decide)) (z_c (ok_goto dX11_thing_110 (by decide)) (z_c (ok_iconst (v := (0)) dX11_thing_113 (by decide)) (z_c (ok_ireturn rfl dX11_thing_114) (z_c (ok_aload_n dX11_thing_115 rfl) (z_c (ok_getf (C := RX11) (T := TX11) (N := 16) rfl (by decide) zinX11 rfl zw_499 dX11_thing_116) (z_c (ok_getf (C := RX8) (T := TX8) (N := 6) rfl (by decide) zinX8 rfl zw_598 dX11_thing_119) (z_c (ok_iload_n dX11_thing_122 rfl) (z_c (ok_iaload rfl dX11_thing_123) z_n))))))))))))
noncomputable def tX11_thing_4 : List (Nat × zF) := [(124, (zri false)), (125, (zla4 0 1)), (126, (zgf 11 7)), (129, (zli4 1 1)), (130, (zcv 81 1 8)), (133, (z_if_eq 151)), (136, (zla4 0 1)), (137, (zgf 11 10)), (140, (zla4 0 1)), (141, (zgf 11 7)), (144, (zli4 1 1)), (145, (zcv 4 2 0))]
theorem kX11_thing_4 : ∀ q ∈ tX11_thing_4, zOk zg iX11_thing q.1 q.2 := (z_c (ok_ireturn rfl dX11_thing_124) (z_c (ok_aload_n dX11_thing_125 rfl) (z_c (ok_getf (C := RX11) (T := TX11) (N := 16) rfl (by decide) zinX11 rfl zw_499 dX11_thing_126) (z_c (ok_iload_n dX11_thing_129 rfl) (z_c (ok_callV zcal_81 (q := (RX8, TX8, 6)) rfl zw_597 zw_25 zw_26 dX11_thing_130) (z_c (ok_if_eq dX11_thing_133 (by decide)) (z_c (ok_aload_n dX11_thing_136 rfl) (z_c (ok_getf (C := RX11) (T := TX11) (N := 16) rfl (by decide) zinX11 rfl zw_513 dX11_thing_137) (z_c (ok_aload_n dX11_thing_140 rfl) (z_c (ok_getf (C := RX11) (T := TX11) (N := 16) rfl (by decide) zinX11 rfl zw_499 dX11_thing_141) (z_c (ok_iload_n dX11_thing_144 rfl) (z_c (ok_callV zcal_4 (q := (RX0, TX0, 5)) rfl zw_599 zw_29 zw_30 dX11_thing_145) z_n))))))))))))
noncomputable def tX11_thing_5 : List (Nat × zF) := [(148, (zgt 152)), (151, (zst 1 (zp (.int ((-1)))))), (152, (zri false)), (153, (zst 1 (zp (.int ((-1)))))), (154, (zri false))]
theorem kX11_thing_5 : ∀ q ∈ tX11_thing_5, zOk zg iX11_thing q.1 q.2 := (z_c (ok_goto dX11_thing_148 (by decide)) (z_c (ok_iconst (v := (-1)) dX11_thing_151 (by decide)) (z_c (ok_ireturn rfl dX11_thing_152) (z_c (ok_iconst (v := (-1)) dX11_thing_153 (by decide)) (z_c (ok_ireturn rfl dX11_thing_154) z_n)))))
noncomputable def tX11_thing : zT := [(60, tX11_thing_0), (82, tX11_thing_1), (102, tX11_thing_2), (124, tX11_thing_3), (148, tX11_thing_4), (100000, tX11_thing_5)]
theorem kX11_thing : zTok zg iX11_thing tX11_thing := (z_t kX11_thing_0 (z_t kX11_thing_1 (z_t kX11_thing_2 (z_t kX11_thing_3 (z_t kX11_thing_4 (z_t kX11_thing_5 z_tn))))))
