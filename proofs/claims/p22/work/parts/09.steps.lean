theorem dX11_folk_0 : decode cX11_folk 0 = .ok (.aload_n 0, 1) := by decide +kernel
theorem dX11_folk_1 : decode cX11_folk 1 = .ok (.iload_n 1, 1) := by decide +kernel
theorem dX11_folk_2 : decode cX11_folk 2 = .ok (.invokevirtual 184, 3) := by decide +kernel
theorem dX11_folk_5 : decode cX11_folk 5 = .ok (.ifCond .ne 5, 3) := by decide +kernel
theorem dX11_folk_8 : decode cX11_folk 8 = .ok (.iconst (-1), 1) := by decide +kernel
theorem dX11_folk_9 : decode cX11_folk 9 = .ok (.ireturn, 1) := by decide +kernel
theorem dX11_folk_10 : decode cX11_folk 10 = .ok (.iload_n 2, 1) := by decide +kernel
theorem dX11_folk_11 : decode cX11_folk 11 = .ok (.tableswitch 123 0 4 #[33, 46, 59, 72, 85], 33) := by decide +kernel
theorem dX11_folk_44 : decode cX11_folk 44 = .ok (.aload_n 0, 1) := by decide +kernel
theorem dX11_folk_45 : decode cX11_folk 45 = .ok (.getfield 39, 3) := by decide +kernel
theorem dX11_folk_48 : decode cX11_folk 48 = .ok (.getfield 230, 3) := by decide +kernel
theorem dX11_folk_51 : decode cX11_folk 51 = .ok (.iload_n 1, 1) := by decide +kernel
theorem dX11_folk_52 : decode cX11_folk 52 = .ok (.iaload, 1) := by decide +kernel
theorem dX11_folk_53 : decode cX11_folk 53 = .ok (.invokestatic 208, 3) := by decide +kernel
theorem dX11_folk_56 : decode cX11_folk 56 = .ok (.ireturn, 1) := by decide +kernel
theorem dX11_folk_57 : decode cX11_folk 57 = .ok (.aload_n 0, 1) := by decide +kernel
theorem dX11_folk_58 : decode cX11_folk 58 = .ok (.getfield 39, 3) := by decide +kernel
theorem dX11_folk_61 : decode cX11_folk 61 = .ok (.getfield 230, 3) := by decide +kernel
theorem dX11_folk_64 : decode cX11_folk 64 = .ok (.iload_n 1, 1) := by decide +kernel
theorem dX11_folk_65 : decode cX11_folk 65 = .ok (.iaload, 1) := by decide +kernel
theorem dX11_folk_66 : decode cX11_folk 66 = .ok (.invokestatic 211, 3) := by decide +kernel
theorem dX11_folk_69 : decode cX11_folk 69 = .ok (.ireturn, 1) := by decide +kernel
theorem dX11_folk_70 : decode cX11_folk 70 = .ok (.aload_n 0, 1) := by decide +kernel
theorem dX11_folk_71 : decode cX11_folk 71 = .ok (.getfield 20, 3) := by decide +kernel
theorem dX11_folk_74 : decode cX11_folk 74 = .ok (.getfield 233, 3) := by decide +kernel
theorem dX11_folk_77 : decode cX11_folk 77 = .ok (.iload_n 1, 1) := by decide +kernel
theorem dX11_folk_78 : decode cX11_folk 78 = .ok (.iaload, 1) := by decide +kernel
theorem dX11_folk_79 : decode cX11_folk 79 = .ok (.invokestatic 208, 3) := by decide +kernel
theorem dX11_folk_82 : decode cX11_folk 82 = .ok (.ireturn, 1) := by decide +kernel
theorem dX11_folk_83 : decode cX11_folk 83 = .ok (.aload_n 0, 1) := by decide +kernel
theorem dX11_folk_84 : decode cX11_folk 84 = .ok (.getfield 20, 3) := by decide +kernel
theorem dX11_folk_87 : decode cX11_folk 87 = .ok (.getfield 233, 3) := by decide +kernel
theorem dX11_folk_90 : decode cX11_folk 90 = .ok (.iload_n 1, 1) := by decide +kernel
theorem dX11_folk_91 : decode cX11_folk 91 = .ok (.iaload, 1) := by decide +kernel
theorem dX11_folk_92 : decode cX11_folk 92 = .ok (.invokestatic 211, 3) := by decide +kernel
theorem dX11_folk_95 : decode cX11_folk 95 = .ok (.ireturn, 1) := by decide +kernel
theorem dX11_folk_96 : decode cX11_folk 96 = .ok (.aload_n 0, 1) := by decide +kernel
theorem dX11_folk_97 : decode cX11_folk 97 = .ok (.getfield 60, 3) := by decide +kernel
theorem dX11_folk_100 : decode cX11_folk 100 = .ok (.aload_n 0, 1) := by decide +kernel
theorem dX11_folk_101 : decode cX11_folk 101 = .ok (.getfield 39, 3) := by decide +kernel
theorem dX11_folk_104 : decode cX11_folk 104 = .ok (.getfield 230, 3) := by decide +kernel
theorem dX11_folk_107 : decode cX11_folk 107 = .ok (.iload_n 1, 1) := by decide +kernel
theorem dX11_folk_108 : decode cX11_folk 108 = .ok (.iaload, 1) := by decide +kernel
theorem dX11_folk_109 : decode cX11_folk 109 = .ok (.aload_n 0, 1) := by decide +kernel
theorem dX11_folk_110 : decode cX11_folk 110 = .ok (.getfield 20, 3) := by decide +kernel
theorem dX11_folk_113 : decode cX11_folk 113 = .ok (.getfield 233, 3) := by decide +kernel
theorem dX11_folk_116 : decode cX11_folk 116 = .ok (.iload_n 1, 1) := by decide +kernel
theorem dX11_folk_117 : decode cX11_folk 117 = .ok (.iaload, 1) := by decide +kernel
theorem dX11_folk_118 : decode cX11_folk 118 = .ok (.aload_n 0, 1) := by decide +kernel
theorem dX11_folk_119 : decode cX11_folk 119 = .ok (.getfield 60, 3) := by decide +kernel
theorem dX11_folk_122 : decode cX11_folk 122 = .ok (.aload_n 0, 1) := by decide +kernel
theorem dX11_folk_123 : decode cX11_folk 123 = .ok (.getfield 39, 3) := by decide +kernel
theorem dX11_folk_126 : decode cX11_folk 126 = .ok (.iconst (-1), 1) := by decide +kernel
theorem dX11_folk_127 : decode cX11_folk 127 = .ok (.invokevirtual 159, 3) := by decide +kernel
theorem dX11_folk_130 : decode cX11_folk 130 = .ok (.invokevirtual 236, 3) := by decide +kernel
theorem dX11_folk_133 : decode cX11_folk 133 = .ok (.ireturn, 1) := by decide +kernel
theorem dX11_folk_134 : decode cX11_folk 134 = .ok (.iconst (-1), 1) := by decide +kernel
theorem dX11_folk_135 : decode cX11_folk 135 = .ok (.ireturn, 1) := by decide +kernel
noncomputable def tX11_folk_0 : List (Nat × zF) := [(0, (zla4 0 1)), (1, (zli4 1 1)), (2, (zcv 150 1 11)), (5, (z_if_ne 10)), (8, (zst 1 (zp (.int ((-1)))))), (9, (zri false)), (10, (zli4 2 1)), (11, (zts [(0, 44), (1, 57), (2, 70), (3, 83), (4, 96)] 134)), (44, (zla4 0 1)), (45, (zgf 11 7)), (48, (zgf 8 3)), (51, (zli4 1 1))]
theorem kX11_folk_0 : ∀ q ∈ tX11_folk_0, zOk zg iX11_folk q.1 q.2 := (z_c (ok_aload_n dX11_folk_0 rfl) (z_c (ok_iload_n dX11_folk_1 rfl) (z_c (ok_callV zcal_150 (q := (RX11, TX11, 16)) rfl zw_580 zw_581 zw_582 dX11_folk_2) (z_c (ok_if_ne dX11_folk_5 (by decide)) (z_c (ok_iconst (v := (-1)) dX11_folk_8 (by decide)) (z_c (ok_ireturn rfl dX11_folk_9) (z_c (ok_iload_n dX11_folk_10 rfl) (z_c (ok_tsw dX11_folk_11 (by decide) (by decide +kernel) (by decide +kernel) (by decide)) (z_c (ok_aload_n dX11_folk_44 rfl) (z_c (ok_getf (C := RX11) (T := TX11) (N := 16) rfl (by decide) zinX11 rfl zw_499 dX11_folk_45) (z_c (ok_getf (C := RX8) (T := TX8) (N := 6) rfl (by decide) zinX8 rfl zw_600 dX11_folk_48) (z_c (ok_iload_n dX11_folk_51 rfl) z_n))))))))))))
noncomputable def tX11_folk_1 : List (Nat × zF) := [(52, (zal 0)), (53, (zcs 161 1)), (56, (zri false)), (57, (zla4 0 1)), (58, (zgf 11 7)), (61, (zgf 8 3)), (64, (zli4 1 1)), (65, (zal 0)), (66, (zcs 162 1)), (69, (zri false)), (70, (zla4 0 1)), (71, (zgf 11 4))]
theorem kX11_folk_1 : ∀ q ∈ tX11_folk_1, zOk zg iX11_folk q.1 q.2 := (z_c (ok_iaload rfl dX11_folk_52) (z_c (ok_callS zcal_161 zw_591 zw_592 dX11_folk_53) (z_c (ok_ireturn rfl dX11_folk_56) (z_c (ok_aload_n dX11_folk_57 rfl) (z_c (ok_getf (C := RX11) (T := TX11) (N := 16) rfl (by decide) zinX11 rfl zw_499 dX11_folk_58) (z_c (ok_getf (C := RX8) (T := TX8) (N := 6) rfl (by decide) zinX8 rfl zw_600 dX11_folk_61) (z_c (ok_iload_n dX11_folk_64 rfl) (z_c (ok_iaload rfl dX11_folk_65) (z_c (ok_callS zcal_162 zw_593 zw_594 dX11_folk_66) (z_c (ok_ireturn rfl dX11_folk_69) (z_c (ok_aload_n dX11_folk_70 rfl) (z_c (ok_getf (C := RX11) (T := TX11) (N := 16) rfl (by decide) zinX11 rfl zw_490 dX11_folk_71) z_n))))))))))))
noncomputable def tX11_folk_2 : List (Nat × zF) := [(74, (zgf 4 16)), (77, (zli4 1 1)), (78, (zal 0)), (79, (zcs 161 1)), (82, (zri false)), (83, (zla4 0 1)), (84, (zgf 11 4)), (87, (zgf 4 16)), (90, (zli4 1 1)), (91, (zal 0)), (92, (zcs 162 1)), (95, (zri false))]
theorem kX11_folk_2 : ∀ q ∈ tX11_folk_2, zOk zg iX11_folk q.1 q.2 := (z_c (ok_getf (C := RX4) (T := TX4) (N := 18) rfl (by decide) zinX4 rfl zw_601 dX11_folk_74) (z_c (ok_iload_n dX11_folk_77 rfl) (z_c (ok_iaload rfl dX11_folk_78) (z_c (ok_callS zcal_161 zw_591 zw_592 dX11_folk_79) (z_c (ok_ireturn rfl dX11_folk_82) (z_c (ok_aload_n dX11_folk_83 rfl) (z_c (ok_getf (C := RX11) (T := TX11) (N := 16) rfl (by decide) zinX11 rfl zw_490 dX11_folk_84) (z_c (ok_getf (C := RX4) (T := TX4) (N := 18) rfl (by decide) zinX4 rfl zw_601 dX11_folk_87) (z_c (ok_iload_n dX11_folk_90 rfl) (z_c (ok_iaload rfl dX11_folk_91) (z_c (ok_callS zcal_162 zw_593 zw_594 dX11_folk_92) (z_c (ok_ireturn rfl dX11_folk_95) z_n))))))))))))
noncomputable def tX11_folk_3 : List (Nat × zF) := [(96, (zla4 0 1)), (97, (zgf 11 10)), (100, (zla4 0 1)), (101, (zgf 11 7)), (104, (zgf 8 3)), (107, (zli4 1 1)), (108, (zal 0)), (109, (zla4 0 1)), (110, (zgf 11 4)), (113, (zgf 4 16)), (116, (zli4 1 1)), (117, (zal 0))]
theorem kX11_folk_3 : ∀ q ∈ tX11_folk_3, zOk zg iX11_folk q.1 q.2 := (z_c (ok_aload_n dX11_folk_96 rfl) (z_c (ok_getf (C := RX11) (T := TX11) (N := 16) rfl (by decide) zinX11 rfl zw_513 dX11_folk_97) (z_c (ok_aload_n dX11_folk_100 rfl) (z_c (ok_getf (C := RX11) (T := TX11) (N := 16) rfl (by decide) zinX11 rfl zw_499 dX11_folk_101) (z_c (ok_getf (C := RX8) (T := TX8) (N := 6) rfl (by decide) zinX8 rfl zw_600 dX11_folk_104) (z_c (ok_iload_n dX11_folk_107 rfl) (z_c (ok_iaload rfl dX11_folk_108) (z_c (ok_aload_n dX11_folk_109 rfl) (z_c (ok_getf (C := RX11) (T := TX11) (N := 16) rfl (by decide) zinX11 rfl zw_490 dX11_folk_110) (z_c (ok_getf (C := RX4) (T := TX4) (N := 18) rfl (by decide) zinX4 rfl zw_601 dX11_folk_113) (z_c (ok_iload_n dX11_folk_116 rfl) (z_c (ok_iaload rfl dX11_folk_117) z_n))))))))))))
noncomputable def tX11_folk_4 : List (Nat × zF) := [(118, (zla4 0 1)), (119, (zgf 11 10)), (122, (zla4 0 1)), (123, (zgf 11 7)), (126, (zst 1 (zp (.int ((-1)))))), (127, (zcv 3 2 0)), (130, (zcv 8 3 0)), (133, (zri false)), (134, (zst 1 (zp (.int ((-1)))))), (135, (zri false))]
theorem kX11_folk_4 : ∀ q ∈ tX11_folk_4, zOk zg iX11_folk q.1 q.2 := (z_c (ok_aload_n dX11_folk_118 rfl) (z_c (ok_getf (C := RX11) (T := TX11) (N := 16) rfl (by decide) zinX11 rfl zw_513 dX11_folk_119) (z_c (ok_aload_n dX11_folk_122 rfl) (z_c (ok_getf (C := RX11) (T := TX11) (N := 16) rfl (by decide) zinX11 rfl zw_499 dX11_folk_123) (z_c (ok_iconst (v := (-1)) dX11_folk_126 (by decide)) (z_c (ok_callV zcal_3 (q := (RX0, TX0, 5)) rfl zw_569 zw_12 zw_13 dX11_folk_127) (z_c (ok_callV zcal_8 (q := (RX0, TX0, 5)) rfl zw_602 zw_61 zw_62 dX11_folk_130) (z_c (ok_ireturn rfl dX11_folk_133) (z_c (ok_iconst (v := (-1)) dX11_folk_134 (by decide)) (z_c (ok_ireturn rfl dX11_folk_135) z_n))))))))))
noncomputable def tX11_folk : zT := [(52, tX11_folk_0), (74, tX11_folk_1), (96, tX11_folk_2), (118, tX11_folk_3), (100000, tX11_folk_4)]
theorem kX11_folk : zTok zg iX11_folk tX11_folk := (z_t kX11_folk_0 (z_t kX11_folk_1 (z_t kX11_folk_2 (z_t kX11_folk_3 (z_t kX11_folk_4 z_tn)))))
theorem dX11_later_0 : decode cX11_later 0 = .ok (.aload_n 0, 1) := by decide +kernel
theorem dX11_later_1 : decode cX11_later 1 = .ok (.iload_n 1, 1) := by decide +kernel
theorem dX11_later_2 : decode cX11_later 2 = .ok (.invokevirtual 184, 3) := by decide +kernel
theorem dX11_later_5 : decode cX11_later 5 = .ok (.ifCond .eq 22, 3) := by decide +kernel
theorem dX11_later_8 : decode cX11_later 8 = .ok (.aload_n 0, 1) := by decide +kernel
theorem dX11_later_9 : decode cX11_later 9 = .ok (.iload_n 2, 1) := by decide +kernel
theorem dX11_later_10 : decode cX11_later 10 = .ok (.bipush 40, 2) := by decide +kernel
theorem dX11_later_12 : decode cX11_later 12 = .ok (.invokevirtual 240, 3) := by decide +kernel
theorem dX11_later_15 : decode cX11_later 15 = .ok (.ifCond .eq 12, 3) := by decide +kernel
theorem dX11_later_18 : decode cX11_later 18 = .ok (.iload_n 3, 1) := by decide +kernel
theorem dX11_later_19 : decode cX11_later 19 = .ok (.ifCond .lt 8, 3) := by decide +kernel
theorem dX11_later_22 : decode cX11_later 22 = .ok (.iload_n 3, 1) := by decide +kernel
theorem dX11_later_23 : decode cX11_later 23 = .ok (.iconst 1, 1) := by decide +kernel
theorem dX11_later_24 : decode cX11_later 24 = .ok (.if_icmp .le 5, 3) := by decide +kernel
theorem dX11_later_27 : decode cX11_later 27 = .ok (.iconst (-1), 1) := by decide +kernel
theorem dX11_later_28 : decode cX11_later 28 = .ok (.ireturn, 1) := by decide +kernel
theorem dX11_later_29 : decode cX11_later 29 = .ok (.aload_n 0, 1) := by decide +kernel
theorem dX11_later_30 : decode cX11_later 30 = .ok (.getfield 69, 3) := by decide +kernel
theorem dX11_later_33 : decode cX11_later 33 = .ok (.aload_n 0, 1) := by decide +kernel
theorem dX11_later_34 : decode cX11_later 34 = .ok (.getfield 39, 3) := by decide +kernel
theorem dX11_later_37 : decode cX11_later 37 = .ok (.iload_n 2, 1) := by decide +kernel
theorem dX11_later_38 : decode cX11_later 38 = .ok (.invokevirtual 243, 3) := by decide +kernel
theorem dX11_later_41 : decode cX11_later 41 = .ok (.getfield 230, 3) := by decide +kernel
theorem dX11_later_44 : decode cX11_later 44 = .ok (.iload_n 1, 1) := by decide +kernel
theorem dX11_later_45 : decode cX11_later 45 = .ok (.iaload, 1) := by decide +kernel
theorem dX11_later_46 : decode cX11_later 46 = .ok (.istore 4, 2) := by decide +kernel
theorem dX11_later_48 : decode cX11_later 48 = .ok (.iload_n 3, 1) := by decide +kernel
theorem dX11_later_49 : decode cX11_later 49 = .ok (.ifCond .ne 11, 3) := by decide +kernel
theorem dX11_later_52 : decode cX11_later 52 = .ok (.iload 4, 2) := by decide +kernel
theorem dX11_later_54 : decode cX11_later 54 = .ok (.invokestatic 208, 3) := by decide +kernel
theorem dX11_later_57 : decode cX11_later 57 = .ok (.goto 8, 3) := by decide +kernel
theorem dX11_later_60 : decode cX11_later 60 = .ok (.iload 4, 2) := by decide +kernel
theorem dX11_later_62 : decode cX11_later 62 = .ok (.invokestatic 211, 3) := by decide +kernel
theorem dX11_later_65 : decode cX11_later 65 = .ok (.ireturn, 1) := by decide +kernel
noncomputable def tX11_later_0 : List (Nat × zF) := [(0, (zla4 0 1)), (1, (zli4 1 1)), (2, (zcv 150 1 11)), (5, (z_if_eq 27)), (8, (zla4 0 1)), (9, (zli4 2 1)), (10, (zst 2 (zp (.int (40))))), (12, (zcv 151 2 11)), (15, (z_if_eq 27)), (18, (zli4 3 1)), (19, (z_if_lt 27)), (22, (zli4 3 1))]
theorem kX11_later_0 : ∀ q ∈ tX11_later_0, zOk zg iX11_later q.1 q.2 := (z_c (ok_aload_n dX11_later_0 rfl) (z_c (ok_iload_n dX11_later_1 rfl) (z_c (ok_callV zcal_150 (q := (RX11, TX11, 16)) rfl zw_580 zw_581 zw_582 dX11_later_2) (z_c (ok_if_eq dX11_later_5 (by decide)) (z_c (ok_aload_n dX11_later_8 rfl) (z_c (ok_iload_n dX11_later_9 rfl) (z_c (ok_bipush (v := (40)) dX11_later_10 (by decide)) (z_c (ok_callV zcal_151 (q := (RX11, TX11, 16)) rfl zw_603 zw_604 zw_605 dX11_later_12) (z_c (ok_if_eq dX11_later_15 (by decide)) (z_c (ok_iload_n dX11_later_18 rfl) (z_c (ok_if_lt dX11_later_19 (by decide)) (z_c (ok_iload_n dX11_later_22 rfl) z_n))))))))))))
noncomputable def tX11_later_1 : List (Nat × zF) := [(23, (zst 1 (zp (.int (1))))), (24, (z_ic_le 29)), (27, (zst 1 (zp (.int ((-1)))))), (28, (zri false)), (29, (zla4 0 1)), (30, (zgf 11 11)), (33, (zla4 0 1)), (34, (zgf 11 7)), (37, (zli4 2 1)), (38, (zcv 26 2 3)), (41, (zgf 8 3)), (44, (zli4 1 1))]
theorem kX11_later_1 : ∀ q ∈ tX11_later_1, zOk zg iX11_later q.1 q.2 := (z_c (ok_iconst (v := (1)) dX11_later_23 (by decide)) (z_c (ok_icmp_le dX11_later_24 (by decide)) (z_c (ok_iconst (v := (-1)) dX11_later_27 (by decide)) (z_c (ok_ireturn rfl dX11_later_28) (z_c (ok_aload_n dX11_later_29 rfl) (z_c (ok_getf (C := RX11) (T := TX11) (N := 16) rfl (by decide) zinX11 rfl zw_519 dX11_later_30) (z_c (ok_aload_n dX11_later_33 rfl) (z_c (ok_getf (C := RX11) (T := TX11) (N := 16) rfl (by decide) zinX11 rfl zw_499 dX11_later_34) (z_c (ok_iload_n dX11_later_37 rfl) (z_c (ok_callV zcal_26 (q := (RX3, TX3, 13)) rfl zw_606 zw_607 zw_608 dX11_later_38) (z_c (ok_getf (C := RX8) (T := TX8) (N := 6) rfl (by decide) zinX8 rfl zw_600 dX11_later_41) (z_c (ok_iload_n dX11_later_44 rfl) z_n))))))))))))
noncomputable def tX11_later_2 : List (Nat × zF) := [(45, (zal 0)), (46, (zsi4 5 4 2)), (48, (zli4 3 1)), (49, (z_if_ne 60)), (52, (zli4 4 2)), (54, (zcs 161 1)), (57, (zgt 65)), (60, (zli4 4 2)), (62, (zcs 162 1)), (65, (zri false))]
theorem kX11_later_2 : ∀ q ∈ tX11_later_2, zOk zg iX11_later q.1 q.2 := (z_c (ok_iaload rfl dX11_later_45) (z_c (ok_istore dX11_later_46) (z_c (ok_iload_n dX11_later_48 rfl) (z_c (ok_if_ne dX11_later_49 (by decide)) (z_c (ok_iload dX11_later_52) (z_c (ok_callS zcal_161 zw_591 zw_592 dX11_later_54) (z_c (ok_goto dX11_later_57 (by decide)) (z_c (ok_iload dX11_later_60) (z_c (ok_callS zcal_162 zw_593 zw_594 dX11_later_62) (z_c (ok_ireturn rfl dX11_later_65) z_n))))))))))
noncomputable def tX11_later : zT := [(23, tX11_later_0), (45, tX11_later_1), (100000, tX11_later_2)]
theorem kX11_later : zTok zg iX11_later tX11_later := (z_t kX11_later_0 (z_t kX11_later_1 (z_t kX11_later_2 z_tn)))
theorem dX11_home_0 : decode cX11_home 0 = .ok (.aload_n 0, 1) := by decide +kernel
theorem dX11_home_1 : decode cX11_home 1 = .ok (.iload_n 1, 1) := by decide +kernel
theorem dX11_home_2 : decode cX11_home 2 = .ok (.invokevirtual 184, 3) := by decide +kernel
theorem dX11_home_5 : decode cX11_home 5 = .ok (.ifCond .eq 18, 3) := by decide +kernel
theorem dX11_home_8 : decode cX11_home 8 = .ok (.aload_n 0, 1) := by decide +kernel
theorem dX11_home_9 : decode cX11_home 9 = .ok (.getfield 69, 3) := by decide +kernel
theorem dX11_home_12 : decode cX11_home 12 = .ok (.aload_n 0, 1) := by decide +kernel
theorem dX11_home_13 : decode cX11_home 13 = .ok (.getfield 39, 3) := by decide +kernel
theorem dX11_home_16 : decode cX11_home 16 = .ok (.iload_n 1, 1) := by decide +kernel
theorem dX11_home_17 : decode cX11_home 17 = .ok (.invokevirtual 247, 3) := by decide +kernel
theorem dX11_home_20 : decode cX11_home 20 = .ok (.goto 4, 3) := by decide +kernel
theorem dX11_home_23 : decode cX11_home 23 = .ok (.iconst (-1), 1) := by decide +kernel
theorem dX11_home_24 : decode cX11_home 24 = .ok (.ireturn, 1) := by decide +kernel
noncomputable def tX11_home_0 : List (Nat × zF) := [(0, (zla4 0 1)), (1, (zli4 1 1)), (2, (zcv 150 1 11)), (5, (z_if_eq 23)), (8, (zla4 0 1)), (9, (zgf 11 11)), (12, (zla4 0 1)), (13, (zgf 11 7)), (16, (zli4 1 1)), (17, (zcv 27 2 3)), (20, (zgt 24)), (23, (zst 1 (zp (.int ((-1))))))]
theorem kX11_home_0 : ∀ q ∈ tX11_home_0, zOk zg iX11_home q.1 q.2 := (z_c (ok_aload_n dX11_home_0 rfl) (z_c (ok_iload_n dX11_home_1 rfl) (z_c (ok_callV zcal_150 (q := (RX11, TX11, 16)) rfl zw_580 zw_581 zw_582 dX11_home_2) (z_c (ok_if_eq dX11_home_5 (by decide)) (z_c (ok_aload_n dX11_home_8 rfl) (z_c (ok_getf (C := RX11) (T := TX11) (N := 16) rfl (by decide) zinX11 rfl zw_519 dX11_home_9) (z_c (ok_aload_n dX11_home_12 rfl) (z_c (ok_getf (C := RX11) (T := TX11) (N := 16) rfl (by decide) zinX11 rfl zw_499 dX11_home_13) (z_c (ok_iload_n dX11_home_16 rfl) (z_c (ok_callV zcal_27 (q := (RX3, TX3, 13)) rfl zw_609 zw_610 zw_611 dX11_home_17) (z_c (ok_goto dX11_home_20 (by decide)) (z_c (ok_iconst (v := (-1)) dX11_home_23 (by decide)) z_n))))))))))))
noncomputable def tX11_home_1 : List (Nat × zF) := [(24, (zri false))]
theorem kX11_home_1 : ∀ q ∈ tX11_home_1, zOk zg iX11_home q.1 q.2 := (z_c (ok_ireturn rfl dX11_home_24) z_n)
noncomputable def tX11_home : zT := [(24, tX11_home_0), (100000, tX11_home_1)]
theorem kX11_home : zTok zg iX11_home tX11_home := (z_t kX11_home_0 (z_t kX11_home_1 z_tn))
theorem dX11_missing_0 : decode cX11_missing 0 = .ok (.aload_n 0, 1) := by decide +kernel
theorem dX11_missing_1 : decode cX11_missing 1 = .ok (.iload_n 1, 1) := by decide +kernel
theorem dX11_missing_2 : decode cX11_missing 2 = .ok (.invokevirtual 174, 3) := by decide +kernel
theorem dX11_missing_5 : decode cX11_missing 5 = .ok (.ifCond .eq 13, 3) := by decide +kernel
theorem dX11_missing_8 : decode cX11_missing 8 = .ok (.aload_n 0, 1) := by decide +kernel
theorem dX11_missing_9 : decode cX11_missing 9 = .ok (.iload_n 2, 1) := by decide +kernel
theorem dX11_missing_10 : decode cX11_missing 10 = .ok (.bipush 40, 2) := by decide +kernel
theorem dX11_missing_12 : decode cX11_missing 12 = .ok (.invokevirtual 240, 3) := by decide +kernel
theorem dX11_missing_15 : decode cX11_missing 15 = .ok (.ifCond .ne 5, 3) := by decide +kernel
theorem dX11_missing_18 : decode cX11_missing 18 = .ok (.iconst (-1), 1) := by decide +kernel
theorem dX11_missing_19 : decode cX11_missing 19 = .ok (.ireturn, 1) := by decide +kernel
theorem dX11_missing_20 : decode cX11_missing 20 = .ok (.aload_n 0, 1) := by decide +kernel
theorem dX11_missing_21 : decode cX11_missing 21 = .ok (.getfield 69, 3) := by decide +kernel
theorem dX11_missing_24 : decode cX11_missing 24 = .ok (.aload_n 0, 1) := by decide +kernel
theorem dX11_missing_25 : decode cX11_missing 25 = .ok (.getfield 39, 3) := by decide +kernel
theorem dX11_missing_28 : decode cX11_missing 28 = .ok (.iload_n 2, 1) := by decide +kernel
theorem dX11_missing_29 : decode cX11_missing 29 = .ok (.invokevirtual 243, 3) := by decide +kernel
theorem dX11_missing_32 : decode cX11_missing 32 = .ok (.iload_n 1, 1) := by decide +kernel
theorem dX11_missing_33 : decode cX11_missing 33 = .ok (.invokevirtual 220, 3) := by decide +kernel
theorem dX11_missing_36 : decode cX11_missing 36 = .ok (.ifCond .eq 7, 3) := by decide +kernel
theorem dX11_missing_39 : decode cX11_missing 39 = .ok (.iconst 1, 1) := by decide +kernel
theorem dX11_missing_40 : decode cX11_missing 40 = .ok (.goto 4, 3) := by decide +kernel
theorem dX11_missing_43 : decode cX11_missing 43 = .ok (.iconst 0, 1) := by decide +kernel
theorem dX11_missing_44 : decode cX11_missing 44 = .ok (.ireturn, 1) := by decide +kernel
noncomputable def tX11_missing_0 : List (Nat × zF) := [(0, (zla4 0 1)), (1, (zli4 1 1)), (2, (zcv 149 1 11)), (5, (z_if_eq 18)), (8, (zla4 0 1)), (9, (zli4 2 1)), (10, (zst 2 (zp (.int (40))))), (12, (zcv 151 2 11)), (15, (z_if_ne 20)), (18, (zst 1 (zp (.int ((-1)))))), (19, (zri false)), (20, (zla4 0 1))]
theorem kX11_missing_0 : ∀ q ∈ tX11_missing_0, zOk zg iX11_missing q.1 q.2 := (z_c (ok_aload_n dX11_missing_0 rfl) (z_c (ok_iload_n dX11_missing_1 rfl) (z_c (ok_callV zcal_149 (q := (RX11, TX11, 16)) rfl zw_574 zw_575 zw_576 dX11_missing_2) (z_c (ok_if_eq dX11_missing_5 (by decide)) (z_c (ok_aload_n dX11_missing_8 rfl) (z_c (ok_iload_n dX11_missing_9 rfl) (z_c (ok_bipush (v := (40)) dX11_missing_10 (by decide)) (z_c (ok_callV zcal_151 (q := (RX11, TX11, 16)) rfl zw_603 zw_604 zw_605 dX11_missing_12) (z_c (ok_if_ne dX11_missing_15 (by decide)) (z_c (ok_iconst (v := (-1)) dX11_missing_18 (by decide)) (z_c (ok_ireturn rfl dX11_missing_19) (z_c (ok_aload_n dX11_missing_20 rfl) z_n))))))))))))
noncomputable def tX11_missing_1 : List (Nat × zF) := [(21, (zgf 11 11)), (24, (zla4 0 1)), (25, (zgf 11 7)), (28, (zli4 2 1)), (29, (zcv 26 2 3)), (32, (zli4 1 1)), (33, (zcv 81 1 8)), (36, (z_if_eq 43)), (39, (zst 1 (zp (.int (1))))), (40, (zgt 44)), (43, (zst 1 (zp (.int (0))))), (44, (zri false))]
theorem kX11_missing_1 : ∀ q ∈ tX11_missing_1, zOk zg iX11_missing q.1 q.2 := (z_c (ok_getf (C := RX11) (T := TX11) (N := 16) rfl (by decide) zinX11 rfl zw_519 dX11_missing_21) (z_c (ok_aload_n dX11_missing_24 rfl) (z_c (ok_getf (C := RX11) (T := TX11) (N := 16) rfl (by decide) zinX11 rfl zw_499 dX11_missing_25) (z_c (ok_iload_n dX11_missing_28 rfl) (z_c (ok_callV zcal_26 (q := (RX3, TX3, 13)) rfl zw_606 zw_607 zw_608 dX11_missing_29) (z_c (ok_iload_n dX11_missing_32 rfl) (z_c (ok_callV zcal_81 (q := (RX8, TX8, 6)) rfl zw_597 zw_25 zw_26 dX11_missing_33) (z_c (ok_if_eq dX11_missing_36 (by decide)) (z_c (ok_iconst (v := (1)) dX11_missing_39 (by decide)) (z_c (ok_goto dX11_missing_40 (by decide)) (z_c (ok_iconst (v := (0)) dX11_missing_43 (by decide)) (z_c (ok_ireturn rfl dX11_missing_44) z_n))))))))))))
noncomputable def tX11_missing : zT := [(21, tX11_missing_0), (100000, tX11_missing_1)]
theorem kX11_missing : zTok zg iX11_missing tX11_missing := (z_t kX11_missing_0 (z_t kX11_missing_1 z_tn))
theorem dX11_losses_0 : decode cX11_losses 0 = .ok (.aload_n 0, 1) := by decide +kernel
theorem dX11_losses_1 : decode cX11_losses 1 = .ok (.iload_n 1, 1) := by decide +kernel
theorem dX11_losses_2 : decode cX11_losses 2 = .ok (.invokevirtual 184, 3) := by decide +kernel
theorem dX11_losses_5 : decode cX11_losses 5 = .ok (.ifCond .eq 29, 3) := by decide +kernel
theorem dX11_losses_8 : decode cX11_losses 8 = .ok (.aload_n 0, 1) := by decide +kernel
theorem dX11_losses_9 : decode cX11_losses 9 = .ok (.iload_n 2, 1) := by decide +kernel
theorem dX11_losses_10 : decode cX11_losses 10 = .ok (.bipush 20, 2) := by decide +kernel
theorem dX11_losses_12 : decode cX11_losses 12 = .ok (.invokevirtual 240, 3) := by decide +kernel
theorem dX11_losses_15 : decode cX11_losses 15 = .ok (.ifCond .eq 19, 3) := by decide +kernel
theorem dX11_losses_18 : decode cX11_losses 18 = .ok (.aload_n 0, 1) := by decide +kernel
theorem dX11_losses_19 : decode cX11_losses 19 = .ok (.getfield 69, 3) := by decide +kernel
theorem dX11_losses_22 : decode cX11_losses 22 = .ok (.aload_n 0, 1) := by decide +kernel
theorem dX11_losses_23 : decode cX11_losses 23 = .ok (.getfield 39, 3) := by decide +kernel
theorem dX11_losses_26 : decode cX11_losses 26 = .ok (.iload_n 1, 1) := by decide +kernel
theorem dX11_losses_27 : decode cX11_losses 27 = .ok (.iload_n 2, 1) := by decide +kernel
theorem dX11_losses_28 : decode cX11_losses 28 = .ok (.invokevirtual 250, 3) := by decide +kernel
theorem dX11_losses_31 : decode cX11_losses 31 = .ok (.goto 4, 3) := by decide +kernel
theorem dX11_losses_34 : decode cX11_losses 34 = .ok (.iconst (-1), 1) := by decide +kernel
theorem dX11_losses_35 : decode cX11_losses 35 = .ok (.ireturn, 1) := by decide +kernel
noncomputable def tX11_losses_0 : List (Nat × zF) := [(0, (zla4 0 1)), (1, (zli4 1 1)), (2, (zcv 150 1 11)), (5, (z_if_eq 34)), (8, (zla4 0 1)), (9, (zli4 2 1)), (10, (zst 2 (zp (.int (20))))), (12, (zcv 151 2 11)), (15, (z_if_eq 34)), (18, (zla4 0 1)), (19, (zgf 11 11)), (22, (zla4 0 1))]
theorem kX11_losses_0 : ∀ q ∈ tX11_losses_0, zOk zg iX11_losses q.1 q.2 := (z_c (ok_aload_n dX11_losses_0 rfl) (z_c (ok_iload_n dX11_losses_1 rfl) (z_c (ok_callV zcal_150 (q := (RX11, TX11, 16)) rfl zw_580 zw_581 zw_582 dX11_losses_2) (z_c (ok_if_eq dX11_losses_5 (by decide)) (z_c (ok_aload_n dX11_losses_8 rfl) (z_c (ok_iload_n dX11_losses_9 rfl) (z_c (ok_bipush (v := (20)) dX11_losses_10 (by decide)) (z_c (ok_callV zcal_151 (q := (RX11, TX11, 16)) rfl zw_603 zw_604 zw_605 dX11_losses_12) (z_c (ok_if_eq dX11_losses_15 (by decide)) (z_c (ok_aload_n dX11_losses_18 rfl) (z_c (ok_getf (C := RX11) (T := TX11) (N := 16) rfl (by decide) zinX11 rfl zw_519 dX11_losses_19) (z_c (ok_aload_n dX11_losses_22 rfl) z_n))))))))))))
noncomputable def tX11_losses_1 : List (Nat × zF) := [(23, (zgf 11 7)), (26, (zli4 1 1)), (27, (zli4 2 1)), (28, (zcv 28 3 3)), (31, (zgt 35)), (34, (zst 1 (zp (.int ((-1)))))), (35, (zri false))]
theorem kX11_losses_1 : ∀ q ∈ tX11_losses_1, zOk zg iX11_losses q.1 q.2 := (z_c (ok_getf (C := RX11) (T := TX11) (N := 16) rfl (by decide) zinX11 rfl zw_499 dX11_losses_23) (z_c (ok_iload_n dX11_losses_26 rfl) (z_c (ok_iload_n dX11_losses_27 rfl) (z_c (ok_callV zcal_28 (q := (RX3, TX3, 13)) rfl zw_612 zw_613 zw_614 dX11_losses_28) (z_c (ok_goto dX11_losses_31 (by decide)) (z_c (ok_iconst (v := (-1)) dX11_losses_34 (by decide)) (z_c (ok_ireturn rfl dX11_losses_35) z_n)))))))
noncomputable def tX11_losses : zT := [(23, tX11_losses_0), (100000, tX11_losses_1)]
theorem kX11_losses : zTok zg iX11_losses tX11_losses := (z_t kX11_losses_0 (z_t kX11_losses_1 z_tn))
theorem dX11_worst_0 : decode cX11_worst 0 = .ok (.iload_n 1, 1) := by decide +kernel
theorem dX11_worst_1 : decode cX11_worst 1 = .ok (.iconst 1, 1) := by decide +kernel
theorem dX11_worst_2 : decode cX11_worst 2 = .ok (.if_icmp .lt 22, 3) := by decide +kernel
theorem dX11_worst_5 : decode cX11_worst 5 = .ok (.aload_n 0, 1) := by decide +kernel
theorem dX11_worst_6 : decode cX11_worst 6 = .ok (.iload_n 1, 1) := by decide +kernel
theorem dX11_worst_7 : decode cX11_worst 7 = .ok (.bipush 20, 2) := by decide +kernel
theorem dX11_worst_9 : decode cX11_worst 9 = .ok (.invokevirtual 240, 3) := by decide +kernel
theorem dX11_worst_12 : decode cX11_worst 12 = .ok (.ifCond .eq 12, 3) := by decide +kernel
theorem dX11_worst_15 : decode cX11_worst 15 = .ok (.iload_n 2, 1) := by decide +kernel
theorem dX11_worst_16 : decode cX11_worst 16 = .ok (.ifCond .lt 8, 3) := by decide +kernel
theorem dX11_worst_19 : decode cX11_worst 19 = .ok (.iload_n 2, 1) := by decide +kernel
theorem dX11_worst_20 : decode cX11_worst 20 = .ok (.iconst 1, 1) := by decide +kernel
theorem dX11_worst_21 : decode cX11_worst 21 = .ok (.if_icmp .le 5, 3) := by decide +kernel
theorem dX11_worst_24 : decode cX11_worst 24 = .ok (.iconst (-1), 1) := by decide +kernel
theorem dX11_worst_25 : decode cX11_worst 25 = .ok (.ireturn, 1) := by decide +kernel
theorem dX11_worst_26 : decode cX11_worst 26 = .ok (.aload_n 0, 1) := by decide +kernel
theorem dX11_worst_27 : decode cX11_worst 27 = .ok (.getfield 69, 3) := by decide +kernel
theorem dX11_worst_30 : decode cX11_worst 30 = .ok (.aload_n 0, 1) := by decide +kernel
theorem dX11_worst_31 : decode cX11_worst 31 = .ok (.getfield 39, 3) := by decide +kernel
theorem dX11_worst_34 : decode cX11_worst 34 = .ok (.iload_n 1, 1) := by decide +kernel
theorem dX11_worst_35 : decode cX11_worst 35 = .ok (.iload_n 2, 1) := by decide +kernel
theorem dX11_worst_36 : decode cX11_worst 36 = .ok (.ifCond .ne 7, 3) := by decide +kernel
theorem dX11_worst_39 : decode cX11_worst 39 = .ok (.iconst 1, 1) := by decide +kernel
theorem dX11_worst_40 : decode cX11_worst 40 = .ok (.goto 4, 3) := by decide +kernel
theorem dX11_worst_43 : decode cX11_worst 43 = .ok (.iconst 0, 1) := by decide +kernel
theorem dX11_worst_44 : decode cX11_worst 44 = .ok (.invokevirtual 254, 3) := by decide +kernel
theorem dX11_worst_47 : decode cX11_worst 47 = .ok (.ireturn, 1) := by decide +kernel
noncomputable def tX11_worst_0 : List (Nat × zF) := [(0, (zli4 1 1)), (1, (zst 1 (zp (.int (1))))), (2, (z_ic_lt 24)), (5, (zla4 0 1)), (6, (zli4 1 1)), (7, (zst 2 (zp (.int (20))))), (9, (zcv 151 2 11)), (12, (z_if_eq 24)), (15, (zli4 2 1)), (16, (z_if_lt 24)), (19, (zli4 2 1)), (20, (zst 1 (zp (.int (1)))))]
theorem kX11_worst_0 : ∀ q ∈ tX11_worst_0, zOk zg iX11_worst q.1 q.2 := (z_c (ok_iload_n dX11_worst_0 rfl) (z_c (ok_iconst (v := (1)) dX11_worst_1 (by decide)) (z_c (ok_icmp_lt dX11_worst_2 (by decide)) (z_c (ok_aload_n dX11_worst_5 rfl) (z_c (ok_iload_n dX11_worst_6 rfl) (z_c (ok_bipush (v := (20)) dX11_worst_7 (by decide)) (z_c (ok_callV zcal_151 (q := (RX11, TX11, 16)) rfl zw_603 zw_604 zw_605 dX11_worst_9) (z_c (ok_if_eq dX11_worst_12 (by decide)) (z_c (ok_iload_n dX11_worst_15 rfl) (z_c (ok_if_lt dX11_worst_16 (by decide)) (z_c (ok_iload_n dX11_worst_19 rfl) (z_c (ok_iconst (v := (1)) dX11_worst_20 (by decide)) z_n))))))))))))
noncomputable def tX11_worst_1 : List (Nat × zF) := [(21, (z_ic_le 26)), (24, (zst 1 (zp (.int ((-1)))))), (25, (zri false)), (26, (zla4 0 1)), (27, (zgf 11 11)), (30, (zla4 0 1)), (31, (zgf 11 7)), (34, (zli4 1 1)), (35, (zli4 2 1)), (36, (z_if_ne 43)), (39, (zst 1 (zp (.int (1))))), (40, (zgt 44))]
theorem kX11_worst_1 : ∀ q ∈ tX11_worst_1, zOk zg iX11_worst q.1 q.2 := (z_c (ok_icmp_le dX11_worst_21 (by decide)) (z_c (ok_iconst (v := (-1)) dX11_worst_24 (by decide)) (z_c (ok_ireturn rfl dX11_worst_25) (z_c (ok_aload_n dX11_worst_26 rfl) (z_c (ok_getf (C := RX11) (T := TX11) (N := 16) rfl (by decide) zinX11 rfl zw_519 dX11_worst_27) (z_c (ok_aload_n dX11_worst_30 rfl) (z_c (ok_getf (C := RX11) (T := TX11) (N := 16) rfl (by decide) zinX11 rfl zw_499 dX11_worst_31) (z_c (ok_iload_n dX11_worst_34 rfl) (z_c (ok_iload_n dX11_worst_35 rfl) (z_c (ok_if_ne dX11_worst_36 (by decide)) (z_c (ok_iconst (v := (1)) dX11_worst_39 (by decide)) (z_c (ok_goto dX11_worst_40 (by decide)) z_n))))))))))))
noncomputable def tX11_worst_2 : List (Nat × zF) := [(43, (zst 1 (zp (.int (0))))), (44, (zcv 30 3 3)), (47, (zri false))]
theorem kX11_worst_2 : ∀ q ∈ tX11_worst_2, zOk zg iX11_worst q.1 q.2 := (z_c (ok_iconst (v := (0)) dX11_worst_43 (by decide)) (z_c (ok_callV zcal_30 (q := (RX3, TX3, 13)) rfl zw_615 zw_616 zw_617 dX11_worst_44) (z_c (ok_ireturn rfl dX11_worst_47) z_n)))
noncomputable def tX11_worst : zT := [(21, tX11_worst_0), (43, tX11_worst_1), (100000, tX11_worst_2)]
theorem kX11_worst : zTok zg iX11_worst tX11_worst := (z_t kX11_worst_0 (z_t kX11_worst_1 (z_t kX11_worst_2 z_tn)))
theorem dX11_cover_0 : decode cX11_cover 0 = .ok (.aload_n 0, 1) := by decide +kernel
theorem dX11_cover_1 : decode cX11_cover 1 = .ok (.getfield 69, 3) := by decide +kernel
theorem dX11_cover_4 : decode cX11_cover 4 = .ok (.aload_n 0, 1) := by decide +kernel
theorem dX11_cover_5 : decode cX11_cover 5 = .ok (.getfield 39, 3) := by decide +kernel
theorem dX11_cover_8 : decode cX11_cover 8 = .ok (.invokevirtual 258, 3) := by decide +kernel
theorem dX11_cover_11 : decode cX11_cover 11 = .ok (.ireturn, 1) := by decide +kernel
noncomputable def tX11_cover_0 : List (Nat × zF) := [(0, (zla4 0 1)), (1, (zgf 11 11)), (4, (zla4 0 1)), (5, (zgf 11 7)), (8, (zcv 31 1 3)), (11, (zri false))]
theorem kX11_cover_0 : ∀ q ∈ tX11_cover_0, zOk zg iX11_cover q.1 q.2 := (z_c (ok_aload_n dX11_cover_0 rfl) (z_c (ok_getf (C := RX11) (T := TX11) (N := 16) rfl (by decide) zinX11 rfl zw_519 dX11_cover_1) (z_c (ok_aload_n dX11_cover_4 rfl) (z_c (ok_getf (C := RX11) (T := TX11) (N := 16) rfl (by decide) zinX11 rfl zw_499 dX11_cover_5) (z_c (ok_callV zcal_31 (q := (RX3, TX3, 13)) rfl zw_618 zw_619 zw_620 dX11_cover_8) (z_c (ok_ireturn rfl dX11_cover_11) z_n))))))
noncomputable def tX11_cover : zT := [(100000, tX11_cover_0)]
theorem kX11_cover : zTok zg iX11_cover tX11_cover := (z_t kX11_cover_0 z_tn)
theorem dX11_send_0 : decode cX11_send 0 = .ok (.iload_n 1, 1) := by decide +kernel
theorem dX11_send_1 : decode cX11_send 1 = .ok (.ifCond .lt 16, 3) := by decide +kernel
theorem dX11_send_4 : decode cX11_send 4 = .ok (.iload_n 1, 1) := by decide +kernel
theorem dX11_send_5 : decode cX11_send 5 = .ok (.iconst 2, 1) := by decide +kernel
theorem dX11_send_6 : decode cX11_send 6 = .ok (.aload_n 0, 1) := by decide +kernel
theorem dX11_send_7 : decode cX11_send 7 = .ok (.getfield 20, 3) := by decide +kernel
theorem dX11_send_10 : decode cX11_send 10 = .ok (.getfield 146, 3) := by decide +kernel
theorem dX11_send_13 : decode cX11_send 13 = .ok (.iadd, 1) := by decide +kernel
theorem dX11_send_14 : decode cX11_send 14 = .ok (.if_icmp .lt 5, 3) := by decide +kernel
theorem dX11_send_17 : decode cX11_send 17 = .ok (.iconst (-1), 1) := by decide +kernel
theorem dX11_send_18 : decode cX11_send 18 = .ok (.ireturn, 1) := by decide +kernel
theorem dX11_send_19 : decode cX11_send 19 = .ok (.aload_n 0, 1) := by decide +kernel
theorem dX11_send_20 : decode cX11_send 20 = .ok (.getfield 69, 3) := by decide +kernel
theorem dX11_send_23 : decode cX11_send 23 = .ok (.aload_n 0, 1) := by decide +kernel
theorem dX11_send_24 : decode cX11_send 24 = .ok (.getfield 39, 3) := by decide +kernel
theorem dX11_send_27 : decode cX11_send 27 = .ok (.invokevirtual 261, 3) := by decide +kernel
theorem dX11_send_30 : decode cX11_send 30 = .ok (.iload_n 1, 1) := by decide +kernel
theorem dX11_send_31 : decode cX11_send 31 = .ok (.ifCond .ne 11, 3) := by decide +kernel
theorem dX11_send_34 : decode cX11_send 34 = .ok (.aload_n 0, 1) := by decide +kernel
theorem dX11_send_35 : decode cX11_send 35 = .ok (.getfield 69, 3) := by decide +kernel
theorem dX11_send_38 : decode cX11_send 38 = .ok (.getfield 264, 3) := by decide +kernel
theorem dX11_send_41 : decode cX11_send 41 = .ok (.ireturn, 1) := by decide +kernel
theorem dX11_send_42 : decode cX11_send 42 = .ok (.iload_n 1, 1) := by decide +kernel
theorem dX11_send_43 : decode cX11_send 43 = .ok (.iconst 1, 1) := by decide +kernel
theorem dX11_send_44 : decode cX11_send 44 = .ok (.if_icmp .ne 13, 3) := by decide +kernel
theorem dX11_send_47 : decode cX11_send 47 = .ok (.aload_n 0, 1) := by decide +kernel
theorem dX11_send_48 : decode cX11_send 48 = .ok (.getfield 69, 3) := by decide +kernel
theorem dX11_send_51 : decode cX11_send 51 = .ok (.getfield 267, 3) := by decide +kernel
theorem dX11_send_54 : decode cX11_send 54 = .ok (.goto 14, 3) := by decide +kernel
theorem dX11_send_57 : decode cX11_send 57 = .ok (.aload_n 0, 1) := by decide +kernel
theorem dX11_send_58 : decode cX11_send 58 = .ok (.getfield 69, 3) := by decide +kernel
theorem dX11_send_61 : decode cX11_send 61 = .ok (.getfield 270, 3) := by decide +kernel
theorem dX11_send_64 : decode cX11_send 64 = .ok (.iload_n 1, 1) := by decide +kernel
theorem dX11_send_65 : decode cX11_send 65 = .ok (.iconst 2, 1) := by decide +kernel
theorem dX11_send_66 : decode cX11_send 66 = .ok (.isub, 1) := by decide +kernel
theorem dX11_send_67 : decode cX11_send 67 = .ok (.iaload, 1) := by decide +kernel
theorem dX11_send_68 : decode cX11_send 68 = .ok (.ireturn, 1) := by decide +kernel
noncomputable def tX11_send_0 : List (Nat × zF) := [(0, (zli4 1 1)), (1, (z_if_lt 17)), (4, (zli4 1 1)), (5, (zst 1 (zp (.int (2))))), (6, (zla4 0 1)), (7, (zgf 11 4)), (10, (zgf 4 13)), (13, (zst 1 z_iadd)), (14, (z_ic_lt 19)), (17, (zst 1 (zp (.int ((-1)))))), (18, (zri false)), (19, (zla4 0 1))]
theorem kX11_send_0 : ∀ q ∈ tX11_send_0, zOk zg iX11_send q.1 q.2 := (z_c (ok_iload_n dX11_send_0 rfl) (z_c (ok_if_lt dX11_send_1 (by decide)) (z_c (ok_iload_n dX11_send_4 rfl) (z_c (ok_iconst (v := (2)) dX11_send_5 (by decide)) (z_c (ok_aload_n dX11_send_6 rfl) (z_c (ok_getf (C := RX11) (T := TX11) (N := 16) rfl (by decide) zinX11 rfl zw_490 dX11_send_7) (z_c (ok_getf (C := RX4) (T := TX4) (N := 18) rfl (by decide) zinX4 rfl zw_565 dX11_send_10) (z_c (ok_iadd dX11_send_13) (z_c (ok_icmp_lt dX11_send_14 (by decide)) (z_c (ok_iconst (v := (-1)) dX11_send_17 (by decide)) (z_c (ok_ireturn rfl dX11_send_18) (z_c (ok_aload_n dX11_send_19 rfl) z_n))))))))))))
noncomputable def tX11_send_1 : List (Nat × zF) := [(20, (zgf 11 11)), (23, (zla4 0 1)), (24, (zgf 11 7)), (27, (zcv 33 1 3)), (30, (zli4 1 1)), (31, (z_if_ne 42)), (34, (zla4 0 1)), (35, (zgf 11 11)), (38, (zgf 3 6)), (41, (zri false)), (42, (zli4 1 1)), (43, (zst 1 (zp (.int (1)))))]
theorem kX11_send_1 : ∀ q ∈ tX11_send_1, zOk zg iX11_send q.1 q.2 := (z_c (ok_getf (C := RX11) (T := TX11) (N := 16) rfl (by decide) zinX11 rfl zw_519 dX11_send_20) (z_c (ok_aload_n dX11_send_23 rfl) (z_c (ok_getf (C := RX11) (T := TX11) (N := 16) rfl (by decide) zinX11 rfl zw_499 dX11_send_24) (z_c (ok_callV zcal_33 (q := (RX3, TX3, 13)) rfl zw_621 zw_622 zw_623 dX11_send_27) (z_c (ok_iload_n dX11_send_30 rfl) (z_c (ok_if_ne dX11_send_31 (by decide)) (z_c (ok_aload_n dX11_send_34 rfl) (z_c (ok_getf (C := RX11) (T := TX11) (N := 16) rfl (by decide) zinX11 rfl zw_519 dX11_send_35) (z_c (ok_getf (C := RX3) (T := TX3) (N := 13) rfl (by decide) zinX3 rfl zw_624 dX11_send_38) (z_c (ok_ireturn rfl dX11_send_41) (z_c (ok_iload_n dX11_send_42 rfl) (z_c (ok_iconst (v := (1)) dX11_send_43 (by decide)) z_n))))))))))))
noncomputable def tX11_send_2 : List (Nat × zF) := [(44, (z_ic_ne 57)), (47, (zla4 0 1)), (48, (zgf 11 11)), (51, (zgf 3 7)), (54, (zgt 68)), (57, (zla4 0 1)), (58, (zgf 11 11)), (61, (zgf 3 5)), (64, (zli4 1 1)), (65, (zst 1 (zp (.int (2))))), (66, (zst 1 z_isub)), (67, (zal 0))]
theorem kX11_send_2 : ∀ q ∈ tX11_send_2, zOk zg iX11_send q.1 q.2 := (z_c (ok_icmp_ne dX11_send_44 (by decide)) (z_c (ok_aload_n dX11_send_47 rfl) (z_c (ok_getf (C := RX11) (T := TX11) (N := 16) rfl (by decide) zinX11 rfl zw_519 dX11_send_48) (z_c (ok_getf (C := RX3) (T := TX3) (N := 13) rfl (by decide) zinX3 rfl zw_625 dX11_send_51) (z_c (ok_goto dX11_send_54 (by decide)) (z_c (ok_aload_n dX11_send_57 rfl) (z_c (ok_getf (C := RX11) (T := TX11) (N := 16) rfl (by decide) zinX11 rfl zw_519 dX11_send_58) (z_c (ok_getf (C := RX3) (T := TX3) (N := 13) rfl (by decide) zinX3 rfl zw_626 dX11_send_61) (z_c (ok_iload_n dX11_send_64 rfl) (z_c (ok_iconst (v := (2)) dX11_send_65 (by decide)) (z_c (ok_isub dX11_send_66) (z_c (ok_iaload rfl dX11_send_67) z_n))))))))))))
noncomputable def tX11_send_3 : List (Nat × zF) := [(68, (zri false))]
theorem kX11_send_3 : ∀ q ∈ tX11_send_3, zOk zg iX11_send q.1 q.2 := (z_c (ok_ireturn rfl dX11_send_68) z_n)
noncomputable def tX11_send : zT := [(20, tX11_send_0), (44, tX11_send_1), (68, tX11_send_2), (100000, tX11_send_3)]
theorem kX11_send : zTok zg iX11_send tX11_send := (z_t kX11_send_0 (z_t kX11_send_1 (z_t kX11_send_2 (z_t kX11_send_3 z_tn))))
theorem dX11_odds_0 : decode cX11_odds 0 = .ok (.aload_n 0, 1) := by decide +kernel
theorem dX11_odds_1 : decode cX11_odds 1 = .ok (.getfield 20, 3) := by decide +kernel
theorem dX11_odds_4 : decode cX11_odds 4 = .ok (.getfield 143, 3) := by decide +kernel
theorem dX11_odds_7 : decode cX11_odds 7 = .ok (.ifCond .eq 16, 3) := by decide +kernel
theorem dX11_odds_10 : decode cX11_odds 10 = .ok (.aload_n 0, 1) := by decide +kernel
theorem dX11_odds_11 : decode cX11_odds 11 = .ok (.getfield 39, 3) := by decide +kernel
theorem dX11_odds_14 : decode cX11_odds 14 = .ok (.getfield 149, 3) := by decide +kernel
theorem dX11_odds_17 : decode cX11_odds 17 = .ok (.sipush 999, 3) := by decide +kernel
theorem dX11_odds_20 : decode cX11_odds 20 = .ok (.if_icmp .lt 5, 3) := by decide +kernel
theorem dX11_odds_23 : decode cX11_odds 23 = .ok (.iconst (-1), 1) := by decide +kernel
theorem dX11_odds_24 : decode cX11_odds 24 = .ok (.ireturn, 1) := by decide +kernel
theorem dX11_odds_25 : decode cX11_odds 25 = .ok (.iload_n 1, 1) := by decide +kernel
theorem dX11_odds_26 : decode cX11_odds 26 = .ok (.iconst (-1), 1) := by decide +kernel
theorem dX11_odds_27 : decode cX11_odds 27 = .ok (.if_icmp .ne 14, 3) := by decide +kernel
theorem dX11_odds_30 : decode cX11_odds 30 = .ok (.bipush 100, 2) := by decide +kernel
theorem dX11_odds_32 : decode cX11_odds 32 = .ok (.aload_n 0, 1) := by decide +kernel
theorem dX11_odds_33 : decode cX11_odds 33 = .ok (.getfield 20, 3) := by decide +kernel
theorem dX11_odds_36 : decode cX11_odds 36 = .ok (.getfield 143, 3) := by decide +kernel
theorem dX11_odds_39 : decode cX11_odds 39 = .ok (.imul, 1) := by decide +kernel
theorem dX11_odds_40 : decode cX11_odds 40 = .ok (.ireturn, 1) := by decide +kernel
theorem dX11_odds_41 : decode cX11_odds 41 = .ok (.aload_n 0, 1) := by decide +kernel
theorem dX11_odds_42 : decode cX11_odds 42 = .ok (.iload_n 1, 1) := by decide +kernel
theorem dX11_odds_43 : decode cX11_odds 43 = .ok (.invokevirtual 184, 3) := by decide +kernel
theorem dX11_odds_46 : decode cX11_odds 46 = .ok (.ifCond .eq 18, 3) := by decide +kernel
theorem dX11_odds_49 : decode cX11_odds 49 = .ok (.aload_n 0, 1) := by decide +kernel
theorem dX11_odds_50 : decode cX11_odds 50 = .ok (.getfield 69, 3) := by decide +kernel
theorem dX11_odds_53 : decode cX11_odds 53 = .ok (.aload_n 0, 1) := by decide +kernel
theorem dX11_odds_54 : decode cX11_odds 54 = .ok (.getfield 39, 3) := by decide +kernel
theorem dX11_odds_57 : decode cX11_odds 57 = .ok (.iload_n 1, 1) := by decide +kernel
theorem dX11_odds_58 : decode cX11_odds 58 = .ok (.invokevirtual 273, 3) := by decide +kernel
theorem dX11_odds_61 : decode cX11_odds 61 = .ok (.goto 4, 3) := by decide +kernel
theorem dX11_odds_64 : decode cX11_odds 64 = .ok (.iconst (-1), 1) := by decide +kernel
theorem dX11_odds_65 : decode cX11_odds 65 = .ok (.ireturn, 1) := by decide +kernel
noncomputable def tX11_odds_0 : List (Nat × zF) := [(0, (zla4 0 1)), (1, (zgf 11 4)), (4, (zgf 4 7)), (7, (z_if_eq 23)), (10, (zla4 0 1)), (11, (zgf 11 7)), (14, (zgf 8 0)), (17, (zst 3 (zp (.int (999))))), (20, (z_ic_lt 25)), (23, (zst 1 (zp (.int ((-1)))))), (24, (zri false)), (25, (zli4 1 1))]
theorem kX11_odds_0 : ∀ q ∈ tX11_odds_0, zOk zg iX11_odds q.1 q.2 := (z_c (ok_aload_n dX11_odds_0 rfl) (z_c (ok_getf (C := RX11) (T := TX11) (N := 16) rfl (by decide) zinX11 rfl zw_490 dX11_odds_1) (z_c (ok_getf (C := RX4) (T := TX4) (N := 18) rfl (by decide) zinX4 rfl zw_564 dX11_odds_4) (z_c (ok_if_eq dX11_odds_7 (by decide)) (z_c (ok_aload_n dX11_odds_10 rfl) (z_c (ok_getf (C := RX11) (T := TX11) (N := 16) rfl (by decide) zinX11 rfl zw_499 dX11_odds_11) (z_c (ok_getf (C := RX8) (T := TX8) (N := 6) rfl (by decide) zinX8 rfl zw_566 dX11_odds_14) (z_c (ok_sipush (v := (999)) dX11_odds_17 (by decide)) (z_c (ok_icmp_lt dX11_odds_20 (by decide)) (z_c (ok_iconst (v := (-1)) dX11_odds_23 (by decide)) (z_c (ok_ireturn rfl dX11_odds_24) (z_c (ok_iload_n dX11_odds_25 rfl) z_n))))))))))))
noncomputable def tX11_odds_1 : List (Nat × zF) := [(26, (zst 1 (zp (.int ((-1)))))), (27, (z_ic_ne 41)), (30, (zst 2 (zp (.int (100))))), (32, (zla4 0 1)), (33, (zgf 11 4)), (36, (zgf 4 7)), (39, (zst 1 z_imul)), (40, (zri false)), (41, (zla4 0 1)), (42, (zli4 1 1)), (43, (zcv 150 1 11)), (46, (z_if_eq 64))]
theorem kX11_odds_1 : ∀ q ∈ tX11_odds_1, zOk zg iX11_odds q.1 q.2 := (z_c (ok_iconst (v := (-1)) dX11_odds_26 (by decide)) (z_c (ok_icmp_ne dX11_odds_27 (by decide)) (z_c (ok_bipush (v := (100)) dX11_odds_30 (by decide)) (z_c (ok_aload_n dX11_odds_32 rfl) (z_c (ok_getf (C := RX11) (T := TX11) (N := 16) rfl (by decide) zinX11 rfl zw_490 dX11_odds_33) (z_c (ok_getf (C := RX4) (T := TX4) (N := 18) rfl (by decide) zinX4 rfl zw_564 dX11_odds_36) (z_c (ok_imul dX11_odds_39) (z_c (ok_ireturn rfl dX11_odds_40) (z_c (ok_aload_n dX11_odds_41 rfl) (z_c (ok_iload_n dX11_odds_42 rfl) (z_c (ok_callV zcal_150 (q := (RX11, TX11, 16)) rfl zw_580 zw_581 zw_582 dX11_odds_43) (z_c (ok_if_eq dX11_odds_46 (by decide)) z_n))))))))))))
noncomputable def tX11_odds_2 : List (Nat × zF) := [(49, (zla4 0 1)), (50, (zgf 11 11)), (53, (zla4 0 1)), (54, (zgf 11 7)), (57, (zli4 1 1)), (58, (zcv 38 2 3)), (61, (zgt 65)), (64, (zst 1 (zp (.int ((-1)))))), (65, (zri false))]
theorem kX11_odds_2 : ∀ q ∈ tX11_odds_2, zOk zg iX11_odds q.1 q.2 := (z_c (ok_aload_n dX11_odds_49 rfl) (z_c (ok_getf (C := RX11) (T := TX11) (N := 16) rfl (by decide) zinX11 rfl zw_519 dX11_odds_50) (z_c (ok_aload_n dX11_odds_53 rfl) (z_c (ok_getf (C := RX11) (T := TX11) (N := 16) rfl (by decide) zinX11 rfl zw_499 dX11_odds_54) (z_c (ok_iload_n dX11_odds_57 rfl) (z_c (ok_callV zcal_38 (q := (RX3, TX3, 13)) rfl zw_627 zw_628 zw_629 dX11_odds_58) (z_c (ok_goto dX11_odds_61 (by decide)) (z_c (ok_iconst (v := (-1)) dX11_odds_64 (by decide)) (z_c (ok_ireturn rfl dX11_odds_65) z_n)))))))))
noncomputable def tX11_odds : zT := [(26, tX11_odds_0), (49, tX11_odds_1), (100000, tX11_odds_2)]
theorem kX11_odds : zTok zg iX11_odds tX11_odds := (z_t kX11_odds_0 (z_t kX11_odds_1 (z_t kX11_odds_2 z_tn)))
theorem dX11_meet_0 : decode cX11_meet 0 = .ok (.aload_n 0, 1) := by decide +kernel
theorem dX11_meet_1 : decode cX11_meet 1 = .ok (.invokevirtual 97, 3) := by decide +kernel
theorem dX11_meet_4 : decode cX11_meet 4 = .ok (.istore_n 1, 1) := by decide +kernel
theorem dX11_meet_5 : decode cX11_meet 5 = .ok (.aload_n 0, 1) := by decide +kernel
theorem dX11_meet_6 : decode cX11_meet 6 = .ok (.getfield 69, 3) := by decide +kernel
theorem dX11_meet_9 : decode cX11_meet 9 = .ok (.aload_n 0, 1) := by decide +kernel
theorem dX11_meet_10 : decode cX11_meet 10 = .ok (.getfield 9, 3) := by decide +kernel
theorem dX11_meet_13 : decode cX11_meet 13 = .ok (.iload_n 1, 1) := by decide +kernel
theorem dX11_meet_14 : decode cX11_meet 14 = .ok (.invokevirtual 276, 3) := by decide +kernel
theorem dX11_meet_17 : decode cX11_meet 17 = .ok (.ifCond .eq 13, 3) := by decide +kernel
theorem dX11_meet_20 : decode cX11_meet 20 = .ok (.aload_n 0, 1) := by decide +kernel
theorem dX11_meet_21 : decode cX11_meet 21 = .ok (.getfield 69, 3) := by decide +kernel
theorem dX11_meet_24 : decode cX11_meet 24 = .ok (.getfield 170, 3) := by decide +kernel
theorem dX11_meet_27 : decode cX11_meet 27 = .ok (.goto 8, 3) := by decide +kernel
theorem dX11_meet_30 : decode cX11_meet 30 = .ok (.aload_n 0, 1) := by decide +kernel
theorem dX11_meet_31 : decode cX11_meet 31 = .ok (.iconst 5, 1) := by decide +kernel
theorem dX11_meet_32 : decode cX11_meet 32 = .ok (.invokevirtual 85, 3) := by decide +kernel
theorem dX11_meet_35 : decode cX11_meet 35 = .ok (.ireturn, 1) := by decide +kernel
noncomputable def tX11_meet_0 : List (Nat × zF) := [(0, (zla4 0 1)), (1, (zcv 147 0 11)), (4, (zsi4 2 1 1)), (5, (zla4 0 1)), (6, (zgf 11 11)), (9, (zla4 0 1)), (10, (zgf 11 0)), (13, (zli4 1 1)), (14, (zcv 40 2 3)), (17, (z_if_eq 30)), (20, (zla4 0 1)), (21, (zgf 11 11))]
theorem kX11_meet_0 : ∀ q ∈ tX11_meet_0, zOk zg iX11_meet q.1 q.2 := (z_c (ok_aload_n dX11_meet_0 rfl) (z_c (ok_callV zcal_147 (q := (RX11, TX11, 16)) rfl zw_533 zw_534 zw_535 dX11_meet_1) (z_c (ok_istore_n dX11_meet_4 rfl) (z_c (ok_aload_n dX11_meet_5 rfl) (z_c (ok_getf (C := RX11) (T := TX11) (N := 16) rfl (by decide) zinX11 rfl zw_519 dX11_meet_6) (z_c (ok_aload_n dX11_meet_9 rfl) (z_c (ok_getf (C := RX11) (T := TX11) (N := 16) rfl (by decide) zinX11 rfl zw_484 dX11_meet_10) (z_c (ok_iload_n dX11_meet_13 rfl) (z_c (ok_callV zcal_40 (q := (RX3, TX3, 13)) rfl zw_630 zw_631 zw_632 dX11_meet_14) (z_c (ok_if_eq dX11_meet_17 (by decide)) (z_c (ok_aload_n dX11_meet_20 rfl) (z_c (ok_getf (C := RX11) (T := TX11) (N := 16) rfl (by decide) zinX11 rfl zw_519 dX11_meet_21) z_n))))))))))))
noncomputable def tX11_meet_1 : List (Nat × zF) := [(24, (zgf 3 9)), (27, (zgt 35)), (30, (zla4 0 1)), (31, (zst 1 (zp (.int (5))))), (32, (zcv 144 1 11)), (35, (zri false))]
theorem kX11_meet_1 : ∀ q ∈ tX11_meet_1, zOk zg iX11_meet q.1 q.2 := (z_c (ok_getf (C := RX3) (T := TX3) (N := 13) rfl (by decide) zinX3 rfl zw_572 dX11_meet_24) (z_c (ok_goto dX11_meet_27 (by decide)) (z_c (ok_aload_n dX11_meet_30 rfl) (z_c (ok_iconst (v := (5)) dX11_meet_31 (by decide)) (z_c (ok_callV zcal_144 (q := (RX11, TX11, 16)) rfl zw_524 zw_525 zw_526 dX11_meet_32) (z_c (ok_ireturn rfl dX11_meet_35) z_n))))))
noncomputable def tX11_meet : zT := [(24, tX11_meet_0), (100000, tX11_meet_1)]
theorem kX11_meet : zTok zg iX11_meet tX11_meet := (z_t kX11_meet_0 (z_t kX11_meet_1 z_tn))
theorem dX11_hues_0 : decode cX11_hues 0 = .ok (.aload_n 0, 1) := by decide +kernel
theorem dX11_hues_1 : decode cX11_hues 1 = .ok (.iload_n 1, 1) := by decide +kernel
theorem dX11_hues_2 : decode cX11_hues 2 = .ok (.invokevirtual 174, 3) := by decide +kernel
theorem dX11_hues_5 : decode cX11_hues 5 = .ok (.ifCond .eq 18, 3) := by decide +kernel
theorem dX11_hues_8 : decode cX11_hues 8 = .ok (.aload_n 0, 1) := by decide +kernel
theorem dX11_hues_9 : decode cX11_hues 9 = .ok (.getfield 69, 3) := by decide +kernel
theorem dX11_hues_12 : decode cX11_hues 12 = .ok (.aload_n 0, 1) := by decide +kernel
theorem dX11_hues_13 : decode cX11_hues 13 = .ok (.getfield 39, 3) := by decide +kernel
theorem dX11_hues_16 : decode cX11_hues 16 = .ok (.iload_n 1, 1) := by decide +kernel
theorem dX11_hues_17 : decode cX11_hues 17 = .ok (.invokevirtual 280, 3) := by decide +kernel
theorem dX11_hues_20 : decode cX11_hues 20 = .ok (.goto 4, 3) := by decide +kernel
theorem dX11_hues_23 : decode cX11_hues 23 = .ok (.iconst (-1), 1) := by decide +kernel
theorem dX11_hues_24 : decode cX11_hues 24 = .ok (.ireturn, 1) := by decide +kernel
noncomputable def tX11_hues_0 : List (Nat × zF) := [(0, (zla4 0 1)), (1, (zli4 1 1)), (2, (zcv 149 1 11)), (5, (z_if_eq 23)), (8, (zla4 0 1)), (9, (zgf 11 11)), (12, (zla4 0 1)), (13, (zgf 11 7)), (16, (zli4 1 1)), (17, (zcv 41 2 3)), (20, (zgt 24)), (23, (zst 1 (zp (.int ((-1))))))]
theorem kX11_hues_0 : ∀ q ∈ tX11_hues_0, zOk zg iX11_hues q.1 q.2 := (z_c (ok_aload_n dX11_hues_0 rfl) (z_c (ok_iload_n dX11_hues_1 rfl) (z_c (ok_callV zcal_149 (q := (RX11, TX11, 16)) rfl zw_574 zw_575 zw_576 dX11_hues_2) (z_c (ok_if_eq dX11_hues_5 (by decide)) (z_c (ok_aload_n dX11_hues_8 rfl) (z_c (ok_getf (C := RX11) (T := TX11) (N := 16) rfl (by decide) zinX11 rfl zw_519 dX11_hues_9) (z_c (ok_aload_n dX11_hues_12 rfl) (z_c (ok_getf (C := RX11) (T := TX11) (N := 16) rfl (by decide) zinX11 rfl zw_499 dX11_hues_13) (z_c (ok_iload_n dX11_hues_16 rfl) (z_c (ok_callV zcal_41 (q := (RX3, TX3, 13)) rfl zw_633 zw_634 zw_635 dX11_hues_17) (z_c (ok_goto dX11_hues_20 (by decide)) (z_c (ok_iconst (v := (-1)) dX11_hues_23 (by decide)) z_n))))))))))))
noncomputable def tX11_hues_1 : List (Nat × zF) := [(24, (zri false))]
theorem kX11_hues_1 : ∀ q ∈ tX11_hues_1, zOk zg iX11_hues q.1 q.2 := (z_c (ok_ireturn rfl dX11_hues_24) z_n)
noncomputable def tX11_hues : zT := [(24, tX11_hues_0), (100000, tX11_hues_1)]
theorem kX11_hues : zTok zg iX11_hues tX11_hues := (z_t kX11_hues_0 (z_t kX11_hues_1 z_tn))
theorem dX11_tells_0 : decode cX11_tells 0 = .ok (.aload_n 0, 1) := by decide +kernel
theorem dX11_tells_1 : decode cX11_tells 1 = .ok (.iload_n 1, 1) := by decide +kernel
theorem dX11_tells_2 : decode cX11_tells 2 = .ok (.invokevirtual 174, 3) := by decide +kernel
theorem dX11_tells_5 : decode cX11_tells 5 = .ok (.ifCond .eq 12, 3) := by decide +kernel
theorem dX11_tells_8 : decode cX11_tells 8 = .ok (.iload_n 2, 1) := by decide +kernel
theorem dX11_tells_9 : decode cX11_tells 9 = .ok (.ifCond .lt 8, 3) := by decide +kernel
theorem dX11_tells_12 : decode cX11_tells 12 = .ok (.iload_n 2, 1) := by decide +kernel
theorem dX11_tells_13 : decode cX11_tells 13 = .ok (.iconst 2, 1) := by decide +kernel
theorem dX11_tells_14 : decode cX11_tells 14 = .ok (.if_icmp .le 5, 3) := by decide +kernel
theorem dX11_tells_17 : decode cX11_tells 17 = .ok (.iconst (-1), 1) := by decide +kernel
theorem dX11_tells_18 : decode cX11_tells 18 = .ok (.ireturn, 1) := by decide +kernel
theorem dX11_tells_19 : decode cX11_tells 19 = .ok (.aload_n 0, 1) := by decide +kernel
theorem dX11_tells_20 : decode cX11_tells 20 = .ok (.getfield 69, 3) := by decide +kernel
theorem dX11_tells_23 : decode cX11_tells 23 = .ok (.aload_n 0, 1) := by decide +kernel
theorem dX11_tells_24 : decode cX11_tells 24 = .ok (.getfield 39, 3) := by decide +kernel
theorem dX11_tells_27 : decode cX11_tells 27 = .ok (.iload_n 1, 1) := by decide +kernel
theorem dX11_tells_28 : decode cX11_tells 28 = .ok (.aload_n 0, 1) := by decide +kernel
theorem dX11_tells_29 : decode cX11_tells 29 = .ok (.getfield 69, 3) := by decide +kernel
theorem dX11_tells_32 : decode cX11_tells 32 = .ok (.aload_n 0, 1) := by decide +kernel
theorem dX11_tells_33 : decode cX11_tells 33 = .ok (.getfield 39, 3) := by decide +kernel
theorem dX11_tells_36 : decode cX11_tells 36 = .ok (.iload_n 1, 1) := by decide +kernel
theorem dX11_tells_37 : decode cX11_tells 37 = .ok (.invokevirtual 280, 3) := by decide +kernel
theorem dX11_tells_40 : decode cX11_tells 40 = .ok (.invokevirtual 283, 3) := by decide +kernel
theorem dX11_tells_43 : decode cX11_tells 43 = .ok (.iload_n 2, 1) := by decide +kernel
theorem dX11_tells_44 : decode cX11_tells 44 = .ok (.ifCond .ne 11, 3) := by decide +kernel
theorem dX11_tells_47 : decode cX11_tells 47 = .ok (.aload_n 0, 1) := by decide +kernel
theorem dX11_tells_48 : decode cX11_tells 48 = .ok (.getfield 69, 3) := by decide +kernel
theorem dX11_tells_51 : decode cX11_tells 51 = .ok (.getfield 287, 3) := by decide +kernel
theorem dX11_tells_54 : decode cX11_tells 54 = .ok (.ireturn, 1) := by decide +kernel
theorem dX11_tells_55 : decode cX11_tells 55 = .ok (.iload_n 2, 1) := by decide +kernel
theorem dX11_tells_56 : decode cX11_tells 56 = .ok (.iconst 1, 1) := by decide +kernel
theorem dX11_tells_57 : decode cX11_tells 57 = .ok (.if_icmp .ne 13, 3) := by decide +kernel
theorem dX11_tells_60 : decode cX11_tells 60 = .ok (.aload_n 0, 1) := by decide +kernel
theorem dX11_tells_61 : decode cX11_tells 61 = .ok (.getfield 69, 3) := by decide +kernel
theorem dX11_tells_64 : decode cX11_tells 64 = .ok (.getfield 290, 3) := by decide +kernel
theorem dX11_tells_67 : decode cX11_tells 67 = .ok (.goto 10, 3) := by decide +kernel
theorem dX11_tells_70 : decode cX11_tells 70 = .ok (.aload_n 0, 1) := by decide +kernel
theorem dX11_tells_71 : decode cX11_tells 71 = .ok (.getfield 69, 3) := by decide +kernel
theorem dX11_tells_74 : decode cX11_tells 74 = .ok (.getfield 293, 3) := by decide +kernel
theorem dX11_tells_77 : decode cX11_tells 77 = .ok (.ireturn, 1) := by decide +kernel
noncomputable def tX11_tells_0 : List (Nat × zF) := [(0, (zla4 0 1)), (1, (zli4 1 1)), (2, (zcv 149 1 11)), (5, (z_if_eq 17)), (8, (zli4 2 1)), (9, (z_if_lt 17)), (12, (zli4 2 1)), (13, (zst 1 (zp (.int (2))))), (14, (z_ic_le 19)), (17, (zst 1 (zp (.int ((-1)))))), (18, (zri false)), (19, (zla4 0 1))]
theorem kX11_tells_0 : ∀ q ∈ tX11_tells_0, zOk zg iX11_tells q.1 q.2 := (z_c (ok_aload_n dX11_tells_0 rfl) (z_c (ok_iload_n dX11_tells_1 rfl) (z_c (ok_callV zcal_149 (q := (RX11, TX11, 16)) rfl zw_574 zw_575 zw_576 dX11_tells_2) (z_c (ok_if_eq dX11_tells_5 (by decide)) (z_c (ok_iload_n dX11_tells_8 rfl) (z_c (ok_if_lt dX11_tells_9 (by decide)) (z_c (ok_iload_n dX11_tells_12 rfl) (z_c (ok_iconst (v := (2)) dX11_tells_13 (by decide)) (z_c (ok_icmp_le dX11_tells_14 (by decide)) (z_c (ok_iconst (v := (-1)) dX11_tells_17 (by decide)) (z_c (ok_ireturn rfl dX11_tells_18) (z_c (ok_aload_n dX11_tells_19 rfl) z_n))))))))))))
noncomputable def tX11_tells_1 : List (Nat × zF) := [(20, (zgf 11 11)), (23, (zla4 0 1)), (24, (zgf 11 7)), (27, (zli4 1 1)), (28, (zla4 0 1)), (29, (zgf 11 11)), (32, (zla4 0 1)), (33, (zgf 11 7)), (36, (zli4 1 1)), (37, (zcv 41 2 3)), (40, (zcv 44 3 3)), (43, (zli4 2 1))]
theorem kX11_tells_1 : ∀ q ∈ tX11_tells_1, zOk zg iX11_tells q.1 q.2 := (z_c (ok_getf (C := RX11) (T := TX11) (N := 16) rfl (by decide) zinX11 rfl zw_519 dX11_tells_20) (z_c (ok_aload_n dX11_tells_23 rfl) (z_c (ok_getf (C := RX11) (T := TX11) (N := 16) rfl (by decide) zinX11 rfl zw_499 dX11_tells_24) (z_c (ok_iload_n dX11_tells_27 rfl) (z_c (ok_aload_n dX11_tells_28 rfl) (z_c (ok_getf (C := RX11) (T := TX11) (N := 16) rfl (by decide) zinX11 rfl zw_519 dX11_tells_29) (z_c (ok_aload_n dX11_tells_32 rfl) (z_c (ok_getf (C := RX11) (T := TX11) (N := 16) rfl (by decide) zinX11 rfl zw_499 dX11_tells_33) (z_c (ok_iload_n dX11_tells_36 rfl) (z_c (ok_callV zcal_41 (q := (RX3, TX3, 13)) rfl zw_633 zw_634 zw_635 dX11_tells_37) (z_c (ok_callV zcal_44 (q := (RX3, TX3, 13)) rfl zw_636 zw_637 zw_638 dX11_tells_40) (z_c (ok_iload_n dX11_tells_43 rfl) z_n))))))))))))
noncomputable def tX11_tells_2 : List (Nat × zF) := [(44, (z_if_ne 55)), (47, (zla4 0 1)), (48, (zgf 11 11)), (51, (zgf 3 10)), (54, (zri false)), (55, (zli4 2 1)), (56, (zst 1 (zp (.int (1))))), (57, (z_ic_ne 70)), (60, (zla4 0 1)), (61, (zgf 11 11)), (64, (zgf 3 11)), (67, (zgt 77))]
theorem kX11_tells_2 : ∀ q ∈ tX11_tells_2, zOk zg iX11_tells q.1 q.2 := (z_c (ok_if_ne dX11_tells_44 (by decide)) (z_c (ok_aload_n dX11_tells_47 rfl) (z_c (ok_getf (C := RX11) (T := TX11) (N := 16) rfl (by decide) zinX11 rfl zw_519 dX11_tells_48) (z_c (ok_getf (C := RX3) (T := TX3) (N := 13) rfl (by decide) zinX3 rfl zw_639 dX11_tells_51) (z_c (ok_ireturn rfl dX11_tells_54) (z_c (ok_iload_n dX11_tells_55 rfl) (z_c (ok_iconst (v := (1)) dX11_tells_56 (by decide)) (z_c (ok_icmp_ne dX11_tells_57 (by decide)) (z_c (ok_aload_n dX11_tells_60 rfl) (z_c (ok_getf (C := RX11) (T := TX11) (N := 16) rfl (by decide) zinX11 rfl zw_519 dX11_tells_61) (z_c (ok_getf (C := RX3) (T := TX3) (N := 13) rfl (by decide) zinX3 rfl zw_640 dX11_tells_64) (z_c (ok_goto dX11_tells_67 (by decide)) z_n))))))))))))
noncomputable def tX11_tells_3 : List (Nat × zF) := [(70, (zla4 0 1)), (71, (zgf 11 11)), (74, (zgf 3 12)), (77, (zri false))]
theorem kX11_tells_3 : ∀ q ∈ tX11_tells_3, zOk zg iX11_tells q.1 q.2 := (z_c (ok_aload_n dX11_tells_70 rfl) (z_c (ok_getf (C := RX11) (T := TX11) (N := 16) rfl (by decide) zinX11 rfl zw_519 dX11_tells_71) (z_c (ok_getf (C := RX3) (T := TX3) (N := 13) rfl (by decide) zinX3 rfl zw_641 dX11_tells_74) (z_c (ok_ireturn rfl dX11_tells_77) z_n))))
noncomputable def tX11_tells : zT := [(20, tX11_tells_0), (44, tX11_tells_1), (70, tX11_tells_2), (100000, tX11_tells_3)]
theorem kX11_tells : zTok zg iX11_tells tX11_tells := (z_t kX11_tells_0 (z_t kX11_tells_1 (z_t kX11_tells_2 (z_t kX11_tells_3 z_tn))))
theorem dX11_nights_0 : decode cX11_nights 0 = .ok (.iload_n 1, 1) := by decide +kernel
theorem dX11_nights_1 : decode cX11_nights 1 = .ok (.iconst 1, 1) := by decide +kernel
theorem dX11_nights_2 : decode cX11_nights 2 = .ok (.if_icmp .lt 13, 3) := by decide +kernel
theorem dX11_nights_5 : decode cX11_nights 5 = .ok (.aload_n 0, 1) := by decide +kernel
theorem dX11_nights_6 : decode cX11_nights 6 = .ok (.iload_n 1, 1) := by decide +kernel
theorem dX11_nights_7 : decode cX11_nights 7 = .ok (.bipush 40, 2) := by decide +kernel
theorem dX11_nights_9 : decode cX11_nights 9 = .ok (.invokevirtual 240, 3) := by decide +kernel
theorem dX11_nights_12 : decode cX11_nights 12 = .ok (.ifCond .ne 9, 3) := by decide +kernel
theorem dX11_nights_15 : decode cX11_nights 15 = .ok (.aload_n 0, 1) := by decide +kernel
theorem dX11_nights_16 : decode cX11_nights 16 = .ok (.iconst 2, 1) := by decide +kernel
theorem dX11_nights_17 : decode cX11_nights 17 = .ok (.invokevirtual 85, 3) := by decide +kernel
theorem dX11_nights_20 : decode cX11_nights 20 = .ok (.ireturn, 1) := by decide +kernel
theorem dX11_nights_21 : decode cX11_nights 21 = .ok (.aload_n 0, 1) := by decide +kernel
theorem dX11_nights_22 : decode cX11_nights 22 = .ok (.getfield 53, 3) := by decide +kernel
theorem dX11_nights_25 : decode cX11_nights 25 = .ok (.aload_n 0, 1) := by decide +kernel
theorem dX11_nights_26 : decode cX11_nights 26 = .ok (.getfield 39, 3) := by decide +kernel
theorem dX11_nights_29 : decode cX11_nights 29 = .ok (.aload_n 0, 1) := by decide +kernel
theorem dX11_nights_30 : decode cX11_nights 30 = .ok (.getfield 46, 3) := by decide +kernel
theorem dX11_nights_33 : decode cX11_nights 33 = .ok (.invokevirtual 296, 3) := by decide +kernel
theorem dX11_nights_36 : decode cX11_nights 36 = .ok (.iconst 0, 1) := by decide +kernel
theorem dX11_nights_37 : decode cX11_nights 37 = .ok (.istore_n 2, 1) := by decide +kernel
theorem dX11_nights_38 : decode cX11_nights 38 = .ok (.iconst 0, 1) := by decide +kernel
theorem dX11_nights_39 : decode cX11_nights 39 = .ok (.istore_n 3, 1) := by decide +kernel
theorem dX11_nights_40 : decode cX11_nights 40 = .ok (.iload_n 3, 1) := by decide +kernel
theorem dX11_nights_41 : decode cX11_nights 41 = .ok (.iload_n 1, 1) := by decide +kernel
theorem dX11_nights_42 : decode cX11_nights 42 = .ok (.if_icmp .ge 17, 3) := by decide +kernel
theorem dX11_nights_45 : decode cX11_nights 45 = .ok (.iload_n 2, 1) := by decide +kernel
theorem dX11_nights_46 : decode cX11_nights 46 = .ok (.aload_n 0, 1) := by decide +kernel
theorem dX11_nights_47 : decode cX11_nights 47 = .ok (.iconst (-1), 1) := by decide +kernel
theorem dX11_nights_48 : decode cX11_nights 48 = .ok (.invokevirtual 300, 3) := by decide +kernel
theorem dX11_nights_51 : decode cX11_nights 51 = .ok (.iadd, 1) := by decide +kernel
theorem dX11_nights_52 : decode cX11_nights 52 = .ok (.istore_n 2, 1) := by decide +kernel
theorem dX11_nights_53 : decode cX11_nights 53 = .ok (.iinc 3 1, 3) := by decide +kernel
theorem dX11_nights_56 : decode cX11_nights 56 = .ok (.goto (-16), 3) := by decide +kernel
theorem dX11_nights_59 : decode cX11_nights 59 = .ok (.iload_n 2, 1) := by decide +kernel
theorem dX11_nights_60 : decode cX11_nights 60 = .ok (.ireturn, 1) := by decide +kernel
noncomputable def tX11_nights_0 : List (Nat × zF) := [(0, (zli4 1 1)), (1, (zst 1 (zp (.int (1))))), (2, (z_ic_lt 15)), (5, (zla4 0 1)), (6, (zli4 1 1)), (7, (zst 2 (zp (.int (40))))), (9, (zcv 151 2 11)), (12, (z_if_ne 21)), (15, (zla4 0 1)), (16, (zst 1 (zp (.int (2))))), (17, (zcv 144 1 11)), (20, (zri false))]
theorem kX11_nights_0 : ∀ q ∈ tX11_nights_0, zOk zg iX11_nights q.1 q.2 := (z_c (ok_iload_n dX11_nights_0 rfl) (z_c (ok_iconst (v := (1)) dX11_nights_1 (by decide)) (z_c (ok_icmp_lt dX11_nights_2 (by decide)) (z_c (ok_aload_n dX11_nights_5 rfl) (z_c (ok_iload_n dX11_nights_6 rfl) (z_c (ok_bipush (v := (40)) dX11_nights_7 (by decide)) (z_c (ok_callV zcal_151 (q := (RX11, TX11, 16)) rfl zw_603 zw_604 zw_605 dX11_nights_9) (z_c (ok_if_ne dX11_nights_12 (by decide)) (z_c (ok_aload_n dX11_nights_15 rfl) (z_c (ok_iconst (v := (2)) dX11_nights_16 (by decide)) (z_c (ok_callV zcal_144 (q := (RX11, TX11, 16)) rfl zw_524 zw_525 zw_526 dX11_nights_17) (z_c (ok_ireturn rfl dX11_nights_20) z_n))))))))))))
noncomputable def tX11_nights_1 : List (Nat × zF) := [(21, (zla4 0 1)), (22, (zgf 11 9)), (25, (zla4 0 1)), (26, (zgf 11 7)), (29, (zla4 0 1)), (30, (zgf 11 8)), (33, (zcv 23 2 2)), (36, (zst 1 (zp (.int (0))))), (37, (zsi4 4 2 1)), (38, (zst 1 (zp (.int (0))))), (39, (zsi4 4 3 1)), (40, (zli4 3 1))]
theorem kX11_nights_1 : ∀ q ∈ tX11_nights_1, zOk zg iX11_nights q.1 q.2 := (z_c (ok_aload_n dX11_nights_21 rfl) (z_c (ok_getf (C := RX11) (T := TX11) (N := 16) rfl (by decide) zinX11 rfl zw_507 dX11_nights_22) (z_c (ok_aload_n dX11_nights_25 rfl) (z_c (ok_getf (C := RX11) (T := TX11) (N := 16) rfl (by decide) zinX11 rfl zw_499 dX11_nights_26) (z_c (ok_aload_n dX11_nights_29 rfl) (z_c (ok_getf (C := RX11) (T := TX11) (N := 16) rfl (by decide) zinX11 rfl zw_501 dX11_nights_30) (z_c (ok_callV zcal_23 (q := (RX2, TX2, 4)) rfl zw_642 zw_643 zw_644 dX11_nights_33) (z_c (ok_iconst (v := (0)) dX11_nights_36 (by decide)) (z_c (ok_istore_n dX11_nights_37 rfl) (z_c (ok_iconst (v := (0)) dX11_nights_38 (by decide)) (z_c (ok_istore_n dX11_nights_39 rfl) (z_c (ok_iload_n dX11_nights_40 rfl) z_n))))))))))))
noncomputable def tX11_nights_2 : List (Nat × zF) := [(41, (zli4 1 1)), (42, (z_ic_ge 59)), (45, (zli4 2 1)), (46, (zla4 0 1)), (47, (zst 1 (zp (.int ((-1)))))), (48, (zcv 153 1 11)), (51, (zst 1 z_iadd)), (52, (zsi4 4 2 1)), (53, (zin4 4 3 (1))), (56, (zgt 40)), (59, (zli4 2 1)), (60, (zri false))]
theorem kX11_nights_2 : ∀ q ∈ tX11_nights_2, zOk zg iX11_nights q.1 q.2 := (z_c (ok_iload_n dX11_nights_41 rfl) (z_c (ok_icmp_ge dX11_nights_42 (by decide)) (z_c (ok_iload_n dX11_nights_45 rfl) (z_c (ok_aload_n dX11_nights_46 rfl) (z_c (ok_iconst (v := (-1)) dX11_nights_47 (by decide)) (z_c (ok_callV zcal_153 (q := (RX11, TX11, 16)) rfl zw_645 zw_646 zw_647 dX11_nights_48) (z_c (ok_iadd dX11_nights_51) (z_c (ok_istore_n dX11_nights_52 rfl) (z_c (ok_iinc (v := (1)) dX11_nights_53 (by decide)) (z_c (ok_goto dX11_nights_56 (by decide)) (z_c (ok_iload_n dX11_nights_59 rfl) (z_c (ok_ireturn rfl dX11_nights_60) z_n))))))))))))
noncomputable def tX11_nights : zT := [(21, tX11_nights_0), (41, tX11_nights_1), (100000, tX11_nights_2)]
theorem kX11_nights : zTok zg iX11_nights tX11_nights := (z_t kX11_nights_0 (z_t kX11_nights_1 (z_t kX11_nights_2 z_tn)))
theorem dX11_chance_0 : decode cX11_chance 0 = .ok (.iload_n 1, 1) := by decide +kernel
theorem dX11_chance_1 : decode cX11_chance 1 = .ok (.iconst 1, 1) := by decide +kernel
theorem dX11_chance_2 : decode cX11_chance 2 = .ok (.if_icmp .lt 13, 3) := by decide +kernel
theorem dX11_chance_5 : decode cX11_chance 5 = .ok (.aload_n 0, 1) := by decide +kernel
theorem dX11_chance_6 : decode cX11_chance 6 = .ok (.iload_n 1, 1) := by decide +kernel
theorem dX11_chance_7 : decode cX11_chance 7 = .ok (.bipush 40, 2) := by decide +kernel
theorem dX11_chance_9 : decode cX11_chance 9 = .ok (.invokevirtual 240, 3) := by decide +kernel
theorem dX11_chance_12 : decode cX11_chance 12 = .ok (.ifCond .ne 9, 3) := by decide +kernel
theorem dX11_chance_15 : decode cX11_chance 15 = .ok (.aload_n 0, 1) := by decide +kernel
theorem dX11_chance_16 : decode cX11_chance 16 = .ok (.iconst 2, 1) := by decide +kernel
theorem dX11_chance_17 : decode cX11_chance 17 = .ok (.invokevirtual 85, 3) := by decide +kernel
theorem dX11_chance_20 : decode cX11_chance 20 = .ok (.ireturn, 1) := by decide +kernel
theorem dX11_chance_21 : decode cX11_chance 21 = .ok (.aload_n 0, 1) := by decide +kernel
theorem dX11_chance_22 : decode cX11_chance 22 = .ok (.getfield 53, 3) := by decide +kernel
theorem dX11_chance_25 : decode cX11_chance 25 = .ok (.aload_n 0, 1) := by decide +kernel
theorem dX11_chance_26 : decode cX11_chance 26 = .ok (.getfield 39, 3) := by decide +kernel
theorem dX11_chance_29 : decode cX11_chance 29 = .ok (.aload_n 0, 1) := by decide +kernel
theorem dX11_chance_30 : decode cX11_chance 30 = .ok (.getfield 46, 3) := by decide +kernel
theorem dX11_chance_33 : decode cX11_chance 33 = .ok (.invokevirtual 296, 3) := by decide +kernel
theorem dX11_chance_36 : decode cX11_chance 36 = .ok (.iconst 0, 1) := by decide +kernel
theorem dX11_chance_37 : decode cX11_chance 37 = .ok (.istore_n 2, 1) := by decide +kernel
theorem dX11_chance_38 : decode cX11_chance 38 = .ok (.iconst 0, 1) := by decide +kernel
theorem dX11_chance_39 : decode cX11_chance 39 = .ok (.istore_n 3, 1) := by decide +kernel
theorem dX11_chance_40 : decode cX11_chance 40 = .ok (.iload_n 3, 1) := by decide +kernel
theorem dX11_chance_41 : decode cX11_chance 41 = .ok (.iload_n 1, 1) := by decide +kernel
theorem dX11_chance_42 : decode cX11_chance 42 = .ok (.if_icmp .ge 31, 3) := by decide +kernel
theorem dX11_chance_45 : decode cX11_chance 45 = .ok (.aload_n 0, 1) := by decide +kernel
theorem dX11_chance_46 : decode cX11_chance 46 = .ok (.invokevirtual 303, 3) := by decide +kernel
theorem dX11_chance_49 : decode cX11_chance 49 = .ok (.istore 4, 2) := by decide +kernel
theorem dX11_chance_51 : decode cX11_chance 51 = .ok (.iload 4, 2) := by decide +kernel
theorem dX11_chance_53 : decode cX11_chance 53 = .ok (.iconst (-1), 1) := by decide +kernel
theorem dX11_chance_54 : decode cX11_chance 54 = .ok (.if_icmp .eq 6, 3) := by decide +kernel
theorem dX11_chance_57 : decode cX11_chance 57 = .ok (.iinc 2 1, 3) := by decide +kernel
theorem dX11_chance_60 : decode cX11_chance 60 = .ok (.aload_n 0, 1) := by decide +kernel
theorem dX11_chance_61 : decode cX11_chance 61 = .ok (.iload 4, 2) := by decide +kernel
theorem dX11_chance_63 : decode cX11_chance 63 = .ok (.invokevirtual 300, 3) := by decide +kernel
theorem dX11_chance_66 : decode cX11_chance 66 = .ok (.pop, 1) := by decide +kernel
theorem dX11_chance_67 : decode cX11_chance 67 = .ok (.iinc 3 1, 3) := by decide +kernel
theorem dX11_chance_70 : decode cX11_chance 70 = .ok (.goto (-30), 3) := by decide +kernel
theorem dX11_chance_73 : decode cX11_chance 73 = .ok (.iload_n 2, 1) := by decide +kernel
theorem dX11_chance_74 : decode cX11_chance 74 = .ok (.ireturn, 1) := by decide +kernel
noncomputable def tX11_chance_0 : List (Nat × zF) := [(0, (zli4 1 1)), (1, (zst 1 (zp (.int (1))))), (2, (z_ic_lt 15)), (5, (zla4 0 1)), (6, (zli4 1 1)), (7, (zst 2 (zp (.int (40))))), (9, (zcv 151 2 11)), (12, (z_if_ne 21)), (15, (zla4 0 1)), (16, (zst 1 (zp (.int (2))))), (17, (zcv 144 1 11)), (20, (zri false))]
theorem kX11_chance_0 : ∀ q ∈ tX11_chance_0, zOk zg iX11_chance q.1 q.2 := (z_c (ok_iload_n dX11_chance_0 rfl) (z_c (ok_iconst (v := (1)) dX11_chance_1 (by decide)) (z_c (ok_icmp_lt dX11_chance_2 (by decide)) (z_c (ok_aload_n dX11_chance_5 rfl) (z_c (ok_iload_n dX11_chance_6 rfl) (z_c (ok_bipush (v := (40)) dX11_chance_7 (by decide)) (z_c (ok_callV zcal_151 (q := (RX11, TX11, 16)) rfl zw_603 zw_604 zw_605 dX11_chance_9) (z_c (ok_if_ne dX11_chance_12 (by decide)) (z_c (ok_aload_n dX11_chance_15 rfl) (z_c (ok_iconst (v := (2)) dX11_chance_16 (by decide)) (z_c (ok_callV zcal_144 (q := (RX11, TX11, 16)) rfl zw_524 zw_525 zw_526 dX11_chance_17) (z_c (ok_ireturn rfl dX11_chance_20) z_n))))))))))))
noncomputable def tX11_chance_1 : List (Nat × zF) := [(21, (zla4 0 1)), (22, (zgf 11 9)), (25, (zla4 0 1)), (26, (zgf 11 7)), (29, (zla4 0 1)), (30, (zgf 11 8)), (33, (zcv 23 2 2)), (36, (zst 1 (zp (.int (0))))), (37, (zsi4 5 2 1)), (38, (zst 1 (zp (.int (0))))), (39, (zsi4 5 3 1)), (40, (zli4 3 1))]
theorem kX11_chance_1 : ∀ q ∈ tX11_chance_1, zOk zg iX11_chance q.1 q.2 := (z_c (ok_aload_n dX11_chance_21 rfl) (z_c (ok_getf (C := RX11) (T := TX11) (N := 16) rfl (by decide) zinX11 rfl zw_507 dX11_chance_22) (z_c (ok_aload_n dX11_chance_25 rfl) (z_c (ok_getf (C := RX11) (T := TX11) (N := 16) rfl (by decide) zinX11 rfl zw_499 dX11_chance_26) (z_c (ok_aload_n dX11_chance_29 rfl) (z_c (ok_getf (C := RX11) (T := TX11) (N := 16) rfl (by decide) zinX11 rfl zw_501 dX11_chance_30) (z_c (ok_callV zcal_23 (q := (RX2, TX2, 4)) rfl zw_642 zw_643 zw_644 dX11_chance_33) (z_c (ok_iconst (v := (0)) dX11_chance_36 (by decide)) (z_c (ok_istore_n dX11_chance_37 rfl) (z_c (ok_iconst (v := (0)) dX11_chance_38 (by decide)) (z_c (ok_istore_n dX11_chance_39 rfl) (z_c (ok_iload_n dX11_chance_40 rfl) z_n))))))))))))
noncomputable def tX11_chance_2 : List (Nat × zF) := [(41, (zli4 1 1)), (42, (z_ic_ge 73)), (45, (zla4 0 1)), (46, (zcv 154 0 11)), (49, (zsi4 5 4 2)), (51, (zli4 4 2)), (53, (zst 1 (zp (.int ((-1)))))), (54, (z_ic_eq 60)), (57, (zin4 5 2 (1))), (60, (zla4 0 1)), (61, (zli4 4 2)), (63, (zcv 153 1 11))]
theorem kX11_chance_2 : ∀ q ∈ tX11_chance_2, zOk zg iX11_chance q.1 q.2 := (z_c (ok_iload_n dX11_chance_41 rfl) (z_c (ok_icmp_ge dX11_chance_42 (by decide)) (z_c (ok_aload_n dX11_chance_45 rfl) (z_c (ok_callV zcal_154 (q := (RX11, TX11, 16)) rfl zw_648 zw_649 zw_650 dX11_chance_46) (z_c (ok_istore dX11_chance_49) (z_c (ok_iload dX11_chance_51) (z_c (ok_iconst (v := (-1)) dX11_chance_53 (by decide)) (z_c (ok_icmp_eq dX11_chance_54 (by decide)) (z_c (ok_iinc (v := (1)) dX11_chance_57 (by decide)) (z_c (ok_aload_n dX11_chance_60 rfl) (z_c (ok_iload dX11_chance_61) (z_c (ok_callV zcal_153 (q := (RX11, TX11, 16)) rfl zw_645 zw_646 zw_647 dX11_chance_63) z_n))))))))))))
noncomputable def tX11_chance_3 : List (Nat × zF) := [(66, (zst 1 zpo)), (67, (zin4 5 3 (1))), (70, (zgt 40)), (73, (zli4 2 1)), (74, (zri false))]
theorem kX11_chance_3 : ∀ q ∈ tX11_chance_3, zOk zg iX11_chance q.1 q.2 := (z_c (ok_pop dX11_chance_66) (z_c (ok_iinc (v := (1)) dX11_chance_67 (by decide)) (z_c (ok_goto dX11_chance_70 (by decide)) (z_c (ok_iload_n dX11_chance_73 rfl) (z_c (ok_ireturn rfl dX11_chance_74) z_n)))))
noncomputable def tX11_chance : zT := [(21, tX11_chance_0), (41, tX11_chance_1), (66, tX11_chance_2), (100000, tX11_chance_3)]
theorem kX11_chance : zTok zg iX11_chance tX11_chance := (z_t kX11_chance_0 (z_t kX11_chance_1 (z_t kX11_chance_2 (z_t kX11_chance_3 z_tn))))
theorem dX11_lose_0 : decode cX11_lose 0 = .ok (.aload_n 0, 1) := by decide +kernel
theorem dX11_lose_1 : decode cX11_lose 1 = .ok (.iload_n 1, 1) := by decide +kernel
theorem dX11_lose_2 : decode cX11_lose 2 = .ok (.invokevirtual 174, 3) := by decide +kernel
theorem dX11_lose_5 : decode cX11_lose 5 = .ok (.ifCond .eq 14, 3) := by decide +kernel
theorem dX11_lose_8 : decode cX11_lose 8 = .ok (.aload_n 0, 1) := by decide +kernel
theorem dX11_lose_9 : decode cX11_lose 9 = .ok (.getfield 39, 3) := by decide +kernel
theorem dX11_lose_12 : decode cX11_lose 12 = .ok (.iload_n 1, 1) := by decide +kernel
theorem dX11_lose_13 : decode cX11_lose 13 = .ok (.invokevirtual 220, 3) := by decide +kernel
theorem dX11_lose_16 : decode cX11_lose 16 = .ok (.ifCond .eq 9, 3) := by decide +kernel
theorem dX11_lose_19 : decode cX11_lose 19 = .ok (.aload_n 0, 1) := by decide +kernel
theorem dX11_lose_20 : decode cX11_lose 20 = .ok (.iconst 3, 1) := by decide +kernel
theorem dX11_lose_21 : decode cX11_lose 21 = .ok (.invokevirtual 93, 3) := by decide +kernel
theorem dX11_lose_24 : decode cX11_lose 24 = .ok (.ireturn, 1) := by decide +kernel
theorem dX11_lose_25 : decode cX11_lose 25 = .ok (.aload_n 0, 1) := by decide +kernel
theorem dX11_lose_26 : decode cX11_lose 26 = .ok (.iload_n 1, 1) := by decide +kernel
theorem dX11_lose_27 : decode cX11_lose 27 = .ok (.invokevirtual 306, 3) := by decide +kernel
theorem dX11_lose_30 : decode cX11_lose 30 = .ok (.iconst 1, 1) := by decide +kernel
theorem dX11_lose_31 : decode cX11_lose 31 = .ok (.ireturn, 1) := by decide +kernel
noncomputable def tX11_lose_0 : List (Nat × zF) := [(0, (zla4 0 1)), (1, (zli4 1 1)), (2, (zcv 149 1 11)), (5, (z_if_eq 19)), (8, (zla4 0 1)), (9, (zgf 11 7)), (12, (zli4 1 1)), (13, (zcv 81 1 8)), (16, (z_if_eq 25)), (19, (zla4 0 1)), (20, (zst 1 (zp (.int (3))))), (21, (zcv 145 1 11))]
theorem kX11_lose_0 : ∀ q ∈ tX11_lose_0, zOk zg iX11_lose q.1 q.2 := (z_c (ok_aload_n dX11_lose_0 rfl) (z_c (ok_iload_n dX11_lose_1 rfl) (z_c (ok_callV zcal_149 (q := (RX11, TX11, 16)) rfl zw_574 zw_575 zw_576 dX11_lose_2) (z_c (ok_if_eq dX11_lose_5 (by decide)) (z_c (ok_aload_n dX11_lose_8 rfl) (z_c (ok_getf (C := RX11) (T := TX11) (N := 16) rfl (by decide) zinX11 rfl zw_499 dX11_lose_9) (z_c (ok_iload_n dX11_lose_12 rfl) (z_c (ok_callV zcal_81 (q := (RX8, TX8, 6)) rfl zw_597 zw_25 zw_26 dX11_lose_13) (z_c (ok_if_eq dX11_lose_16 (by decide)) (z_c (ok_aload_n dX11_lose_19 rfl) (z_c (ok_iconst (v := (3)) dX11_lose_20 (by decide)) (z_c (ok_callV zcal_145 (q := (RX11, TX11, 16)) rfl zw_530 zw_531 zw_532 dX11_lose_21) z_n))))))))))))
noncomputable def tX11_lose_1 : List (Nat × zF) := [(24, (zri true)), (25, (zla4 0 1)), (26, (zli4 1 1)), (27, (zcv 152 1 11)), (30, (zst 1 (zp (.int (1))))), (31, (zri true))]
theorem kX11_lose_1 : ∀ q ∈ tX11_lose_1, zOk zg iX11_lose q.1 q.2 := (z_c (ok_zreturn rfl dX11_lose_24) (z_c (ok_aload_n dX11_lose_25 rfl) (z_c (ok_iload_n dX11_lose_26 rfl) (z_c (ok_callV zcal_152 (q := (RX11, TX11, 16)) rfl zw_651 zw_652 zw_653 dX11_lose_27) (z_c (ok_iconst (v := (1)) dX11_lose_30 (by decide)) (z_c (ok_zreturn rfl dX11_lose_31) z_n))))))
noncomputable def tX11_lose : zT := [(24, tX11_lose_0), (100000, tX11_lose_1)]
theorem kX11_lose : zTok zg iX11_lose tX11_lose := (z_t kX11_lose_0 (z_t kX11_lose_1 z_tn))
theorem dX11_find_0 : decode cX11_find 0 = .ok (.aload_n 0, 1) := by decide +kernel
theorem dX11_find_1 : decode cX11_find 1 = .ok (.iload_n 1, 1) := by decide +kernel
theorem dX11_find_2 : decode cX11_find 2 = .ok (.invokevirtual 174, 3) := by decide +kernel
theorem dX11_find_5 : decode cX11_find 5 = .ok (.ifCond .eq 14, 3) := by decide +kernel
theorem dX11_find_8 : decode cX11_find 8 = .ok (.aload_n 0, 1) := by decide +kernel
theorem dX11_find_9 : decode cX11_find 9 = .ok (.getfield 39, 3) := by decide +kernel
theorem dX11_find_12 : decode cX11_find 12 = .ok (.iload_n 1, 1) := by decide +kernel
theorem dX11_find_13 : decode cX11_find 13 = .ok (.invokevirtual 220, 3) := by decide +kernel
theorem dX11_find_16 : decode cX11_find 16 = .ok (.ifCond .ne 9, 3) := by decide +kernel
theorem dX11_find_19 : decode cX11_find 19 = .ok (.aload_n 0, 1) := by decide +kernel
theorem dX11_find_20 : decode cX11_find 20 = .ok (.iconst 3, 1) := by decide +kernel
theorem dX11_find_21 : decode cX11_find 21 = .ok (.invokevirtual 93, 3) := by decide +kernel
theorem dX11_find_24 : decode cX11_find 24 = .ok (.ireturn, 1) := by decide +kernel
theorem dX11_find_25 : decode cX11_find 25 = .ok (.aload_n 0, 1) := by decide +kernel
theorem dX11_find_26 : decode cX11_find 26 = .ok (.iload_n 1, 1) := by decide +kernel
theorem dX11_find_27 : decode cX11_find 27 = .ok (.invokevirtual 306, 3) := by decide +kernel
theorem dX11_find_30 : decode cX11_find 30 = .ok (.iconst 1, 1) := by decide +kernel
theorem dX11_find_31 : decode cX11_find 31 = .ok (.ireturn, 1) := by decide +kernel
noncomputable def tX11_find_0 : List (Nat × zF) := [(0, (zla4 0 1)), (1, (zli4 1 1)), (2, (zcv 149 1 11)), (5, (z_if_eq 19)), (8, (zla4 0 1)), (9, (zgf 11 7)), (12, (zli4 1 1)), (13, (zcv 81 1 8)), (16, (z_if_ne 25)), (19, (zla4 0 1)), (20, (zst 1 (zp (.int (3))))), (21, (zcv 145 1 11))]
theorem kX11_find_0 : ∀ q ∈ tX11_find_0, zOk zg iX11_find q.1 q.2 := (z_c (ok_aload_n dX11_find_0 rfl) (z_c (ok_iload_n dX11_find_1 rfl) (z_c (ok_callV zcal_149 (q := (RX11, TX11, 16)) rfl zw_574 zw_575 zw_576 dX11_find_2) (z_c (ok_if_eq dX11_find_5 (by decide)) (z_c (ok_aload_n dX11_find_8 rfl) (z_c (ok_getf (C := RX11) (T := TX11) (N := 16) rfl (by decide) zinX11 rfl zw_499 dX11_find_9) (z_c (ok_iload_n dX11_find_12 rfl) (z_c (ok_callV zcal_81 (q := (RX8, TX8, 6)) rfl zw_597 zw_25 zw_26 dX11_find_13) (z_c (ok_if_ne dX11_find_16 (by decide)) (z_c (ok_aload_n dX11_find_19 rfl) (z_c (ok_iconst (v := (3)) dX11_find_20 (by decide)) (z_c (ok_callV zcal_145 (q := (RX11, TX11, 16)) rfl zw_530 zw_531 zw_532 dX11_find_21) z_n))))))))))))
noncomputable def tX11_find_1 : List (Nat × zF) := [(24, (zri true)), (25, (zla4 0 1)), (26, (zli4 1 1)), (27, (zcv 152 1 11)), (30, (zst 1 (zp (.int (1))))), (31, (zri true))]
theorem kX11_find_1 : ∀ q ∈ tX11_find_1, zOk zg iX11_find q.1 q.2 := (z_c (ok_zreturn rfl dX11_find_24) (z_c (ok_aload_n dX11_find_25 rfl) (z_c (ok_iload_n dX11_find_26 rfl) (z_c (ok_callV zcal_152 (q := (RX11, TX11, 16)) rfl zw_651 zw_652 zw_653 dX11_find_27) (z_c (ok_iconst (v := (1)) dX11_find_30 (by decide)) (z_c (ok_zreturn rfl dX11_find_31) z_n))))))
noncomputable def tX11_find : zT := [(24, tX11_find_0), (100000, tX11_find_1)]
theorem kX11_find : zTok zg iX11_find tX11_find := (z_t kX11_find_0 (z_t kX11_find_1 z_tn))
theorem dX11_lead_0 : decode cX11_lead 0 = .ok (.aload_n 0, 1) := by decide +kernel
theorem dX11_lead_1 : decode cX11_lead 1 = .ok (.iload_n 1, 1) := by decide +kernel
theorem dX11_lead_2 : decode cX11_lead 2 = .ok (.invokevirtual 184, 3) := by decide +kernel
theorem dX11_lead_5 : decode cX11_lead 5 = .ok (.ifCond .eq 32, 3) := by decide +kernel
theorem dX11_lead_8 : decode cX11_lead 8 = .ok (.aload_n 0, 1) := by decide +kernel
theorem dX11_lead_9 : decode cX11_lead 9 = .ok (.getfield 20, 3) := by decide +kernel
theorem dX11_lead_12 : decode cX11_lead 12 = .ok (.iload_n 2, 1) := by decide +kernel
theorem dX11_lead_13 : decode cX11_lead 13 = .ok (.iload_n 3, 1) := by decide +kernel
theorem dX11_lead_14 : decode cX11_lead 14 = .ok (.invokevirtual 309, 3) := by decide +kernel
theorem dX11_lead_17 : decode cX11_lead 17 = .ok (.ifCond .eq 20, 3) := by decide +kernel
theorem dX11_lead_20 : decode cX11_lead 20 = .ok (.aload_n 0, 1) := by decide +kernel
theorem dX11_lead_21 : decode cX11_lead 21 = .ok (.getfield 39, 3) := by decide +kernel
theorem dX11_lead_24 : decode cX11_lead 24 = .ok (.getfield 230, 3) := by decide +kernel
theorem dX11_lead_27 : decode cX11_lead 27 = .ok (.iload_n 1, 1) := by decide +kernel
theorem dX11_lead_28 : decode cX11_lead 28 = .ok (.iaload, 1) := by decide +kernel
theorem dX11_lead_29 : decode cX11_lead 29 = .ok (.iload_n 2, 1) := by decide +kernel
theorem dX11_lead_30 : decode cX11_lead 30 = .ok (.iload_n 3, 1) := by decide +kernel
theorem dX11_lead_31 : decode cX11_lead 31 = .ok (.invokestatic 194, 3) := by decide +kernel
theorem dX11_lead_34 : decode cX11_lead 34 = .ok (.if_icmp .ne 9, 3) := by decide +kernel
theorem dX11_lead_37 : decode cX11_lead 37 = .ok (.aload_n 0, 1) := by decide +kernel
theorem dX11_lead_38 : decode cX11_lead 38 = .ok (.iconst 3, 1) := by decide +kernel
theorem dX11_lead_39 : decode cX11_lead 39 = .ok (.invokevirtual 93, 3) := by decide +kernel
theorem dX11_lead_42 : decode cX11_lead 42 = .ok (.ireturn, 1) := by decide +kernel
theorem dX11_lead_43 : decode cX11_lead 43 = .ok (.aload_n 0, 1) := by decide +kernel
theorem dX11_lead_44 : decode cX11_lead 44 = .ok (.getfield 53, 3) := by decide +kernel
theorem dX11_lead_47 : decode cX11_lead 47 = .ok (.aload_n 0, 1) := by decide +kernel
theorem dX11_lead_48 : decode cX11_lead 48 = .ok (.getfield 39, 3) := by decide +kernel
theorem dX11_lead_51 : decode cX11_lead 51 = .ok (.aload_n 0, 1) := by decide +kernel
theorem dX11_lead_52 : decode cX11_lead 52 = .ok (.getfield 46, 3) := by decide +kernel
theorem dX11_lead_55 : decode cX11_lead 55 = .ok (.invokevirtual 296, 3) := by decide +kernel
theorem dX11_lead_58 : decode cX11_lead 58 = .ok (.aload_n 0, 1) := by decide +kernel
theorem dX11_lead_59 : decode cX11_lead 59 = .ok (.getfield 39, 3) := by decide +kernel
theorem dX11_lead_62 : decode cX11_lead 62 = .ok (.getfield 230, 3) := by decide +kernel
theorem dX11_lead_65 : decode cX11_lead 65 = .ok (.iload_n 1, 1) := by decide +kernel
theorem dX11_lead_66 : decode cX11_lead 66 = .ok (.iload_n 2, 1) := by decide +kernel
theorem dX11_lead_67 : decode cX11_lead 67 = .ok (.iload_n 3, 1) := by decide +kernel
theorem dX11_lead_68 : decode cX11_lead 68 = .ok (.invokestatic 194, 3) := by decide +kernel
theorem dX11_lead_71 : decode cX11_lead 71 = .ok (.iastore, 1) := by decide +kernel
theorem dX11_lead_72 : decode cX11_lead 72 = .ok (.iconst 1, 1) := by decide +kernel
theorem dX11_lead_73 : decode cX11_lead 73 = .ok (.ireturn, 1) := by decide +kernel
noncomputable def tX11_lead_0 : List (Nat × zF) := [(0, (zla4 0 1)), (1, (zli4 1 1)), (2, (zcv 150 1 11)), (5, (z_if_eq 37)), (8, (zla4 0 1)), (9, (zgf 11 4)), (12, (zli4 2 1)), (13, (zli4 3 1)), (14, (zcv 51 2 4)), (17, (z_if_eq 37)), (20, (zla4 0 1)), (21, (zgf 11 7))]
theorem kX11_lead_0 : ∀ q ∈ tX11_lead_0, zOk zg iX11_lead q.1 q.2 := (z_c (ok_aload_n dX11_lead_0 rfl) (z_c (ok_iload_n dX11_lead_1 rfl) (z_c (ok_callV zcal_150 (q := (RX11, TX11, 16)) rfl zw_580 zw_581 zw_582 dX11_lead_2) (z_c (ok_if_eq dX11_lead_5 (by decide)) (z_c (ok_aload_n dX11_lead_8 rfl) (z_c (ok_getf (C := RX11) (T := TX11) (N := 16) rfl (by decide) zinX11 rfl zw_490 dX11_lead_9) (z_c (ok_iload_n dX11_lead_12 rfl) (z_c (ok_iload_n dX11_lead_13 rfl) (z_c (ok_callV zcal_51 (q := (RX4, TX4, 18)) rfl zw_654 zw_655 zw_656 dX11_lead_14) (z_c (ok_if_eq dX11_lead_17 (by decide)) (z_c (ok_aload_n dX11_lead_20 rfl) (z_c (ok_getf (C := RX11) (T := TX11) (N := 16) rfl (by decide) zinX11 rfl zw_499 dX11_lead_21) z_n))))))))))))
noncomputable def tX11_lead_1 : List (Nat × zF) := [(24, (zgf 8 3)), (27, (zli4 1 1)), (28, (zal 0)), (29, (zli4 2 1)), (30, (zli4 3 1)), (31, (zcs 160 2)), (34, (z_ic_ne 43)), (37, (zla4 0 1)), (38, (zst 1 (zp (.int (3))))), (39, (zcv 145 1 11)), (42, (zri true)), (43, (zla4 0 1))]
theorem kX11_lead_1 : ∀ q ∈ tX11_lead_1, zOk zg iX11_lead q.1 q.2 := (z_c (ok_getf (C := RX8) (T := TX8) (N := 6) rfl (by decide) zinX8 rfl zw_600 dX11_lead_24) (z_c (ok_iload_n dX11_lead_27 rfl) (z_c (ok_iaload rfl dX11_lead_28) (z_c (ok_iload_n dX11_lead_29 rfl) (z_c (ok_iload_n dX11_lead_30 rfl) (z_c (ok_callS zcal_160 zw_585 zw_198 dX11_lead_31) (z_c (ok_icmp_ne dX11_lead_34 (by decide)) (z_c (ok_aload_n dX11_lead_37 rfl) (z_c (ok_iconst (v := (3)) dX11_lead_38 (by decide)) (z_c (ok_callV zcal_145 (q := (RX11, TX11, 16)) rfl zw_530 zw_531 zw_532 dX11_lead_39) (z_c (ok_zreturn rfl dX11_lead_42) (z_c (ok_aload_n dX11_lead_43 rfl) z_n))))))))))))
noncomputable def tX11_lead_2 : List (Nat × zF) := [(44, (zgf 11 9)), (47, (zla4 0 1)), (48, (zgf 11 7)), (51, (zla4 0 1)), (52, (zgf 11 8)), (55, (zcv 23 2 2)), (58, (zla4 0 1)), (59, (zgf 11 7)), (62, (zgf 8 3)), (65, (zli4 1 1)), (66, (zli4 2 1)), (67, (zli4 3 1))]
theorem kX11_lead_2 : ∀ q ∈ tX11_lead_2, zOk zg iX11_lead q.1 q.2 := (z_c (ok_getf (C := RX11) (T := TX11) (N := 16) rfl (by decide) zinX11 rfl zw_507 dX11_lead_44) (z_c (ok_aload_n dX11_lead_47 rfl) (z_c (ok_getf (C := RX11) (T := TX11) (N := 16) rfl (by decide) zinX11 rfl zw_499 dX11_lead_48) (z_c (ok_aload_n dX11_lead_51 rfl) (z_c (ok_getf (C := RX11) (T := TX11) (N := 16) rfl (by decide) zinX11 rfl zw_501 dX11_lead_52) (z_c (ok_callV zcal_23 (q := (RX2, TX2, 4)) rfl zw_642 zw_643 zw_644 dX11_lead_55) (z_c (ok_aload_n dX11_lead_58 rfl) (z_c (ok_getf (C := RX11) (T := TX11) (N := 16) rfl (by decide) zinX11 rfl zw_499 dX11_lead_59) (z_c (ok_getf (C := RX8) (T := TX8) (N := 6) rfl (by decide) zinX8 rfl zw_600 dX11_lead_62) (z_c (ok_iload_n dX11_lead_65 rfl) (z_c (ok_iload_n dX11_lead_66 rfl) (z_c (ok_iload_n dX11_lead_67 rfl) z_n))))))))))))
noncomputable def tX11_lead_3 : List (Nat × zF) := [(68, (zcs 160 2)), (71, (zas 0)), (72, (zst 1 (zp (.int (1))))), (73, (zri true))]
theorem kX11_lead_3 : ∀ q ∈ tX11_lead_3, zOk zg iX11_lead q.1 q.2 := (z_c (ok_callS zcal_160 zw_585 zw_198 dX11_lead_68) (z_c (ok_iastore rfl dX11_lead_71) (z_c (ok_iconst (v := (1)) dX11_lead_72 (by decide)) (z_c (ok_zreturn rfl dX11_lead_73) z_n))))
noncomputable def tX11_lead : zT := [(24, tX11_lead_0), (44, tX11_lead_1), (68, tX11_lead_2), (100000, tX11_lead_3)]
theorem kX11_lead : zTok zg iX11_lead tX11_lead := (z_t kX11_lead_0 (z_t kX11_lead_1 (z_t kX11_lead_2 (z_t kX11_lead_3 z_tn))))
theorem dX11_undo_0 : decode cX11_undo 0 = .ok (.aload_n 0, 1) := by decide +kernel
theorem dX11_undo_1 : decode cX11_undo 1 = .ok (.getfield 53, 3) := by decide +kernel
theorem dX11_undo_4 : decode cX11_undo 4 = .ok (.getfield 173, 3) := by decide +kernel
theorem dX11_undo_7 : decode cX11_undo 7 = .ok (.ifCond .ne 9, 3) := by decide +kernel
theorem dX11_undo_10 : decode cX11_undo 10 = .ok (.aload_n 0, 1) := by decide +kernel
theorem dX11_undo_11 : decode cX11_undo 11 = .ok (.iconst 4, 1) := by decide +kernel
theorem dX11_undo_12 : decode cX11_undo 12 = .ok (.invokevirtual 93, 3) := by decide +kernel
theorem dX11_undo_15 : decode cX11_undo 15 = .ok (.ireturn, 1) := by decide +kernel
theorem dX11_undo_16 : decode cX11_undo 16 = .ok (.aload_n 0, 1) := by decide +kernel
theorem dX11_undo_17 : decode cX11_undo 17 = .ok (.getfield 53, 3) := by decide +kernel
theorem dX11_undo_20 : decode cX11_undo 20 = .ok (.aload_n 0, 1) := by decide +kernel
theorem dX11_undo_21 : decode cX11_undo 21 = .ok (.getfield 39, 3) := by decide +kernel
theorem dX11_undo_24 : decode cX11_undo 24 = .ok (.aload_n 0, 1) := by decide +kernel
theorem dX11_undo_25 : decode cX11_undo 25 = .ok (.getfield 46, 3) := by decide +kernel
theorem dX11_undo_28 : decode cX11_undo 28 = .ok (.invokevirtual 312, 3) := by decide +kernel
theorem dX11_undo_31 : decode cX11_undo 31 = .ok (.iconst 1, 1) := by decide +kernel
theorem dX11_undo_32 : decode cX11_undo 32 = .ok (.ireturn, 1) := by decide +kernel
noncomputable def tX11_undo_0 : List (Nat × zF) := [(0, (zla4 0 1)), (1, (zgf 11 9)), (4, (zgf 2 3)), (7, (z_if_ne 16)), (10, (zla4 0 1)), (11, (zst 1 (zp (.int (4))))), (12, (zcv 145 1 11)), (15, (zri true)), (16, (zla4 0 1)), (17, (zgf 11 9)), (20, (zla4 0 1)), (21, (zgf 11 7))]
theorem kX11_undo_0 : ∀ q ∈ tX11_undo_0, zOk zg iX11_undo q.1 q.2 := (z_c (ok_aload_n dX11_undo_0 rfl) (z_c (ok_getf (C := RX11) (T := TX11) (N := 16) rfl (by decide) zinX11 rfl zw_507 dX11_undo_1) (z_c (ok_getf (C := RX2) (T := TX2) (N := 4) rfl (by decide) zinX2 rfl zw_573 dX11_undo_4) (z_c (ok_if_ne dX11_undo_7 (by decide)) (z_c (ok_aload_n dX11_undo_10 rfl) (z_c (ok_iconst (v := (4)) dX11_undo_11 (by decide)) (z_c (ok_callV zcal_145 (q := (RX11, TX11, 16)) rfl zw_530 zw_531 zw_532 dX11_undo_12) (z_c (ok_zreturn rfl dX11_undo_15) (z_c (ok_aload_n dX11_undo_16 rfl) (z_c (ok_getf (C := RX11) (T := TX11) (N := 16) rfl (by decide) zinX11 rfl zw_507 dX11_undo_17) (z_c (ok_aload_n dX11_undo_20 rfl) (z_c (ok_getf (C := RX11) (T := TX11) (N := 16) rfl (by decide) zinX11 rfl zw_499 dX11_undo_21) z_n))))))))))))
noncomputable def tX11_undo_1 : List (Nat × zF) := [(24, (zla4 0 1)), (25, (zgf 11 8)), (28, (zcv 24 2 2)), (31, (zst 1 (zp (.int (1))))), (32, (zri true))]
theorem kX11_undo_1 : ∀ q ∈ tX11_undo_1, zOk zg iX11_undo q.1 q.2 := (z_c (ok_aload_n dX11_undo_24 rfl) (z_c (ok_getf (C := RX11) (T := TX11) (N := 16) rfl (by decide) zinX11 rfl zw_501 dX11_undo_25) (z_c (ok_callV zcal_24 (q := (RX2, TX2, 4)) rfl zw_657 zw_658 zw_659 dX11_undo_28) (z_c (ok_iconst (v := (1)) dX11_undo_31 (by decide)) (z_c (ok_zreturn rfl dX11_undo_32) z_n)))))
noncomputable def tX11_undo : zT := [(24, tX11_undo_0), (100000, tX11_undo_1)]
theorem kX11_undo : zTok zg iX11_undo tX11_undo := (z_t kX11_undo_0 (z_t kX11_undo_1 z_tn))
theorem dX11_seed_0 : decode cX11_seed 0 = .ok (.iload_n 1, 1) := by decide +kernel
theorem dX11_seed_1 : decode cX11_seed 1 = .ok (.ifCond .ge 9, 3) := by decide +kernel
theorem dX11_seed_4 : decode cX11_seed 4 = .ok (.aload_n 0, 1) := by decide +kernel
theorem dX11_seed_5 : decode cX11_seed 5 = .ok (.iconst 5, 1) := by decide +kernel
theorem dX11_seed_6 : decode cX11_seed 6 = .ok (.invokevirtual 93, 3) := by decide +kernel
theorem dX11_seed_9 : decode cX11_seed 9 = .ok (.ireturn, 1) := by decide +kernel
theorem dX11_seed_10 : decode cX11_seed 10 = .ok (.aload_n 0, 1) := by decide +kernel
theorem dX11_seed_11 : decode cX11_seed 11 = .ok (.iload_n 1, 1) := by decide +kernel
theorem dX11_seed_12 : decode cX11_seed 12 = .ok (.putfield 79, 3) := by decide +kernel
theorem dX11_seed_15 : decode cX11_seed 15 = .ok (.iconst 1, 1) := by decide +kernel
theorem dX11_seed_16 : decode cX11_seed 16 = .ok (.ireturn, 1) := by decide +kernel
noncomputable def tX11_seed_0 : List (Nat × zF) := [(0, (zli4 1 1)), (1, (z_if_ge 10)), (4, (zla4 0 1)), (5, (zst 1 (zp (.int (5))))), (6, (zcv 145 1 11)), (9, (zri true)), (10, (zla4 0 1)), (11, (zli4 1 1)), (12, (zpf 11 15 (.int))), (15, (zst 1 (zp (.int (1))))), (16, (zri true))]
theorem kX11_seed_0 : ∀ q ∈ tX11_seed_0, zOk zg iX11_seed q.1 q.2 := (z_c (ok_iload_n dX11_seed_0 rfl) (z_c (ok_if_ge dX11_seed_1 (by decide)) (z_c (ok_aload_n dX11_seed_4 rfl) (z_c (ok_iconst (v := (5)) dX11_seed_5 (by decide)) (z_c (ok_callV zcal_145 (q := (RX11, TX11, 16)) rfl zw_530 zw_531 zw_532 dX11_seed_6) (z_c (ok_zreturn rfl dX11_seed_9) (z_c (ok_aload_n dX11_seed_10 rfl) (z_c (ok_iload_n dX11_seed_11 rfl) (z_c (ok_putf (C := RX11) (T := TX11) (N := 16) false tyX11 tyX11_ok nmX11 rfl (by decide) zinX11 rfl zw_522 rfl (fun h => absurd h (by decide)) rfl dX11_seed_12) (z_c (ok_iconst (v := (1)) dX11_seed_15 (by decide)) (z_c (ok_zreturn rfl dX11_seed_16) z_n)))))))))))
noncomputable def tX11_seed : zT := [(100000, tX11_seed_0)]
theorem kX11_seed : zTok zg iX11_seed tX11_seed := (z_t kX11_seed_0 z_tn)
theorem dX11_kept_0 : decode cX11_kept 0 = .ok (.iload_n 1, 1) := by decide +kernel
theorem dX11_kept_1 : decode cX11_kept 1 = .ok (.ifCond .lt 14, 3) := by decide +kernel
theorem dX11_kept_4 : decode cX11_kept 4 = .ok (.iload_n 1, 1) := by decide +kernel
theorem dX11_kept_5 : decode cX11_kept 5 = .ok (.aload_n 0, 1) := by decide +kernel
theorem dX11_kept_6 : decode cX11_kept 6 = .ok (.getfield 46, 3) := by decide +kernel
theorem dX11_kept_9 : decode cX11_kept 9 = .ok (.getfield 167, 3) := by decide +kernel
theorem dX11_kept_12 : decode cX11_kept 12 = .ok (.if_icmp .lt 5, 3) := by decide +kernel
theorem dX11_kept_15 : decode cX11_kept 15 = .ok (.iconst (-1), 1) := by decide +kernel
theorem dX11_kept_16 : decode cX11_kept 16 = .ok (.ireturn, 1) := by decide +kernel
theorem dX11_kept_17 : decode cX11_kept 17 = .ok (.iload_n 2, 1) := by decide +kernel
theorem dX11_kept_18 : decode cX11_kept 18 = .ok (.tableswitch 56 0 2 #[26, 36, 46], 26) := by decide +kernel
theorem dX11_kept_44 : decode cX11_kept 44 = .ok (.aload_n 0, 1) := by decide +kernel
theorem dX11_kept_45 : decode cX11_kept 45 = .ok (.getfield 46, 3) := by decide +kernel
theorem dX11_kept_48 : decode cX11_kept 48 = .ok (.getfield 315, 3) := by decide +kernel
theorem dX11_kept_51 : decode cX11_kept 51 = .ok (.iload_n 1, 1) := by decide +kernel
theorem dX11_kept_52 : decode cX11_kept 52 = .ok (.iaload, 1) := by decide +kernel
theorem dX11_kept_53 : decode cX11_kept 53 = .ok (.ireturn, 1) := by decide +kernel
theorem dX11_kept_54 : decode cX11_kept 54 = .ok (.aload_n 0, 1) := by decide +kernel
theorem dX11_kept_55 : decode cX11_kept 55 = .ok (.getfield 46, 3) := by decide +kernel
theorem dX11_kept_58 : decode cX11_kept 58 = .ok (.getfield 318, 3) := by decide +kernel
theorem dX11_kept_61 : decode cX11_kept 61 = .ok (.iload_n 1, 1) := by decide +kernel
theorem dX11_kept_62 : decode cX11_kept 62 = .ok (.iaload, 1) := by decide +kernel
theorem dX11_kept_63 : decode cX11_kept 63 = .ok (.ireturn, 1) := by decide +kernel
theorem dX11_kept_64 : decode cX11_kept 64 = .ok (.aload_n 0, 1) := by decide +kernel
theorem dX11_kept_65 : decode cX11_kept 65 = .ok (.getfield 46, 3) := by decide +kernel
theorem dX11_kept_68 : decode cX11_kept 68 = .ok (.getfield 320, 3) := by decide +kernel
theorem dX11_kept_71 : decode cX11_kept 71 = .ok (.iload_n 1, 1) := by decide +kernel
theorem dX11_kept_72 : decode cX11_kept 72 = .ok (.iaload, 1) := by decide +kernel
theorem dX11_kept_73 : decode cX11_kept 73 = .ok (.ireturn, 1) := by decide +kernel
theorem dX11_kept_74 : decode cX11_kept 74 = .ok (.iconst (-1), 1) := by decide +kernel
theorem dX11_kept_75 : decode cX11_kept 75 = .ok (.ireturn, 1) := by decide +kernel
noncomputable def tX11_kept_0 : List (Nat × zF) := [(0, (zli4 1 1)), (1, (z_if_lt 15)), (4, (zli4 1 1)), (5, (zla4 0 1)), (6, (zgf 11 8)), (9, (zgf 1 3)), (12, (z_ic_lt 17)), (15, (zst 1 (zp (.int ((-1)))))), (16, (zri false)), (17, (zli4 2 1)), (18, (zts [(0, 44), (1, 54), (2, 64)] 74)), (44, (zla4 0 1))]
theorem kX11_kept_0 : ∀ q ∈ tX11_kept_0, zOk zg iX11_kept q.1 q.2 := (z_c (ok_iload_n dX11_kept_0 rfl) (z_c (ok_if_lt dX11_kept_1 (by decide)) (z_c (ok_iload_n dX11_kept_4 rfl) (z_c (ok_aload_n dX11_kept_5 rfl) (z_c (ok_getf (C := RX11) (T := TX11) (N := 16) rfl (by decide) zinX11 rfl zw_501 dX11_kept_6) (z_c (ok_getf (C := RX1) (T := TX1) (N := 4) rfl (by decide) zinX1 rfl zw_571 dX11_kept_9) (z_c (ok_icmp_lt dX11_kept_12 (by decide)) (z_c (ok_iconst (v := (-1)) dX11_kept_15 (by decide)) (z_c (ok_ireturn rfl dX11_kept_16) (z_c (ok_iload_n dX11_kept_17 rfl) (z_c (ok_tsw dX11_kept_18 (by decide) (by decide +kernel) (by decide +kernel) (by decide)) (z_c (ok_aload_n dX11_kept_44 rfl) z_n))))))))))))
noncomputable def tX11_kept_1 : List (Nat × zF) := [(45, (zgf 11 8)), (48, (zgf 1 0)), (51, (zli4 1 1)), (52, (zal 0)), (53, (zri false)), (54, (zla4 0 1)), (55, (zgf 11 8)), (58, (zgf 1 1)), (61, (zli4 1 1)), (62, (zal 0)), (63, (zri false)), (64, (zla4 0 1))]
theorem kX11_kept_1 : ∀ q ∈ tX11_kept_1, zOk zg iX11_kept q.1 q.2 := (z_c (ok_getf (C := RX11) (T := TX11) (N := 16) rfl (by decide) zinX11 rfl zw_501 dX11_kept_45) (z_c (ok_getf (C := RX1) (T := TX1) (N := 4) rfl (by decide) zinX1 rfl zw_660 dX11_kept_48) (z_c (ok_iload_n dX11_kept_51 rfl) (z_c (ok_iaload rfl dX11_kept_52) (z_c (ok_ireturn rfl dX11_kept_53) (z_c (ok_aload_n dX11_kept_54 rfl) (z_c (ok_getf (C := RX11) (T := TX11) (N := 16) rfl (by decide) zinX11 rfl zw_501 dX11_kept_55) (z_c (ok_getf (C := RX1) (T := TX1) (N := 4) rfl (by decide) zinX1 rfl zw_661 dX11_kept_58) (z_c (ok_iload_n dX11_kept_61 rfl) (z_c (ok_iaload rfl dX11_kept_62) (z_c (ok_ireturn rfl dX11_kept_63) (z_c (ok_aload_n dX11_kept_64 rfl) z_n))))))))))))
noncomputable def tX11_kept_2 : List (Nat × zF) := [(65, (zgf 11 8)), (68, (zgf 1 2)), (71, (zli4 1 1)), (72, (zal 0)), (73, (zri false)), (74, (zst 1 (zp (.int ((-1)))))), (75, (zri false))]
theorem kX11_kept_2 : ∀ q ∈ tX11_kept_2, zOk zg iX11_kept q.1 q.2 := (z_c (ok_getf (C := RX11) (T := TX11) (N := 16) rfl (by decide) zinX11 rfl zw_501 dX11_kept_65) (z_c (ok_getf (C := RX1) (T := TX1) (N := 4) rfl (by decide) zinX1 rfl zw_662 dX11_kept_68) (z_c (ok_iload_n dX11_kept_71 rfl) (z_c (ok_iaload rfl dX11_kept_72) (z_c (ok_ireturn rfl dX11_kept_73) (z_c (ok_iconst (v := (-1)) dX11_kept_74 (by decide)) (z_c (ok_ireturn rfl dX11_kept_75) z_n)))))))
noncomputable def tX11_kept : zT := [(45, tX11_kept_0), (65, tX11_kept_1), (100000, tX11_kept_2)]
theorem kX11_kept : zTok zg iX11_kept tX11_kept := (z_t kX11_kept_0 (z_t kX11_kept_1 (z_t kX11_kept_2 z_tn)))
theorem dX11_image_0 : decode cX11_image 0 = .ok (.aload_n 0, 1) := by decide +kernel
theorem dX11_image_1 : decode cX11_image 1 = .ok (.getfield 73, 3) := by decide +kernel
theorem dX11_image_4 : decode cX11_image 4 = .ok (.iconst 0, 1) := by decide +kernel
theorem dX11_image_5 : decode cX11_image 5 = .ok (.aload_n 0, 1) := by decide +kernel
theorem dX11_image_6 : decode cX11_image 6 = .ok (.getfield 39, 3) := by decide +kernel
theorem dX11_image_9 : decode cX11_image 9 = .ok (.getfield 149, 3) := by decide +kernel
theorem dX11_image_12 : decode cX11_image 12 = .ok (.bipush 8, 2) := by decide +kernel
theorem dX11_image_14 : decode cX11_image 14 = .ok (.ishr, 1) := by decide +kernel
theorem dX11_image_15 : decode cX11_image 15 = .ok (.iastore, 1) := by decide +kernel
theorem dX11_image_16 : decode cX11_image 16 = .ok (.aload_n 0, 1) := by decide +kernel
theorem dX11_image_17 : decode cX11_image 17 = .ok (.getfield 73, 3) := by decide +kernel
theorem dX11_image_20 : decode cX11_image 20 = .ok (.iconst 1, 1) := by decide +kernel
theorem dX11_image_21 : decode cX11_image 21 = .ok (.aload_n 0, 1) := by decide +kernel
theorem dX11_image_22 : decode cX11_image 22 = .ok (.getfield 39, 3) := by decide +kernel
theorem dX11_image_25 : decode cX11_image 25 = .ok (.getfield 149, 3) := by decide +kernel
theorem dX11_image_28 : decode cX11_image 28 = .ok (.sipush 255, 3) := by decide +kernel
theorem dX11_image_31 : decode cX11_image 31 = .ok (.iand, 1) := by decide +kernel
theorem dX11_image_32 : decode cX11_image 32 = .ok (.iastore, 1) := by decide +kernel
theorem dX11_image_33 : decode cX11_image 33 = .ok (.iconst 2, 1) := by decide +kernel
theorem dX11_image_34 : decode cX11_image 34 = .ok (.istore_n 1, 1) := by decide +kernel
theorem dX11_image_35 : decode cX11_image 35 = .ok (.iconst 0, 1) := by decide +kernel
theorem dX11_image_36 : decode cX11_image 36 = .ok (.istore_n 2, 1) := by decide +kernel
theorem dX11_image_37 : decode cX11_image 37 = .ok (.iload_n 2, 1) := by decide +kernel
theorem dX11_image_38 : decode cX11_image 38 = .ok (.aload_n 0, 1) := by decide +kernel
theorem dX11_image_39 : decode cX11_image 39 = .ok (.getfield 20, 3) := by decide +kernel
theorem dX11_image_42 : decode cX11_image 42 = .ok (.getfield 143, 3) := by decide +kernel
theorem dX11_image_45 : decode cX11_image 45 = .ok (.if_icmp .ge 51, 3) := by decide +kernel
theorem dX11_image_48 : decode cX11_image 48 = .ok (.aload_n 0, 1) := by decide +kernel
theorem dX11_image_49 : decode cX11_image 49 = .ok (.getfield 73, 3) := by decide +kernel
theorem dX11_image_52 : decode cX11_image 52 = .ok (.iload_n 1, 1) := by decide +kernel
theorem dX11_image_53 : decode cX11_image 53 = .ok (.aload_n 0, 1) := by decide +kernel
theorem dX11_image_54 : decode cX11_image 54 = .ok (.getfield 39, 3) := by decide +kernel
theorem dX11_image_57 : decode cX11_image 57 = .ok (.iload_n 2, 1) := by decide +kernel
theorem dX11_image_58 : decode cX11_image 58 = .ok (.invokevirtual 220, 3) := by decide +kernel
theorem dX11_image_61 : decode cX11_image 61 = .ok (.ifCond .eq 7, 3) := by decide +kernel
theorem dX11_image_64 : decode cX11_image 64 = .ok (.iconst 1, 1) := by decide +kernel
theorem dX11_image_65 : decode cX11_image 65 = .ok (.goto 4, 3) := by decide +kernel
theorem dX11_image_68 : decode cX11_image 68 = .ok (.iconst 0, 1) := by decide +kernel
theorem dX11_image_69 : decode cX11_image 69 = .ok (.iastore, 1) := by decide +kernel
theorem dX11_image_70 : decode cX11_image 70 = .ok (.aload_n 0, 1) := by decide +kernel
theorem dX11_image_71 : decode cX11_image 71 = .ok (.getfield 73, 3) := by decide +kernel
theorem dX11_image_74 : decode cX11_image 74 = .ok (.iload_n 1, 1) := by decide +kernel
theorem dX11_image_75 : decode cX11_image 75 = .ok (.iconst 1, 1) := by decide +kernel
theorem dX11_image_76 : decode cX11_image 76 = .ok (.iadd, 1) := by decide +kernel
theorem dX11_image_77 : decode cX11_image 77 = .ok (.aload_n 0, 1) := by decide +kernel
theorem dX11_image_78 : decode cX11_image 78 = .ok (.getfield 39, 3) := by decide +kernel
theorem dX11_image_81 : decode cX11_image 81 = .ok (.getfield 223, 3) := by decide +kernel
theorem dX11_image_84 : decode cX11_image 84 = .ok (.iload_n 2, 1) := by decide +kernel
theorem dX11_image_85 : decode cX11_image 85 = .ok (.iaload, 1) := by decide +kernel
theorem dX11_image_86 : decode cX11_image 86 = .ok (.iastore, 1) := by decide +kernel
theorem dX11_image_87 : decode cX11_image 87 = .ok (.iinc 1 2, 3) := by decide +kernel
theorem dX11_image_90 : decode cX11_image 90 = .ok (.iinc 2 1, 3) := by decide +kernel
theorem dX11_image_93 : decode cX11_image 93 = .ok (.goto (-56), 3) := by decide +kernel
theorem dX11_image_96 : decode cX11_image 96 = .ok (.iconst 0, 1) := by decide +kernel
theorem dX11_image_97 : decode cX11_image 97 = .ok (.istore_n 2, 1) := by decide +kernel
theorem dX11_image_98 : decode cX11_image 98 = .ok (.iload_n 2, 1) := by decide +kernel
theorem dX11_image_99 : decode cX11_image 99 = .ok (.aload_n 0, 1) := by decide +kernel
theorem dX11_image_100 : decode cX11_image 100 = .ok (.getfield 20, 3) := by decide +kernel
theorem dX11_image_103 : decode cX11_image 103 = .ok (.getfield 146, 3) := by decide +kernel
theorem dX11_image_106 : decode cX11_image 106 = .ok (.if_icmp .ge 50, 3) := by decide +kernel
theorem dX11_image_109 : decode cX11_image 109 = .ok (.aload_n 0, 1) := by decide +kernel
theorem dX11_image_110 : decode cX11_image 110 = .ok (.getfield 73, 3) := by decide +kernel
theorem dX11_image_113 : decode cX11_image 113 = .ok (.iload_n 1, 1) := by decide +kernel
theorem dX11_image_114 : decode cX11_image 114 = .ok (.aload_n 0, 1) := by decide +kernel
theorem dX11_image_115 : decode cX11_image 115 = .ok (.getfield 39, 3) := by decide +kernel
theorem dX11_image_118 : decode cX11_image 118 = .ok (.getfield 230, 3) := by decide +kernel
theorem dX11_image_121 : decode cX11_image 121 = .ok (.iload_n 2, 1) := by decide +kernel
theorem dX11_image_122 : decode cX11_image 122 = .ok (.iaload, 1) := by decide +kernel
theorem dX11_image_123 : decode cX11_image 123 = .ok (.invokestatic 208, 3) := by decide +kernel
theorem dX11_image_126 : decode cX11_image 126 = .ok (.iastore, 1) := by decide +kernel
theorem dX11_image_127 : decode cX11_image 127 = .ok (.aload_n 0, 1) := by decide +kernel
theorem dX11_image_128 : decode cX11_image 128 = .ok (.getfield 73, 3) := by decide +kernel
theorem dX11_image_131 : decode cX11_image 131 = .ok (.iload_n 1, 1) := by decide +kernel
theorem dX11_image_132 : decode cX11_image 132 = .ok (.iconst 1, 1) := by decide +kernel
theorem dX11_image_133 : decode cX11_image 133 = .ok (.iadd, 1) := by decide +kernel
theorem dX11_image_134 : decode cX11_image 134 = .ok (.aload_n 0, 1) := by decide +kernel
theorem dX11_image_135 : decode cX11_image 135 = .ok (.getfield 39, 3) := by decide +kernel
theorem dX11_image_138 : decode cX11_image 138 = .ok (.getfield 230, 3) := by decide +kernel
theorem dX11_image_141 : decode cX11_image 141 = .ok (.iload_n 2, 1) := by decide +kernel
theorem dX11_image_142 : decode cX11_image 142 = .ok (.iaload, 1) := by decide +kernel
theorem dX11_image_143 : decode cX11_image 143 = .ok (.invokestatic 211, 3) := by decide +kernel
theorem dX11_image_146 : decode cX11_image 146 = .ok (.iastore, 1) := by decide +kernel
theorem dX11_image_147 : decode cX11_image 147 = .ok (.iinc 1 2, 3) := by decide +kernel
theorem dX11_image_150 : decode cX11_image 150 = .ok (.iinc 2 1, 3) := by decide +kernel
theorem dX11_image_153 : decode cX11_image 153 = .ok (.goto (-55), 3) := by decide +kernel
theorem dX11_image_156 : decode cX11_image 156 = .ok (.aload_n 0, 1) := by decide +kernel
theorem dX11_image_157 : decode cX11_image 157 = .ok (.getfield 73, 3) := by decide +kernel
theorem dX11_image_160 : decode cX11_image 160 = .ok (.iload_n 1, 1) := by decide +kernel
theorem dX11_image_161 : decode cX11_image 161 = .ok (.aload_n 0, 1) := by decide +kernel
theorem dX11_image_162 : decode cX11_image 162 = .ok (.getfield 73, 3) := by decide +kernel
theorem dX11_image_165 : decode cX11_image 165 = .ok (.iload_n 1, 1) := by decide +kernel
theorem dX11_image_166 : decode cX11_image 166 = .ok (.invokestatic 323, 3) := by decide +kernel
theorem dX11_image_169 : decode cX11_image 169 = .ok (.iastore, 1) := by decide +kernel
theorem dX11_image_170 : decode cX11_image 170 = .ok (.aload_n 0, 1) := by decide +kernel
theorem dX11_image_171 : decode cX11_image 171 = .ok (.iload_n 1, 1) := by decide +kernel
theorem dX11_image_172 : decode cX11_image 172 = .ok (.iconst 1, 1) := by decide +kernel
theorem dX11_image_173 : decode cX11_image 173 = .ok (.iadd, 1) := by decide +kernel
theorem dX11_image_174 : decode cX11_image 174 = .ok (.putfield 327, 3) := by decide +kernel
theorem dX11_image_177 : decode cX11_image 177 = .ok (.aload_n 0, 1) := by decide +kernel
theorem dX11_image_178 : decode cX11_image 178 = .ok (.getfield 327, 3) := by decide +kernel
theorem dX11_image_181 : decode cX11_image 181 = .ok (.ireturn, 1) := by decide +kernel
noncomputable def tX11_image_0 : List (Nat × zF) := [(0, (zla4 0 1)), (1, (zgf 11 12)), (4, (zst 1 (zp (.int (0))))), (5, (zla4 0 1)), (6, (zgf 11 7)), (9, (zgf 8 0)), (12, (zst 2 (zp (.int (8))))), (14, (zst 1 z_ishr)), (15, (zas 0)), (16, (zla4 0 1)), (17, (zgf 11 12)), (20, (zst 1 (zp (.int (1)))))]
theorem kX11_image_0 : ∀ q ∈ tX11_image_0, zOk zg iX11_image q.1 q.2 := (z_c (ok_aload_n dX11_image_0 rfl) (z_c (ok_getf (C := RX11) (T := TX11) (N := 16) rfl (by decide) zinX11 rfl zw_520 dX11_image_1) (z_c (ok_iconst (v := (0)) dX11_image_4 (by decide)) (z_c (ok_aload_n dX11_image_5 rfl) (z_c (ok_getf (C := RX11) (T := TX11) (N := 16) rfl (by decide) zinX11 rfl zw_499 dX11_image_6) (z_c (ok_getf (C := RX8) (T := TX8) (N := 6) rfl (by decide) zinX8 rfl zw_566 dX11_image_9) (z_c (ok_bipush (v := (8)) dX11_image_12 (by decide)) (z_c (ok_ishr dX11_image_14) (z_c (ok_iastore rfl dX11_image_15) (z_c (ok_aload_n dX11_image_16 rfl) (z_c (ok_getf (C := RX11) (T := TX11) (N := 16) rfl (by decide) zinX11 rfl zw_520 dX11_image_17) (z_c (ok_iconst (v := (1)) dX11_image_20 (by decide)) z_n))))))))))))
noncomputable def tX11_image_1 : List (Nat × zF) := [(21, (zla4 0 1)), (22, (zgf 11 7)), (25, (zgf 8 0)), (28, (zst 3 (zp (.int (255))))), (31, (zst 1 z_iand)), (32, (zas 0)), (33, (zst 1 (zp (.int (2))))), (34, (zsi4 3 1 1)), (35, (zst 1 (zp (.int (0))))), (36, (zsi4 3 2 1)), (37, (zli4 2 1)), (38, (zla4 0 1))]
theorem kX11_image_1 : ∀ q ∈ tX11_image_1, zOk zg iX11_image q.1 q.2 := (z_c (ok_aload_n dX11_image_21 rfl) (z_c (ok_getf (C := RX11) (T := TX11) (N := 16) rfl (by decide) zinX11 rfl zw_499 dX11_image_22) (z_c (ok_getf (C := RX8) (T := TX8) (N := 6) rfl (by decide) zinX8 rfl zw_566 dX11_image_25) (z_c (ok_sipush (v := (255)) dX11_image_28 (by decide)) (z_c (ok_iand dX11_image_31) (z_c (ok_iastore rfl dX11_image_32) (z_c (ok_iconst (v := (2)) dX11_image_33 (by decide)) (z_c (ok_istore_n dX11_image_34 rfl) (z_c (ok_iconst (v := (0)) dX11_image_35 (by decide)) (z_c (ok_istore_n dX11_image_36 rfl) (z_c (ok_iload_n dX11_image_37 rfl) (z_c (ok_aload_n dX11_image_38 rfl) z_n))))))))))))
noncomputable def tX11_image_2 : List (Nat × zF) := [(39, (zgf 11 4)), (42, (zgf 4 7)), (45, (z_ic_ge 96)), (48, (zla4 0 1)), (49, (zgf 11 12)), (52, (zli4 1 1)), (53, (zla4 0 1)), (54, (zgf 11 7)), (57, (zli4 2 1)), (58, (zcv 81 1 8)), (61, (z_if_eq 68)), (64, (zst 1 (zp (.int (1)))))]
theorem kX11_image_2 : ∀ q ∈ tX11_image_2, zOk zg iX11_image q.1 q.2 := (z_c (ok_getf (C := RX11) (T := TX11) (N := 16) rfl (by decide) zinX11 rfl zw_490 dX11_image_39) (z_c (ok_getf (C := RX4) (T := TX4) (N := 18) rfl (by decide) zinX4 rfl zw_564 dX11_image_42) (z_c (ok_icmp_ge dX11_image_45 (by decide)) (z_c (ok_aload_n dX11_image_48 rfl) (z_c (ok_getf (C := RX11) (T := TX11) (N := 16) rfl (by decide) zinX11 rfl zw_520 dX11_image_49) (z_c (ok_iload_n dX11_image_52 rfl) (z_c (ok_aload_n dX11_image_53 rfl) (z_c (ok_getf (C := RX11) (T := TX11) (N := 16) rfl (by decide) zinX11 rfl zw_499 dX11_image_54) (z_c (ok_iload_n dX11_image_57 rfl) (z_c (ok_callV zcal_81 (q := (RX8, TX8, 6)) rfl zw_597 zw_25 zw_26 dX11_image_58) (z_c (ok_if_eq dX11_image_61 (by decide)) (z_c (ok_iconst (v := (1)) dX11_image_64 (by decide)) z_n))))))))))))
noncomputable def tX11_image_3 : List (Nat × zF) := [(65, (zgt 69)), (68, (zst 1 (zp (.int (0))))), (69, (zas 0)), (70, (zla4 0 1)), (71, (zgf 11 12)), (74, (zli4 1 1)), (75, (zst 1 (zp (.int (1))))), (76, (zst 1 z_iadd)), (77, (zla4 0 1)), (78, (zgf 11 7)), (81, (zgf 8 2)), (84, (zli4 2 1))]
theorem kX11_image_3 : ∀ q ∈ tX11_image_3, zOk zg iX11_image q.1 q.2 := (z_c (ok_goto dX11_image_65 (by decide)) (z_c (ok_iconst (v := (0)) dX11_image_68 (by decide)) (z_c (ok_iastore rfl dX11_image_69) (z_c (ok_aload_n dX11_image_70 rfl) (z_c (ok_getf (C := RX11) (T := TX11) (N := 16) rfl (by decide) zinX11 rfl zw_520 dX11_image_71) (z_c (ok_iload_n dX11_image_74 rfl) (z_c (ok_iconst (v := (1)) dX11_image_75 (by decide)) (z_c (ok_iadd dX11_image_76) (z_c (ok_aload_n dX11_image_77 rfl) (z_c (ok_getf (C := RX11) (T := TX11) (N := 16) rfl (by decide) zinX11 rfl zw_499 dX11_image_78) (z_c (ok_getf (C := RX8) (T := TX8) (N := 6) rfl (by decide) zinX8 rfl zw_598 dX11_image_81) (z_c (ok_iload_n dX11_image_84 rfl) z_n))))))))))))
noncomputable def tX11_image_4 : List (Nat × zF) := [(85, (zal 0)), (86, (zas 0)), (87, (zin4 3 1 (2))), (90, (zin4 3 2 (1))), (93, (zgt 37)), (96, (zst 1 (zp (.int (0))))), (97, (zsi4 3 2 1)), (98, (zli4 2 1)), (99, (zla4 0 1)), (100, (zgf 11 4)), (103, (zgf 4 13)), (106, (z_ic_ge 156))]
theorem kX11_image_4 : ∀ q ∈ tX11_image_4, zOk zg iX11_image q.1 q.2 := (z_c (ok_iaload rfl dX11_image_85) (z_c (ok_iastore rfl dX11_image_86) (z_c (ok_iinc (v := (2)) dX11_image_87 (by decide)) (z_c (ok_iinc (v := (1)) dX11_image_90 (by decide)) (z_c (ok_goto dX11_image_93 (by decide)) (z_c (ok_iconst (v := (0)) dX11_image_96 (by decide)) (z_c (ok_istore_n dX11_image_97 rfl) (z_c (ok_iload_n dX11_image_98 rfl) (z_c (ok_aload_n dX11_image_99 rfl) (z_c (ok_getf (C := RX11) (T := TX11) (N := 16) rfl (by decide) zinX11 rfl zw_490 dX11_image_100) (z_c (ok_getf (C := RX4) (T := TX4) (N := 18) rfl (by decide) zinX4 rfl zw_565 dX11_image_103) (z_c (ok_icmp_ge dX11_image_106 (by decide)) z_n))))))))))))
noncomputable def tX11_image_5 : List (Nat × zF) := [(109, (zla4 0 1)), (110, (zgf 11 12)), (113, (zli4 1 1)), (114, (zla4 0 1)), (115, (zgf 11 7)), (118, (zgf 8 3)), (121, (zli4 2 1)), (122, (zal 0)), (123, (zcs 161 1)), (126, (zas 0)), (127, (zla4 0 1)), (128, (zgf 11 12))]
theorem kX11_image_5 : ∀ q ∈ tX11_image_5, zOk zg iX11_image q.1 q.2 := (z_c (ok_aload_n dX11_image_109 rfl) (z_c (ok_getf (C := RX11) (T := TX11) (N := 16) rfl (by decide) zinX11 rfl zw_520 dX11_image_110) (z_c (ok_iload_n dX11_image_113 rfl) (z_c (ok_aload_n dX11_image_114 rfl) (z_c (ok_getf (C := RX11) (T := TX11) (N := 16) rfl (by decide) zinX11 rfl zw_499 dX11_image_115) (z_c (ok_getf (C := RX8) (T := TX8) (N := 6) rfl (by decide) zinX8 rfl zw_600 dX11_image_118) (z_c (ok_iload_n dX11_image_121 rfl) (z_c (ok_iaload rfl dX11_image_122) (z_c (ok_callS zcal_161 zw_591 zw_592 dX11_image_123) (z_c (ok_iastore rfl dX11_image_126) (z_c (ok_aload_n dX11_image_127 rfl) (z_c (ok_getf (C := RX11) (T := TX11) (N := 16) rfl (by decide) zinX11 rfl zw_520 dX11_image_128) z_n))))))))))))
noncomputable def tX11_image_6 : List (Nat × zF) := [(131, (zli4 1 1)), (132, (zst 1 (zp (.int (1))))), (133, (zst 1 z_iadd)), (134, (zla4 0 1)), (135, (zgf 11 7)), (138, (zgf 8 3)), (141, (zli4 2 1)), (142, (zal 0)), (143, (zcs 162 1)), (146, (zas 0)), (147, (zin4 3 1 (2))), (150, (zin4 3 2 (1)))]
theorem kX11_image_6 : ∀ q ∈ tX11_image_6, zOk zg iX11_image q.1 q.2 := (z_c (ok_iload_n dX11_image_131 rfl) (z_c (ok_iconst (v := (1)) dX11_image_132 (by decide)) (z_c (ok_iadd dX11_image_133) (z_c (ok_aload_n dX11_image_134 rfl) (z_c (ok_getf (C := RX11) (T := TX11) (N := 16) rfl (by decide) zinX11 rfl zw_499 dX11_image_135) (z_c (ok_getf (C := RX8) (T := TX8) (N := 6) rfl (by decide) zinX8 rfl zw_600 dX11_image_138) (z_c (ok_iload_n dX11_image_141 rfl) (z_c (ok_iaload rfl dX11_image_142) (z_c (ok_callS zcal_162 zw_593 zw_594 dX11_image_143) (z_c (ok_iastore rfl dX11_image_146) (z_c (ok_iinc (v := (2)) dX11_image_147 (by decide)) (z_c (ok_iinc (v := (1)) dX11_image_150 (by decide)) z_n))))))))))))
noncomputable def tX11_image_7 : List (Nat × zF) := [(153, (zgt 98)), (156, (zla4 0 1)), (157, (zgf 11 12)), (160, (zli4 1 1)), (161, (zla4 0 1)), (162, (zgf 11 12)), (165, (zli4 1 1)), (166, (zcs 158 2)), (169, (zas 0)), (170, (zla4 0 1)), (171, (zli4 1 1)), (172, (zst 1 (zp (.int (1)))))]
theorem kX11_image_7 : ∀ q ∈ tX11_image_7, zOk zg iX11_image q.1 q.2 := (z_c (ok_goto dX11_image_153 (by decide)) (z_c (ok_aload_n dX11_image_156 rfl) (z_c (ok_getf (C := RX11) (T := TX11) (N := 16) rfl (by decide) zinX11 rfl zw_520 dX11_image_157) (z_c (ok_iload_n dX11_image_160 rfl) (z_c (ok_aload_n dX11_image_161 rfl) (z_c (ok_getf (C := RX11) (T := TX11) (N := 16) rfl (by decide) zinX11 rfl zw_520 dX11_image_162) (z_c (ok_iload_n dX11_image_165 rfl) (z_c (ok_callS zcal_158 zw_663 zw_664 dX11_image_166) (z_c (ok_iastore rfl dX11_image_169) (z_c (ok_aload_n dX11_image_170 rfl) (z_c (ok_iload_n dX11_image_171 rfl) (z_c (ok_iconst (v := (1)) dX11_image_172 (by decide)) z_n))))))))))))
noncomputable def tX11_image_8 : List (Nat × zF) := [(173, (zst 1 z_iadd)), (174, (zpf 11 13 (.int))), (177, (zla4 0 1)), (178, (zgf 11 13)), (181, (zri false))]
theorem kX11_image_8 : ∀ q ∈ tX11_image_8, zOk zg iX11_image q.1 q.2 := (z_c (ok_iadd dX11_image_173) (z_c (ok_putf (C := RX11) (T := TX11) (N := 16) false tyX11 tyX11_ok nmX11 rfl (by decide) zinX11 rfl zw_665 rfl (fun h => absurd h (by decide)) rfl dX11_image_174) (z_c (ok_aload_n dX11_image_177 rfl) (z_c (ok_getf (C := RX11) (T := TX11) (N := 16) rfl (by decide) zinX11 rfl zw_665 dX11_image_178) (z_c (ok_ireturn rfl dX11_image_181) z_n)))))
noncomputable def tX11_image : zT := [(21, tX11_image_0), (39, tX11_image_1), (65, tX11_image_2), (85, tX11_image_3), (109, tX11_image_4), (131, tX11_image_5), (153, tX11_image_6), (173, tX11_image_7), (100000, tX11_image_8)]
theorem kX11_image : zTok zg iX11_image tX11_image := (z_t kX11_image_0 (z_t kX11_image_1 (z_t kX11_image_2 (z_t kX11_image_3 (z_t kX11_image_4 (z_t kX11_image_5 (z_t kX11_image_6 (z_t kX11_image_7 (z_t kX11_image_8 z_tn)))))))))
theorem dX11_octet_0 : decode cX11_octet 0 = .ok (.iload_n 1, 1) := by decide +kernel
theorem dX11_octet_1 : decode cX11_octet 1 = .ok (.ifCond .lt 20, 3) := by decide +kernel
theorem dX11_octet_4 : decode cX11_octet 4 = .ok (.iload_n 1, 1) := by decide +kernel
theorem dX11_octet_5 : decode cX11_octet 5 = .ok (.aload_n 0, 1) := by decide +kernel
theorem dX11_octet_6 : decode cX11_octet 6 = .ok (.getfield 327, 3) := by decide +kernel
theorem dX11_octet_9 : decode cX11_octet 9 = .ok (.if_icmp .ge 12, 3) := by decide +kernel
theorem dX11_octet_12 : decode cX11_octet 12 = .ok (.aload_n 0, 1) := by decide +kernel
theorem dX11_octet_13 : decode cX11_octet 13 = .ok (.getfield 73, 3) := by decide +kernel
theorem dX11_octet_16 : decode cX11_octet 16 = .ok (.iload_n 1, 1) := by decide +kernel
theorem dX11_octet_17 : decode cX11_octet 17 = .ok (.iaload, 1) := by decide +kernel
theorem dX11_octet_18 : decode cX11_octet 18 = .ok (.goto 4, 3) := by decide +kernel
theorem dX11_octet_21 : decode cX11_octet 21 = .ok (.iconst (-1), 1) := by decide +kernel
theorem dX11_octet_22 : decode cX11_octet 22 = .ok (.ireturn, 1) := by decide +kernel
noncomputable def tX11_octet_0 : List (Nat × zF) := [(0, (zli4 1 1)), (1, (z_if_lt 21)), (4, (zli4 1 1)), (5, (zla4 0 1)), (6, (zgf 11 13)), (9, (z_ic_ge 21)), (12, (zla4 0 1)), (13, (zgf 11 12)), (16, (zli4 1 1)), (17, (zal 0)), (18, (zgt 22)), (21, (zst 1 (zp (.int ((-1))))))]
theorem kX11_octet_0 : ∀ q ∈ tX11_octet_0, zOk zg iX11_octet q.1 q.2 := (z_c (ok_iload_n dX11_octet_0 rfl) (z_c (ok_if_lt dX11_octet_1 (by decide)) (z_c (ok_iload_n dX11_octet_4 rfl) (z_c (ok_aload_n dX11_octet_5 rfl) (z_c (ok_getf (C := RX11) (T := TX11) (N := 16) rfl (by decide) zinX11 rfl zw_665 dX11_octet_6) (z_c (ok_icmp_ge dX11_octet_9 (by decide)) (z_c (ok_aload_n dX11_octet_12 rfl) (z_c (ok_getf (C := RX11) (T := TX11) (N := 16) rfl (by decide) zinX11 rfl zw_520 dX11_octet_13) (z_c (ok_iload_n dX11_octet_16 rfl) (z_c (ok_iaload rfl dX11_octet_17) (z_c (ok_goto dX11_octet_18 (by decide)) (z_c (ok_iconst (v := (-1)) dX11_octet_21 (by decide)) z_n))))))))))))
noncomputable def tX11_octet_1 : List (Nat × zF) := [(22, (zri false))]
theorem kX11_octet_1 : ∀ q ∈ tX11_octet_1, zOk zg iX11_octet q.1 q.2 := (z_c (ok_ireturn rfl dX11_octet_22) z_n)
noncomputable def tX11_octet : zT := [(22, tX11_octet_0), (100000, tX11_octet_1)]
theorem kX11_octet : zTok zg iX11_octet tX11_octet := (z_t kX11_octet_0 (z_t kX11_octet_1 z_tn))
theorem dX11_on_0 : decode cX11_on 0 = .ok (.aload_n 0, 1) := by decide +kernel
theorem dX11_on_1 : decode cX11_on 1 = .ok (.invokevirtual 97, 3) := by decide +kernel
theorem dX11_on_4 : decode cX11_on 4 = .ok (.istore_n 1, 1) := by decide +kernel
theorem dX11_on_5 : decode cX11_on 5 = .ok (.aload_n 0, 1) := by decide +kernel
theorem dX11_on_6 : decode cX11_on 6 = .ok (.iload_n 1, 1) := by decide +kernel
theorem dX11_on_7 : decode cX11_on 7 = .ok (.invokevirtual 330, 3) := by decide +kernel
theorem dX11_on_10 : decode cX11_on 10 = .ok (.ifCond .ne 9, 3) := by decide +kernel
theorem dX11_on_13 : decode cX11_on 13 = .ok (.aload_n 0, 1) := by decide +kernel
theorem dX11_on_14 : decode cX11_on 14 = .ok (.iconst 5, 1) := by decide +kernel
theorem dX11_on_15 : decode cX11_on 15 = .ok (.invokevirtual 93, 3) := by decide +kernel
theorem dX11_on_18 : decode cX11_on 18 = .ok (.ireturn, 1) := by decide +kernel
theorem dX11_on_19 : decode cX11_on 19 = .ok (.aload_n 0, 1) := by decide +kernel
theorem dX11_on_20 : decode cX11_on 20 = .ok (.getfield 39, 3) := by decide +kernel
theorem dX11_on_23 : decode cX11_on 23 = .ok (.aload_n 0, 1) := by decide +kernel
theorem dX11_on_24 : decode cX11_on 24 = .ok (.invokevirtual 333, 3) := by decide +kernel
theorem dX11_on_27 : decode cX11_on 27 = .ok (.putfield 149, 3) := by decide +kernel
theorem dX11_on_30 : decode cX11_on 30 = .ok (.aload_n 0, 1) := by decide +kernel
theorem dX11_on_31 : decode cX11_on 31 = .ok (.getfield 39, 3) := by decide +kernel
theorem dX11_on_34 : decode cX11_on 34 = .ok (.iconst 0, 1) := by decide +kernel
theorem dX11_on_35 : decode cX11_on 35 = .ok (.putfield 152, 3) := by decide +kernel
theorem dX11_on_38 : decode cX11_on 38 = .ok (.iconst 0, 1) := by decide +kernel
theorem dX11_on_39 : decode cX11_on 39 = .ok (.istore_n 2, 1) := by decide +kernel
theorem dX11_on_40 : decode cX11_on 40 = .ok (.iload_n 2, 1) := by decide +kernel
theorem dX11_on_41 : decode cX11_on 41 = .ok (.aload_n 0, 1) := by decide +kernel
theorem dX11_on_42 : decode cX11_on 42 = .ok (.getfield 20, 3) := by decide +kernel
theorem dX11_on_45 : decode cX11_on 45 = .ok (.getfield 143, 3) := by decide +kernel
theorem dX11_on_48 : decode cX11_on 48 = .ok (.if_icmp .ge 52, 3) := by decide +kernel
theorem dX11_on_51 : decode cX11_on 51 = .ok (.aload_n 0, 1) := by decide +kernel
theorem dX11_on_52 : decode cX11_on 52 = .ok (.getfield 39, 3) := by decide +kernel
theorem dX11_on_55 : decode cX11_on 55 = .ok (.dup, 1) := by decide +kernel
theorem dX11_on_56 : decode cX11_on 56 = .ok (.getfield 152, 3) := by decide +kernel
theorem dX11_on_59 : decode cX11_on 59 = .ok (.aload_n 0, 1) := by decide +kernel
theorem dX11_on_60 : decode cX11_on 60 = .ok (.getfield 9, 3) := by decide +kernel
theorem dX11_on_63 : decode cX11_on 63 = .ok (.iconst 2, 1) := by decide +kernel
theorem dX11_on_64 : decode cX11_on 64 = .ok (.iconst 2, 1) := by decide +kernel
theorem dX11_on_65 : decode cX11_on 65 = .ok (.iload_n 2, 1) := by decide +kernel
theorem dX11_on_66 : decode cX11_on 66 = .ok (.imul, 1) := by decide +kernel
theorem dX11_on_67 : decode cX11_on 67 = .ok (.iadd, 1) := by decide +kernel
theorem dX11_on_68 : decode cX11_on 68 = .ok (.iaload, 1) := by decide +kernel
theorem dX11_on_69 : decode cX11_on 69 = .ok (.iload_n 2, 1) := by decide +kernel
theorem dX11_on_70 : decode cX11_on 70 = .ok (.ishl, 1) := by decide +kernel
theorem dX11_on_71 : decode cX11_on 71 = .ok (.ior, 1) := by decide +kernel
theorem dX11_on_72 : decode cX11_on 72 = .ok (.putfield 152, 3) := by decide +kernel
theorem dX11_on_75 : decode cX11_on 75 = .ok (.aload_n 0, 1) := by decide +kernel
theorem dX11_on_76 : decode cX11_on 76 = .ok (.getfield 39, 3) := by decide +kernel
theorem dX11_on_79 : decode cX11_on 79 = .ok (.getfield 223, 3) := by decide +kernel
theorem dX11_on_82 : decode cX11_on 82 = .ok (.iload_n 2, 1) := by decide +kernel
theorem dX11_on_83 : decode cX11_on 83 = .ok (.aload_n 0, 1) := by decide +kernel
theorem dX11_on_84 : decode cX11_on 84 = .ok (.getfield 9, 3) := by decide +kernel
theorem dX11_on_87 : decode cX11_on 87 = .ok (.iconst 3, 1) := by decide +kernel
theorem dX11_on_88 : decode cX11_on 88 = .ok (.iconst 2, 1) := by decide +kernel
theorem dX11_on_89 : decode cX11_on 89 = .ok (.iload_n 2, 1) := by decide +kernel
theorem dX11_on_90 : decode cX11_on 90 = .ok (.imul, 1) := by decide +kernel
theorem dX11_on_91 : decode cX11_on 91 = .ok (.iadd, 1) := by decide +kernel
theorem dX11_on_92 : decode cX11_on 92 = .ok (.iaload, 1) := by decide +kernel
theorem dX11_on_93 : decode cX11_on 93 = .ok (.iastore, 1) := by decide +kernel
theorem dX11_on_94 : decode cX11_on 94 = .ok (.iinc 2 1, 3) := by decide +kernel
theorem dX11_on_97 : decode cX11_on 97 = .ok (.goto (-57), 3) := by decide +kernel
theorem dX11_on_100 : decode cX11_on 100 = .ok (.iconst 2, 1) := by decide +kernel
theorem dX11_on_101 : decode cX11_on 101 = .ok (.iconst 2, 1) := by decide +kernel
theorem dX11_on_102 : decode cX11_on 102 = .ok (.aload_n 0, 1) := by decide +kernel
theorem dX11_on_103 : decode cX11_on 103 = .ok (.getfield 20, 3) := by decide +kernel
theorem dX11_on_106 : decode cX11_on 106 = .ok (.getfield 143, 3) := by decide +kernel
theorem dX11_on_109 : decode cX11_on 109 = .ok (.imul, 1) := by decide +kernel
theorem dX11_on_110 : decode cX11_on 110 = .ok (.iadd, 1) := by decide +kernel
theorem dX11_on_111 : decode cX11_on 111 = .ok (.istore_n 2, 1) := by decide +kernel
theorem dX11_on_112 : decode cX11_on 112 = .ok (.iconst 0, 1) := by decide +kernel
theorem dX11_on_113 : decode cX11_on 113 = .ok (.istore_n 3, 1) := by decide +kernel
theorem dX11_on_114 : decode cX11_on 114 = .ok (.iload_n 3, 1) := by decide +kernel
theorem dX11_on_115 : decode cX11_on 115 = .ok (.aload_n 0, 1) := by decide +kernel
theorem dX11_on_116 : decode cX11_on 116 = .ok (.getfield 20, 3) := by decide +kernel
theorem dX11_on_119 : decode cX11_on 119 = .ok (.getfield 146, 3) := by decide +kernel
theorem dX11_on_122 : decode cX11_on 122 = .ok (.if_icmp .ge 43, 3) := by decide +kernel
theorem dX11_on_125 : decode cX11_on 125 = .ok (.aload_n 0, 1) := by decide +kernel
theorem dX11_on_126 : decode cX11_on 126 = .ok (.getfield 39, 3) := by decide +kernel
theorem dX11_on_129 : decode cX11_on 129 = .ok (.getfield 230, 3) := by decide +kernel
theorem dX11_on_132 : decode cX11_on 132 = .ok (.iload_n 3, 1) := by decide +kernel
theorem dX11_on_133 : decode cX11_on 133 = .ok (.aload_n 0, 1) := by decide +kernel
theorem dX11_on_134 : decode cX11_on 134 = .ok (.getfield 9, 3) := by decide +kernel
theorem dX11_on_137 : decode cX11_on 137 = .ok (.iload_n 2, 1) := by decide +kernel
theorem dX11_on_138 : decode cX11_on 138 = .ok (.iconst 2, 1) := by decide +kernel
theorem dX11_on_139 : decode cX11_on 139 = .ok (.iload_n 3, 1) := by decide +kernel
theorem dX11_on_140 : decode cX11_on 140 = .ok (.imul, 1) := by decide +kernel
theorem dX11_on_141 : decode cX11_on 141 = .ok (.iadd, 1) := by decide +kernel
theorem dX11_on_142 : decode cX11_on 142 = .ok (.iaload, 1) := by decide +kernel
theorem dX11_on_143 : decode cX11_on 143 = .ok (.aload_n 0, 1) := by decide +kernel
theorem dX11_on_144 : decode cX11_on 144 = .ok (.getfield 9, 3) := by decide +kernel
theorem dX11_on_147 : decode cX11_on 147 = .ok (.iload_n 2, 1) := by decide +kernel
theorem dX11_on_148 : decode cX11_on 148 = .ok (.iconst 2, 1) := by decide +kernel
theorem dX11_on_149 : decode cX11_on 149 = .ok (.iload_n 3, 1) := by decide +kernel
theorem dX11_on_150 : decode cX11_on 150 = .ok (.imul, 1) := by decide +kernel
theorem dX11_on_151 : decode cX11_on 151 = .ok (.iadd, 1) := by decide +kernel
theorem dX11_on_152 : decode cX11_on 152 = .ok (.iconst 1, 1) := by decide +kernel
theorem dX11_on_153 : decode cX11_on 153 = .ok (.iadd, 1) := by decide +kernel
theorem dX11_on_154 : decode cX11_on 154 = .ok (.iaload, 1) := by decide +kernel
theorem dX11_on_155 : decode cX11_on 155 = .ok (.invokestatic 194, 3) := by decide +kernel
theorem dX11_on_158 : decode cX11_on 158 = .ok (.iastore, 1) := by decide +kernel
theorem dX11_on_159 : decode cX11_on 159 = .ok (.iinc 3 1, 3) := by decide +kernel
theorem dX11_on_162 : decode cX11_on 162 = .ok (.goto (-48), 3) := by decide +kernel
theorem dX11_on_165 : decode cX11_on 165 = .ok (.aload_n 0, 1) := by decide +kernel
theorem dX11_on_166 : decode cX11_on 166 = .ok (.invokevirtual 119, 3) := by decide +kernel
theorem dX11_on_169 : decode cX11_on 169 = .ok (.iconst 1, 1) := by decide +kernel
theorem dX11_on_170 : decode cX11_on 170 = .ok (.ireturn, 1) := by decide +kernel
noncomputable def tX11_on_0 : List (Nat × zF) := [(0, (zla4 0 1)), (1, (zcv 147 0 11)), (4, (zsi4 4 1 1)), (5, (zla4 0 1)), (6, (zli4 1 1)), (7, (zcv 157 1 11)), (10, (z_if_ne 19)), (13, (zla4 0 1)), (14, (zst 1 (zp (.int (5))))), (15, (zcv 145 1 11)), (18, (zri true)), (19, (zla4 0 1))]
theorem kX11_on_0 : ∀ q ∈ tX11_on_0, zOk zg iX11_on q.1 q.2 := (z_c (ok_aload_n dX11_on_0 rfl) (z_c (ok_callV zcal_147 (q := (RX11, TX11, 16)) rfl zw_533 zw_534 zw_535 dX11_on_1) (z_c (ok_istore_n dX11_on_4 rfl) (z_c (ok_aload_n dX11_on_5 rfl) (z_c (ok_iload_n dX11_on_6 rfl) (z_c (ok_callV zcal_157 (q := (RX11, TX11, 16)) rfl zw_666 zw_667 zw_668 dX11_on_7) (z_c (ok_if_ne dX11_on_10 (by decide)) (z_c (ok_aload_n dX11_on_13 rfl) (z_c (ok_iconst (v := (5)) dX11_on_14 (by decide)) (z_c (ok_callV zcal_145 (q := (RX11, TX11, 16)) rfl zw_530 zw_531 zw_532 dX11_on_15) (z_c (ok_zreturn rfl dX11_on_18) (z_c (ok_aload_n dX11_on_19 rfl) z_n))))))))))))
noncomputable def tX11_on_1 : List (Nat × zF) := [(20, (zgf 11 7)), (23, (zla4 0 1)), (24, (zcv 156 0 11)), (27, (zpf 8 0 (.int))), (30, (zla4 0 1)), (31, (zgf 11 7)), (34, (zst 1 (zp (.int (0))))), (35, (zpf 8 1 (.int))), (38, (zst 1 (zp (.int (0))))), (39, (zsi4 4 2 1)), (40, (zli4 2 1)), (41, (zla4 0 1))]
theorem kX11_on_1 : ∀ q ∈ tX11_on_1, zOk zg iX11_on q.1 q.2 := (z_c (ok_getf (C := RX11) (T := TX11) (N := 16) rfl (by decide) zinX11 rfl zw_499 dX11_on_20) (z_c (ok_aload_n dX11_on_23 rfl) (z_c (ok_callV zcal_156 (q := (RX11, TX11, 16)) rfl zw_669 zw_670 zw_671 dX11_on_24) (z_c (ok_putf (C := RX8) (T := TX8) (N := 6) false tyX8 tyX8_ok nmX8 rfl (by decide) zinX8 rfl zw_566 rfl (fun h => absurd h (by decide)) rfl dX11_on_27) (z_c (ok_aload_n dX11_on_30 rfl) (z_c (ok_getf (C := RX11) (T := TX11) (N := 16) rfl (by decide) zinX11 rfl zw_499 dX11_on_31) (z_c (ok_iconst (v := (0)) dX11_on_34 (by decide)) (z_c (ok_putf (C := RX8) (T := TX8) (N := 6) false tyX8 tyX8_ok nmX8 rfl (by decide) zinX8 rfl zw_567 rfl (fun h => absurd h (by decide)) rfl dX11_on_35) (z_c (ok_iconst (v := (0)) dX11_on_38 (by decide)) (z_c (ok_istore_n dX11_on_39 rfl) (z_c (ok_iload_n dX11_on_40 rfl) (z_c (ok_aload_n dX11_on_41 rfl) z_n))))))))))))
noncomputable def tX11_on_2 : List (Nat × zF) := [(42, (zgf 11 4)), (45, (zgf 4 7)), (48, (z_ic_ge 100)), (51, (zla4 0 1)), (52, (zgf 11 7)), (55, (zst 1 zdu)), (56, (zgf 8 1)), (59, (zla4 0 1)), (60, (zgf 11 0)), (63, (zst 1 (zp (.int (2))))), (64, (zst 1 (zp (.int (2))))), (65, (zli4 2 1))]
theorem kX11_on_2 : ∀ q ∈ tX11_on_2, zOk zg iX11_on q.1 q.2 := (z_c (ok_getf (C := RX11) (T := TX11) (N := 16) rfl (by decide) zinX11 rfl zw_490 dX11_on_42) (z_c (ok_getf (C := RX4) (T := TX4) (N := 18) rfl (by decide) zinX4 rfl zw_564 dX11_on_45) (z_c (ok_icmp_ge dX11_on_48 (by decide)) (z_c (ok_aload_n dX11_on_51 rfl) (z_c (ok_getf (C := RX11) (T := TX11) (N := 16) rfl (by decide) zinX11 rfl zw_499 dX11_on_52) (z_c (ok_dup dX11_on_55) (z_c (ok_getf (C := RX8) (T := TX8) (N := 6) rfl (by decide) zinX8 rfl zw_567 dX11_on_56) (z_c (ok_aload_n dX11_on_59 rfl) (z_c (ok_getf (C := RX11) (T := TX11) (N := 16) rfl (by decide) zinX11 rfl zw_484 dX11_on_60) (z_c (ok_iconst (v := (2)) dX11_on_63 (by decide)) (z_c (ok_iconst (v := (2)) dX11_on_64 (by decide)) (z_c (ok_iload_n dX11_on_65 rfl) z_n))))))))))))
noncomputable def tX11_on_3 : List (Nat × zF) := [(66, (zst 1 z_imul)), (67, (zst 1 z_iadd)), (68, (zal 0)), (69, (zli4 2 1)), (70, (zst 1 z_ishl)), (71, (zst 1 z_ior)), (72, (zpf 8 1 (.int))), (75, (zla4 0 1)), (76, (zgf 11 7)), (79, (zgf 8 2)), (82, (zli4 2 1)), (83, (zla4 0 1))]
theorem kX11_on_3 : ∀ q ∈ tX11_on_3, zOk zg iX11_on q.1 q.2 := (z_c (ok_imul dX11_on_66) (z_c (ok_iadd dX11_on_67) (z_c (ok_iaload rfl dX11_on_68) (z_c (ok_iload_n dX11_on_69 rfl) (z_c (ok_ishl dX11_on_70) (z_c (ok_ior dX11_on_71) (z_c (ok_putf (C := RX8) (T := TX8) (N := 6) false tyX8 tyX8_ok nmX8 rfl (by decide) zinX8 rfl zw_567 rfl (fun h => absurd h (by decide)) rfl dX11_on_72) (z_c (ok_aload_n dX11_on_75 rfl) (z_c (ok_getf (C := RX11) (T := TX11) (N := 16) rfl (by decide) zinX11 rfl zw_499 dX11_on_76) (z_c (ok_getf (C := RX8) (T := TX8) (N := 6) rfl (by decide) zinX8 rfl zw_598 dX11_on_79) (z_c (ok_iload_n dX11_on_82 rfl) (z_c (ok_aload_n dX11_on_83 rfl) z_n))))))))))))
noncomputable def tX11_on_4 : List (Nat × zF) := [(84, (zgf 11 0)), (87, (zst 1 (zp (.int (3))))), (88, (zst 1 (zp (.int (2))))), (89, (zli4 2 1)), (90, (zst 1 z_imul)), (91, (zst 1 z_iadd)), (92, (zal 0)), (93, (zas 0)), (94, (zin4 4 2 (1))), (97, (zgt 40)), (100, (zst 1 (zp (.int (2))))), (101, (zst 1 (zp (.int (2)))))]
theorem kX11_on_4 : ∀ q ∈ tX11_on_4, zOk zg iX11_on q.1 q.2 := (z_c (ok_getf (C := RX11) (T := TX11) (N := 16) rfl (by decide) zinX11 rfl zw_484 dX11_on_84) (z_c (ok_iconst (v := (3)) dX11_on_87 (by decide)) (z_c (ok_iconst (v := (2)) dX11_on_88 (by decide)) (z_c (ok_iload_n dX11_on_89 rfl) (z_c (ok_imul dX11_on_90) (z_c (ok_iadd dX11_on_91) (z_c (ok_iaload rfl dX11_on_92) (z_c (ok_iastore rfl dX11_on_93) (z_c (ok_iinc (v := (1)) dX11_on_94 (by decide)) (z_c (ok_goto dX11_on_97 (by decide)) (z_c (ok_iconst (v := (2)) dX11_on_100 (by decide)) (z_c (ok_iconst (v := (2)) dX11_on_101 (by decide)) z_n))))))))))))
noncomputable def tX11_on_5 : List (Nat × zF) := [(102, (zla4 0 1)), (103, (zgf 11 4)), (106, (zgf 4 7)), (109, (zst 1 z_imul)), (110, (zst 1 z_iadd)), (111, (zsi4 4 2 1)), (112, (zst 1 (zp (.int (0))))), (113, (zsi4 4 3 1)), (114, (zli4 3 1)), (115, (zla4 0 1)), (116, (zgf 11 4)), (119, (zgf 4 13))]
theorem kX11_on_5 : ∀ q ∈ tX11_on_5, zOk zg iX11_on q.1 q.2 := (z_c (ok_aload_n dX11_on_102 rfl) (z_c (ok_getf (C := RX11) (T := TX11) (N := 16) rfl (by decide) zinX11 rfl zw_490 dX11_on_103) (z_c (ok_getf (C := RX4) (T := TX4) (N := 18) rfl (by decide) zinX4 rfl zw_564 dX11_on_106) (z_c (ok_imul dX11_on_109) (z_c (ok_iadd dX11_on_110) (z_c (ok_istore_n dX11_on_111 rfl) (z_c (ok_iconst (v := (0)) dX11_on_112 (by decide)) (z_c (ok_istore_n dX11_on_113 rfl) (z_c (ok_iload_n dX11_on_114 rfl) (z_c (ok_aload_n dX11_on_115 rfl) (z_c (ok_getf (C := RX11) (T := TX11) (N := 16) rfl (by decide) zinX11 rfl zw_490 dX11_on_116) (z_c (ok_getf (C := RX4) (T := TX4) (N := 18) rfl (by decide) zinX4 rfl zw_565 dX11_on_119) z_n))))))))))))
noncomputable def tX11_on_6 : List (Nat × zF) := [(122, (z_ic_ge 165)), (125, (zla4 0 1)), (126, (zgf 11 7)), (129, (zgf 8 3)), (132, (zli4 3 1)), (133, (zla4 0 1)), (134, (zgf 11 0)), (137, (zli4 2 1)), (138, (zst 1 (zp (.int (2))))), (139, (zli4 3 1)), (140, (zst 1 z_imul)), (141, (zst 1 z_iadd))]
theorem kX11_on_6 : ∀ q ∈ tX11_on_6, zOk zg iX11_on q.1 q.2 := (z_c (ok_icmp_ge dX11_on_122 (by decide)) (z_c (ok_aload_n dX11_on_125 rfl) (z_c (ok_getf (C := RX11) (T := TX11) (N := 16) rfl (by decide) zinX11 rfl zw_499 dX11_on_126) (z_c (ok_getf (C := RX8) (T := TX8) (N := 6) rfl (by decide) zinX8 rfl zw_600 dX11_on_129) (z_c (ok_iload_n dX11_on_132 rfl) (z_c (ok_aload_n dX11_on_133 rfl) (z_c (ok_getf (C := RX11) (T := TX11) (N := 16) rfl (by decide) zinX11 rfl zw_484 dX11_on_134) (z_c (ok_iload_n dX11_on_137 rfl) (z_c (ok_iconst (v := (2)) dX11_on_138 (by decide)) (z_c (ok_iload_n dX11_on_139 rfl) (z_c (ok_imul dX11_on_140) (z_c (ok_iadd dX11_on_141) z_n))))))))))))
noncomputable def tX11_on_7 : List (Nat × zF) := [(142, (zal 0)), (143, (zla4 0 1)), (144, (zgf 11 0)), (147, (zli4 2 1)), (148, (zst 1 (zp (.int (2))))), (149, (zli4 3 1)), (150, (zst 1 z_imul)), (151, (zst 1 z_iadd)), (152, (zst 1 (zp (.int (1))))), (153, (zst 1 z_iadd)), (154, (zal 0)), (155, (zcs 160 2))]
theorem kX11_on_7 : ∀ q ∈ tX11_on_7, zOk zg iX11_on q.1 q.2 := (z_c (ok_iaload rfl dX11_on_142) (z_c (ok_aload_n dX11_on_143 rfl) (z_c (ok_getf (C := RX11) (T := TX11) (N := 16) rfl (by decide) zinX11 rfl zw_484 dX11_on_144) (z_c (ok_iload_n dX11_on_147 rfl) (z_c (ok_iconst (v := (2)) dX11_on_148 (by decide)) (z_c (ok_iload_n dX11_on_149 rfl) (z_c (ok_imul dX11_on_150) (z_c (ok_iadd dX11_on_151) (z_c (ok_iconst (v := (1)) dX11_on_152 (by decide)) (z_c (ok_iadd dX11_on_153) (z_c (ok_iaload rfl dX11_on_154) (z_c (ok_callS zcal_160 zw_585 zw_198 dX11_on_155) z_n))))))))))))
noncomputable def tX11_on_8 : List (Nat × zF) := [(158, (zas 0)), (159, (zin4 4 3 (1))), (162, (zgt 114)), (165, (zla4 0 1)), (166, (zcv 148 0 11)), (169, (zst 1 (zp (.int (1))))), (170, (zri true))]
theorem kX11_on_8 : ∀ q ∈ tX11_on_8, zOk zg iX11_on q.1 q.2 := (z_c (ok_iastore rfl dX11_on_158) (z_c (ok_iinc (v := (1)) dX11_on_159 (by decide)) (z_c (ok_goto dX11_on_162 (by decide)) (z_c (ok_aload_n dX11_on_165 rfl) (z_c (ok_callV zcal_148 (q := (RX11, TX11, 16)) rfl zw_552 zw_553 zw_554 dX11_on_166) (z_c (ok_iconst (v := (1)) dX11_on_169 (by decide)) (z_c (ok_zreturn rfl dX11_on_170) z_n)))))))
noncomputable def tX11_on : zT := [(20, tX11_on_0), (42, tX11_on_1), (66, tX11_on_2), (84, tX11_on_3), (102, tX11_on_4), (122, tX11_on_5), (142, tX11_on_6), (158, tX11_on_7), (100000, tX11_on_8)]
theorem kX11_on : zTok zg iX11_on tX11_on := (z_t kX11_on_0 (z_t kX11_on_1 (z_t kX11_on_2 (z_t kX11_on_3 (z_t kX11_on_4 (z_t kX11_on_5 (z_t kX11_on_6 (z_t kX11_on_7 (z_t kX11_on_8 z_tn)))))))))
theorem dX11_status_0 : decode cX11_status 0 = .ok (.iload_n 1, 1) := by decide +kernel
theorem dX11_status_1 : decode cX11_status 1 = .ok (.ifCond .lt 18, 3) := by decide +kernel
theorem dX11_status_4 : decode cX11_status 4 = .ok (.iload_n 1, 1) := by decide +kernel
theorem dX11_status_5 : decode cX11_status 5 = .ok (.bipush 6, 2) := by decide +kernel
theorem dX11_status_7 : decode cX11_status 7 = .ok (.if_icmp .ge 12, 3) := by decide +kernel
theorem dX11_status_10 : decode cX11_status 10 = .ok (.aload_n 0, 1) := by decide +kernel
theorem dX11_status_11 : decode cX11_status 11 = .ok (.getfield 76, 3) := by decide +kernel
theorem dX11_status_14 : decode cX11_status 14 = .ok (.iload_n 1, 1) := by decide +kernel
theorem dX11_status_15 : decode cX11_status 15 = .ok (.iaload, 1) := by decide +kernel
theorem dX11_status_16 : decode cX11_status 16 = .ok (.goto 4, 3) := by decide +kernel
theorem dX11_status_19 : decode cX11_status 19 = .ok (.iconst (-1), 1) := by decide +kernel
theorem dX11_status_20 : decode cX11_status 20 = .ok (.ireturn, 1) := by decide +kernel
noncomputable def tX11_status_0 : List (Nat × zF) := [(0, (zli4 1 1)), (1, (z_if_lt 19)), (4, (zli4 1 1)), (5, (zst 2 (zp (.int (6))))), (7, (z_ic_ge 19)), (10, (zla4 0 1)), (11, (zgf 11 14)), (14, (zli4 1 1)), (15, (zal 0)), (16, (zgt 20)), (19, (zst 1 (zp (.int ((-1)))))), (20, (zri false))]
theorem kX11_status_0 : ∀ q ∈ tX11_status_0, zOk zg iX11_status q.1 q.2 := (z_c (ok_iload_n dX11_status_0 rfl) (z_c (ok_if_lt dX11_status_1 (by decide)) (z_c (ok_iload_n dX11_status_4 rfl) (z_c (ok_bipush (v := (6)) dX11_status_5 (by decide)) (z_c (ok_icmp_ge dX11_status_7 (by decide)) (z_c (ok_aload_n dX11_status_10 rfl) (z_c (ok_getf (C := RX11) (T := TX11) (N := 16) rfl (by decide) zinX11 rfl zw_521 dX11_status_11) (z_c (ok_iload_n dX11_status_14 rfl) (z_c (ok_iaload rfl dX11_status_15) (z_c (ok_goto dX11_status_16 (by decide)) (z_c (ok_iconst (v := (-1)) dX11_status_19 (by decide)) (z_c (ok_ireturn rfl dX11_status_20) z_n))))))))))))
noncomputable def tX11_status : zT := [(100000, tX11_status_0)]
theorem kX11_status : zTok zg iX11_status tX11_status := (z_t kX11_status_0 z_tn)
theorem dX11_refuse_0 : decode cX11_refuse 0 = .ok (.aload_n 0, 1) := by decide +kernel
theorem dX11_refuse_1 : decode cX11_refuse 1 = .ok (.getfield 76, 3) := by decide +kernel
theorem dX11_refuse_4 : decode cX11_refuse 4 = .ok (.iload_n 1, 1) := by decide +kernel
theorem dX11_refuse_5 : decode cX11_refuse 5 = .ok (.dup2, 1) := by decide +kernel
theorem dX11_refuse_6 : decode cX11_refuse 6 = .ok (.iaload, 1) := by decide +kernel
theorem dX11_refuse_7 : decode cX11_refuse 7 = .ok (.iconst 1, 1) := by decide +kernel
theorem dX11_refuse_8 : decode cX11_refuse 8 = .ok (.iadd, 1) := by decide +kernel
theorem dX11_refuse_9 : decode cX11_refuse 9 = .ok (.iastore, 1) := by decide +kernel
theorem dX11_refuse_10 : decode cX11_refuse 10 = .ok (.iconst (-1), 1) := by decide +kernel
theorem dX11_refuse_11 : decode cX11_refuse 11 = .ok (.ireturn, 1) := by decide +kernel
noncomputable def tX11_refuse_0 : List (Nat × zF) := [(0, (zla4 0 1)), (1, (zgf 11 14)), (4, (zli4 1 1)), (5, (zst 1 zd2)), (6, (zal 0)), (7, (zst 1 (zp (.int (1))))), (8, (zst 1 z_iadd)), (9, (zas 0)), (10, (zst 1 (zp (.int ((-1)))))), (11, (zri false))]
theorem kX11_refuse_0 : ∀ q ∈ tX11_refuse_0, zOk zg iX11_refuse q.1 q.2 := (z_c (ok_aload_n dX11_refuse_0 rfl) (z_c (ok_getf (C := RX11) (T := TX11) (N := 16) rfl (by decide) zinX11 rfl zw_521 dX11_refuse_1) (z_c (ok_iload_n dX11_refuse_4 rfl) (z_c (ok_dup2 dX11_refuse_5) (z_c (ok_iaload rfl dX11_refuse_6) (z_c (ok_iconst (v := (1)) dX11_refuse_7 (by decide)) (z_c (ok_iadd dX11_refuse_8) (z_c (ok_iastore rfl dX11_refuse_9) (z_c (ok_iconst (v := (-1)) dX11_refuse_10 (by decide)) (z_c (ok_ireturn rfl dX11_refuse_11) z_n))))))))))
noncomputable def tX11_refuse : zT := [(100000, tX11_refuse_0)]
theorem kX11_refuse : zTok zg iX11_refuse tX11_refuse := (z_t kX11_refuse_0 z_tn)
theorem dX11_refused_0 : decode cX11_refused 0 = .ok (.aload_n 0, 1) := by decide +kernel
theorem dX11_refused_1 : decode cX11_refused 1 = .ok (.getfield 76, 3) := by decide +kernel
theorem dX11_refused_4 : decode cX11_refused 4 = .ok (.iload_n 1, 1) := by decide +kernel
theorem dX11_refused_5 : decode cX11_refused 5 = .ok (.dup2, 1) := by decide +kernel
theorem dX11_refused_6 : decode cX11_refused 6 = .ok (.iaload, 1) := by decide +kernel
theorem dX11_refused_7 : decode cX11_refused 7 = .ok (.iconst 1, 1) := by decide +kernel
theorem dX11_refused_8 : decode cX11_refused 8 = .ok (.iadd, 1) := by decide +kernel
theorem dX11_refused_9 : decode cX11_refused 9 = .ok (.iastore, 1) := by decide +kernel
theorem dX11_refused_10 : decode cX11_refused 10 = .ok (.iconst 0, 1) := by decide +kernel
theorem dX11_refused_11 : decode cX11_refused 11 = .ok (.ireturn, 1) := by decide +kernel
noncomputable def tX11_refused_0 : List (Nat × zF) := [(0, (zla4 0 1)), (1, (zgf 11 14)), (4, (zli4 1 1)), (5, (zst 1 zd2)), (6, (zal 0)), (7, (zst 1 (zp (.int (1))))), (8, (zst 1 z_iadd)), (9, (zas 0)), (10, (zst 1 (zp (.int (0))))), (11, (zri true))]
theorem kX11_refused_0 : ∀ q ∈ tX11_refused_0, zOk zg iX11_refused q.1 q.2 := (z_c (ok_aload_n dX11_refused_0 rfl) (z_c (ok_getf (C := RX11) (T := TX11) (N := 16) rfl (by decide) zinX11 rfl zw_521 dX11_refused_1) (z_c (ok_iload_n dX11_refused_4 rfl) (z_c (ok_dup2 dX11_refused_5) (z_c (ok_iaload rfl dX11_refused_6) (z_c (ok_iconst (v := (1)) dX11_refused_7 (by decide)) (z_c (ok_iadd dX11_refused_8) (z_c (ok_iastore rfl dX11_refused_9) (z_c (ok_iconst (v := (0)) dX11_refused_10 (by decide)) (z_c (ok_zreturn rfl dX11_refused_11) z_n))))))))))
noncomputable def tX11_refused : zT := [(100000, tX11_refused_0)]
theorem kX11_refused : zTok zg iX11_refused tX11_refused := (z_t kX11_refused_0 z_tn)
theorem dX11_putOnTape_0 : decode cX11_putOnTape 0 = .ok (.bipush 24, 2) := by decide +kernel
theorem dX11_putOnTape_2 : decode cX11_putOnTape 2 = .ok (.istore_n 2, 1) := by decide +kernel
theorem dX11_putOnTape_3 : decode cX11_putOnTape 3 = .ok (.iload_n 2, 1) := by decide +kernel
theorem dX11_putOnTape_4 : decode cX11_putOnTape 4 = .ok (.ifCond .lt 35, 3) := by decide +kernel
theorem dX11_putOnTape_7 : decode cX11_putOnTape 7 = .ok (.aload_n 0, 1) := by decide +kernel
theorem dX11_putOnTape_8 : decode cX11_putOnTape 8 = .ok (.getfield 9, 3) := by decide +kernel
theorem dX11_putOnTape_11 : decode cX11_putOnTape 11 = .ok (.aload_n 0, 1) := by decide +kernel
theorem dX11_putOnTape_12 : decode cX11_putOnTape 12 = .ok (.getfield 82, 3) := by decide +kernel
theorem dX11_putOnTape_15 : decode cX11_putOnTape 15 = .ok (.iload_n 1, 1) := by decide +kernel
theorem dX11_putOnTape_16 : decode cX11_putOnTape 16 = .ok (.iload_n 2, 1) := by decide +kernel
theorem dX11_putOnTape_17 : decode cX11_putOnTape 17 = .ok (.iushr, 1) := by decide +kernel
theorem dX11_putOnTape_18 : decode cX11_putOnTape 18 = .ok (.sipush 255, 3) := by decide +kernel
theorem dX11_putOnTape_21 : decode cX11_putOnTape 21 = .ok (.iand, 1) := by decide +kernel
theorem dX11_putOnTape_22 : decode cX11_putOnTape 22 = .ok (.iastore, 1) := by decide +kernel
theorem dX11_putOnTape_23 : decode cX11_putOnTape 23 = .ok (.aload_n 0, 1) := by decide +kernel
theorem dX11_putOnTape_24 : decode cX11_putOnTape 24 = .ok (.dup, 1) := by decide +kernel
theorem dX11_putOnTape_25 : decode cX11_putOnTape 25 = .ok (.getfield 82, 3) := by decide +kernel
theorem dX11_putOnTape_28 : decode cX11_putOnTape 28 = .ok (.iconst 1, 1) := by decide +kernel
theorem dX11_putOnTape_29 : decode cX11_putOnTape 29 = .ok (.iadd, 1) := by decide +kernel
theorem dX11_putOnTape_30 : decode cX11_putOnTape 30 = .ok (.putfield 82, 3) := by decide +kernel
theorem dX11_putOnTape_33 : decode cX11_putOnTape 33 = .ok (.iinc 2 (-8), 3) := by decide +kernel
theorem dX11_putOnTape_36 : decode cX11_putOnTape 36 = .ok (.goto (-33), 3) := by decide +kernel
theorem dX11_putOnTape_39 : decode cX11_putOnTape 39 = .ok (.return_, 1) := by decide +kernel
noncomputable def tX11_putOnTape_0 : List (Nat × zF) := [(0, (zst 2 (zp (.int (24))))), (2, (zsi4 3 2 1)), (3, (zli4 2 1)), (4, (z_if_lt 39)), (7, (zla4 0 1)), (8, (zgf 11 0)), (11, (zla4 0 1)), (12, (zgf 11 1)), (15, (zli4 1 1)), (16, (zli4 2 1)), (17, (zst 1 z_iushr)), (18, (zst 3 (zp (.int (255)))))]
theorem kX11_putOnTape_0 : ∀ q ∈ tX11_putOnTape_0, zOk zg iX11_putOnTape q.1 q.2 := (z_c (ok_bipush (v := (24)) dX11_putOnTape_0 (by decide)) (z_c (ok_istore_n dX11_putOnTape_2 rfl) (z_c (ok_iload_n dX11_putOnTape_3 rfl) (z_c (ok_if_lt dX11_putOnTape_4 (by decide)) (z_c (ok_aload_n dX11_putOnTape_7 rfl) (z_c (ok_getf (C := RX11) (T := TX11) (N := 16) rfl (by decide) zinX11 rfl zw_484 dX11_putOnTape_8) (z_c (ok_aload_n dX11_putOnTape_11 rfl) (z_c (ok_getf (C := RX11) (T := TX11) (N := 16) rfl (by decide) zinX11 rfl zw_523 dX11_putOnTape_12) (z_c (ok_iload_n dX11_putOnTape_15 rfl) (z_c (ok_iload_n dX11_putOnTape_16 rfl) (z_c (ok_iushr dX11_putOnTape_17) (z_c (ok_sipush (v := (255)) dX11_putOnTape_18 (by decide)) z_n))))))))))))
noncomputable def tX11_putOnTape_1 : List (Nat × zF) := [(21, (zst 1 z_iand)), (22, (zas 0)), (23, (zla4 0 1)), (24, (zst 1 zdu)), (25, (zgf 11 1)), (28, (zst 1 (zp (.int (1))))), (29, (zst 1 z_iadd)), (30, (zpf 11 1 (.int))), (33, (zin4 3 2 (-8))), (36, (zgt 3)), (39, zrv)]
theorem kX11_putOnTape_1 : ∀ q ∈ tX11_putOnTape_1, zOk zg iX11_putOnTape q.1 q.2 := (z_c (ok_iand dX11_putOnTape_21) (z_c (ok_iastore rfl dX11_putOnTape_22) (z_c (ok_aload_n dX11_putOnTape_23 rfl) (z_c (ok_dup dX11_putOnTape_24) (z_c (ok_getf (C := RX11) (T := TX11) (N := 16) rfl (by decide) zinX11 rfl zw_523 dX11_putOnTape_25) (z_c (ok_iconst (v := (1)) dX11_putOnTape_28 (by decide)) (z_c (ok_iadd dX11_putOnTape_29) (z_c (ok_putf (C := RX11) (T := TX11) (N := 16) false tyX11 tyX11_ok nmX11 rfl (by decide) zinX11 rfl zw_523 rfl (fun h => absurd h (by decide)) rfl dX11_putOnTape_30) (z_c (ok_iinc (v := (-8)) dX11_putOnTape_33 (by decide)) (z_c (ok_goto dX11_putOnTape_36 (by decide)) (z_c (ok_return rfl dX11_putOnTape_39) z_n)))))))))))
noncomputable def tX11_putOnTape : zT := [(21, tX11_putOnTape_0), (100000, tX11_putOnTape_1)]
theorem kX11_putOnTape : zTok zg iX11_putOnTape tX11_putOnTape := (z_t kX11_putOnTape_0 (z_t kX11_putOnTape_1 z_tn))
theorem dX11_takeTape_0 : decode cX11_takeTape 0 = .ok (.aload_n 0, 1) := by decide +kernel
theorem dX11_takeTape_1 : decode cX11_takeTape 1 = .ok (.getfield 82, 3) := by decide +kernel
theorem dX11_takeTape_4 : decode cX11_takeTape 4 = .ok (.istore_n 1, 1) := by decide +kernel
theorem dX11_takeTape_5 : decode cX11_takeTape 5 = .ok (.aload_n 0, 1) := by decide +kernel
theorem dX11_takeTape_6 : decode cX11_takeTape 6 = .ok (.iconst 0, 1) := by decide +kernel
theorem dX11_takeTape_7 : decode cX11_takeTape 7 = .ok (.putfield 82, 3) := by decide +kernel
theorem dX11_takeTape_10 : decode cX11_takeTape 10 = .ok (.iload_n 1, 1) := by decide +kernel
theorem dX11_takeTape_11 : decode cX11_takeTape 11 = .ok (.ireturn, 1) := by decide +kernel
noncomputable def tX11_takeTape_0 : List (Nat × zF) := [(0, (zla4 0 1)), (1, (zgf 11 1)), (4, (zsi4 2 1 1)), (5, (zla4 0 1)), (6, (zst 1 (zp (.int (0))))), (7, (zpf 11 1 (.int))), (10, (zli4 1 1)), (11, (zri false))]
theorem kX11_takeTape_0 : ∀ q ∈ tX11_takeTape_0, zOk zg iX11_takeTape q.1 q.2 := (z_c (ok_aload_n dX11_takeTape_0 rfl) (z_c (ok_getf (C := RX11) (T := TX11) (N := 16) rfl (by decide) zinX11 rfl zw_523 dX11_takeTape_1) (z_c (ok_istore_n dX11_takeTape_4 rfl) (z_c (ok_aload_n dX11_takeTape_5 rfl) (z_c (ok_iconst (v := (0)) dX11_takeTape_6 (by decide)) (z_c (ok_putf (C := RX11) (T := TX11) (N := 16) false tyX11 tyX11_ok nmX11 rfl (by decide) zinX11 rfl zw_523 rfl (fun h => absurd h (by decide)) rfl dX11_takeTape_7) (z_c (ok_iload_n dX11_takeTape_10 rfl) (z_c (ok_ireturn rfl dX11_takeTape_11) z_n))))))))
noncomputable def tX11_takeTape : zT := [(100000, tX11_takeTape_0)]
theorem kX11_takeTape : zTok zg iX11_takeTape tX11_takeTape := (z_t kX11_takeTape_0 z_tn)
theorem dX11_forgetActs_0 : decode cX11_forgetActs 0 = .ok (.aload_n 0, 1) := by decide +kernel
theorem dX11_forgetActs_1 : decode cX11_forgetActs 1 = .ok (.getfield 46, 3) := by decide +kernel
theorem dX11_forgetActs_4 : decode cX11_forgetActs 4 = .ok (.iconst 0, 1) := by decide +kernel
theorem dX11_forgetActs_5 : decode cX11_forgetActs 5 = .ok (.putfield 167, 3) := by decide +kernel
theorem dX11_forgetActs_8 : decode cX11_forgetActs 8 = .ok (.aload_n 0, 1) := by decide +kernel
theorem dX11_forgetActs_9 : decode cX11_forgetActs 9 = .ok (.getfield 53, 3) := by decide +kernel
theorem dX11_forgetActs_12 : decode cX11_forgetActs 12 = .ok (.iconst 0, 1) := by decide +kernel
theorem dX11_forgetActs_13 : decode cX11_forgetActs 13 = .ok (.putfield 173, 3) := by decide +kernel
theorem dX11_forgetActs_16 : decode cX11_forgetActs 16 = .ok (.return_, 1) := by decide +kernel
noncomputable def tX11_forgetActs_0 : List (Nat × zF) := [(0, (zla4 0 1)), (1, (zgf 11 8)), (4, (zst 1 (zp (.int (0))))), (5, (zpf 1 3 (.int))), (8, (zla4 0 1)), (9, (zgf 11 9)), (12, (zst 1 (zp (.int (0))))), (13, (zpf 2 3 (.int))), (16, zrv)]
theorem kX11_forgetActs_0 : ∀ q ∈ tX11_forgetActs_0, zOk zg iX11_forgetActs q.1 q.2 := (z_c (ok_aload_n dX11_forgetActs_0 rfl) (z_c (ok_getf (C := RX11) (T := TX11) (N := 16) rfl (by decide) zinX11 rfl zw_501 dX11_forgetActs_1) (z_c (ok_iconst (v := (0)) dX11_forgetActs_4 (by decide)) (z_c (ok_putf (C := RX1) (T := TX1) (N := 4) false tyX1 tyX1_ok nmX1 rfl (by decide) zinX1 rfl zw_571 rfl (fun h => absurd h (by decide)) rfl dX11_forgetActs_5) (z_c (ok_aload_n dX11_forgetActs_8 rfl) (z_c (ok_getf (C := RX11) (T := TX11) (N := 16) rfl (by decide) zinX11 rfl zw_507 dX11_forgetActs_9) (z_c (ok_iconst (v := (0)) dX11_forgetActs_12 (by decide)) (z_c (ok_putf (C := RX2) (T := TX2) (N := 4) false tyX2 tyX2_ok nmX2 rfl (by decide) zinX2 rfl zw_573 rfl (fun h => absurd h (by decide)) rfl dX11_forgetActs_13) (z_c (ok_return rfl dX11_forgetActs_16) z_n)))))))))
noncomputable def tX11_forgetActs : zT := [(100000, tX11_forgetActs_0)]
theorem kX11_forgetActs : zTok zg iX11_forgetActs tX11_forgetActs := (z_t kX11_forgetActs_0 z_tn)
theorem dX11_isThing_0 : decode cX11_isThing 0 = .ok (.iload_n 1, 1) := by decide +kernel
theorem dX11_isThing_1 : decode cX11_isThing 1 = .ok (.ifCond .lt 18, 3) := by decide +kernel
theorem dX11_isThing_4 : decode cX11_isThing 4 = .ok (.iload_n 1, 1) := by decide +kernel
theorem dX11_isThing_5 : decode cX11_isThing 5 = .ok (.aload_n 0, 1) := by decide +kernel
theorem dX11_isThing_6 : decode cX11_isThing 6 = .ok (.getfield 20, 3) := by decide +kernel
theorem dX11_isThing_9 : decode cX11_isThing 9 = .ok (.getfield 143, 3) := by decide +kernel
theorem dX11_isThing_12 : decode cX11_isThing 12 = .ok (.if_icmp .ge 7, 3) := by decide +kernel
theorem dX11_isThing_15 : decode cX11_isThing 15 = .ok (.iconst 1, 1) := by decide +kernel
theorem dX11_isThing_16 : decode cX11_isThing 16 = .ok (.goto 4, 3) := by decide +kernel
theorem dX11_isThing_19 : decode cX11_isThing 19 = .ok (.iconst 0, 1) := by decide +kernel
theorem dX11_isThing_20 : decode cX11_isThing 20 = .ok (.ireturn, 1) := by decide +kernel
noncomputable def tX11_isThing_0 : List (Nat × zF) := [(0, (zli4 1 1)), (1, (z_if_lt 19)), (4, (zli4 1 1)), (5, (zla4 0 1)), (6, (zgf 11 4)), (9, (zgf 4 7)), (12, (z_ic_ge 19)), (15, (zst 1 (zp (.int (1))))), (16, (zgt 20)), (19, (zst 1 (zp (.int (0))))), (20, (zri true))]
theorem kX11_isThing_0 : ∀ q ∈ tX11_isThing_0, zOk zg iX11_isThing q.1 q.2 := (z_c (ok_iload_n dX11_isThing_0 rfl) (z_c (ok_if_lt dX11_isThing_1 (by decide)) (z_c (ok_iload_n dX11_isThing_4 rfl) (z_c (ok_aload_n dX11_isThing_5 rfl) (z_c (ok_getf (C := RX11) (T := TX11) (N := 16) rfl (by decide) zinX11 rfl zw_490 dX11_isThing_6) (z_c (ok_getf (C := RX4) (T := TX4) (N := 18) rfl (by decide) zinX4 rfl zw_564 dX11_isThing_9) (z_c (ok_icmp_ge dX11_isThing_12 (by decide)) (z_c (ok_iconst (v := (1)) dX11_isThing_15 (by decide)) (z_c (ok_goto dX11_isThing_16 (by decide)) (z_c (ok_iconst (v := (0)) dX11_isThing_19 (by decide)) (z_c (ok_zreturn rfl dX11_isThing_20) z_n)))))))))))
noncomputable def tX11_isThing : zT := [(100000, tX11_isThing_0)]
theorem kX11_isThing : zTok zg iX11_isThing tX11_isThing := (z_t kX11_isThing_0 z_tn)
theorem dX11_isFolk_0 : decode cX11_isFolk 0 = .ok (.iload_n 1, 1) := by decide +kernel
theorem dX11_isFolk_1 : decode cX11_isFolk 1 = .ok (.ifCond .lt 18, 3) := by decide +kernel
theorem dX11_isFolk_4 : decode cX11_isFolk 4 = .ok (.iload_n 1, 1) := by decide +kernel
theorem dX11_isFolk_5 : decode cX11_isFolk 5 = .ok (.aload_n 0, 1) := by decide +kernel
theorem dX11_isFolk_6 : decode cX11_isFolk 6 = .ok (.getfield 20, 3) := by decide +kernel
theorem dX11_isFolk_9 : decode cX11_isFolk 9 = .ok (.getfield 146, 3) := by decide +kernel
theorem dX11_isFolk_12 : decode cX11_isFolk 12 = .ok (.if_icmp .ge 7, 3) := by decide +kernel
theorem dX11_isFolk_15 : decode cX11_isFolk 15 = .ok (.iconst 1, 1) := by decide +kernel
theorem dX11_isFolk_16 : decode cX11_isFolk 16 = .ok (.goto 4, 3) := by decide +kernel
theorem dX11_isFolk_19 : decode cX11_isFolk 19 = .ok (.iconst 0, 1) := by decide +kernel
theorem dX11_isFolk_20 : decode cX11_isFolk 20 = .ok (.ireturn, 1) := by decide +kernel
noncomputable def tX11_isFolk_0 : List (Nat × zF) := [(0, (zli4 1 1)), (1, (z_if_lt 19)), (4, (zli4 1 1)), (5, (zla4 0 1)), (6, (zgf 11 4)), (9, (zgf 4 13)), (12, (z_ic_ge 19)), (15, (zst 1 (zp (.int (1))))), (16, (zgt 20)), (19, (zst 1 (zp (.int (0))))), (20, (zri true))]
theorem kX11_isFolk_0 : ∀ q ∈ tX11_isFolk_0, zOk zg iX11_isFolk q.1 q.2 := (z_c (ok_iload_n dX11_isFolk_0 rfl) (z_c (ok_if_lt dX11_isFolk_1 (by decide)) (z_c (ok_iload_n dX11_isFolk_4 rfl) (z_c (ok_aload_n dX11_isFolk_5 rfl) (z_c (ok_getf (C := RX11) (T := TX11) (N := 16) rfl (by decide) zinX11 rfl zw_490 dX11_isFolk_6) (z_c (ok_getf (C := RX4) (T := TX4) (N := 18) rfl (by decide) zinX4 rfl zw_565 dX11_isFolk_9) (z_c (ok_icmp_ge dX11_isFolk_12 (by decide)) (z_c (ok_iconst (v := (1)) dX11_isFolk_15 (by decide)) (z_c (ok_goto dX11_isFolk_16 (by decide)) (z_c (ok_iconst (v := (0)) dX11_isFolk_19 (by decide)) (z_c (ok_zreturn rfl dX11_isFolk_20) z_n)))))))))))
noncomputable def tX11_isFolk : zT := [(100000, tX11_isFolk_0)]
theorem kX11_isFolk : zTok zg iX11_isFolk tX11_isFolk := (z_t kX11_isFolk_0 z_tn)
theorem dX11_comes_0 : decode cX11_comes 0 = .ok (.aload_n 0, 1) := by decide +kernel
theorem dX11_comes_1 : decode cX11_comes 1 = .ok (.getfield 20, 3) := by decide +kernel
theorem dX11_comes_4 : decode cX11_comes 4 = .ok (.getfield 127, 3) := by decide +kernel
theorem dX11_comes_7 : decode cX11_comes 7 = .ok (.ifCond .le 31, 3) := by decide +kernel
theorem dX11_comes_10 : decode cX11_comes 10 = .ok (.iload_n 1, 1) := by decide +kernel
theorem dX11_comes_11 : decode cX11_comes 11 = .ok (.ifCond .lt 27, 3) := by decide +kernel
theorem dX11_comes_14 : decode cX11_comes 14 = .ok (.iload_n 1, 1) := by decide +kernel
theorem dX11_comes_15 : decode cX11_comes 15 = .ok (.iload_n 2, 1) := by decide +kernel
theorem dX11_comes_16 : decode cX11_comes 16 = .ok (.if_icmp .gt 22, 3) := by decide +kernel
theorem dX11_comes_19 : decode cX11_comes 19 = .ok (.aload_n 0, 1) := by decide +kernel
theorem dX11_comes_20 : decode cX11_comes 20 = .ok (.getfield 39, 3) := by decide +kernel
theorem dX11_comes_23 : decode cX11_comes 23 = .ok (.getfield 149, 3) := by decide +kernel
theorem dX11_comes_26 : decode cX11_comes 26 = .ok (.iload_n 1, 1) := by decide +kernel
theorem dX11_comes_27 : decode cX11_comes 27 = .ok (.iadd, 1) := by decide +kernel
theorem dX11_comes_28 : decode cX11_comes 28 = .ok (.sipush 999, 3) := by decide +kernel
theorem dX11_comes_31 : decode cX11_comes 31 = .ok (.if_icmp .gt 7, 3) := by decide +kernel
theorem dX11_comes_34 : decode cX11_comes 34 = .ok (.iconst 1, 1) := by decide +kernel
theorem dX11_comes_35 : decode cX11_comes 35 = .ok (.goto 4, 3) := by decide +kernel
theorem dX11_comes_38 : decode cX11_comes 38 = .ok (.iconst 0, 1) := by decide +kernel
theorem dX11_comes_39 : decode cX11_comes 39 = .ok (.ireturn, 1) := by decide +kernel
noncomputable def tX11_comes_0 : List (Nat × zF) := [(0, (zla4 0 1)), (1, (zgf 11 4)), (4, (zgf 4 1)), (7, (z_if_le 38)), (10, (zli4 1 1)), (11, (z_if_lt 38)), (14, (zli4 1 1)), (15, (zli4 2 1)), (16, (z_ic_gt 38)), (19, (zla4 0 1)), (20, (zgf 11 7)), (23, (zgf 8 0))]
theorem kX11_comes_0 : ∀ q ∈ tX11_comes_0, zOk zg iX11_comes q.1 q.2 := (z_c (ok_aload_n dX11_comes_0 rfl) (z_c (ok_getf (C := RX11) (T := TX11) (N := 16) rfl (by decide) zinX11 rfl zw_490 dX11_comes_1) (z_c (ok_getf (C := RX4) (T := TX4) (N := 18) rfl (by decide) zinX4 rfl zw_559 dX11_comes_4) (z_c (ok_if_le dX11_comes_7 (by decide)) (z_c (ok_iload_n dX11_comes_10 rfl) (z_c (ok_if_lt dX11_comes_11 (by decide)) (z_c (ok_iload_n dX11_comes_14 rfl) (z_c (ok_iload_n dX11_comes_15 rfl) (z_c (ok_icmp_gt dX11_comes_16 (by decide)) (z_c (ok_aload_n dX11_comes_19 rfl) (z_c (ok_getf (C := RX11) (T := TX11) (N := 16) rfl (by decide) zinX11 rfl zw_499 dX11_comes_20) (z_c (ok_getf (C := RX8) (T := TX8) (N := 6) rfl (by decide) zinX8 rfl zw_566 dX11_comes_23) z_n))))))))))))
noncomputable def tX11_comes_1 : List (Nat × zF) := [(26, (zli4 1 1)), (27, (zst 1 z_iadd)), (28, (zst 3 (zp (.int (999))))), (31, (z_ic_gt 38)), (34, (zst 1 (zp (.int (1))))), (35, (zgt 39)), (38, (zst 1 (zp (.int (0))))), (39, (zri true))]
theorem kX11_comes_1 : ∀ q ∈ tX11_comes_1, zOk zg iX11_comes q.1 q.2 := (z_c (ok_iload_n dX11_comes_26 rfl) (z_c (ok_iadd dX11_comes_27) (z_c (ok_sipush (v := (999)) dX11_comes_28 (by decide)) (z_c (ok_icmp_gt dX11_comes_31 (by decide)) (z_c (ok_iconst (v := (1)) dX11_comes_34 (by decide)) (z_c (ok_goto dX11_comes_35 (by decide)) (z_c (ok_iconst (v := (0)) dX11_comes_38 (by decide)) (z_c (ok_zreturn rfl dX11_comes_39) z_n))))))))
noncomputable def tX11_comes : zT := [(26, tX11_comes_0), (100000, tX11_comes_1)]
theorem kX11_comes : zTok zg iX11_comes tX11_comes := (z_t kX11_comes_0 (z_t kX11_comes_1 z_tn))
theorem dX11_turnByAct_0 : decode cX11_turnByAct 0 = .ok (.aload_n 0, 1) := by decide +kernel
theorem dX11_turnByAct_1 : decode cX11_turnByAct 1 = .ok (.getfield 53, 3) := by decide +kernel
theorem dX11_turnByAct_4 : decode cX11_turnByAct 4 = .ok (.aload_n 0, 1) := by decide +kernel
theorem dX11_turnByAct_5 : decode cX11_turnByAct 5 = .ok (.getfield 39, 3) := by decide +kernel
theorem dX11_turnByAct_8 : decode cX11_turnByAct 8 = .ok (.aload_n 0, 1) := by decide +kernel
theorem dX11_turnByAct_9 : decode cX11_turnByAct 9 = .ok (.getfield 46, 3) := by decide +kernel
theorem dX11_turnByAct_12 : decode cX11_turnByAct 12 = .ok (.invokevirtual 296, 3) := by decide +kernel
theorem dX11_turnByAct_15 : decode cX11_turnByAct 15 = .ok (.aload_n 0, 1) := by decide +kernel
theorem dX11_turnByAct_16 : decode cX11_turnByAct 16 = .ok (.getfield 46, 3) := by decide +kernel
theorem dX11_turnByAct_19 : decode cX11_turnByAct 19 = .ok (.aload_n 0, 1) := by decide +kernel
theorem dX11_turnByAct_20 : decode cX11_turnByAct 20 = .ok (.getfield 39, 3) := by decide +kernel
theorem dX11_turnByAct_23 : decode cX11_turnByAct 23 = .ok (.getfield 149, 3) := by decide +kernel
theorem dX11_turnByAct_26 : decode cX11_turnByAct 26 = .ok (.iload_n 1, 1) := by decide +kernel
theorem dX11_turnByAct_27 : decode cX11_turnByAct 27 = .ok (.aload_n 0, 1) := by decide +kernel
theorem dX11_turnByAct_28 : decode cX11_turnByAct 28 = .ok (.getfield 39, 3) := by decide +kernel
theorem dX11_turnByAct_31 : decode cX11_turnByAct 31 = .ok (.iload_n 1, 1) := by decide +kernel
theorem dX11_turnByAct_32 : decode cX11_turnByAct 32 = .ok (.invokevirtual 220, 3) := by decide +kernel
theorem dX11_turnByAct_35 : decode cX11_turnByAct 35 = .ok (.ifCond .eq 7, 3) := by decide +kernel
theorem dX11_turnByAct_38 : decode cX11_turnByAct 38 = .ok (.iconst 1, 1) := by decide +kernel
theorem dX11_turnByAct_39 : decode cX11_turnByAct 39 = .ok (.goto 4, 3) := by decide +kernel
theorem dX11_turnByAct_42 : decode cX11_turnByAct 42 = .ok (.iconst 0, 1) := by decide +kernel
theorem dX11_turnByAct_43 : decode cX11_turnByAct 43 = .ok (.invokevirtual 336, 3) := by decide +kernel
theorem dX11_turnByAct_46 : decode cX11_turnByAct 46 = .ok (.aload_n 0, 1) := by decide +kernel
theorem dX11_turnByAct_47 : decode cX11_turnByAct 47 = .ok (.getfield 39, 3) := by decide +kernel
theorem dX11_turnByAct_50 : decode cX11_turnByAct 50 = .ok (.iload_n 1, 1) := by decide +kernel
theorem dX11_turnByAct_51 : decode cX11_turnByAct 51 = .ok (.invokevirtual 340, 3) := by decide +kernel
theorem dX11_turnByAct_54 : decode cX11_turnByAct 54 = .ok (.return_, 1) := by decide +kernel
noncomputable def tX11_turnByAct_0 : List (Nat × zF) := [(0, (zla4 0 1)), (1, (zgf 11 9)), (4, (zla4 0 1)), (5, (zgf 11 7)), (8, (zla4 0 1)), (9, (zgf 11 8)), (12, (zcv 23 2 2)), (15, (zla4 0 1)), (16, (zgf 11 8)), (19, (zla4 0 1)), (20, (zgf 11 7)), (23, (zgf 8 0))]
theorem kX11_turnByAct_0 : ∀ q ∈ tX11_turnByAct_0, zOk zg iX11_turnByAct q.1 q.2 := (z_c (ok_aload_n dX11_turnByAct_0 rfl) (z_c (ok_getf (C := RX11) (T := TX11) (N := 16) rfl (by decide) zinX11 rfl zw_507 dX11_turnByAct_1) (z_c (ok_aload_n dX11_turnByAct_4 rfl) (z_c (ok_getf (C := RX11) (T := TX11) (N := 16) rfl (by decide) zinX11 rfl zw_499 dX11_turnByAct_5) (z_c (ok_aload_n dX11_turnByAct_8 rfl) (z_c (ok_getf (C := RX11) (T := TX11) (N := 16) rfl (by decide) zinX11 rfl zw_501 dX11_turnByAct_9) (z_c (ok_callV zcal_23 (q := (RX2, TX2, 4)) rfl zw_642 zw_643 zw_644 dX11_turnByAct_12) (z_c (ok_aload_n dX11_turnByAct_15 rfl) (z_c (ok_getf (C := RX11) (T := TX11) (N := 16) rfl (by decide) zinX11 rfl zw_501 dX11_turnByAct_16) (z_c (ok_aload_n dX11_turnByAct_19 rfl) (z_c (ok_getf (C := RX11) (T := TX11) (N := 16) rfl (by decide) zinX11 rfl zw_499 dX11_turnByAct_20) (z_c (ok_getf (C := RX8) (T := TX8) (N := 6) rfl (by decide) zinX8 rfl zw_566 dX11_turnByAct_23) z_n))))))))))))
noncomputable def tX11_turnByAct_1 : List (Nat × zF) := [(26, (zli4 1 1)), (27, (zla4 0 1)), (28, (zgf 11 7)), (31, (zli4 1 1)), (32, (zcv 81 1 8)), (35, (z_if_eq 42)), (38, (zst 1 (zp (.int (1))))), (39, (zgt 43)), (42, (zst 1 (zp (.int (0))))), (43, (zcv 20 3 1)), (46, (zla4 0 1)), (47, (zgf 11 7))]
theorem kX11_turnByAct_1 : ∀ q ∈ tX11_turnByAct_1, zOk zg iX11_turnByAct q.1 q.2 := (z_c (ok_iload_n dX11_turnByAct_26 rfl) (z_c (ok_aload_n dX11_turnByAct_27 rfl) (z_c (ok_getf (C := RX11) (T := TX11) (N := 16) rfl (by decide) zinX11 rfl zw_499 dX11_turnByAct_28) (z_c (ok_iload_n dX11_turnByAct_31 rfl) (z_c (ok_callV zcal_81 (q := (RX8, TX8, 6)) rfl zw_597 zw_25 zw_26 dX11_turnByAct_32) (z_c (ok_if_eq dX11_turnByAct_35 (by decide)) (z_c (ok_iconst (v := (1)) dX11_turnByAct_38 (by decide)) (z_c (ok_goto dX11_turnByAct_39 (by decide)) (z_c (ok_iconst (v := (0)) dX11_turnByAct_42 (by decide)) (z_c (ok_callV zcal_20 (q := (RX1, TX1, 4)) rfl zw_672 zw_673 zw_674 dX11_turnByAct_43) (z_c (ok_aload_n dX11_turnByAct_46 rfl) (z_c (ok_getf (C := RX11) (T := TX11) (N := 16) rfl (by decide) zinX11 rfl zw_499 dX11_turnByAct_47) z_n))))))))))))
noncomputable def tX11_turnByAct_2 : List (Nat × zF) := [(50, (zli4 1 1)), (51, (zcv 82 1 8)), (54, zrv)]
theorem kX11_turnByAct_2 : ∀ q ∈ tX11_turnByAct_2, zOk zg iX11_turnByAct q.1 q.2 := (z_c (ok_iload_n dX11_turnByAct_50 rfl) (z_c (ok_callV zcal_82 (q := (RX8, TX8, 6)) rfl zw_675 zw_148 zw_149 dX11_turnByAct_51) (z_c (ok_return rfl dX11_turnByAct_54) z_n)))
noncomputable def tX11_turnByAct : zT := [(26, tX11_turnByAct_0), (50, tX11_turnByAct_1), (100000, tX11_turnByAct_2)]
theorem kX11_turnByAct : zTok zg iX11_turnByAct tX11_turnByAct := (z_t kX11_turnByAct_0 (z_t kX11_turnByAct_1 (z_t kX11_turnByAct_2 z_tn)))
theorem dX11_passAndKeep_0 : decode cX11_passAndKeep 0 = .ok (.aload_n 0, 1) := by decide +kernel
theorem dX11_passAndKeep_1 : decode cX11_passAndKeep 1 = .ok (.getfield 39, 3) := by decide +kernel
theorem dX11_passAndKeep_4 : decode cX11_passAndKeep 4 = .ok (.getfield 149, 3) := by decide +kernel
theorem dX11_passAndKeep_7 : decode cX11_passAndKeep 7 = .ok (.istore_n 2, 1) := by decide +kernel
theorem dX11_passAndKeep_8 : decode cX11_passAndKeep 8 = .ok (.aload_n 0, 1) := by decide +kernel
theorem dX11_passAndKeep_9 : decode cX11_passAndKeep 9 = .ok (.getfield 60, 3) := by decide +kernel
theorem dX11_passAndKeep_12 : decode cX11_passAndKeep 12 = .ok (.aload_n 0, 1) := by decide +kernel
theorem dX11_passAndKeep_13 : decode cX11_passAndKeep 13 = .ok (.getfield 39, 3) := by decide +kernel
theorem dX11_passAndKeep_16 : decode cX11_passAndKeep 16 = .ok (.iconst 1, 1) := by decide +kernel
theorem dX11_passAndKeep_17 : decode cX11_passAndKeep 17 = .ok (.iload_n 1, 1) := by decide +kernel
theorem dX11_passAndKeep_18 : decode cX11_passAndKeep 18 = .ok (.invokevirtual 343, 3) := by decide +kernel
theorem dX11_passAndKeep_21 : decode cX11_passAndKeep 21 = .ok (.iconst 0, 1) := by decide +kernel
theorem dX11_passAndKeep_22 : decode cX11_passAndKeep 22 = .ok (.istore_n 3, 1) := by decide +kernel
theorem dX11_passAndKeep_23 : decode cX11_passAndKeep 23 = .ok (.iload_n 3, 1) := by decide +kernel
theorem dX11_passAndKeep_24 : decode cX11_passAndKeep 24 = .ok (.aload_n 0, 1) := by decide +kernel
theorem dX11_passAndKeep_25 : decode cX11_passAndKeep 25 = .ok (.getfield 20, 3) := by decide +kernel
theorem dX11_passAndKeep_28 : decode cX11_passAndKeep 28 = .ok (.getfield 143, 3) := by decide +kernel
theorem dX11_passAndKeep_31 : decode cX11_passAndKeep 31 = .ok (.if_icmp .ge 60, 3) := by decide +kernel
theorem dX11_passAndKeep_34 : decode cX11_passAndKeep 34 = .ok (.aload_n 0, 1) := by decide +kernel
theorem dX11_passAndKeep_35 : decode cX11_passAndKeep 35 = .ok (.getfield 60, 3) := by decide +kernel
theorem dX11_passAndKeep_38 : decode cX11_passAndKeep 38 = .ok (.getfield 346, 3) := by decide +kernel
theorem dX11_passAndKeep_41 : decode cX11_passAndKeep 41 = .ok (.iload_n 3, 1) := by decide +kernel
theorem dX11_passAndKeep_42 : decode cX11_passAndKeep 42 = .ok (.ishr, 1) := by decide +kernel
theorem dX11_passAndKeep_43 : decode cX11_passAndKeep 43 = .ok (.iconst 1, 1) := by decide +kernel
theorem dX11_passAndKeep_44 : decode cX11_passAndKeep 44 = .ok (.iand, 1) := by decide +kernel
theorem dX11_passAndKeep_45 : decode cX11_passAndKeep 45 = .ok (.ifCond .eq 16, 3) := by decide +kernel
theorem dX11_passAndKeep_48 : decode cX11_passAndKeep 48 = .ok (.aload_n 0, 1) := by decide +kernel
theorem dX11_passAndKeep_49 : decode cX11_passAndKeep 49 = .ok (.getfield 46, 3) := by decide +kernel
theorem dX11_passAndKeep_52 : decode cX11_passAndKeep 52 = .ok (.iload_n 2, 1) := by decide +kernel
theorem dX11_passAndKeep_53 : decode cX11_passAndKeep 53 = .ok (.iload_n 3, 1) := by decide +kernel
theorem dX11_passAndKeep_54 : decode cX11_passAndKeep 54 = .ok (.iconst 1, 1) := by decide +kernel
theorem dX11_passAndKeep_55 : decode cX11_passAndKeep 55 = .ok (.invokevirtual 336, 3) := by decide +kernel
theorem dX11_passAndKeep_58 : decode cX11_passAndKeep 58 = .ok (.goto 27, 3) := by decide +kernel
theorem dX11_passAndKeep_61 : decode cX11_passAndKeep 61 = .ok (.aload_n 0, 1) := by decide +kernel
theorem dX11_passAndKeep_62 : decode cX11_passAndKeep 62 = .ok (.getfield 60, 3) := by decide +kernel
theorem dX11_passAndKeep_65 : decode cX11_passAndKeep 65 = .ok (.getfield 349, 3) := by decide +kernel
theorem dX11_passAndKeep_68 : decode cX11_passAndKeep 68 = .ok (.iload_n 3, 1) := by decide +kernel
theorem dX11_passAndKeep_69 : decode cX11_passAndKeep 69 = .ok (.ishr, 1) := by decide +kernel
theorem dX11_passAndKeep_70 : decode cX11_passAndKeep 70 = .ok (.iconst 1, 1) := by decide +kernel
theorem dX11_passAndKeep_71 : decode cX11_passAndKeep 71 = .ok (.iand, 1) := by decide +kernel
theorem dX11_passAndKeep_72 : decode cX11_passAndKeep 72 = .ok (.ifCond .eq 13, 3) := by decide +kernel
theorem dX11_passAndKeep_75 : decode cX11_passAndKeep 75 = .ok (.aload_n 0, 1) := by decide +kernel
theorem dX11_passAndKeep_76 : decode cX11_passAndKeep 76 = .ok (.getfield 46, 3) := by decide +kernel
theorem dX11_passAndKeep_79 : decode cX11_passAndKeep 79 = .ok (.iload_n 2, 1) := by decide +kernel
theorem dX11_passAndKeep_80 : decode cX11_passAndKeep 80 = .ok (.iload_n 3, 1) := by decide +kernel
theorem dX11_passAndKeep_81 : decode cX11_passAndKeep 81 = .ok (.iconst 0, 1) := by decide +kernel
theorem dX11_passAndKeep_82 : decode cX11_passAndKeep 82 = .ok (.invokevirtual 336, 3) := by decide +kernel
theorem dX11_passAndKeep_85 : decode cX11_passAndKeep 85 = .ok (.iinc 3 1, 3) := by decide +kernel
theorem dX11_passAndKeep_88 : decode cX11_passAndKeep 88 = .ok (.goto (-65), 3) := by decide +kernel
theorem dX11_passAndKeep_91 : decode cX11_passAndKeep 91 = .ok (.aload_n 0, 1) := by decide +kernel
theorem dX11_passAndKeep_92 : decode cX11_passAndKeep 92 = .ok (.getfield 60, 3) := by decide +kernel
theorem dX11_passAndKeep_95 : decode cX11_passAndKeep 95 = .ok (.getfield 346, 3) := by decide +kernel
theorem dX11_passAndKeep_98 : decode cX11_passAndKeep 98 = .ok (.invokestatic 155, 3) := by decide +kernel
theorem dX11_passAndKeep_101 : decode cX11_passAndKeep 101 = .ok (.ireturn, 1) := by decide +kernel
noncomputable def tX11_passAndKeep_0 : List (Nat × zF) := [(0, (zla4 0 1)), (1, (zgf 11 7)), (4, (zgf 8 0)), (7, (zsi4 4 2 1)), (8, (zla4 0 1)), (9, (zgf 11 10)), (12, (zla4 0 1)), (13, (zgf 11 7)), (16, (zst 1 (zp (.int (1))))), (17, (zli4 1 1)), (18, (zcv 2 3 0)), (21, (zst 1 (zp (.int (0)))))]
theorem kX11_passAndKeep_0 : ∀ q ∈ tX11_passAndKeep_0, zOk zg iX11_passAndKeep q.1 q.2 := (z_c (ok_aload_n dX11_passAndKeep_0 rfl) (z_c (ok_getf (C := RX11) (T := TX11) (N := 16) rfl (by decide) zinX11 rfl zw_499 dX11_passAndKeep_1) (z_c (ok_getf (C := RX8) (T := TX8) (N := 6) rfl (by decide) zinX8 rfl zw_566 dX11_passAndKeep_4) (z_c (ok_istore_n dX11_passAndKeep_7 rfl) (z_c (ok_aload_n dX11_passAndKeep_8 rfl) (z_c (ok_getf (C := RX11) (T := TX11) (N := 16) rfl (by decide) zinX11 rfl zw_513 dX11_passAndKeep_9) (z_c (ok_aload_n dX11_passAndKeep_12 rfl) (z_c (ok_getf (C := RX11) (T := TX11) (N := 16) rfl (by decide) zinX11 rfl zw_499 dX11_passAndKeep_13) (z_c (ok_iconst (v := (1)) dX11_passAndKeep_16 (by decide)) (z_c (ok_iload_n dX11_passAndKeep_17 rfl) (z_c (ok_callV zcal_2 (q := (RX0, TX0, 5)) rfl zw_676 zw_136 zw_137 dX11_passAndKeep_18) (z_c (ok_iconst (v := (0)) dX11_passAndKeep_21 (by decide)) z_n))))))))))))
noncomputable def tX11_passAndKeep_1 : List (Nat × zF) := [(22, (zsi4 4 3 1)), (23, (zli4 3 1)), (24, (zla4 0 1)), (25, (zgf 11 4)), (28, (zgf 4 7)), (31, (z_ic_ge 91)), (34, (zla4 0 1)), (35, (zgf 11 10)), (38, (zgf 0 3)), (41, (zli4 3 1)), (42, (zst 1 z_ishr)), (43, (zst 1 (zp (.int (1)))))]
theorem kX11_passAndKeep_1 : ∀ q ∈ tX11_passAndKeep_1, zOk zg iX11_passAndKeep q.1 q.2 := (z_c (ok_istore_n dX11_passAndKeep_22 rfl) (z_c (ok_iload_n dX11_passAndKeep_23 rfl) (z_c (ok_aload_n dX11_passAndKeep_24 rfl) (z_c (ok_getf (C := RX11) (T := TX11) (N := 16) rfl (by decide) zinX11 rfl zw_490 dX11_passAndKeep_25) (z_c (ok_getf (C := RX4) (T := TX4) (N := 18) rfl (by decide) zinX4 rfl zw_564 dX11_passAndKeep_28) (z_c (ok_icmp_ge dX11_passAndKeep_31 (by decide)) (z_c (ok_aload_n dX11_passAndKeep_34 rfl) (z_c (ok_getf (C := RX11) (T := TX11) (N := 16) rfl (by decide) zinX11 rfl zw_513 dX11_passAndKeep_35) (z_c (ok_getf (C := RX0) (T := TX0) (N := 5) rfl (by decide) zinX0 rfl zw_677 dX11_passAndKeep_38) (z_c (ok_iload_n dX11_passAndKeep_41 rfl) (z_c (ok_ishr dX11_passAndKeep_42) (z_c (ok_iconst (v := (1)) dX11_passAndKeep_43 (by decide)) z_n))))))))))))
noncomputable def tX11_passAndKeep_2 : List (Nat × zF) := [(44, (zst 1 z_iand)), (45, (z_if_eq 61)), (48, (zla4 0 1)), (49, (zgf 11 8)), (52, (zli4 2 1)), (53, (zli4 3 1)), (54, (zst 1 (zp (.int (1))))), (55, (zcv 20 3 1)), (58, (zgt 85)), (61, (zla4 0 1)), (62, (zgf 11 10)), (65, (zgf 0 4))]
theorem kX11_passAndKeep_2 : ∀ q ∈ tX11_passAndKeep_2, zOk zg iX11_passAndKeep q.1 q.2 := (z_c (ok_iand dX11_passAndKeep_44) (z_c (ok_if_eq dX11_passAndKeep_45 (by decide)) (z_c (ok_aload_n dX11_passAndKeep_48 rfl) (z_c (ok_getf (C := RX11) (T := TX11) (N := 16) rfl (by decide) zinX11 rfl zw_501 dX11_passAndKeep_49) (z_c (ok_iload_n dX11_passAndKeep_52 rfl) (z_c (ok_iload_n dX11_passAndKeep_53 rfl) (z_c (ok_iconst (v := (1)) dX11_passAndKeep_54 (by decide)) (z_c (ok_callV zcal_20 (q := (RX1, TX1, 4)) rfl zw_672 zw_673 zw_674 dX11_passAndKeep_55) (z_c (ok_goto dX11_passAndKeep_58 (by decide)) (z_c (ok_aload_n dX11_passAndKeep_61 rfl) (z_c (ok_getf (C := RX11) (T := TX11) (N := 16) rfl (by decide) zinX11 rfl zw_513 dX11_passAndKeep_62) (z_c (ok_getf (C := RX0) (T := TX0) (N := 5) rfl (by decide) zinX0 rfl zw_678 dX11_passAndKeep_65) z_n))))))))))))
noncomputable def tX11_passAndKeep_3 : List (Nat × zF) := [(68, (zli4 3 1)), (69, (zst 1 z_ishr)), (70, (zst 1 (zp (.int (1))))), (71, (zst 1 z_iand)), (72, (z_if_eq 85)), (75, (zla4 0 1)), (76, (zgf 11 8)), (79, (zli4 2 1)), (80, (zli4 3 1)), (81, (zst 1 (zp (.int (0))))), (82, (zcv 20 3 1)), (85, (zin4 4 3 (1)))]
theorem kX11_passAndKeep_3 : ∀ q ∈ tX11_passAndKeep_3, zOk zg iX11_passAndKeep q.1 q.2 := (z_c (ok_iload_n dX11_passAndKeep_68 rfl) (z_c (ok_ishr dX11_passAndKeep_69) (z_c (ok_iconst (v := (1)) dX11_passAndKeep_70 (by decide)) (z_c (ok_iand dX11_passAndKeep_71) (z_c (ok_if_eq dX11_passAndKeep_72 (by decide)) (z_c (ok_aload_n dX11_passAndKeep_75 rfl) (z_c (ok_getf (C := RX11) (T := TX11) (N := 16) rfl (by decide) zinX11 rfl zw_501 dX11_passAndKeep_76) (z_c (ok_iload_n dX11_passAndKeep_79 rfl) (z_c (ok_iload_n dX11_passAndKeep_80 rfl) (z_c (ok_iconst (v := (0)) dX11_passAndKeep_81 (by decide)) (z_c (ok_callV zcal_20 (q := (RX1, TX1, 4)) rfl zw_672 zw_673 zw_674 dX11_passAndKeep_82) (z_c (ok_iinc (v := (1)) dX11_passAndKeep_85 (by decide)) z_n))))))))))))
noncomputable def tX11_passAndKeep_4 : List (Nat × zF) := [(88, (zgt 23)), (91, (zla4 0 1)), (92, (zgf 11 10)), (95, (zgf 0 3)), (98, (zcs 279 1)), (101, (zri false))]
theorem kX11_passAndKeep_4 : ∀ q ∈ tX11_passAndKeep_4, zOk zg iX11_passAndKeep q.1 q.2 := (z_c (ok_goto dX11_passAndKeep_88 (by decide)) (z_c (ok_aload_n dX11_passAndKeep_91 rfl) (z_c (ok_getf (C := RX11) (T := TX11) (N := 16) rfl (by decide) zinX11 rfl zw_513 dX11_passAndKeep_92) (z_c (ok_getf (C := RX0) (T := TX0) (N := 5) rfl (by decide) zinX0 rfl zw_677 dX11_passAndKeep_95) (z_c (ok_callS zcal_279 zw_568 zw_87 dX11_passAndKeep_98) (z_c (ok_ireturn rfl dX11_passAndKeep_101) z_n))))))
noncomputable def tX11_passAndKeep : zT := [(22, tX11_passAndKeep_0), (44, tX11_passAndKeep_1), (68, tX11_passAndKeep_2), (88, tX11_passAndKeep_3), (100000, tX11_passAndKeep_4)]
theorem kX11_passAndKeep : zTok zg iX11_passAndKeep tX11_passAndKeep := (z_t kX11_passAndKeep_0 (z_t kX11_passAndKeep_1 (z_t kX11_passAndKeep_2 (z_t kX11_passAndKeep_3 (z_t kX11_passAndKeep_4 z_tn)))))
theorem dX11_drawDark_0 : decode cX11_drawDark 0 = .ok (.aload_n 0, 1) := by decide +kernel
theorem dX11_drawDark_1 : decode cX11_drawDark 1 = .ok (.bipush 100, 2) := by decide +kernel
theorem dX11_drawDark_3 : decode cX11_drawDark 3 = .ok (.invokevirtual 352, 3) := by decide +kernel
theorem dX11_drawDark_6 : decode cX11_drawDark 6 = .ok (.aload_n 0, 1) := by decide +kernel
theorem dX11_drawDark_7 : decode cX11_drawDark 7 = .ok (.getfield 20, 3) := by decide +kernel
theorem dX11_drawDark_10 : decode cX11_drawDark 10 = .ok (.getfield 355, 3) := by decide +kernel
theorem dX11_drawDark_13 : decode cX11_drawDark 13 = .ok (.if_icmp .ge 7, 3) := by decide +kernel
theorem dX11_drawDark_16 : decode cX11_drawDark 16 = .ok (.iconst 1, 1) := by decide +kernel
theorem dX11_drawDark_17 : decode cX11_drawDark 17 = .ok (.goto 4, 3) := by decide +kernel
theorem dX11_drawDark_20 : decode cX11_drawDark 20 = .ok (.iconst 0, 1) := by decide +kernel
theorem dX11_drawDark_21 : decode cX11_drawDark 21 = .ok (.istore_n 1, 1) := by decide +kernel
theorem dX11_drawDark_22 : decode cX11_drawDark 22 = .ok (.iload_n 1, 1) := by decide +kernel
theorem dX11_drawDark_23 : decode cX11_drawDark 23 = .ok (.ifCond .eq 27, 3) := by decide +kernel
theorem dX11_drawDark_26 : decode cX11_drawDark 26 = .ok (.aload_n 0, 1) := by decide +kernel
theorem dX11_drawDark_27 : decode cX11_drawDark 27 = .ok (.getfield 20, 3) := by decide +kernel
theorem dX11_drawDark_30 : decode cX11_drawDark 30 = .ok (.getfield 143, 3) := by decide +kernel
theorem dX11_drawDark_33 : decode cX11_drawDark 33 = .ok (.ifCond .le 17, 3) := by decide +kernel
theorem dX11_drawDark_36 : decode cX11_drawDark 36 = .ok (.aload_n 0, 1) := by decide +kernel
theorem dX11_drawDark_37 : decode cX11_drawDark 37 = .ok (.aload_n 0, 1) := by decide +kernel
theorem dX11_drawDark_38 : decode cX11_drawDark 38 = .ok (.getfield 20, 3) := by decide +kernel
theorem dX11_drawDark_41 : decode cX11_drawDark 41 = .ok (.getfield 143, 3) := by decide +kernel
theorem dX11_drawDark_44 : decode cX11_drawDark 44 = .ok (.invokevirtual 352, 3) := by decide +kernel
theorem dX11_drawDark_47 : decode cX11_drawDark 47 = .ok (.goto 4, 3) := by decide +kernel
theorem dX11_drawDark_50 : decode cX11_drawDark 50 = .ok (.iconst (-1), 1) := by decide +kernel
theorem dX11_drawDark_51 : decode cX11_drawDark 51 = .ok (.ireturn, 1) := by decide +kernel
noncomputable def tX11_drawDark_0 : List (Nat × zF) := [(0, (zla4 0 1)), (1, (zst 2 (zp (.int (100))))), (3, (zcv 155 1 11)), (6, (zla4 0 1)), (7, (zgf 11 4)), (10, (zgf 4 4)), (13, (z_ic_ge 20)), (16, (zst 1 (zp (.int (1))))), (17, (zgt 21)), (20, (zst 1 (zp (.int (0))))), (21, (zsi4 2 1 1)), (22, (zli4 1 1))]
theorem kX11_drawDark_0 : ∀ q ∈ tX11_drawDark_0, zOk zg iX11_drawDark q.1 q.2 := (z_c (ok_aload_n dX11_drawDark_0 rfl) (z_c (ok_bipush (v := (100)) dX11_drawDark_1 (by decide)) (z_c (ok_callV zcal_155 (q := (RX11, TX11, 16)) rfl zw_679 zw_680 zw_681 dX11_drawDark_3) (z_c (ok_aload_n dX11_drawDark_6 rfl) (z_c (ok_getf (C := RX11) (T := TX11) (N := 16) rfl (by decide) zinX11 rfl zw_490 dX11_drawDark_7) (z_c (ok_getf (C := RX4) (T := TX4) (N := 18) rfl (by decide) zinX4 rfl zw_682 dX11_drawDark_10) (z_c (ok_icmp_ge dX11_drawDark_13 (by decide)) (z_c (ok_iconst (v := (1)) dX11_drawDark_16 (by decide)) (z_c (ok_goto dX11_drawDark_17 (by decide)) (z_c (ok_iconst (v := (0)) dX11_drawDark_20 (by decide)) (z_c (ok_istore_n dX11_drawDark_21 rfl) (z_c (ok_iload_n dX11_drawDark_22 rfl) z_n))))))))))))
noncomputable def tX11_drawDark_1 : List (Nat × zF) := [(23, (z_if_eq 50)), (26, (zla4 0 1)), (27, (zgf 11 4)), (30, (zgf 4 7)), (33, (z_if_le 50)), (36, (zla4 0 1)), (37, (zla4 0 1)), (38, (zgf 11 4)), (41, (zgf 4 7)), (44, (zcv 155 1 11)), (47, (zgt 51)), (50, (zst 1 (zp (.int ((-1))))))]
theorem kX11_drawDark_1 : ∀ q ∈ tX11_drawDark_1, zOk zg iX11_drawDark q.1 q.2 := (z_c (ok_if_eq dX11_drawDark_23 (by decide)) (z_c (ok_aload_n dX11_drawDark_26 rfl) (z_c (ok_getf (C := RX11) (T := TX11) (N := 16) rfl (by decide) zinX11 rfl zw_490 dX11_drawDark_27) (z_c (ok_getf (C := RX4) (T := TX4) (N := 18) rfl (by decide) zinX4 rfl zw_564 dX11_drawDark_30) (z_c (ok_if_le dX11_drawDark_33 (by decide)) (z_c (ok_aload_n dX11_drawDark_36 rfl) (z_c (ok_aload_n dX11_drawDark_37 rfl) (z_c (ok_getf (C := RX11) (T := TX11) (N := 16) rfl (by decide) zinX11 rfl zw_490 dX11_drawDark_38) (z_c (ok_getf (C := RX4) (T := TX4) (N := 18) rfl (by decide) zinX4 rfl zw_564 dX11_drawDark_41) (z_c (ok_callV zcal_155 (q := (RX11, TX11, 16)) rfl zw_679 zw_680 zw_681 dX11_drawDark_44) (z_c (ok_goto dX11_drawDark_47 (by decide)) (z_c (ok_iconst (v := (-1)) dX11_drawDark_50 (by decide)) z_n))))))))))))
noncomputable def tX11_drawDark_2 : List (Nat × zF) := [(51, (zri false))]
theorem kX11_drawDark_2 : ∀ q ∈ tX11_drawDark_2, zOk zg iX11_drawDark q.1 q.2 := (z_c (ok_ireturn rfl dX11_drawDark_51) z_n)
noncomputable def tX11_drawDark : zT := [(23, tX11_drawDark_0), (51, tX11_drawDark_1), (100000, tX11_drawDark_2)]
theorem kX11_drawDark : zTok zg iX11_drawDark tX11_drawDark := (z_t kX11_drawDark_0 (z_t kX11_drawDark_1 (z_t kX11_drawDark_2 z_tn)))
theorem dX11_draw_0 : decode cX11_draw 0 = .ok (.aload_n 0, 1) := by decide +kernel
theorem dX11_draw_1 : decode cX11_draw 1 = .ok (.ldc2_w 358, 3) := by decide +kernel
theorem dX11_draw_4 : decode cX11_draw 4 = .ok (.aload_n 0, 1) := by decide +kernel
theorem dX11_draw_5 : decode cX11_draw 5 = .ok (.getfield 79, 3) := by decide +kernel
theorem dX11_draw_8 : decode cX11_draw 8 = .ok (.i2l, 1) := by decide +kernel
theorem dX11_draw_9 : decode cX11_draw 9 = .ok (.lmul, 1) := by decide +kernel
theorem dX11_draw_10 : decode cX11_draw 10 = .ok (.ldc2_w 360, 3) := by decide +kernel
theorem dX11_draw_13 : decode cX11_draw 13 = .ok (.ladd, 1) := by decide +kernel
theorem dX11_draw_14 : decode cX11_draw 14 = .ok (.ldc2_w 362, 3) := by decide +kernel
theorem dX11_draw_17 : decode cX11_draw 17 = .ok (.land, 1) := by decide +kernel
theorem dX11_draw_18 : decode cX11_draw 18 = .ok (.l2i, 1) := by decide +kernel
theorem dX11_draw_19 : decode cX11_draw 19 = .ok (.putfield 79, 3) := by decide +kernel
theorem dX11_draw_22 : decode cX11_draw 22 = .ok (.iload_n 1, 1) := by decide +kernel
theorem dX11_draw_23 : decode cX11_draw 23 = .ok (.ifCond .le 15, 3) := by decide +kernel
theorem dX11_draw_26 : decode cX11_draw 26 = .ok (.aload_n 0, 1) := by decide +kernel
theorem dX11_draw_27 : decode cX11_draw 27 = .ok (.getfield 79, 3) := by decide +kernel
theorem dX11_draw_30 : decode cX11_draw 30 = .ok (.bipush 6, 2) := by decide +kernel
theorem dX11_draw_32 : decode cX11_draw 32 = .ok (.ishr, 1) := by decide +kernel
theorem dX11_draw_33 : decode cX11_draw 33 = .ok (.iload_n 1, 1) := by decide +kernel
theorem dX11_draw_34 : decode cX11_draw 34 = .ok (.irem, 1) := by decide +kernel
theorem dX11_draw_35 : decode cX11_draw 35 = .ok (.goto 4, 3) := by decide +kernel
theorem dX11_draw_38 : decode cX11_draw 38 = .ok (.iconst 0, 1) := by decide +kernel
theorem dX11_draw_39 : decode cX11_draw 39 = .ok (.ireturn, 1) := by decide +kernel
noncomputable def tX11_draw_0 : List (Nat × zF) := [(0, (zla4 0 1)), (1, (zst 3 (zp (.long (1103515245))))), (4, (zla4 0 1)), (5, (zgf 11 15)), (8, (zst 1 zil)), (9, (zst 1 z_lmul)), (10, (zst 3 (zp (.long (12345))))), (13, (zst 1 z_ladd)), (14, (zst 3 (zp (.long (2147483647))))), (17, (zst 1 z_land)), (18, (zst 1 zli)), (19, (zpf 11 15 (.int)))]
theorem kX11_draw_0 : ∀ q ∈ tX11_draw_0, zOk zg iX11_draw q.1 q.2 := (z_c (ok_aload_n dX11_draw_0 rfl) (z_c (ok_ldc2 (v := (1103515245)) zw_683 dX11_draw_1) (z_c (ok_aload_n dX11_draw_4 rfl) (z_c (ok_getf (C := RX11) (T := TX11) (N := 16) rfl (by decide) zinX11 rfl zw_522 dX11_draw_5) (z_c (ok_i2l dX11_draw_8) (z_c (ok_lmul dX11_draw_9) (z_c (ok_ldc2 (v := (12345)) zw_684 dX11_draw_10) (z_c (ok_ladd dX11_draw_13) (z_c (ok_ldc2 (v := (2147483647)) zw_685 dX11_draw_14) (z_c (ok_land dX11_draw_17) (z_c (ok_l2i dX11_draw_18) (z_c (ok_putf (C := RX11) (T := TX11) (N := 16) false tyX11 tyX11_ok nmX11 rfl (by decide) zinX11 rfl zw_522 rfl (fun h => absurd h (by decide)) rfl dX11_draw_19) z_n))))))))))))
noncomputable def tX11_draw_1 : List (Nat × zF) := [(22, (zli4 1 1)), (23, (z_if_le 38)), (26, (zla4 0 1)), (27, (zgf 11 15)), (30, (zst 2 (zp (.int (6))))), (32, (zst 1 z_ishr)), (33, (zli4 1 1)), (34, (zst 1 z_irem)), (35, (zgt 39)), (38, (zst 1 (zp (.int (0))))), (39, (zri false))]
theorem kX11_draw_1 : ∀ q ∈ tX11_draw_1, zOk zg iX11_draw q.1 q.2 := (z_c (ok_iload_n dX11_draw_22 rfl) (z_c (ok_if_le dX11_draw_23 (by decide)) (z_c (ok_aload_n dX11_draw_26 rfl) (z_c (ok_getf (C := RX11) (T := TX11) (N := 16) rfl (by decide) zinX11 rfl zw_522 dX11_draw_27) (z_c (ok_bipush (v := (6)) dX11_draw_30 (by decide)) (z_c (ok_ishr dX11_draw_32) (z_c (ok_iload_n dX11_draw_33 rfl) (z_c (ok_irem dX11_draw_34) (z_c (ok_goto dX11_draw_35 (by decide)) (z_c (ok_iconst (v := (0)) dX11_draw_38 (by decide)) (z_c (ok_ireturn rfl dX11_draw_39) z_n)))))))))))
noncomputable def tX11_draw : zT := [(22, tX11_draw_0), (100000, tX11_draw_1)]
theorem kX11_draw : zTok zg iX11_draw tX11_draw := (z_t kX11_draw_0 (z_t kX11_draw_1 z_tn))
theorem dX11_nightOnTape_0 : decode cX11_nightOnTape 0 = .ok (.aload_n 0, 1) := by decide +kernel
theorem dX11_nightOnTape_1 : decode cX11_nightOnTape 1 = .ok (.getfield 9, 3) := by decide +kernel
theorem dX11_nightOnTape_4 : decode cX11_nightOnTape 4 = .ok (.iconst 0, 1) := by decide +kernel
theorem dX11_nightOnTape_5 : decode cX11_nightOnTape 5 = .ok (.iaload, 1) := by decide +kernel
theorem dX11_nightOnTape_6 : decode cX11_nightOnTape 6 = .ok (.sipush 256, 3) := by decide +kernel
theorem dX11_nightOnTape_9 : decode cX11_nightOnTape 9 = .ok (.imul, 1) := by decide +kernel
theorem dX11_nightOnTape_10 : decode cX11_nightOnTape 10 = .ok (.aload_n 0, 1) := by decide +kernel
theorem dX11_nightOnTape_11 : decode cX11_nightOnTape 11 = .ok (.getfield 9, 3) := by decide +kernel
theorem dX11_nightOnTape_14 : decode cX11_nightOnTape 14 = .ok (.iconst 1, 1) := by decide +kernel
theorem dX11_nightOnTape_15 : decode cX11_nightOnTape 15 = .ok (.iaload, 1) := by decide +kernel
theorem dX11_nightOnTape_16 : decode cX11_nightOnTape 16 = .ok (.iadd, 1) := by decide +kernel
theorem dX11_nightOnTape_17 : decode cX11_nightOnTape 17 = .ok (.ireturn, 1) := by decide +kernel
noncomputable def tX11_nightOnTape_0 : List (Nat × zF) := [(0, (zla4 0 1)), (1, (zgf 11 0)), (4, (zst 1 (zp (.int (0))))), (5, (zal 0)), (6, (zst 3 (zp (.int (256))))), (9, (zst 1 z_imul)), (10, (zla4 0 1)), (11, (zgf 11 0)), (14, (zst 1 (zp (.int (1))))), (15, (zal 0)), (16, (zst 1 z_iadd)), (17, (zri false))]
theorem kX11_nightOnTape_0 : ∀ q ∈ tX11_nightOnTape_0, zOk zg iX11_nightOnTape q.1 q.2 := (z_c (ok_aload_n dX11_nightOnTape_0 rfl) (z_c (ok_getf (C := RX11) (T := TX11) (N := 16) rfl (by decide) zinX11 rfl zw_484 dX11_nightOnTape_1) (z_c (ok_iconst (v := (0)) dX11_nightOnTape_4 (by decide)) (z_c (ok_iaload rfl dX11_nightOnTape_5) (z_c (ok_sipush (v := (256)) dX11_nightOnTape_6 (by decide)) (z_c (ok_imul dX11_nightOnTape_9) (z_c (ok_aload_n dX11_nightOnTape_10 rfl) (z_c (ok_getf (C := RX11) (T := TX11) (N := 16) rfl (by decide) zinX11 rfl zw_484 dX11_nightOnTape_11) (z_c (ok_iconst (v := (1)) dX11_nightOnTape_14 (by decide)) (z_c (ok_iaload rfl dX11_nightOnTape_15) (z_c (ok_iadd dX11_nightOnTape_16) (z_c (ok_ireturn rfl dX11_nightOnTape_17) z_n))))))))))))
noncomputable def tX11_nightOnTape : zT := [(100000, tX11_nightOnTape_0)]
theorem kX11_nightOnTape : zTok zg iX11_nightOnTape tX11_nightOnTape := (z_t kX11_nightOnTape_0 z_tn)
theorem dX11_holdsImage_0 : decode cX11_holdsImage 0 = .ok (.iconst 2, 1) := by decide +kernel
theorem dX11_holdsImage_1 : decode cX11_holdsImage 1 = .ok (.iconst 2, 1) := by decide +kernel
theorem dX11_holdsImage_2 : decode cX11_holdsImage 2 = .ok (.aload_n 0, 1) := by decide +kernel
theorem dX11_holdsImage_3 : decode cX11_holdsImage 3 = .ok (.getfield 20, 3) := by decide +kernel
theorem dX11_holdsImage_6 : decode cX11_holdsImage 6 = .ok (.getfield 143, 3) := by decide +kernel
theorem dX11_holdsImage_9 : decode cX11_holdsImage 9 = .ok (.imul, 1) := by decide +kernel
theorem dX11_holdsImage_10 : decode cX11_holdsImage 10 = .ok (.iadd, 1) := by decide +kernel
theorem dX11_holdsImage_11 : decode cX11_holdsImage 11 = .ok (.iconst 2, 1) := by decide +kernel
theorem dX11_holdsImage_12 : decode cX11_holdsImage 12 = .ok (.aload_n 0, 1) := by decide +kernel
theorem dX11_holdsImage_13 : decode cX11_holdsImage 13 = .ok (.getfield 20, 3) := by decide +kernel
theorem dX11_holdsImage_16 : decode cX11_holdsImage 16 = .ok (.getfield 146, 3) := by decide +kernel
theorem dX11_holdsImage_19 : decode cX11_holdsImage 19 = .ok (.imul, 1) := by decide +kernel
theorem dX11_holdsImage_20 : decode cX11_holdsImage 20 = .ok (.iadd, 1) := by decide +kernel
theorem dX11_holdsImage_21 : decode cX11_holdsImage 21 = .ok (.iconst 1, 1) := by decide +kernel
theorem dX11_holdsImage_22 : decode cX11_holdsImage 22 = .ok (.iadd, 1) := by decide +kernel
theorem dX11_holdsImage_23 : decode cX11_holdsImage 23 = .ok (.istore_n 2, 1) := by decide +kernel
theorem dX11_holdsImage_24 : decode cX11_holdsImage 24 = .ok (.aload_n 0, 1) := by decide +kernel
theorem dX11_holdsImage_25 : decode cX11_holdsImage 25 = .ok (.getfield 20, 3) := by decide +kernel
theorem dX11_holdsImage_28 : decode cX11_holdsImage 28 = .ok (.getfield 127, 3) := by decide +kernel
theorem dX11_holdsImage_31 : decode cX11_holdsImage 31 = .ok (.ifCond .eq 18, 3) := by decide +kernel
theorem dX11_holdsImage_34 : decode cX11_holdsImage 34 = .ok (.iload_n 1, 1) := by decide +kernel
theorem dX11_holdsImage_35 : decode cX11_holdsImage 35 = .ok (.iload_n 2, 1) := by decide +kernel
theorem dX11_holdsImage_36 : decode cX11_holdsImage 36 = .ok (.if_icmp .ne 13, 3) := by decide +kernel
theorem dX11_holdsImage_39 : decode cX11_holdsImage 39 = .ok (.aload_n 0, 1) := by decide +kernel
theorem dX11_holdsImage_40 : decode cX11_holdsImage 40 = .ok (.invokevirtual 333, 3) := by decide +kernel
theorem dX11_holdsImage_43 : decode cX11_holdsImage 43 = .ok (.sipush 999, 3) := by decide +kernel
theorem dX11_holdsImage_46 : decode cX11_holdsImage 46 = .ok (.if_icmp .le 5, 3) := by decide +kernel
theorem dX11_holdsImage_49 : decode cX11_holdsImage 49 = .ok (.iconst 0, 1) := by decide +kernel
theorem dX11_holdsImage_50 : decode cX11_holdsImage 50 = .ok (.ireturn, 1) := by decide +kernel
theorem dX11_holdsImage_51 : decode cX11_holdsImage 51 = .ok (.iconst 0, 1) := by decide +kernel
theorem dX11_holdsImage_52 : decode cX11_holdsImage 52 = .ok (.istore_n 3, 1) := by decide +kernel
theorem dX11_holdsImage_53 : decode cX11_holdsImage 53 = .ok (.iload_n 3, 1) := by decide +kernel
theorem dX11_holdsImage_54 : decode cX11_holdsImage 54 = .ok (.aload_n 0, 1) := by decide +kernel
theorem dX11_holdsImage_55 : decode cX11_holdsImage 55 = .ok (.getfield 20, 3) := by decide +kernel
theorem dX11_holdsImage_58 : decode cX11_holdsImage 58 = .ok (.getfield 143, 3) := by decide +kernel
theorem dX11_holdsImage_61 : decode cX11_holdsImage 61 = .ok (.if_icmp .ge 40, 3) := by decide +kernel
theorem dX11_holdsImage_64 : decode cX11_holdsImage 64 = .ok (.aload_n 0, 1) := by decide +kernel
theorem dX11_holdsImage_65 : decode cX11_holdsImage 65 = .ok (.getfield 9, 3) := by decide +kernel
theorem dX11_holdsImage_68 : decode cX11_holdsImage 68 = .ok (.iconst 2, 1) := by decide +kernel
theorem dX11_holdsImage_69 : decode cX11_holdsImage 69 = .ok (.iconst 2, 1) := by decide +kernel
theorem dX11_holdsImage_70 : decode cX11_holdsImage 70 = .ok (.iload_n 3, 1) := by decide +kernel
theorem dX11_holdsImage_71 : decode cX11_holdsImage 71 = .ok (.imul, 1) := by decide +kernel
theorem dX11_holdsImage_72 : decode cX11_holdsImage 72 = .ok (.iadd, 1) := by decide +kernel
theorem dX11_holdsImage_73 : decode cX11_holdsImage 73 = .ok (.iaload, 1) := by decide +kernel
theorem dX11_holdsImage_74 : decode cX11_holdsImage 74 = .ok (.iconst 1, 1) := by decide +kernel
theorem dX11_holdsImage_75 : decode cX11_holdsImage 75 = .ok (.if_icmp .gt 18, 3) := by decide +kernel
theorem dX11_holdsImage_78 : decode cX11_holdsImage 78 = .ok (.aload_n 0, 1) := by decide +kernel
theorem dX11_holdsImage_79 : decode cX11_holdsImage 79 = .ok (.getfield 9, 3) := by decide +kernel
theorem dX11_holdsImage_82 : decode cX11_holdsImage 82 = .ok (.iconst 3, 1) := by decide +kernel
theorem dX11_holdsImage_83 : decode cX11_holdsImage 83 = .ok (.iconst 2, 1) := by decide +kernel
theorem dX11_holdsImage_84 : decode cX11_holdsImage 84 = .ok (.iload_n 3, 1) := by decide +kernel
theorem dX11_holdsImage_85 : decode cX11_holdsImage 85 = .ok (.imul, 1) := by decide +kernel
theorem dX11_holdsImage_86 : decode cX11_holdsImage 86 = .ok (.iadd, 1) := by decide +kernel
theorem dX11_holdsImage_87 : decode cX11_holdsImage 87 = .ok (.iaload, 1) := by decide +kernel
theorem dX11_holdsImage_88 : decode cX11_holdsImage 88 = .ok (.bipush 99, 2) := by decide +kernel
theorem dX11_holdsImage_90 : decode cX11_holdsImage 90 = .ok (.if_icmp .le 5, 3) := by decide +kernel
theorem dX11_holdsImage_93 : decode cX11_holdsImage 93 = .ok (.iconst 0, 1) := by decide +kernel
theorem dX11_holdsImage_94 : decode cX11_holdsImage 94 = .ok (.ireturn, 1) := by decide +kernel
theorem dX11_holdsImage_95 : decode cX11_holdsImage 95 = .ok (.iinc 3 1, 3) := by decide +kernel
theorem dX11_holdsImage_98 : decode cX11_holdsImage 98 = .ok (.goto (-45), 3) := by decide +kernel
theorem dX11_holdsImage_101 : decode cX11_holdsImage 101 = .ok (.iconst 2, 1) := by decide +kernel
theorem dX11_holdsImage_102 : decode cX11_holdsImage 102 = .ok (.iconst 2, 1) := by decide +kernel
theorem dX11_holdsImage_103 : decode cX11_holdsImage 103 = .ok (.aload_n 0, 1) := by decide +kernel
theorem dX11_holdsImage_104 : decode cX11_holdsImage 104 = .ok (.getfield 20, 3) := by decide +kernel
theorem dX11_holdsImage_107 : decode cX11_holdsImage 107 = .ok (.getfield 143, 3) := by decide +kernel
theorem dX11_holdsImage_110 : decode cX11_holdsImage 110 = .ok (.imul, 1) := by decide +kernel
theorem dX11_holdsImage_111 : decode cX11_holdsImage 111 = .ok (.iadd, 1) := by decide +kernel
theorem dX11_holdsImage_112 : decode cX11_holdsImage 112 = .ok (.istore_n 3, 1) := by decide +kernel
theorem dX11_holdsImage_113 : decode cX11_holdsImage 113 = .ok (.iconst 0, 1) := by decide +kernel
theorem dX11_holdsImage_114 : decode cX11_holdsImage 114 = .ok (.istore 4, 2) := by decide +kernel
theorem dX11_holdsImage_116 : decode cX11_holdsImage 116 = .ok (.iload 4, 2) := by decide +kernel
theorem dX11_holdsImage_118 : decode cX11_holdsImage 118 = .ok (.aload_n 0, 1) := by decide +kernel
theorem dX11_holdsImage_119 : decode cX11_holdsImage 119 = .ok (.getfield 20, 3) := by decide +kernel
theorem dX11_holdsImage_122 : decode cX11_holdsImage 122 = .ok (.getfield 146, 3) := by decide +kernel
theorem dX11_holdsImage_125 : decode cX11_holdsImage 125 = .ok (.if_icmp .ge 45, 3) := by decide +kernel
theorem dX11_holdsImage_128 : decode cX11_holdsImage 128 = .ok (.aload_n 0, 1) := by decide +kernel
theorem dX11_holdsImage_129 : decode cX11_holdsImage 129 = .ok (.getfield 20, 3) := by decide +kernel
theorem dX11_holdsImage_132 : decode cX11_holdsImage 132 = .ok (.aload_n 0, 1) := by decide +kernel
theorem dX11_holdsImage_133 : decode cX11_holdsImage 133 = .ok (.getfield 9, 3) := by decide +kernel
theorem dX11_holdsImage_136 : decode cX11_holdsImage 136 = .ok (.iload_n 3, 1) := by decide +kernel
theorem dX11_holdsImage_137 : decode cX11_holdsImage 137 = .ok (.iconst 2, 1) := by decide +kernel
theorem dX11_holdsImage_138 : decode cX11_holdsImage 138 = .ok (.iload 4, 2) := by decide +kernel
theorem dX11_holdsImage_140 : decode cX11_holdsImage 140 = .ok (.imul, 1) := by decide +kernel
theorem dX11_holdsImage_141 : decode cX11_holdsImage 141 = .ok (.iadd, 1) := by decide +kernel
theorem dX11_holdsImage_142 : decode cX11_holdsImage 142 = .ok (.iaload, 1) := by decide +kernel
theorem dX11_holdsImage_143 : decode cX11_holdsImage 143 = .ok (.aload_n 0, 1) := by decide +kernel
theorem dX11_holdsImage_144 : decode cX11_holdsImage 144 = .ok (.getfield 9, 3) := by decide +kernel
theorem dX11_holdsImage_147 : decode cX11_holdsImage 147 = .ok (.iload_n 3, 1) := by decide +kernel
theorem dX11_holdsImage_148 : decode cX11_holdsImage 148 = .ok (.iconst 2, 1) := by decide +kernel
theorem dX11_holdsImage_149 : decode cX11_holdsImage 149 = .ok (.iload 4, 2) := by decide +kernel
theorem dX11_holdsImage_151 : decode cX11_holdsImage 151 = .ok (.imul, 1) := by decide +kernel
theorem dX11_holdsImage_152 : decode cX11_holdsImage 152 = .ok (.iadd, 1) := by decide +kernel
theorem dX11_holdsImage_153 : decode cX11_holdsImage 153 = .ok (.iconst 1, 1) := by decide +kernel
theorem dX11_holdsImage_154 : decode cX11_holdsImage 154 = .ok (.iadd, 1) := by decide +kernel
theorem dX11_holdsImage_155 : decode cX11_holdsImage 155 = .ok (.iaload, 1) := by decide +kernel
theorem dX11_holdsImage_156 : decode cX11_holdsImage 156 = .ok (.invokevirtual 309, 3) := by decide +kernel
theorem dX11_holdsImage_159 : decode cX11_holdsImage 159 = .ok (.ifCond .ne 5, 3) := by decide +kernel
theorem dX11_holdsImage_162 : decode cX11_holdsImage 162 = .ok (.iconst 0, 1) := by decide +kernel
theorem dX11_holdsImage_163 : decode cX11_holdsImage 163 = .ok (.ireturn, 1) := by decide +kernel
theorem dX11_holdsImage_164 : decode cX11_holdsImage 164 = .ok (.iinc 4 1, 3) := by decide +kernel
theorem dX11_holdsImage_167 : decode cX11_holdsImage 167 = .ok (.goto (-51), 3) := by decide +kernel
theorem dX11_holdsImage_170 : decode cX11_holdsImage 170 = .ok (.aload_n 0, 1) := by decide +kernel
theorem dX11_holdsImage_171 : decode cX11_holdsImage 171 = .ok (.getfield 9, 3) := by decide +kernel
theorem dX11_holdsImage_174 : decode cX11_holdsImage 174 = .ok (.iload_n 2, 1) := by decide +kernel
theorem dX11_holdsImage_175 : decode cX11_holdsImage 175 = .ok (.iconst 1, 1) := by decide +kernel
theorem dX11_holdsImage_176 : decode cX11_holdsImage 176 = .ok (.isub, 1) := by decide +kernel
theorem dX11_holdsImage_177 : decode cX11_holdsImage 177 = .ok (.iaload, 1) := by decide +kernel
theorem dX11_holdsImage_178 : decode cX11_holdsImage 178 = .ok (.aload_n 0, 1) := by decide +kernel
theorem dX11_holdsImage_179 : decode cX11_holdsImage 179 = .ok (.getfield 9, 3) := by decide +kernel
theorem dX11_holdsImage_182 : decode cX11_holdsImage 182 = .ok (.iload_n 2, 1) := by decide +kernel
theorem dX11_holdsImage_183 : decode cX11_holdsImage 183 = .ok (.iconst 1, 1) := by decide +kernel
theorem dX11_holdsImage_184 : decode cX11_holdsImage 184 = .ok (.isub, 1) := by decide +kernel
theorem dX11_holdsImage_185 : decode cX11_holdsImage 185 = .ok (.invokestatic 323, 3) := by decide +kernel
theorem dX11_holdsImage_188 : decode cX11_holdsImage 188 = .ok (.if_icmp .ne 7, 3) := by decide +kernel
theorem dX11_holdsImage_191 : decode cX11_holdsImage 191 = .ok (.iconst 1, 1) := by decide +kernel
theorem dX11_holdsImage_192 : decode cX11_holdsImage 192 = .ok (.goto 4, 3) := by decide +kernel
theorem dX11_holdsImage_195 : decode cX11_holdsImage 195 = .ok (.iconst 0, 1) := by decide +kernel
theorem dX11_holdsImage_196 : decode cX11_holdsImage 196 = .ok (.ireturn, 1) := by decide +kernel
noncomputable def tX11_holdsImage_0 : List (Nat × zF) := [(0, (zst 1 (zp (.int (2))))), (1, (zst 1 (zp (.int (2))))), (2, (zla4 0 1)), (3, (zgf 11 4)), (6, (zgf 4 7)), (9, (zst 1 z_imul)), (10, (zst 1 z_iadd)), (11, (zst 1 (zp (.int (2))))), (12, (zla4 0 1)), (13, (zgf 11 4)), (16, (zgf 4 13)), (19, (zst 1 z_imul))]
theorem kX11_holdsImage_0 : ∀ q ∈ tX11_holdsImage_0, zOk zg iX11_holdsImage q.1 q.2 := (z_c (ok_iconst (v := (2)) dX11_holdsImage_0 (by decide)) (z_c (ok_iconst (v := (2)) dX11_holdsImage_1 (by decide)) (z_c (ok_aload_n dX11_holdsImage_2 rfl) (z_c (ok_getf (C := RX11) (T := TX11) (N := 16) rfl (by decide) zinX11 rfl zw_490 dX11_holdsImage_3) (z_c (ok_getf (C := RX4) (T := TX4) (N := 18) rfl (by decide) zinX4 rfl zw_564 dX11_holdsImage_6) (z_c (ok_imul dX11_holdsImage_9) (z_c (ok_iadd dX11_holdsImage_10) (z_c (ok_iconst (v := (2)) dX11_holdsImage_11 (by decide)) (z_c (ok_aload_n dX11_holdsImage_12 rfl) (z_c (ok_getf (C := RX11) (T := TX11) (N := 16) rfl (by decide) zinX11 rfl zw_490 dX11_holdsImage_13) (z_c (ok_getf (C := RX4) (T := TX4) (N := 18) rfl (by decide) zinX4 rfl zw_565 dX11_holdsImage_16) (z_c (ok_imul dX11_holdsImage_19) z_n))))))))))))
noncomputable def tX11_holdsImage_1 : List (Nat × zF) := [(20, (zst 1 z_iadd)), (21, (zst 1 (zp (.int (1))))), (22, (zst 1 z_iadd)), (23, (zsi4 5 2 1)), (24, (zla4 0 1)), (25, (zgf 11 4)), (28, (zgf 4 1)), (31, (z_if_eq 49)), (34, (zli4 1 1)), (35, (zli4 2 1)), (36, (z_ic_ne 49)), (39, (zla4 0 1))]
theorem kX11_holdsImage_1 : ∀ q ∈ tX11_holdsImage_1, zOk zg iX11_holdsImage q.1 q.2 := (z_c (ok_iadd dX11_holdsImage_20) (z_c (ok_iconst (v := (1)) dX11_holdsImage_21 (by decide)) (z_c (ok_iadd dX11_holdsImage_22) (z_c (ok_istore_n dX11_holdsImage_23 rfl) (z_c (ok_aload_n dX11_holdsImage_24 rfl) (z_c (ok_getf (C := RX11) (T := TX11) (N := 16) rfl (by decide) zinX11 rfl zw_490 dX11_holdsImage_25) (z_c (ok_getf (C := RX4) (T := TX4) (N := 18) rfl (by decide) zinX4 rfl zw_559 dX11_holdsImage_28) (z_c (ok_if_eq dX11_holdsImage_31 (by decide)) (z_c (ok_iload_n dX11_holdsImage_34 rfl) (z_c (ok_iload_n dX11_holdsImage_35 rfl) (z_c (ok_icmp_ne dX11_holdsImage_36 (by decide)) (z_c (ok_aload_n dX11_holdsImage_39 rfl) z_n))))))))))))
noncomputable def tX11_holdsImage_2 : List (Nat × zF) := [(40, (zcv 156 0 11)), (43, (zst 3 (zp (.int (999))))), (46, (z_ic_le 51)), (49, (zst 1 (zp (.int (0))))), (50, (zri true)), (51, (zst 1 (zp (.int (0))))), (52, (zsi4 5 3 1)), (53, (zli4 3 1)), (54, (zla4 0 1)), (55, (zgf 11 4)), (58, (zgf 4 7)), (61, (z_ic_ge 101))]
theorem kX11_holdsImage_2 : ∀ q ∈ tX11_holdsImage_2, zOk zg iX11_holdsImage q.1 q.2 := (z_c (ok_callV zcal_156 (q := (RX11, TX11, 16)) rfl zw_669 zw_670 zw_671 dX11_holdsImage_40) (z_c (ok_sipush (v := (999)) dX11_holdsImage_43 (by decide)) (z_c (ok_icmp_le dX11_holdsImage_46 (by decide)) (z_c (ok_iconst (v := (0)) dX11_holdsImage_49 (by decide)) (z_c (ok_zreturn rfl dX11_holdsImage_50) (z_c (ok_iconst (v := (0)) dX11_holdsImage_51 (by decide)) (z_c (ok_istore_n dX11_holdsImage_52 rfl) (z_c (ok_iload_n dX11_holdsImage_53 rfl) (z_c (ok_aload_n dX11_holdsImage_54 rfl) (z_c (ok_getf (C := RX11) (T := TX11) (N := 16) rfl (by decide) zinX11 rfl zw_490 dX11_holdsImage_55) (z_c (ok_getf (C := RX4) (T := TX4) (N := 18) rfl (by decide) zinX4 rfl zw_564 dX11_holdsImage_58) (z_c (ok_icmp_ge dX11_holdsImage_61 (by decide)) z_n))))))))))))
noncomputable def tX11_holdsImage_3 : List (Nat × zF) := [(64, (zla4 0 1)), (65, (zgf 11 0)), (68, (zst 1 (zp (.int (2))))), (69, (zst 1 (zp (.int (2))))), (70, (zli4 3 1)), (71, (zst 1 z_imul)), (72, (zst 1 z_iadd)), (73, (zal 0)), (74, (zst 1 (zp (.int (1))))), (75, (z_ic_gt 93)), (78, (zla4 0 1)), (79, (zgf 11 0))]
theorem kX11_holdsImage_3 : ∀ q ∈ tX11_holdsImage_3, zOk zg iX11_holdsImage q.1 q.2 := (z_c (ok_aload_n dX11_holdsImage_64 rfl) (z_c (ok_getf (C := RX11) (T := TX11) (N := 16) rfl (by decide) zinX11 rfl zw_484 dX11_holdsImage_65) (z_c (ok_iconst (v := (2)) dX11_holdsImage_68 (by decide)) (z_c (ok_iconst (v := (2)) dX11_holdsImage_69 (by decide)) (z_c (ok_iload_n dX11_holdsImage_70 rfl) (z_c (ok_imul dX11_holdsImage_71) (z_c (ok_iadd dX11_holdsImage_72) (z_c (ok_iaload rfl dX11_holdsImage_73) (z_c (ok_iconst (v := (1)) dX11_holdsImage_74 (by decide)) (z_c (ok_icmp_gt dX11_holdsImage_75 (by decide)) (z_c (ok_aload_n dX11_holdsImage_78 rfl) (z_c (ok_getf (C := RX11) (T := TX11) (N := 16) rfl (by decide) zinX11 rfl zw_484 dX11_holdsImage_79) z_n))))))))))))
noncomputable def tX11_holdsImage_4 : List (Nat × zF) := [(82, (zst 1 (zp (.int (3))))), (83, (zst 1 (zp (.int (2))))), (84, (zli4 3 1)), (85, (zst 1 z_imul)), (86, (zst 1 z_iadd)), (87, (zal 0)), (88, (zst 2 (zp (.int (99))))), (90, (z_ic_le 95)), (93, (zst 1 (zp (.int (0))))), (94, (zri true)), (95, (zin4 5 3 (1))), (98, (zgt 53))]
theorem kX11_holdsImage_4 : ∀ q ∈ tX11_holdsImage_4, zOk zg iX11_holdsImage q.1 q.2 := (z_c (ok_iconst (v := (3)) dX11_holdsImage_82 (by decide)) (z_c (ok_iconst (v := (2)) dX11_holdsImage_83 (by decide)) (z_c (ok_iload_n dX11_holdsImage_84 rfl) (z_c (ok_imul dX11_holdsImage_85) (z_c (ok_iadd dX11_holdsImage_86) (z_c (ok_iaload rfl dX11_holdsImage_87) (z_c (ok_bipush (v := (99)) dX11_holdsImage_88 (by decide)) (z_c (ok_icmp_le dX11_holdsImage_90 (by decide)) (z_c (ok_iconst (v := (0)) dX11_holdsImage_93 (by decide)) (z_c (ok_zreturn rfl dX11_holdsImage_94) (z_c (ok_iinc (v := (1)) dX11_holdsImage_95 (by decide)) (z_c (ok_goto dX11_holdsImage_98 (by decide)) z_n))))))))))))
noncomputable def tX11_holdsImage_5 : List (Nat × zF) := [(101, (zst 1 (zp (.int (2))))), (102, (zst 1 (zp (.int (2))))), (103, (zla4 0 1)), (104, (zgf 11 4)), (107, (zgf 4 7)), (110, (zst 1 z_imul)), (111, (zst 1 z_iadd)), (112, (zsi4 5 3 1)), (113, (zst 1 (zp (.int (0))))), (114, (zsi4 5 4 2)), (116, (zli4 4 2)), (118, (zla4 0 1))]
theorem kX11_holdsImage_5 : ∀ q ∈ tX11_holdsImage_5, zOk zg iX11_holdsImage q.1 q.2 := (z_c (ok_iconst (v := (2)) dX11_holdsImage_101 (by decide)) (z_c (ok_iconst (v := (2)) dX11_holdsImage_102 (by decide)) (z_c (ok_aload_n dX11_holdsImage_103 rfl) (z_c (ok_getf (C := RX11) (T := TX11) (N := 16) rfl (by decide) zinX11 rfl zw_490 dX11_holdsImage_104) (z_c (ok_getf (C := RX4) (T := TX4) (N := 18) rfl (by decide) zinX4 rfl zw_564 dX11_holdsImage_107) (z_c (ok_imul dX11_holdsImage_110) (z_c (ok_iadd dX11_holdsImage_111) (z_c (ok_istore_n dX11_holdsImage_112 rfl) (z_c (ok_iconst (v := (0)) dX11_holdsImage_113 (by decide)) (z_c (ok_istore dX11_holdsImage_114) (z_c (ok_iload dX11_holdsImage_116) (z_c (ok_aload_n dX11_holdsImage_118 rfl) z_n))))))))))))
noncomputable def tX11_holdsImage_6 : List (Nat × zF) := [(119, (zgf 11 4)), (122, (zgf 4 13)), (125, (z_ic_ge 170)), (128, (zla4 0 1)), (129, (zgf 11 4)), (132, (zla4 0 1)), (133, (zgf 11 0)), (136, (zli4 3 1)), (137, (zst 1 (zp (.int (2))))), (138, (zli4 4 2)), (140, (zst 1 z_imul)), (141, (zst 1 z_iadd))]
theorem kX11_holdsImage_6 : ∀ q ∈ tX11_holdsImage_6, zOk zg iX11_holdsImage q.1 q.2 := (z_c (ok_getf (C := RX11) (T := TX11) (N := 16) rfl (by decide) zinX11 rfl zw_490 dX11_holdsImage_119) (z_c (ok_getf (C := RX4) (T := TX4) (N := 18) rfl (by decide) zinX4 rfl zw_565 dX11_holdsImage_122) (z_c (ok_icmp_ge dX11_holdsImage_125 (by decide)) (z_c (ok_aload_n dX11_holdsImage_128 rfl) (z_c (ok_getf (C := RX11) (T := TX11) (N := 16) rfl (by decide) zinX11 rfl zw_490 dX11_holdsImage_129) (z_c (ok_aload_n dX11_holdsImage_132 rfl) (z_c (ok_getf (C := RX11) (T := TX11) (N := 16) rfl (by decide) zinX11 rfl zw_484 dX11_holdsImage_133) (z_c (ok_iload_n dX11_holdsImage_136 rfl) (z_c (ok_iconst (v := (2)) dX11_holdsImage_137 (by decide)) (z_c (ok_iload dX11_holdsImage_138) (z_c (ok_imul dX11_holdsImage_140) (z_c (ok_iadd dX11_holdsImage_141) z_n))))))))))))
noncomputable def tX11_holdsImage_7 : List (Nat × zF) := [(142, (zal 0)), (143, (zla4 0 1)), (144, (zgf 11 0)), (147, (zli4 3 1)), (148, (zst 1 (zp (.int (2))))), (149, (zli4 4 2)), (151, (zst 1 z_imul)), (152, (zst 1 z_iadd)), (153, (zst 1 (zp (.int (1))))), (154, (zst 1 z_iadd)), (155, (zal 0)), (156, (zcv 51 2 4))]
theorem kX11_holdsImage_7 : ∀ q ∈ tX11_holdsImage_7, zOk zg iX11_holdsImage q.1 q.2 := (z_c (ok_iaload rfl dX11_holdsImage_142) (z_c (ok_aload_n dX11_holdsImage_143 rfl) (z_c (ok_getf (C := RX11) (T := TX11) (N := 16) rfl (by decide) zinX11 rfl zw_484 dX11_holdsImage_144) (z_c (ok_iload_n dX11_holdsImage_147 rfl) (z_c (ok_iconst (v := (2)) dX11_holdsImage_148 (by decide)) (z_c (ok_iload dX11_holdsImage_149) (z_c (ok_imul dX11_holdsImage_151) (z_c (ok_iadd dX11_holdsImage_152) (z_c (ok_iconst (v := (1)) dX11_holdsImage_153 (by decide)) (z_c (ok_iadd dX11_holdsImage_154) (z_c (ok_iaload rfl dX11_holdsImage_155) (z_c (ok_callV zcal_51 (q := (RX4, TX4, 18)) rfl zw_654 zw_655 zw_656 dX11_holdsImage_156) z_n))))))))))))
noncomputable def tX11_holdsImage_8 : List (Nat × zF) := [(159, (z_if_ne 164)), (162, (zst 1 (zp (.int (0))))), (163, (zri true)), (164, (zin4 5 4 (1))), (167, (zgt 116)), (170, (zla4 0 1)), (171, (zgf 11 0)), (174, (zli4 2 1)), (175, (zst 1 (zp (.int (1))))), (176, (zst 1 z_isub)), (177, (zal 0)), (178, (zla4 0 1))]
theorem kX11_holdsImage_8 : ∀ q ∈ tX11_holdsImage_8, zOk zg iX11_holdsImage q.1 q.2 := (z_c (ok_if_ne dX11_holdsImage_159 (by decide)) (z_c (ok_iconst (v := (0)) dX11_holdsImage_162 (by decide)) (z_c (ok_zreturn rfl dX11_holdsImage_163) (z_c (ok_iinc (v := (1)) dX11_holdsImage_164 (by decide)) (z_c (ok_goto dX11_holdsImage_167 (by decide)) (z_c (ok_aload_n dX11_holdsImage_170 rfl) (z_c (ok_getf (C := RX11) (T := TX11) (N := 16) rfl (by decide) zinX11 rfl zw_484 dX11_holdsImage_171) (z_c (ok_iload_n dX11_holdsImage_174 rfl) (z_c (ok_iconst (v := (1)) dX11_holdsImage_175 (by decide)) (z_c (ok_isub dX11_holdsImage_176) (z_c (ok_iaload rfl dX11_holdsImage_177) (z_c (ok_aload_n dX11_holdsImage_178 rfl) z_n))))))))))))
noncomputable def tX11_holdsImage_9 : List (Nat × zF) := [(179, (zgf 11 0)), (182, (zli4 2 1)), (183, (zst 1 (zp (.int (1))))), (184, (zst 1 z_isub)), (185, (zcs 158 2)), (188, (z_ic_ne 195)), (191, (zst 1 (zp (.int (1))))), (192, (zgt 196)), (195, (zst 1 (zp (.int (0))))), (196, (zri true))]
theorem kX11_holdsImage_9 : ∀ q ∈ tX11_holdsImage_9, zOk zg iX11_holdsImage q.1 q.2 := (z_c (ok_getf (C := RX11) (T := TX11) (N := 16) rfl (by decide) zinX11 rfl zw_484 dX11_holdsImage_179) (z_c (ok_iload_n dX11_holdsImage_182 rfl) (z_c (ok_iconst (v := (1)) dX11_holdsImage_183 (by decide)) (z_c (ok_isub dX11_holdsImage_184) (z_c (ok_callS zcal_158 zw_663 zw_664 dX11_holdsImage_185) (z_c (ok_icmp_ne dX11_holdsImage_188 (by decide)) (z_c (ok_iconst (v := (1)) dX11_holdsImage_191 (by decide)) (z_c (ok_goto dX11_holdsImage_192 (by decide)) (z_c (ok_iconst (v := (0)) dX11_holdsImage_195 (by decide)) (z_c (ok_zreturn rfl dX11_holdsImage_196) z_n))))))))))
noncomputable def tX11_holdsImage : zT := [(20, tX11_holdsImage_0), (40, tX11_holdsImage_1), (64, tX11_holdsImage_2), (82, tX11_holdsImage_3), (101, tX11_holdsImage_4), (119, tX11_holdsImage_5), (142, tX11_holdsImage_6), (159, tX11_holdsImage_7), (179, tX11_holdsImage_8), (100000, tX11_holdsImage_9)]
theorem kX11_holdsImage : zTok zg iX11_holdsImage tX11_holdsImage := (z_t kX11_holdsImage_0 (z_t kX11_holdsImage_1 (z_t kX11_holdsImage_2 (z_t kX11_holdsImage_3 (z_t kX11_holdsImage_4 (z_t kX11_holdsImage_5 (z_t kX11_holdsImage_6 (z_t kX11_holdsImage_7 (z_t kX11_holdsImage_8 (z_t kX11_holdsImage_9 z_tn))))))))))
theorem dX11_checkOf_0 : decode cX11_checkOf 0 = .ok (.sipush 241, 3) := by decide +kernel
theorem dX11_checkOf_3 : decode cX11_checkOf 3 = .ok (.istore_n 2, 1) := by decide +kernel
theorem dX11_checkOf_4 : decode cX11_checkOf 4 = .ok (.iconst 0, 1) := by decide +kernel
theorem dX11_checkOf_5 : decode cX11_checkOf 5 = .ok (.istore_n 3, 1) := by decide +kernel
theorem dX11_checkOf_6 : decode cX11_checkOf 6 = .ok (.iload_n 3, 1) := by decide +kernel
theorem dX11_checkOf_7 : decode cX11_checkOf 7 = .ok (.iload_n 1, 1) := by decide +kernel
theorem dX11_checkOf_8 : decode cX11_checkOf 8 = .ok (.if_icmp .ge 27, 3) := by decide +kernel
theorem dX11_checkOf_11 : decode cX11_checkOf 11 = .ok (.iload_n 3, 1) := by decide +kernel
theorem dX11_checkOf_12 : decode cX11_checkOf 12 = .ok (.aload_n 0, 1) := by decide +kernel
theorem dX11_checkOf_13 : decode cX11_checkOf 13 = .ok (.arraylength, 1) := by decide +kernel
theorem dX11_checkOf_14 : decode cX11_checkOf 14 = .ok (.if_icmp .ge 21, 3) := by decide +kernel
theorem dX11_checkOf_17 : decode cX11_checkOf 17 = .ok (.iconst 5, 1) := by decide +kernel
theorem dX11_checkOf_18 : decode cX11_checkOf 18 = .ok (.iload_n 2, 1) := by decide +kernel
theorem dX11_checkOf_19 : decode cX11_checkOf 19 = .ok (.imul, 1) := by decide +kernel
theorem dX11_checkOf_20 : decode cX11_checkOf 20 = .ok (.aload_n 0, 1) := by decide +kernel
theorem dX11_checkOf_21 : decode cX11_checkOf 21 = .ok (.iload_n 3, 1) := by decide +kernel
theorem dX11_checkOf_22 : decode cX11_checkOf 22 = .ok (.iaload, 1) := by decide +kernel
theorem dX11_checkOf_23 : decode cX11_checkOf 23 = .ok (.iadd, 1) := by decide +kernel
theorem dX11_checkOf_24 : decode cX11_checkOf 24 = .ok (.sipush 251, 3) := by decide +kernel
theorem dX11_checkOf_27 : decode cX11_checkOf 27 = .ok (.irem, 1) := by decide +kernel
theorem dX11_checkOf_28 : decode cX11_checkOf 28 = .ok (.istore_n 2, 1) := by decide +kernel
theorem dX11_checkOf_29 : decode cX11_checkOf 29 = .ok (.iinc 3 1, 3) := by decide +kernel
theorem dX11_checkOf_32 : decode cX11_checkOf 32 = .ok (.goto (-26), 3) := by decide +kernel
theorem dX11_checkOf_35 : decode cX11_checkOf 35 = .ok (.iload_n 2, 1) := by decide +kernel
theorem dX11_checkOf_36 : decode cX11_checkOf 36 = .ok (.ireturn, 1) := by decide +kernel
noncomputable def tX11_checkOf_0 : List (Nat × zF) := [(0, (zst 3 (zp (.int (241))))), (3, (zsi4 4 2 1)), (4, (zst 1 (zp (.int (0))))), (5, (zsi4 4 3 1)), (6, (zli4 3 1)), (7, (zli4 1 1)), (8, (z_ic_ge 35)), (11, (zli4 3 1)), (12, (zla4 0 1)), (13, (zle4 0)), (14, (z_ic_ge 35)), (17, (zst 1 (zp (.int (5)))))]
theorem kX11_checkOf_0 : ∀ q ∈ tX11_checkOf_0, zOk zg iX11_checkOf q.1 q.2 := (z_c (ok_sipush (v := (241)) dX11_checkOf_0 (by decide)) (z_c (ok_istore_n dX11_checkOf_3 rfl) (z_c (ok_iconst (v := (0)) dX11_checkOf_4 (by decide)) (z_c (ok_istore_n dX11_checkOf_5 rfl) (z_c (ok_iload_n dX11_checkOf_6 rfl) (z_c (ok_iload_n dX11_checkOf_7 rfl) (z_c (ok_icmp_ge dX11_checkOf_8 (by decide)) (z_c (ok_iload_n dX11_checkOf_11 rfl) (z_c (ok_aload_n dX11_checkOf_12 rfl) (z_c (ok_alen (ty := .int) rfl dX11_checkOf_13) (z_c (ok_icmp_ge dX11_checkOf_14 (by decide)) (z_c (ok_iconst (v := (5)) dX11_checkOf_17 (by decide)) z_n))))))))))))
noncomputable def tX11_checkOf_1 : List (Nat × zF) := [(18, (zli4 2 1)), (19, (zst 1 z_imul)), (20, (zla4 0 1)), (21, (zli4 3 1)), (22, (zal 0)), (23, (zst 1 z_iadd)), (24, (zst 3 (zp (.int (251))))), (27, (zst 1 z_irem)), (28, (zsi4 4 2 1)), (29, (zin4 4 3 (1))), (32, (zgt 6)), (35, (zli4 2 1))]
theorem kX11_checkOf_1 : ∀ q ∈ tX11_checkOf_1, zOk zg iX11_checkOf q.1 q.2 := (z_c (ok_iload_n dX11_checkOf_18 rfl) (z_c (ok_imul dX11_checkOf_19) (z_c (ok_aload_n dX11_checkOf_20 rfl) (z_c (ok_iload_n dX11_checkOf_21 rfl) (z_c (ok_iaload rfl dX11_checkOf_22) (z_c (ok_iadd dX11_checkOf_23) (z_c (ok_sipush (v := (251)) dX11_checkOf_24 (by decide)) (z_c (ok_irem dX11_checkOf_27) (z_c (ok_istore_n dX11_checkOf_28 rfl) (z_c (ok_iinc (v := (1)) dX11_checkOf_29 (by decide)) (z_c (ok_goto dX11_checkOf_32 (by decide)) (z_c (ok_iload_n dX11_checkOf_35 rfl) z_n))))))))))))
noncomputable def tX11_checkOf_2 : List (Nat × zF) := [(36, (zri false))]
theorem kX11_checkOf_2 : ∀ q ∈ tX11_checkOf_2, zOk zg iX11_checkOf q.1 q.2 := (z_c (ok_ireturn rfl dX11_checkOf_36) z_n)
noncomputable def tX11_checkOf : zT := [(18, tX11_checkOf_0), (36, tX11_checkOf_1), (100000, tX11_checkOf_2)]
theorem kX11_checkOf : zTok zg iX11_checkOf tX11_checkOf := (z_t kX11_checkOf_0 (z_t kX11_checkOf_1 (z_t kX11_checkOf_2 z_tn)))
theorem dX11_letterOf_0 : decode cX11_letterOf 0 = .ok (.iload_n 0, 1) := by decide +kernel
theorem dX11_letterOf_1 : decode cX11_letterOf 1 = .ok (.iconst 5, 1) := by decide +kernel
theorem dX11_letterOf_2 : decode cX11_letterOf 2 = .ok (.iload_n 1, 1) := by decide +kernel
theorem dX11_letterOf_3 : decode cX11_letterOf 3 = .ok (.imul, 1) := by decide +kernel
theorem dX11_letterOf_4 : decode cX11_letterOf 4 = .ok (.iushr, 1) := by decide +kernel
theorem dX11_letterOf_5 : decode cX11_letterOf 5 = .ok (.bipush 31, 2) := by decide +kernel
theorem dX11_letterOf_7 : decode cX11_letterOf 7 = .ok (.iand, 1) := by decide +kernel
theorem dX11_letterOf_8 : decode cX11_letterOf 8 = .ok (.ireturn, 1) := by decide +kernel
noncomputable def tX11_letterOf_0 : List (Nat × zF) := [(0, (zli4 0 1)), (1, (zst 1 (zp (.int (5))))), (2, (zli4 1 1)), (3, (zst 1 z_imul)), (4, (zst 1 z_iushr)), (5, (zst 2 (zp (.int (31))))), (7, (zst 1 z_iand)), (8, (zri false))]
theorem kX11_letterOf_0 : ∀ q ∈ tX11_letterOf_0, zOk zg iX11_letterOf q.1 q.2 := (z_c (ok_iload_n dX11_letterOf_0 rfl) (z_c (ok_iconst (v := (5)) dX11_letterOf_1 (by decide)) (z_c (ok_iload_n dX11_letterOf_2 rfl) (z_c (ok_imul dX11_letterOf_3) (z_c (ok_iushr dX11_letterOf_4) (z_c (ok_bipush (v := (31)) dX11_letterOf_5 (by decide)) (z_c (ok_iand dX11_letterOf_7) (z_c (ok_ireturn rfl dX11_letterOf_8) z_n))))))))
noncomputable def tX11_letterOf : zT := [(100000, tX11_letterOf_0)]
theorem kX11_letterOf : zTok zg iX11_letterOf tX11_letterOf := (z_t kX11_letterOf_0 z_tn)
theorem dX11_placeOf_0 : decode cX11_placeOf 0 = .ok (.iload_n 1, 1) := by decide +kernel
theorem dX11_placeOf_1 : decode cX11_placeOf 1 = .ok (.bipush 8, 2) := by decide +kernel
theorem dX11_placeOf_3 : decode cX11_placeOf 3 = .ok (.imul, 1) := by decide +kernel
theorem dX11_placeOf_4 : decode cX11_placeOf 4 = .ok (.iload_n 0, 1) := by decide +kernel
theorem dX11_placeOf_5 : decode cX11_placeOf 5 = .ok (.iadd, 1) := by decide +kernel
theorem dX11_placeOf_6 : decode cX11_placeOf 6 = .ok (.ireturn, 1) := by decide +kernel
noncomputable def tX11_placeOf_0 : List (Nat × zF) := [(0, (zli4 1 1)), (1, (zst 2 (zp (.int (8))))), (3, (zst 1 z_imul)), (4, (zli4 0 1)), (5, (zst 1 z_iadd)), (6, (zri false))]
theorem kX11_placeOf_0 : ∀ q ∈ tX11_placeOf_0, zOk zg iX11_placeOf q.1 q.2 := (z_c (ok_iload_n dX11_placeOf_0 rfl) (z_c (ok_bipush (v := (8)) dX11_placeOf_1 (by decide)) (z_c (ok_imul dX11_placeOf_3) (z_c (ok_iload_n dX11_placeOf_4 rfl) (z_c (ok_iadd dX11_placeOf_5) (z_c (ok_ireturn rfl dX11_placeOf_6) z_n))))))
noncomputable def tX11_placeOf : zT := [(100000, tX11_placeOf_0)]
theorem kX11_placeOf : zTok zg iX11_placeOf tX11_placeOf := (z_t kX11_placeOf_0 z_tn)
theorem dX11_columnOf_0 : decode cX11_columnOf 0 = .ok (.iload_n 0, 1) := by decide +kernel
theorem dX11_columnOf_1 : decode cX11_columnOf 1 = .ok (.bipush 8, 2) := by decide +kernel
theorem dX11_columnOf_3 : decode cX11_columnOf 3 = .ok (.irem, 1) := by decide +kernel
theorem dX11_columnOf_4 : decode cX11_columnOf 4 = .ok (.ireturn, 1) := by decide +kernel
noncomputable def tX11_columnOf_0 : List (Nat × zF) := [(0, (zli4 0 1)), (1, (zst 2 (zp (.int (8))))), (3, (zst 1 z_irem)), (4, (zri false))]
theorem kX11_columnOf_0 : ∀ q ∈ tX11_columnOf_0, zOk zg iX11_columnOf q.1 q.2 := (z_c (ok_iload_n dX11_columnOf_0 rfl) (z_c (ok_bipush (v := (8)) dX11_columnOf_1 (by decide)) (z_c (ok_irem dX11_columnOf_3) (z_c (ok_ireturn rfl dX11_columnOf_4) z_n))))
noncomputable def tX11_columnOf : zT := [(100000, tX11_columnOf_0)]
theorem kX11_columnOf : zTok zg iX11_columnOf tX11_columnOf := (z_t kX11_columnOf_0 z_tn)
theorem dX11_rowOf_0 : decode cX11_rowOf 0 = .ok (.iload_n 0, 1) := by decide +kernel
theorem dX11_rowOf_1 : decode cX11_rowOf 1 = .ok (.bipush 8, 2) := by decide +kernel
theorem dX11_rowOf_3 : decode cX11_rowOf 3 = .ok (.idiv, 1) := by decide +kernel
theorem dX11_rowOf_4 : decode cX11_rowOf 4 = .ok (.ireturn, 1) := by decide +kernel
noncomputable def tX11_rowOf_0 : List (Nat × zF) := [(0, (zli4 0 1)), (1, (zst 2 (zp (.int (8))))), (3, (zst 1 z_idiv)), (4, (zri false))]
theorem kX11_rowOf_0 : ∀ q ∈ tX11_rowOf_0, zOk zg iX11_rowOf q.1 q.2 := (z_c (ok_iload_n dX11_rowOf_0 rfl) (z_c (ok_bipush (v := (8)) dX11_rowOf_1 (by decide)) (z_c (ok_idiv dX11_rowOf_3) (z_c (ok_ireturn rfl dX11_rowOf_4) z_n))))
noncomputable def tX11_rowOf : zT := [(100000, tX11_rowOf_0)]
theorem kX11_rowOf : zTok zg iX11_rowOf tX11_rowOf := (z_t kX11_rowOf_0 z_tn)
theorem dX11_bitOf_0 : decode cX11_bitOf 0 = .ok (.lconst 1, 1) := by decide +kernel
theorem dX11_bitOf_1 : decode cX11_bitOf 1 = .ok (.iload_n 0, 1) := by decide +kernel
theorem dX11_bitOf_2 : decode cX11_bitOf 2 = .ok (.lshl, 1) := by decide +kernel
theorem dX11_bitOf_3 : decode cX11_bitOf 3 = .ok (.lreturn, 1) := by decide +kernel
noncomputable def tX11_bitOf_0 : List (Nat × zF) := [(0, (zst 1 (zp (.long (1))))), (1, (zli4 0 1)), (2, (zst 1 z_lshl)), (3, zrl)]
theorem kX11_bitOf_0 : ∀ q ∈ tX11_bitOf_0, zOk zg iX11_bitOf q.1 q.2 := (z_c (ok_lconst (v := (1)) dX11_bitOf_0 (by decide)) (z_c (ok_iload_n dX11_bitOf_1 rfl) (z_c (ok_lshl dX11_bitOf_2) (z_c (ok_lreturn rfl dX11_bitOf_3) z_n))))
noncomputable def tX11_bitOf : zT := [(100000, tX11_bitOf_0)]
theorem kX11_bitOf : zTok zg iX11_bitOf tX11_bitOf := (z_t kX11_bitOf_0 z_tn)
theorem dX12_init_0 : decode cX12_init 0 = .ok (.aload_n 0, 1) := by decide +kernel
theorem dX12_init_1 : decode cX12_init 1 = .ok (.invokespecial 1, 3) := by decide +kernel
theorem dX12_init_4 : decode cX12_init 4 = .ok (.aload_n 0, 1) := by decide +kernel
theorem dX12_init_5 : decode cX12_init 5 = .ok (.sipush 1800, 3) := by decide +kernel
theorem dX12_init_8 : decode cX12_init 8 = .ok (.newarray .int, 2) := by decide +kernel
theorem dX12_init_10 : decode cX12_init 10 = .ok (.putfield 7, 3) := by decide +kernel
theorem dX12_init_13 : decode cX12_init 13 = .ok (.aload_n 0, 1) := by decide +kernel
theorem dX12_init_14 : decode cX12_init 14 = .ok (.iconst 0, 1) := by decide +kernel
theorem dX12_init_15 : decode cX12_init 15 = .ok (.putfield 13, 3) := by decide +kernel
theorem dX12_init_18 : decode cX12_init 18 = .ok (.aload_n 0, 1) := by decide +kernel
theorem dX12_init_19 : decode cX12_init 19 = .ok (.iconst 0, 1) := by decide +kernel
theorem dX12_init_20 : decode cX12_init 20 = .ok (.putfield 17, 3) := by decide +kernel
theorem dX12_init_23 : decode cX12_init 23 = .ok (.aload_n 0, 1) := by decide +kernel
theorem dX12_init_24 : decode cX12_init 24 = .ok (.iconst 0, 1) := by decide +kernel
theorem dX12_init_25 : decode cX12_init 25 = .ok (.putfield 20, 3) := by decide +kernel
theorem dX12_init_28 : decode cX12_init 28 = .ok (.aload_n 0, 1) := by decide +kernel
theorem dX12_init_29 : decode cX12_init 29 = .ok (.iconst 0, 1) := by decide +kernel
theorem dX12_init_30 : decode cX12_init 30 = .ok (.putfield 23, 3) := by decide +kernel
theorem dX12_init_33 : decode cX12_init 33 = .ok (.aload_n 0, 1) := by decide +kernel
theorem dX12_init_34 : decode cX12_init 34 = .ok (.iconst 0, 1) := by decide +kernel
theorem dX12_init_35 : decode cX12_init 35 = .ok (.putfield 26, 3) := by decide +kernel
theorem dX12_init_38 : decode cX12_init 38 = .ok (.aload_n 0, 1) := by decide +kernel
theorem dX12_init_39 : decode cX12_init 39 = .ok (.iconst 0, 1) := by decide +kernel
theorem dX12_init_40 : decode cX12_init 40 = .ok (.putfield 29, 3) := by decide +kernel
theorem dX12_init_43 : decode cX12_init 43 = .ok (.aload_n 0, 1) := by decide +kernel
theorem dX12_init_44 : decode cX12_init 44 = .ok (.lconst 0, 1) := by decide +kernel
theorem dX12_init_45 : decode cX12_init 45 = .ok (.putfield 32, 3) := by decide +kernel
theorem dX12_init_48 : decode cX12_init 48 = .ok (.aload_n 0, 1) := by decide +kernel
theorem dX12_init_49 : decode cX12_init 49 = .ok (.iconst 0, 1) := by decide +kernel
theorem dX12_init_50 : decode cX12_init 50 = .ok (.putfield 36, 3) := by decide +kernel
theorem dX12_init_53 : decode cX12_init 53 = .ok (.aload_n 0, 1) := by decide +kernel
theorem dX12_init_54 : decode cX12_init 54 = .ok (.iconst (-1), 1) := by decide +kernel
theorem dX12_init_55 : decode cX12_init 55 = .ok (.putfield 39, 3) := by decide +kernel
theorem dX12_init_58 : decode cX12_init 58 = .ok (.aload_n 0, 1) := by decide +kernel
theorem dX12_init_59 : decode cX12_init 59 = .ok (.iconst 0, 1) := by decide +kernel
theorem dX12_init_60 : decode cX12_init 60 = .ok (.putfield 42, 3) := by decide +kernel
theorem dX12_init_63 : decode cX12_init 63 = .ok (.aload_n 0, 1) := by decide +kernel
theorem dX12_init_64 : decode cX12_init 64 = .ok (.iconst (-1), 1) := by decide +kernel
theorem dX12_init_65 : decode cX12_init 65 = .ok (.putfield 45, 3) := by decide +kernel
theorem dX12_init_68 : decode cX12_init 68 = .ok (.aload_n 0, 1) := by decide +kernel
theorem dX12_init_69 : decode cX12_init 69 = .ok (.iconst (-1), 1) := by decide +kernel
theorem dX12_init_70 : decode cX12_init 70 = .ok (.putfield 48, 3) := by decide +kernel
theorem dX12_init_73 : decode cX12_init 73 = .ok (.aload_n 0, 1) := by decide +kernel
theorem dX12_init_74 : decode cX12_init 74 = .ok (.iconst 0, 1) := by decide +kernel
theorem dX12_init_75 : decode cX12_init 75 = .ok (.putfield 51, 3) := by decide +kernel
theorem dX12_init_78 : decode cX12_init 78 = .ok (.aload_n 0, 1) := by decide +kernel
theorem dX12_init_79 : decode cX12_init 79 = .ok (.iconst 2, 1) := by decide +kernel
theorem dX12_init_80 : decode cX12_init 80 = .ok (.newarray .int, 2) := by decide +kernel
theorem dX12_init_82 : decode cX12_init 82 = .ok (.putfield 54, 3) := by decide +kernel
theorem dX12_init_85 : decode cX12_init 85 = .ok (.aload_n 0, 1) := by decide +kernel
theorem dX12_init_86 : decode cX12_init 86 = .ok (.iconst 2, 1) := by decide +kernel
theorem dX12_init_87 : decode cX12_init 87 = .ok (.newarray .int, 2) := by decide +kernel
theorem dX12_init_89 : decode cX12_init 89 = .ok (.putfield 57, 3) := by decide +kernel
theorem dX12_init_92 : decode cX12_init 92 = .ok (.aload_n 0, 1) := by decide +kernel
theorem dX12_init_93 : decode cX12_init 93 = .ok (.iconst 2, 1) := by decide +kernel
theorem dX12_init_94 : decode cX12_init 94 = .ok (.newarray .int, 2) := by decide +kernel
theorem dX12_init_96 : decode cX12_init 96 = .ok (.putfield 60, 3) := by decide +kernel
theorem dX12_init_99 : decode cX12_init 99 = .ok (.aload_n 0, 1) := by decide +kernel
theorem dX12_init_100 : decode cX12_init 100 = .ok (.iconst 2, 1) := by decide +kernel
theorem dX12_init_101 : decode cX12_init 101 = .ok (.newarray .int, 2) := by decide +kernel
theorem dX12_init_103 : decode cX12_init 103 = .ok (.putfield 63, 3) := by decide +kernel
theorem dX12_init_106 : decode cX12_init 106 = .ok (.aload_n 0, 1) := by decide +kernel
theorem dX12_init_107 : decode cX12_init 107 = .ok (.sipush 128, 3) := by decide +kernel
theorem dX12_init_110 : decode cX12_init 110 = .ok (.newarray .int, 2) := by decide +kernel
theorem dX12_init_112 : decode cX12_init 112 = .ok (.putfield 66, 3) := by decide +kernel
theorem dX12_init_115 : decode cX12_init 115 = .ok (.aload_n 0, 1) := by decide +kernel
theorem dX12_init_116 : decode cX12_init 116 = .ok (.iconst 2, 1) := by decide +kernel
theorem dX12_init_117 : decode cX12_init 117 = .ok (.newarray .int, 2) := by decide +kernel
theorem dX12_init_119 : decode cX12_init 119 = .ok (.putfield 69, 3) := by decide +kernel
theorem dX12_init_122 : decode cX12_init 122 = .ok (.aload_n 0, 1) := by decide +kernel
theorem dX12_init_123 : decode cX12_init 123 = .ok (.bipush 18, 2) := by decide +kernel
theorem dX12_init_125 : decode cX12_init 125 = .ok (.newarray .int, 2) := by decide +kernel
theorem dX12_init_127 : decode cX12_init 127 = .ok (.putfield 72, 3) := by decide +kernel
theorem dX12_init_130 : decode cX12_init 130 = .ok (.aload_n 0, 1) := by decide +kernel
theorem dX12_init_131 : decode cX12_init 131 = .ok (.bipush 18, 2) := by decide +kernel
theorem dX12_init_133 : decode cX12_init 133 = .ok (.newarray .int, 2) := by decide +kernel
theorem dX12_init_135 : decode cX12_init 135 = .ok (.putfield 75, 3) := by decide +kernel
theorem dX12_init_138 : decode cX12_init 138 = .ok (.aload_n 0, 1) := by decide +kernel
theorem dX12_init_139 : decode cX12_init 139 = .ok (.bipush 18, 2) := by decide +kernel
theorem dX12_init_141 : decode cX12_init 141 = .ok (.newarray .int, 2) := by decide +kernel
theorem dX12_init_143 : decode cX12_init 143 = .ok (.putfield 78, 3) := by decide +kernel
theorem dX12_init_146 : decode cX12_init 146 = .ok (.aload_n 0, 1) := by decide +kernel
theorem dX12_init_147 : decode cX12_init 147 = .ok (.iconst 2, 1) := by decide +kernel
theorem dX12_init_148 : decode cX12_init 148 = .ok (.newarray .int, 2) := by decide +kernel
theorem dX12_init_150 : decode cX12_init 150 = .ok (.putfield 81, 3) := by decide +kernel
theorem dX12_init_153 : decode cX12_init 153 = .ok (.aload_n 0, 1) := by decide +kernel
theorem dX12_init_154 : decode cX12_init 154 = .ok (.iconst 2, 1) := by decide +kernel
theorem dX12_init_155 : decode cX12_init 155 = .ok (.newarray .int, 2) := by decide +kernel
theorem dX12_init_157 : decode cX12_init 157 = .ok (.putfield 84, 3) := by decide +kernel
theorem dX12_init_160 : decode cX12_init 160 = .ok (.aload_n 0, 1) := by decide +kernel
theorem dX12_init_161 : decode cX12_init 161 = .ok (.bipush 12, 2) := by decide +kernel
theorem dX12_init_163 : decode cX12_init 163 = .ok (.newarray .int, 2) := by decide +kernel
theorem dX12_init_165 : decode cX12_init 165 = .ok (.putfield 87, 3) := by decide +kernel
theorem dX12_init_168 : decode cX12_init 168 = .ok (.aload_n 0, 1) := by decide +kernel
theorem dX12_init_169 : decode cX12_init 169 = .ok (.bipush 12, 2) := by decide +kernel
theorem dX12_init_171 : decode cX12_init 171 = .ok (.newarray .int, 2) := by decide +kernel
theorem dX12_init_173 : decode cX12_init 173 = .ok (.putfield 90, 3) := by decide +kernel
theorem dX12_init_176 : decode cX12_init 176 = .ok (.aload_n 0, 1) := by decide +kernel
theorem dX12_init_177 : decode cX12_init 177 = .ok (.bipush 6, 2) := by decide +kernel
theorem dX12_init_179 : decode cX12_init 179 = .ok (.newarray .int, 2) := by decide +kernel
theorem dX12_init_181 : decode cX12_init 181 = .ok (.putfield 93, 3) := by decide +kernel
theorem dX12_init_184 : decode cX12_init 184 = .ok (.aload_n 0, 1) := by decide +kernel
theorem dX12_init_185 : decode cX12_init 185 = .ok (.bipush 6, 2) := by decide +kernel
theorem dX12_init_187 : decode cX12_init 187 = .ok (.newarray .int, 2) := by decide +kernel
theorem dX12_init_189 : decode cX12_init 189 = .ok (.putfield 96, 3) := by decide +kernel
theorem dX12_init_192 : decode cX12_init 192 = .ok (.aload_n 0, 1) := by decide +kernel
theorem dX12_init_193 : decode cX12_init 193 = .ok (.sipush 3200, 3) := by decide +kernel
theorem dX12_init_196 : decode cX12_init 196 = .ok (.newarray .int, 2) := by decide +kernel
theorem dX12_init_198 : decode cX12_init 198 = .ok (.putfield 99, 3) := by decide +kernel
theorem dX12_init_201 : decode cX12_init 201 = .ok (.aload_n 0, 1) := by decide +kernel
theorem dX12_init_202 : decode cX12_init 202 = .ok (.sipush 3200, 3) := by decide +kernel
theorem dX12_init_205 : decode cX12_init 205 = .ok (.newarray .int, 2) := by decide +kernel
theorem dX12_init_207 : decode cX12_init 207 = .ok (.putfield 102, 3) := by decide +kernel
theorem dX12_init_210 : decode cX12_init 210 = .ok (.aload_n 0, 1) := by decide +kernel
theorem dX12_init_211 : decode cX12_init 211 = .ok (.bipush 18, 2) := by decide +kernel
theorem dX12_init_213 : decode cX12_init 213 = .ok (.newarray .long, 2) := by decide +kernel
theorem dX12_init_215 : decode cX12_init 215 = .ok (.putfield 105, 3) := by decide +kernel
theorem dX12_init_218 : decode cX12_init 218 = .ok (.aload_n 0, 1) := by decide +kernel
theorem dX12_init_219 : decode cX12_init 219 = .ok (.bipush 12, 2) := by decide +kernel
theorem dX12_init_221 : decode cX12_init 221 = .ok (.newarray .long, 2) := by decide +kernel
theorem dX12_init_223 : decode cX12_init 223 = .ok (.putfield 109, 3) := by decide +kernel
theorem dX12_init_226 : decode cX12_init 226 = .ok (.aload_n 0, 1) := by decide +kernel
theorem dX12_init_227 : decode cX12_init 227 = .ok (.iconst 0, 1) := by decide +kernel
theorem dX12_init_228 : decode cX12_init 228 = .ok (.putfield 112, 3) := by decide +kernel
theorem dX12_init_231 : decode cX12_init 231 = .ok (.aload_n 0, 1) := by decide +kernel
theorem dX12_init_232 : decode cX12_init 232 = .ok (.iconst 1, 1) := by decide +kernel
theorem dX12_init_233 : decode cX12_init 233 = .ok (.putfield 115, 3) := by decide +kernel
theorem dX12_init_236 : decode cX12_init 236 = .ok (.aload_n 0, 1) := by decide +kernel
theorem dX12_init_237 : decode cX12_init 237 = .ok (.iconst 0, 1) := by decide +kernel
theorem dX12_init_238 : decode cX12_init 238 = .ok (.putfield 118, 3) := by decide +kernel
theorem dX12_init_241 : decode cX12_init 241 = .ok (.aload_n 0, 1) := by decide +kernel
theorem dX12_init_242 : decode cX12_init 242 = .ok (.bipush 20, 2) := by decide +kernel
theorem dX12_init_244 : decode cX12_init 244 = .ok (.newarray .int, 2) := by decide +kernel
theorem dX12_init_246 : decode cX12_init 246 = .ok (.putfield 121, 3) := by decide +kernel
theorem dX12_init_249 : decode cX12_init 249 = .ok (.aload_n 0, 1) := by decide +kernel
theorem dX12_init_250 : decode cX12_init 250 = .ok (.bipush 20, 2) := by decide +kernel
theorem dX12_init_252 : decode cX12_init 252 = .ok (.newarray .int, 2) := by decide +kernel
theorem dX12_init_254 : decode cX12_init 254 = .ok (.putfield 124, 3) := by decide +kernel
theorem dX12_init_257 : decode cX12_init 257 = .ok (.aload_n 0, 1) := by decide +kernel
theorem dX12_init_258 : decode cX12_init 258 = .ok (.bipush 20, 2) := by decide +kernel
theorem dX12_init_260 : decode cX12_init 260 = .ok (.newarray .boolean, 2) := by decide +kernel
theorem dX12_init_262 : decode cX12_init 262 = .ok (.putfield 127, 3) := by decide +kernel
theorem dX12_init_265 : decode cX12_init 265 = .ok (.aload_n 0, 1) := by decide +kernel
theorem dX12_init_266 : decode cX12_init 266 = .ok (.bipush 20, 2) := by decide +kernel
theorem dX12_init_268 : decode cX12_init 268 = .ok (.newarray .int, 2) := by decide +kernel
theorem dX12_init_270 : decode cX12_init 270 = .ok (.putfield 131, 3) := by decide +kernel
theorem dX12_init_273 : decode cX12_init 273 = .ok (.aload_n 0, 1) := by decide +kernel
theorem dX12_init_274 : decode cX12_init 274 = .ok (.bipush 20, 2) := by decide +kernel
theorem dX12_init_276 : decode cX12_init 276 = .ok (.newarray .int, 2) := by decide +kernel
theorem dX12_init_278 : decode cX12_init 278 = .ok (.putfield 134, 3) := by decide +kernel
theorem dX12_init_281 : decode cX12_init 281 = .ok (.aload_n 0, 1) := by decide +kernel
theorem dX12_init_282 : decode cX12_init 282 = .ok (.iconst 0, 1) := by decide +kernel
theorem dX12_init_283 : decode cX12_init 283 = .ok (.putfield 137, 3) := by decide +kernel
theorem dX12_init_286 : decode cX12_init 286 = .ok (.aload_n 0, 1) := by decide +kernel
theorem dX12_init_287 : decode cX12_init 287 = .ok (.iconst 0, 1) := by decide +kernel
theorem dX12_init_288 : decode cX12_init 288 = .ok (.putfield 140, 3) := by decide +kernel
theorem dX12_init_291 : decode cX12_init 291 = .ok (.aload_n 0, 1) := by decide +kernel
theorem dX12_init_292 : decode cX12_init 292 = .ok (.sipush 500, 3) := by decide +kernel
theorem dX12_init_295 : decode cX12_init 295 = .ok (.newarray .int, 2) := by decide +kernel
theorem dX12_init_297 : decode cX12_init 297 = .ok (.putfield 143, 3) := by decide +kernel
theorem dX12_init_300 : decode cX12_init 300 = .ok (.aload_n 0, 1) := by decide +kernel
theorem dX12_init_301 : decode cX12_init 301 = .ok (.iconst 0, 1) := by decide +kernel
theorem dX12_init_302 : decode cX12_init 302 = .ok (.putfield 146, 3) := by decide +kernel
theorem dX12_init_305 : decode cX12_init 305 = .ok (.aload_n 0, 1) := by decide +kernel
theorem dX12_init_306 : decode cX12_init 306 = .ok (.iconst 0, 1) := by decide +kernel
theorem dX12_init_307 : decode cX12_init 307 = .ok (.putfield 149, 3) := by decide +kernel
theorem dX12_init_310 : decode cX12_init 310 = .ok (.aload_n 0, 1) := by decide +kernel
theorem dX12_init_311 : decode cX12_init 311 = .ok (.iconst 0, 1) := by decide +kernel
theorem dX12_init_312 : decode cX12_init 312 = .ok (.putfield 153, 3) := by decide +kernel
theorem dX12_init_315 : decode cX12_init 315 = .ok (.aload_n 0, 1) := by decide +kernel
theorem dX12_init_316 : decode cX12_init 316 = .ok (.bipush 6, 2) := by decide +kernel
theorem dX12_init_318 : decode cX12_init 318 = .ok (.newarray .int, 2) := by decide +kernel
theorem dX12_init_320 : decode cX12_init 320 = .ok (.putfield 156, 3) := by decide +kernel
theorem dX12_init_323 : decode cX12_init 323 = .ok (.aload_n 0, 1) := by decide +kernel
theorem dX12_init_324 : decode cX12_init 324 = .ok (.bipush 22, 2) := by decide +kernel
theorem dX12_init_326 : decode cX12_init 326 = .ok (.newarray .int, 2) := by decide +kernel
theorem dX12_init_328 : decode cX12_init 328 = .ok (.putfield 159, 3) := by decide +kernel
theorem dX12_init_331 : decode cX12_init 331 = .ok (.aload_n 0, 1) := by decide +kernel
theorem dX12_init_332 : decode cX12_init 332 = .ok (.bipush 22, 2) := by decide +kernel
theorem dX12_init_334 : decode cX12_init 334 = .ok (.newarray .int, 2) := by decide +kernel
theorem dX12_init_336 : decode cX12_init 336 = .ok (.putfield 162, 3) := by decide +kernel
theorem dX12_init_339 : decode cX12_init 339 = .ok (.aload_n 0, 1) := by decide +kernel
theorem dX12_init_340 : decode cX12_init 340 = .ok (.sipush 198, 3) := by decide +kernel
theorem dX12_init_343 : decode cX12_init 343 = .ok (.newarray .int, 2) := by decide +kernel
theorem dX12_init_345 : decode cX12_init 345 = .ok (.putfield 165, 3) := by decide +kernel
theorem dX12_init_348 : decode cX12_init 348 = .ok (.aload_n 0, 1) := by decide +kernel
theorem dX12_init_349 : decode cX12_init 349 = .ok (.sipush 132, 3) := by decide +kernel
theorem dX12_init_352 : decode cX12_init 352 = .ok (.newarray .int, 2) := by decide +kernel
theorem dX12_init_354 : decode cX12_init 354 = .ok (.putfield 168, 3) := by decide +kernel
theorem dX12_init_357 : decode cX12_init 357 = .ok (.aload_n 0, 1) := by decide +kernel
theorem dX12_init_358 : decode cX12_init 358 = .ok (.bipush 22, 2) := by decide +kernel
theorem dX12_init_360 : decode cX12_init 360 = .ok (.newarray .int, 2) := by decide +kernel
theorem dX12_init_362 : decode cX12_init 362 = .ok (.putfield 171, 3) := by decide +kernel
theorem dX12_init_365 : decode cX12_init 365 = .ok (.aload_n 0, 1) := by decide +kernel
theorem dX12_init_366 : decode cX12_init 366 = .ok (.sipush 2640, 3) := by decide +kernel
theorem dX12_init_369 : decode cX12_init 369 = .ok (.newarray .int, 2) := by decide +kernel
theorem dX12_init_371 : decode cX12_init 371 = .ok (.putfield 174, 3) := by decide +kernel
theorem dX12_init_374 : decode cX12_init 374 = .ok (.aload_n 0, 1) := by decide +kernel
theorem dX12_init_375 : decode cX12_init 375 = .ok (.iconst 0, 1) := by decide +kernel
theorem dX12_init_376 : decode cX12_init 376 = .ok (.putfield 177, 3) := by decide +kernel
theorem dX12_init_379 : decode cX12_init 379 = .ok (.aload_n 0, 1) := by decide +kernel
theorem dX12_init_380 : decode cX12_init 380 = .ok (.iconst 0, 1) := by decide +kernel
theorem dX12_init_381 : decode cX12_init 381 = .ok (.putfield 180, 3) := by decide +kernel
theorem dX12_init_384 : decode cX12_init 384 = .ok (.aload_n 0, 1) := by decide +kernel
theorem dX12_init_385 : decode cX12_init 385 = .ok (.lconst 1, 1) := by decide +kernel
theorem dX12_init_386 : decode cX12_init 386 = .ok (.putfield 183, 3) := by decide +kernel
theorem dX12_init_389 : decode cX12_init 389 = .ok (.aload_n 0, 1) := by decide +kernel
theorem dX12_init_390 : decode cX12_init 390 = .ok (.bipush 9, 2) := by decide +kernel
theorem dX12_init_392 : decode cX12_init 392 = .ok (.newarray .int, 2) := by decide +kernel
theorem dX12_init_394 : decode cX12_init 394 = .ok (.putfield 186, 3) := by decide +kernel
theorem dX12_init_397 : decode cX12_init 397 = .ok (.aload_n 0, 1) := by decide +kernel
theorem dX12_init_398 : decode cX12_init 398 = .ok (.sipush 500, 3) := by decide +kernel
theorem dX12_init_401 : decode cX12_init 401 = .ok (.newarray .long, 2) := by decide +kernel
theorem dX12_init_403 : decode cX12_init 403 = .ok (.putfield 189, 3) := by decide +kernel
theorem dX12_init_406 : decode cX12_init 406 = .ok (.aload_n 0, 1) := by decide +kernel
theorem dX12_init_407 : decode cX12_init 407 = .ok (.bipush 10, 2) := by decide +kernel
theorem dX12_init_409 : decode cX12_init 409 = .ok (.newarray .int, 2) := by decide +kernel
theorem dX12_init_411 : decode cX12_init 411 = .ok (.putfield 192, 3) := by decide +kernel
theorem dX12_init_414 : decode cX12_init 414 = .ok (.aload_n 0, 1) := by decide +kernel
theorem dX12_init_415 : decode cX12_init 415 = .ok (.bipush 64, 2) := by decide +kernel
theorem dX12_init_417 : decode cX12_init 417 = .ok (.newarray .int, 2) := by decide +kernel
theorem dX12_init_419 : decode cX12_init 419 = .ok (.putfield 195, 3) := by decide +kernel
theorem dX12_init_422 : decode cX12_init 422 = .ok (.aload_n 0, 1) := by decide +kernel
theorem dX12_init_423 : decode cX12_init 423 = .ok (.bipush 64, 2) := by decide +kernel
theorem dX12_init_425 : decode cX12_init 425 = .ok (.newarray .int, 2) := by decide +kernel
theorem dX12_init_427 : decode cX12_init 427 = .ok (.putfield 198, 3) := by decide +kernel
theorem dX12_init_430 : decode cX12_init 430 = .ok (.aload_n 0, 1) := by decide +kernel
theorem dX12_init_431 : decode cX12_init 431 = .ok (.bipush 64, 2) := by decide +kernel
theorem dX12_init_433 : decode cX12_init 433 = .ok (.newarray .int, 2) := by decide +kernel
theorem dX12_init_435 : decode cX12_init 435 = .ok (.putfield 201, 3) := by decide +kernel
theorem dX12_init_438 : decode cX12_init 438 = .ok (.aload_n 0, 1) := by decide +kernel
theorem dX12_init_439 : decode cX12_init 439 = .ok (.bipush 64, 2) := by decide +kernel
theorem dX12_init_441 : decode cX12_init 441 = .ok (.newarray .int, 2) := by decide +kernel
theorem dX12_init_443 : decode cX12_init 443 = .ok (.putfield 204, 3) := by decide +kernel
theorem dX12_init_446 : decode cX12_init 446 = .ok (.aload_n 0, 1) := by decide +kernel
theorem dX12_init_447 : decode cX12_init 447 = .ok (.bipush 54, 2) := by decide +kernel
theorem dX12_init_449 : decode cX12_init 449 = .ok (.newarray .int, 2) := by decide +kernel
theorem dX12_init_451 : decode cX12_init 451 = .ok (.putfield 207, 3) := by decide +kernel
theorem dX12_init_454 : decode cX12_init 454 = .ok (.aload_n 0, 1) := by decide +kernel
theorem dX12_init_455 : decode cX12_init 455 = .ok (.sipush 3584, 3) := by decide +kernel
theorem dX12_init_458 : decode cX12_init 458 = .ok (.newarray .int, 2) := by decide +kernel
theorem dX12_init_460 : decode cX12_init 460 = .ok (.putfield 210, 3) := by decide +kernel
theorem dX12_init_463 : decode cX12_init 463 = .ok (.aload_n 0, 1) := by decide +kernel
theorem dX12_init_464 : decode cX12_init 464 = .ok (.iconst 0, 1) := by decide +kernel
theorem dX12_init_465 : decode cX12_init 465 = .ok (.putfield 213, 3) := by decide +kernel
theorem dX12_init_468 : decode cX12_init 468 = .ok (.aload_n 0, 1) := by decide +kernel
theorem dX12_init_469 : decode cX12_init 469 = .ok (.bipush 16, 2) := by decide +kernel
theorem dX12_init_471 : decode cX12_init 471 = .ok (.newarray .int, 2) := by decide +kernel
theorem dX12_init_473 : decode cX12_init 473 = .ok (.putfield 216, 3) := by decide +kernel
theorem dX12_init_476 : decode cX12_init 476 = .ok (.aload_n 0, 1) := by decide +kernel
theorem dX12_init_477 : decode cX12_init 477 = .ok (.bipush 16, 2) := by decide +kernel
theorem dX12_init_479 : decode cX12_init 479 = .ok (.newarray .int, 2) := by decide +kernel
theorem dX12_init_481 : decode cX12_init 481 = .ok (.putfield 219, 3) := by decide +kernel
theorem dX12_init_484 : decode cX12_init 484 = .ok (.aload_n 0, 1) := by decide +kernel
theorem dX12_init_485 : decode cX12_init 485 = .ok (.bipush 16, 2) := by decide +kernel
theorem dX12_init_487 : decode cX12_init 487 = .ok (.newarray .int, 2) := by decide +kernel
theorem dX12_init_489 : decode cX12_init 489 = .ok (.putfield 222, 3) := by decide +kernel
theorem dX12_init_492 : decode cX12_init 492 = .ok (.aload_n 0, 1) := by decide +kernel
theorem dX12_init_493 : decode cX12_init 493 = .ok (.sipush 1674, 3) := by decide +kernel
theorem dX12_init_496 : decode cX12_init 496 = .ok (.newarray .int, 2) := by decide +kernel
theorem dX12_init_498 : decode cX12_init 498 = .ok (.putfield 225, 3) := by decide +kernel
theorem dX12_init_501 : decode cX12_init 501 = .ok (.aload_n 0, 1) := by decide +kernel
theorem dX12_init_502 : decode cX12_init 502 = .ok (.bipush 50, 2) := by decide +kernel
theorem dX12_init_504 : decode cX12_init 504 = .ok (.newarray .int, 2) := by decide +kernel
theorem dX12_init_506 : decode cX12_init 506 = .ok (.putfield 228, 3) := by decide +kernel
theorem dX12_init_509 : decode cX12_init 509 = .ok (.aload_n 0, 1) := by decide +kernel
theorem dX12_init_510 : decode cX12_init 510 = .ok (.iconst 0, 1) := by decide +kernel
theorem dX12_init_511 : decode cX12_init 511 = .ok (.putfield 231, 3) := by decide +kernel
theorem dX12_init_514 : decode cX12_init 514 = .ok (.iconst 0, 1) := by decide +kernel
theorem dX12_init_515 : decode cX12_init 515 = .ok (.istore_n 1, 1) := by decide +kernel
theorem dX12_init_516 : decode cX12_init 516 = .ok (.iload_n 1, 1) := by decide +kernel
theorem dX12_init_517 : decode cX12_init 517 = .ok (.bipush 6, 2) := by decide +kernel
theorem dX12_init_519 : decode cX12_init 519 = .ok (.if_icmp .ge 16, 3) := by decide +kernel
theorem dX12_init_522 : decode cX12_init 522 = .ok (.aload_n 0, 1) := by decide +kernel
theorem dX12_init_523 : decode cX12_init 523 = .ok (.getfield 93, 3) := by decide +kernel
theorem dX12_init_526 : decode cX12_init 526 = .ok (.iload_n 1, 1) := by decide +kernel
theorem dX12_init_527 : decode cX12_init 527 = .ok (.iconst (-1), 1) := by decide +kernel
theorem dX12_init_528 : decode cX12_init 528 = .ok (.iastore, 1) := by decide +kernel
theorem dX12_init_529 : decode cX12_init 529 = .ok (.iinc 1 1, 3) := by decide +kernel
theorem dX12_init_532 : decode cX12_init 532 = .ok (.goto (-16), 3) := by decide +kernel
theorem dX12_init_535 : decode cX12_init 535 = .ok (.return_, 1) := by decide +kernel
noncomputable def tX12_init_0 : List (Nat × zF) := [(0, (zla4 0 1)), (1, zoi), (4, (zla4 0 1)), (5, (zst 3 (zp (.int (1800))))), (8, (zna 0 4 zn_int 2)), (10, (zpf 12 0 (.array .int))), (13, (zla4 0 1)), (14, (zst 1 (zp (.int (0))))), (15, (zpf 12 1 (.int))), (18, (zla4 0 1)), (19, (zst 1 (zp (.int (0))))), (20, (zpf 12 2 (.int)))]
theorem kX12_init_0 : ∀ q ∈ tX12_init_0, zOk zg iX12_init q.1 q.2 := (z_c (ok_aload_n dX12_init_0 rfl) (z_c (ok_objInit zw_686 zw_1 zw_2 dX12_init_1) (z_c (ok_aload_n dX12_init_4 rfl) (z_c (ok_sipush (v := (1800)) dX12_init_5 (by decide)) (z_c (ok_newa (ty := .int) rfl rfl (fun _ h => by cases h) zw_96 rfl zn_int_c zn_int_n dX12_init_8) (z_c (ok_putf (C := RX12) (T := TX12) (N := 73) true tyX12 tyX12_ok nmX12 rfl (by decide) zinX12 rfl zw_687 rfl (fun _ => ⟨rfl, rfl⟩) rfl dX12_init_10) (z_c (ok_aload_n dX12_init_13 rfl) (z_c (ok_iconst (v := (0)) dX12_init_14 (by decide)) (z_c (ok_putf (C := RX12) (T := TX12) (N := 73) false tyX12 tyX12_ok nmX12 rfl (by decide) zinX12 rfl zw_688 rfl (fun h => absurd h (by decide)) rfl dX12_init_15) (z_c (ok_aload_n dX12_init_18 rfl) (z_c (ok_iconst (v := (0)) dX12_init_19 (by decide)) (z_c (ok_putf (C := RX12) (T := TX12) (N := 73) false tyX12 tyX12_ok nmX12 rfl (by decide) zinX12 rfl zw_689 rfl (fun h => absurd h (by decide)) rfl dX12_init_20) z_n))))))))))))
noncomputable def tX12_init_1 : List (Nat × zF) := [(23, (zla4 0 1)), (24, (zst 1 (zp (.int (0))))), (25, (zpf 12 3 (.int))), (28, (zla4 0 1)), (29, (zst 1 (zp (.int (0))))), (30, (zpf 12 4 (.int))), (33, (zla4 0 1)), (34, (zst 1 (zp (.int (0))))), (35, (zpf 12 5 (.int))), (38, (zla4 0 1)), (39, (zst 1 (zp (.int (0))))), (40, (zpf 12 6 (.int)))]
theorem kX12_init_1 : ∀ q ∈ tX12_init_1, zOk zg iX12_init q.1 q.2 := (z_c (ok_aload_n dX12_init_23 rfl) (z_c (ok_iconst (v := (0)) dX12_init_24 (by decide)) (z_c (ok_putf (C := RX12) (T := TX12) (N := 73) false tyX12 tyX12_ok nmX12 rfl (by decide) zinX12 rfl zw_690 rfl (fun h => absurd h (by decide)) rfl dX12_init_25) (z_c (ok_aload_n dX12_init_28 rfl) (z_c (ok_iconst (v := (0)) dX12_init_29 (by decide)) (z_c (ok_putf (C := RX12) (T := TX12) (N := 73) false tyX12 tyX12_ok nmX12 rfl (by decide) zinX12 rfl zw_691 rfl (fun h => absurd h (by decide)) rfl dX12_init_30) (z_c (ok_aload_n dX12_init_33 rfl) (z_c (ok_iconst (v := (0)) dX12_init_34 (by decide)) (z_c (ok_putf (C := RX12) (T := TX12) (N := 73) false tyX12 tyX12_ok nmX12 rfl (by decide) zinX12 rfl zw_692 rfl (fun h => absurd h (by decide)) rfl dX12_init_35) (z_c (ok_aload_n dX12_init_38 rfl) (z_c (ok_iconst (v := (0)) dX12_init_39 (by decide)) (z_c (ok_putf (C := RX12) (T := TX12) (N := 73) false tyX12 tyX12_ok nmX12 rfl (by decide) zinX12 rfl zw_693 rfl (fun h => absurd h (by decide)) rfl dX12_init_40) z_n))))))))))))
noncomputable def tX12_init_2 : List (Nat × zF) := [(43, (zla4 0 1)), (44, (zst 1 (zp (.long (0))))), (45, (zpf 12 7 (.long))), (48, (zla4 0 1)), (49, (zst 1 (zp (.int (0))))), (50, (zpf 12 8 (.int))), (53, (zla4 0 1)), (54, (zst 1 (zp (.int ((-1)))))), (55, (zpf 12 9 (.int))), (58, (zla4 0 1)), (59, (zst 1 (zp (.int (0))))), (60, (zpf 12 10 (.int)))]
theorem kX12_init_2 : ∀ q ∈ tX12_init_2, zOk zg iX12_init q.1 q.2 := (z_c (ok_aload_n dX12_init_43 rfl) (z_c (ok_lconst (v := (0)) dX12_init_44 (by decide)) (z_c (ok_putf (C := RX12) (T := TX12) (N := 73) false tyX12 tyX12_ok nmX12 rfl (by decide) zinX12 rfl zw_694 rfl (fun h => absurd h (by decide)) rfl dX12_init_45) (z_c (ok_aload_n dX12_init_48 rfl) (z_c (ok_iconst (v := (0)) dX12_init_49 (by decide)) (z_c (ok_putf (C := RX12) (T := TX12) (N := 73) false tyX12 tyX12_ok nmX12 rfl (by decide) zinX12 rfl zw_695 rfl (fun h => absurd h (by decide)) rfl dX12_init_50) (z_c (ok_aload_n dX12_init_53 rfl) (z_c (ok_iconst (v := (-1)) dX12_init_54 (by decide)) (z_c (ok_putf (C := RX12) (T := TX12) (N := 73) false tyX12 tyX12_ok nmX12 rfl (by decide) zinX12 rfl zw_696 rfl (fun h => absurd h (by decide)) rfl dX12_init_55) (z_c (ok_aload_n dX12_init_58 rfl) (z_c (ok_iconst (v := (0)) dX12_init_59 (by decide)) (z_c (ok_putf (C := RX12) (T := TX12) (N := 73) false tyX12 tyX12_ok nmX12 rfl (by decide) zinX12 rfl zw_697 rfl (fun h => absurd h (by decide)) rfl dX12_init_60) z_n))))))))))))
noncomputable def tX12_init_3 : List (Nat × zF) := [(63, (zla4 0 1)), (64, (zst 1 (zp (.int ((-1)))))), (65, (zpf 12 11 (.int))), (68, (zla4 0 1)), (69, (zst 1 (zp (.int ((-1)))))), (70, (zpf 12 12 (.int))), (73, (zla4 0 1)), (74, (zst 1 (zp (.int (0))))), (75, (zpf 12 13 (.int))), (78, (zla4 0 1)), (79, (zst 1 (zp (.int (2))))), (80, (zna 0 4 zn_int 2))]
theorem kX12_init_3 : ∀ q ∈ tX12_init_3, zOk zg iX12_init q.1 q.2 := (z_c (ok_aload_n dX12_init_63 rfl) (z_c (ok_iconst (v := (-1)) dX12_init_64 (by decide)) (z_c (ok_putf (C := RX12) (T := TX12) (N := 73) false tyX12 tyX12_ok nmX12 rfl (by decide) zinX12 rfl zw_698 rfl (fun h => absurd h (by decide)) rfl dX12_init_65) (z_c (ok_aload_n dX12_init_68 rfl) (z_c (ok_iconst (v := (-1)) dX12_init_69 (by decide)) (z_c (ok_putf (C := RX12) (T := TX12) (N := 73) false tyX12 tyX12_ok nmX12 rfl (by decide) zinX12 rfl zw_699 rfl (fun h => absurd h (by decide)) rfl dX12_init_70) (z_c (ok_aload_n dX12_init_73 rfl) (z_c (ok_iconst (v := (0)) dX12_init_74 (by decide)) (z_c (ok_putf (C := RX12) (T := TX12) (N := 73) false tyX12 tyX12_ok nmX12 rfl (by decide) zinX12 rfl zw_700 rfl (fun h => absurd h (by decide)) rfl dX12_init_75) (z_c (ok_aload_n dX12_init_78 rfl) (z_c (ok_iconst (v := (2)) dX12_init_79 (by decide)) (z_c (ok_newa (ty := .int) rfl rfl (fun _ h => by cases h) zw_96 rfl zn_int_c zn_int_n dX12_init_80) z_n))))))))))))
noncomputable def tX12_init_4 : List (Nat × zF) := [(82, (zpf 12 14 (.array .int))), (85, (zla4 0 1)), (86, (zst 1 (zp (.int (2))))), (87, (zna 0 4 zn_int 2)), (89, (zpf 12 15 (.array .int))), (92, (zla4 0 1)), (93, (zst 1 (zp (.int (2))))), (94, (zna 0 4 zn_int 2)), (96, (zpf 12 16 (.array .int))), (99, (zla4 0 1)), (100, (zst 1 (zp (.int (2))))), (101, (zna 0 4 zn_int 2))]
theorem kX12_init_4 : ∀ q ∈ tX12_init_4, zOk zg iX12_init q.1 q.2 := (z_c (ok_putf (C := RX12) (T := TX12) (N := 73) true tyX12 tyX12_ok nmX12 rfl (by decide) zinX12 rfl zw_701 rfl (fun _ => ⟨rfl, rfl⟩) rfl dX12_init_82) (z_c (ok_aload_n dX12_init_85 rfl) (z_c (ok_iconst (v := (2)) dX12_init_86 (by decide)) (z_c (ok_newa (ty := .int) rfl rfl (fun _ h => by cases h) zw_96 rfl zn_int_c zn_int_n dX12_init_87) (z_c (ok_putf (C := RX12) (T := TX12) (N := 73) true tyX12 tyX12_ok nmX12 rfl (by decide) zinX12 rfl zw_702 rfl (fun _ => ⟨rfl, rfl⟩) rfl dX12_init_89) (z_c (ok_aload_n dX12_init_92 rfl) (z_c (ok_iconst (v := (2)) dX12_init_93 (by decide)) (z_c (ok_newa (ty := .int) rfl rfl (fun _ h => by cases h) zw_96 rfl zn_int_c zn_int_n dX12_init_94) (z_c (ok_putf (C := RX12) (T := TX12) (N := 73) true tyX12 tyX12_ok nmX12 rfl (by decide) zinX12 rfl zw_703 rfl (fun _ => ⟨rfl, rfl⟩) rfl dX12_init_96) (z_c (ok_aload_n dX12_init_99 rfl) (z_c (ok_iconst (v := (2)) dX12_init_100 (by decide)) (z_c (ok_newa (ty := .int) rfl rfl (fun _ h => by cases h) zw_96 rfl zn_int_c zn_int_n dX12_init_101) z_n))))))))))))
noncomputable def tX12_init_5 : List (Nat × zF) := [(103, (zpf 12 17 (.array .int))), (106, (zla4 0 1)), (107, (zst 3 (zp (.int (128))))), (110, (zna 0 4 zn_int 2)), (112, (zpf 12 18 (.array .int))), (115, (zla4 0 1)), (116, (zst 1 (zp (.int (2))))), (117, (zna 0 4 zn_int 2)), (119, (zpf 12 19 (.array .int))), (122, (zla4 0 1)), (123, (zst 2 (zp (.int (18))))), (125, (zna 0 4 zn_int 2))]
theorem kX12_init_5 : ∀ q ∈ tX12_init_5, zOk zg iX12_init q.1 q.2 := (z_c (ok_putf (C := RX12) (T := TX12) (N := 73) true tyX12 tyX12_ok nmX12 rfl (by decide) zinX12 rfl zw_704 rfl (fun _ => ⟨rfl, rfl⟩) rfl dX12_init_103) (z_c (ok_aload_n dX12_init_106 rfl) (z_c (ok_sipush (v := (128)) dX12_init_107 (by decide)) (z_c (ok_newa (ty := .int) rfl rfl (fun _ h => by cases h) zw_96 rfl zn_int_c zn_int_n dX12_init_110) (z_c (ok_putf (C := RX12) (T := TX12) (N := 73) true tyX12 tyX12_ok nmX12 rfl (by decide) zinX12 rfl zw_705 rfl (fun _ => ⟨rfl, rfl⟩) rfl dX12_init_112) (z_c (ok_aload_n dX12_init_115 rfl) (z_c (ok_iconst (v := (2)) dX12_init_116 (by decide)) (z_c (ok_newa (ty := .int) rfl rfl (fun _ h => by cases h) zw_96 rfl zn_int_c zn_int_n dX12_init_117) (z_c (ok_putf (C := RX12) (T := TX12) (N := 73) true tyX12 tyX12_ok nmX12 rfl (by decide) zinX12 rfl zw_706 rfl (fun _ => ⟨rfl, rfl⟩) rfl dX12_init_119) (z_c (ok_aload_n dX12_init_122 rfl) (z_c (ok_bipush (v := (18)) dX12_init_123 (by decide)) (z_c (ok_newa (ty := .int) rfl rfl (fun _ h => by cases h) zw_96 rfl zn_int_c zn_int_n dX12_init_125) z_n))))))))))))
noncomputable def tX12_init_6 : List (Nat × zF) := [(127, (zpf 12 20 (.array .int))), (130, (zla4 0 1)), (131, (zst 2 (zp (.int (18))))), (133, (zna 0 4 zn_int 2)), (135, (zpf 12 21 (.array .int))), (138, (zla4 0 1)), (139, (zst 2 (zp (.int (18))))), (141, (zna 0 4 zn_int 2)), (143, (zpf 12 22 (.array .int))), (146, (zla4 0 1)), (147, (zst 1 (zp (.int (2))))), (148, (zna 0 4 zn_int 2))]
theorem kX12_init_6 : ∀ q ∈ tX12_init_6, zOk zg iX12_init q.1 q.2 := (z_c (ok_putf (C := RX12) (T := TX12) (N := 73) true tyX12 tyX12_ok nmX12 rfl (by decide) zinX12 rfl zw_707 rfl (fun _ => ⟨rfl, rfl⟩) rfl dX12_init_127) (z_c (ok_aload_n dX12_init_130 rfl) (z_c (ok_bipush (v := (18)) dX12_init_131 (by decide)) (z_c (ok_newa (ty := .int) rfl rfl (fun _ h => by cases h) zw_96 rfl zn_int_c zn_int_n dX12_init_133) (z_c (ok_putf (C := RX12) (T := TX12) (N := 73) true tyX12 tyX12_ok nmX12 rfl (by decide) zinX12 rfl zw_708 rfl (fun _ => ⟨rfl, rfl⟩) rfl dX12_init_135) (z_c (ok_aload_n dX12_init_138 rfl) (z_c (ok_bipush (v := (18)) dX12_init_139 (by decide)) (z_c (ok_newa (ty := .int) rfl rfl (fun _ h => by cases h) zw_96 rfl zn_int_c zn_int_n dX12_init_141) (z_c (ok_putf (C := RX12) (T := TX12) (N := 73) true tyX12 tyX12_ok nmX12 rfl (by decide) zinX12 rfl zw_709 rfl (fun _ => ⟨rfl, rfl⟩) rfl dX12_init_143) (z_c (ok_aload_n dX12_init_146 rfl) (z_c (ok_iconst (v := (2)) dX12_init_147 (by decide)) (z_c (ok_newa (ty := .int) rfl rfl (fun _ h => by cases h) zw_96 rfl zn_int_c zn_int_n dX12_init_148) z_n))))))))))))
noncomputable def tX12_init_7 : List (Nat × zF) := [(150, (zpf 12 23 (.array .int))), (153, (zla4 0 1)), (154, (zst 1 (zp (.int (2))))), (155, (zna 0 4 zn_int 2)), (157, (zpf 12 24 (.array .int))), (160, (zla4 0 1)), (161, (zst 2 (zp (.int (12))))), (163, (zna 0 4 zn_int 2)), (165, (zpf 12 25 (.array .int))), (168, (zla4 0 1)), (169, (zst 2 (zp (.int (12))))), (171, (zna 0 4 zn_int 2))]
theorem kX12_init_7 : ∀ q ∈ tX12_init_7, zOk zg iX12_init q.1 q.2 := (z_c (ok_putf (C := RX12) (T := TX12) (N := 73) true tyX12 tyX12_ok nmX12 rfl (by decide) zinX12 rfl zw_710 rfl (fun _ => ⟨rfl, rfl⟩) rfl dX12_init_150) (z_c (ok_aload_n dX12_init_153 rfl) (z_c (ok_iconst (v := (2)) dX12_init_154 (by decide)) (z_c (ok_newa (ty := .int) rfl rfl (fun _ h => by cases h) zw_96 rfl zn_int_c zn_int_n dX12_init_155) (z_c (ok_putf (C := RX12) (T := TX12) (N := 73) true tyX12 tyX12_ok nmX12 rfl (by decide) zinX12 rfl zw_711 rfl (fun _ => ⟨rfl, rfl⟩) rfl dX12_init_157) (z_c (ok_aload_n dX12_init_160 rfl) (z_c (ok_bipush (v := (12)) dX12_init_161 (by decide)) (z_c (ok_newa (ty := .int) rfl rfl (fun _ h => by cases h) zw_96 rfl zn_int_c zn_int_n dX12_init_163) (z_c (ok_putf (C := RX12) (T := TX12) (N := 73) true tyX12 tyX12_ok nmX12 rfl (by decide) zinX12 rfl zw_712 rfl (fun _ => ⟨rfl, rfl⟩) rfl dX12_init_165) (z_c (ok_aload_n dX12_init_168 rfl) (z_c (ok_bipush (v := (12)) dX12_init_169 (by decide)) (z_c (ok_newa (ty := .int) rfl rfl (fun _ h => by cases h) zw_96 rfl zn_int_c zn_int_n dX12_init_171) z_n))))))))))))
noncomputable def tX12_init_8 : List (Nat × zF) := [(173, (zpf 12 26 (.array .int))), (176, (zla4 0 1)), (177, (zst 2 (zp (.int (6))))), (179, (zna 0 4 zn_int 2)), (181, (zpf 12 27 (.array .int))), (184, (zla4 0 1)), (185, (zst 2 (zp (.int (6))))), (187, (zna 0 4 zn_int 2)), (189, (zpf 12 28 (.array .int))), (192, (zla4 0 1)), (193, (zst 3 (zp (.int (3200))))), (196, (zna 0 4 zn_int 2))]
theorem kX12_init_8 : ∀ q ∈ tX12_init_8, zOk zg iX12_init q.1 q.2 := (z_c (ok_putf (C := RX12) (T := TX12) (N := 73) true tyX12 tyX12_ok nmX12 rfl (by decide) zinX12 rfl zw_713 rfl (fun _ => ⟨rfl, rfl⟩) rfl dX12_init_173) (z_c (ok_aload_n dX12_init_176 rfl) (z_c (ok_bipush (v := (6)) dX12_init_177 (by decide)) (z_c (ok_newa (ty := .int) rfl rfl (fun _ h => by cases h) zw_96 rfl zn_int_c zn_int_n dX12_init_179) (z_c (ok_putf (C := RX12) (T := TX12) (N := 73) true tyX12 tyX12_ok nmX12 rfl (by decide) zinX12 rfl zw_714 rfl (fun _ => ⟨rfl, rfl⟩) rfl dX12_init_181) (z_c (ok_aload_n dX12_init_184 rfl) (z_c (ok_bipush (v := (6)) dX12_init_185 (by decide)) (z_c (ok_newa (ty := .int) rfl rfl (fun _ h => by cases h) zw_96 rfl zn_int_c zn_int_n dX12_init_187) (z_c (ok_putf (C := RX12) (T := TX12) (N := 73) true tyX12 tyX12_ok nmX12 rfl (by decide) zinX12 rfl zw_715 rfl (fun _ => ⟨rfl, rfl⟩) rfl dX12_init_189) (z_c (ok_aload_n dX12_init_192 rfl) (z_c (ok_sipush (v := (3200)) dX12_init_193 (by decide)) (z_c (ok_newa (ty := .int) rfl rfl (fun _ h => by cases h) zw_96 rfl zn_int_c zn_int_n dX12_init_196) z_n))))))))))))
noncomputable def tX12_init_9 : List (Nat × zF) := [(198, (zpf 12 29 (.array .int))), (201, (zla4 0 1)), (202, (zst 3 (zp (.int (3200))))), (205, (zna 0 4 zn_int 2)), (207, (zpf 12 30 (.array .int))), (210, (zla4 0 1)), (211, (zst 2 (zp (.int (18))))), (213, (zna 1 8 zn_long 2)), (215, (zpf 12 31 (.array .long))), (218, (zla4 0 1)), (219, (zst 2 (zp (.int (12))))), (221, (zna 1 8 zn_long 2))]
theorem kX12_init_9 : ∀ q ∈ tX12_init_9, zOk zg iX12_init q.1 q.2 := (z_c (ok_putf (C := RX12) (T := TX12) (N := 73) true tyX12 tyX12_ok nmX12 rfl (by decide) zinX12 rfl zw_716 rfl (fun _ => ⟨rfl, rfl⟩) rfl dX12_init_198) (z_c (ok_aload_n dX12_init_201 rfl) (z_c (ok_sipush (v := (3200)) dX12_init_202 (by decide)) (z_c (ok_newa (ty := .int) rfl rfl (fun _ h => by cases h) zw_96 rfl zn_int_c zn_int_n dX12_init_205) (z_c (ok_putf (C := RX12) (T := TX12) (N := 73) true tyX12 tyX12_ok nmX12 rfl (by decide) zinX12 rfl zw_717 rfl (fun _ => ⟨rfl, rfl⟩) rfl dX12_init_207) (z_c (ok_aload_n dX12_init_210 rfl) (z_c (ok_bipush (v := (18)) dX12_init_211 (by decide)) (z_c (ok_newa (ty := .long) rfl rfl (fun _ h => by cases h) zw_8 rfl zn_long_c zn_long_n dX12_init_213) (z_c (ok_putf (C := RX12) (T := TX12) (N := 73) true tyX12 tyX12_ok nmX12 rfl (by decide) zinX12 rfl zw_718 rfl (fun _ => ⟨rfl, rfl⟩) rfl dX12_init_215) (z_c (ok_aload_n dX12_init_218 rfl) (z_c (ok_bipush (v := (12)) dX12_init_219 (by decide)) (z_c (ok_newa (ty := .long) rfl rfl (fun _ h => by cases h) zw_8 rfl zn_long_c zn_long_n dX12_init_221) z_n))))))))))))
noncomputable def tX12_init_10 : List (Nat × zF) := [(223, (zpf 12 32 (.array .long))), (226, (zla4 0 1)), (227, (zst 1 (zp (.int (0))))), (228, (zpf 12 33 (.int))), (231, (zla4 0 1)), (232, (zst 1 (zp (.int (1))))), (233, (zpf 12 34 (.int))), (236, (zla4 0 1)), (237, (zst 1 (zp (.int (0))))), (238, (zpf 12 35 (.int))), (241, (zla4 0 1)), (242, (zst 2 (zp (.int (20)))))]
theorem kX12_init_10 : ∀ q ∈ tX12_init_10, zOk zg iX12_init q.1 q.2 := (z_c (ok_putf (C := RX12) (T := TX12) (N := 73) true tyX12 tyX12_ok nmX12 rfl (by decide) zinX12 rfl zw_719 rfl (fun _ => ⟨rfl, rfl⟩) rfl dX12_init_223) (z_c (ok_aload_n dX12_init_226 rfl) (z_c (ok_iconst (v := (0)) dX12_init_227 (by decide)) (z_c (ok_putf (C := RX12) (T := TX12) (N := 73) false tyX12 tyX12_ok nmX12 rfl (by decide) zinX12 rfl zw_720 rfl (fun h => absurd h (by decide)) rfl dX12_init_228) (z_c (ok_aload_n dX12_init_231 rfl) (z_c (ok_iconst (v := (1)) dX12_init_232 (by decide)) (z_c (ok_putf (C := RX12) (T := TX12) (N := 73) false tyX12 tyX12_ok nmX12 rfl (by decide) zinX12 rfl zw_721 rfl (fun h => absurd h (by decide)) rfl dX12_init_233) (z_c (ok_aload_n dX12_init_236 rfl) (z_c (ok_iconst (v := (0)) dX12_init_237 (by decide)) (z_c (ok_putf (C := RX12) (T := TX12) (N := 73) false tyX12 tyX12_ok nmX12 rfl (by decide) zinX12 rfl zw_722 rfl (fun h => absurd h (by decide)) rfl dX12_init_238) (z_c (ok_aload_n dX12_init_241 rfl) (z_c (ok_bipush (v := (20)) dX12_init_242 (by decide)) z_n))))))))))))
noncomputable def tX12_init_11 : List (Nat × zF) := [(244, (zna 0 4 zn_int 2)), (246, (zpf 12 36 (.array .int))), (249, (zla4 0 1)), (250, (zst 2 (zp (.int (20))))), (252, (zna 0 4 zn_int 2)), (254, (zpf 12 37 (.array .int))), (257, (zla4 0 1)), (258, (zst 2 (zp (.int (20))))), (260, (zna 2 1 zn_bool 2)), (262, (zpf 12 38 (.array .boolean))), (265, (zla4 0 1)), (266, (zst 2 (zp (.int (20)))))]
theorem kX12_init_11 : ∀ q ∈ tX12_init_11, zOk zg iX12_init q.1 q.2 := (z_c (ok_newa (ty := .int) rfl rfl (fun _ h => by cases h) zw_96 rfl zn_int_c zn_int_n dX12_init_244) (z_c (ok_putf (C := RX12) (T := TX12) (N := 73) true tyX12 tyX12_ok nmX12 rfl (by decide) zinX12 rfl zw_723 rfl (fun _ => ⟨rfl, rfl⟩) rfl dX12_init_246) (z_c (ok_aload_n dX12_init_249 rfl) (z_c (ok_bipush (v := (20)) dX12_init_250 (by decide)) (z_c (ok_newa (ty := .int) rfl rfl (fun _ h => by cases h) zw_96 rfl zn_int_c zn_int_n dX12_init_252) (z_c (ok_putf (C := RX12) (T := TX12) (N := 73) true tyX12 tyX12_ok nmX12 rfl (by decide) zinX12 rfl zw_724 rfl (fun _ => ⟨rfl, rfl⟩) rfl dX12_init_254) (z_c (ok_aload_n dX12_init_257 rfl) (z_c (ok_bipush (v := (20)) dX12_init_258 (by decide)) (z_c (ok_newa (ty := .boolean) rfl rfl (fun _ h => by cases h) zw_725 rfl zn_bool_c zn_bool_n dX12_init_260) (z_c (ok_putf (C := RX12) (T := TX12) (N := 73) true tyX12 tyX12_ok nmX12 rfl (by decide) zinX12 rfl zw_726 rfl (fun _ => ⟨rfl, rfl⟩) rfl dX12_init_262) (z_c (ok_aload_n dX12_init_265 rfl) (z_c (ok_bipush (v := (20)) dX12_init_266 (by decide)) z_n))))))))))))
noncomputable def tX12_init_12 : List (Nat × zF) := [(268, (zna 0 4 zn_int 2)), (270, (zpf 12 39 (.array .int))), (273, (zla4 0 1)), (274, (zst 2 (zp (.int (20))))), (276, (zna 0 4 zn_int 2)), (278, (zpf 12 40 (.array .int))), (281, (zla4 0 1)), (282, (zst 1 (zp (.int (0))))), (283, (zpf 12 41 (.int))), (286, (zla4 0 1)), (287, (zst 1 (zp (.int (0))))), (288, (zpf 12 42 (.int)))]
theorem kX12_init_12 : ∀ q ∈ tX12_init_12, zOk zg iX12_init q.1 q.2 := (z_c (ok_newa (ty := .int) rfl rfl (fun _ h => by cases h) zw_96 rfl zn_int_c zn_int_n dX12_init_268) (z_c (ok_putf (C := RX12) (T := TX12) (N := 73) true tyX12 tyX12_ok nmX12 rfl (by decide) zinX12 rfl zw_727 rfl (fun _ => ⟨rfl, rfl⟩) rfl dX12_init_270) (z_c (ok_aload_n dX12_init_273 rfl) (z_c (ok_bipush (v := (20)) dX12_init_274 (by decide)) (z_c (ok_newa (ty := .int) rfl rfl (fun _ h => by cases h) zw_96 rfl zn_int_c zn_int_n dX12_init_276) (z_c (ok_putf (C := RX12) (T := TX12) (N := 73) true tyX12 tyX12_ok nmX12 rfl (by decide) zinX12 rfl zw_728 rfl (fun _ => ⟨rfl, rfl⟩) rfl dX12_init_278) (z_c (ok_aload_n dX12_init_281 rfl) (z_c (ok_iconst (v := (0)) dX12_init_282 (by decide)) (z_c (ok_putf (C := RX12) (T := TX12) (N := 73) false tyX12 tyX12_ok nmX12 rfl (by decide) zinX12 rfl zw_729 rfl (fun h => absurd h (by decide)) rfl dX12_init_283) (z_c (ok_aload_n dX12_init_286 rfl) (z_c (ok_iconst (v := (0)) dX12_init_287 (by decide)) (z_c (ok_putf (C := RX12) (T := TX12) (N := 73) false tyX12 tyX12_ok nmX12 rfl (by decide) zinX12 rfl zw_730 rfl (fun h => absurd h (by decide)) rfl dX12_init_288) z_n))))))))))))
noncomputable def tX12_init_13 : List (Nat × zF) := [(291, (zla4 0 1)), (292, (zst 3 (zp (.int (500))))), (295, (zna 0 4 zn_int 2)), (297, (zpf 12 43 (.array .int))), (300, (zla4 0 1)), (301, (zst 1 (zp (.int (0))))), (302, (zpf 12 44 (.int))), (305, (zla4 0 1)), (306, (zst 1 (zp (.int (0))))), (307, (zpf 12 45 (.boolean))), (310, (zla4 0 1)), (311, (zst 1 (zp (.int (0)))))]
theorem kX12_init_13 : ∀ q ∈ tX12_init_13, zOk zg iX12_init q.1 q.2 := (z_c (ok_aload_n dX12_init_291 rfl) (z_c (ok_sipush (v := (500)) dX12_init_292 (by decide)) (z_c (ok_newa (ty := .int) rfl rfl (fun _ h => by cases h) zw_96 rfl zn_int_c zn_int_n dX12_init_295) (z_c (ok_putf (C := RX12) (T := TX12) (N := 73) true tyX12 tyX12_ok nmX12 rfl (by decide) zinX12 rfl zw_731 rfl (fun _ => ⟨rfl, rfl⟩) rfl dX12_init_297) (z_c (ok_aload_n dX12_init_300 rfl) (z_c (ok_iconst (v := (0)) dX12_init_301 (by decide)) (z_c (ok_putf (C := RX12) (T := TX12) (N := 73) false tyX12 tyX12_ok nmX12 rfl (by decide) zinX12 rfl zw_732 rfl (fun h => absurd h (by decide)) rfl dX12_init_302) (z_c (ok_aload_n dX12_init_305 rfl) (z_c (ok_iconst (v := (0)) dX12_init_306 (by decide)) (z_c (ok_putf (C := RX12) (T := TX12) (N := 73) false tyX12 tyX12_ok nmX12 rfl (by decide) zinX12 rfl zw_733 rfl (fun h => absurd h (by decide)) rfl dX12_init_307) (z_c (ok_aload_n dX12_init_310 rfl) (z_c (ok_iconst (v := (0)) dX12_init_311 (by decide)) z_n))))))))))))
noncomputable def tX12_init_14 : List (Nat × zF) := [(312, (zpf 12 46 (.boolean))), (315, (zla4 0 1)), (316, (zst 2 (zp (.int (6))))), (318, (zna 0 4 zn_int 2)), (320, (zpf 12 47 (.array .int))), (323, (zla4 0 1)), (324, (zst 2 (zp (.int (22))))), (326, (zna 0 4 zn_int 2)), (328, (zpf 12 48 (.array .int))), (331, (zla4 0 1)), (332, (zst 2 (zp (.int (22))))), (334, (zna 0 4 zn_int 2))]
theorem kX12_init_14 : ∀ q ∈ tX12_init_14, zOk zg iX12_init q.1 q.2 := (z_c (ok_putf (C := RX12) (T := TX12) (N := 73) false tyX12 tyX12_ok nmX12 rfl (by decide) zinX12 rfl zw_734 rfl (fun h => absurd h (by decide)) rfl dX12_init_312) (z_c (ok_aload_n dX12_init_315 rfl) (z_c (ok_bipush (v := (6)) dX12_init_316 (by decide)) (z_c (ok_newa (ty := .int) rfl rfl (fun _ h => by cases h) zw_96 rfl zn_int_c zn_int_n dX12_init_318) (z_c (ok_putf (C := RX12) (T := TX12) (N := 73) true tyX12 tyX12_ok nmX12 rfl (by decide) zinX12 rfl zw_735 rfl (fun _ => ⟨rfl, rfl⟩) rfl dX12_init_320) (z_c (ok_aload_n dX12_init_323 rfl) (z_c (ok_bipush (v := (22)) dX12_init_324 (by decide)) (z_c (ok_newa (ty := .int) rfl rfl (fun _ h => by cases h) zw_96 rfl zn_int_c zn_int_n dX12_init_326) (z_c (ok_putf (C := RX12) (T := TX12) (N := 73) true tyX12 tyX12_ok nmX12 rfl (by decide) zinX12 rfl zw_736 rfl (fun _ => ⟨rfl, rfl⟩) rfl dX12_init_328) (z_c (ok_aload_n dX12_init_331 rfl) (z_c (ok_bipush (v := (22)) dX12_init_332 (by decide)) (z_c (ok_newa (ty := .int) rfl rfl (fun _ h => by cases h) zw_96 rfl zn_int_c zn_int_n dX12_init_334) z_n))))))))))))
noncomputable def tX12_init_15 : List (Nat × zF) := [(336, (zpf 12 49 (.array .int))), (339, (zla4 0 1)), (340, (zst 3 (zp (.int (198))))), (343, (zna 0 4 zn_int 2)), (345, (zpf 12 50 (.array .int))), (348, (zla4 0 1)), (349, (zst 3 (zp (.int (132))))), (352, (zna 0 4 zn_int 2)), (354, (zpf 12 51 (.array .int))), (357, (zla4 0 1)), (358, (zst 2 (zp (.int (22))))), (360, (zna 0 4 zn_int 2))]
theorem kX12_init_15 : ∀ q ∈ tX12_init_15, zOk zg iX12_init q.1 q.2 := (z_c (ok_putf (C := RX12) (T := TX12) (N := 73) true tyX12 tyX12_ok nmX12 rfl (by decide) zinX12 rfl zw_737 rfl (fun _ => ⟨rfl, rfl⟩) rfl dX12_init_336) (z_c (ok_aload_n dX12_init_339 rfl) (z_c (ok_sipush (v := (198)) dX12_init_340 (by decide)) (z_c (ok_newa (ty := .int) rfl rfl (fun _ h => by cases h) zw_96 rfl zn_int_c zn_int_n dX12_init_343) (z_c (ok_putf (C := RX12) (T := TX12) (N := 73) true tyX12 tyX12_ok nmX12 rfl (by decide) zinX12 rfl zw_738 rfl (fun _ => ⟨rfl, rfl⟩) rfl dX12_init_345) (z_c (ok_aload_n dX12_init_348 rfl) (z_c (ok_sipush (v := (132)) dX12_init_349 (by decide)) (z_c (ok_newa (ty := .int) rfl rfl (fun _ h => by cases h) zw_96 rfl zn_int_c zn_int_n dX12_init_352) (z_c (ok_putf (C := RX12) (T := TX12) (N := 73) true tyX12 tyX12_ok nmX12 rfl (by decide) zinX12 rfl zw_739 rfl (fun _ => ⟨rfl, rfl⟩) rfl dX12_init_354) (z_c (ok_aload_n dX12_init_357 rfl) (z_c (ok_bipush (v := (22)) dX12_init_358 (by decide)) (z_c (ok_newa (ty := .int) rfl rfl (fun _ h => by cases h) zw_96 rfl zn_int_c zn_int_n dX12_init_360) z_n))))))))))))
noncomputable def tX12_init_16 : List (Nat × zF) := [(362, (zpf 12 52 (.array .int))), (365, (zla4 0 1)), (366, (zst 3 (zp (.int (2640))))), (369, (zna 0 4 zn_int 2)), (371, (zpf 12 53 (.array .int))), (374, (zla4 0 1)), (375, (zst 1 (zp (.int (0))))), (376, (zpf 12 54 (.int))), (379, (zla4 0 1)), (380, (zst 1 (zp (.int (0))))), (381, (zpf 12 55 (.int))), (384, (zla4 0 1))]
theorem kX12_init_16 : ∀ q ∈ tX12_init_16, zOk zg iX12_init q.1 q.2 := (z_c (ok_putf (C := RX12) (T := TX12) (N := 73) true tyX12 tyX12_ok nmX12 rfl (by decide) zinX12 rfl zw_740 rfl (fun _ => ⟨rfl, rfl⟩) rfl dX12_init_362) (z_c (ok_aload_n dX12_init_365 rfl) (z_c (ok_sipush (v := (2640)) dX12_init_366 (by decide)) (z_c (ok_newa (ty := .int) rfl rfl (fun _ h => by cases h) zw_96 rfl zn_int_c zn_int_n dX12_init_369) (z_c (ok_putf (C := RX12) (T := TX12) (N := 73) true tyX12 tyX12_ok nmX12 rfl (by decide) zinX12 rfl zw_741 rfl (fun _ => ⟨rfl, rfl⟩) rfl dX12_init_371) (z_c (ok_aload_n dX12_init_374 rfl) (z_c (ok_iconst (v := (0)) dX12_init_375 (by decide)) (z_c (ok_putf (C := RX12) (T := TX12) (N := 73) false tyX12 tyX12_ok nmX12 rfl (by decide) zinX12 rfl zw_742 rfl (fun h => absurd h (by decide)) rfl dX12_init_376) (z_c (ok_aload_n dX12_init_379 rfl) (z_c (ok_iconst (v := (0)) dX12_init_380 (by decide)) (z_c (ok_putf (C := RX12) (T := TX12) (N := 73) false tyX12 tyX12_ok nmX12 rfl (by decide) zinX12 rfl zw_743 rfl (fun h => absurd h (by decide)) rfl dX12_init_381) (z_c (ok_aload_n dX12_init_384 rfl) z_n))))))))))))
noncomputable def tX12_init_17 : List (Nat × zF) := [(385, (zst 1 (zp (.long (1))))), (386, (zpf 12 56 (.long))), (389, (zla4 0 1)), (390, (zst 2 (zp (.int (9))))), (392, (zna 0 4 zn_int 2)), (394, (zpf 12 57 (.array .int))), (397, (zla4 0 1)), (398, (zst 3 (zp (.int (500))))), (401, (zna 1 8 zn_long 2)), (403, (zpf 12 58 (.array .long))), (406, (zla4 0 1)), (407, (zst 2 (zp (.int (10)))))]
theorem kX12_init_17 : ∀ q ∈ tX12_init_17, zOk zg iX12_init q.1 q.2 := (z_c (ok_lconst (v := (1)) dX12_init_385 (by decide)) (z_c (ok_putf (C := RX12) (T := TX12) (N := 73) false tyX12 tyX12_ok nmX12 rfl (by decide) zinX12 rfl zw_744 rfl (fun h => absurd h (by decide)) rfl dX12_init_386) (z_c (ok_aload_n dX12_init_389 rfl) (z_c (ok_bipush (v := (9)) dX12_init_390 (by decide)) (z_c (ok_newa (ty := .int) rfl rfl (fun _ h => by cases h) zw_96 rfl zn_int_c zn_int_n dX12_init_392) (z_c (ok_putf (C := RX12) (T := TX12) (N := 73) true tyX12 tyX12_ok nmX12 rfl (by decide) zinX12 rfl zw_745 rfl (fun _ => ⟨rfl, rfl⟩) rfl dX12_init_394) (z_c (ok_aload_n dX12_init_397 rfl) (z_c (ok_sipush (v := (500)) dX12_init_398 (by decide)) (z_c (ok_newa (ty := .long) rfl rfl (fun _ h => by cases h) zw_8 rfl zn_long_c zn_long_n dX12_init_401) (z_c (ok_putf (C := RX12) (T := TX12) (N := 73) true tyX12 tyX12_ok nmX12 rfl (by decide) zinX12 rfl zw_746 rfl (fun _ => ⟨rfl, rfl⟩) rfl dX12_init_403) (z_c (ok_aload_n dX12_init_406 rfl) (z_c (ok_bipush (v := (10)) dX12_init_407 (by decide)) z_n))))))))))))
noncomputable def tX12_init_18 : List (Nat × zF) := [(409, (zna 0 4 zn_int 2)), (411, (zpf 12 59 (.array .int))), (414, (zla4 0 1)), (415, (zst 2 (zp (.int (64))))), (417, (zna 0 4 zn_int 2)), (419, (zpf 12 60 (.array .int))), (422, (zla4 0 1)), (423, (zst 2 (zp (.int (64))))), (425, (zna 0 4 zn_int 2)), (427, (zpf 12 61 (.array .int))), (430, (zla4 0 1)), (431, (zst 2 (zp (.int (64)))))]
theorem kX12_init_18 : ∀ q ∈ tX12_init_18, zOk zg iX12_init q.1 q.2 := (z_c (ok_newa (ty := .int) rfl rfl (fun _ h => by cases h) zw_96 rfl zn_int_c zn_int_n dX12_init_409) (z_c (ok_putf (C := RX12) (T := TX12) (N := 73) true tyX12 tyX12_ok nmX12 rfl (by decide) zinX12 rfl zw_747 rfl (fun _ => ⟨rfl, rfl⟩) rfl dX12_init_411) (z_c (ok_aload_n dX12_init_414 rfl) (z_c (ok_bipush (v := (64)) dX12_init_415 (by decide)) (z_c (ok_newa (ty := .int) rfl rfl (fun _ h => by cases h) zw_96 rfl zn_int_c zn_int_n dX12_init_417) (z_c (ok_putf (C := RX12) (T := TX12) (N := 73) true tyX12 tyX12_ok nmX12 rfl (by decide) zinX12 rfl zw_748 rfl (fun _ => ⟨rfl, rfl⟩) rfl dX12_init_419) (z_c (ok_aload_n dX12_init_422 rfl) (z_c (ok_bipush (v := (64)) dX12_init_423 (by decide)) (z_c (ok_newa (ty := .int) rfl rfl (fun _ h => by cases h) zw_96 rfl zn_int_c zn_int_n dX12_init_425) (z_c (ok_putf (C := RX12) (T := TX12) (N := 73) true tyX12 tyX12_ok nmX12 rfl (by decide) zinX12 rfl zw_749 rfl (fun _ => ⟨rfl, rfl⟩) rfl dX12_init_427) (z_c (ok_aload_n dX12_init_430 rfl) (z_c (ok_bipush (v := (64)) dX12_init_431 (by decide)) z_n))))))))))))
noncomputable def tX12_init_19 : List (Nat × zF) := [(433, (zna 0 4 zn_int 2)), (435, (zpf 12 62 (.array .int))), (438, (zla4 0 1)), (439, (zst 2 (zp (.int (64))))), (441, (zna 0 4 zn_int 2)), (443, (zpf 12 63 (.array .int))), (446, (zla4 0 1)), (447, (zst 2 (zp (.int (54))))), (449, (zna 0 4 zn_int 2)), (451, (zpf 12 64 (.array .int))), (454, (zla4 0 1)), (455, (zst 3 (zp (.int (3584)))))]
theorem kX12_init_19 : ∀ q ∈ tX12_init_19, zOk zg iX12_init q.1 q.2 := (z_c (ok_newa (ty := .int) rfl rfl (fun _ h => by cases h) zw_96 rfl zn_int_c zn_int_n dX12_init_433) (z_c (ok_putf (C := RX12) (T := TX12) (N := 73) true tyX12 tyX12_ok nmX12 rfl (by decide) zinX12 rfl zw_750 rfl (fun _ => ⟨rfl, rfl⟩) rfl dX12_init_435) (z_c (ok_aload_n dX12_init_438 rfl) (z_c (ok_bipush (v := (64)) dX12_init_439 (by decide)) (z_c (ok_newa (ty := .int) rfl rfl (fun _ h => by cases h) zw_96 rfl zn_int_c zn_int_n dX12_init_441) (z_c (ok_putf (C := RX12) (T := TX12) (N := 73) true tyX12 tyX12_ok nmX12 rfl (by decide) zinX12 rfl zw_751 rfl (fun _ => ⟨rfl, rfl⟩) rfl dX12_init_443) (z_c (ok_aload_n dX12_init_446 rfl) (z_c (ok_bipush (v := (54)) dX12_init_447 (by decide)) (z_c (ok_newa (ty := .int) rfl rfl (fun _ h => by cases h) zw_96 rfl zn_int_c zn_int_n dX12_init_449) (z_c (ok_putf (C := RX12) (T := TX12) (N := 73) true tyX12 tyX12_ok nmX12 rfl (by decide) zinX12 rfl zw_752 rfl (fun _ => ⟨rfl, rfl⟩) rfl dX12_init_451) (z_c (ok_aload_n dX12_init_454 rfl) (z_c (ok_sipush (v := (3584)) dX12_init_455 (by decide)) z_n))))))))))))
noncomputable def tX12_init_20 : List (Nat × zF) := [(458, (zna 0 4 zn_int 2)), (460, (zpf 12 65 (.array .int))), (463, (zla4 0 1)), (464, (zst 1 (zp (.int (0))))), (465, (zpf 12 66 (.int))), (468, (zla4 0 1)), (469, (zst 2 (zp (.int (16))))), (471, (zna 0 4 zn_int 2)), (473, (zpf 12 67 (.array .int))), (476, (zla4 0 1)), (477, (zst 2 (zp (.int (16))))), (479, (zna 0 4 zn_int 2))]
theorem kX12_init_20 : ∀ q ∈ tX12_init_20, zOk zg iX12_init q.1 q.2 := (z_c (ok_newa (ty := .int) rfl rfl (fun _ h => by cases h) zw_96 rfl zn_int_c zn_int_n dX12_init_458) (z_c (ok_putf (C := RX12) (T := TX12) (N := 73) true tyX12 tyX12_ok nmX12 rfl (by decide) zinX12 rfl zw_753 rfl (fun _ => ⟨rfl, rfl⟩) rfl dX12_init_460) (z_c (ok_aload_n dX12_init_463 rfl) (z_c (ok_iconst (v := (0)) dX12_init_464 (by decide)) (z_c (ok_putf (C := RX12) (T := TX12) (N := 73) false tyX12 tyX12_ok nmX12 rfl (by decide) zinX12 rfl zw_754 rfl (fun h => absurd h (by decide)) rfl dX12_init_465) (z_c (ok_aload_n dX12_init_468 rfl) (z_c (ok_bipush (v := (16)) dX12_init_469 (by decide)) (z_c (ok_newa (ty := .int) rfl rfl (fun _ h => by cases h) zw_96 rfl zn_int_c zn_int_n dX12_init_471) (z_c (ok_putf (C := RX12) (T := TX12) (N := 73) true tyX12 tyX12_ok nmX12 rfl (by decide) zinX12 rfl zw_755 rfl (fun _ => ⟨rfl, rfl⟩) rfl dX12_init_473) (z_c (ok_aload_n dX12_init_476 rfl) (z_c (ok_bipush (v := (16)) dX12_init_477 (by decide)) (z_c (ok_newa (ty := .int) rfl rfl (fun _ h => by cases h) zw_96 rfl zn_int_c zn_int_n dX12_init_479) z_n))))))))))))
noncomputable def tX12_init_21 : List (Nat × zF) := [(481, (zpf 12 68 (.array .int))), (484, (zla4 0 1)), (485, (zst 2 (zp (.int (16))))), (487, (zna 0 4 zn_int 2)), (489, (zpf 12 69 (.array .int))), (492, (zla4 0 1)), (493, (zst 3 (zp (.int (1674))))), (496, (zna 0 4 zn_int 2)), (498, (zpf 12 70 (.array .int))), (501, (zla4 0 1)), (502, (zst 2 (zp (.int (50))))), (504, (zna 0 4 zn_int 2))]
theorem kX12_init_21 : ∀ q ∈ tX12_init_21, zOk zg iX12_init q.1 q.2 := (z_c (ok_putf (C := RX12) (T := TX12) (N := 73) true tyX12 tyX12_ok nmX12 rfl (by decide) zinX12 rfl zw_756 rfl (fun _ => ⟨rfl, rfl⟩) rfl dX12_init_481) (z_c (ok_aload_n dX12_init_484 rfl) (z_c (ok_bipush (v := (16)) dX12_init_485 (by decide)) (z_c (ok_newa (ty := .int) rfl rfl (fun _ h => by cases h) zw_96 rfl zn_int_c zn_int_n dX12_init_487) (z_c (ok_putf (C := RX12) (T := TX12) (N := 73) true tyX12 tyX12_ok nmX12 rfl (by decide) zinX12 rfl zw_757 rfl (fun _ => ⟨rfl, rfl⟩) rfl dX12_init_489) (z_c (ok_aload_n dX12_init_492 rfl) (z_c (ok_sipush (v := (1674)) dX12_init_493 (by decide)) (z_c (ok_newa (ty := .int) rfl rfl (fun _ h => by cases h) zw_96 rfl zn_int_c zn_int_n dX12_init_496) (z_c (ok_putf (C := RX12) (T := TX12) (N := 73) true tyX12 tyX12_ok nmX12 rfl (by decide) zinX12 rfl zw_758 rfl (fun _ => ⟨rfl, rfl⟩) rfl dX12_init_498) (z_c (ok_aload_n dX12_init_501 rfl) (z_c (ok_bipush (v := (50)) dX12_init_502 (by decide)) (z_c (ok_newa (ty := .int) rfl rfl (fun _ h => by cases h) zw_96 rfl zn_int_c zn_int_n dX12_init_504) z_n))))))))))))
noncomputable def tX12_init_22 : List (Nat × zF) := [(506, (zpf 12 71 (.array .int))), (509, (zla4 0 1)), (510, (zst 1 (zp (.int (0))))), (511, (zpf 12 72 (.int))), (514, (zst 1 (zp (.int (0))))), (515, (zsi4 2 1 1)), (516, (zli4 1 1)), (517, (zst 2 (zp (.int (6))))), (519, (z_ic_ge 535)), (522, (zla4 0 1)), (523, (zgf 12 27)), (526, (zli4 1 1))]
theorem kX12_init_22 : ∀ q ∈ tX12_init_22, zOk zg iX12_init q.1 q.2 := (z_c (ok_putf (C := RX12) (T := TX12) (N := 73) true tyX12 tyX12_ok nmX12 rfl (by decide) zinX12 rfl zw_759 rfl (fun _ => ⟨rfl, rfl⟩) rfl dX12_init_506) (z_c (ok_aload_n dX12_init_509 rfl) (z_c (ok_iconst (v := (0)) dX12_init_510 (by decide)) (z_c (ok_putf (C := RX12) (T := TX12) (N := 73) false tyX12 tyX12_ok nmX12 rfl (by decide) zinX12 rfl zw_760 rfl (fun h => absurd h (by decide)) rfl dX12_init_511) (z_c (ok_iconst (v := (0)) dX12_init_514 (by decide)) (z_c (ok_istore_n dX12_init_515 rfl) (z_c (ok_iload_n dX12_init_516 rfl) (z_c (ok_bipush (v := (6)) dX12_init_517 (by decide)) (z_c (ok_icmp_ge dX12_init_519 (by decide)) (z_c (ok_aload_n dX12_init_522 rfl) (z_c (ok_getf (C := RX12) (T := TX12) (N := 73) rfl (by decide) zinX12 rfl zw_714 dX12_init_523) (z_c (ok_iload_n dX12_init_526 rfl) z_n))))))))))))
noncomputable def tX12_init_23 : List (Nat × zF) := [(527, (zst 1 (zp (.int ((-1)))))), (528, (zas 0)), (529, (zin4 2 1 (1))), (532, (zgt 516)), (535, zrv)]
theorem kX12_init_23 : ∀ q ∈ tX12_init_23, zOk zg iX12_init q.1 q.2 := (z_c (ok_iconst (v := (-1)) dX12_init_527 (by decide)) (z_c (ok_iastore rfl dX12_init_528) (z_c (ok_iinc (v := (1)) dX12_init_529 (by decide)) (z_c (ok_goto dX12_init_532 (by decide)) (z_c (ok_return rfl dX12_init_535) z_n)))))
noncomputable def tX12_init : zT := [(23, tX12_init_0), (43, tX12_init_1), (63, tX12_init_2), (82, tX12_init_3), (103, tX12_init_4), (127, tX12_init_5), (150, tX12_init_6), (173, tX12_init_7), (198, tX12_init_8), (223, tX12_init_9), (244, tX12_init_10), (268, tX12_init_11), (291, tX12_init_12), (312, tX12_init_13), (336, tX12_init_14), (362, tX12_init_15), (385, tX12_init_16), (409, tX12_init_17), (433, tX12_init_18), (458, tX12_init_19), (481, tX12_init_20), (506, tX12_init_21), (527, tX12_init_22), (100000, tX12_init_23)]
theorem kX12_init : zTok zg iX12_init tX12_init := (z_t kX12_init_0 (z_t kX12_init_1 (z_t kX12_init_2 (z_t kX12_init_3 (z_t kX12_init_4 (z_t kX12_init_5 (z_t kX12_init_6 (z_t kX12_init_7 (z_t kX12_init_8 (z_t kX12_init_9 (z_t kX12_init_10 (z_t kX12_init_11 (z_t kX12_init_12 (z_t kX12_init_13 (z_t kX12_init_14 (z_t kX12_init_15 (z_t kX12_init_16 (z_t kX12_init_17 (z_t kX12_init_18 (z_t kX12_init_19 (z_t kX12_init_20 (z_t kX12_init_21 (z_t kX12_init_22 (z_t kX12_init_23 z_tn))))))))))))))))))))))))
theorem dX12_is_0 : decode cX12_is 0 = .ok (.iload_n 0, 1) := by decide +kernel
theorem dX12_is_1 : decode cX12_is 1 = .ok (.iload_n 1, 1) := by decide +kernel
theorem dX12_is_2 : decode cX12_is 2 = .ok (.if_icmp .lt 12, 3) := by decide +kernel
theorem dX12_is_5 : decode cX12_is 5 = .ok (.iload_n 0, 1) := by decide +kernel
theorem dX12_is_6 : decode cX12_is 6 = .ok (.iload_n 2, 1) := by decide +kernel
theorem dX12_is_7 : decode cX12_is 7 = .ok (.if_icmp .gt 7, 3) := by decide +kernel
theorem dX12_is_10 : decode cX12_is 10 = .ok (.iconst 1, 1) := by decide +kernel
theorem dX12_is_11 : decode cX12_is 11 = .ok (.goto 4, 3) := by decide +kernel
theorem dX12_is_14 : decode cX12_is 14 = .ok (.iconst 0, 1) := by decide +kernel
theorem dX12_is_15 : decode cX12_is 15 = .ok (.ireturn, 1) := by decide +kernel
noncomputable def tX12_is_0 : List (Nat × zF) := [(0, (zli4 0 1)), (1, (zli4 1 1)), (2, (z_ic_lt 14)), (5, (zli4 0 1)), (6, (zli4 2 1)), (7, (z_ic_gt 14)), (10, (zst 1 (zp (.int (1))))), (11, (zgt 15)), (14, (zst 1 (zp (.int (0))))), (15, (zri true))]
theorem kX12_is_0 : ∀ q ∈ tX12_is_0, zOk zg iX12_is q.1 q.2 := (z_c (ok_iload_n dX12_is_0 rfl) (z_c (ok_iload_n dX12_is_1 rfl) (z_c (ok_icmp_lt dX12_is_2 (by decide)) (z_c (ok_iload_n dX12_is_5 rfl) (z_c (ok_iload_n dX12_is_6 rfl) (z_c (ok_icmp_gt dX12_is_7 (by decide)) (z_c (ok_iconst (v := (1)) dX12_is_10 (by decide)) (z_c (ok_goto dX12_is_11 (by decide)) (z_c (ok_iconst (v := (0)) dX12_is_14 (by decide)) (z_c (ok_zreturn rfl dX12_is_15) z_n))))))))))
noncomputable def tX12_is : zT := [(100000, tX12_is_0)]
theorem kX12_is : zTok zg iX12_is tX12_is := (z_t kX12_is_0 z_tn)
theorem dX12_put_0 : decode cX12_put 0 = .ok (.bipush 24, 2) := by decide +kernel
theorem dX12_put_2 : decode cX12_put 2 = .ok (.istore_n 2, 1) := by decide +kernel
theorem dX12_put_3 : decode cX12_put 3 = .ok (.iload_n 2, 1) := by decide +kernel
theorem dX12_put_4 : decode cX12_put 4 = .ok (.ifCond .lt 35, 3) := by decide +kernel
theorem dX12_put_7 : decode cX12_put 7 = .ok (.aload_n 0, 1) := by decide +kernel
theorem dX12_put_8 : decode cX12_put 8 = .ok (.getfield 7, 3) := by decide +kernel
theorem dX12_put_11 : decode cX12_put 11 = .ok (.aload_n 0, 1) := by decide +kernel
theorem dX12_put_12 : decode cX12_put 12 = .ok (.getfield 13, 3) := by decide +kernel
theorem dX12_put_15 : decode cX12_put 15 = .ok (.iload_n 1, 1) := by decide +kernel
theorem dX12_put_16 : decode cX12_put 16 = .ok (.iload_n 2, 1) := by decide +kernel
theorem dX12_put_17 : decode cX12_put 17 = .ok (.ishr, 1) := by decide +kernel
theorem dX12_put_18 : decode cX12_put 18 = .ok (.sipush 255, 3) := by decide +kernel
theorem dX12_put_21 : decode cX12_put 21 = .ok (.iand, 1) := by decide +kernel
theorem dX12_put_22 : decode cX12_put 22 = .ok (.iastore, 1) := by decide +kernel
theorem dX12_put_23 : decode cX12_put 23 = .ok (.aload_n 0, 1) := by decide +kernel
theorem dX12_put_24 : decode cX12_put 24 = .ok (.dup, 1) := by decide +kernel
theorem dX12_put_25 : decode cX12_put 25 = .ok (.getfield 13, 3) := by decide +kernel
theorem dX12_put_28 : decode cX12_put 28 = .ok (.iconst 1, 1) := by decide +kernel
theorem dX12_put_29 : decode cX12_put 29 = .ok (.iadd, 1) := by decide +kernel
theorem dX12_put_30 : decode cX12_put 30 = .ok (.putfield 13, 3) := by decide +kernel
theorem dX12_put_33 : decode cX12_put 33 = .ok (.iinc 2 (-8), 3) := by decide +kernel
theorem dX12_put_36 : decode cX12_put 36 = .ok (.goto (-33), 3) := by decide +kernel
theorem dX12_put_39 : decode cX12_put 39 = .ok (.return_, 1) := by decide +kernel
noncomputable def tX12_put_0 : List (Nat × zF) := [(0, (zst 2 (zp (.int (24))))), (2, (zsi4 3 2 1)), (3, (zli4 2 1)), (4, (z_if_lt 39)), (7, (zla4 0 1)), (8, (zgf 12 0)), (11, (zla4 0 1)), (12, (zgf 12 1)), (15, (zli4 1 1)), (16, (zli4 2 1)), (17, (zst 1 z_ishr)), (18, (zst 3 (zp (.int (255)))))]
theorem kX12_put_0 : ∀ q ∈ tX12_put_0, zOk zg iX12_put q.1 q.2 := (z_c (ok_bipush (v := (24)) dX12_put_0 (by decide)) (z_c (ok_istore_n dX12_put_2 rfl) (z_c (ok_iload_n dX12_put_3 rfl) (z_c (ok_if_lt dX12_put_4 (by decide)) (z_c (ok_aload_n dX12_put_7 rfl) (z_c (ok_getf (C := RX12) (T := TX12) (N := 73) rfl (by decide) zinX12 rfl zw_687 dX12_put_8) (z_c (ok_aload_n dX12_put_11 rfl) (z_c (ok_getf (C := RX12) (T := TX12) (N := 73) rfl (by decide) zinX12 rfl zw_688 dX12_put_12) (z_c (ok_iload_n dX12_put_15 rfl) (z_c (ok_iload_n dX12_put_16 rfl) (z_c (ok_ishr dX12_put_17) (z_c (ok_sipush (v := (255)) dX12_put_18 (by decide)) z_n))))))))))))
noncomputable def tX12_put_1 : List (Nat × zF) := [(21, (zst 1 z_iand)), (22, (zas 0)), (23, (zla4 0 1)), (24, (zst 1 zdu)), (25, (zgf 12 1)), (28, (zst 1 (zp (.int (1))))), (29, (zst 1 z_iadd)), (30, (zpf 12 1 (.int))), (33, (zin4 3 2 (-8))), (36, (zgt 3)), (39, zrv)]
theorem kX12_put_1 : ∀ q ∈ tX12_put_1, zOk zg iX12_put q.1 q.2 := (z_c (ok_iand dX12_put_21) (z_c (ok_iastore rfl dX12_put_22) (z_c (ok_aload_n dX12_put_23 rfl) (z_c (ok_dup dX12_put_24) (z_c (ok_getf (C := RX12) (T := TX12) (N := 73) rfl (by decide) zinX12 rfl zw_688 dX12_put_25) (z_c (ok_iconst (v := (1)) dX12_put_28 (by decide)) (z_c (ok_iadd dX12_put_29) (z_c (ok_putf (C := RX12) (T := TX12) (N := 73) false tyX12 tyX12_ok nmX12 rfl (by decide) zinX12 rfl zw_688 rfl (fun h => absurd h (by decide)) rfl dX12_put_30) (z_c (ok_iinc (v := (-8)) dX12_put_33 (by decide)) (z_c (ok_goto dX12_put_36 (by decide)) (z_c (ok_return rfl dX12_put_39) z_n)))))))))))
noncomputable def tX12_put : zT := [(21, tX12_put_0), (100000, tX12_put_1)]
theorem kX12_put : zTok zg iX12_put tX12_put := (z_t kX12_put_0 (z_t kX12_put_1 z_tn))
theorem dX12_feed_0 : decode cX12_feed 0 = .ok (.aload_n 0, 1) := by decide +kernel
theorem dX12_feed_1 : decode cX12_feed 1 = .ok (.getfield 13, 3) := by decide +kernel
theorem dX12_feed_4 : decode cX12_feed 4 = .ok (.bipush 20, 2) := by decide +kernel
theorem dX12_feed_6 : decode cX12_feed 6 = .ok (.iadd, 1) := by decide +kernel
theorem dX12_feed_7 : decode cX12_feed 7 = .ok (.sipush 1600, 3) := by decide +kernel
theorem dX12_feed_10 : decode cX12_feed 10 = .ok (.if_icmp .le 9, 3) := by decide +kernel
theorem dX12_feed_13 : decode cX12_feed 13 = .ok (.aload_n 0, 1) := by decide +kernel
theorem dX12_feed_14 : decode cX12_feed 14 = .ok (.iconst 0, 1) := by decide +kernel
theorem dX12_feed_15 : decode cX12_feed 15 = .ok (.invokevirtual 234, 3) := by decide +kernel
theorem dX12_feed_18 : decode cX12_feed 18 = .ok (.ireturn, 1) := by decide +kernel
theorem dX12_feed_19 : decode cX12_feed 19 = .ok (.aload_n 0, 1) := by decide +kernel
theorem dX12_feed_20 : decode cX12_feed 20 = .ok (.iload_n 1, 1) := by decide +kernel
theorem dX12_feed_21 : decode cX12_feed 21 = .ok (.invokevirtual 238, 3) := by decide +kernel
theorem dX12_feed_24 : decode cX12_feed 24 = .ok (.aload_n 0, 1) := by decide +kernel
theorem dX12_feed_25 : decode cX12_feed 25 = .ok (.iload_n 2, 1) := by decide +kernel
theorem dX12_feed_26 : decode cX12_feed 26 = .ok (.invokevirtual 238, 3) := by decide +kernel
theorem dX12_feed_29 : decode cX12_feed 29 = .ok (.aload_n 0, 1) := by decide +kernel
theorem dX12_feed_30 : decode cX12_feed 30 = .ok (.iload_n 3, 1) := by decide +kernel
theorem dX12_feed_31 : decode cX12_feed 31 = .ok (.invokevirtual 238, 3) := by decide +kernel
theorem dX12_feed_34 : decode cX12_feed 34 = .ok (.aload_n 0, 1) := by decide +kernel
theorem dX12_feed_35 : decode cX12_feed 35 = .ok (.iload 4, 2) := by decide +kernel
theorem dX12_feed_37 : decode cX12_feed 37 = .ok (.invokevirtual 238, 3) := by decide +kernel
theorem dX12_feed_40 : decode cX12_feed 40 = .ok (.aload_n 0, 1) := by decide +kernel
theorem dX12_feed_41 : decode cX12_feed 41 = .ok (.iload 5, 2) := by decide +kernel
theorem dX12_feed_43 : decode cX12_feed 43 = .ok (.invokevirtual 238, 3) := by decide +kernel
theorem dX12_feed_46 : decode cX12_feed 46 = .ok (.aload_n 0, 1) := by decide +kernel
theorem dX12_feed_47 : decode cX12_feed 47 = .ok (.getfield 13, 3) := by decide +kernel
theorem dX12_feed_50 : decode cX12_feed 50 = .ok (.ireturn, 1) := by decide +kernel
noncomputable def tX12_feed_0 : List (Nat × zF) := [(0, (zla4 0 1)), (1, (zgf 12 1)), (4, (zst 2 (zp (.int (20))))), (6, (zst 1 z_iadd)), (7, (zst 3 (zp (.int (1600))))), (10, (z_ic_le 19)), (13, (zla4 0 1)), (14, (zst 1 (zp (.int (0))))), (15, (zcv 208 1 12)), (18, (zri false)), (19, (zla4 0 1)), (20, (zli4 1 1))]
theorem kX12_feed_0 : ∀ q ∈ tX12_feed_0, zOk zg iX12_feed q.1 q.2 := (z_c (ok_aload_n dX12_feed_0 rfl) (z_c (ok_getf (C := RX12) (T := TX12) (N := 73) rfl (by decide) zinX12 rfl zw_688 dX12_feed_1) (z_c (ok_bipush (v := (20)) dX12_feed_4 (by decide)) (z_c (ok_iadd dX12_feed_6) (z_c (ok_sipush (v := (1600)) dX12_feed_7 (by decide)) (z_c (ok_icmp_le dX12_feed_10 (by decide)) (z_c (ok_aload_n dX12_feed_13 rfl) (z_c (ok_iconst (v := (0)) dX12_feed_14 (by decide)) (z_c (ok_callV zcal_208 (q := (RX12, TX12, 73)) rfl zw_761 zw_762 zw_763 dX12_feed_15) (z_c (ok_ireturn rfl dX12_feed_18) (z_c (ok_aload_n dX12_feed_19 rfl) (z_c (ok_iload_n dX12_feed_20 rfl) z_n))))))))))))
noncomputable def tX12_feed_1 : List (Nat × zF) := [(21, (zcv 166 1 12)), (24, (zla4 0 1)), (25, (zli4 2 1)), (26, (zcv 166 1 12)), (29, (zla4 0 1)), (30, (zli4 3 1)), (31, (zcv 166 1 12)), (34, (zla4 0 1)), (35, (zli4 4 2)), (37, (zcv 166 1 12)), (40, (zla4 0 1)), (41, (zli4 5 2))]
theorem kX12_feed_1 : ∀ q ∈ tX12_feed_1, zOk zg iX12_feed q.1 q.2 := (z_c (ok_callV zcal_166 (q := (RX12, TX12, 73)) rfl zw_764 zw_765 zw_766 dX12_feed_21) (z_c (ok_aload_n dX12_feed_24 rfl) (z_c (ok_iload_n dX12_feed_25 rfl) (z_c (ok_callV zcal_166 (q := (RX12, TX12, 73)) rfl zw_764 zw_765 zw_766 dX12_feed_26) (z_c (ok_aload_n dX12_feed_29 rfl) (z_c (ok_iload_n dX12_feed_30 rfl) (z_c (ok_callV zcal_166 (q := (RX12, TX12, 73)) rfl zw_764 zw_765 zw_766 dX12_feed_31) (z_c (ok_aload_n dX12_feed_34 rfl) (z_c (ok_iload dX12_feed_35) (z_c (ok_callV zcal_166 (q := (RX12, TX12, 73)) rfl zw_764 zw_765 zw_766 dX12_feed_37) (z_c (ok_aload_n dX12_feed_40 rfl) (z_c (ok_iload dX12_feed_41) z_n))))))))))))
noncomputable def tX12_feed_2 : List (Nat × zF) := [(43, (zcv 166 1 12)), (46, (zla4 0 1)), (47, (zgf 12 1)), (50, (zri false))]
theorem kX12_feed_2 : ∀ q ∈ tX12_feed_2, zOk zg iX12_feed q.1 q.2 := (z_c (ok_callV zcal_166 (q := (RX12, TX12, 73)) rfl zw_764 zw_765 zw_766 dX12_feed_43) (z_c (ok_aload_n dX12_feed_46 rfl) (z_c (ok_getf (C := RX12) (T := TX12) (N := 73) rfl (by decide) zinX12 rfl zw_688 dX12_feed_47) (z_c (ok_ireturn rfl dX12_feed_50) z_n))))
noncomputable def tX12_feed : zT := [(21, tX12_feed_0), (43, tX12_feed_1), (100000, tX12_feed_2)]
theorem kX12_feed : zTok zg iX12_feed tX12_feed := (z_t kX12_feed_0 (z_t kX12_feed_1 (z_t kX12_feed_2 z_tn)))
