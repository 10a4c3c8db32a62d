theorem dX12_end_0 : decode cX12_end 0 = .ok (.iload_n 1, 1) := by decide +kernel
theorem dX12_end_1 : decode cX12_end 1 = .ok (.ifCond .lt 11, 3) := by decide +kernel
theorem dX12_end_4 : decode cX12_end 4 = .ok (.iload_n 1, 1) := by decide +kernel
theorem dX12_end_5 : decode cX12_end 5 = .ok (.aload_n 0, 1) := by decide +kernel
theorem dX12_end_6 : decode cX12_end 6 = .ok (.getfield 13, 3) := by decide +kernel
theorem dX12_end_9 : decode cX12_end 9 = .ok (.if_icmp .le 17, 3) := by decide +kernel
theorem dX12_end_12 : decode cX12_end 12 = .ok (.aload_n 0, 1) := by decide +kernel
theorem dX12_end_13 : decode cX12_end 13 = .ok (.iconst 0, 1) := by decide +kernel
theorem dX12_end_14 : decode cX12_end 14 = .ok (.invokevirtual 234, 3) := by decide +kernel
theorem dX12_end_17 : decode cX12_end 17 = .ok (.ifCond .lt 7, 3) := by decide +kernel
theorem dX12_end_20 : decode cX12_end 20 = .ok (.iconst 1, 1) := by decide +kernel
theorem dX12_end_21 : decode cX12_end 21 = .ok (.goto 4, 3) := by decide +kernel
theorem dX12_end_24 : decode cX12_end 24 = .ok (.iconst 0, 1) := by decide +kernel
theorem dX12_end_25 : decode cX12_end 25 = .ok (.ireturn, 1) := by decide +kernel
theorem dX12_end_26 : decode cX12_end 26 = .ok (.aload_n 0, 1) := by decide +kernel
theorem dX12_end_27 : decode cX12_end 27 = .ok (.iload_n 1, 1) := by decide +kernel
theorem dX12_end_28 : decode cX12_end 28 = .ok (.putfield 13, 3) := by decide +kernel
theorem dX12_end_31 : decode cX12_end 31 = .ok (.iconst 1, 1) := by decide +kernel
theorem dX12_end_32 : decode cX12_end 32 = .ok (.ireturn, 1) := by decide +kernel
noncomputable def tX12_end_0 : List (Nat × zF) := [(0, (zli4 1 1)), (1, (z_if_lt 12)), (4, (zli4 1 1)), (5, (zla4 0 1)), (6, (zgf 12 1)), (9, (z_ic_le 26)), (12, (zla4 0 1)), (13, (zst 1 (zp (.int (0))))), (14, (zcv 208 1 12)), (17, (z_if_lt 24)), (20, (zst 1 (zp (.int (1))))), (21, (zgt 25))]
theorem kX12_end_0 : ∀ q ∈ tX12_end_0, zOk zg iX12_end q.1 q.2 := (z_c (ok_iload_n dX12_end_0 rfl) (z_c (ok_if_lt dX12_end_1 (by decide)) (z_c (ok_iload_n dX12_end_4 rfl) (z_c (ok_aload_n dX12_end_5 rfl) (z_c (ok_getf (C := RX12) (T := TX12) (N := 73) rfl (by decide) zinX12 rfl zw_688 dX12_end_6) (z_c (ok_icmp_le dX12_end_9 (by decide)) (z_c (ok_aload_n dX12_end_12 rfl) (z_c (ok_iconst (v := (0)) dX12_end_13 (by decide)) (z_c (ok_callV zcal_208 (q := (RX12, TX12, 73)) rfl zw_761 zw_762 zw_763 dX12_end_14) (z_c (ok_if_lt dX12_end_17 (by decide)) (z_c (ok_iconst (v := (1)) dX12_end_20 (by decide)) (z_c (ok_goto dX12_end_21 (by decide)) z_n))))))))))))
noncomputable def tX12_end_1 : List (Nat × zF) := [(24, (zst 1 (zp (.int (0))))), (25, (zri true)), (26, (zla4 0 1)), (27, (zli4 1 1)), (28, (zpf 12 1 (.int))), (31, (zst 1 (zp (.int (1))))), (32, (zri true))]
theorem kX12_end_1 : ∀ q ∈ tX12_end_1, zOk zg iX12_end q.1 q.2 := (z_c (ok_iconst (v := (0)) dX12_end_24 (by decide)) (z_c (ok_zreturn rfl dX12_end_25) (z_c (ok_aload_n dX12_end_26 rfl) (z_c (ok_iload_n dX12_end_27 rfl) (z_c (ok_putf (C := RX12) (T := TX12) (N := 73) false tyX12 tyX12_ok nmX12 rfl (by decide) zinX12 rfl zw_688 rfl (fun h => absurd h (by decide)) rfl dX12_end_28) (z_c (ok_iconst (v := (1)) dX12_end_31 (by decide)) (z_c (ok_zreturn rfl dX12_end_32) z_n)))))))
noncomputable def tX12_end : zT := [(24, tX12_end_0), (100000, tX12_end_1)]
theorem kX12_end : zTok zg iX12_end tX12_end := (z_t kX12_end_0 (z_t kX12_end_1 z_tn))
theorem dX12_blame_0 : decode cX12_blame 0 = .ok (.aload_n 0, 1) := by decide +kernel
theorem dX12_blame_1 : decode cX12_blame 1 = .ok (.getfield 36, 3) := by decide +kernel
theorem dX12_blame_4 : decode cX12_blame 4 = .ok (.ifCond .le 4, 3) := by decide +kernel
theorem dX12_blame_7 : decode cX12_blame 7 = .ok (.return_, 1) := by decide +kernel
theorem dX12_blame_8 : decode cX12_blame 8 = .ok (.aload_n 0, 1) := by decide +kernel
theorem dX12_blame_9 : decode cX12_blame 9 = .ok (.iload_n 1, 1) := by decide +kernel
theorem dX12_blame_10 : decode cX12_blame 10 = .ok (.putfield 36, 3) := by decide +kernel
theorem dX12_blame_13 : decode cX12_blame 13 = .ok (.aload_n 0, 1) := by decide +kernel
theorem dX12_blame_14 : decode cX12_blame 14 = .ok (.iload_n 2, 1) := by decide +kernel
theorem dX12_blame_15 : decode cX12_blame 15 = .ok (.putfield 39, 3) := by decide +kernel
theorem dX12_blame_18 : decode cX12_blame 18 = .ok (.return_, 1) := by decide +kernel
noncomputable def tX12_blame_0 : List (Nat × zF) := [(0, (zla4 0 1)), (1, (zgf 12 8)), (4, (z_if_le 8)), (7, zrv), (8, (zla4 0 1)), (9, (zli4 1 1)), (10, (zpf 12 8 (.int))), (13, (zla4 0 1)), (14, (zli4 2 1)), (15, (zpf 12 9 (.int))), (18, zrv)]
theorem kX12_blame_0 : ∀ q ∈ tX12_blame_0, zOk zg iX12_blame q.1 q.2 := (z_c (ok_aload_n dX12_blame_0 rfl) (z_c (ok_getf (C := RX12) (T := TX12) (N := 73) rfl (by decide) zinX12 rfl zw_695 dX12_blame_1) (z_c (ok_if_le dX12_blame_4 (by decide)) (z_c (ok_return rfl dX12_blame_7) (z_c (ok_aload_n dX12_blame_8 rfl) (z_c (ok_iload_n dX12_blame_9 rfl) (z_c (ok_putf (C := RX12) (T := TX12) (N := 73) false tyX12 tyX12_ok nmX12 rfl (by decide) zinX12 rfl zw_695 rfl (fun h => absurd h (by decide)) rfl dX12_blame_10) (z_c (ok_aload_n dX12_blame_13 rfl) (z_c (ok_iload_n dX12_blame_14 rfl) (z_c (ok_putf (C := RX12) (T := TX12) (N := 73) false tyX12 tyX12_ok nmX12 rfl (by decide) zinX12 rfl zw_696 rfl (fun h => absurd h (by decide)) rfl dX12_blame_15) (z_c (ok_return rfl dX12_blame_18) z_n)))))))))))
noncomputable def tX12_blame : zT := [(100000, tX12_blame_0)]
theorem kX12_blame : zTok zg iX12_blame tX12_blame := (z_t kX12_blame_0 z_tn)
theorem dX12_isLetter_0 : decode cX12_isLetter 0 = .ok (.iload_n 0, 1) := by decide +kernel
theorem dX12_isLetter_1 : decode cX12_isLetter 1 = .ok (.bipush 97, 2) := by decide +kernel
theorem dX12_isLetter_3 : decode cX12_isLetter 3 = .ok (.if_icmp .lt 13, 3) := by decide +kernel
theorem dX12_isLetter_6 : decode cX12_isLetter 6 = .ok (.iload_n 0, 1) := by decide +kernel
theorem dX12_isLetter_7 : decode cX12_isLetter 7 = .ok (.bipush 122, 2) := by decide +kernel
theorem dX12_isLetter_9 : decode cX12_isLetter 9 = .ok (.if_icmp .gt 7, 3) := by decide +kernel
theorem dX12_isLetter_12 : decode cX12_isLetter 12 = .ok (.iconst 1, 1) := by decide +kernel
theorem dX12_isLetter_13 : decode cX12_isLetter 13 = .ok (.goto 4, 3) := by decide +kernel
theorem dX12_isLetter_16 : decode cX12_isLetter 16 = .ok (.iconst 0, 1) := by decide +kernel
theorem dX12_isLetter_17 : decode cX12_isLetter 17 = .ok (.ireturn, 1) := by decide +kernel
noncomputable def tX12_isLetter_0 : List (Nat × zF) := [(0, (zli4 0 1)), (1, (zst 2 (zp (.int (97))))), (3, (z_ic_lt 16)), (6, (zli4 0 1)), (7, (zst 2 (zp (.int (122))))), (9, (z_ic_gt 16)), (12, (zst 1 (zp (.int (1))))), (13, (zgt 17)), (16, (zst 1 (zp (.int (0))))), (17, (zri true))]
theorem kX12_isLetter_0 : ∀ q ∈ tX12_isLetter_0, zOk zg iX12_isLetter q.1 q.2 := (z_c (ok_iload_n dX12_isLetter_0 rfl) (z_c (ok_bipush (v := (97)) dX12_isLetter_1 (by decide)) (z_c (ok_icmp_lt dX12_isLetter_3 (by decide)) (z_c (ok_iload_n dX12_isLetter_6 rfl) (z_c (ok_bipush (v := (122)) dX12_isLetter_7 (by decide)) (z_c (ok_icmp_gt dX12_isLetter_9 (by decide)) (z_c (ok_iconst (v := (1)) dX12_isLetter_12 (by decide)) (z_c (ok_goto dX12_isLetter_13 (by decide)) (z_c (ok_iconst (v := (0)) dX12_isLetter_16 (by decide)) (z_c (ok_zreturn rfl dX12_isLetter_17) z_n))))))))))
noncomputable def tX12_isLetter : zT := [(100000, tX12_isLetter_0)]
theorem kX12_isLetter : zTok zg iX12_isLetter tX12_isLetter := (z_t kX12_isLetter_0 z_tn)
theorem dX12_isDigit_0 : decode cX12_isDigit 0 = .ok (.iload_n 0, 1) := by decide +kernel
theorem dX12_isDigit_1 : decode cX12_isDigit 1 = .ok (.bipush 48, 2) := by decide +kernel
theorem dX12_isDigit_3 : decode cX12_isDigit 3 = .ok (.if_icmp .lt 13, 3) := by decide +kernel
theorem dX12_isDigit_6 : decode cX12_isDigit 6 = .ok (.iload_n 0, 1) := by decide +kernel
theorem dX12_isDigit_7 : decode cX12_isDigit 7 = .ok (.bipush 57, 2) := by decide +kernel
theorem dX12_isDigit_9 : decode cX12_isDigit 9 = .ok (.if_icmp .gt 7, 3) := by decide +kernel
theorem dX12_isDigit_12 : decode cX12_isDigit 12 = .ok (.iconst 1, 1) := by decide +kernel
theorem dX12_isDigit_13 : decode cX12_isDigit 13 = .ok (.goto 4, 3) := by decide +kernel
theorem dX12_isDigit_16 : decode cX12_isDigit 16 = .ok (.iconst 0, 1) := by decide +kernel
theorem dX12_isDigit_17 : decode cX12_isDigit 17 = .ok (.ireturn, 1) := by decide +kernel
noncomputable def tX12_isDigit_0 : List (Nat × zF) := [(0, (zli4 0 1)), (1, (zst 2 (zp (.int (48))))), (3, (z_ic_lt 16)), (6, (zli4 0 1)), (7, (zst 2 (zp (.int (57))))), (9, (z_ic_gt 16)), (12, (zst 1 (zp (.int (1))))), (13, (zgt 17)), (16, (zst 1 (zp (.int (0))))), (17, (zri true))]
theorem kX12_isDigit_0 : ∀ q ∈ tX12_isDigit_0, zOk zg iX12_isDigit q.1 q.2 := (z_c (ok_iload_n dX12_isDigit_0 rfl) (z_c (ok_bipush (v := (48)) dX12_isDigit_1 (by decide)) (z_c (ok_icmp_lt dX12_isDigit_3 (by decide)) (z_c (ok_iload_n dX12_isDigit_6 rfl) (z_c (ok_bipush (v := (57)) dX12_isDigit_7 (by decide)) (z_c (ok_icmp_gt dX12_isDigit_9 (by decide)) (z_c (ok_iconst (v := (1)) dX12_isDigit_12 (by decide)) (z_c (ok_goto dX12_isDigit_13 (by decide)) (z_c (ok_iconst (v := (0)) dX12_isDigit_16 (by decide)) (z_c (ok_zreturn rfl dX12_isDigit_17) z_n))))))))))
noncomputable def tX12_isDigit : zT := [(100000, tX12_isDigit_0)]
theorem kX12_isDigit : zTok zg iX12_isDigit tX12_isDigit := (z_t kX12_isDigit_0 z_tn)
theorem dX12_lex_0 : decode cX12_lex 0 = .ok (.aload_n 0, 1) := by decide +kernel
theorem dX12_lex_1 : decode cX12_lex 1 = .ok (.getfield 48, 3) := by decide +kernel
theorem dX12_lex_4 : decode cX12_lex 4 = .ok (.iconst (-1), 1) := by decide +kernel
theorem dX12_lex_5 : decode cX12_lex 5 = .ok (.if_icmp .eq 12, 3) := by decide +kernel
theorem dX12_lex_8 : decode cX12_lex 8 = .ok (.aload_n 0, 1) := by decide +kernel
theorem dX12_lex_9 : decode cX12_lex 9 = .ok (.iconst 1, 1) := by decide +kernel
theorem dX12_lex_10 : decode cX12_lex 10 = .ok (.aload_n 0, 1) := by decide +kernel
theorem dX12_lex_11 : decode cX12_lex 11 = .ok (.getfield 48, 3) := by decide +kernel
theorem dX12_lex_14 : decode cX12_lex 14 = .ok (.invokevirtual 242, 3) := by decide +kernel
theorem dX12_lex_17 : decode cX12_lex 17 = .ok (.return_, 1) := by decide +kernel
noncomputable def tX12_lex_0 : List (Nat × zF) := [(0, (zla4 0 1)), (1, (zgf 12 12)), (4, (zst 1 (zp (.int ((-1)))))), (5, (z_ic_eq 17)), (8, (zla4 0 1)), (9, (zst 1 (zp (.int (1))))), (10, (zla4 0 1)), (11, (zgf 12 12)), (14, (zcv 169 2 12)), (17, zrv)]
theorem kX12_lex_0 : ∀ q ∈ tX12_lex_0, zOk zg iX12_lex q.1 q.2 := (z_c (ok_aload_n dX12_lex_0 rfl) (z_c (ok_getf (C := RX12) (T := TX12) (N := 73) rfl (by decide) zinX12 rfl zw_699 dX12_lex_1) (z_c (ok_iconst (v := (-1)) dX12_lex_4 (by decide)) (z_c (ok_icmp_eq dX12_lex_5 (by decide)) (z_c (ok_aload_n dX12_lex_8 rfl) (z_c (ok_iconst (v := (1)) dX12_lex_9 (by decide)) (z_c (ok_aload_n dX12_lex_10 rfl) (z_c (ok_getf (C := RX12) (T := TX12) (N := 73) rfl (by decide) zinX12 rfl zw_699 dX12_lex_11) (z_c (ok_callV zcal_169 (q := (RX12, TX12, 73)) rfl zw_767 zw_768 zw_769 dX12_lex_14) (z_c (ok_return rfl dX12_lex_17) z_n))))))))))
noncomputable def tX12_lex : zT := [(100000, tX12_lex_0)]
theorem kX12_lex : zTok zg iX12_lex tX12_lex := (z_t kX12_lex_0 z_tn)
theorem dX12_ahead_0 : decode cX12_ahead 0 = .ok (.aload_n 0, 1) := by decide +kernel
theorem dX12_ahead_1 : decode cX12_ahead 1 = .ok (.getfield 26, 3) := by decide +kernel
theorem dX12_ahead_4 : decode cX12_ahead 4 = .ok (.istore_n 1, 1) := by decide +kernel
theorem dX12_ahead_5 : decode cX12_ahead 5 = .ok (.iload_n 1, 1) := by decide +kernel
theorem dX12_ahead_6 : decode cX12_ahead 6 = .ok (.aload_n 0, 1) := by decide +kernel
theorem dX12_ahead_7 : decode cX12_ahead 7 = .ok (.getfield 17, 3) := by decide +kernel
theorem dX12_ahead_10 : decode cX12_ahead 10 = .ok (.if_icmp .ge 31, 3) := by decide +kernel
theorem dX12_ahead_13 : decode cX12_ahead 13 = .ok (.aload_n 0, 1) := by decide +kernel
theorem dX12_ahead_14 : decode cX12_ahead 14 = .ok (.getfield 7, 3) := by decide +kernel
theorem dX12_ahead_17 : decode cX12_ahead 17 = .ok (.iload_n 1, 1) := by decide +kernel
theorem dX12_ahead_18 : decode cX12_ahead 18 = .ok (.iaload, 1) := by decide +kernel
theorem dX12_ahead_19 : decode cX12_ahead 19 = .ok (.bipush 32, 2) := by decide +kernel
theorem dX12_ahead_21 : decode cX12_ahead 21 = .ok (.if_icmp .eq 14, 3) := by decide +kernel
theorem dX12_ahead_24 : decode cX12_ahead 24 = .ok (.aload_n 0, 1) := by decide +kernel
theorem dX12_ahead_25 : decode cX12_ahead 25 = .ok (.getfield 7, 3) := by decide +kernel
theorem dX12_ahead_28 : decode cX12_ahead 28 = .ok (.iload_n 1, 1) := by decide +kernel
theorem dX12_ahead_29 : decode cX12_ahead 29 = .ok (.iaload, 1) := by decide +kernel
theorem dX12_ahead_30 : decode cX12_ahead 30 = .ok (.bipush 10, 2) := by decide +kernel
theorem dX12_ahead_32 : decode cX12_ahead 32 = .ok (.if_icmp .ne 9, 3) := by decide +kernel
theorem dX12_ahead_35 : decode cX12_ahead 35 = .ok (.iinc 1 1, 3) := by decide +kernel
theorem dX12_ahead_38 : decode cX12_ahead 38 = .ok (.goto (-33), 3) := by decide +kernel
theorem dX12_ahead_41 : decode cX12_ahead 41 = .ok (.aload_n 0, 1) := by decide +kernel
theorem dX12_ahead_42 : decode cX12_ahead 42 = .ok (.iload_n 1, 1) := by decide +kernel
theorem dX12_ahead_43 : decode cX12_ahead 43 = .ok (.putfield 23, 3) := by decide +kernel
theorem dX12_ahead_46 : decode cX12_ahead 46 = .ok (.aload_n 0, 1) := by decide +kernel
theorem dX12_ahead_47 : decode cX12_ahead 47 = .ok (.iload_n 1, 1) := by decide +kernel
theorem dX12_ahead_48 : decode cX12_ahead 48 = .ok (.putfield 26, 3) := by decide +kernel
theorem dX12_ahead_51 : decode cX12_ahead 51 = .ok (.aload_n 0, 1) := by decide +kernel
theorem dX12_ahead_52 : decode cX12_ahead 52 = .ok (.iconst 0, 1) := by decide +kernel
theorem dX12_ahead_53 : decode cX12_ahead 53 = .ok (.putfield 20, 3) := by decide +kernel
theorem dX12_ahead_56 : decode cX12_ahead 56 = .ok (.aload_n 0, 1) := by decide +kernel
theorem dX12_ahead_57 : decode cX12_ahead 57 = .ok (.iconst (-1), 1) := by decide +kernel
theorem dX12_ahead_58 : decode cX12_ahead 58 = .ok (.putfield 48, 3) := by decide +kernel
theorem dX12_ahead_61 : decode cX12_ahead 61 = .ok (.iload_n 1, 1) := by decide +kernel
theorem dX12_ahead_62 : decode cX12_ahead 62 = .ok (.aload_n 0, 1) := by decide +kernel
theorem dX12_ahead_63 : decode cX12_ahead 63 = .ok (.getfield 17, 3) := by decide +kernel
theorem dX12_ahead_66 : decode cX12_ahead 66 = .ok (.if_icmp .lt 4, 3) := by decide +kernel
theorem dX12_ahead_69 : decode cX12_ahead 69 = .ok (.return_, 1) := by decide +kernel
theorem dX12_ahead_70 : decode cX12_ahead 70 = .ok (.aload_n 0, 1) := by decide +kernel
theorem dX12_ahead_71 : decode cX12_ahead 71 = .ok (.getfield 7, 3) := by decide +kernel
theorem dX12_ahead_74 : decode cX12_ahead 74 = .ok (.iload_n 1, 1) := by decide +kernel
theorem dX12_ahead_75 : decode cX12_ahead 75 = .ok (.iaload, 1) := by decide +kernel
theorem dX12_ahead_76 : decode cX12_ahead 76 = .ok (.invokestatic 246, 3) := by decide +kernel
theorem dX12_ahead_79 : decode cX12_ahead 79 = .ok (.istore_n 2, 1) := by decide +kernel
theorem dX12_ahead_80 : decode cX12_ahead 80 = .ok (.aload_n 0, 1) := by decide +kernel
theorem dX12_ahead_81 : decode cX12_ahead 81 = .ok (.getfield 7, 3) := by decide +kernel
theorem dX12_ahead_84 : decode cX12_ahead 84 = .ok (.iload_n 1, 1) := by decide +kernel
theorem dX12_ahead_85 : decode cX12_ahead 85 = .ok (.iaload, 1) := by decide +kernel
theorem dX12_ahead_86 : decode cX12_ahead 86 = .ok (.invokestatic 250, 3) := by decide +kernel
theorem dX12_ahead_89 : decode cX12_ahead 89 = .ok (.istore_n 3, 1) := by decide +kernel
theorem dX12_ahead_90 : decode cX12_ahead 90 = .ok (.iload_n 2, 1) := by decide +kernel
theorem dX12_ahead_91 : decode cX12_ahead 91 = .ok (.ifCond .ne 7, 3) := by decide +kernel
theorem dX12_ahead_94 : decode cX12_ahead 94 = .ok (.iload_n 3, 1) := by decide +kernel
theorem dX12_ahead_95 : decode cX12_ahead 95 = .ok (.ifCond .eq 40, 3) := by decide +kernel
theorem dX12_ahead_98 : decode cX12_ahead 98 = .ok (.iload_n 1, 1) := by decide +kernel
theorem dX12_ahead_99 : decode cX12_ahead 99 = .ok (.ifCond .le 36, 3) := by decide +kernel
theorem dX12_ahead_102 : decode cX12_ahead 102 = .ok (.aload_n 0, 1) := by decide +kernel
theorem dX12_ahead_103 : decode cX12_ahead 103 = .ok (.getfield 7, 3) := by decide +kernel
theorem dX12_ahead_106 : decode cX12_ahead 106 = .ok (.iload_n 1, 1) := by decide +kernel
theorem dX12_ahead_107 : decode cX12_ahead 107 = .ok (.iconst 1, 1) := by decide +kernel
theorem dX12_ahead_108 : decode cX12_ahead 108 = .ok (.isub, 1) := by decide +kernel
theorem dX12_ahead_109 : decode cX12_ahead 109 = .ok (.iaload, 1) := by decide +kernel
theorem dX12_ahead_110 : decode cX12_ahead 110 = .ok (.invokestatic 246, 3) := by decide +kernel
theorem dX12_ahead_113 : decode cX12_ahead 113 = .ok (.ifCond .ne 17, 3) := by decide +kernel
theorem dX12_ahead_116 : decode cX12_ahead 116 = .ok (.aload_n 0, 1) := by decide +kernel
theorem dX12_ahead_117 : decode cX12_ahead 117 = .ok (.getfield 7, 3) := by decide +kernel
theorem dX12_ahead_120 : decode cX12_ahead 120 = .ok (.iload_n 1, 1) := by decide +kernel
theorem dX12_ahead_121 : decode cX12_ahead 121 = .ok (.iconst 1, 1) := by decide +kernel
theorem dX12_ahead_122 : decode cX12_ahead 122 = .ok (.isub, 1) := by decide +kernel
theorem dX12_ahead_123 : decode cX12_ahead 123 = .ok (.iaload, 1) := by decide +kernel
theorem dX12_ahead_124 : decode cX12_ahead 124 = .ok (.invokestatic 250, 3) := by decide +kernel
theorem dX12_ahead_127 : decode cX12_ahead 127 = .ok (.ifCond .eq 8, 3) := by decide +kernel
theorem dX12_ahead_130 : decode cX12_ahead 130 = .ok (.aload_n 0, 1) := by decide +kernel
theorem dX12_ahead_131 : decode cX12_ahead 131 = .ok (.iload_n 1, 1) := by decide +kernel
theorem dX12_ahead_132 : decode cX12_ahead 132 = .ok (.putfield 48, 3) := by decide +kernel
theorem dX12_ahead_135 : decode cX12_ahead 135 = .ok (.aload_n 0, 1) := by decide +kernel
theorem dX12_ahead_136 : decode cX12_ahead 136 = .ok (.iconst 0, 1) := by decide +kernel
theorem dX12_ahead_137 : decode cX12_ahead 137 = .ok (.putfield 29, 3) := by decide +kernel
theorem dX12_ahead_140 : decode cX12_ahead 140 = .ok (.aload_n 0, 1) := by decide +kernel
theorem dX12_ahead_141 : decode cX12_ahead 141 = .ok (.lconst 0, 1) := by decide +kernel
theorem dX12_ahead_142 : decode cX12_ahead 142 = .ok (.putfield 32, 3) := by decide +kernel
theorem dX12_ahead_145 : decode cX12_ahead 145 = .ok (.aload_n 0, 1) := by decide +kernel
theorem dX12_ahead_146 : decode cX12_ahead 146 = .ok (.iconst 3, 1) := by decide +kernel
theorem dX12_ahead_147 : decode cX12_ahead 147 = .ok (.putfield 20, 3) := by decide +kernel
theorem dX12_ahead_150 : decode cX12_ahead 150 = .ok (.aload_n 0, 1) := by decide +kernel
theorem dX12_ahead_151 : decode cX12_ahead 151 = .ok (.iload_n 1, 1) := by decide +kernel
theorem dX12_ahead_152 : decode cX12_ahead 152 = .ok (.iconst 1, 1) := by decide +kernel
theorem dX12_ahead_153 : decode cX12_ahead 153 = .ok (.iadd, 1) := by decide +kernel
theorem dX12_ahead_154 : decode cX12_ahead 154 = .ok (.putfield 26, 3) := by decide +kernel
theorem dX12_ahead_157 : decode cX12_ahead 157 = .ok (.iload_n 2, 1) := by decide +kernel
theorem dX12_ahead_158 : decode cX12_ahead 158 = .ok (.ifCond .ne 18, 3) := by decide +kernel
theorem dX12_ahead_161 : decode cX12_ahead 161 = .ok (.iload_n 3, 1) := by decide +kernel
theorem dX12_ahead_162 : decode cX12_ahead 162 = .ok (.ifCond .ne 14, 3) := by decide +kernel
theorem dX12_ahead_165 : decode cX12_ahead 165 = .ok (.aload_n 0, 1) := by decide +kernel
theorem dX12_ahead_166 : decode cX12_ahead 166 = .ok (.aload_n 0, 1) := by decide +kernel
theorem dX12_ahead_167 : decode cX12_ahead 167 = .ok (.getfield 7, 3) := by decide +kernel
theorem dX12_ahead_170 : decode cX12_ahead 170 = .ok (.iload_n 1, 1) := by decide +kernel
theorem dX12_ahead_171 : decode cX12_ahead 171 = .ok (.iaload, 1) := by decide +kernel
theorem dX12_ahead_172 : decode cX12_ahead 172 = .ok (.putfield 29, 3) := by decide +kernel
theorem dX12_ahead_175 : decode cX12_ahead 175 = .ok (.return_, 1) := by decide +kernel
theorem dX12_ahead_176 : decode cX12_ahead 176 = .ok (.aload_n 0, 1) := by decide +kernel
theorem dX12_ahead_177 : decode cX12_ahead 177 = .ok (.iload_n 2, 1) := by decide +kernel
theorem dX12_ahead_178 : decode cX12_ahead 178 = .ok (.ifCond .eq 7, 3) := by decide +kernel
theorem dX12_ahead_181 : decode cX12_ahead 181 = .ok (.iconst 1, 1) := by decide +kernel
theorem dX12_ahead_182 : decode cX12_ahead 182 = .ok (.goto 4, 3) := by decide +kernel
theorem dX12_ahead_185 : decode cX12_ahead 185 = .ok (.iconst 2, 1) := by decide +kernel
theorem dX12_ahead_186 : decode cX12_ahead 186 = .ok (.putfield 20, 3) := by decide +kernel
theorem dX12_ahead_189 : decode cX12_ahead 189 = .ok (.iload_n 2, 1) := by decide +kernel
theorem dX12_ahead_190 : decode cX12_ahead 190 = .ok (.ifCond .eq 8, 3) := by decide +kernel
theorem dX12_ahead_193 : decode cX12_ahead 193 = .ok (.bipush 6, 2) := by decide +kernel
theorem dX12_ahead_195 : decode cX12_ahead 195 = .ok (.goto 4, 3) := by decide +kernel
theorem dX12_ahead_198 : decode cX12_ahead 198 = .ok (.iconst 4, 1) := by decide +kernel
theorem dX12_ahead_199 : decode cX12_ahead 199 = .ok (.istore 4, 2) := by decide +kernel
theorem dX12_ahead_201 : decode cX12_ahead 201 = .ok (.iconst 0, 1) := by decide +kernel
theorem dX12_ahead_202 : decode cX12_ahead 202 = .ok (.istore 5, 2) := by decide +kernel
theorem dX12_ahead_204 : decode cX12_ahead 204 = .ok (.iload_n 1, 1) := by decide +kernel
theorem dX12_ahead_205 : decode cX12_ahead 205 = .ok (.aload_n 0, 1) := by decide +kernel
theorem dX12_ahead_206 : decode cX12_ahead 206 = .ok (.getfield 17, 3) := by decide +kernel
theorem dX12_ahead_209 : decode cX12_ahead 209 = .ok (.if_icmp .ge 125, 3) := by decide +kernel
theorem dX12_ahead_212 : decode cX12_ahead 212 = .ok (.iload_n 2, 1) := by decide +kernel
theorem dX12_ahead_213 : decode cX12_ahead 213 = .ok (.ifCond .eq 18, 3) := by decide +kernel
theorem dX12_ahead_216 : decode cX12_ahead 216 = .ok (.aload_n 0, 1) := by decide +kernel
theorem dX12_ahead_217 : decode cX12_ahead 217 = .ok (.getfield 7, 3) := by decide +kernel
theorem dX12_ahead_220 : decode cX12_ahead 220 = .ok (.iload_n 1, 1) := by decide +kernel
theorem dX12_ahead_221 : decode cX12_ahead 221 = .ok (.iaload, 1) := by decide +kernel
theorem dX12_ahead_222 : decode cX12_ahead 222 = .ok (.invokestatic 246, 3) := by decide +kernel
theorem dX12_ahead_225 : decode cX12_ahead 225 = .ok (.ifCond .eq 109, 3) := by decide +kernel
theorem dX12_ahead_228 : decode cX12_ahead 228 = .ok (.goto 15, 3) := by decide +kernel
theorem dX12_ahead_231 : decode cX12_ahead 231 = .ok (.aload_n 0, 1) := by decide +kernel
theorem dX12_ahead_232 : decode cX12_ahead 232 = .ok (.getfield 7, 3) := by decide +kernel
theorem dX12_ahead_235 : decode cX12_ahead 235 = .ok (.iload_n 1, 1) := by decide +kernel
theorem dX12_ahead_236 : decode cX12_ahead 236 = .ok (.iaload, 1) := by decide +kernel
theorem dX12_ahead_237 : decode cX12_ahead 237 = .ok (.invokestatic 250, 3) := by decide +kernel
theorem dX12_ahead_240 : decode cX12_ahead 240 = .ok (.ifCond .eq 94, 3) := by decide +kernel
theorem dX12_ahead_243 : decode cX12_ahead 243 = .ok (.iload 5, 2) := by decide +kernel
theorem dX12_ahead_245 : decode cX12_ahead 245 = .ok (.iload 4, 2) := by decide +kernel
theorem dX12_ahead_247 : decode cX12_ahead 247 = .ok (.if_icmp .ne 16, 3) := by decide +kernel
theorem dX12_ahead_250 : decode cX12_ahead 250 = .ok (.aload_n 0, 1) := by decide +kernel
theorem dX12_ahead_251 : decode cX12_ahead 251 = .ok (.getfield 48, 3) := by decide +kernel
theorem dX12_ahead_254 : decode cX12_ahead 254 = .ok (.iconst (-1), 1) := by decide +kernel
theorem dX12_ahead_255 : decode cX12_ahead 255 = .ok (.if_icmp .ne 8, 3) := by decide +kernel
theorem dX12_ahead_258 : decode cX12_ahead 258 = .ok (.aload_n 0, 1) := by decide +kernel
theorem dX12_ahead_259 : decode cX12_ahead 259 = .ok (.iload_n 1, 1) := by decide +kernel
theorem dX12_ahead_260 : decode cX12_ahead 260 = .ok (.putfield 48, 3) := by decide +kernel
theorem dX12_ahead_263 : decode cX12_ahead 263 = .ok (.iload 5, 2) := by decide +kernel
theorem dX12_ahead_265 : decode cX12_ahead 265 = .ok (.iload 4, 2) := by decide +kernel
theorem dX12_ahead_267 : decode cX12_ahead 267 = .ok (.if_icmp .ge 26, 3) := by decide +kernel
theorem dX12_ahead_270 : decode cX12_ahead 270 = .ok (.iload_n 2, 1) := by decide +kernel
theorem dX12_ahead_271 : decode cX12_ahead 271 = .ok (.ifCond .eq 22, 3) := by decide +kernel
theorem dX12_ahead_274 : decode cX12_ahead 274 = .ok (.aload_n 0, 1) := by decide +kernel
theorem dX12_ahead_275 : decode cX12_ahead 275 = .ok (.aload_n 0, 1) := by decide +kernel
theorem dX12_ahead_276 : decode cX12_ahead 276 = .ok (.getfield 32, 3) := by decide +kernel
theorem dX12_ahead_279 : decode cX12_ahead 279 = .ok (.bipush 8, 2) := by decide +kernel
theorem dX12_ahead_281 : decode cX12_ahead 281 = .ok (.lshl, 1) := by decide +kernel
theorem dX12_ahead_282 : decode cX12_ahead 282 = .ok (.aload_n 0, 1) := by decide +kernel
theorem dX12_ahead_283 : decode cX12_ahead 283 = .ok (.getfield 7, 3) := by decide +kernel
theorem dX12_ahead_286 : decode cX12_ahead 286 = .ok (.iload_n 1, 1) := by decide +kernel
theorem dX12_ahead_287 : decode cX12_ahead 287 = .ok (.iaload, 1) := by decide +kernel
theorem dX12_ahead_288 : decode cX12_ahead 288 = .ok (.i2l, 1) := by decide +kernel
theorem dX12_ahead_289 : decode cX12_ahead 289 = .ok (.lor, 1) := by decide +kernel
theorem dX12_ahead_290 : decode cX12_ahead 290 = .ok (.putfield 32, 3) := by decide +kernel
theorem dX12_ahead_293 : decode cX12_ahead 293 = .ok (.iload 5, 2) := by decide +kernel
theorem dX12_ahead_295 : decode cX12_ahead 295 = .ok (.iload 4, 2) := by decide +kernel
theorem dX12_ahead_297 : decode cX12_ahead 297 = .ok (.if_icmp .ge 28, 3) := by decide +kernel
theorem dX12_ahead_300 : decode cX12_ahead 300 = .ok (.iload_n 3, 1) := by decide +kernel
theorem dX12_ahead_301 : decode cX12_ahead 301 = .ok (.ifCond .eq 24, 3) := by decide +kernel
theorem dX12_ahead_304 : decode cX12_ahead 304 = .ok (.aload_n 0, 1) := by decide +kernel
theorem dX12_ahead_305 : decode cX12_ahead 305 = .ok (.bipush 10, 2) := by decide +kernel
theorem dX12_ahead_307 : decode cX12_ahead 307 = .ok (.aload_n 0, 1) := by decide +kernel
theorem dX12_ahead_308 : decode cX12_ahead 308 = .ok (.getfield 29, 3) := by decide +kernel
theorem dX12_ahead_311 : decode cX12_ahead 311 = .ok (.imul, 1) := by decide +kernel
theorem dX12_ahead_312 : decode cX12_ahead 312 = .ok (.aload_n 0, 1) := by decide +kernel
theorem dX12_ahead_313 : decode cX12_ahead 313 = .ok (.getfield 7, 3) := by decide +kernel
theorem dX12_ahead_316 : decode cX12_ahead 316 = .ok (.iload_n 1, 1) := by decide +kernel
theorem dX12_ahead_317 : decode cX12_ahead 317 = .ok (.iaload, 1) := by decide +kernel
theorem dX12_ahead_318 : decode cX12_ahead 318 = .ok (.iadd, 1) := by decide +kernel
theorem dX12_ahead_319 : decode cX12_ahead 319 = .ok (.bipush 48, 2) := by decide +kernel
theorem dX12_ahead_321 : decode cX12_ahead 321 = .ok (.isub, 1) := by decide +kernel
theorem dX12_ahead_322 : decode cX12_ahead 322 = .ok (.putfield 29, 3) := by decide +kernel
theorem dX12_ahead_325 : decode cX12_ahead 325 = .ok (.iinc 5 1, 3) := by decide +kernel
theorem dX12_ahead_328 : decode cX12_ahead 328 = .ok (.iinc 1 1, 3) := by decide +kernel
theorem dX12_ahead_331 : decode cX12_ahead 331 = .ok (.goto (-127), 3) := by decide +kernel
theorem dX12_ahead_334 : decode cX12_ahead 334 = .ok (.aload_n 0, 1) := by decide +kernel
theorem dX12_ahead_335 : decode cX12_ahead 335 = .ok (.iload_n 1, 1) := by decide +kernel
theorem dX12_ahead_336 : decode cX12_ahead 336 = .ok (.putfield 26, 3) := by decide +kernel
theorem dX12_ahead_339 : decode cX12_ahead 339 = .ok (.return_, 1) := by decide +kernel
noncomputable def tX12_ahead_0 : List (Nat × zF) := [(0, (zla4 0 1)), (1, (zgf 12 5)), (4, (zsi4 6 1 1)), (5, (zli4 1 1)), (6, (zla4 0 1)), (7, (zgf 12 2)), (10, (z_ic_ge 41)), (13, (zla4 0 1)), (14, (zgf 12 0)), (17, (zli4 1 1)), (18, (zal 0)), (19, (zst 2 (zp (.int (32)))))]
theorem kX12_ahead_0 : ∀ q ∈ tX12_ahead_0, zOk zg iX12_ahead q.1 q.2 := (z_c (ok_aload_n dX12_ahead_0 rfl) (z_c (ok_getf (C := RX12) (T := TX12) (N := 73) rfl (by decide) zinX12 rfl zw_692 dX12_ahead_1) (z_c (ok_istore_n dX12_ahead_4 rfl) (z_c (ok_iload_n dX12_ahead_5 rfl) (z_c (ok_aload_n dX12_ahead_6 rfl) (z_c (ok_getf (C := RX12) (T := TX12) (N := 73) rfl (by decide) zinX12 rfl zw_689 dX12_ahead_7) (z_c (ok_icmp_ge dX12_ahead_10 (by decide)) (z_c (ok_aload_n dX12_ahead_13 rfl) (z_c (ok_getf (C := RX12) (T := TX12) (N := 73) rfl (by decide) zinX12 rfl zw_687 dX12_ahead_14) (z_c (ok_iload_n dX12_ahead_17 rfl) (z_c (ok_iaload rfl dX12_ahead_18) (z_c (ok_bipush (v := (32)) dX12_ahead_19 (by decide)) z_n))))))))))))
noncomputable def tX12_ahead_1 : List (Nat × zF) := [(21, (z_ic_eq 35)), (24, (zla4 0 1)), (25, (zgf 12 0)), (28, (zli4 1 1)), (29, (zal 0)), (30, (zst 2 (zp (.int (10))))), (32, (z_ic_ne 41)), (35, (zin4 6 1 (1))), (38, (zgt 5)), (41, (zla4 0 1)), (42, (zli4 1 1)), (43, (zpf 12 4 (.int)))]
theorem kX12_ahead_1 : ∀ q ∈ tX12_ahead_1, zOk zg iX12_ahead q.1 q.2 := (z_c (ok_icmp_eq dX12_ahead_21 (by decide)) (z_c (ok_aload_n dX12_ahead_24 rfl) (z_c (ok_getf (C := RX12) (T := TX12) (N := 73) rfl (by decide) zinX12 rfl zw_687 dX12_ahead_25) (z_c (ok_iload_n dX12_ahead_28 rfl) (z_c (ok_iaload rfl dX12_ahead_29) (z_c (ok_bipush (v := (10)) dX12_ahead_30 (by decide)) (z_c (ok_icmp_ne dX12_ahead_32 (by decide)) (z_c (ok_iinc (v := (1)) dX12_ahead_35 (by decide)) (z_c (ok_goto dX12_ahead_38 (by decide)) (z_c (ok_aload_n dX12_ahead_41 rfl) (z_c (ok_iload_n dX12_ahead_42 rfl) (z_c (ok_putf (C := RX12) (T := TX12) (N := 73) false tyX12 tyX12_ok nmX12 rfl (by decide) zinX12 rfl zw_691 rfl (fun h => absurd h (by decide)) rfl dX12_ahead_43) z_n))))))))))))
noncomputable def tX12_ahead_2 : List (Nat × zF) := [(46, (zla4 0 1)), (47, (zli4 1 1)), (48, (zpf 12 5 (.int))), (51, (zla4 0 1)), (52, (zst 1 (zp (.int (0))))), (53, (zpf 12 3 (.int))), (56, (zla4 0 1)), (57, (zst 1 (zp (.int ((-1)))))), (58, (zpf 12 12 (.int))), (61, (zli4 1 1)), (62, (zla4 0 1)), (63, (zgf 12 2))]
theorem kX12_ahead_2 : ∀ q ∈ tX12_ahead_2, zOk zg iX12_ahead q.1 q.2 := (z_c (ok_aload_n dX12_ahead_46 rfl) (z_c (ok_iload_n dX12_ahead_47 rfl) (z_c (ok_putf (C := RX12) (T := TX12) (N := 73) false tyX12 tyX12_ok nmX12 rfl (by decide) zinX12 rfl zw_692 rfl (fun h => absurd h (by decide)) rfl dX12_ahead_48) (z_c (ok_aload_n dX12_ahead_51 rfl) (z_c (ok_iconst (v := (0)) dX12_ahead_52 (by decide)) (z_c (ok_putf (C := RX12) (T := TX12) (N := 73) false tyX12 tyX12_ok nmX12 rfl (by decide) zinX12 rfl zw_690 rfl (fun h => absurd h (by decide)) rfl dX12_ahead_53) (z_c (ok_aload_n dX12_ahead_56 rfl) (z_c (ok_iconst (v := (-1)) dX12_ahead_57 (by decide)) (z_c (ok_putf (C := RX12) (T := TX12) (N := 73) false tyX12 tyX12_ok nmX12 rfl (by decide) zinX12 rfl zw_699 rfl (fun h => absurd h (by decide)) rfl dX12_ahead_58) (z_c (ok_iload_n dX12_ahead_61 rfl) (z_c (ok_aload_n dX12_ahead_62 rfl) (z_c (ok_getf (C := RX12) (T := TX12) (N := 73) rfl (by decide) zinX12 rfl zw_689 dX12_ahead_63) z_n))))))))))))
noncomputable def tX12_ahead_3 : List (Nat × zF) := [(66, (z_ic_lt 70)), (69, zrv), (70, (zla4 0 1)), (71, (zgf 12 0)), (74, (zli4 1 1)), (75, (zal 0)), (76, (zcs 170 1)), (79, (zsi4 6 2 1)), (80, (zla4 0 1)), (81, (zgf 12 0)), (84, (zli4 1 1)), (85, (zal 0))]
theorem kX12_ahead_3 : ∀ q ∈ tX12_ahead_3, zOk zg iX12_ahead q.1 q.2 := (z_c (ok_icmp_lt dX12_ahead_66 (by decide)) (z_c (ok_return rfl dX12_ahead_69) (z_c (ok_aload_n dX12_ahead_70 rfl) (z_c (ok_getf (C := RX12) (T := TX12) (N := 73) rfl (by decide) zinX12 rfl zw_687 dX12_ahead_71) (z_c (ok_iload_n dX12_ahead_74 rfl) (z_c (ok_iaload rfl dX12_ahead_75) (z_c (ok_callS zcal_170 zw_770 zw_771 dX12_ahead_76) (z_c (ok_istore_n dX12_ahead_79 rfl) (z_c (ok_aload_n dX12_ahead_80 rfl) (z_c (ok_getf (C := RX12) (T := TX12) (N := 73) rfl (by decide) zinX12 rfl zw_687 dX12_ahead_81) (z_c (ok_iload_n dX12_ahead_84 rfl) (z_c (ok_iaload rfl dX12_ahead_85) z_n))))))))))))
noncomputable def tX12_ahead_4 : List (Nat × zF) := [(86, (zcs 171 1)), (89, (zsi4 6 3 1)), (90, (zli4 2 1)), (91, (z_if_ne 98)), (94, (zli4 3 1)), (95, (z_if_eq 135)), (98, (zli4 1 1)), (99, (z_if_le 135)), (102, (zla4 0 1)), (103, (zgf 12 0)), (106, (zli4 1 1)), (107, (zst 1 (zp (.int (1)))))]
theorem kX12_ahead_4 : ∀ q ∈ tX12_ahead_4, zOk zg iX12_ahead q.1 q.2 := (z_c (ok_callS zcal_171 zw_772 zw_773 dX12_ahead_86) (z_c (ok_istore_n dX12_ahead_89 rfl) (z_c (ok_iload_n dX12_ahead_90 rfl) (z_c (ok_if_ne dX12_ahead_91 (by decide)) (z_c (ok_iload_n dX12_ahead_94 rfl) (z_c (ok_if_eq dX12_ahead_95 (by decide)) (z_c (ok_iload_n dX12_ahead_98 rfl) (z_c (ok_if_le dX12_ahead_99 (by decide)) (z_c (ok_aload_n dX12_ahead_102 rfl) (z_c (ok_getf (C := RX12) (T := TX12) (N := 73) rfl (by decide) zinX12 rfl zw_687 dX12_ahead_103) (z_c (ok_iload_n dX12_ahead_106 rfl) (z_c (ok_iconst (v := (1)) dX12_ahead_107 (by decide)) z_n))))))))))))
noncomputable def tX12_ahead_5 : List (Nat × zF) := [(108, (zst 1 z_isub)), (109, (zal 0)), (110, (zcs 170 1)), (113, (z_if_ne 130)), (116, (zla4 0 1)), (117, (zgf 12 0)), (120, (zli4 1 1)), (121, (zst 1 (zp (.int (1))))), (122, (zst 1 z_isub)), (123, (zal 0)), (124, (zcs 171 1)), (127, (z_if_eq 135))]
theorem kX12_ahead_5 : ∀ q ∈ tX12_ahead_5, zOk zg iX12_ahead q.1 q.2 := (z_c (ok_isub dX12_ahead_108) (z_c (ok_iaload rfl dX12_ahead_109) (z_c (ok_callS zcal_170 zw_770 zw_771 dX12_ahead_110) (z_c (ok_if_ne dX12_ahead_113 (by decide)) (z_c (ok_aload_n dX12_ahead_116 rfl) (z_c (ok_getf (C := RX12) (T := TX12) (N := 73) rfl (by decide) zinX12 rfl zw_687 dX12_ahead_117) (z_c (ok_iload_n dX12_ahead_120 rfl) (z_c (ok_iconst (v := (1)) dX12_ahead_121 (by decide)) (z_c (ok_isub dX12_ahead_122) (z_c (ok_iaload rfl dX12_ahead_123) (z_c (ok_callS zcal_171 zw_772 zw_773 dX12_ahead_124) (z_c (ok_if_eq dX12_ahead_127 (by decide)) z_n))))))))))))
noncomputable def tX12_ahead_6 : List (Nat × zF) := [(130, (zla4 0 1)), (131, (zli4 1 1)), (132, (zpf 12 12 (.int))), (135, (zla4 0 1)), (136, (zst 1 (zp (.int (0))))), (137, (zpf 12 6 (.int))), (140, (zla4 0 1)), (141, (zst 1 (zp (.long (0))))), (142, (zpf 12 7 (.long))), (145, (zla4 0 1)), (146, (zst 1 (zp (.int (3))))), (147, (zpf 12 3 (.int)))]
theorem kX12_ahead_6 : ∀ q ∈ tX12_ahead_6, zOk zg iX12_ahead q.1 q.2 := (z_c (ok_aload_n dX12_ahead_130 rfl) (z_c (ok_iload_n dX12_ahead_131 rfl) (z_c (ok_putf (C := RX12) (T := TX12) (N := 73) false tyX12 tyX12_ok nmX12 rfl (by decide) zinX12 rfl zw_699 rfl (fun h => absurd h (by decide)) rfl dX12_ahead_132) (z_c (ok_aload_n dX12_ahead_135 rfl) (z_c (ok_iconst (v := (0)) dX12_ahead_136 (by decide)) (z_c (ok_putf (C := RX12) (T := TX12) (N := 73) false tyX12 tyX12_ok nmX12 rfl (by decide) zinX12 rfl zw_693 rfl (fun h => absurd h (by decide)) rfl dX12_ahead_137) (z_c (ok_aload_n dX12_ahead_140 rfl) (z_c (ok_lconst (v := (0)) dX12_ahead_141 (by decide)) (z_c (ok_putf (C := RX12) (T := TX12) (N := 73) false tyX12 tyX12_ok nmX12 rfl (by decide) zinX12 rfl zw_694 rfl (fun h => absurd h (by decide)) rfl dX12_ahead_142) (z_c (ok_aload_n dX12_ahead_145 rfl) (z_c (ok_iconst (v := (3)) dX12_ahead_146 (by decide)) (z_c (ok_putf (C := RX12) (T := TX12) (N := 73) false tyX12 tyX12_ok nmX12 rfl (by decide) zinX12 rfl zw_690 rfl (fun h => absurd h (by decide)) rfl dX12_ahead_147) z_n))))))))))))
noncomputable def tX12_ahead_7 : List (Nat × zF) := [(150, (zla4 0 1)), (151, (zli4 1 1)), (152, (zst 1 (zp (.int (1))))), (153, (zst 1 z_iadd)), (154, (zpf 12 5 (.int))), (157, (zli4 2 1)), (158, (z_if_ne 176)), (161, (zli4 3 1)), (162, (z_if_ne 176)), (165, (zla4 0 1)), (166, (zla4 0 1)), (167, (zgf 12 0))]
theorem kX12_ahead_7 : ∀ q ∈ tX12_ahead_7, zOk zg iX12_ahead q.1 q.2 := (z_c (ok_aload_n dX12_ahead_150 rfl) (z_c (ok_iload_n dX12_ahead_151 rfl) (z_c (ok_iconst (v := (1)) dX12_ahead_152 (by decide)) (z_c (ok_iadd dX12_ahead_153) (z_c (ok_putf (C := RX12) (T := TX12) (N := 73) false tyX12 tyX12_ok nmX12 rfl (by decide) zinX12 rfl zw_692 rfl (fun h => absurd h (by decide)) rfl dX12_ahead_154) (z_c (ok_iload_n dX12_ahead_157 rfl) (z_c (ok_if_ne dX12_ahead_158 (by decide)) (z_c (ok_iload_n dX12_ahead_161 rfl) (z_c (ok_if_ne dX12_ahead_162 (by decide)) (z_c (ok_aload_n dX12_ahead_165 rfl) (z_c (ok_aload_n dX12_ahead_166 rfl) (z_c (ok_getf (C := RX12) (T := TX12) (N := 73) rfl (by decide) zinX12 rfl zw_687 dX12_ahead_167) z_n))))))))))))
noncomputable def tX12_ahead_8 : List (Nat × zF) := [(170, (zli4 1 1)), (171, (zal 0)), (172, (zpf 12 6 (.int))), (175, zrv), (176, (zla4 0 1)), (177, (zli4 2 1)), (178, (z_if_eq 185)), (181, (zst 1 (zp (.int (1))))), (182, (zgt 186)), (185, (zst 1 (zp (.int (2))))), (186, (zpf 12 3 (.int))), (189, (zli4 2 1))]
theorem kX12_ahead_8 : ∀ q ∈ tX12_ahead_8, zOk zg iX12_ahead q.1 q.2 := (z_c (ok_iload_n dX12_ahead_170 rfl) (z_c (ok_iaload rfl dX12_ahead_171) (z_c (ok_putf (C := RX12) (T := TX12) (N := 73) false tyX12 tyX12_ok nmX12 rfl (by decide) zinX12 rfl zw_693 rfl (fun h => absurd h (by decide)) rfl dX12_ahead_172) (z_c (ok_return rfl dX12_ahead_175) (z_c (ok_aload_n dX12_ahead_176 rfl) (z_c (ok_iload_n dX12_ahead_177 rfl) (z_c (ok_if_eq dX12_ahead_178 (by decide)) (z_c (ok_iconst (v := (1)) dX12_ahead_181 (by decide)) (z_c (ok_goto dX12_ahead_182 (by decide)) (z_c (ok_iconst (v := (2)) dX12_ahead_185 (by decide)) (z_c (ok_putf (C := RX12) (T := TX12) (N := 73) false tyX12 tyX12_ok nmX12 rfl (by decide) zinX12 rfl zw_690 rfl (fun h => absurd h (by decide)) rfl dX12_ahead_186) (z_c (ok_iload_n dX12_ahead_189 rfl) z_n))))))))))))
noncomputable def tX12_ahead_9 : List (Nat × zF) := [(190, (z_if_eq 198)), (193, (zst 2 (zp (.int (6))))), (195, (zgt 199)), (198, (zst 1 (zp (.int (4))))), (199, (zsi4 6 4 2)), (201, (zst 1 (zp (.int (0))))), (202, (zsi4 6 5 2)), (204, (zli4 1 1)), (205, (zla4 0 1)), (206, (zgf 12 2)), (209, (z_ic_ge 334)), (212, (zli4 2 1))]
theorem kX12_ahead_9 : ∀ q ∈ tX12_ahead_9, zOk zg iX12_ahead q.1 q.2 := (z_c (ok_if_eq dX12_ahead_190 (by decide)) (z_c (ok_bipush (v := (6)) dX12_ahead_193 (by decide)) (z_c (ok_goto dX12_ahead_195 (by decide)) (z_c (ok_iconst (v := (4)) dX12_ahead_198 (by decide)) (z_c (ok_istore dX12_ahead_199) (z_c (ok_iconst (v := (0)) dX12_ahead_201 (by decide)) (z_c (ok_istore dX12_ahead_202) (z_c (ok_iload_n dX12_ahead_204 rfl) (z_c (ok_aload_n dX12_ahead_205 rfl) (z_c (ok_getf (C := RX12) (T := TX12) (N := 73) rfl (by decide) zinX12 rfl zw_689 dX12_ahead_206) (z_c (ok_icmp_ge dX12_ahead_209 (by decide)) (z_c (ok_iload_n dX12_ahead_212 rfl) z_n))))))))))))
noncomputable def tX12_ahead_10 : List (Nat × zF) := [(213, (z_if_eq 231)), (216, (zla4 0 1)), (217, (zgf 12 0)), (220, (zli4 1 1)), (221, (zal 0)), (222, (zcs 170 1)), (225, (z_if_eq 334)), (228, (zgt 243)), (231, (zla4 0 1)), (232, (zgf 12 0)), (235, (zli4 1 1)), (236, (zal 0))]
theorem kX12_ahead_10 : ∀ q ∈ tX12_ahead_10, zOk zg iX12_ahead q.1 q.2 := (z_c (ok_if_eq dX12_ahead_213 (by decide)) (z_c (ok_aload_n dX12_ahead_216 rfl) (z_c (ok_getf (C := RX12) (T := TX12) (N := 73) rfl (by decide) zinX12 rfl zw_687 dX12_ahead_217) (z_c (ok_iload_n dX12_ahead_220 rfl) (z_c (ok_iaload rfl dX12_ahead_221) (z_c (ok_callS zcal_170 zw_770 zw_771 dX12_ahead_222) (z_c (ok_if_eq dX12_ahead_225 (by decide)) (z_c (ok_goto dX12_ahead_228 (by decide)) (z_c (ok_aload_n dX12_ahead_231 rfl) (z_c (ok_getf (C := RX12) (T := TX12) (N := 73) rfl (by decide) zinX12 rfl zw_687 dX12_ahead_232) (z_c (ok_iload_n dX12_ahead_235 rfl) (z_c (ok_iaload rfl dX12_ahead_236) z_n))))))))))))
noncomputable def tX12_ahead_11 : List (Nat × zF) := [(237, (zcs 171 1)), (240, (z_if_eq 334)), (243, (zli4 5 2)), (245, (zli4 4 2)), (247, (z_ic_ne 263)), (250, (zla4 0 1)), (251, (zgf 12 12)), (254, (zst 1 (zp (.int ((-1)))))), (255, (z_ic_ne 263)), (258, (zla4 0 1)), (259, (zli4 1 1)), (260, (zpf 12 12 (.int)))]
theorem kX12_ahead_11 : ∀ q ∈ tX12_ahead_11, zOk zg iX12_ahead q.1 q.2 := (z_c (ok_callS zcal_171 zw_772 zw_773 dX12_ahead_237) (z_c (ok_if_eq dX12_ahead_240 (by decide)) (z_c (ok_iload dX12_ahead_243) (z_c (ok_iload dX12_ahead_245) (z_c (ok_icmp_ne dX12_ahead_247 (by decide)) (z_c (ok_aload_n dX12_ahead_250 rfl) (z_c (ok_getf (C := RX12) (T := TX12) (N := 73) rfl (by decide) zinX12 rfl zw_699 dX12_ahead_251) (z_c (ok_iconst (v := (-1)) dX12_ahead_254 (by decide)) (z_c (ok_icmp_ne dX12_ahead_255 (by decide)) (z_c (ok_aload_n dX12_ahead_258 rfl) (z_c (ok_iload_n dX12_ahead_259 rfl) (z_c (ok_putf (C := RX12) (T := TX12) (N := 73) false tyX12 tyX12_ok nmX12 rfl (by decide) zinX12 rfl zw_699 rfl (fun h => absurd h (by decide)) rfl dX12_ahead_260) z_n))))))))))))
noncomputable def tX12_ahead_12 : List (Nat × zF) := [(263, (zli4 5 2)), (265, (zli4 4 2)), (267, (z_ic_ge 293)), (270, (zli4 2 1)), (271, (z_if_eq 293)), (274, (zla4 0 1)), (275, (zla4 0 1)), (276, (zgf 12 7)), (279, (zst 2 (zp (.int (8))))), (281, (zst 1 z_lshl)), (282, (zla4 0 1)), (283, (zgf 12 0))]
theorem kX12_ahead_12 : ∀ q ∈ tX12_ahead_12, zOk zg iX12_ahead q.1 q.2 := (z_c (ok_iload dX12_ahead_263) (z_c (ok_iload dX12_ahead_265) (z_c (ok_icmp_ge dX12_ahead_267 (by decide)) (z_c (ok_iload_n dX12_ahead_270 rfl) (z_c (ok_if_eq dX12_ahead_271 (by decide)) (z_c (ok_aload_n dX12_ahead_274 rfl) (z_c (ok_aload_n dX12_ahead_275 rfl) (z_c (ok_getf (C := RX12) (T := TX12) (N := 73) rfl (by decide) zinX12 rfl zw_694 dX12_ahead_276) (z_c (ok_bipush (v := (8)) dX12_ahead_279 (by decide)) (z_c (ok_lshl dX12_ahead_281) (z_c (ok_aload_n dX12_ahead_282 rfl) (z_c (ok_getf (C := RX12) (T := TX12) (N := 73) rfl (by decide) zinX12 rfl zw_687 dX12_ahead_283) z_n))))))))))))
noncomputable def tX12_ahead_13 : List (Nat × zF) := [(286, (zli4 1 1)), (287, (zal 0)), (288, (zst 1 zil)), (289, (zst 1 z_lor)), (290, (zpf 12 7 (.long))), (293, (zli4 5 2)), (295, (zli4 4 2)), (297, (z_ic_ge 325)), (300, (zli4 3 1)), (301, (z_if_eq 325)), (304, (zla4 0 1)), (305, (zst 2 (zp (.int (10)))))]
theorem kX12_ahead_13 : ∀ q ∈ tX12_ahead_13, zOk zg iX12_ahead q.1 q.2 := (z_c (ok_iload_n dX12_ahead_286 rfl) (z_c (ok_iaload rfl dX12_ahead_287) (z_c (ok_i2l dX12_ahead_288) (z_c (ok_lor dX12_ahead_289) (z_c (ok_putf (C := RX12) (T := TX12) (N := 73) false tyX12 tyX12_ok nmX12 rfl (by decide) zinX12 rfl zw_694 rfl (fun h => absurd h (by decide)) rfl dX12_ahead_290) (z_c (ok_iload dX12_ahead_293) (z_c (ok_iload dX12_ahead_295) (z_c (ok_icmp_ge dX12_ahead_297 (by decide)) (z_c (ok_iload_n dX12_ahead_300 rfl) (z_c (ok_if_eq dX12_ahead_301 (by decide)) (z_c (ok_aload_n dX12_ahead_304 rfl) (z_c (ok_bipush (v := (10)) dX12_ahead_305 (by decide)) z_n))))))))))))
noncomputable def tX12_ahead_14 : List (Nat × zF) := [(307, (zla4 0 1)), (308, (zgf 12 6)), (311, (zst 1 z_imul)), (312, (zla4 0 1)), (313, (zgf 12 0)), (316, (zli4 1 1)), (317, (zal 0)), (318, (zst 1 z_iadd)), (319, (zst 2 (zp (.int (48))))), (321, (zst 1 z_isub)), (322, (zpf 12 6 (.int))), (325, (zin4 6 5 (1)))]
theorem kX12_ahead_14 : ∀ q ∈ tX12_ahead_14, zOk zg iX12_ahead q.1 q.2 := (z_c (ok_aload_n dX12_ahead_307 rfl) (z_c (ok_getf (C := RX12) (T := TX12) (N := 73) rfl (by decide) zinX12 rfl zw_693 dX12_ahead_308) (z_c (ok_imul dX12_ahead_311) (z_c (ok_aload_n dX12_ahead_312 rfl) (z_c (ok_getf (C := RX12) (T := TX12) (N := 73) rfl (by decide) zinX12 rfl zw_687 dX12_ahead_313) (z_c (ok_iload_n dX12_ahead_316 rfl) (z_c (ok_iaload rfl dX12_ahead_317) (z_c (ok_iadd dX12_ahead_318) (z_c (ok_bipush (v := (48)) dX12_ahead_319 (by decide)) (z_c (ok_isub dX12_ahead_321) (z_c (ok_putf (C := RX12) (T := TX12) (N := 73) false tyX12 tyX12_ok nmX12 rfl (by decide) zinX12 rfl zw_693 rfl (fun h => absurd h (by decide)) rfl dX12_ahead_322) (z_c (ok_iinc (v := (1)) dX12_ahead_325 (by decide)) z_n))))))))))))
noncomputable def tX12_ahead_15 : List (Nat × zF) := [(328, (zin4 6 1 (1))), (331, (zgt 204)), (334, (zla4 0 1)), (335, (zli4 1 1)), (336, (zpf 12 5 (.int))), (339, zrv)]
theorem kX12_ahead_15 : ∀ q ∈ tX12_ahead_15, zOk zg iX12_ahead q.1 q.2 := (z_c (ok_iinc (v := (1)) dX12_ahead_328 (by decide)) (z_c (ok_goto dX12_ahead_331 (by decide)) (z_c (ok_aload_n dX12_ahead_334 rfl) (z_c (ok_iload_n dX12_ahead_335 rfl) (z_c (ok_putf (C := RX12) (T := TX12) (N := 73) false tyX12 tyX12_ok nmX12 rfl (by decide) zinX12 rfl zw_692 rfl (fun h => absurd h (by decide)) rfl dX12_ahead_336) (z_c (ok_return rfl dX12_ahead_339) z_n))))))
noncomputable def tX12_ahead : zT := [(21, tX12_ahead_0), (46, tX12_ahead_1), (66, tX12_ahead_2), (86, tX12_ahead_3), (108, tX12_ahead_4), (130, tX12_ahead_5), (150, tX12_ahead_6), (170, tX12_ahead_7), (190, tX12_ahead_8), (213, tX12_ahead_9), (237, tX12_ahead_10), (263, tX12_ahead_11), (286, tX12_ahead_12), (307, tX12_ahead_13), (328, tX12_ahead_14), (100000, tX12_ahead_15)]
theorem kX12_ahead : zTok zg iX12_ahead tX12_ahead := (z_t kX12_ahead_0 (z_t kX12_ahead_1 (z_t kX12_ahead_2 (z_t kX12_ahead_3 (z_t kX12_ahead_4 (z_t kX12_ahead_5 (z_t kX12_ahead_6 (z_t kX12_ahead_7 (z_t kX12_ahead_8 (z_t kX12_ahead_9 (z_t kX12_ahead_10 (z_t kX12_ahead_11 (z_t kX12_ahead_12 (z_t kX12_ahead_13 (z_t kX12_ahead_14 (z_t kX12_ahead_15 z_tn))))))))))))))))
theorem dX12_isSign_0 : decode cX12_isSign 0 = .ok (.aload_n 0, 1) := by decide +kernel
theorem dX12_isSign_1 : decode cX12_isSign 1 = .ok (.getfield 20, 3) := by decide +kernel
theorem dX12_isSign_4 : decode cX12_isSign 4 = .ok (.iconst 3, 1) := by decide +kernel
theorem dX12_isSign_5 : decode cX12_isSign 5 = .ok (.if_icmp .ne 15, 3) := by decide +kernel
theorem dX12_isSign_8 : decode cX12_isSign 8 = .ok (.aload_n 0, 1) := by decide +kernel
theorem dX12_isSign_9 : decode cX12_isSign 9 = .ok (.getfield 29, 3) := by decide +kernel
theorem dX12_isSign_12 : decode cX12_isSign 12 = .ok (.iload_n 1, 1) := by decide +kernel
theorem dX12_isSign_13 : decode cX12_isSign 13 = .ok (.if_icmp .ne 7, 3) := by decide +kernel
theorem dX12_isSign_16 : decode cX12_isSign 16 = .ok (.iconst 1, 1) := by decide +kernel
theorem dX12_isSign_17 : decode cX12_isSign 17 = .ok (.goto 4, 3) := by decide +kernel
theorem dX12_isSign_20 : decode cX12_isSign 20 = .ok (.iconst 0, 1) := by decide +kernel
theorem dX12_isSign_21 : decode cX12_isSign 21 = .ok (.ireturn, 1) := by decide +kernel
noncomputable def tX12_isSign_0 : List (Nat × zF) := [(0, (zla4 0 1)), (1, (zgf 12 3)), (4, (zst 1 (zp (.int (3))))), (5, (z_ic_ne 20)), (8, (zla4 0 1)), (9, (zgf 12 6)), (12, (zli4 1 1)), (13, (z_ic_ne 20)), (16, (zst 1 (zp (.int (1))))), (17, (zgt 21)), (20, (zst 1 (zp (.int (0))))), (21, (zri true))]
theorem kX12_isSign_0 : ∀ q ∈ tX12_isSign_0, zOk zg iX12_isSign q.1 q.2 := (z_c (ok_aload_n dX12_isSign_0 rfl) (z_c (ok_getf (C := RX12) (T := TX12) (N := 73) rfl (by decide) zinX12 rfl zw_690 dX12_isSign_1) (z_c (ok_iconst (v := (3)) dX12_isSign_4 (by decide)) (z_c (ok_icmp_ne dX12_isSign_5 (by decide)) (z_c (ok_aload_n dX12_isSign_8 rfl) (z_c (ok_getf (C := RX12) (T := TX12) (N := 73) rfl (by decide) zinX12 rfl zw_693 dX12_isSign_9) (z_c (ok_iload_n dX12_isSign_12 rfl) (z_c (ok_icmp_ne dX12_isSign_13 (by decide)) (z_c (ok_iconst (v := (1)) dX12_isSign_16 (by decide)) (z_c (ok_goto dX12_isSign_17 (by decide)) (z_c (ok_iconst (v := (0)) dX12_isSign_20 (by decide)) (z_c (ok_zreturn rfl dX12_isSign_21) z_n))))))))))))
noncomputable def tX12_isSign : zT := [(100000, tX12_isSign_0)]
theorem kX12_isSign : zTok zg iX12_isSign tX12_isSign := (z_t kX12_isSign_0 z_tn)
theorem dX12_isWord_0 : decode cX12_isWord 0 = .ok (.aload_n 0, 1) := by decide +kernel
theorem dX12_isWord_1 : decode cX12_isWord 1 = .ok (.getfield 20, 3) := by decide +kernel
theorem dX12_isWord_4 : decode cX12_isWord 4 = .ok (.iconst 1, 1) := by decide +kernel
theorem dX12_isWord_5 : decode cX12_isWord 5 = .ok (.if_icmp .ne 16, 3) := by decide +kernel
theorem dX12_isWord_8 : decode cX12_isWord 8 = .ok (.aload_n 0, 1) := by decide +kernel
theorem dX12_isWord_9 : decode cX12_isWord 9 = .ok (.getfield 32, 3) := by decide +kernel
theorem dX12_isWord_12 : decode cX12_isWord 12 = .ok (.lload_n 1, 1) := by decide +kernel
theorem dX12_isWord_13 : decode cX12_isWord 13 = .ok (.lcmp, 1) := by decide +kernel
theorem dX12_isWord_14 : decode cX12_isWord 14 = .ok (.ifCond .ne 7, 3) := by decide +kernel
theorem dX12_isWord_17 : decode cX12_isWord 17 = .ok (.iconst 1, 1) := by decide +kernel
theorem dX12_isWord_18 : decode cX12_isWord 18 = .ok (.goto 4, 3) := by decide +kernel
theorem dX12_isWord_21 : decode cX12_isWord 21 = .ok (.iconst 0, 1) := by decide +kernel
theorem dX12_isWord_22 : decode cX12_isWord 22 = .ok (.ireturn, 1) := by decide +kernel
noncomputable def tX12_isWord_0 : List (Nat × zF) := [(0, (zla4 0 1)), (1, (zgf 12 3)), (4, (zst 1 (zp (.int (1))))), (5, (z_ic_ne 21)), (8, (zla4 0 1)), (9, (zgf 12 7)), (12, (zll4 1 1)), (13, (zst 1 zcm)), (14, (z_if_ne 21)), (17, (zst 1 (zp (.int (1))))), (18, (zgt 22)), (21, (zst 1 (zp (.int (0)))))]
theorem kX12_isWord_0 : ∀ q ∈ tX12_isWord_0, zOk zg iX12_isWord q.1 q.2 := (z_c (ok_aload_n dX12_isWord_0 rfl) (z_c (ok_getf (C := RX12) (T := TX12) (N := 73) rfl (by decide) zinX12 rfl zw_690 dX12_isWord_1) (z_c (ok_iconst (v := (1)) dX12_isWord_4 (by decide)) (z_c (ok_icmp_ne dX12_isWord_5 (by decide)) (z_c (ok_aload_n dX12_isWord_8 rfl) (z_c (ok_getf (C := RX12) (T := TX12) (N := 73) rfl (by decide) zinX12 rfl zw_694 dX12_isWord_9) (z_c (ok_lload_n dX12_isWord_12 rfl) (z_c (ok_lcmp dX12_isWord_13) (z_c (ok_if_ne dX12_isWord_14 (by decide)) (z_c (ok_iconst (v := (1)) dX12_isWord_17 (by decide)) (z_c (ok_goto dX12_isWord_18 (by decide)) (z_c (ok_iconst (v := (0)) dX12_isWord_21 (by decide)) z_n))))))))))))
noncomputable def tX12_isWord_1 : List (Nat × zF) := [(22, (zri true))]
theorem kX12_isWord_1 : ∀ q ∈ tX12_isWord_1, zOk zg iX12_isWord q.1 q.2 := (z_c (ok_zreturn rfl dX12_isWord_22) z_n)
noncomputable def tX12_isWord : zT := [(22, tX12_isWord_0), (100000, tX12_isWord_1)]
theorem kX12_isWord : zTok zg iX12_isWord tX12_isWord := (z_t kX12_isWord_0 (z_t kX12_isWord_1 z_tn))
theorem dX12_must_0 : decode cX12_must 0 = .ok (.aload_n 0, 1) := by decide +kernel
theorem dX12_must_1 : decode cX12_must 1 = .ok (.invokevirtual 253, 3) := by decide +kernel
theorem dX12_must_4 : decode cX12_must 4 = .ok (.aload_n 0, 1) := by decide +kernel
theorem dX12_must_5 : decode cX12_must 5 = .ok (.iload_n 1, 1) := by decide +kernel
theorem dX12_must_6 : decode cX12_must 6 = .ok (.invokevirtual 256, 3) := by decide +kernel
theorem dX12_must_9 : decode cX12_must 9 = .ok (.ifCond .ne 12, 3) := by decide +kernel
theorem dX12_must_12 : decode cX12_must 12 = .ok (.aload_n 0, 1) := by decide +kernel
theorem dX12_must_13 : decode cX12_must 13 = .ok (.iconst 1, 1) := by decide +kernel
theorem dX12_must_14 : decode cX12_must 14 = .ok (.aload_n 0, 1) := by decide +kernel
theorem dX12_must_15 : decode cX12_must 15 = .ok (.getfield 23, 3) := by decide +kernel
theorem dX12_must_18 : decode cX12_must 18 = .ok (.invokevirtual 242, 3) := by decide +kernel
theorem dX12_must_21 : decode cX12_must 21 = .ok (.aload_n 0, 1) := by decide +kernel
theorem dX12_must_22 : decode cX12_must 22 = .ok (.getfield 36, 3) := by decide +kernel
theorem dX12_must_25 : decode cX12_must 25 = .ok (.ifCond .ne 7, 3) := by decide +kernel
theorem dX12_must_28 : decode cX12_must 28 = .ok (.aload_n 0, 1) := by decide +kernel
theorem dX12_must_29 : decode cX12_must 29 = .ok (.invokevirtual 259, 3) := by decide +kernel
theorem dX12_must_32 : decode cX12_must 32 = .ok (.return_, 1) := by decide +kernel
noncomputable def tX12_must_0 : List (Nat × zF) := [(0, (zla4 0 1)), (1, (zcv 172 0 12)), (4, (zla4 0 1)), (5, (zli4 1 1)), (6, (zcv 174 1 12)), (9, (z_if_ne 21)), (12, (zla4 0 1)), (13, (zst 1 (zp (.int (1))))), (14, (zla4 0 1)), (15, (zgf 12 4)), (18, (zcv 169 2 12)), (21, (zla4 0 1))]
theorem kX12_must_0 : ∀ q ∈ tX12_must_0, zOk zg iX12_must q.1 q.2 := (z_c (ok_aload_n dX12_must_0 rfl) (z_c (ok_callV zcal_172 (q := (RX12, TX12, 73)) rfl zw_774 zw_775 zw_776 dX12_must_1) (z_c (ok_aload_n dX12_must_4 rfl) (z_c (ok_iload_n dX12_must_5 rfl) (z_c (ok_callV zcal_174 (q := (RX12, TX12, 73)) rfl zw_777 zw_778 zw_779 dX12_must_6) (z_c (ok_if_ne dX12_must_9 (by decide)) (z_c (ok_aload_n dX12_must_12 rfl) (z_c (ok_iconst (v := (1)) dX12_must_13 (by decide)) (z_c (ok_aload_n dX12_must_14 rfl) (z_c (ok_getf (C := RX12) (T := TX12) (N := 73) rfl (by decide) zinX12 rfl zw_691 dX12_must_15) (z_c (ok_callV zcal_169 (q := (RX12, TX12, 73)) rfl zw_767 zw_768 zw_769 dX12_must_18) (z_c (ok_aload_n dX12_must_21 rfl) z_n))))))))))))
noncomputable def tX12_must_1 : List (Nat × zF) := [(22, (zgf 12 8)), (25, (z_if_ne 32)), (28, (zla4 0 1)), (29, (zcv 173 0 12)), (32, zrv)]
theorem kX12_must_1 : ∀ q ∈ tX12_must_1, zOk zg iX12_must q.1 q.2 := (z_c (ok_getf (C := RX12) (T := TX12) (N := 73) rfl (by decide) zinX12 rfl zw_695 dX12_must_22) (z_c (ok_if_ne dX12_must_25 (by decide)) (z_c (ok_aload_n dX12_must_28 rfl) (z_c (ok_callV zcal_173 (q := (RX12, TX12, 73)) rfl zw_780 zw_781 zw_782 dX12_must_29) (z_c (ok_return rfl dX12_must_32) z_n)))))
noncomputable def tX12_must : zT := [(22, tX12_must_0), (100000, tX12_must_1)]
theorem kX12_must : zTok zg iX12_must tX12_must := (z_t kX12_must_0 (z_t kX12_must_1 z_tn))
theorem dX12_isOwn_0 : decode cX12_isOwn 0 = .ok (.lload_n 1, 1) := by decide +kernel
theorem dX12_isOwn_1 : decode cX12_isOwn 1 = .ok (.ldc2_w 262, 3) := by decide +kernel
theorem dX12_isOwn_4 : decode cX12_isOwn 4 = .ok (.lcmp, 1) := by decide +kernel
theorem dX12_isOwn_5 : decode cX12_isOwn 5 = .ok (.ifCond .eq 35, 3) := by decide +kernel
theorem dX12_isOwn_8 : decode cX12_isOwn 8 = .ok (.lload_n 1, 1) := by decide +kernel
theorem dX12_isOwn_9 : decode cX12_isOwn 9 = .ok (.ldc2_w 264, 3) := by decide +kernel
theorem dX12_isOwn_12 : decode cX12_isOwn 12 = .ok (.lcmp, 1) := by decide +kernel
theorem dX12_isOwn_13 : decode cX12_isOwn 13 = .ok (.ifCond .eq 27, 3) := by decide +kernel
theorem dX12_isOwn_16 : decode cX12_isOwn 16 = .ok (.lload_n 1, 1) := by decide +kernel
theorem dX12_isOwn_17 : decode cX12_isOwn 17 = .ok (.ldc2_w 266, 3) := by decide +kernel
theorem dX12_isOwn_20 : decode cX12_isOwn 20 = .ok (.lcmp, 1) := by decide +kernel
theorem dX12_isOwn_21 : decode cX12_isOwn 21 = .ok (.ifCond .eq 19, 3) := by decide +kernel
theorem dX12_isOwn_24 : decode cX12_isOwn 24 = .ok (.lload_n 1, 1) := by decide +kernel
theorem dX12_isOwn_25 : decode cX12_isOwn 25 = .ok (.ldc2_w 268, 3) := by decide +kernel
theorem dX12_isOwn_28 : decode cX12_isOwn 28 = .ok (.lcmp, 1) := by decide +kernel
theorem dX12_isOwn_29 : decode cX12_isOwn 29 = .ok (.ifCond .eq 11, 3) := by decide +kernel
theorem dX12_isOwn_32 : decode cX12_isOwn 32 = .ok (.lload_n 1, 1) := by decide +kernel
theorem dX12_isOwn_33 : decode cX12_isOwn 33 = .ok (.ldc2_w 270, 3) := by decide +kernel
theorem dX12_isOwn_36 : decode cX12_isOwn 36 = .ok (.lcmp, 1) := by decide +kernel
theorem dX12_isOwn_37 : decode cX12_isOwn 37 = .ok (.ifCond .ne 5, 3) := by decide +kernel
theorem dX12_isOwn_40 : decode cX12_isOwn 40 = .ok (.iconst 1, 1) := by decide +kernel
theorem dX12_isOwn_41 : decode cX12_isOwn 41 = .ok (.ireturn, 1) := by decide +kernel
theorem dX12_isOwn_42 : decode cX12_isOwn 42 = .ok (.lload_n 1, 1) := by decide +kernel
theorem dX12_isOwn_43 : decode cX12_isOwn 43 = .ok (.ldc2_w 272, 3) := by decide +kernel
theorem dX12_isOwn_46 : decode cX12_isOwn 46 = .ok (.lcmp, 1) := by decide +kernel
theorem dX12_isOwn_47 : decode cX12_isOwn 47 = .ok (.ifCond .eq 35, 3) := by decide +kernel
theorem dX12_isOwn_50 : decode cX12_isOwn 50 = .ok (.lload_n 1, 1) := by decide +kernel
theorem dX12_isOwn_51 : decode cX12_isOwn 51 = .ok (.ldc2_w 274, 3) := by decide +kernel
theorem dX12_isOwn_54 : decode cX12_isOwn 54 = .ok (.lcmp, 1) := by decide +kernel
theorem dX12_isOwn_55 : decode cX12_isOwn 55 = .ok (.ifCond .eq 27, 3) := by decide +kernel
theorem dX12_isOwn_58 : decode cX12_isOwn 58 = .ok (.lload_n 1, 1) := by decide +kernel
theorem dX12_isOwn_59 : decode cX12_isOwn 59 = .ok (.ldc2_w 276, 3) := by decide +kernel
theorem dX12_isOwn_62 : decode cX12_isOwn 62 = .ok (.lcmp, 1) := by decide +kernel
theorem dX12_isOwn_63 : decode cX12_isOwn 63 = .ok (.ifCond .eq 19, 3) := by decide +kernel
theorem dX12_isOwn_66 : decode cX12_isOwn 66 = .ok (.lload_n 1, 1) := by decide +kernel
theorem dX12_isOwn_67 : decode cX12_isOwn 67 = .ok (.ldc2_w 278, 3) := by decide +kernel
theorem dX12_isOwn_70 : decode cX12_isOwn 70 = .ok (.lcmp, 1) := by decide +kernel
theorem dX12_isOwn_71 : decode cX12_isOwn 71 = .ok (.ifCond .eq 11, 3) := by decide +kernel
theorem dX12_isOwn_74 : decode cX12_isOwn 74 = .ok (.lload_n 1, 1) := by decide +kernel
theorem dX12_isOwn_75 : decode cX12_isOwn 75 = .ok (.ldc2_w 280, 3) := by decide +kernel
theorem dX12_isOwn_78 : decode cX12_isOwn 78 = .ok (.lcmp, 1) := by decide +kernel
theorem dX12_isOwn_79 : decode cX12_isOwn 79 = .ok (.ifCond .ne 5, 3) := by decide +kernel
theorem dX12_isOwn_82 : decode cX12_isOwn 82 = .ok (.iconst 1, 1) := by decide +kernel
theorem dX12_isOwn_83 : decode cX12_isOwn 83 = .ok (.ireturn, 1) := by decide +kernel
theorem dX12_isOwn_84 : decode cX12_isOwn 84 = .ok (.lload_n 1, 1) := by decide +kernel
theorem dX12_isOwn_85 : decode cX12_isOwn 85 = .ok (.ldc2_w 282, 3) := by decide +kernel
theorem dX12_isOwn_88 : decode cX12_isOwn 88 = .ok (.lcmp, 1) := by decide +kernel
theorem dX12_isOwn_89 : decode cX12_isOwn 89 = .ok (.ifCond .eq 35, 3) := by decide +kernel
theorem dX12_isOwn_92 : decode cX12_isOwn 92 = .ok (.lload_n 1, 1) := by decide +kernel
theorem dX12_isOwn_93 : decode cX12_isOwn 93 = .ok (.ldc2_w 284, 3) := by decide +kernel
theorem dX12_isOwn_96 : decode cX12_isOwn 96 = .ok (.lcmp, 1) := by decide +kernel
theorem dX12_isOwn_97 : decode cX12_isOwn 97 = .ok (.ifCond .eq 27, 3) := by decide +kernel
theorem dX12_isOwn_100 : decode cX12_isOwn 100 = .ok (.lload_n 1, 1) := by decide +kernel
theorem dX12_isOwn_101 : decode cX12_isOwn 101 = .ok (.ldc2_w 286, 3) := by decide +kernel
theorem dX12_isOwn_104 : decode cX12_isOwn 104 = .ok (.lcmp, 1) := by decide +kernel
theorem dX12_isOwn_105 : decode cX12_isOwn 105 = .ok (.ifCond .eq 19, 3) := by decide +kernel
theorem dX12_isOwn_108 : decode cX12_isOwn 108 = .ok (.lload_n 1, 1) := by decide +kernel
theorem dX12_isOwn_109 : decode cX12_isOwn 109 = .ok (.ldc2_w 288, 3) := by decide +kernel
theorem dX12_isOwn_112 : decode cX12_isOwn 112 = .ok (.lcmp, 1) := by decide +kernel
theorem dX12_isOwn_113 : decode cX12_isOwn 113 = .ok (.ifCond .eq 11, 3) := by decide +kernel
theorem dX12_isOwn_116 : decode cX12_isOwn 116 = .ok (.lload_n 1, 1) := by decide +kernel
theorem dX12_isOwn_117 : decode cX12_isOwn 117 = .ok (.ldc2_w 290, 3) := by decide +kernel
theorem dX12_isOwn_120 : decode cX12_isOwn 120 = .ok (.lcmp, 1) := by decide +kernel
theorem dX12_isOwn_121 : decode cX12_isOwn 121 = .ok (.ifCond .ne 5, 3) := by decide +kernel
theorem dX12_isOwn_124 : decode cX12_isOwn 124 = .ok (.iconst 1, 1) := by decide +kernel
theorem dX12_isOwn_125 : decode cX12_isOwn 125 = .ok (.ireturn, 1) := by decide +kernel
theorem dX12_isOwn_126 : decode cX12_isOwn 126 = .ok (.lload_n 1, 1) := by decide +kernel
theorem dX12_isOwn_127 : decode cX12_isOwn 127 = .ok (.ldc2_w 292, 3) := by decide +kernel
theorem dX12_isOwn_130 : decode cX12_isOwn 130 = .ok (.lcmp, 1) := by decide +kernel
theorem dX12_isOwn_131 : decode cX12_isOwn 131 = .ok (.ifCond .eq 35, 3) := by decide +kernel
theorem dX12_isOwn_134 : decode cX12_isOwn 134 = .ok (.lload_n 1, 1) := by decide +kernel
theorem dX12_isOwn_135 : decode cX12_isOwn 135 = .ok (.ldc2_w 294, 3) := by decide +kernel
theorem dX12_isOwn_138 : decode cX12_isOwn 138 = .ok (.lcmp, 1) := by decide +kernel
theorem dX12_isOwn_139 : decode cX12_isOwn 139 = .ok (.ifCond .eq 27, 3) := by decide +kernel
theorem dX12_isOwn_142 : decode cX12_isOwn 142 = .ok (.lload_n 1, 1) := by decide +kernel
theorem dX12_isOwn_143 : decode cX12_isOwn 143 = .ok (.ldc2_w 296, 3) := by decide +kernel
theorem dX12_isOwn_146 : decode cX12_isOwn 146 = .ok (.lcmp, 1) := by decide +kernel
theorem dX12_isOwn_147 : decode cX12_isOwn 147 = .ok (.ifCond .eq 19, 3) := by decide +kernel
theorem dX12_isOwn_150 : decode cX12_isOwn 150 = .ok (.lload_n 1, 1) := by decide +kernel
theorem dX12_isOwn_151 : decode cX12_isOwn 151 = .ok (.ldc2_w 298, 3) := by decide +kernel
theorem dX12_isOwn_154 : decode cX12_isOwn 154 = .ok (.lcmp, 1) := by decide +kernel
theorem dX12_isOwn_155 : decode cX12_isOwn 155 = .ok (.ifCond .eq 11, 3) := by decide +kernel
theorem dX12_isOwn_158 : decode cX12_isOwn 158 = .ok (.lload_n 1, 1) := by decide +kernel
theorem dX12_isOwn_159 : decode cX12_isOwn 159 = .ok (.ldc2_w 300, 3) := by decide +kernel
theorem dX12_isOwn_162 : decode cX12_isOwn 162 = .ok (.lcmp, 1) := by decide +kernel
theorem dX12_isOwn_163 : decode cX12_isOwn 163 = .ok (.ifCond .ne 5, 3) := by decide +kernel
theorem dX12_isOwn_166 : decode cX12_isOwn 166 = .ok (.iconst 1, 1) := by decide +kernel
theorem dX12_isOwn_167 : decode cX12_isOwn 167 = .ok (.ireturn, 1) := by decide +kernel
theorem dX12_isOwn_168 : decode cX12_isOwn 168 = .ok (.lload_n 1, 1) := by decide +kernel
theorem dX12_isOwn_169 : decode cX12_isOwn 169 = .ok (.ldc2_w 302, 3) := by decide +kernel
theorem dX12_isOwn_172 : decode cX12_isOwn 172 = .ok (.lcmp, 1) := by decide +kernel
theorem dX12_isOwn_173 : decode cX12_isOwn 173 = .ok (.ifCond .eq 35, 3) := by decide +kernel
theorem dX12_isOwn_176 : decode cX12_isOwn 176 = .ok (.lload_n 1, 1) := by decide +kernel
theorem dX12_isOwn_177 : decode cX12_isOwn 177 = .ok (.ldc2_w 304, 3) := by decide +kernel
theorem dX12_isOwn_180 : decode cX12_isOwn 180 = .ok (.lcmp, 1) := by decide +kernel
theorem dX12_isOwn_181 : decode cX12_isOwn 181 = .ok (.ifCond .eq 27, 3) := by decide +kernel
theorem dX12_isOwn_184 : decode cX12_isOwn 184 = .ok (.lload_n 1, 1) := by decide +kernel
theorem dX12_isOwn_185 : decode cX12_isOwn 185 = .ok (.ldc2_w 306, 3) := by decide +kernel
theorem dX12_isOwn_188 : decode cX12_isOwn 188 = .ok (.lcmp, 1) := by decide +kernel
theorem dX12_isOwn_189 : decode cX12_isOwn 189 = .ok (.ifCond .eq 19, 3) := by decide +kernel
theorem dX12_isOwn_192 : decode cX12_isOwn 192 = .ok (.lload_n 1, 1) := by decide +kernel
theorem dX12_isOwn_193 : decode cX12_isOwn 193 = .ok (.ldc2_w 308, 3) := by decide +kernel
theorem dX12_isOwn_196 : decode cX12_isOwn 196 = .ok (.lcmp, 1) := by decide +kernel
theorem dX12_isOwn_197 : decode cX12_isOwn 197 = .ok (.ifCond .eq 11, 3) := by decide +kernel
theorem dX12_isOwn_200 : decode cX12_isOwn 200 = .ok (.lload_n 1, 1) := by decide +kernel
theorem dX12_isOwn_201 : decode cX12_isOwn 201 = .ok (.ldc2_w 310, 3) := by decide +kernel
theorem dX12_isOwn_204 : decode cX12_isOwn 204 = .ok (.lcmp, 1) := by decide +kernel
theorem dX12_isOwn_205 : decode cX12_isOwn 205 = .ok (.ifCond .ne 5, 3) := by decide +kernel
theorem dX12_isOwn_208 : decode cX12_isOwn 208 = .ok (.iconst 1, 1) := by decide +kernel
theorem dX12_isOwn_209 : decode cX12_isOwn 209 = .ok (.ireturn, 1) := by decide +kernel
theorem dX12_isOwn_210 : decode cX12_isOwn 210 = .ok (.lload_n 1, 1) := by decide +kernel
theorem dX12_isOwn_211 : decode cX12_isOwn 211 = .ok (.ldc2_w 312, 3) := by decide +kernel
theorem dX12_isOwn_214 : decode cX12_isOwn 214 = .ok (.lcmp, 1) := by decide +kernel
theorem dX12_isOwn_215 : decode cX12_isOwn 215 = .ok (.ifCond .ne 5, 3) := by decide +kernel
theorem dX12_isOwn_218 : decode cX12_isOwn 218 = .ok (.iconst 1, 1) := by decide +kernel
theorem dX12_isOwn_219 : decode cX12_isOwn 219 = .ok (.ireturn, 1) := by decide +kernel
theorem dX12_isOwn_220 : decode cX12_isOwn 220 = .ok (.iconst 0, 1) := by decide +kernel
theorem dX12_isOwn_221 : decode cX12_isOwn 221 = .ok (.ireturn, 1) := by decide +kernel
noncomputable def tX12_isOwn_0 : List (Nat × zF) := [(0, (zll4 1 1)), (1, (zst 3 (zp (.long (1903518073))))), (4, (zst 1 zcm)), (5, (z_if_eq 40)), (8, (zll4 1 1)), (9, (zst 3 (zp (.long (25209))))), (12, (zst 1 zcm)), (13, (z_if_eq 40)), (16, (zll4 1 1)), (17, (zst 3 (zp (.long (1885430629))))), (20, (zst 1 zcm)), (21, (z_if_eq 40))]
theorem kX12_isOwn_0 : ∀ q ∈ tX12_isOwn_0, zOk zg iX12_isOwn q.1 q.2 := (z_c (ok_lload_n dX12_isOwn_0 rfl) (z_c (ok_ldc2 (v := (1903518073)) zw_783 dX12_isOwn_1) (z_c (ok_lcmp dX12_isOwn_4) (z_c (ok_if_eq dX12_isOwn_5 (by decide)) (z_c (ok_lload_n dX12_isOwn_8 rfl) (z_c (ok_ldc2 (v := (25209)) zw_784 dX12_isOwn_9) (z_c (ok_lcmp dX12_isOwn_12) (z_c (ok_if_eq dX12_isOwn_13 (by decide)) (z_c (ok_lload_n dX12_isOwn_16 rfl) (z_c (ok_ldc2 (v := (1885430629)) zw_785 dX12_isOwn_17) (z_c (ok_lcmp dX12_isOwn_20) (z_c (ok_if_eq dX12_isOwn_21 (by decide)) z_n))))))))))))
noncomputable def tX12_isOwn_1 : List (Nat × zF) := [(24, (zll4 1 1)), (25, (zst 3 (zp (.long (1734437989))))), (28, (zst 1 zcm)), (29, (z_if_eq 40)), (32, (zll4 1 1)), (33, (zst 3 (zp (.long (2002873452))))), (36, (zst 1 zcm)), (37, (z_if_ne 42)), (40, (zst 1 (zp (.int (1))))), (41, (zri true)), (42, (zll4 1 1)), (43, (zst 3 (zp (.long (1818321771)))))]
theorem kX12_isOwn_1 : ∀ q ∈ tX12_isOwn_1, zOk zg iX12_isOwn q.1 q.2 := (z_c (ok_lload_n dX12_isOwn_24 rfl) (z_c (ok_ldc2 (v := (1734437989)) zw_786 dX12_isOwn_25) (z_c (ok_lcmp dX12_isOwn_28) (z_c (ok_if_eq dX12_isOwn_29 (by decide)) (z_c (ok_lload_n dX12_isOwn_32 rfl) (z_c (ok_ldc2 (v := (2002873452)) zw_787 dX12_isOwn_33) (z_c (ok_lcmp dX12_isOwn_36) (z_c (ok_if_ne dX12_isOwn_37 (by decide)) (z_c (ok_iconst (v := (1)) dX12_isOwn_40 (by decide)) (z_c (ok_zreturn rfl dX12_isOwn_41) (z_c (ok_lload_n dX12_isOwn_42 rfl) (z_c (ok_ldc2 (v := (1818321771)) zw_788 dX12_isOwn_43) z_n))))))))))))
noncomputable def tX12_isOwn_2 : List (Nat × zF) := [(46, (zst 1 zcm)), (47, (z_if_eq 82)), (50, (zll4 1 1)), (51, (zst 3 (zp (.long (24948))))), (54, (zst 1 zcm)), (55, (z_if_eq 82)), (58, (zll4 1 1)), (59, (zst 3 (zp (.long (6845797))))), (62, (zst 1 zcm)), (63, (z_if_eq 82)), (66, (zll4 1 1)), (67, (zst 3 (zp (.long (1751738216)))))]
theorem kX12_isOwn_2 : ∀ q ∈ tX12_isOwn_2, zOk zg iX12_isOwn q.1 q.2 := (z_c (ok_lcmp dX12_isOwn_46) (z_c (ok_if_eq dX12_isOwn_47 (by decide)) (z_c (ok_lload_n dX12_isOwn_50 rfl) (z_c (ok_ldc2 (v := (24948)) zw_789 dX12_isOwn_51) (z_c (ok_lcmp dX12_isOwn_54) (z_c (ok_if_eq dX12_isOwn_55 (by decide)) (z_c (ok_lload_n dX12_isOwn_58 rfl) (z_c (ok_ldc2 (v := (6845797)) zw_790 dX12_isOwn_59) (z_c (ok_lcmp dX12_isOwn_62) (z_c (ok_if_eq dX12_isOwn_63 (by decide)) (z_c (ok_lload_n dX12_isOwn_66 rfl) (z_c (ok_ldc2 (v := (1751738216)) zw_791 dX12_isOwn_67) z_n))))))))))))
noncomputable def tX12_isOwn_3 : List (Nat × zF) := [(70, (zst 1 zcm)), (71, (z_if_eq 82)), (74, (zll4 1 1)), (75, (zst 3 (zp (.long (6840691))))), (78, (zst 1 zcm)), (79, (z_if_ne 84)), (82, (zst 1 (zp (.int (1))))), (83, (zri true)), (84, (zll4 1 1)), (85, (zst 3 (zp (.long (1718578283))))), (88, (zst 1 zcm)), (89, (z_if_eq 124))]
theorem kX12_isOwn_3 : ∀ q ∈ tX12_isOwn_3, zOk zg iX12_isOwn q.1 q.2 := (z_c (ok_lcmp dX12_isOwn_70) (z_c (ok_if_eq dX12_isOwn_71 (by decide)) (z_c (ok_lload_n dX12_isOwn_74 rfl) (z_c (ok_ldc2 (v := (6840691)) zw_792 dX12_isOwn_75) (z_c (ok_lcmp dX12_isOwn_78) (z_c (ok_if_ne dX12_isOwn_79 (by decide)) (z_c (ok_iconst (v := (1)) dX12_isOwn_82 (by decide)) (z_c (ok_zreturn rfl dX12_isOwn_83) (z_c (ok_lload_n dX12_isOwn_84 rfl) (z_c (ok_ldc2 (v := (1718578283)) zw_793 dX12_isOwn_85) (z_c (ok_lcmp dX12_isOwn_88) (z_c (ok_if_eq dX12_isOwn_89 (by decide)) z_n))))))))))))
noncomputable def tX12_isOwn_4 : List (Nat × zF) := [(92, (zll4 1 1)), (93, (zst 3 (zp (.long (1752132965))))), (96, (zst 1 zcm)), (97, (z_if_eq 124)), (100, (zll4 1 1)), (101, (zst 3 (zp (.long (444200875891))))), (104, (zst 1 zcm)), (105, (z_if_eq 124)), (108, (zll4 1 1)), (109, (zst 3 (zp (.long (439855506547))))), (112, (zst 1 zcm)), (113, (z_if_eq 124))]
theorem kX12_isOwn_4 : ∀ q ∈ tX12_isOwn_4, zOk zg iX12_isOwn q.1 q.2 := (z_c (ok_lload_n dX12_isOwn_92 rfl) (z_c (ok_ldc2 (v := (1752132965)) zw_794 dX12_isOwn_93) (z_c (ok_lcmp dX12_isOwn_96) (z_c (ok_if_eq dX12_isOwn_97 (by decide)) (z_c (ok_lload_n dX12_isOwn_100 rfl) (z_c (ok_ldc2 (v := (444200875891)) zw_795 dX12_isOwn_101) (z_c (ok_lcmp dX12_isOwn_104) (z_c (ok_if_eq dX12_isOwn_105 (by decide)) (z_c (ok_lload_n dX12_isOwn_108 rfl) (z_c (ok_ldc2 (v := (439855506547)) zw_796 dX12_isOwn_109) (z_c (ok_lcmp dX12_isOwn_112) (z_c (ok_if_eq dX12_isOwn_113 (by decide)) z_n))))))))))))
noncomputable def tX12_isOwn_5 : List (Nat × zF) := [(116, (zll4 1 1)), (117, (zst 3 (zp (.long (465726301555))))), (120, (zst 1 zcm)), (121, (z_if_ne 126)), (124, (zst 1 (zp (.int (1))))), (125, (zri true)), (126, (zll4 1 1)), (127, (zst 3 (zp (.long (474214787188))))), (130, (zst 1 zcm)), (131, (z_if_eq 166)), (134, (zll4 1 1)), (135, (zst 3 (zp (.long (6383461)))))]
theorem kX12_isOwn_5 : ∀ q ∈ tX12_isOwn_5, zOk zg iX12_isOwn q.1 q.2 := (z_c (ok_lload_n dX12_isOwn_116 rfl) (z_c (ok_ldc2 (v := (465726301555)) zw_797 dX12_isOwn_117) (z_c (ok_lcmp dX12_isOwn_120) (z_c (ok_if_ne dX12_isOwn_121 (by decide)) (z_c (ok_iconst (v := (1)) dX12_isOwn_124 (by decide)) (z_c (ok_zreturn rfl dX12_isOwn_125) (z_c (ok_lload_n dX12_isOwn_126 rfl) (z_c (ok_ldc2 (v := (474214787188)) zw_798 dX12_isOwn_127) (z_c (ok_lcmp dX12_isOwn_130) (z_c (ok_if_eq dX12_isOwn_131 (by decide)) (z_c (ok_lload_n dX12_isOwn_134 rfl) (z_c (ok_ldc2 (v := (6383461)) zw_799 dX12_isOwn_135) z_n))))))))))))
noncomputable def tX12_isOwn_6 : List (Nat × zF) := [(138, (zst 1 zcm)), (139, (z_if_eq 166)), (142, (zll4 1 1)), (143, (zst 3 (zp (.long (1819243380))))), (146, (zst 1 zcm)), (147, (z_if_eq 166)), (150, (zll4 1 1)), (151, (zst 3 (zp (.long (1852137842))))), (154, (zst 1 zcm)), (155, (z_if_eq 166)), (158, (zll4 1 1)), (159, (zst 3 (zp (.long (26982)))))]
theorem kX12_isOwn_6 : ∀ q ∈ tX12_isOwn_6, zOk zg iX12_isOwn q.1 q.2 := (z_c (ok_lcmp dX12_isOwn_138) (z_c (ok_if_eq dX12_isOwn_139 (by decide)) (z_c (ok_lload_n dX12_isOwn_142 rfl) (z_c (ok_ldc2 (v := (1819243380)) zw_800 dX12_isOwn_143) (z_c (ok_lcmp dX12_isOwn_146) (z_c (ok_if_eq dX12_isOwn_147 (by decide)) (z_c (ok_lload_n dX12_isOwn_150 rfl) (z_c (ok_ldc2 (v := (1852137842)) zw_801 dX12_isOwn_151) (z_c (ok_lcmp dX12_isOwn_154) (z_c (ok_if_eq dX12_isOwn_155 (by decide)) (z_c (ok_lload_n dX12_isOwn_158 rfl) (z_c (ok_ldc2 (v := (26982)) zw_802 dX12_isOwn_159) z_n))))))))))))
noncomputable def tX12_isOwn_7 : List (Nat × zF) := [(162, (zst 1 zcm)), (163, (z_if_ne 168)), (166, (zst 1 (zp (.int (1))))), (167, (zri true)), (168, (zll4 1 1)), (169, (zst 3 (zp (.long (28530))))), (172, (zst 1 zcm)), (173, (z_if_eq 208)), (176, (zll4 1 1)), (177, (zst 3 (zp (.long (6385252))))), (180, (zst 1 zcm)), (181, (z_if_eq 208))]
theorem kX12_isOwn_7 : ∀ q ∈ tX12_isOwn_7, zOk zg iX12_isOwn q.1 q.2 := (z_c (ok_lcmp dX12_isOwn_162) (z_c (ok_if_ne dX12_isOwn_163 (by decide)) (z_c (ok_iconst (v := (1)) dX12_isOwn_166 (by decide)) (z_c (ok_zreturn rfl dX12_isOwn_167) (z_c (ok_lload_n dX12_isOwn_168 rfl) (z_c (ok_ldc2 (v := (28530)) zw_803 dX12_isOwn_169) (z_c (ok_lcmp dX12_isOwn_172) (z_c (ok_if_eq dX12_isOwn_173 (by decide)) (z_c (ok_lload_n dX12_isOwn_176 rfl) (z_c (ok_ldc2 (v := (6385252)) zw_804 dX12_isOwn_177) (z_c (ok_lcmp dX12_isOwn_180) (z_c (ok_if_eq dX12_isOwn_181 (by decide)) z_n))))))))))))
noncomputable def tX12_isOwn_8 : List (Nat × zF) := [(184, (zll4 1 1)), (185, (zst 3 (zp (.long (7237492))))), (188, (zst 1 zcm)), (189, (z_if_eq 208)), (192, (zll4 1 1)), (193, (zst 3 (zp (.long (6384748))))), (196, (zst 1 zcm)), (197, (z_if_eq 208)), (200, (zll4 1 1)), (201, (zst 3 (zp (.long (7170414))))), (204, (zst 1 zcm)), (205, (z_if_ne 210))]
theorem kX12_isOwn_8 : ∀ q ∈ tX12_isOwn_8, zOk zg iX12_isOwn q.1 q.2 := (z_c (ok_lload_n dX12_isOwn_184 rfl) (z_c (ok_ldc2 (v := (7237492)) zw_805 dX12_isOwn_185) (z_c (ok_lcmp dX12_isOwn_188) (z_c (ok_if_eq dX12_isOwn_189 (by decide)) (z_c (ok_lload_n dX12_isOwn_192 rfl) (z_c (ok_ldc2 (v := (6384748)) zw_806 dX12_isOwn_193) (z_c (ok_lcmp dX12_isOwn_196) (z_c (ok_if_eq dX12_isOwn_197 (by decide)) (z_c (ok_lload_n dX12_isOwn_200 rfl) (z_c (ok_ldc2 (v := (7170414)) zw_807 dX12_isOwn_201) (z_c (ok_lcmp dX12_isOwn_204) (z_c (ok_if_ne dX12_isOwn_205 (by decide)) z_n))))))))))))
noncomputable def tX12_isOwn_9 : List (Nat × zF) := [(208, (zst 1 (zp (.int (1))))), (209, (zri true)), (210, (zll4 1 1)), (211, (zst 3 (zp (.long (7168376))))), (214, (zst 1 zcm)), (215, (z_if_ne 220)), (218, (zst 1 (zp (.int (1))))), (219, (zri true)), (220, (zst 1 (zp (.int (0))))), (221, (zri true))]
theorem kX12_isOwn_9 : ∀ q ∈ tX12_isOwn_9, zOk zg iX12_isOwn q.1 q.2 := (z_c (ok_iconst (v := (1)) dX12_isOwn_208 (by decide)) (z_c (ok_zreturn rfl dX12_isOwn_209) (z_c (ok_lload_n dX12_isOwn_210 rfl) (z_c (ok_ldc2 (v := (7168376)) zw_808 dX12_isOwn_211) (z_c (ok_lcmp dX12_isOwn_214) (z_c (ok_if_ne dX12_isOwn_215 (by decide)) (z_c (ok_iconst (v := (1)) dX12_isOwn_218 (by decide)) (z_c (ok_zreturn rfl dX12_isOwn_219) (z_c (ok_iconst (v := (0)) dX12_isOwn_220 (by decide)) (z_c (ok_zreturn rfl dX12_isOwn_221) z_n))))))))))
noncomputable def tX12_isOwn : zT := [(24, tX12_isOwn_0), (46, tX12_isOwn_1), (70, tX12_isOwn_2), (92, tX12_isOwn_3), (116, tX12_isOwn_4), (138, tX12_isOwn_5), (162, tX12_isOwn_6), (184, tX12_isOwn_7), (208, tX12_isOwn_8), (100000, tX12_isOwn_9)]
theorem kX12_isOwn : zTok zg iX12_isOwn tX12_isOwn := (z_t kX12_isOwn_0 (z_t kX12_isOwn_1 (z_t kX12_isOwn_2 (z_t kX12_isOwn_3 (z_t kX12_isOwn_4 (z_t kX12_isOwn_5 (z_t kX12_isOwn_6 (z_t kX12_isOwn_7 (z_t kX12_isOwn_8 (z_t kX12_isOwn_9 z_tn))))))))))
theorem dX12_thingNamed_0 : decode cX12_thingNamed 0 = .ok (.iconst 0, 1) := by decide +kernel
theorem dX12_thingNamed_1 : decode cX12_thingNamed 1 = .ok (.istore_n 3, 1) := by decide +kernel
theorem dX12_thingNamed_2 : decode cX12_thingNamed 2 = .ok (.iload_n 3, 1) := by decide +kernel
theorem dX12_thingNamed_3 : decode cX12_thingNamed 3 = .ok (.aload_n 0, 1) := by decide +kernel
theorem dX12_thingNamed_4 : decode cX12_thingNamed 4 = .ok (.getfield 69, 3) := by decide +kernel
theorem dX12_thingNamed_7 : decode cX12_thingNamed 7 = .ok (.aload_n 0, 1) := by decide +kernel
theorem dX12_thingNamed_8 : decode cX12_thingNamed 8 = .ok (.getfield 115, 3) := by decide +kernel
theorem dX12_thingNamed_11 : decode cX12_thingNamed 11 = .ok (.iaload, 1) := by decide +kernel
theorem dX12_thingNamed_12 : decode cX12_thingNamed 12 = .ok (.if_icmp .ge 30, 3) := by decide +kernel
theorem dX12_thingNamed_15 : decode cX12_thingNamed 15 = .ok (.aload_n 0, 1) := by decide +kernel
theorem dX12_thingNamed_16 : decode cX12_thingNamed 16 = .ok (.getfield 105, 3) := by decide +kernel
theorem dX12_thingNamed_19 : decode cX12_thingNamed 19 = .ok (.bipush 9, 2) := by decide +kernel
theorem dX12_thingNamed_21 : decode cX12_thingNamed 21 = .ok (.aload_n 0, 1) := by decide +kernel
theorem dX12_thingNamed_22 : decode cX12_thingNamed 22 = .ok (.getfield 115, 3) := by decide +kernel
theorem dX12_thingNamed_25 : decode cX12_thingNamed 25 = .ok (.imul, 1) := by decide +kernel
theorem dX12_thingNamed_26 : decode cX12_thingNamed 26 = .ok (.iload_n 3, 1) := by decide +kernel
theorem dX12_thingNamed_27 : decode cX12_thingNamed 27 = .ok (.iadd, 1) := by decide +kernel
theorem dX12_thingNamed_28 : decode cX12_thingNamed 28 = .ok (.laload, 1) := by decide +kernel
theorem dX12_thingNamed_29 : decode cX12_thingNamed 29 = .ok (.lload_n 1, 1) := by decide +kernel
theorem dX12_thingNamed_30 : decode cX12_thingNamed 30 = .ok (.lcmp, 1) := by decide +kernel
theorem dX12_thingNamed_31 : decode cX12_thingNamed 31 = .ok (.ifCond .ne 5, 3) := by decide +kernel
theorem dX12_thingNamed_34 : decode cX12_thingNamed 34 = .ok (.iload_n 3, 1) := by decide +kernel
theorem dX12_thingNamed_35 : decode cX12_thingNamed 35 = .ok (.ireturn, 1) := by decide +kernel
theorem dX12_thingNamed_36 : decode cX12_thingNamed 36 = .ok (.iinc 3 1, 3) := by decide +kernel
theorem dX12_thingNamed_39 : decode cX12_thingNamed 39 = .ok (.goto (-37), 3) := by decide +kernel
theorem dX12_thingNamed_42 : decode cX12_thingNamed 42 = .ok (.iconst (-1), 1) := by decide +kernel
theorem dX12_thingNamed_43 : decode cX12_thingNamed 43 = .ok (.ireturn, 1) := by decide +kernel
noncomputable def tX12_thingNamed_0 : List (Nat × zF) := [(0, (zst 1 (zp (.int (0))))), (1, (zsi4 4 3 1)), (2, (zli4 3 1)), (3, (zla4 0 1)), (4, (zgf 12 19)), (7, (zla4 0 1)), (8, (zgf 12 34)), (11, (zal 0)), (12, (z_ic_ge 42)), (15, (zla4 0 1)), (16, (zgf 12 31)), (19, (zst 2 (zp (.int (9)))))]
theorem kX12_thingNamed_0 : ∀ q ∈ tX12_thingNamed_0, zOk zg iX12_thingNamed q.1 q.2 := (z_c (ok_iconst (v := (0)) dX12_thingNamed_0 (by decide)) (z_c (ok_istore_n dX12_thingNamed_1 rfl) (z_c (ok_iload_n dX12_thingNamed_2 rfl) (z_c (ok_aload_n dX12_thingNamed_3 rfl) (z_c (ok_getf (C := RX12) (T := TX12) (N := 73) rfl (by decide) zinX12 rfl zw_706 dX12_thingNamed_4) (z_c (ok_aload_n dX12_thingNamed_7 rfl) (z_c (ok_getf (C := RX12) (T := TX12) (N := 73) rfl (by decide) zinX12 rfl zw_721 dX12_thingNamed_8) (z_c (ok_iaload rfl dX12_thingNamed_11) (z_c (ok_icmp_ge dX12_thingNamed_12 (by decide)) (z_c (ok_aload_n dX12_thingNamed_15 rfl) (z_c (ok_getf (C := RX12) (T := TX12) (N := 73) rfl (by decide) zinX12 rfl zw_718 dX12_thingNamed_16) (z_c (ok_bipush (v := (9)) dX12_thingNamed_19 (by decide)) z_n))))))))))))
noncomputable def tX12_thingNamed_1 : List (Nat × zF) := [(21, (zla4 0 1)), (22, (zgf 12 34)), (25, (zst 1 z_imul)), (26, (zli4 3 1)), (27, (zst 1 z_iadd)), (28, (zll 1)), (29, (zll4 1 1)), (30, (zst 1 zcm)), (31, (z_if_ne 36)), (34, (zli4 3 1)), (35, (zri false)), (36, (zin4 4 3 (1)))]
theorem kX12_thingNamed_1 : ∀ q ∈ tX12_thingNamed_1, zOk zg iX12_thingNamed q.1 q.2 := (z_c (ok_aload_n dX12_thingNamed_21 rfl) (z_c (ok_getf (C := RX12) (T := TX12) (N := 73) rfl (by decide) zinX12 rfl zw_721 dX12_thingNamed_22) (z_c (ok_imul dX12_thingNamed_25) (z_c (ok_iload_n dX12_thingNamed_26 rfl) (z_c (ok_iadd dX12_thingNamed_27) (z_c (ok_laload rfl dX12_thingNamed_28) (z_c (ok_lload_n dX12_thingNamed_29 rfl) (z_c (ok_lcmp dX12_thingNamed_30) (z_c (ok_if_ne dX12_thingNamed_31 (by decide)) (z_c (ok_iload_n dX12_thingNamed_34 rfl) (z_c (ok_ireturn rfl dX12_thingNamed_35) (z_c (ok_iinc (v := (1)) dX12_thingNamed_36 (by decide)) z_n))))))))))))
noncomputable def tX12_thingNamed_2 : List (Nat × zF) := [(39, (zgt 2)), (42, (zst 1 (zp (.int ((-1)))))), (43, (zri false))]
theorem kX12_thingNamed_2 : ∀ q ∈ tX12_thingNamed_2, zOk zg iX12_thingNamed q.1 q.2 := (z_c (ok_goto dX12_thingNamed_39 (by decide)) (z_c (ok_iconst (v := (-1)) dX12_thingNamed_42 (by decide)) (z_c (ok_ireturn rfl dX12_thingNamed_43) z_n)))
noncomputable def tX12_thingNamed : zT := [(21, tX12_thingNamed_0), (39, tX12_thingNamed_1), (100000, tX12_thingNamed_2)]
theorem kX12_thingNamed : zTok zg iX12_thingNamed tX12_thingNamed := (z_t kX12_thingNamed_0 (z_t kX12_thingNamed_1 (z_t kX12_thingNamed_2 z_tn)))
theorem dX12_isNamed_0 : decode cX12_isNamed 0 = .ok (.iconst 0, 1) := by decide +kernel
theorem dX12_isNamed_1 : decode cX12_isNamed 1 = .ok (.istore_n 3, 1) := by decide +kernel
theorem dX12_isNamed_2 : decode cX12_isNamed 2 = .ok (.iload_n 3, 1) := by decide +kernel
theorem dX12_isNamed_3 : decode cX12_isNamed 3 = .ok (.aload_n 0, 1) := by decide +kernel
theorem dX12_isNamed_4 : decode cX12_isNamed 4 = .ok (.getfield 84, 3) := by decide +kernel
theorem dX12_isNamed_7 : decode cX12_isNamed 7 = .ok (.aload_n 0, 1) := by decide +kernel
theorem dX12_isNamed_8 : decode cX12_isNamed 8 = .ok (.getfield 115, 3) := by decide +kernel
theorem dX12_isNamed_11 : decode cX12_isNamed 11 = .ok (.iaload, 1) := by decide +kernel
theorem dX12_isNamed_12 : decode cX12_isNamed 12 = .ok (.if_icmp .ge 30, 3) := by decide +kernel
theorem dX12_isNamed_15 : decode cX12_isNamed 15 = .ok (.aload_n 0, 1) := by decide +kernel
theorem dX12_isNamed_16 : decode cX12_isNamed 16 = .ok (.getfield 109, 3) := by decide +kernel
theorem dX12_isNamed_19 : decode cX12_isNamed 19 = .ok (.bipush 6, 2) := by decide +kernel
theorem dX12_isNamed_21 : decode cX12_isNamed 21 = .ok (.aload_n 0, 1) := by decide +kernel
theorem dX12_isNamed_22 : decode cX12_isNamed 22 = .ok (.getfield 115, 3) := by decide +kernel
theorem dX12_isNamed_25 : decode cX12_isNamed 25 = .ok (.imul, 1) := by decide +kernel
theorem dX12_isNamed_26 : decode cX12_isNamed 26 = .ok (.iload_n 3, 1) := by decide +kernel
theorem dX12_isNamed_27 : decode cX12_isNamed 27 = .ok (.iadd, 1) := by decide +kernel
theorem dX12_isNamed_28 : decode cX12_isNamed 28 = .ok (.laload, 1) := by decide +kernel
theorem dX12_isNamed_29 : decode cX12_isNamed 29 = .ok (.lload_n 1, 1) := by decide +kernel
theorem dX12_isNamed_30 : decode cX12_isNamed 30 = .ok (.lcmp, 1) := by decide +kernel
theorem dX12_isNamed_31 : decode cX12_isNamed 31 = .ok (.ifCond .ne 5, 3) := by decide +kernel
theorem dX12_isNamed_34 : decode cX12_isNamed 34 = .ok (.iconst 1, 1) := by decide +kernel
theorem dX12_isNamed_35 : decode cX12_isNamed 35 = .ok (.ireturn, 1) := by decide +kernel
theorem dX12_isNamed_36 : decode cX12_isNamed 36 = .ok (.iinc 3 1, 3) := by decide +kernel
theorem dX12_isNamed_39 : decode cX12_isNamed 39 = .ok (.goto (-37), 3) := by decide +kernel
theorem dX12_isNamed_42 : decode cX12_isNamed 42 = .ok (.aload_n 0, 1) := by decide +kernel
theorem dX12_isNamed_43 : decode cX12_isNamed 43 = .ok (.lload_n 1, 1) := by decide +kernel
theorem dX12_isNamed_44 : decode cX12_isNamed 44 = .ok (.invokevirtual 314, 3) := by decide +kernel
theorem dX12_isNamed_47 : decode cX12_isNamed 47 = .ok (.iconst (-1), 1) := by decide +kernel
theorem dX12_isNamed_48 : decode cX12_isNamed 48 = .ok (.if_icmp .eq 7, 3) := by decide +kernel
theorem dX12_isNamed_51 : decode cX12_isNamed 51 = .ok (.iconst 1, 1) := by decide +kernel
theorem dX12_isNamed_52 : decode cX12_isNamed 52 = .ok (.goto 4, 3) := by decide +kernel
theorem dX12_isNamed_55 : decode cX12_isNamed 55 = .ok (.iconst 0, 1) := by decide +kernel
theorem dX12_isNamed_56 : decode cX12_isNamed 56 = .ok (.ireturn, 1) := by decide +kernel
noncomputable def tX12_isNamed_0 : List (Nat × zF) := [(0, (zst 1 (zp (.int (0))))), (1, (zsi4 4 3 1)), (2, (zli4 3 1)), (3, (zla4 0 1)), (4, (zgf 12 24)), (7, (zla4 0 1)), (8, (zgf 12 34)), (11, (zal 0)), (12, (z_ic_ge 42)), (15, (zla4 0 1)), (16, (zgf 12 32)), (19, (zst 2 (zp (.int (6)))))]
theorem kX12_isNamed_0 : ∀ q ∈ tX12_isNamed_0, zOk zg iX12_isNamed q.1 q.2 := (z_c (ok_iconst (v := (0)) dX12_isNamed_0 (by decide)) (z_c (ok_istore_n dX12_isNamed_1 rfl) (z_c (ok_iload_n dX12_isNamed_2 rfl) (z_c (ok_aload_n dX12_isNamed_3 rfl) (z_c (ok_getf (C := RX12) (T := TX12) (N := 73) rfl (by decide) zinX12 rfl zw_711 dX12_isNamed_4) (z_c (ok_aload_n dX12_isNamed_7 rfl) (z_c (ok_getf (C := RX12) (T := TX12) (N := 73) rfl (by decide) zinX12 rfl zw_721 dX12_isNamed_8) (z_c (ok_iaload rfl dX12_isNamed_11) (z_c (ok_icmp_ge dX12_isNamed_12 (by decide)) (z_c (ok_aload_n dX12_isNamed_15 rfl) (z_c (ok_getf (C := RX12) (T := TX12) (N := 73) rfl (by decide) zinX12 rfl zw_719 dX12_isNamed_16) (z_c (ok_bipush (v := (6)) dX12_isNamed_19 (by decide)) z_n))))))))))))
noncomputable def tX12_isNamed_1 : List (Nat × zF) := [(21, (zla4 0 1)), (22, (zgf 12 34)), (25, (zst 1 z_imul)), (26, (zli4 3 1)), (27, (zst 1 z_iadd)), (28, (zll 1)), (29, (zll4 1 1)), (30, (zst 1 zcm)), (31, (z_if_ne 36)), (34, (zst 1 (zp (.int (1))))), (35, (zri true)), (36, (zin4 4 3 (1)))]
theorem kX12_isNamed_1 : ∀ q ∈ tX12_isNamed_1, zOk zg iX12_isNamed q.1 q.2 := (z_c (ok_aload_n dX12_isNamed_21 rfl) (z_c (ok_getf (C := RX12) (T := TX12) (N := 73) rfl (by decide) zinX12 rfl zw_721 dX12_isNamed_22) (z_c (ok_imul dX12_isNamed_25) (z_c (ok_iload_n dX12_isNamed_26 rfl) (z_c (ok_iadd dX12_isNamed_27) (z_c (ok_laload rfl dX12_isNamed_28) (z_c (ok_lload_n dX12_isNamed_29 rfl) (z_c (ok_lcmp dX12_isNamed_30) (z_c (ok_if_ne dX12_isNamed_31 (by decide)) (z_c (ok_iconst (v := (1)) dX12_isNamed_34 (by decide)) (z_c (ok_zreturn rfl dX12_isNamed_35) (z_c (ok_iinc (v := (1)) dX12_isNamed_36 (by decide)) z_n))))))))))))
noncomputable def tX12_isNamed_2 : List (Nat × zF) := [(39, (zgt 2)), (42, (zla4 0 1)), (43, (zll4 1 1)), (44, (zcv 178 1 12)), (47, (zst 1 (zp (.int ((-1)))))), (48, (z_ic_eq 55)), (51, (zst 1 (zp (.int (1))))), (52, (zgt 56)), (55, (zst 1 (zp (.int (0))))), (56, (zri true))]
theorem kX12_isNamed_2 : ∀ q ∈ tX12_isNamed_2, zOk zg iX12_isNamed q.1 q.2 := (z_c (ok_goto dX12_isNamed_39 (by decide)) (z_c (ok_aload_n dX12_isNamed_42 rfl) (z_c (ok_lload_n dX12_isNamed_43 rfl) (z_c (ok_callV zcal_178 (q := (RX12, TX12, 73)) rfl zw_809 zw_810 zw_811 dX12_isNamed_44) (z_c (ok_iconst (v := (-1)) dX12_isNamed_47 (by decide)) (z_c (ok_icmp_eq dX12_isNamed_48 (by decide)) (z_c (ok_iconst (v := (1)) dX12_isNamed_51 (by decide)) (z_c (ok_goto dX12_isNamed_52 (by decide)) (z_c (ok_iconst (v := (0)) dX12_isNamed_55 (by decide)) (z_c (ok_zreturn rfl dX12_isNamed_56) z_n))))))))))
noncomputable def tX12_isNamed : zT := [(21, tX12_isNamed_0), (39, tX12_isNamed_1), (100000, tX12_isNamed_2)]
theorem kX12_isNamed : zTok zg iX12_isNamed tX12_isNamed := (z_t kX12_isNamed_0 (z_t kX12_isNamed_1 (z_t kX12_isNamed_2 z_tn)))
theorem dX12_number_0 : decode cX12_number 0 = .ok (.aload_n 0, 1) := by decide +kernel
theorem dX12_number_1 : decode cX12_number 1 = .ok (.invokevirtual 253, 3) := by decide +kernel
theorem dX12_number_4 : decode cX12_number 4 = .ok (.aload_n 0, 1) := by decide +kernel
theorem dX12_number_5 : decode cX12_number 5 = .ok (.getfield 36, 3) := by decide +kernel
theorem dX12_number_8 : decode cX12_number 8 = .ok (.ifCond .le 5, 3) := by decide +kernel
theorem dX12_number_11 : decode cX12_number 11 = .ok (.iconst 0, 1) := by decide +kernel
theorem dX12_number_12 : decode cX12_number 12 = .ok (.ireturn, 1) := by decide +kernel
theorem dX12_number_13 : decode cX12_number 13 = .ok (.aload_n 0, 1) := by decide +kernel
theorem dX12_number_14 : decode cX12_number 14 = .ok (.getfield 20, 3) := by decide +kernel
theorem dX12_number_17 : decode cX12_number 17 = .ok (.iconst 2, 1) := by decide +kernel
theorem dX12_number_18 : decode cX12_number 18 = .ok (.if_icmp .eq 12, 3) := by decide +kernel
theorem dX12_number_21 : decode cX12_number 21 = .ok (.aload_n 0, 1) := by decide +kernel
theorem dX12_number_22 : decode cX12_number 22 = .ok (.iconst 1, 1) := by decide +kernel
theorem dX12_number_23 : decode cX12_number 23 = .ok (.aload_n 0, 1) := by decide +kernel
theorem dX12_number_24 : decode cX12_number 24 = .ok (.getfield 23, 3) := by decide +kernel
theorem dX12_number_27 : decode cX12_number 27 = .ok (.invokevirtual 242, 3) := by decide +kernel
theorem dX12_number_30 : decode cX12_number 30 = .ok (.aload_n 0, 1) := by decide +kernel
theorem dX12_number_31 : decode cX12_number 31 = .ok (.getfield 36, 3) := by decide +kernel
theorem dX12_number_34 : decode cX12_number 34 = .ok (.ifCond .ne 24, 3) := by decide +kernel
theorem dX12_number_37 : decode cX12_number 37 = .ok (.aload_n 0, 1) := by decide +kernel
theorem dX12_number_38 : decode cX12_number 38 = .ok (.getfield 29, 3) := by decide +kernel
theorem dX12_number_41 : decode cX12_number 41 = .ok (.iload_n 1, 1) := by decide +kernel
theorem dX12_number_42 : decode cX12_number 42 = .ok (.iload_n 2, 1) := by decide +kernel
theorem dX12_number_43 : decode cX12_number 43 = .ok (.invokestatic 318, 3) := by decide +kernel
theorem dX12_number_46 : decode cX12_number 46 = .ok (.ifCond .ne 12, 3) := by decide +kernel
theorem dX12_number_49 : decode cX12_number 49 = .ok (.aload_n 0, 1) := by decide +kernel
theorem dX12_number_50 : decode cX12_number 50 = .ok (.iconst 4, 1) := by decide +kernel
theorem dX12_number_51 : decode cX12_number 51 = .ok (.aload_n 0, 1) := by decide +kernel
theorem dX12_number_52 : decode cX12_number 52 = .ok (.getfield 23, 3) := by decide +kernel
theorem dX12_number_55 : decode cX12_number 55 = .ok (.invokevirtual 242, 3) := by decide +kernel
theorem dX12_number_58 : decode cX12_number 58 = .ok (.aload_n 0, 1) := by decide +kernel
theorem dX12_number_59 : decode cX12_number 59 = .ok (.getfield 29, 3) := by decide +kernel
theorem dX12_number_62 : decode cX12_number 62 = .ok (.istore_n 3, 1) := by decide +kernel
theorem dX12_number_63 : decode cX12_number 63 = .ok (.aload_n 0, 1) := by decide +kernel
theorem dX12_number_64 : decode cX12_number 64 = .ok (.getfield 36, 3) := by decide +kernel
theorem dX12_number_67 : decode cX12_number 67 = .ok (.ifCond .ne 7, 3) := by decide +kernel
theorem dX12_number_70 : decode cX12_number 70 = .ok (.aload_n 0, 1) := by decide +kernel
theorem dX12_number_71 : decode cX12_number 71 = .ok (.invokevirtual 259, 3) := by decide +kernel
theorem dX12_number_74 : decode cX12_number 74 = .ok (.iload_n 3, 1) := by decide +kernel
theorem dX12_number_75 : decode cX12_number 75 = .ok (.ireturn, 1) := by decide +kernel
noncomputable def tX12_number_0 : List (Nat × zF) := [(0, (zla4 0 1)), (1, (zcv 172 0 12)), (4, (zla4 0 1)), (5, (zgf 12 8)), (8, (z_if_le 13)), (11, (zst 1 (zp (.int (0))))), (12, (zri false)), (13, (zla4 0 1)), (14, (zgf 12 3)), (17, (zst 1 (zp (.int (2))))), (18, (z_ic_eq 30)), (21, (zla4 0 1))]
theorem kX12_number_0 : ∀ q ∈ tX12_number_0, zOk zg iX12_number q.1 q.2 := (z_c (ok_aload_n dX12_number_0 rfl) (z_c (ok_callV zcal_172 (q := (RX12, TX12, 73)) rfl zw_774 zw_775 zw_776 dX12_number_1) (z_c (ok_aload_n dX12_number_4 rfl) (z_c (ok_getf (C := RX12) (T := TX12) (N := 73) rfl (by decide) zinX12 rfl zw_695 dX12_number_5) (z_c (ok_if_le dX12_number_8 (by decide)) (z_c (ok_iconst (v := (0)) dX12_number_11 (by decide)) (z_c (ok_ireturn rfl dX12_number_12) (z_c (ok_aload_n dX12_number_13 rfl) (z_c (ok_getf (C := RX12) (T := TX12) (N := 73) rfl (by decide) zinX12 rfl zw_690 dX12_number_14) (z_c (ok_iconst (v := (2)) dX12_number_17 (by decide)) (z_c (ok_icmp_eq dX12_number_18 (by decide)) (z_c (ok_aload_n dX12_number_21 rfl) z_n))))))))))))
noncomputable def tX12_number_1 : List (Nat × zF) := [(22, (zst 1 (zp (.int (1))))), (23, (zla4 0 1)), (24, (zgf 12 4)), (27, (zcv 169 2 12)), (30, (zla4 0 1)), (31, (zgf 12 8)), (34, (z_if_ne 58)), (37, (zla4 0 1)), (38, (zgf 12 6)), (41, (zli4 1 1)), (42, (zli4 2 1)), (43, (zcs 165 3))]
theorem kX12_number_1 : ∀ q ∈ tX12_number_1, zOk zg iX12_number q.1 q.2 := (z_c (ok_iconst (v := (1)) dX12_number_22 (by decide)) (z_c (ok_aload_n dX12_number_23 rfl) (z_c (ok_getf (C := RX12) (T := TX12) (N := 73) rfl (by decide) zinX12 rfl zw_691 dX12_number_24) (z_c (ok_callV zcal_169 (q := (RX12, TX12, 73)) rfl zw_767 zw_768 zw_769 dX12_number_27) (z_c (ok_aload_n dX12_number_30 rfl) (z_c (ok_getf (C := RX12) (T := TX12) (N := 73) rfl (by decide) zinX12 rfl zw_695 dX12_number_31) (z_c (ok_if_ne dX12_number_34 (by decide)) (z_c (ok_aload_n dX12_number_37 rfl) (z_c (ok_getf (C := RX12) (T := TX12) (N := 73) rfl (by decide) zinX12 rfl zw_693 dX12_number_38) (z_c (ok_iload_n dX12_number_41 rfl) (z_c (ok_iload_n dX12_number_42 rfl) (z_c (ok_callS zcal_165 zw_812 zw_813 dX12_number_43) z_n))))))))))))
noncomputable def tX12_number_2 : List (Nat × zF) := [(46, (z_if_ne 58)), (49, (zla4 0 1)), (50, (zst 1 (zp (.int (4))))), (51, (zla4 0 1)), (52, (zgf 12 4)), (55, (zcv 169 2 12)), (58, (zla4 0 1)), (59, (zgf 12 6)), (62, (zsi4 4 3 1)), (63, (zla4 0 1)), (64, (zgf 12 8)), (67, (z_if_ne 74))]
theorem kX12_number_2 : ∀ q ∈ tX12_number_2, zOk zg iX12_number q.1 q.2 := (z_c (ok_if_ne dX12_number_46 (by decide)) (z_c (ok_aload_n dX12_number_49 rfl) (z_c (ok_iconst (v := (4)) dX12_number_50 (by decide)) (z_c (ok_aload_n dX12_number_51 rfl) (z_c (ok_getf (C := RX12) (T := TX12) (N := 73) rfl (by decide) zinX12 rfl zw_691 dX12_number_52) (z_c (ok_callV zcal_169 (q := (RX12, TX12, 73)) rfl zw_767 zw_768 zw_769 dX12_number_55) (z_c (ok_aload_n dX12_number_58 rfl) (z_c (ok_getf (C := RX12) (T := TX12) (N := 73) rfl (by decide) zinX12 rfl zw_693 dX12_number_59) (z_c (ok_istore_n dX12_number_62 rfl) (z_c (ok_aload_n dX12_number_63 rfl) (z_c (ok_getf (C := RX12) (T := TX12) (N := 73) rfl (by decide) zinX12 rfl zw_695 dX12_number_64) (z_c (ok_if_ne dX12_number_67 (by decide)) z_n))))))))))))
noncomputable def tX12_number_3 : List (Nat × zF) := [(70, (zla4 0 1)), (71, (zcv 173 0 12)), (74, (zli4 3 1)), (75, (zri false))]
theorem kX12_number_3 : ∀ q ∈ tX12_number_3, zOk zg iX12_number q.1 q.2 := (z_c (ok_aload_n dX12_number_70 rfl) (z_c (ok_callV zcal_173 (q := (RX12, TX12, 73)) rfl zw_780 zw_781 zw_782 dX12_number_71) (z_c (ok_iload_n dX12_number_74 rfl) (z_c (ok_ireturn rfl dX12_number_75) z_n))))
noncomputable def tX12_number : zT := [(22, tX12_number_0), (46, tX12_number_1), (70, tX12_number_2), (100000, tX12_number_3)]
theorem kX12_number : zTok zg iX12_number tX12_number := (z_t kX12_number_0 (z_t kX12_number_1 (z_t kX12_number_2 (z_t kX12_number_3 z_tn))))
theorem dX12_add_0 : decode cX12_add 0 = .ok (.aload_n 0, 1) := by decide +kernel
theorem dX12_add_1 : decode cX12_add 1 = .ok (.getfield 99, 3) := by decide +kernel
theorem dX12_add_4 : decode cX12_add 4 = .ok (.sipush 1600, 3) := by decide +kernel
theorem dX12_add_7 : decode cX12_add 7 = .ok (.aload_n 0, 1) := by decide +kernel
theorem dX12_add_8 : decode cX12_add 8 = .ok (.getfield 115, 3) := by decide +kernel
theorem dX12_add_11 : decode cX12_add 11 = .ok (.imul, 1) := by decide +kernel
theorem dX12_add_12 : decode cX12_add 12 = .ok (.aload_n 0, 1) := by decide +kernel
theorem dX12_add_13 : decode cX12_add 13 = .ok (.getfield 112, 3) := by decide +kernel
theorem dX12_add_16 : decode cX12_add 16 = .ok (.iadd, 1) := by decide +kernel
theorem dX12_add_17 : decode cX12_add 17 = .ok (.iload_n 1, 1) := by decide +kernel
theorem dX12_add_18 : decode cX12_add 18 = .ok (.iastore, 1) := by decide +kernel
theorem dX12_add_19 : decode cX12_add 19 = .ok (.aload_n 0, 1) := by decide +kernel
theorem dX12_add_20 : decode cX12_add 20 = .ok (.getfield 102, 3) := by decide +kernel
theorem dX12_add_23 : decode cX12_add 23 = .ok (.sipush 1600, 3) := by decide +kernel
theorem dX12_add_26 : decode cX12_add 26 = .ok (.aload_n 0, 1) := by decide +kernel
theorem dX12_add_27 : decode cX12_add 27 = .ok (.getfield 115, 3) := by decide +kernel
theorem dX12_add_30 : decode cX12_add 30 = .ok (.imul, 1) := by decide +kernel
theorem dX12_add_31 : decode cX12_add 31 = .ok (.aload_n 0, 1) := by decide +kernel
theorem dX12_add_32 : decode cX12_add 32 = .ok (.getfield 112, 3) := by decide +kernel
theorem dX12_add_35 : decode cX12_add 35 = .ok (.iadd, 1) := by decide +kernel
theorem dX12_add_36 : decode cX12_add 36 = .ok (.iload_n 2, 1) := by decide +kernel
theorem dX12_add_37 : decode cX12_add 37 = .ok (.iastore, 1) := by decide +kernel
theorem dX12_add_38 : decode cX12_add 38 = .ok (.aload_n 0, 1) := by decide +kernel
theorem dX12_add_39 : decode cX12_add 39 = .ok (.dup, 1) := by decide +kernel
theorem dX12_add_40 : decode cX12_add 40 = .ok (.getfield 112, 3) := by decide +kernel
theorem dX12_add_43 : decode cX12_add 43 = .ok (.iconst 1, 1) := by decide +kernel
theorem dX12_add_44 : decode cX12_add 44 = .ok (.iadd, 1) := by decide +kernel
theorem dX12_add_45 : decode cX12_add 45 = .ok (.putfield 112, 3) := by decide +kernel
theorem dX12_add_48 : decode cX12_add 48 = .ok (.return_, 1) := by decide +kernel
noncomputable def tX12_add_0 : List (Nat × zF) := [(0, (zla4 0 1)), (1, (zgf 12 29)), (4, (zst 3 (zp (.int (1600))))), (7, (zla4 0 1)), (8, (zgf 12 34)), (11, (zst 1 z_imul)), (12, (zla4 0 1)), (13, (zgf 12 33)), (16, (zst 1 z_iadd)), (17, (zli4 1 1)), (18, (zas 0)), (19, (zla4 0 1))]
theorem kX12_add_0 : ∀ q ∈ tX12_add_0, zOk zg iX12_add q.1 q.2 := (z_c (ok_aload_n dX12_add_0 rfl) (z_c (ok_getf (C := RX12) (T := TX12) (N := 73) rfl (by decide) zinX12 rfl zw_716 dX12_add_1) (z_c (ok_sipush (v := (1600)) dX12_add_4 (by decide)) (z_c (ok_aload_n dX12_add_7 rfl) (z_c (ok_getf (C := RX12) (T := TX12) (N := 73) rfl (by decide) zinX12 rfl zw_721 dX12_add_8) (z_c (ok_imul dX12_add_11) (z_c (ok_aload_n dX12_add_12 rfl) (z_c (ok_getf (C := RX12) (T := TX12) (N := 73) rfl (by decide) zinX12 rfl zw_720 dX12_add_13) (z_c (ok_iadd dX12_add_16) (z_c (ok_iload_n dX12_add_17 rfl) (z_c (ok_iastore rfl dX12_add_18) (z_c (ok_aload_n dX12_add_19 rfl) z_n))))))))))))
noncomputable def tX12_add_1 : List (Nat × zF) := [(20, (zgf 12 30)), (23, (zst 3 (zp (.int (1600))))), (26, (zla4 0 1)), (27, (zgf 12 34)), (30, (zst 1 z_imul)), (31, (zla4 0 1)), (32, (zgf 12 33)), (35, (zst 1 z_iadd)), (36, (zli4 2 1)), (37, (zas 0)), (38, (zla4 0 1)), (39, (zst 1 zdu))]
theorem kX12_add_1 : ∀ q ∈ tX12_add_1, zOk zg iX12_add q.1 q.2 := (z_c (ok_getf (C := RX12) (T := TX12) (N := 73) rfl (by decide) zinX12 rfl zw_717 dX12_add_20) (z_c (ok_sipush (v := (1600)) dX12_add_23 (by decide)) (z_c (ok_aload_n dX12_add_26 rfl) (z_c (ok_getf (C := RX12) (T := TX12) (N := 73) rfl (by decide) zinX12 rfl zw_721 dX12_add_27) (z_c (ok_imul dX12_add_30) (z_c (ok_aload_n dX12_add_31 rfl) (z_c (ok_getf (C := RX12) (T := TX12) (N := 73) rfl (by decide) zinX12 rfl zw_720 dX12_add_32) (z_c (ok_iadd dX12_add_35) (z_c (ok_iload_n dX12_add_36 rfl) (z_c (ok_iastore rfl dX12_add_37) (z_c (ok_aload_n dX12_add_38 rfl) (z_c (ok_dup dX12_add_39) z_n))))))))))))
noncomputable def tX12_add_2 : List (Nat × zF) := [(40, (zgf 12 33)), (43, (zst 1 (zp (.int (1))))), (44, (zst 1 z_iadd)), (45, (zpf 12 33 (.int))), (48, zrv)]
theorem kX12_add_2 : ∀ q ∈ tX12_add_2, zOk zg iX12_add q.1 q.2 := (z_c (ok_getf (C := RX12) (T := TX12) (N := 73) rfl (by decide) zinX12 rfl zw_720 dX12_add_40) (z_c (ok_iconst (v := (1)) dX12_add_43 (by decide)) (z_c (ok_iadd dX12_add_44) (z_c (ok_putf (C := RX12) (T := TX12) (N := 73) false tyX12 tyX12_ok nmX12 rfl (by decide) zinX12 rfl zw_720 rfl (fun h => absurd h (by decide)) rfl dX12_add_45) (z_c (ok_return rfl dX12_add_48) z_n)))))
noncomputable def tX12_add : zT := [(20, tX12_add_0), (40, tX12_add_1), (100000, tX12_add_2)]
theorem kX12_add : zTok zg iX12_add tX12_add := (z_t kX12_add_0 (z_t kX12_add_1 (z_t kX12_add_2 z_tn)))
theorem dX12_rank_0 : decode cX12_rank 0 = .ok (.iload_n 0, 1) := by decide +kernel
theorem dX12_rank_1 : decode cX12_rank 1 = .ok (.bipush 42, 2) := by decide +kernel
theorem dX12_rank_3 : decode cX12_rank 3 = .ok (.if_icmp .ne 7, 3) := by decide +kernel
theorem dX12_rank_6 : decode cX12_rank 6 = .ok (.iconst 1, 1) := by decide +kernel
theorem dX12_rank_7 : decode cX12_rank 7 = .ok (.goto 63, 3) := by decide +kernel
theorem dX12_rank_10 : decode cX12_rank 10 = .ok (.iload_n 0, 1) := by decide +kernel
theorem dX12_rank_11 : decode cX12_rank 11 = .ok (.bipush 41, 2) := by decide +kernel
theorem dX12_rank_13 : decode cX12_rank 13 = .ok (.if_icmp .ne 7, 3) := by decide +kernel
theorem dX12_rank_16 : decode cX12_rank 16 = .ok (.iconst 2, 1) := by decide +kernel
theorem dX12_rank_17 : decode cX12_rank 17 = .ok (.goto 53, 3) := by decide +kernel
theorem dX12_rank_20 : decode cX12_rank 20 = .ok (.iload_n 0, 1) := by decide +kernel
theorem dX12_rank_21 : decode cX12_rank 21 = .ok (.bipush 43, 2) := by decide +kernel
theorem dX12_rank_23 : decode cX12_rank 23 = .ok (.if_icmp .ne 7, 3) := by decide +kernel
theorem dX12_rank_26 : decode cX12_rank 26 = .ok (.iconst 3, 1) := by decide +kernel
theorem dX12_rank_27 : decode cX12_rank 27 = .ok (.goto 43, 3) := by decide +kernel
theorem dX12_rank_30 : decode cX12_rank 30 = .ok (.iload_n 0, 1) := by decide +kernel
theorem dX12_rank_31 : decode cX12_rank 31 = .ok (.bipush 38, 2) := by decide +kernel
theorem dX12_rank_33 : decode cX12_rank 33 = .ok (.if_icmp .eq 15, 3) := by decide +kernel
theorem dX12_rank_36 : decode cX12_rank 36 = .ok (.iload_n 0, 1) := by decide +kernel
theorem dX12_rank_37 : decode cX12_rank 37 = .ok (.bipush 39, 2) := by decide +kernel
theorem dX12_rank_39 : decode cX12_rank 39 = .ok (.if_icmp .eq 9, 3) := by decide +kernel
theorem dX12_rank_42 : decode cX12_rank 42 = .ok (.iload_n 0, 1) := by decide +kernel
theorem dX12_rank_43 : decode cX12_rank 43 = .ok (.bipush 40, 2) := by decide +kernel
theorem dX12_rank_45 : decode cX12_rank 45 = .ok (.if_icmp .ne 7, 3) := by decide +kernel
theorem dX12_rank_48 : decode cX12_rank 48 = .ok (.iconst 4, 1) := by decide +kernel
theorem dX12_rank_49 : decode cX12_rank 49 = .ok (.goto 21, 3) := by decide +kernel
theorem dX12_rank_52 : decode cX12_rank 52 = .ok (.iload_n 0, 1) := by decide +kernel
theorem dX12_rank_53 : decode cX12_rank 53 = .ok (.bipush 31, 2) := by decide +kernel
theorem dX12_rank_55 : decode cX12_rank 55 = .ok (.if_icmp .eq 9, 3) := by decide +kernel
theorem dX12_rank_58 : decode cX12_rank 58 = .ok (.iload_n 0, 1) := by decide +kernel
theorem dX12_rank_59 : decode cX12_rank 59 = .ok (.bipush 32, 2) := by decide +kernel
theorem dX12_rank_61 : decode cX12_rank 61 = .ok (.if_icmp .ne 7, 3) := by decide +kernel
theorem dX12_rank_64 : decode cX12_rank 64 = .ok (.iconst 5, 1) := by decide +kernel
theorem dX12_rank_65 : decode cX12_rank 65 = .ok (.goto 5, 3) := by decide +kernel
theorem dX12_rank_68 : decode cX12_rank 68 = .ok (.bipush 6, 2) := by decide +kernel
theorem dX12_rank_70 : decode cX12_rank 70 = .ok (.ireturn, 1) := by decide +kernel
noncomputable def tX12_rank_0 : List (Nat × zF) := [(0, (zli4 0 1)), (1, (zst 2 (zp (.int (42))))), (3, (z_ic_ne 10)), (6, (zst 1 (zp (.int (1))))), (7, (zgt 70)), (10, (zli4 0 1)), (11, (zst 2 (zp (.int (41))))), (13, (z_ic_ne 20)), (16, (zst 1 (zp (.int (2))))), (17, (zgt 70)), (20, (zli4 0 1)), (21, (zst 2 (zp (.int (43)))))]
theorem kX12_rank_0 : ∀ q ∈ tX12_rank_0, zOk zg iX12_rank q.1 q.2 := (z_c (ok_iload_n dX12_rank_0 rfl) (z_c (ok_bipush (v := (42)) dX12_rank_1 (by decide)) (z_c (ok_icmp_ne dX12_rank_3 (by decide)) (z_c (ok_iconst (v := (1)) dX12_rank_6 (by decide)) (z_c (ok_goto dX12_rank_7 (by decide)) (z_c (ok_iload_n dX12_rank_10 rfl) (z_c (ok_bipush (v := (41)) dX12_rank_11 (by decide)) (z_c (ok_icmp_ne dX12_rank_13 (by decide)) (z_c (ok_iconst (v := (2)) dX12_rank_16 (by decide)) (z_c (ok_goto dX12_rank_17 (by decide)) (z_c (ok_iload_n dX12_rank_20 rfl) (z_c (ok_bipush (v := (43)) dX12_rank_21 (by decide)) z_n))))))))))))
noncomputable def tX12_rank_1 : List (Nat × zF) := [(23, (z_ic_ne 30)), (26, (zst 1 (zp (.int (3))))), (27, (zgt 70)), (30, (zli4 0 1)), (31, (zst 2 (zp (.int (38))))), (33, (z_ic_eq 48)), (36, (zli4 0 1)), (37, (zst 2 (zp (.int (39))))), (39, (z_ic_eq 48)), (42, (zli4 0 1)), (43, (zst 2 (zp (.int (40))))), (45, (z_ic_ne 52))]
theorem kX12_rank_1 : ∀ q ∈ tX12_rank_1, zOk zg iX12_rank q.1 q.2 := (z_c (ok_icmp_ne dX12_rank_23 (by decide)) (z_c (ok_iconst (v := (3)) dX12_rank_26 (by decide)) (z_c (ok_goto dX12_rank_27 (by decide)) (z_c (ok_iload_n dX12_rank_30 rfl) (z_c (ok_bipush (v := (38)) dX12_rank_31 (by decide)) (z_c (ok_icmp_eq dX12_rank_33 (by decide)) (z_c (ok_iload_n dX12_rank_36 rfl) (z_c (ok_bipush (v := (39)) dX12_rank_37 (by decide)) (z_c (ok_icmp_eq dX12_rank_39 (by decide)) (z_c (ok_iload_n dX12_rank_42 rfl) (z_c (ok_bipush (v := (40)) dX12_rank_43 (by decide)) (z_c (ok_icmp_ne dX12_rank_45 (by decide)) z_n))))))))))))
noncomputable def tX12_rank_2 : List (Nat × zF) := [(48, (zst 1 (zp (.int (4))))), (49, (zgt 70)), (52, (zli4 0 1)), (53, (zst 2 (zp (.int (31))))), (55, (z_ic_eq 64)), (58, (zli4 0 1)), (59, (zst 2 (zp (.int (32))))), (61, (z_ic_ne 68)), (64, (zst 1 (zp (.int (5))))), (65, (zgt 70)), (68, (zst 2 (zp (.int (6))))), (70, (zri false))]
theorem kX12_rank_2 : ∀ q ∈ tX12_rank_2, zOk zg iX12_rank q.1 q.2 := (z_c (ok_iconst (v := (4)) dX12_rank_48 (by decide)) (z_c (ok_goto dX12_rank_49 (by decide)) (z_c (ok_iload_n dX12_rank_52 rfl) (z_c (ok_bipush (v := (31)) dX12_rank_53 (by decide)) (z_c (ok_icmp_eq dX12_rank_55 (by decide)) (z_c (ok_iload_n dX12_rank_58 rfl) (z_c (ok_bipush (v := (32)) dX12_rank_59 (by decide)) (z_c (ok_icmp_ne dX12_rank_61 (by decide)) (z_c (ok_iconst (v := (5)) dX12_rank_64 (by decide)) (z_c (ok_goto dX12_rank_65 (by decide)) (z_c (ok_bipush (v := (6)) dX12_rank_68 (by decide)) (z_c (ok_ireturn rfl dX12_rank_70) z_n))))))))))))
noncomputable def tX12_rank : zT := [(23, tX12_rank_0), (48, tX12_rank_1), (100000, tX12_rank_2)]
theorem kX12_rank : zTok zg iX12_rank tX12_rank := (z_t kX12_rank_0 (z_t kX12_rank_1 (z_t kX12_rank_2 z_tn)))
theorem dX12_joins_0 : decode cX12_joins 0 = .ok (.aload_n 0, 1) := by decide +kernel
theorem dX12_joins_1 : decode cX12_joins 1 = .ok (.getfield 146, 3) := by decide +kernel
theorem dX12_joins_4 : decode cX12_joins 4 = .ok (.aload_n 0, 1) := by decide +kernel
theorem dX12_joins_5 : decode cX12_joins 5 = .ok (.getfield 134, 3) := by decide +kernel
theorem dX12_joins_8 : decode cX12_joins 8 = .ok (.aload_n 0, 1) := by decide +kernel
theorem dX12_joins_9 : decode cX12_joins 9 = .ok (.getfield 137, 3) := by decide +kernel
theorem dX12_joins_12 : decode cX12_joins 12 = .ok (.iconst 1, 1) := by decide +kernel
theorem dX12_joins_13 : decode cX12_joins 13 = .ok (.isub, 1) := by decide +kernel
theorem dX12_joins_14 : decode cX12_joins 14 = .ok (.iaload, 1) := by decide +kernel
theorem dX12_joins_15 : decode cX12_joins 15 = .ok (.if_icmp .le 72, 3) := by decide +kernel
theorem dX12_joins_18 : decode cX12_joins 18 = .ok (.aload_n 0, 1) := by decide +kernel
theorem dX12_joins_19 : decode cX12_joins 19 = .ok (.getfield 143, 3) := by decide +kernel
theorem dX12_joins_22 : decode cX12_joins 22 = .ok (.aload_n 0, 1) := by decide +kernel
theorem dX12_joins_23 : decode cX12_joins 23 = .ok (.getfield 146, 3) := by decide +kernel
theorem dX12_joins_26 : decode cX12_joins 26 = .ok (.iconst 1, 1) := by decide +kernel
theorem dX12_joins_27 : decode cX12_joins 27 = .ok (.isub, 1) := by decide +kernel
theorem dX12_joins_28 : decode cX12_joins 28 = .ok (.iaload, 1) := by decide +kernel
theorem dX12_joins_29 : decode cX12_joins 29 = .ok (.invokestatic 322, 3) := by decide +kernel
theorem dX12_joins_32 : decode cX12_joins 32 = .ok (.iload_n 1, 1) := by decide +kernel
theorem dX12_joins_33 : decode cX12_joins 33 = .ok (.if_icmp .lt 54, 3) := by decide +kernel
theorem dX12_joins_36 : decode cX12_joins 36 = .ok (.aload_n 0, 1) := by decide +kernel
theorem dX12_joins_37 : decode cX12_joins 37 = .ok (.dup, 1) := by decide +kernel
theorem dX12_joins_38 : decode cX12_joins 38 = .ok (.getfield 146, 3) := by decide +kernel
theorem dX12_joins_41 : decode cX12_joins 41 = .ok (.iconst 1, 1) := by decide +kernel
theorem dX12_joins_42 : decode cX12_joins 42 = .ok (.isub, 1) := by decide +kernel
theorem dX12_joins_43 : decode cX12_joins 43 = .ok (.putfield 146, 3) := by decide +kernel
theorem dX12_joins_46 : decode cX12_joins 46 = .ok (.aload_n 0, 1) := by decide +kernel
theorem dX12_joins_47 : decode cX12_joins 47 = .ok (.aload_n 0, 1) := by decide +kernel
theorem dX12_joins_48 : decode cX12_joins 48 = .ok (.getfield 143, 3) := by decide +kernel
theorem dX12_joins_51 : decode cX12_joins 51 = .ok (.aload_n 0, 1) := by decide +kernel
theorem dX12_joins_52 : decode cX12_joins 52 = .ok (.getfield 146, 3) := by decide +kernel
theorem dX12_joins_55 : decode cX12_joins 55 = .ok (.iaload, 1) := by decide +kernel
theorem dX12_joins_56 : decode cX12_joins 56 = .ok (.iconst 0, 1) := by decide +kernel
theorem dX12_joins_57 : decode cX12_joins 57 = .ok (.invokevirtual 325, 3) := by decide +kernel
theorem dX12_joins_60 : decode cX12_joins 60 = .ok (.aload_n 0, 1) := by decide +kernel
theorem dX12_joins_61 : decode cX12_joins 61 = .ok (.getfield 143, 3) := by decide +kernel
theorem dX12_joins_64 : decode cX12_joins 64 = .ok (.aload_n 0, 1) := by decide +kernel
theorem dX12_joins_65 : decode cX12_joins 65 = .ok (.getfield 146, 3) := by decide +kernel
theorem dX12_joins_68 : decode cX12_joins 68 = .ok (.iaload, 1) := by decide +kernel
theorem dX12_joins_69 : decode cX12_joins 69 = .ok (.bipush 43, 2) := by decide +kernel
theorem dX12_joins_71 : decode cX12_joins 71 = .ok (.if_icmp .ne (-71), 3) := by decide +kernel
theorem dX12_joins_74 : decode cX12_joins 74 = .ok (.aload_n 0, 1) := by decide +kernel
theorem dX12_joins_75 : decode cX12_joins 75 = .ok (.dup, 1) := by decide +kernel
theorem dX12_joins_76 : decode cX12_joins 76 = .ok (.getfield 140, 3) := by decide +kernel
theorem dX12_joins_79 : decode cX12_joins 79 = .ok (.iconst 1, 1) := by decide +kernel
theorem dX12_joins_80 : decode cX12_joins 80 = .ok (.isub, 1) := by decide +kernel
theorem dX12_joins_81 : decode cX12_joins 81 = .ok (.putfield 140, 3) := by decide +kernel
theorem dX12_joins_84 : decode cX12_joins 84 = .ok (.goto (-84), 3) := by decide +kernel
theorem dX12_joins_87 : decode cX12_joins 87 = .ok (.return_, 1) := by decide +kernel
noncomputable def tX12_joins_0 : List (Nat × zF) := [(0, (zla4 0 1)), (1, (zgf 12 44)), (4, (zla4 0 1)), (5, (zgf 12 40)), (8, (zla4 0 1)), (9, (zgf 12 41)), (12, (zst 1 (zp (.int (1))))), (13, (zst 1 z_isub)), (14, (zal 0)), (15, (z_ic_le 87)), (18, (zla4 0 1)), (19, (zgf 12 43))]
theorem kX12_joins_0 : ∀ q ∈ tX12_joins_0, zOk zg iX12_joins q.1 q.2 := (z_c (ok_aload_n dX12_joins_0 rfl) (z_c (ok_getf (C := RX12) (T := TX12) (N := 73) rfl (by decide) zinX12 rfl zw_732 dX12_joins_1) (z_c (ok_aload_n dX12_joins_4 rfl) (z_c (ok_getf (C := RX12) (T := TX12) (N := 73) rfl (by decide) zinX12 rfl zw_728 dX12_joins_5) (z_c (ok_aload_n dX12_joins_8 rfl) (z_c (ok_getf (C := RX12) (T := TX12) (N := 73) rfl (by decide) zinX12 rfl zw_729 dX12_joins_9) (z_c (ok_iconst (v := (1)) dX12_joins_12 (by decide)) (z_c (ok_isub dX12_joins_13) (z_c (ok_iaload rfl dX12_joins_14) (z_c (ok_icmp_le dX12_joins_15 (by decide)) (z_c (ok_aload_n dX12_joins_18 rfl) (z_c (ok_getf (C := RX12) (T := TX12) (N := 73) rfl (by decide) zinX12 rfl zw_731 dX12_joins_19) z_n))))))))))))
noncomputable def tX12_joins_1 : List (Nat × zF) := [(22, (zla4 0 1)), (23, (zgf 12 44)), (26, (zst 1 (zp (.int (1))))), (27, (zst 1 z_isub)), (28, (zal 0)), (29, (zcs 182 1)), (32, (zli4 1 1)), (33, (z_ic_lt 87)), (36, (zla4 0 1)), (37, (zst 1 zdu)), (38, (zgf 12 44)), (41, (zst 1 (zp (.int (1)))))]
theorem kX12_joins_1 : ∀ q ∈ tX12_joins_1, zOk zg iX12_joins q.1 q.2 := (z_c (ok_aload_n dX12_joins_22 rfl) (z_c (ok_getf (C := RX12) (T := TX12) (N := 73) rfl (by decide) zinX12 rfl zw_732 dX12_joins_23) (z_c (ok_iconst (v := (1)) dX12_joins_26 (by decide)) (z_c (ok_isub dX12_joins_27) (z_c (ok_iaload rfl dX12_joins_28) (z_c (ok_callS zcal_182 zw_814 zw_815 dX12_joins_29) (z_c (ok_iload_n dX12_joins_32 rfl) (z_c (ok_icmp_lt dX12_joins_33 (by decide)) (z_c (ok_aload_n dX12_joins_36 rfl) (z_c (ok_dup dX12_joins_37) (z_c (ok_getf (C := RX12) (T := TX12) (N := 73) rfl (by decide) zinX12 rfl zw_732 dX12_joins_38) (z_c (ok_iconst (v := (1)) dX12_joins_41 (by decide)) z_n))))))))))))
noncomputable def tX12_joins_2 : List (Nat × zF) := [(42, (zst 1 z_isub)), (43, (zpf 12 44 (.int))), (46, (zla4 0 1)), (47, (zla4 0 1)), (48, (zgf 12 43)), (51, (zla4 0 1)), (52, (zgf 12 44)), (55, (zal 0)), (56, (zst 1 (zp (.int (0))))), (57, (zcv 181 2 12)), (60, (zla4 0 1)), (61, (zgf 12 43))]
theorem kX12_joins_2 : ∀ q ∈ tX12_joins_2, zOk zg iX12_joins q.1 q.2 := (z_c (ok_isub dX12_joins_42) (z_c (ok_putf (C := RX12) (T := TX12) (N := 73) false tyX12 tyX12_ok nmX12 rfl (by decide) zinX12 rfl zw_732 rfl (fun h => absurd h (by decide)) rfl dX12_joins_43) (z_c (ok_aload_n dX12_joins_46 rfl) (z_c (ok_aload_n dX12_joins_47 rfl) (z_c (ok_getf (C := RX12) (T := TX12) (N := 73) rfl (by decide) zinX12 rfl zw_731 dX12_joins_48) (z_c (ok_aload_n dX12_joins_51 rfl) (z_c (ok_getf (C := RX12) (T := TX12) (N := 73) rfl (by decide) zinX12 rfl zw_732 dX12_joins_52) (z_c (ok_iaload rfl dX12_joins_55) (z_c (ok_iconst (v := (0)) dX12_joins_56 (by decide)) (z_c (ok_callV zcal_181 (q := (RX12, TX12, 73)) rfl zw_816 zw_817 zw_818 dX12_joins_57) (z_c (ok_aload_n dX12_joins_60 rfl) (z_c (ok_getf (C := RX12) (T := TX12) (N := 73) rfl (by decide) zinX12 rfl zw_731 dX12_joins_61) z_n))))))))))))
noncomputable def tX12_joins_3 : List (Nat × zF) := [(64, (zla4 0 1)), (65, (zgf 12 44)), (68, (zal 0)), (69, (zst 2 (zp (.int (43))))), (71, (z_ic_ne 0)), (74, (zla4 0 1)), (75, (zst 1 zdu)), (76, (zgf 12 42)), (79, (zst 1 (zp (.int (1))))), (80, (zst 1 z_isub)), (81, (zpf 12 42 (.int))), (84, (zgt 0))]
theorem kX12_joins_3 : ∀ q ∈ tX12_joins_3, zOk zg iX12_joins q.1 q.2 := (z_c (ok_aload_n dX12_joins_64 rfl) (z_c (ok_getf (C := RX12) (T := TX12) (N := 73) rfl (by decide) zinX12 rfl zw_732 dX12_joins_65) (z_c (ok_iaload rfl dX12_joins_68) (z_c (ok_bipush (v := (43)) dX12_joins_69 (by decide)) (z_c (ok_icmp_ne dX12_joins_71 (by decide)) (z_c (ok_aload_n dX12_joins_74 rfl) (z_c (ok_dup dX12_joins_75) (z_c (ok_getf (C := RX12) (T := TX12) (N := 73) rfl (by decide) zinX12 rfl zw_730 dX12_joins_76) (z_c (ok_iconst (v := (1)) dX12_joins_79 (by decide)) (z_c (ok_isub dX12_joins_80) (z_c (ok_putf (C := RX12) (T := TX12) (N := 73) false tyX12 tyX12_ok nmX12 rfl (by decide) zinX12 rfl zw_730 rfl (fun h => absurd h (by decide)) rfl dX12_joins_81) (z_c (ok_goto dX12_joins_84 (by decide)) z_n))))))))))))
noncomputable def tX12_joins_4 : List (Nat × zF) := [(87, zrv)]
theorem kX12_joins_4 : ∀ q ∈ tX12_joins_4, zOk zg iX12_joins q.1 q.2 := (z_c (ok_return rfl dX12_joins_87) z_n)
noncomputable def tX12_joins : zT := [(22, tX12_joins_0), (42, tX12_joins_1), (64, tX12_joins_2), (87, tX12_joins_3), (100000, tX12_joins_4)]
theorem kX12_joins : zTok zg iX12_joins tX12_joins := (z_t kX12_joins_0 (z_t kX12_joins_1 (z_t kX12_joins_2 (z_t kX12_joins_3 (z_t kX12_joins_4 z_tn)))))
theorem dX12_holdsBack_0 : decode cX12_holdsBack 0 = .ok (.aload_n 0, 1) := by decide +kernel
theorem dX12_holdsBack_1 : decode cX12_holdsBack 1 = .ok (.getfield 143, 3) := by decide +kernel
theorem dX12_holdsBack_4 : decode cX12_holdsBack 4 = .ok (.aload_n 0, 1) := by decide +kernel
theorem dX12_holdsBack_5 : decode cX12_holdsBack 5 = .ok (.getfield 146, 3) := by decide +kernel
theorem dX12_holdsBack_8 : decode cX12_holdsBack 8 = .ok (.iload_n 1, 1) := by decide +kernel
theorem dX12_holdsBack_9 : decode cX12_holdsBack 9 = .ok (.iastore, 1) := by decide +kernel
theorem dX12_holdsBack_10 : decode cX12_holdsBack 10 = .ok (.aload_n 0, 1) := by decide +kernel
theorem dX12_holdsBack_11 : decode cX12_holdsBack 11 = .ok (.dup, 1) := by decide +kernel
theorem dX12_holdsBack_12 : decode cX12_holdsBack 12 = .ok (.getfield 146, 3) := by decide +kernel
theorem dX12_holdsBack_15 : decode cX12_holdsBack 15 = .ok (.iconst 1, 1) := by decide +kernel
theorem dX12_holdsBack_16 : decode cX12_holdsBack 16 = .ok (.iadd, 1) := by decide +kernel
theorem dX12_holdsBack_17 : decode cX12_holdsBack 17 = .ok (.putfield 146, 3) := by decide +kernel
theorem dX12_holdsBack_20 : decode cX12_holdsBack 20 = .ok (.return_, 1) := by decide +kernel
noncomputable def tX12_holdsBack_0 : List (Nat × zF) := [(0, (zla4 0 1)), (1, (zgf 12 43)), (4, (zla4 0 1)), (5, (zgf 12 44)), (8, (zli4 1 1)), (9, (zas 0)), (10, (zla4 0 1)), (11, (zst 1 zdu)), (12, (zgf 12 44)), (15, (zst 1 (zp (.int (1))))), (16, (zst 1 z_iadd)), (17, (zpf 12 44 (.int)))]
theorem kX12_holdsBack_0 : ∀ q ∈ tX12_holdsBack_0, zOk zg iX12_holdsBack q.1 q.2 := (z_c (ok_aload_n dX12_holdsBack_0 rfl) (z_c (ok_getf (C := RX12) (T := TX12) (N := 73) rfl (by decide) zinX12 rfl zw_731 dX12_holdsBack_1) (z_c (ok_aload_n dX12_holdsBack_4 rfl) (z_c (ok_getf (C := RX12) (T := TX12) (N := 73) rfl (by decide) zinX12 rfl zw_732 dX12_holdsBack_5) (z_c (ok_iload_n dX12_holdsBack_8 rfl) (z_c (ok_iastore rfl dX12_holdsBack_9) (z_c (ok_aload_n dX12_holdsBack_10 rfl) (z_c (ok_dup dX12_holdsBack_11) (z_c (ok_getf (C := RX12) (T := TX12) (N := 73) rfl (by decide) zinX12 rfl zw_732 dX12_holdsBack_12) (z_c (ok_iconst (v := (1)) dX12_holdsBack_15 (by decide)) (z_c (ok_iadd dX12_holdsBack_16) (z_c (ok_putf (C := RX12) (T := TX12) (N := 73) false tyX12 tyX12_ok nmX12 rfl (by decide) zinX12 rfl zw_732 rfl (fun h => absurd h (by decide)) rfl dX12_holdsBack_17) z_n))))))))))))
noncomputable def tX12_holdsBack_1 : List (Nat × zF) := [(20, zrv)]
theorem kX12_holdsBack_1 : ∀ q ∈ tX12_holdsBack_1, zOk zg iX12_holdsBack q.1 q.2 := (z_c (ok_return rfl dX12_holdsBack_20) z_n)
noncomputable def tX12_holdsBack : zT := [(20, tX12_holdsBack_0), (100000, tX12_holdsBack_1)]
theorem kX12_holdsBack : zTok zg iX12_holdsBack tX12_holdsBack := (z_t kX12_holdsBack_0 (z_t kX12_holdsBack_1 z_tn))
theorem dX12_pushes_0 : decode cX12_pushes 0 = .ok (.aload_n 0, 1) := by decide +kernel
theorem dX12_pushes_1 : decode cX12_pushes 1 = .ok (.getfield 121, 3) := by decide +kernel
theorem dX12_pushes_4 : decode cX12_pushes 4 = .ok (.aload_n 0, 1) := by decide +kernel
theorem dX12_pushes_5 : decode cX12_pushes 5 = .ok (.getfield 137, 3) := by decide +kernel
theorem dX12_pushes_8 : decode cX12_pushes 8 = .ok (.iload_n 1, 1) := by decide +kernel
theorem dX12_pushes_9 : decode cX12_pushes 9 = .ok (.iastore, 1) := by decide +kernel
theorem dX12_pushes_10 : decode cX12_pushes 10 = .ok (.aload_n 0, 1) := by decide +kernel
theorem dX12_pushes_11 : decode cX12_pushes 11 = .ok (.getfield 124, 3) := by decide +kernel
theorem dX12_pushes_14 : decode cX12_pushes 14 = .ok (.aload_n 0, 1) := by decide +kernel
theorem dX12_pushes_15 : decode cX12_pushes 15 = .ok (.getfield 137, 3) := by decide +kernel
theorem dX12_pushes_18 : decode cX12_pushes 18 = .ok (.iconst 0, 1) := by decide +kernel
theorem dX12_pushes_19 : decode cX12_pushes 19 = .ok (.iastore, 1) := by decide +kernel
theorem dX12_pushes_20 : decode cX12_pushes 20 = .ok (.aload_n 0, 1) := by decide +kernel
theorem dX12_pushes_21 : decode cX12_pushes 21 = .ok (.getfield 127, 3) := by decide +kernel
theorem dX12_pushes_24 : decode cX12_pushes 24 = .ok (.aload_n 0, 1) := by decide +kernel
theorem dX12_pushes_25 : decode cX12_pushes 25 = .ok (.getfield 137, 3) := by decide +kernel
theorem dX12_pushes_28 : decode cX12_pushes 28 = .ok (.iconst 1, 1) := by decide +kernel
theorem dX12_pushes_29 : decode cX12_pushes 29 = .ok (.bastore, 1) := by decide +kernel
theorem dX12_pushes_30 : decode cX12_pushes 30 = .ok (.aload_n 0, 1) := by decide +kernel
theorem dX12_pushes_31 : decode cX12_pushes 31 = .ok (.getfield 134, 3) := by decide +kernel
theorem dX12_pushes_34 : decode cX12_pushes 34 = .ok (.aload_n 0, 1) := by decide +kernel
theorem dX12_pushes_35 : decode cX12_pushes 35 = .ok (.getfield 137, 3) := by decide +kernel
theorem dX12_pushes_38 : decode cX12_pushes 38 = .ok (.aload_n 0, 1) := by decide +kernel
theorem dX12_pushes_39 : decode cX12_pushes 39 = .ok (.getfield 146, 3) := by decide +kernel
theorem dX12_pushes_42 : decode cX12_pushes 42 = .ok (.iastore, 1) := by decide +kernel
theorem dX12_pushes_43 : decode cX12_pushes 43 = .ok (.aload_n 0, 1) := by decide +kernel
theorem dX12_pushes_44 : decode cX12_pushes 44 = .ok (.dup, 1) := by decide +kernel
theorem dX12_pushes_45 : decode cX12_pushes 45 = .ok (.getfield 137, 3) := by decide +kernel
theorem dX12_pushes_48 : decode cX12_pushes 48 = .ok (.iconst 1, 1) := by decide +kernel
theorem dX12_pushes_49 : decode cX12_pushes 49 = .ok (.iadd, 1) := by decide +kernel
theorem dX12_pushes_50 : decode cX12_pushes 50 = .ok (.putfield 137, 3) := by decide +kernel
theorem dX12_pushes_53 : decode cX12_pushes 53 = .ok (.return_, 1) := by decide +kernel
noncomputable def tX12_pushes_0 : List (Nat × zF) := [(0, (zla4 0 1)), (1, (zgf 12 36)), (4, (zla4 0 1)), (5, (zgf 12 41)), (8, (zli4 1 1)), (9, (zas 0)), (10, (zla4 0 1)), (11, (zgf 12 37)), (14, (zla4 0 1)), (15, (zgf 12 41)), (18, (zst 1 (zp (.int (0))))), (19, (zas 0))]
theorem kX12_pushes_0 : ∀ q ∈ tX12_pushes_0, zOk zg iX12_pushes q.1 q.2 := (z_c (ok_aload_n dX12_pushes_0 rfl) (z_c (ok_getf (C := RX12) (T := TX12) (N := 73) rfl (by decide) zinX12 rfl zw_723 dX12_pushes_1) (z_c (ok_aload_n dX12_pushes_4 rfl) (z_c (ok_getf (C := RX12) (T := TX12) (N := 73) rfl (by decide) zinX12 rfl zw_729 dX12_pushes_5) (z_c (ok_iload_n dX12_pushes_8 rfl) (z_c (ok_iastore rfl dX12_pushes_9) (z_c (ok_aload_n dX12_pushes_10 rfl) (z_c (ok_getf (C := RX12) (T := TX12) (N := 73) rfl (by decide) zinX12 rfl zw_724 dX12_pushes_11) (z_c (ok_aload_n dX12_pushes_14 rfl) (z_c (ok_getf (C := RX12) (T := TX12) (N := 73) rfl (by decide) zinX12 rfl zw_729 dX12_pushes_15) (z_c (ok_iconst (v := (0)) dX12_pushes_18 (by decide)) (z_c (ok_iastore rfl dX12_pushes_19) z_n))))))))))))
noncomputable def tX12_pushes_1 : List (Nat × zF) := [(20, (zla4 0 1)), (21, (zgf 12 38)), (24, (zla4 0 1)), (25, (zgf 12 41)), (28, (zst 1 (zp (.int (1))))), (29, (zzs 2)), (30, (zla4 0 1)), (31, (zgf 12 40)), (34, (zla4 0 1)), (35, (zgf 12 41)), (38, (zla4 0 1)), (39, (zgf 12 44))]
theorem kX12_pushes_1 : ∀ q ∈ tX12_pushes_1, zOk zg iX12_pushes q.1 q.2 := (z_c (ok_aload_n dX12_pushes_20 rfl) (z_c (ok_getf (C := RX12) (T := TX12) (N := 73) rfl (by decide) zinX12 rfl zw_726 dX12_pushes_21) (z_c (ok_aload_n dX12_pushes_24 rfl) (z_c (ok_getf (C := RX12) (T := TX12) (N := 73) rfl (by decide) zinX12 rfl zw_729 dX12_pushes_25) (z_c (ok_iconst (v := (1)) dX12_pushes_28 (by decide)) (z_c (ok_zastore rfl dX12_pushes_29) (z_c (ok_aload_n dX12_pushes_30 rfl) (z_c (ok_getf (C := RX12) (T := TX12) (N := 73) rfl (by decide) zinX12 rfl zw_728 dX12_pushes_31) (z_c (ok_aload_n dX12_pushes_34 rfl) (z_c (ok_getf (C := RX12) (T := TX12) (N := 73) rfl (by decide) zinX12 rfl zw_729 dX12_pushes_35) (z_c (ok_aload_n dX12_pushes_38 rfl) (z_c (ok_getf (C := RX12) (T := TX12) (N := 73) rfl (by decide) zinX12 rfl zw_732 dX12_pushes_39) z_n))))))))))))
noncomputable def tX12_pushes_2 : List (Nat × zF) := [(42, (zas 0)), (43, (zla4 0 1)), (44, (zst 1 zdu)), (45, (zgf 12 41)), (48, (zst 1 (zp (.int (1))))), (49, (zst 1 z_iadd)), (50, (zpf 12 41 (.int))), (53, zrv)]
theorem kX12_pushes_2 : ∀ q ∈ tX12_pushes_2, zOk zg iX12_pushes q.1 q.2 := (z_c (ok_iastore rfl dX12_pushes_42) (z_c (ok_aload_n dX12_pushes_43 rfl) (z_c (ok_dup dX12_pushes_44) (z_c (ok_getf (C := RX12) (T := TX12) (N := 73) rfl (by decide) zinX12 rfl zw_729 dX12_pushes_45) (z_c (ok_iconst (v := (1)) dX12_pushes_48 (by decide)) (z_c (ok_iadd dX12_pushes_49) (z_c (ok_putf (C := RX12) (T := TX12) (N := 73) false tyX12 tyX12_ok nmX12 rfl (by decide) zinX12 rfl zw_729 rfl (fun h => absurd h (by decide)) rfl dX12_pushes_50) (z_c (ok_return rfl dX12_pushes_53) z_n))))))))
noncomputable def tX12_pushes : zT := [(20, tX12_pushes_0), (42, tX12_pushes_1), (100000, tX12_pushes_2)]
theorem kX12_pushes : zTok zg iX12_pushes tX12_pushes := (z_t kX12_pushes_0 (z_t kX12_pushes_1 (z_t kX12_pushes_2 z_tn)))
theorem dX12_opens_0 : decode cX12_opens 0 = .ok (.aload_n 0, 1) := by decide +kernel
theorem dX12_opens_1 : decode cX12_opens 1 = .ok (.getfield 140, 3) := by decide +kernel
theorem dX12_opens_4 : decode cX12_opens 4 = .ok (.bipush 7, 2) := by decide +kernel
theorem dX12_opens_6 : decode cX12_opens 6 = .ok (.if_icmp .ne 12, 3) := by decide +kernel
theorem dX12_opens_9 : decode cX12_opens 9 = .ok (.aload_n 0, 1) := by decide +kernel
theorem dX12_opens_10 : decode cX12_opens 10 = .ok (.iconst 5, 1) := by decide +kernel
theorem dX12_opens_11 : decode cX12_opens 11 = .ok (.aload_n 0, 1) := by decide +kernel
theorem dX12_opens_12 : decode cX12_opens 12 = .ok (.getfield 23, 3) := by decide +kernel
theorem dX12_opens_15 : decode cX12_opens 15 = .ok (.invokevirtual 242, 3) := by decide +kernel
theorem dX12_opens_18 : decode cX12_opens 18 = .ok (.aload_n 0, 1) := by decide +kernel
theorem dX12_opens_19 : decode cX12_opens 19 = .ok (.getfield 36, 3) := by decide +kernel
theorem dX12_opens_22 : decode cX12_opens 22 = .ok (.ifCond .le 4, 3) := by decide +kernel
theorem dX12_opens_25 : decode cX12_opens 25 = .ok (.return_, 1) := by decide +kernel
theorem dX12_opens_26 : decode cX12_opens 26 = .ok (.aload_n 0, 1) := by decide +kernel
theorem dX12_opens_27 : decode cX12_opens 27 = .ok (.dup, 1) := by decide +kernel
theorem dX12_opens_28 : decode cX12_opens 28 = .ok (.getfield 140, 3) := by decide +kernel
theorem dX12_opens_31 : decode cX12_opens 31 = .ok (.iconst 1, 1) := by decide +kernel
theorem dX12_opens_32 : decode cX12_opens 32 = .ok (.iadd, 1) := by decide +kernel
theorem dX12_opens_33 : decode cX12_opens 33 = .ok (.putfield 140, 3) := by decide +kernel
theorem dX12_opens_36 : decode cX12_opens 36 = .ok (.aload_n 0, 1) := by decide +kernel
theorem dX12_opens_37 : decode cX12_opens 37 = .ok (.invokevirtual 259, 3) := by decide +kernel
theorem dX12_opens_40 : decode cX12_opens 40 = .ok (.aload_n 0, 1) := by decide +kernel
theorem dX12_opens_41 : decode cX12_opens 41 = .ok (.iload_n 1, 1) := by decide +kernel
theorem dX12_opens_42 : decode cX12_opens 42 = .ok (.invokevirtual 328, 3) := by decide +kernel
theorem dX12_opens_45 : decode cX12_opens 45 = .ok (.return_, 1) := by decide +kernel
noncomputable def tX12_opens_0 : List (Nat × zF) := [(0, (zla4 0 1)), (1, (zgf 12 42)), (4, (zst 2 (zp (.int (7))))), (6, (z_ic_ne 18)), (9, (zla4 0 1)), (10, (zst 1 (zp (.int (5))))), (11, (zla4 0 1)), (12, (zgf 12 4)), (15, (zcv 169 2 12)), (18, (zla4 0 1)), (19, (zgf 12 8)), (22, (z_if_le 26))]
theorem kX12_opens_0 : ∀ q ∈ tX12_opens_0, zOk zg iX12_opens q.1 q.2 := (z_c (ok_aload_n dX12_opens_0 rfl) (z_c (ok_getf (C := RX12) (T := TX12) (N := 73) rfl (by decide) zinX12 rfl zw_730 dX12_opens_1) (z_c (ok_bipush (v := (7)) dX12_opens_4 (by decide)) (z_c (ok_icmp_ne dX12_opens_6 (by decide)) (z_c (ok_aload_n dX12_opens_9 rfl) (z_c (ok_iconst (v := (5)) dX12_opens_10 (by decide)) (z_c (ok_aload_n dX12_opens_11 rfl) (z_c (ok_getf (C := RX12) (T := TX12) (N := 73) rfl (by decide) zinX12 rfl zw_691 dX12_opens_12) (z_c (ok_callV zcal_169 (q := (RX12, TX12, 73)) rfl zw_767 zw_768 zw_769 dX12_opens_15) (z_c (ok_aload_n dX12_opens_18 rfl) (z_c (ok_getf (C := RX12) (T := TX12) (N := 73) rfl (by decide) zinX12 rfl zw_695 dX12_opens_19) (z_c (ok_if_le dX12_opens_22 (by decide)) z_n))))))))))))
noncomputable def tX12_opens_1 : List (Nat × zF) := [(25, zrv), (26, (zla4 0 1)), (27, (zst 1 zdu)), (28, (zgf 12 42)), (31, (zst 1 (zp (.int (1))))), (32, (zst 1 z_iadd)), (33, (zpf 12 42 (.int))), (36, (zla4 0 1)), (37, (zcv 173 0 12)), (40, (zla4 0 1)), (41, (zli4 1 1)), (42, (zcv 185 1 12))]
theorem kX12_opens_1 : ∀ q ∈ tX12_opens_1, zOk zg iX12_opens q.1 q.2 := (z_c (ok_return rfl dX12_opens_25) (z_c (ok_aload_n dX12_opens_26 rfl) (z_c (ok_dup dX12_opens_27) (z_c (ok_getf (C := RX12) (T := TX12) (N := 73) rfl (by decide) zinX12 rfl zw_730 dX12_opens_28) (z_c (ok_iconst (v := (1)) dX12_opens_31 (by decide)) (z_c (ok_iadd dX12_opens_32) (z_c (ok_putf (C := RX12) (T := TX12) (N := 73) false tyX12 tyX12_ok nmX12 rfl (by decide) zinX12 rfl zw_730 rfl (fun h => absurd h (by decide)) rfl dX12_opens_33) (z_c (ok_aload_n dX12_opens_36 rfl) (z_c (ok_callV zcal_173 (q := (RX12, TX12, 73)) rfl zw_780 zw_781 zw_782 dX12_opens_37) (z_c (ok_aload_n dX12_opens_40 rfl) (z_c (ok_iload_n dX12_opens_41 rfl) (z_c (ok_callV zcal_185 (q := (RX12, TX12, 73)) rfl zw_819 zw_820 zw_821 dX12_opens_42) z_n))))))))))))
noncomputable def tX12_opens_2 : List (Nat × zF) := [(45, zrv)]
theorem kX12_opens_2 : ∀ q ∈ tX12_opens_2, zOk zg iX12_opens q.1 q.2 := (z_c (ok_return rfl dX12_opens_45) z_n)
noncomputable def tX12_opens : zT := [(25, tX12_opens_0), (45, tX12_opens_1), (100000, tX12_opens_2)]
theorem kX12_opens : zTok zg iX12_opens tX12_opens := (z_t kX12_opens_0 (z_t kX12_opens_1 (z_t kX12_opens_2 z_tn)))
theorem dX12_isTest_0 : decode cX12_isTest 0 = .ok (.iload_n 0, 1) := by decide +kernel
theorem dX12_isTest_1 : decode cX12_isTest 1 = .ok (.iconst 1, 1) := by decide +kernel
theorem dX12_isTest_2 : decode cX12_isTest 2 = .ok (.if_icmp .eq 14, 3) := by decide +kernel
theorem dX12_isTest_5 : decode cX12_isTest 5 = .ok (.iload_n 0, 1) := by decide +kernel
theorem dX12_isTest_6 : decode cX12_isTest 6 = .ok (.iconst 5, 1) := by decide +kernel
theorem dX12_isTest_7 : decode cX12_isTest 7 = .ok (.if_icmp .eq 9, 3) := by decide +kernel
theorem dX12_isTest_10 : decode cX12_isTest 10 = .ok (.iload_n 0, 1) := by decide +kernel
theorem dX12_isTest_11 : decode cX12_isTest 11 = .ok (.bipush 6, 2) := by decide +kernel
theorem dX12_isTest_13 : decode cX12_isTest 13 = .ok (.if_icmp .ne 7, 3) := by decide +kernel
theorem dX12_isTest_16 : decode cX12_isTest 16 = .ok (.iconst 1, 1) := by decide +kernel
theorem dX12_isTest_17 : decode cX12_isTest 17 = .ok (.goto 4, 3) := by decide +kernel
theorem dX12_isTest_20 : decode cX12_isTest 20 = .ok (.iconst 0, 1) := by decide +kernel
theorem dX12_isTest_21 : decode cX12_isTest 21 = .ok (.ireturn, 1) := by decide +kernel
noncomputable def tX12_isTest_0 : List (Nat × zF) := [(0, (zli4 0 1)), (1, (zst 1 (zp (.int (1))))), (2, (z_ic_eq 16)), (5, (zli4 0 1)), (6, (zst 1 (zp (.int (5))))), (7, (z_ic_eq 16)), (10, (zli4 0 1)), (11, (zst 2 (zp (.int (6))))), (13, (z_ic_ne 20)), (16, (zst 1 (zp (.int (1))))), (17, (zgt 21)), (20, (zst 1 (zp (.int (0)))))]
theorem kX12_isTest_0 : ∀ q ∈ tX12_isTest_0, zOk zg iX12_isTest q.1 q.2 := (z_c (ok_iload_n dX12_isTest_0 rfl) (z_c (ok_iconst (v := (1)) dX12_isTest_1 (by decide)) (z_c (ok_icmp_eq dX12_isTest_2 (by decide)) (z_c (ok_iload_n dX12_isTest_5 rfl) (z_c (ok_iconst (v := (5)) dX12_isTest_6 (by decide)) (z_c (ok_icmp_eq dX12_isTest_7 (by decide)) (z_c (ok_iload_n dX12_isTest_10 rfl) (z_c (ok_bipush (v := (6)) dX12_isTest_11 (by decide)) (z_c (ok_icmp_ne dX12_isTest_13 (by decide)) (z_c (ok_iconst (v := (1)) dX12_isTest_16 (by decide)) (z_c (ok_goto dX12_isTest_17 (by decide)) (z_c (ok_iconst (v := (0)) dX12_isTest_20 (by decide)) z_n))))))))))))
noncomputable def tX12_isTest_1 : List (Nat × zF) := [(21, (zri true))]
theorem kX12_isTest_1 : ∀ q ∈ tX12_isTest_1, zOk zg iX12_isTest q.1 q.2 := (z_c (ok_zreturn rfl dX12_isTest_21) z_n)
noncomputable def tX12_isTest : zT := [(21, tX12_isTest_0), (100000, tX12_isTest_1)]
theorem kX12_isTest : zTok zg iX12_isTest tX12_isTest := (z_t kX12_isTest_0 (z_t kX12_isTest_1 z_tn))
theorem dX12_operand_0 : decode cX12_operand 0 = .ok (.aload_n 0, 1) := by decide +kernel
theorem dX12_operand_1 : decode cX12_operand 1 = .ok (.invokevirtual 253, 3) := by decide +kernel
theorem dX12_operand_4 : decode cX12_operand 4 = .ok (.aload_n 0, 1) := by decide +kernel
theorem dX12_operand_5 : decode cX12_operand 5 = .ok (.getfield 36, 3) := by decide +kernel
theorem dX12_operand_8 : decode cX12_operand 8 = .ok (.ifCond .le 5, 3) := by decide +kernel
theorem dX12_operand_11 : decode cX12_operand 11 = .ok (.iconst 1, 1) := by decide +kernel
theorem dX12_operand_12 : decode cX12_operand 12 = .ok (.ireturn, 1) := by decide +kernel
theorem dX12_operand_13 : decode cX12_operand 13 = .ok (.aload_n 0, 1) := by decide +kernel
theorem dX12_operand_14 : decode cX12_operand 14 = .ok (.getfield 137, 3) := by decide +kernel
theorem dX12_operand_17 : decode cX12_operand 17 = .ok (.iconst 1, 1) := by decide +kernel
theorem dX12_operand_18 : decode cX12_operand 18 = .ok (.isub, 1) := by decide +kernel
theorem dX12_operand_19 : decode cX12_operand 19 = .ok (.istore_n 1, 1) := by decide +kernel
theorem dX12_operand_20 : decode cX12_operand 20 = .ok (.aload_n 0, 1) := by decide +kernel
theorem dX12_operand_21 : decode cX12_operand 21 = .ok (.getfield 121, 3) := by decide +kernel
theorem dX12_operand_24 : decode cX12_operand 24 = .ok (.iload_n 1, 1) := by decide +kernel
theorem dX12_operand_25 : decode cX12_operand 25 = .ok (.iaload, 1) := by decide +kernel
theorem dX12_operand_26 : decode cX12_operand 26 = .ok (.invokestatic 331, 3) := by decide +kernel
theorem dX12_operand_29 : decode cX12_operand 29 = .ok (.ifCond .eq 16, 3) := by decide +kernel
theorem dX12_operand_32 : decode cX12_operand 32 = .ok (.aload_n 0, 1) := by decide +kernel
theorem dX12_operand_33 : decode cX12_operand 33 = .ok (.getfield 127, 3) := by decide +kernel
theorem dX12_operand_36 : decode cX12_operand 36 = .ok (.iload_n 1, 1) := by decide +kernel
theorem dX12_operand_37 : decode cX12_operand 37 = .ok (.baload, 1) := by decide +kernel
theorem dX12_operand_38 : decode cX12_operand 38 = .ok (.ifCond .eq 7, 3) := by decide +kernel
theorem dX12_operand_41 : decode cX12_operand 41 = .ok (.iconst 1, 1) := by decide +kernel
theorem dX12_operand_42 : decode cX12_operand 42 = .ok (.goto 4, 3) := by decide +kernel
theorem dX12_operand_45 : decode cX12_operand 45 = .ok (.iconst 0, 1) := by decide +kernel
theorem dX12_operand_46 : decode cX12_operand 46 = .ok (.istore_n 2, 1) := by decide +kernel
theorem dX12_operand_47 : decode cX12_operand 47 = .ok (.iload_n 2, 1) := by decide +kernel
theorem dX12_operand_48 : decode cX12_operand 48 = .ok (.ifCond .eq 62, 3) := by decide +kernel
theorem dX12_operand_51 : decode cX12_operand 51 = .ok (.aload_n 0, 1) := by decide +kernel
theorem dX12_operand_52 : decode cX12_operand 52 = .ok (.ldc2_w 306, 3) := by decide +kernel
theorem dX12_operand_55 : decode cX12_operand 55 = .ok (.invokevirtual 334, 3) := by decide +kernel
theorem dX12_operand_58 : decode cX12_operand 58 = .ok (.ifCond .eq 52, 3) := by decide +kernel
theorem dX12_operand_61 : decode cX12_operand 61 = .ok (.aload_n 0, 1) := by decide +kernel
theorem dX12_operand_62 : decode cX12_operand 62 = .ok (.getfield 140, 3) := by decide +kernel
theorem dX12_operand_65 : decode cX12_operand 65 = .ok (.bipush 7, 2) := by decide +kernel
theorem dX12_operand_67 : decode cX12_operand 67 = .ok (.if_icmp .ne 12, 3) := by decide +kernel
theorem dX12_operand_70 : decode cX12_operand 70 = .ok (.aload_n 0, 1) := by decide +kernel
theorem dX12_operand_71 : decode cX12_operand 71 = .ok (.iconst 5, 1) := by decide +kernel
theorem dX12_operand_72 : decode cX12_operand 72 = .ok (.aload_n 0, 1) := by decide +kernel
theorem dX12_operand_73 : decode cX12_operand 73 = .ok (.getfield 23, 3) := by decide +kernel
theorem dX12_operand_76 : decode cX12_operand 76 = .ok (.invokevirtual 242, 3) := by decide +kernel
theorem dX12_operand_79 : decode cX12_operand 79 = .ok (.aload_n 0, 1) := by decide +kernel
theorem dX12_operand_80 : decode cX12_operand 80 = .ok (.getfield 36, 3) := by decide +kernel
theorem dX12_operand_83 : decode cX12_operand 83 = .ok (.ifCond .le 5, 3) := by decide +kernel
theorem dX12_operand_86 : decode cX12_operand 86 = .ok (.iconst 1, 1) := by decide +kernel
theorem dX12_operand_87 : decode cX12_operand 87 = .ok (.ireturn, 1) := by decide +kernel
theorem dX12_operand_88 : decode cX12_operand 88 = .ok (.aload_n 0, 1) := by decide +kernel
theorem dX12_operand_89 : decode cX12_operand 89 = .ok (.dup, 1) := by decide +kernel
theorem dX12_operand_90 : decode cX12_operand 90 = .ok (.getfield 140, 3) := by decide +kernel
theorem dX12_operand_93 : decode cX12_operand 93 = .ok (.iconst 1, 1) := by decide +kernel
theorem dX12_operand_94 : decode cX12_operand 94 = .ok (.iadd, 1) := by decide +kernel
theorem dX12_operand_95 : decode cX12_operand 95 = .ok (.putfield 140, 3) := by decide +kernel
theorem dX12_operand_98 : decode cX12_operand 98 = .ok (.aload_n 0, 1) := by decide +kernel
theorem dX12_operand_99 : decode cX12_operand 99 = .ok (.bipush 43, 2) := by decide +kernel
theorem dX12_operand_101 : decode cX12_operand 101 = .ok (.invokevirtual 338, 3) := by decide +kernel
theorem dX12_operand_104 : decode cX12_operand 104 = .ok (.aload_n 0, 1) := by decide +kernel
theorem dX12_operand_105 : decode cX12_operand 105 = .ok (.invokevirtual 259, 3) := by decide +kernel
theorem dX12_operand_108 : decode cX12_operand 108 = .ok (.iconst 0, 1) := by decide +kernel
theorem dX12_operand_109 : decode cX12_operand 109 = .ok (.ireturn, 1) := by decide +kernel
theorem dX12_operand_110 : decode cX12_operand 110 = .ok (.aload_n 0, 1) := by decide +kernel
theorem dX12_operand_111 : decode cX12_operand 111 = .ok (.getfield 127, 3) := by decide +kernel
theorem dX12_operand_114 : decode cX12_operand 114 = .ok (.iload_n 1, 1) := by decide +kernel
theorem dX12_operand_115 : decode cX12_operand 115 = .ok (.iconst 0, 1) := by decide +kernel
theorem dX12_operand_116 : decode cX12_operand 116 = .ok (.bastore, 1) := by decide +kernel
theorem dX12_operand_117 : decode cX12_operand 117 = .ok (.iload_n 2, 1) := by decide +kernel
theorem dX12_operand_118 : decode cX12_operand 118 = .ok (.ifCond .eq 19, 3) := by decide +kernel
theorem dX12_operand_121 : decode cX12_operand 121 = .ok (.aload_n 0, 1) := by decide +kernel
theorem dX12_operand_122 : decode cX12_operand 122 = .ok (.bipush 91, 2) := by decide +kernel
theorem dX12_operand_124 : decode cX12_operand 124 = .ok (.invokevirtual 256, 3) := by decide +kernel
theorem dX12_operand_127 : decode cX12_operand 127 = .ok (.ifCond .eq 10, 3) := by decide +kernel
theorem dX12_operand_130 : decode cX12_operand 130 = .ok (.aload_n 0, 1) := by decide +kernel
theorem dX12_operand_131 : decode cX12_operand 131 = .ok (.iconst 5, 1) := by decide +kernel
theorem dX12_operand_132 : decode cX12_operand 132 = .ok (.invokevirtual 341, 3) := by decide +kernel
theorem dX12_operand_135 : decode cX12_operand 135 = .ok (.iconst 0, 1) := by decide +kernel
theorem dX12_operand_136 : decode cX12_operand 136 = .ok (.ireturn, 1) := by decide +kernel
theorem dX12_operand_137 : decode cX12_operand 137 = .ok (.iload_n 2, 1) := by decide +kernel
theorem dX12_operand_138 : decode cX12_operand 138 = .ok (.ifCond .eq 33, 3) := by decide +kernel
theorem dX12_operand_141 : decode cX12_operand 141 = .ok (.aload_n 0, 1) := by decide +kernel
theorem dX12_operand_142 : decode cX12_operand 142 = .ok (.ldc2_w 308, 3) := by decide +kernel
theorem dX12_operand_145 : decode cX12_operand 145 = .ok (.invokevirtual 334, 3) := by decide +kernel
theorem dX12_operand_148 : decode cX12_operand 148 = .ok (.ifCond .eq 23, 3) := by decide +kernel
theorem dX12_operand_151 : decode cX12_operand 151 = .ok (.aload_n 0, 1) := by decide +kernel
theorem dX12_operand_152 : decode cX12_operand 152 = .ok (.bipush 30, 2) := by decide +kernel
theorem dX12_operand_154 : decode cX12_operand 154 = .ok (.iconst 0, 1) := by decide +kernel
theorem dX12_operand_155 : decode cX12_operand 155 = .ok (.invokevirtual 325, 3) := by decide +kernel
theorem dX12_operand_158 : decode cX12_operand 158 = .ok (.aload_n 0, 1) := by decide +kernel
theorem dX12_operand_159 : decode cX12_operand 159 = .ok (.getfield 124, 3) := by decide +kernel
theorem dX12_operand_162 : decode cX12_operand 162 = .ok (.iload_n 1, 1) := by decide +kernel
theorem dX12_operand_163 : decode cX12_operand 163 = .ok (.iconst 2, 1) := by decide +kernel
theorem dX12_operand_164 : decode cX12_operand 164 = .ok (.iastore, 1) := by decide +kernel
theorem dX12_operand_165 : decode cX12_operand 165 = .ok (.aload_n 0, 1) := by decide +kernel
theorem dX12_operand_166 : decode cX12_operand 166 = .ok (.invokevirtual 259, 3) := by decide +kernel
theorem dX12_operand_169 : decode cX12_operand 169 = .ok (.iconst 1, 1) := by decide +kernel
theorem dX12_operand_170 : decode cX12_operand 170 = .ok (.ireturn, 1) := by decide +kernel
theorem dX12_operand_171 : decode cX12_operand 171 = .ok (.aload_n 0, 1) := by decide +kernel
theorem dX12_operand_172 : decode cX12_operand 172 = .ok (.bipush 40, 2) := by decide +kernel
theorem dX12_operand_174 : decode cX12_operand 174 = .ok (.invokevirtual 256, 3) := by decide +kernel
theorem dX12_operand_177 : decode cX12_operand 177 = .ok (.ifCond .eq 10, 3) := by decide +kernel
theorem dX12_operand_180 : decode cX12_operand 180 = .ok (.aload_n 0, 1) := by decide +kernel
theorem dX12_operand_181 : decode cX12_operand 181 = .ok (.iconst 2, 1) := by decide +kernel
theorem dX12_operand_182 : decode cX12_operand 182 = .ok (.invokevirtual 341, 3) := by decide +kernel
theorem dX12_operand_185 : decode cX12_operand 185 = .ok (.iconst 0, 1) := by decide +kernel
theorem dX12_operand_186 : decode cX12_operand 186 = .ok (.ireturn, 1) := by decide +kernel
theorem dX12_operand_187 : decode cX12_operand 187 = .ok (.aload_n 0, 1) := by decide +kernel
theorem dX12_operand_188 : decode cX12_operand 188 = .ok (.ldc2_w 310, 3) := by decide +kernel
theorem dX12_operand_191 : decode cX12_operand 191 = .ok (.invokevirtual 334, 3) := by decide +kernel
theorem dX12_operand_194 : decode cX12_operand 194 = .ok (.ifCond .ne 23, 3) := by decide +kernel
theorem dX12_operand_197 : decode cX12_operand 197 = .ok (.aload_n 0, 1) := by decide +kernel
theorem dX12_operand_198 : decode cX12_operand 198 = .ok (.ldc2_w 312, 3) := by decide +kernel
theorem dX12_operand_201 : decode cX12_operand 201 = .ok (.invokevirtual 334, 3) := by decide +kernel
theorem dX12_operand_204 : decode cX12_operand 204 = .ok (.ifCond .ne 13, 3) := by decide +kernel
theorem dX12_operand_207 : decode cX12_operand 207 = .ok (.aload_n 0, 1) := by decide +kernel
theorem dX12_operand_208 : decode cX12_operand 208 = .ok (.ldc2_w 300, 3) := by decide +kernel
theorem dX12_operand_211 : decode cX12_operand 211 = .ok (.invokevirtual 334, 3) := by decide +kernel
theorem dX12_operand_214 : decode cX12_operand 214 = .ok (.ifCond .eq 99, 3) := by decide +kernel
theorem dX12_operand_217 : decode cX12_operand 217 = .ok (.aload_n 0, 1) := by decide +kernel
theorem dX12_operand_218 : decode cX12_operand 218 = .ok (.ldc2_w 310, 3) := by decide +kernel
theorem dX12_operand_221 : decode cX12_operand 221 = .ok (.invokevirtual 334, 3) := by decide +kernel
theorem dX12_operand_224 : decode cX12_operand 224 = .ok (.ifCond .eq 8, 3) := by decide +kernel
theorem dX12_operand_227 : decode cX12_operand 227 = .ok (.bipush 36, 2) := by decide +kernel
theorem dX12_operand_229 : decode cX12_operand 229 = .ok (.goto 20, 3) := by decide +kernel
theorem dX12_operand_232 : decode cX12_operand 232 = .ok (.aload_n 0, 1) := by decide +kernel
theorem dX12_operand_233 : decode cX12_operand 233 = .ok (.ldc2_w 312, 3) := by decide +kernel
theorem dX12_operand_236 : decode cX12_operand 236 = .ok (.invokevirtual 334, 3) := by decide +kernel
theorem dX12_operand_239 : decode cX12_operand 239 = .ok (.ifCond .eq 8, 3) := by decide +kernel
theorem dX12_operand_242 : decode cX12_operand 242 = .ok (.bipush 37, 2) := by decide +kernel
theorem dX12_operand_244 : decode cX12_operand 244 = .ok (.goto 5, 3) := by decide +kernel
theorem dX12_operand_247 : decode cX12_operand 247 = .ok (.bipush 44, 2) := by decide +kernel
theorem dX12_operand_249 : decode cX12_operand 249 = .ok (.istore_n 3, 1) := by decide +kernel
theorem dX12_operand_250 : decode cX12_operand 250 = .ok (.aload_n 0, 1) := by decide +kernel
theorem dX12_operand_251 : decode cX12_operand 251 = .ok (.invokevirtual 259, 3) := by decide +kernel
theorem dX12_operand_254 : decode cX12_operand 254 = .ok (.aload_n 0, 1) := by decide +kernel
theorem dX12_operand_255 : decode cX12_operand 255 = .ok (.invokevirtual 253, 3) := by decide +kernel
theorem dX12_operand_258 : decode cX12_operand 258 = .ok (.aload_n 0, 1) := by decide +kernel
theorem dX12_operand_259 : decode cX12_operand 259 = .ok (.bipush 40, 2) := by decide +kernel
theorem dX12_operand_261 : decode cX12_operand 261 = .ok (.invokevirtual 256, 3) := by decide +kernel
theorem dX12_operand_264 : decode cX12_operand 264 = .ok (.ifCond .ne 12, 3) := by decide +kernel
theorem dX12_operand_267 : decode cX12_operand 267 = .ok (.aload_n 0, 1) := by decide +kernel
theorem dX12_operand_268 : decode cX12_operand 268 = .ok (.iconst 1, 1) := by decide +kernel
theorem dX12_operand_269 : decode cX12_operand 269 = .ok (.aload_n 0, 1) := by decide +kernel
theorem dX12_operand_270 : decode cX12_operand 270 = .ok (.getfield 23, 3) := by decide +kernel
theorem dX12_operand_273 : decode cX12_operand 273 = .ok (.invokevirtual 242, 3) := by decide +kernel
theorem dX12_operand_276 : decode cX12_operand 276 = .ok (.aload_n 0, 1) := by decide +kernel
theorem dX12_operand_277 : decode cX12_operand 277 = .ok (.iload_n 3, 1) := by decide +kernel
theorem dX12_operand_278 : decode cX12_operand 278 = .ok (.bipush 44, 2) := by decide +kernel
theorem dX12_operand_280 : decode cX12_operand 280 = .ok (.if_icmp .ne 8, 3) := by decide +kernel
theorem dX12_operand_283 : decode cX12_operand 283 = .ok (.bipush 6, 2) := by decide +kernel
theorem dX12_operand_285 : decode cX12_operand 285 = .ok (.goto 4, 3) := by decide +kernel
theorem dX12_operand_288 : decode cX12_operand 288 = .ok (.iconst 3, 1) := by decide +kernel
theorem dX12_operand_289 : decode cX12_operand 289 = .ok (.invokevirtual 341, 3) := by decide +kernel
theorem dX12_operand_292 : decode cX12_operand 292 = .ok (.aload_n 0, 1) := by decide +kernel
theorem dX12_operand_293 : decode cX12_operand 293 = .ok (.getfield 36, 3) := by decide +kernel
theorem dX12_operand_296 : decode cX12_operand 296 = .ok (.ifCond .ne 15, 3) := by decide +kernel
theorem dX12_operand_299 : decode cX12_operand 299 = .ok (.aload_n 0, 1) := by decide +kernel
theorem dX12_operand_300 : decode cX12_operand 300 = .ok (.getfield 131, 3) := by decide +kernel
theorem dX12_operand_303 : decode cX12_operand 303 = .ok (.aload_n 0, 1) := by decide +kernel
theorem dX12_operand_304 : decode cX12_operand 304 = .ok (.getfield 137, 3) := by decide +kernel
theorem dX12_operand_307 : decode cX12_operand 307 = .ok (.iconst 1, 1) := by decide +kernel
theorem dX12_operand_308 : decode cX12_operand 308 = .ok (.isub, 1) := by decide +kernel
theorem dX12_operand_309 : decode cX12_operand 309 = .ok (.iload_n 3, 1) := by decide +kernel
theorem dX12_operand_310 : decode cX12_operand 310 = .ok (.iastore, 1) := by decide +kernel
theorem dX12_operand_311 : decode cX12_operand 311 = .ok (.iconst 0, 1) := by decide +kernel
theorem dX12_operand_312 : decode cX12_operand 312 = .ok (.ireturn, 1) := by decide +kernel
theorem dX12_operand_313 : decode cX12_operand 313 = .ok (.aload_n 0, 1) := by decide +kernel
theorem dX12_operand_314 : decode cX12_operand 314 = .ok (.getfield 20, 3) := by decide +kernel
theorem dX12_operand_317 : decode cX12_operand 317 = .ok (.iconst 2, 1) := by decide +kernel
theorem dX12_operand_318 : decode cX12_operand 318 = .ok (.if_icmp .ne 7, 3) := by decide +kernel
theorem dX12_operand_321 : decode cX12_operand 321 = .ok (.iconst 0, 1) := by decide +kernel
theorem dX12_operand_322 : decode cX12_operand 322 = .ok (.goto 89, 3) := by decide +kernel
theorem dX12_operand_325 : decode cX12_operand 325 = .ok (.aload_n 0, 1) := by decide +kernel
theorem dX12_operand_326 : decode cX12_operand 326 = .ok (.ldc2_w 292, 3) := by decide +kernel
theorem dX12_operand_329 : decode cX12_operand 329 = .ok (.invokevirtual 334, 3) := by decide +kernel
theorem dX12_operand_332 : decode cX12_operand 332 = .ok (.ifCond .eq 7, 3) := by decide +kernel
theorem dX12_operand_335 : decode cX12_operand 335 = .ok (.iconst 1, 1) := by decide +kernel
theorem dX12_operand_336 : decode cX12_operand 336 = .ok (.goto 75, 3) := by decide +kernel
theorem dX12_operand_339 : decode cX12_operand 339 = .ok (.aload_n 0, 1) := by decide +kernel
theorem dX12_operand_340 : decode cX12_operand 340 = .ok (.ldc2_w 276, 3) := by decide +kernel
theorem dX12_operand_343 : decode cX12_operand 343 = .ok (.invokevirtual 334, 3) := by decide +kernel
theorem dX12_operand_346 : decode cX12_operand 346 = .ok (.ifCond .eq 7, 3) := by decide +kernel
theorem dX12_operand_349 : decode cX12_operand 349 = .ok (.iconst 2, 1) := by decide +kernel
theorem dX12_operand_350 : decode cX12_operand 350 = .ok (.goto 61, 3) := by decide +kernel
theorem dX12_operand_353 : decode cX12_operand 353 = .ok (.aload_n 0, 1) := by decide +kernel
theorem dX12_operand_354 : decode cX12_operand 354 = .ok (.ldc2_w 278, 3) := by decide +kernel
theorem dX12_operand_357 : decode cX12_operand 357 = .ok (.invokevirtual 334, 3) := by decide +kernel
theorem dX12_operand_360 : decode cX12_operand 360 = .ok (.ifCond .eq 7, 3) := by decide +kernel
theorem dX12_operand_363 : decode cX12_operand 363 = .ok (.iconst 3, 1) := by decide +kernel
theorem dX12_operand_364 : decode cX12_operand 364 = .ok (.goto 47, 3) := by decide +kernel
theorem dX12_operand_367 : decode cX12_operand 367 = .ok (.aload_n 0, 1) := by decide +kernel
theorem dX12_operand_368 : decode cX12_operand 368 = .ok (.ldc2_w 294, 3) := by decide +kernel
theorem dX12_operand_371 : decode cX12_operand 371 = .ok (.invokevirtual 334, 3) := by decide +kernel
theorem dX12_operand_374 : decode cX12_operand 374 = .ok (.ifCond .eq 7, 3) := by decide +kernel
theorem dX12_operand_377 : decode cX12_operand 377 = .ok (.iconst 4, 1) := by decide +kernel
theorem dX12_operand_378 : decode cX12_operand 378 = .ok (.goto 33, 3) := by decide +kernel
theorem dX12_operand_381 : decode cX12_operand 381 = .ok (.aload_n 0, 1) := by decide +kernel
theorem dX12_operand_382 : decode cX12_operand 382 = .ok (.ldc2_w 296, 3) := by decide +kernel
theorem dX12_operand_385 : decode cX12_operand 385 = .ok (.invokevirtual 334, 3) := by decide +kernel
theorem dX12_operand_388 : decode cX12_operand 388 = .ok (.ifCond .eq 7, 3) := by decide +kernel
theorem dX12_operand_391 : decode cX12_operand 391 = .ok (.iconst 5, 1) := by decide +kernel
theorem dX12_operand_392 : decode cX12_operand 392 = .ok (.goto 19, 3) := by decide +kernel
theorem dX12_operand_395 : decode cX12_operand 395 = .ok (.aload_n 0, 1) := by decide +kernel
theorem dX12_operand_396 : decode cX12_operand 396 = .ok (.ldc2_w 298, 3) := by decide +kernel
theorem dX12_operand_399 : decode cX12_operand 399 = .ok (.invokevirtual 334, 3) := by decide +kernel
theorem dX12_operand_402 : decode cX12_operand 402 = .ok (.ifCond .eq 8, 3) := by decide +kernel
theorem dX12_operand_405 : decode cX12_operand 405 = .ok (.bipush 6, 2) := by decide +kernel
theorem dX12_operand_407 : decode cX12_operand 407 = .ok (.goto 4, 3) := by decide +kernel
theorem dX12_operand_410 : decode cX12_operand 410 = .ok (.iconst (-1), 1) := by decide +kernel
theorem dX12_operand_411 : decode cX12_operand 411 = .ok (.istore_n 3, 1) := by decide +kernel
theorem dX12_operand_412 : decode cX12_operand 412 = .ok (.iload_n 3, 1) := by decide +kernel
theorem dX12_operand_413 : decode cX12_operand 413 = .ok (.iconst 5, 1) := by decide +kernel
theorem dX12_operand_414 : decode cX12_operand 414 = .ok (.if_icmp .lt 32, 3) := by decide +kernel
theorem dX12_operand_417 : decode cX12_operand 417 = .ok (.iload_n 3, 1) := by decide +kernel
theorem dX12_operand_418 : decode cX12_operand 418 = .ok (.bipush 6, 2) := by decide +kernel
theorem dX12_operand_420 : decode cX12_operand 420 = .ok (.if_icmp .ne 7, 3) := by decide +kernel
theorem dX12_operand_423 : decode cX12_operand 423 = .ok (.iconst 1, 1) := by decide +kernel
theorem dX12_operand_424 : decode cX12_operand 424 = .ok (.goto 4, 3) := by decide +kernel
theorem dX12_operand_427 : decode cX12_operand 427 = .ok (.iconst 0, 1) := by decide +kernel
theorem dX12_operand_428 : decode cX12_operand 428 = .ok (.aload_n 0, 1) := by decide +kernel
theorem dX12_operand_429 : decode cX12_operand 429 = .ok (.getfield 118, 3) := by decide +kernel
theorem dX12_operand_432 : decode cX12_operand 432 = .ok (.iconst 1, 1) := by decide +kernel
theorem dX12_operand_433 : decode cX12_operand 433 = .ok (.if_icmp .ne 7, 3) := by decide +kernel
theorem dX12_operand_436 : decode cX12_operand 436 = .ok (.iconst 1, 1) := by decide +kernel
theorem dX12_operand_437 : decode cX12_operand 437 = .ok (.goto 4, 3) := by decide +kernel
theorem dX12_operand_440 : decode cX12_operand 440 = .ok (.iconst 0, 1) := by decide +kernel
theorem dX12_operand_441 : decode cX12_operand 441 = .ok (.if_icmp .eq 5, 3) := by decide +kernel
theorem dX12_operand_444 : decode cX12_operand 444 = .ok (.iconst (-1), 1) := by decide +kernel
theorem dX12_operand_445 : decode cX12_operand 445 = .ok (.istore_n 3, 1) := by decide +kernel
theorem dX12_operand_446 : decode cX12_operand 446 = .ok (.iload_n 3, 1) := by decide +kernel
theorem dX12_operand_447 : decode cX12_operand 447 = .ok (.iconst (-1), 1) := by decide +kernel
theorem dX12_operand_448 : decode cX12_operand 448 = .ok (.if_icmp .ne 12, 3) := by decide +kernel
theorem dX12_operand_451 : decode cX12_operand 451 = .ok (.aload_n 0, 1) := by decide +kernel
theorem dX12_operand_452 : decode cX12_operand 452 = .ok (.iconst 1, 1) := by decide +kernel
theorem dX12_operand_453 : decode cX12_operand 453 = .ok (.aload_n 0, 1) := by decide +kernel
theorem dX12_operand_454 : decode cX12_operand 454 = .ok (.getfield 23, 3) := by decide +kernel
theorem dX12_operand_457 : decode cX12_operand 457 = .ok (.invokevirtual 242, 3) := by decide +kernel
theorem dX12_operand_460 : decode cX12_operand 460 = .ok (.aload_n 0, 1) := by decide +kernel
theorem dX12_operand_461 : decode cX12_operand 461 = .ok (.getfield 36, 3) := by decide +kernel
theorem dX12_operand_464 : decode cX12_operand 464 = .ok (.ifCond .le 5, 3) := by decide +kernel
theorem dX12_operand_467 : decode cX12_operand 467 = .ok (.iconst 1, 1) := by decide +kernel
theorem dX12_operand_468 : decode cX12_operand 468 = .ok (.ireturn, 1) := by decide +kernel
theorem dX12_operand_469 : decode cX12_operand 469 = .ok (.aload_n 0, 1) := by decide +kernel
theorem dX12_operand_470 : decode cX12_operand 470 = .ok (.iload_n 3, 1) := by decide +kernel
theorem dX12_operand_471 : decode cX12_operand 471 = .ok (.aload_n 0, 1) := by decide +kernel
theorem dX12_operand_472 : decode cX12_operand 472 = .ok (.getfield 29, 3) := by decide +kernel
theorem dX12_operand_475 : decode cX12_operand 475 = .ok (.invokevirtual 325, 3) := by decide +kernel
theorem dX12_operand_478 : decode cX12_operand 478 = .ok (.aload_n 0, 1) := by decide +kernel
theorem dX12_operand_479 : decode cX12_operand 479 = .ok (.invokevirtual 259, 3) := by decide +kernel
theorem dX12_operand_482 : decode cX12_operand 482 = .ok (.iconst 1, 1) := by decide +kernel
theorem dX12_operand_483 : decode cX12_operand 483 = .ok (.ireturn, 1) := by decide +kernel
noncomputable def tX12_operand_0 : List (Nat × zF) := [(0, (zla4 0 1)), (1, (zcv 172 0 12)), (4, (zla4 0 1)), (5, (zgf 12 8)), (8, (z_if_le 13)), (11, (zst 1 (zp (.int (1))))), (12, (zri true)), (13, (zla4 0 1)), (14, (zgf 12 41)), (17, (zst 1 (zp (.int (1))))), (18, (zst 1 z_isub)), (19, (zsi4 4 1 1))]
theorem kX12_operand_0 : ∀ q ∈ tX12_operand_0, zOk zg iX12_operand q.1 q.2 := (z_c (ok_aload_n dX12_operand_0 rfl) (z_c (ok_callV zcal_172 (q := (RX12, TX12, 73)) rfl zw_774 zw_775 zw_776 dX12_operand_1) (z_c (ok_aload_n dX12_operand_4 rfl) (z_c (ok_getf (C := RX12) (T := TX12) (N := 73) rfl (by decide) zinX12 rfl zw_695 dX12_operand_5) (z_c (ok_if_le dX12_operand_8 (by decide)) (z_c (ok_iconst (v := (1)) dX12_operand_11 (by decide)) (z_c (ok_zreturn rfl dX12_operand_12) (z_c (ok_aload_n dX12_operand_13 rfl) (z_c (ok_getf (C := RX12) (T := TX12) (N := 73) rfl (by decide) zinX12 rfl zw_729 dX12_operand_14) (z_c (ok_iconst (v := (1)) dX12_operand_17 (by decide)) (z_c (ok_isub dX12_operand_18) (z_c (ok_istore_n dX12_operand_19 rfl) z_n))))))))))))
noncomputable def tX12_operand_1 : List (Nat × zF) := [(20, (zla4 0 1)), (21, (zgf 12 36)), (24, (zli4 1 1)), (25, (zal 0)), (26, (zcs 187 1)), (29, (z_if_eq 45)), (32, (zla4 0 1)), (33, (zgf 12 38)), (36, (zli4 1 1)), (37, (zal 2)), (38, (z_if_eq 45)), (41, (zst 1 (zp (.int (1)))))]
theorem kX12_operand_1 : ∀ q ∈ tX12_operand_1, zOk zg iX12_operand q.1 q.2 := (z_c (ok_aload_n dX12_operand_20 rfl) (z_c (ok_getf (C := RX12) (T := TX12) (N := 73) rfl (by decide) zinX12 rfl zw_723 dX12_operand_21) (z_c (ok_iload_n dX12_operand_24 rfl) (z_c (ok_iaload rfl dX12_operand_25) (z_c (ok_callS zcal_187 zw_822 zw_823 dX12_operand_26) (z_c (ok_if_eq dX12_operand_29 (by decide)) (z_c (ok_aload_n dX12_operand_32 rfl) (z_c (ok_getf (C := RX12) (T := TX12) (N := 73) rfl (by decide) zinX12 rfl zw_726 dX12_operand_33) (z_c (ok_iload_n dX12_operand_36 rfl) (z_c (ok_zaload rfl dX12_operand_37) (z_c (ok_if_eq dX12_operand_38 (by decide)) (z_c (ok_iconst (v := (1)) dX12_operand_41 (by decide)) z_n))))))))))))
noncomputable def tX12_operand_2 : List (Nat × zF) := [(42, (zgt 46)), (45, (zst 1 (zp (.int (0))))), (46, (zsi4 4 2 1)), (47, (zli4 2 1)), (48, (z_if_eq 110)), (51, (zla4 0 1)), (52, (zst 3 (zp (.long (7237492))))), (55, (zcv 175 1 12)), (58, (z_if_eq 110)), (61, (zla4 0 1)), (62, (zgf 12 42)), (65, (zst 2 (zp (.int (7)))))]
theorem kX12_operand_2 : ∀ q ∈ tX12_operand_2, zOk zg iX12_operand q.1 q.2 := (z_c (ok_goto dX12_operand_42 (by decide)) (z_c (ok_iconst (v := (0)) dX12_operand_45 (by decide)) (z_c (ok_istore_n dX12_operand_46 rfl) (z_c (ok_iload_n dX12_operand_47 rfl) (z_c (ok_if_eq dX12_operand_48 (by decide)) (z_c (ok_aload_n dX12_operand_51 rfl) (z_c (ok_ldc2 (v := (7237492)) zw_805 dX12_operand_52) (z_c (ok_callV zcal_175 (q := (RX12, TX12, 73)) rfl zw_824 zw_825 zw_826 dX12_operand_55) (z_c (ok_if_eq dX12_operand_58 (by decide)) (z_c (ok_aload_n dX12_operand_61 rfl) (z_c (ok_getf (C := RX12) (T := TX12) (N := 73) rfl (by decide) zinX12 rfl zw_730 dX12_operand_62) (z_c (ok_bipush (v := (7)) dX12_operand_65 (by decide)) z_n))))))))))))
noncomputable def tX12_operand_3 : List (Nat × zF) := [(67, (z_ic_ne 79)), (70, (zla4 0 1)), (71, (zst 1 (zp (.int (5))))), (72, (zla4 0 1)), (73, (zgf 12 4)), (76, (zcv 169 2 12)), (79, (zla4 0 1)), (80, (zgf 12 8)), (83, (z_if_le 88)), (86, (zst 1 (zp (.int (1))))), (87, (zri true)), (88, (zla4 0 1))]
theorem kX12_operand_3 : ∀ q ∈ tX12_operand_3, zOk zg iX12_operand q.1 q.2 := (z_c (ok_icmp_ne dX12_operand_67 (by decide)) (z_c (ok_aload_n dX12_operand_70 rfl) (z_c (ok_iconst (v := (5)) dX12_operand_71 (by decide)) (z_c (ok_aload_n dX12_operand_72 rfl) (z_c (ok_getf (C := RX12) (T := TX12) (N := 73) rfl (by decide) zinX12 rfl zw_691 dX12_operand_73) (z_c (ok_callV zcal_169 (q := (RX12, TX12, 73)) rfl zw_767 zw_768 zw_769 dX12_operand_76) (z_c (ok_aload_n dX12_operand_79 rfl) (z_c (ok_getf (C := RX12) (T := TX12) (N := 73) rfl (by decide) zinX12 rfl zw_695 dX12_operand_80) (z_c (ok_if_le dX12_operand_83 (by decide)) (z_c (ok_iconst (v := (1)) dX12_operand_86 (by decide)) (z_c (ok_zreturn rfl dX12_operand_87) (z_c (ok_aload_n dX12_operand_88 rfl) z_n))))))))))))
noncomputable def tX12_operand_4 : List (Nat × zF) := [(89, (zst 1 zdu)), (90, (zgf 12 42)), (93, (zst 1 (zp (.int (1))))), (94, (zst 1 z_iadd)), (95, (zpf 12 42 (.int))), (98, (zla4 0 1)), (99, (zst 2 (zp (.int (43))))), (101, (zcv 184 1 12)), (104, (zla4 0 1)), (105, (zcv 173 0 12)), (108, (zst 1 (zp (.int (0))))), (109, (zri true))]
theorem kX12_operand_4 : ∀ q ∈ tX12_operand_4, zOk zg iX12_operand q.1 q.2 := (z_c (ok_dup dX12_operand_89) (z_c (ok_getf (C := RX12) (T := TX12) (N := 73) rfl (by decide) zinX12 rfl zw_730 dX12_operand_90) (z_c (ok_iconst (v := (1)) dX12_operand_93 (by decide)) (z_c (ok_iadd dX12_operand_94) (z_c (ok_putf (C := RX12) (T := TX12) (N := 73) false tyX12 tyX12_ok nmX12 rfl (by decide) zinX12 rfl zw_730 rfl (fun h => absurd h (by decide)) rfl dX12_operand_95) (z_c (ok_aload_n dX12_operand_98 rfl) (z_c (ok_bipush (v := (43)) dX12_operand_99 (by decide)) (z_c (ok_callV zcal_184 (q := (RX12, TX12, 73)) rfl zw_827 zw_828 zw_829 dX12_operand_101) (z_c (ok_aload_n dX12_operand_104 rfl) (z_c (ok_callV zcal_173 (q := (RX12, TX12, 73)) rfl zw_780 zw_781 zw_782 dX12_operand_105) (z_c (ok_iconst (v := (0)) dX12_operand_108 (by decide)) (z_c (ok_zreturn rfl dX12_operand_109) z_n))))))))))))
noncomputable def tX12_operand_5 : List (Nat × zF) := [(110, (zla4 0 1)), (111, (zgf 12 38)), (114, (zli4 1 1)), (115, (zst 1 (zp (.int (0))))), (116, (zzs 2)), (117, (zli4 2 1)), (118, (z_if_eq 137)), (121, (zla4 0 1)), (122, (zst 2 (zp (.int (91))))), (124, (zcv 174 1 12)), (127, (z_if_eq 137)), (130, (zla4 0 1))]
theorem kX12_operand_5 : ∀ q ∈ tX12_operand_5, zOk zg iX12_operand q.1 q.2 := (z_c (ok_aload_n dX12_operand_110 rfl) (z_c (ok_getf (C := RX12) (T := TX12) (N := 73) rfl (by decide) zinX12 rfl zw_726 dX12_operand_111) (z_c (ok_iload_n dX12_operand_114 rfl) (z_c (ok_iconst (v := (0)) dX12_operand_115 (by decide)) (z_c (ok_zastore rfl dX12_operand_116) (z_c (ok_iload_n dX12_operand_117 rfl) (z_c (ok_if_eq dX12_operand_118 (by decide)) (z_c (ok_aload_n dX12_operand_121 rfl) (z_c (ok_bipush (v := (91)) dX12_operand_122 (by decide)) (z_c (ok_callV zcal_174 (q := (RX12, TX12, 73)) rfl zw_777 zw_778 zw_779 dX12_operand_124) (z_c (ok_if_eq dX12_operand_127 (by decide)) (z_c (ok_aload_n dX12_operand_130 rfl) z_n))))))))))))
noncomputable def tX12_operand_6 : List (Nat × zF) := [(131, (zst 1 (zp (.int (5))))), (132, (zcv 186 1 12)), (135, (zst 1 (zp (.int (0))))), (136, (zri true)), (137, (zli4 2 1)), (138, (z_if_eq 171)), (141, (zla4 0 1)), (142, (zst 3 (zp (.long (6384748))))), (145, (zcv 175 1 12)), (148, (z_if_eq 171)), (151, (zla4 0 1)), (152, (zst 2 (zp (.int (30)))))]
theorem kX12_operand_6 : ∀ q ∈ tX12_operand_6, zOk zg iX12_operand q.1 q.2 := (z_c (ok_iconst (v := (5)) dX12_operand_131 (by decide)) (z_c (ok_callV zcal_186 (q := (RX12, TX12, 73)) rfl zw_830 zw_831 zw_832 dX12_operand_132) (z_c (ok_iconst (v := (0)) dX12_operand_135 (by decide)) (z_c (ok_zreturn rfl dX12_operand_136) (z_c (ok_iload_n dX12_operand_137 rfl) (z_c (ok_if_eq dX12_operand_138 (by decide)) (z_c (ok_aload_n dX12_operand_141 rfl) (z_c (ok_ldc2 (v := (6384748)) zw_806 dX12_operand_142) (z_c (ok_callV zcal_175 (q := (RX12, TX12, 73)) rfl zw_824 zw_825 zw_826 dX12_operand_145) (z_c (ok_if_eq dX12_operand_148 (by decide)) (z_c (ok_aload_n dX12_operand_151 rfl) (z_c (ok_bipush (v := (30)) dX12_operand_152 (by decide)) z_n))))))))))))
noncomputable def tX12_operand_7 : List (Nat × zF) := [(154, (zst 1 (zp (.int (0))))), (155, (zcv 181 2 12)), (158, (zla4 0 1)), (159, (zgf 12 37)), (162, (zli4 1 1)), (163, (zst 1 (zp (.int (2))))), (164, (zas 0)), (165, (zla4 0 1)), (166, (zcv 173 0 12)), (169, (zst 1 (zp (.int (1))))), (170, (zri true)), (171, (zla4 0 1))]
theorem kX12_operand_7 : ∀ q ∈ tX12_operand_7, zOk zg iX12_operand q.1 q.2 := (z_c (ok_iconst (v := (0)) dX12_operand_154 (by decide)) (z_c (ok_callV zcal_181 (q := (RX12, TX12, 73)) rfl zw_816 zw_817 zw_818 dX12_operand_155) (z_c (ok_aload_n dX12_operand_158 rfl) (z_c (ok_getf (C := RX12) (T := TX12) (N := 73) rfl (by decide) zinX12 rfl zw_724 dX12_operand_159) (z_c (ok_iload_n dX12_operand_162 rfl) (z_c (ok_iconst (v := (2)) dX12_operand_163 (by decide)) (z_c (ok_iastore rfl dX12_operand_164) (z_c (ok_aload_n dX12_operand_165 rfl) (z_c (ok_callV zcal_173 (q := (RX12, TX12, 73)) rfl zw_780 zw_781 zw_782 dX12_operand_166) (z_c (ok_iconst (v := (1)) dX12_operand_169 (by decide)) (z_c (ok_zreturn rfl dX12_operand_170) (z_c (ok_aload_n dX12_operand_171 rfl) z_n))))))))))))
noncomputable def tX12_operand_8 : List (Nat × zF) := [(172, (zst 2 (zp (.int (40))))), (174, (zcv 174 1 12)), (177, (z_if_eq 187)), (180, (zla4 0 1)), (181, (zst 1 (zp (.int (2))))), (182, (zcv 186 1 12)), (185, (zst 1 (zp (.int (0))))), (186, (zri true)), (187, (zla4 0 1)), (188, (zst 3 (zp (.long (7170414))))), (191, (zcv 175 1 12)), (194, (z_if_ne 217))]
theorem kX12_operand_8 : ∀ q ∈ tX12_operand_8, zOk zg iX12_operand q.1 q.2 := (z_c (ok_bipush (v := (40)) dX12_operand_172 (by decide)) (z_c (ok_callV zcal_174 (q := (RX12, TX12, 73)) rfl zw_777 zw_778 zw_779 dX12_operand_174) (z_c (ok_if_eq dX12_operand_177 (by decide)) (z_c (ok_aload_n dX12_operand_180 rfl) (z_c (ok_iconst (v := (2)) dX12_operand_181 (by decide)) (z_c (ok_callV zcal_186 (q := (RX12, TX12, 73)) rfl zw_830 zw_831 zw_832 dX12_operand_182) (z_c (ok_iconst (v := (0)) dX12_operand_185 (by decide)) (z_c (ok_zreturn rfl dX12_operand_186) (z_c (ok_aload_n dX12_operand_187 rfl) (z_c (ok_ldc2 (v := (7170414)) zw_807 dX12_operand_188) (z_c (ok_callV zcal_175 (q := (RX12, TX12, 73)) rfl zw_824 zw_825 zw_826 dX12_operand_191) (z_c (ok_if_ne dX12_operand_194 (by decide)) z_n))))))))))))
noncomputable def tX12_operand_9 : List (Nat × zF) := [(197, (zla4 0 1)), (198, (zst 3 (zp (.long (7168376))))), (201, (zcv 175 1 12)), (204, (z_if_ne 217)), (207, (zla4 0 1)), (208, (zst 3 (zp (.long (26982))))), (211, (zcv 175 1 12)), (214, (z_if_eq 313)), (217, (zla4 0 1)), (218, (zst 3 (zp (.long (7170414))))), (221, (zcv 175 1 12)), (224, (z_if_eq 232))]
theorem kX12_operand_9 : ∀ q ∈ tX12_operand_9, zOk zg iX12_operand q.1 q.2 := (z_c (ok_aload_n dX12_operand_197 rfl) (z_c (ok_ldc2 (v := (7168376)) zw_808 dX12_operand_198) (z_c (ok_callV zcal_175 (q := (RX12, TX12, 73)) rfl zw_824 zw_825 zw_826 dX12_operand_201) (z_c (ok_if_ne dX12_operand_204 (by decide)) (z_c (ok_aload_n dX12_operand_207 rfl) (z_c (ok_ldc2 (v := (26982)) zw_802 dX12_operand_208) (z_c (ok_callV zcal_175 (q := (RX12, TX12, 73)) rfl zw_824 zw_825 zw_826 dX12_operand_211) (z_c (ok_if_eq dX12_operand_214 (by decide)) (z_c (ok_aload_n dX12_operand_217 rfl) (z_c (ok_ldc2 (v := (7170414)) zw_807 dX12_operand_218) (z_c (ok_callV zcal_175 (q := (RX12, TX12, 73)) rfl zw_824 zw_825 zw_826 dX12_operand_221) (z_c (ok_if_eq dX12_operand_224 (by decide)) z_n))))))))))))
noncomputable def tX12_operand_10 : List (Nat × zF) := [(227, (zst 2 (zp (.int (36))))), (229, (zgt 249)), (232, (zla4 0 1)), (233, (zst 3 (zp (.long (7168376))))), (236, (zcv 175 1 12)), (239, (z_if_eq 247)), (242, (zst 2 (zp (.int (37))))), (244, (zgt 249)), (247, (zst 2 (zp (.int (44))))), (249, (zsi4 4 3 1)), (250, (zla4 0 1)), (251, (zcv 173 0 12))]
theorem kX12_operand_10 : ∀ q ∈ tX12_operand_10, zOk zg iX12_operand q.1 q.2 := (z_c (ok_bipush (v := (36)) dX12_operand_227 (by decide)) (z_c (ok_goto dX12_operand_229 (by decide)) (z_c (ok_aload_n dX12_operand_232 rfl) (z_c (ok_ldc2 (v := (7168376)) zw_808 dX12_operand_233) (z_c (ok_callV zcal_175 (q := (RX12, TX12, 73)) rfl zw_824 zw_825 zw_826 dX12_operand_236) (z_c (ok_if_eq dX12_operand_239 (by decide)) (z_c (ok_bipush (v := (37)) dX12_operand_242 (by decide)) (z_c (ok_goto dX12_operand_244 (by decide)) (z_c (ok_bipush (v := (44)) dX12_operand_247 (by decide)) (z_c (ok_istore_n dX12_operand_249 rfl) (z_c (ok_aload_n dX12_operand_250 rfl) (z_c (ok_callV zcal_173 (q := (RX12, TX12, 73)) rfl zw_780 zw_781 zw_782 dX12_operand_251) z_n))))))))))))
noncomputable def tX12_operand_11 : List (Nat × zF) := [(254, (zla4 0 1)), (255, (zcv 172 0 12)), (258, (zla4 0 1)), (259, (zst 2 (zp (.int (40))))), (261, (zcv 174 1 12)), (264, (z_if_ne 276)), (267, (zla4 0 1)), (268, (zst 1 (zp (.int (1))))), (269, (zla4 0 1)), (270, (zgf 12 4)), (273, (zcv 169 2 12)), (276, (zla4 0 1))]
theorem kX12_operand_11 : ∀ q ∈ tX12_operand_11, zOk zg iX12_operand q.1 q.2 := (z_c (ok_aload_n dX12_operand_254 rfl) (z_c (ok_callV zcal_172 (q := (RX12, TX12, 73)) rfl zw_774 zw_775 zw_776 dX12_operand_255) (z_c (ok_aload_n dX12_operand_258 rfl) (z_c (ok_bipush (v := (40)) dX12_operand_259 (by decide)) (z_c (ok_callV zcal_174 (q := (RX12, TX12, 73)) rfl zw_777 zw_778 zw_779 dX12_operand_261) (z_c (ok_if_ne dX12_operand_264 (by decide)) (z_c (ok_aload_n dX12_operand_267 rfl) (z_c (ok_iconst (v := (1)) dX12_operand_268 (by decide)) (z_c (ok_aload_n dX12_operand_269 rfl) (z_c (ok_getf (C := RX12) (T := TX12) (N := 73) rfl (by decide) zinX12 rfl zw_691 dX12_operand_270) (z_c (ok_callV zcal_169 (q := (RX12, TX12, 73)) rfl zw_767 zw_768 zw_769 dX12_operand_273) (z_c (ok_aload_n dX12_operand_276 rfl) z_n))))))))))))
noncomputable def tX12_operand_12 : List (Nat × zF) := [(277, (zli4 3 1)), (278, (zst 2 (zp (.int (44))))), (280, (z_ic_ne 288)), (283, (zst 2 (zp (.int (6))))), (285, (zgt 289)), (288, (zst 1 (zp (.int (3))))), (289, (zcv 186 1 12)), (292, (zla4 0 1)), (293, (zgf 12 8)), (296, (z_if_ne 311)), (299, (zla4 0 1)), (300, (zgf 12 39))]
theorem kX12_operand_12 : ∀ q ∈ tX12_operand_12, zOk zg iX12_operand q.1 q.2 := (z_c (ok_iload_n dX12_operand_277 rfl) (z_c (ok_bipush (v := (44)) dX12_operand_278 (by decide)) (z_c (ok_icmp_ne dX12_operand_280 (by decide)) (z_c (ok_bipush (v := (6)) dX12_operand_283 (by decide)) (z_c (ok_goto dX12_operand_285 (by decide)) (z_c (ok_iconst (v := (3)) dX12_operand_288 (by decide)) (z_c (ok_callV zcal_186 (q := (RX12, TX12, 73)) rfl zw_830 zw_831 zw_832 dX12_operand_289) (z_c (ok_aload_n dX12_operand_292 rfl) (z_c (ok_getf (C := RX12) (T := TX12) (N := 73) rfl (by decide) zinX12 rfl zw_695 dX12_operand_293) (z_c (ok_if_ne dX12_operand_296 (by decide)) (z_c (ok_aload_n dX12_operand_299 rfl) (z_c (ok_getf (C := RX12) (T := TX12) (N := 73) rfl (by decide) zinX12 rfl zw_727 dX12_operand_300) z_n))))))))))))
noncomputable def tX12_operand_13 : List (Nat × zF) := [(303, (zla4 0 1)), (304, (zgf 12 41)), (307, (zst 1 (zp (.int (1))))), (308, (zst 1 z_isub)), (309, (zli4 3 1)), (310, (zas 0)), (311, (zst 1 (zp (.int (0))))), (312, (zri true)), (313, (zla4 0 1)), (314, (zgf 12 3)), (317, (zst 1 (zp (.int (2))))), (318, (z_ic_ne 325))]
theorem kX12_operand_13 : ∀ q ∈ tX12_operand_13, zOk zg iX12_operand q.1 q.2 := (z_c (ok_aload_n dX12_operand_303 rfl) (z_c (ok_getf (C := RX12) (T := TX12) (N := 73) rfl (by decide) zinX12 rfl zw_729 dX12_operand_304) (z_c (ok_iconst (v := (1)) dX12_operand_307 (by decide)) (z_c (ok_isub dX12_operand_308) (z_c (ok_iload_n dX12_operand_309 rfl) (z_c (ok_iastore rfl dX12_operand_310) (z_c (ok_iconst (v := (0)) dX12_operand_311 (by decide)) (z_c (ok_zreturn rfl dX12_operand_312) (z_c (ok_aload_n dX12_operand_313 rfl) (z_c (ok_getf (C := RX12) (T := TX12) (N := 73) rfl (by decide) zinX12 rfl zw_690 dX12_operand_314) (z_c (ok_iconst (v := (2)) dX12_operand_317 (by decide)) (z_c (ok_icmp_ne dX12_operand_318 (by decide)) z_n))))))))))))
noncomputable def tX12_operand_14 : List (Nat × zF) := [(321, (zst 1 (zp (.int (0))))), (322, (zgt 411)), (325, (zla4 0 1)), (326, (zst 3 (zp (.long (474214787188))))), (329, (zcv 175 1 12)), (332, (z_if_eq 339)), (335, (zst 1 (zp (.int (1))))), (336, (zgt 411)), (339, (zla4 0 1)), (340, (zst 3 (zp (.long (6845797))))), (343, (zcv 175 1 12)), (346, (z_if_eq 353))]
theorem kX12_operand_14 : ∀ q ∈ tX12_operand_14, zOk zg iX12_operand q.1 q.2 := (z_c (ok_iconst (v := (0)) dX12_operand_321 (by decide)) (z_c (ok_goto dX12_operand_322 (by decide)) (z_c (ok_aload_n dX12_operand_325 rfl) (z_c (ok_ldc2 (v := (474214787188)) zw_798 dX12_operand_326) (z_c (ok_callV zcal_175 (q := (RX12, TX12, 73)) rfl zw_824 zw_825 zw_826 dX12_operand_329) (z_c (ok_if_eq dX12_operand_332 (by decide)) (z_c (ok_iconst (v := (1)) dX12_operand_335 (by decide)) (z_c (ok_goto dX12_operand_336 (by decide)) (z_c (ok_aload_n dX12_operand_339 rfl) (z_c (ok_ldc2 (v := (6845797)) zw_790 dX12_operand_340) (z_c (ok_callV zcal_175 (q := (RX12, TX12, 73)) rfl zw_824 zw_825 zw_826 dX12_operand_343) (z_c (ok_if_eq dX12_operand_346 (by decide)) z_n))))))))))))
noncomputable def tX12_operand_15 : List (Nat × zF) := [(349, (zst 1 (zp (.int (2))))), (350, (zgt 411)), (353, (zla4 0 1)), (354, (zst 3 (zp (.long (1751738216))))), (357, (zcv 175 1 12)), (360, (z_if_eq 367)), (363, (zst 1 (zp (.int (3))))), (364, (zgt 411)), (367, (zla4 0 1)), (368, (zst 3 (zp (.long (6383461))))), (371, (zcv 175 1 12)), (374, (z_if_eq 381))]
theorem kX12_operand_15 : ∀ q ∈ tX12_operand_15, zOk zg iX12_operand q.1 q.2 := (z_c (ok_iconst (v := (2)) dX12_operand_349 (by decide)) (z_c (ok_goto dX12_operand_350 (by decide)) (z_c (ok_aload_n dX12_operand_353 rfl) (z_c (ok_ldc2 (v := (1751738216)) zw_791 dX12_operand_354) (z_c (ok_callV zcal_175 (q := (RX12, TX12, 73)) rfl zw_824 zw_825 zw_826 dX12_operand_357) (z_c (ok_if_eq dX12_operand_360 (by decide)) (z_c (ok_iconst (v := (3)) dX12_operand_363 (by decide)) (z_c (ok_goto dX12_operand_364 (by decide)) (z_c (ok_aload_n dX12_operand_367 rfl) (z_c (ok_ldc2 (v := (6383461)) zw_799 dX12_operand_368) (z_c (ok_callV zcal_175 (q := (RX12, TX12, 73)) rfl zw_824 zw_825 zw_826 dX12_operand_371) (z_c (ok_if_eq dX12_operand_374 (by decide)) z_n))))))))))))
noncomputable def tX12_operand_16 : List (Nat × zF) := [(377, (zst 1 (zp (.int (4))))), (378, (zgt 411)), (381, (zla4 0 1)), (382, (zst 3 (zp (.long (1819243380))))), (385, (zcv 175 1 12)), (388, (z_if_eq 395)), (391, (zst 1 (zp (.int (5))))), (392, (zgt 411)), (395, (zla4 0 1)), (396, (zst 3 (zp (.long (1852137842))))), (399, (zcv 175 1 12)), (402, (z_if_eq 410))]
theorem kX12_operand_16 : ∀ q ∈ tX12_operand_16, zOk zg iX12_operand q.1 q.2 := (z_c (ok_iconst (v := (4)) dX12_operand_377 (by decide)) (z_c (ok_goto dX12_operand_378 (by decide)) (z_c (ok_aload_n dX12_operand_381 rfl) (z_c (ok_ldc2 (v := (1819243380)) zw_800 dX12_operand_382) (z_c (ok_callV zcal_175 (q := (RX12, TX12, 73)) rfl zw_824 zw_825 zw_826 dX12_operand_385) (z_c (ok_if_eq dX12_operand_388 (by decide)) (z_c (ok_iconst (v := (5)) dX12_operand_391 (by decide)) (z_c (ok_goto dX12_operand_392 (by decide)) (z_c (ok_aload_n dX12_operand_395 rfl) (z_c (ok_ldc2 (v := (1852137842)) zw_801 dX12_operand_396) (z_c (ok_callV zcal_175 (q := (RX12, TX12, 73)) rfl zw_824 zw_825 zw_826 dX12_operand_399) (z_c (ok_if_eq dX12_operand_402 (by decide)) z_n))))))))))))
noncomputable def tX12_operand_17 : List (Nat × zF) := [(405, (zst 2 (zp (.int (6))))), (407, (zgt 411)), (410, (zst 1 (zp (.int ((-1)))))), (411, (zsi4 4 3 1)), (412, (zli4 3 1)), (413, (zst 1 (zp (.int (5))))), (414, (z_ic_lt 446)), (417, (zli4 3 1)), (418, (zst 2 (zp (.int (6))))), (420, (z_ic_ne 427)), (423, (zst 1 (zp (.int (1))))), (424, (zgt 428))]
theorem kX12_operand_17 : ∀ q ∈ tX12_operand_17, zOk zg iX12_operand q.1 q.2 := (z_c (ok_bipush (v := (6)) dX12_operand_405 (by decide)) (z_c (ok_goto dX12_operand_407 (by decide)) (z_c (ok_iconst (v := (-1)) dX12_operand_410 (by decide)) (z_c (ok_istore_n dX12_operand_411 rfl) (z_c (ok_iload_n dX12_operand_412 rfl) (z_c (ok_iconst (v := (5)) dX12_operand_413 (by decide)) (z_c (ok_icmp_lt dX12_operand_414 (by decide)) (z_c (ok_iload_n dX12_operand_417 rfl) (z_c (ok_bipush (v := (6)) dX12_operand_418 (by decide)) (z_c (ok_icmp_ne dX12_operand_420 (by decide)) (z_c (ok_iconst (v := (1)) dX12_operand_423 (by decide)) (z_c (ok_goto dX12_operand_424 (by decide)) z_n))))))))))))
noncomputable def tX12_operand_18 : List (Nat × zF) := [(427, (zst 1 (zp (.int (0))))), (428, (zla4 0 1)), (429, (zgf 12 35)), (432, (zst 1 (zp (.int (1))))), (433, (z_ic_ne 440)), (436, (zst 1 (zp (.int (1))))), (437, (zgt 441)), (440, (zst 1 (zp (.int (0))))), (441, (z_ic_eq 446)), (444, (zst 1 (zp (.int ((-1)))))), (445, (zsi4 4 3 1)), (446, (zli4 3 1))]
theorem kX12_operand_18 : ∀ q ∈ tX12_operand_18, zOk zg iX12_operand q.1 q.2 := (z_c (ok_iconst (v := (0)) dX12_operand_427 (by decide)) (z_c (ok_aload_n dX12_operand_428 rfl) (z_c (ok_getf (C := RX12) (T := TX12) (N := 73) rfl (by decide) zinX12 rfl zw_722 dX12_operand_429) (z_c (ok_iconst (v := (1)) dX12_operand_432 (by decide)) (z_c (ok_icmp_ne dX12_operand_433 (by decide)) (z_c (ok_iconst (v := (1)) dX12_operand_436 (by decide)) (z_c (ok_goto dX12_operand_437 (by decide)) (z_c (ok_iconst (v := (0)) dX12_operand_440 (by decide)) (z_c (ok_icmp_eq dX12_operand_441 (by decide)) (z_c (ok_iconst (v := (-1)) dX12_operand_444 (by decide)) (z_c (ok_istore_n dX12_operand_445 rfl) (z_c (ok_iload_n dX12_operand_446 rfl) z_n))))))))))))
noncomputable def tX12_operand_19 : List (Nat × zF) := [(447, (zst 1 (zp (.int ((-1)))))), (448, (z_ic_ne 460)), (451, (zla4 0 1)), (452, (zst 1 (zp (.int (1))))), (453, (zla4 0 1)), (454, (zgf 12 4)), (457, (zcv 169 2 12)), (460, (zla4 0 1)), (461, (zgf 12 8)), (464, (z_if_le 469)), (467, (zst 1 (zp (.int (1))))), (468, (zri true))]
theorem kX12_operand_19 : ∀ q ∈ tX12_operand_19, zOk zg iX12_operand q.1 q.2 := (z_c (ok_iconst (v := (-1)) dX12_operand_447 (by decide)) (z_c (ok_icmp_ne dX12_operand_448 (by decide)) (z_c (ok_aload_n dX12_operand_451 rfl) (z_c (ok_iconst (v := (1)) dX12_operand_452 (by decide)) (z_c (ok_aload_n dX12_operand_453 rfl) (z_c (ok_getf (C := RX12) (T := TX12) (N := 73) rfl (by decide) zinX12 rfl zw_691 dX12_operand_454) (z_c (ok_callV zcal_169 (q := (RX12, TX12, 73)) rfl zw_767 zw_768 zw_769 dX12_operand_457) (z_c (ok_aload_n dX12_operand_460 rfl) (z_c (ok_getf (C := RX12) (T := TX12) (N := 73) rfl (by decide) zinX12 rfl zw_695 dX12_operand_461) (z_c (ok_if_le dX12_operand_464 (by decide)) (z_c (ok_iconst (v := (1)) dX12_operand_467 (by decide)) (z_c (ok_zreturn rfl dX12_operand_468) z_n))))))))))))
noncomputable def tX12_operand_20 : List (Nat × zF) := [(469, (zla4 0 1)), (470, (zli4 3 1)), (471, (zla4 0 1)), (472, (zgf 12 6)), (475, (zcv 181 2 12)), (478, (zla4 0 1)), (479, (zcv 173 0 12)), (482, (zst 1 (zp (.int (1))))), (483, (zri true))]
theorem kX12_operand_20 : ∀ q ∈ tX12_operand_20, zOk zg iX12_operand q.1 q.2 := (z_c (ok_aload_n dX12_operand_469 rfl) (z_c (ok_iload_n dX12_operand_470 rfl) (z_c (ok_aload_n dX12_operand_471 rfl) (z_c (ok_getf (C := RX12) (T := TX12) (N := 73) rfl (by decide) zinX12 rfl zw_693 dX12_operand_472) (z_c (ok_callV zcal_181 (q := (RX12, TX12, 73)) rfl zw_816 zw_817 zw_818 dX12_operand_475) (z_c (ok_aload_n dX12_operand_478 rfl) (z_c (ok_callV zcal_173 (q := (RX12, TX12, 73)) rfl zw_780 zw_781 zw_782 dX12_operand_479) (z_c (ok_iconst (v := (1)) dX12_operand_482 (by decide)) (z_c (ok_zreturn rfl dX12_operand_483) z_n)))))))))
noncomputable def tX12_operand : zT := [(20, tX12_operand_0), (42, tX12_operand_1), (67, tX12_operand_2), (89, tX12_operand_3), (110, tX12_operand_4), (131, tX12_operand_5), (154, tX12_operand_6), (172, tX12_operand_7), (197, tX12_operand_8), (227, tX12_operand_9), (254, tX12_operand_10), (277, tX12_operand_11), (303, tX12_operand_12), (321, tX12_operand_13), (349, tX12_operand_14), (377, tX12_operand_15), (405, tX12_operand_16), (427, tX12_operand_17), (447, tX12_operand_18), (469, tX12_operand_19), (100000, tX12_operand_20)]
theorem kX12_operand : zTok zg iX12_operand tX12_operand := (z_t kX12_operand_0 (z_t kX12_operand_1 (z_t kX12_operand_2 (z_t kX12_operand_3 (z_t kX12_operand_4 (z_t kX12_operand_5 (z_t kX12_operand_6 (z_t kX12_operand_7 (z_t kX12_operand_8 (z_t kX12_operand_9 (z_t kX12_operand_10 (z_t kX12_operand_11 (z_t kX12_operand_12 (z_t kX12_operand_13 (z_t kX12_operand_14 (z_t kX12_operand_15 (z_t kX12_operand_16 (z_t kX12_operand_17 (z_t kX12_operand_18 (z_t kX12_operand_19 (z_t kX12_operand_20 z_tn)))))))))))))))))))))
theorem dX12_goesOn_0 : decode cX12_goesOn 0 = .ok (.aload_n 0, 1) := by decide +kernel
theorem dX12_goesOn_1 : decode cX12_goesOn 1 = .ok (.invokevirtual 253, 3) := by decide +kernel
theorem dX12_goesOn_4 : decode cX12_goesOn 4 = .ok (.aload_n 0, 1) := by decide +kernel
theorem dX12_goesOn_5 : decode cX12_goesOn 5 = .ok (.getfield 36, 3) := by decide +kernel
theorem dX12_goesOn_8 : decode cX12_goesOn 8 = .ok (.ifCond .le 5, 3) := by decide +kernel
theorem dX12_goesOn_11 : decode cX12_goesOn 11 = .ok (.iconst 0, 1) := by decide +kernel
theorem dX12_goesOn_12 : decode cX12_goesOn 12 = .ok (.ireturn, 1) := by decide +kernel
theorem dX12_goesOn_13 : decode cX12_goesOn 13 = .ok (.aload_n 0, 1) := by decide +kernel
theorem dX12_goesOn_14 : decode cX12_goesOn 14 = .ok (.getfield 137, 3) := by decide +kernel
theorem dX12_goesOn_17 : decode cX12_goesOn 17 = .ok (.iconst 1, 1) := by decide +kernel
theorem dX12_goesOn_18 : decode cX12_goesOn 18 = .ok (.isub, 1) := by decide +kernel
theorem dX12_goesOn_19 : decode cX12_goesOn 19 = .ok (.istore_n 1, 1) := by decide +kernel
theorem dX12_goesOn_20 : decode cX12_goesOn 20 = .ok (.aload_n 0, 1) := by decide +kernel
theorem dX12_goesOn_21 : decode cX12_goesOn 21 = .ok (.getfield 121, 3) := by decide +kernel
theorem dX12_goesOn_24 : decode cX12_goesOn 24 = .ok (.iload_n 1, 1) := by decide +kernel
theorem dX12_goesOn_25 : decode cX12_goesOn 25 = .ok (.iaload, 1) := by decide +kernel
theorem dX12_goesOn_26 : decode cX12_goesOn 26 = .ok (.istore_n 2, 1) := by decide +kernel
theorem dX12_goesOn_27 : decode cX12_goesOn 27 = .ok (.iload_n 2, 1) := by decide +kernel
theorem dX12_goesOn_28 : decode cX12_goesOn 28 = .ok (.invokestatic 331, 3) := by decide +kernel
theorem dX12_goesOn_31 : decode cX12_goesOn 31 = .ok (.istore_n 3, 1) := by decide +kernel
theorem dX12_goesOn_32 : decode cX12_goesOn 32 = .ok (.aload_n 0, 1) := by decide +kernel
theorem dX12_goesOn_33 : decode cX12_goesOn 33 = .ok (.getfield 124, 3) := by decide +kernel
theorem dX12_goesOn_36 : decode cX12_goesOn 36 = .ok (.iload_n 1, 1) := by decide +kernel
theorem dX12_goesOn_37 : decode cX12_goesOn 37 = .ok (.iaload, 1) := by decide +kernel
theorem dX12_goesOn_38 : decode cX12_goesOn 38 = .ok (.iconst 2, 1) := by decide +kernel
theorem dX12_goesOn_39 : decode cX12_goesOn 39 = .ok (.if_icmp .ge 149, 3) := by decide +kernel
theorem dX12_goesOn_42 : decode cX12_goesOn 42 = .ok (.aload_n 0, 1) := by decide +kernel
theorem dX12_goesOn_43 : decode cX12_goesOn 43 = .ok (.bipush 43, 2) := by decide +kernel
theorem dX12_goesOn_45 : decode cX12_goesOn 45 = .ok (.invokevirtual 256, 3) := by decide +kernel
theorem dX12_goesOn_48 : decode cX12_goesOn 48 = .ok (.ifCond .ne 39, 3) := by decide +kernel
theorem dX12_goesOn_51 : decode cX12_goesOn 51 = .ok (.aload_n 0, 1) := by decide +kernel
theorem dX12_goesOn_52 : decode cX12_goesOn 52 = .ok (.bipush 45, 2) := by decide +kernel
theorem dX12_goesOn_54 : decode cX12_goesOn 54 = .ok (.invokevirtual 256, 3) := by decide +kernel
theorem dX12_goesOn_57 : decode cX12_goesOn 57 = .ok (.ifCond .ne 30, 3) := by decide +kernel
theorem dX12_goesOn_60 : decode cX12_goesOn 60 = .ok (.aload_n 0, 1) := by decide +kernel
theorem dX12_goesOn_61 : decode cX12_goesOn 61 = .ok (.bipush 42, 2) := by decide +kernel
theorem dX12_goesOn_63 : decode cX12_goesOn 63 = .ok (.invokevirtual 256, 3) := by decide +kernel
theorem dX12_goesOn_66 : decode cX12_goesOn 66 = .ok (.ifCond .ne 21, 3) := by decide +kernel
theorem dX12_goesOn_69 : decode cX12_goesOn 69 = .ok (.aload_n 0, 1) := by decide +kernel
theorem dX12_goesOn_70 : decode cX12_goesOn 70 = .ok (.bipush 47, 2) := by decide +kernel
theorem dX12_goesOn_72 : decode cX12_goesOn 72 = .ok (.invokevirtual 256, 3) := by decide +kernel
theorem dX12_goesOn_75 : decode cX12_goesOn 75 = .ok (.ifCond .ne 12, 3) := by decide +kernel
theorem dX12_goesOn_78 : decode cX12_goesOn 78 = .ok (.aload_n 0, 1) := by decide +kernel
theorem dX12_goesOn_79 : decode cX12_goesOn 79 = .ok (.bipush 37, 2) := by decide +kernel
theorem dX12_goesOn_81 : decode cX12_goesOn 81 = .ok (.invokevirtual 256, 3) := by decide +kernel
theorem dX12_goesOn_84 : decode cX12_goesOn 84 = .ok (.ifCond .eq 104, 3) := by decide +kernel
theorem dX12_goesOn_87 : decode cX12_goesOn 87 = .ok (.aload_n 0, 1) := by decide +kernel
theorem dX12_goesOn_88 : decode cX12_goesOn 88 = .ok (.aload_n 0, 1) := by decide +kernel
theorem dX12_goesOn_89 : decode cX12_goesOn 89 = .ok (.bipush 43, 2) := by decide +kernel
theorem dX12_goesOn_91 : decode cX12_goesOn 91 = .ok (.invokevirtual 256, 3) := by decide +kernel
theorem dX12_goesOn_94 : decode cX12_goesOn 94 = .ok (.ifCond .ne 12, 3) := by decide +kernel
theorem dX12_goesOn_97 : decode cX12_goesOn 97 = .ok (.aload_n 0, 1) := by decide +kernel
theorem dX12_goesOn_98 : decode cX12_goesOn 98 = .ok (.bipush 45, 2) := by decide +kernel
theorem dX12_goesOn_100 : decode cX12_goesOn 100 = .ok (.invokevirtual 256, 3) := by decide +kernel
theorem dX12_goesOn_103 : decode cX12_goesOn 103 = .ok (.ifCond .eq 7, 3) := by decide +kernel
theorem dX12_goesOn_106 : decode cX12_goesOn 106 = .ok (.iconst 5, 1) := by decide +kernel
theorem dX12_goesOn_107 : decode cX12_goesOn 107 = .ok (.goto 5, 3) := by decide +kernel
theorem dX12_goesOn_110 : decode cX12_goesOn 110 = .ok (.bipush 6, 2) := by decide +kernel
theorem dX12_goesOn_112 : decode cX12_goesOn 112 = .ok (.invokevirtual 344, 3) := by decide +kernel
theorem dX12_goesOn_115 : decode cX12_goesOn 115 = .ok (.aload_n 0, 1) := by decide +kernel
theorem dX12_goesOn_116 : decode cX12_goesOn 116 = .ok (.aload_n 0, 1) := by decide +kernel
theorem dX12_goesOn_117 : decode cX12_goesOn 117 = .ok (.bipush 43, 2) := by decide +kernel
theorem dX12_goesOn_119 : decode cX12_goesOn 119 = .ok (.invokevirtual 256, 3) := by decide +kernel
theorem dX12_goesOn_122 : decode cX12_goesOn 122 = .ok (.ifCond .eq 8, 3) := by decide +kernel
theorem dX12_goesOn_125 : decode cX12_goesOn 125 = .ok (.bipush 31, 2) := by decide +kernel
theorem dX12_goesOn_127 : decode cX12_goesOn 127 = .ok (.goto 47, 3) := by decide +kernel
theorem dX12_goesOn_130 : decode cX12_goesOn 130 = .ok (.aload_n 0, 1) := by decide +kernel
theorem dX12_goesOn_131 : decode cX12_goesOn 131 = .ok (.bipush 45, 2) := by decide +kernel
theorem dX12_goesOn_133 : decode cX12_goesOn 133 = .ok (.invokevirtual 256, 3) := by decide +kernel
theorem dX12_goesOn_136 : decode cX12_goesOn 136 = .ok (.ifCond .eq 8, 3) := by decide +kernel
theorem dX12_goesOn_139 : decode cX12_goesOn 139 = .ok (.bipush 32, 2) := by decide +kernel
theorem dX12_goesOn_141 : decode cX12_goesOn 141 = .ok (.goto 33, 3) := by decide +kernel
theorem dX12_goesOn_144 : decode cX12_goesOn 144 = .ok (.aload_n 0, 1) := by decide +kernel
theorem dX12_goesOn_145 : decode cX12_goesOn 145 = .ok (.bipush 42, 2) := by decide +kernel
theorem dX12_goesOn_147 : decode cX12_goesOn 147 = .ok (.invokevirtual 256, 3) := by decide +kernel
theorem dX12_goesOn_150 : decode cX12_goesOn 150 = .ok (.ifCond .eq 8, 3) := by decide +kernel
theorem dX12_goesOn_153 : decode cX12_goesOn 153 = .ok (.bipush 33, 2) := by decide +kernel
theorem dX12_goesOn_155 : decode cX12_goesOn 155 = .ok (.goto 19, 3) := by decide +kernel
theorem dX12_goesOn_158 : decode cX12_goesOn 158 = .ok (.aload_n 0, 1) := by decide +kernel
theorem dX12_goesOn_159 : decode cX12_goesOn 159 = .ok (.bipush 47, 2) := by decide +kernel
theorem dX12_goesOn_161 : decode cX12_goesOn 161 = .ok (.invokevirtual 256, 3) := by decide +kernel
theorem dX12_goesOn_164 : decode cX12_goesOn 164 = .ok (.ifCond .eq 8, 3) := by decide +kernel
theorem dX12_goesOn_167 : decode cX12_goesOn 167 = .ok (.bipush 34, 2) := by decide +kernel
theorem dX12_goesOn_169 : decode cX12_goesOn 169 = .ok (.goto 5, 3) := by decide +kernel
theorem dX12_goesOn_172 : decode cX12_goesOn 172 = .ok (.bipush 35, 2) := by decide +kernel
theorem dX12_goesOn_174 : decode cX12_goesOn 174 = .ok (.invokevirtual 338, 3) := by decide +kernel
theorem dX12_goesOn_177 : decode cX12_goesOn 177 = .ok (.aload_n 0, 1) := by decide +kernel
theorem dX12_goesOn_178 : decode cX12_goesOn 178 = .ok (.invokevirtual 259, 3) := by decide +kernel
theorem dX12_goesOn_181 : decode cX12_goesOn 181 = .ok (.aload_n 0, 1) := by decide +kernel
theorem dX12_goesOn_182 : decode cX12_goesOn 182 = .ok (.iconst 0, 1) := by decide +kernel
theorem dX12_goesOn_183 : decode cX12_goesOn 183 = .ok (.putfield 149, 3) := by decide +kernel
theorem dX12_goesOn_186 : decode cX12_goesOn 186 = .ok (.iconst 1, 1) := by decide +kernel
theorem dX12_goesOn_187 : decode cX12_goesOn 187 = .ok (.ireturn, 1) := by decide +kernel
theorem dX12_goesOn_188 : decode cX12_goesOn 188 = .ok (.iload_n 3, 1) := by decide +kernel
theorem dX12_goesOn_189 : decode cX12_goesOn 189 = .ok (.ifCond .eq 96, 3) := by decide +kernel
theorem dX12_goesOn_192 : decode cX12_goesOn 192 = .ok (.aload_n 0, 1) := by decide +kernel
theorem dX12_goesOn_193 : decode cX12_goesOn 193 = .ok (.getfield 124, 3) := by decide +kernel
theorem dX12_goesOn_196 : decode cX12_goesOn 196 = .ok (.iload_n 1, 1) := by decide +kernel
theorem dX12_goesOn_197 : decode cX12_goesOn 197 = .ok (.iaload, 1) := by decide +kernel
theorem dX12_goesOn_198 : decode cX12_goesOn 198 = .ok (.ifCond .ne 87, 3) := by decide +kernel
theorem dX12_goesOn_201 : decode cX12_goesOn 201 = .ok (.aload_n 0, 1) := by decide +kernel
theorem dX12_goesOn_202 : decode cX12_goesOn 202 = .ok (.bipush 60, 2) := by decide +kernel
theorem dX12_goesOn_204 : decode cX12_goesOn 204 = .ok (.invokevirtual 256, 3) := by decide +kernel
theorem dX12_goesOn_207 : decode cX12_goesOn 207 = .ok (.ifCond .ne 21, 3) := by decide +kernel
theorem dX12_goesOn_210 : decode cX12_goesOn 210 = .ok (.aload_n 0, 1) := by decide +kernel
theorem dX12_goesOn_211 : decode cX12_goesOn 211 = .ok (.bipush 62, 2) := by decide +kernel
theorem dX12_goesOn_213 : decode cX12_goesOn 213 = .ok (.invokevirtual 256, 3) := by decide +kernel
theorem dX12_goesOn_216 : decode cX12_goesOn 216 = .ok (.ifCond .ne 12, 3) := by decide +kernel
theorem dX12_goesOn_219 : decode cX12_goesOn 219 = .ok (.aload_n 0, 1) := by decide +kernel
theorem dX12_goesOn_220 : decode cX12_goesOn 220 = .ok (.bipush 61, 2) := by decide +kernel
theorem dX12_goesOn_222 : decode cX12_goesOn 222 = .ok (.invokevirtual 256, 3) := by decide +kernel
theorem dX12_goesOn_225 : decode cX12_goesOn 225 = .ok (.ifCond .eq 60, 3) := by decide +kernel
theorem dX12_goesOn_228 : decode cX12_goesOn 228 = .ok (.aload_n 0, 1) := by decide +kernel
theorem dX12_goesOn_229 : decode cX12_goesOn 229 = .ok (.iconst 5, 1) := by decide +kernel
theorem dX12_goesOn_230 : decode cX12_goesOn 230 = .ok (.invokevirtual 344, 3) := by decide +kernel
theorem dX12_goesOn_233 : decode cX12_goesOn 233 = .ok (.aload_n 0, 1) := by decide +kernel
theorem dX12_goesOn_234 : decode cX12_goesOn 234 = .ok (.aload_n 0, 1) := by decide +kernel
theorem dX12_goesOn_235 : decode cX12_goesOn 235 = .ok (.bipush 60, 2) := by decide +kernel
theorem dX12_goesOn_237 : decode cX12_goesOn 237 = .ok (.invokevirtual 256, 3) := by decide +kernel
theorem dX12_goesOn_240 : decode cX12_goesOn 240 = .ok (.ifCond .eq 8, 3) := by decide +kernel
theorem dX12_goesOn_243 : decode cX12_goesOn 243 = .ok (.bipush 38, 2) := by decide +kernel
theorem dX12_goesOn_245 : decode cX12_goesOn 245 = .ok (.goto 19, 3) := by decide +kernel
theorem dX12_goesOn_248 : decode cX12_goesOn 248 = .ok (.aload_n 0, 1) := by decide +kernel
theorem dX12_goesOn_249 : decode cX12_goesOn 249 = .ok (.bipush 62, 2) := by decide +kernel
theorem dX12_goesOn_251 : decode cX12_goesOn 251 = .ok (.invokevirtual 256, 3) := by decide +kernel
theorem dX12_goesOn_254 : decode cX12_goesOn 254 = .ok (.ifCond .eq 8, 3) := by decide +kernel
theorem dX12_goesOn_257 : decode cX12_goesOn 257 = .ok (.bipush 39, 2) := by decide +kernel
theorem dX12_goesOn_259 : decode cX12_goesOn 259 = .ok (.goto 5, 3) := by decide +kernel
theorem dX12_goesOn_262 : decode cX12_goesOn 262 = .ok (.bipush 40, 2) := by decide +kernel
theorem dX12_goesOn_264 : decode cX12_goesOn 264 = .ok (.invokevirtual 338, 3) := by decide +kernel
theorem dX12_goesOn_267 : decode cX12_goesOn 267 = .ok (.aload_n 0, 1) := by decide +kernel
theorem dX12_goesOn_268 : decode cX12_goesOn 268 = .ok (.getfield 124, 3) := by decide +kernel
theorem dX12_goesOn_271 : decode cX12_goesOn 271 = .ok (.iload_n 1, 1) := by decide +kernel
theorem dX12_goesOn_272 : decode cX12_goesOn 272 = .ok (.iconst 1, 1) := by decide +kernel
theorem dX12_goesOn_273 : decode cX12_goesOn 273 = .ok (.iastore, 1) := by decide +kernel
theorem dX12_goesOn_274 : decode cX12_goesOn 274 = .ok (.aload_n 0, 1) := by decide +kernel
theorem dX12_goesOn_275 : decode cX12_goesOn 275 = .ok (.invokevirtual 259, 3) := by decide +kernel
theorem dX12_goesOn_278 : decode cX12_goesOn 278 = .ok (.aload_n 0, 1) := by decide +kernel
theorem dX12_goesOn_279 : decode cX12_goesOn 279 = .ok (.iconst 0, 1) := by decide +kernel
theorem dX12_goesOn_280 : decode cX12_goesOn 280 = .ok (.putfield 149, 3) := by decide +kernel
theorem dX12_goesOn_283 : decode cX12_goesOn 283 = .ok (.iconst 1, 1) := by decide +kernel
theorem dX12_goesOn_284 : decode cX12_goesOn 284 = .ok (.ireturn, 1) := by decide +kernel
theorem dX12_goesOn_285 : decode cX12_goesOn 285 = .ok (.iload_n 3, 1) := by decide +kernel
theorem dX12_goesOn_286 : decode cX12_goesOn 286 = .ok (.ifCond .eq 114, 3) := by decide +kernel
theorem dX12_goesOn_289 : decode cX12_goesOn 289 = .ok (.aload_n 0, 1) := by decide +kernel
theorem dX12_goesOn_290 : decode cX12_goesOn 290 = .ok (.ldc2_w 304, 3) := by decide +kernel
theorem dX12_goesOn_293 : decode cX12_goesOn 293 = .ok (.invokevirtual 334, 3) := by decide +kernel
theorem dX12_goesOn_296 : decode cX12_goesOn 296 = .ok (.ifCond .ne 13, 3) := by decide +kernel
theorem dX12_goesOn_299 : decode cX12_goesOn 299 = .ok (.aload_n 0, 1) := by decide +kernel
theorem dX12_goesOn_300 : decode cX12_goesOn 300 = .ok (.ldc2_w 302, 3) := by decide +kernel
theorem dX12_goesOn_303 : decode cX12_goesOn 303 = .ok (.invokevirtual 334, 3) := by decide +kernel
theorem dX12_goesOn_306 : decode cX12_goesOn 306 = .ok (.ifCond .eq 94, 3) := by decide +kernel
theorem dX12_goesOn_309 : decode cX12_goesOn 309 = .ok (.aload_n 0, 1) := by decide +kernel
theorem dX12_goesOn_310 : decode cX12_goesOn 310 = .ok (.getfield 124, 3) := by decide +kernel
theorem dX12_goesOn_313 : decode cX12_goesOn 313 = .ok (.iload_n 1, 1) := by decide +kernel
theorem dX12_goesOn_314 : decode cX12_goesOn 314 = .ok (.iaload, 1) := by decide +kernel
theorem dX12_goesOn_315 : decode cX12_goesOn 315 = .ok (.ifCond .ne 12, 3) := by decide +kernel
theorem dX12_goesOn_318 : decode cX12_goesOn 318 = .ok (.aload_n 0, 1) := by decide +kernel
theorem dX12_goesOn_319 : decode cX12_goesOn 319 = .ok (.iconst 1, 1) := by decide +kernel
theorem dX12_goesOn_320 : decode cX12_goesOn 320 = .ok (.aload_n 0, 1) := by decide +kernel
theorem dX12_goesOn_321 : decode cX12_goesOn 321 = .ok (.getfield 23, 3) := by decide +kernel
theorem dX12_goesOn_324 : decode cX12_goesOn 324 = .ok (.invokevirtual 242, 3) := by decide +kernel
theorem dX12_goesOn_327 : decode cX12_goesOn 327 = .ok (.aload_n 0, 1) := by decide +kernel
theorem dX12_goesOn_328 : decode cX12_goesOn 328 = .ok (.getfield 36, 3) := by decide +kernel
theorem dX12_goesOn_331 : decode cX12_goesOn 331 = .ok (.ifCond .le 5, 3) := by decide +kernel
theorem dX12_goesOn_334 : decode cX12_goesOn 334 = .ok (.iconst 0, 1) := by decide +kernel
theorem dX12_goesOn_335 : decode cX12_goesOn 335 = .ok (.ireturn, 1) := by decide +kernel
theorem dX12_goesOn_336 : decode cX12_goesOn 336 = .ok (.aload_n 0, 1) := by decide +kernel
theorem dX12_goesOn_337 : decode cX12_goesOn 337 = .ok (.ldc2_w 304, 3) := by decide +kernel
theorem dX12_goesOn_340 : decode cX12_goesOn 340 = .ok (.invokevirtual 334, 3) := by decide +kernel
theorem dX12_goesOn_343 : decode cX12_goesOn 343 = .ok (.istore 4, 2) := by decide +kernel
theorem dX12_goesOn_345 : decode cX12_goesOn 345 = .ok (.aload_n 0, 1) := by decide +kernel
theorem dX12_goesOn_346 : decode cX12_goesOn 346 = .ok (.iload 4, 2) := by decide +kernel
theorem dX12_goesOn_348 : decode cX12_goesOn 348 = .ok (.ifCond .eq 7, 3) := by decide +kernel
theorem dX12_goesOn_351 : decode cX12_goesOn 351 = .ok (.iconst 2, 1) := by decide +kernel
theorem dX12_goesOn_352 : decode cX12_goesOn 352 = .ok (.goto 4, 3) := by decide +kernel
theorem dX12_goesOn_355 : decode cX12_goesOn 355 = .ok (.iconst 1, 1) := by decide +kernel
theorem dX12_goesOn_356 : decode cX12_goesOn 356 = .ok (.invokevirtual 344, 3) := by decide +kernel
theorem dX12_goesOn_359 : decode cX12_goesOn 359 = .ok (.aload_n 0, 1) := by decide +kernel
theorem dX12_goesOn_360 : decode cX12_goesOn 360 = .ok (.iload 4, 2) := by decide +kernel
theorem dX12_goesOn_362 : decode cX12_goesOn 362 = .ok (.ifCond .eq 8, 3) := by decide +kernel
theorem dX12_goesOn_365 : decode cX12_goesOn 365 = .ok (.bipush 41, 2) := by decide +kernel
theorem dX12_goesOn_367 : decode cX12_goesOn 367 = .ok (.goto 5, 3) := by decide +kernel
theorem dX12_goesOn_370 : decode cX12_goesOn 370 = .ok (.bipush 42, 2) := by decide +kernel
theorem dX12_goesOn_372 : decode cX12_goesOn 372 = .ok (.invokevirtual 338, 3) := by decide +kernel
theorem dX12_goesOn_375 : decode cX12_goesOn 375 = .ok (.aload_n 0, 1) := by decide +kernel
theorem dX12_goesOn_376 : decode cX12_goesOn 376 = .ok (.getfield 124, 3) := by decide +kernel
theorem dX12_goesOn_379 : decode cX12_goesOn 379 = .ok (.iload_n 1, 1) := by decide +kernel
theorem dX12_goesOn_380 : decode cX12_goesOn 380 = .ok (.iconst 0, 1) := by decide +kernel
theorem dX12_goesOn_381 : decode cX12_goesOn 381 = .ok (.iastore, 1) := by decide +kernel
theorem dX12_goesOn_382 : decode cX12_goesOn 382 = .ok (.aload_n 0, 1) := by decide +kernel
theorem dX12_goesOn_383 : decode cX12_goesOn 383 = .ok (.getfield 127, 3) := by decide +kernel
theorem dX12_goesOn_386 : decode cX12_goesOn 386 = .ok (.iload_n 1, 1) := by decide +kernel
theorem dX12_goesOn_387 : decode cX12_goesOn 387 = .ok (.iconst 1, 1) := by decide +kernel
theorem dX12_goesOn_388 : decode cX12_goesOn 388 = .ok (.bastore, 1) := by decide +kernel
theorem dX12_goesOn_389 : decode cX12_goesOn 389 = .ok (.aload_n 0, 1) := by decide +kernel
theorem dX12_goesOn_390 : decode cX12_goesOn 390 = .ok (.invokevirtual 259, 3) := by decide +kernel
theorem dX12_goesOn_393 : decode cX12_goesOn 393 = .ok (.aload_n 0, 1) := by decide +kernel
theorem dX12_goesOn_394 : decode cX12_goesOn 394 = .ok (.iconst 0, 1) := by decide +kernel
theorem dX12_goesOn_395 : decode cX12_goesOn 395 = .ok (.putfield 149, 3) := by decide +kernel
theorem dX12_goesOn_398 : decode cX12_goesOn 398 = .ok (.iconst 1, 1) := by decide +kernel
theorem dX12_goesOn_399 : decode cX12_goesOn 399 = .ok (.ireturn, 1) := by decide +kernel
theorem dX12_goesOn_400 : decode cX12_goesOn 400 = .ok (.iload_n 3, 1) := by decide +kernel
theorem dX12_goesOn_401 : decode cX12_goesOn 401 = .ok (.ifCond .eq 21, 3) := by decide +kernel
theorem dX12_goesOn_404 : decode cX12_goesOn 404 = .ok (.aload_n 0, 1) := by decide +kernel
theorem dX12_goesOn_405 : decode cX12_goesOn 405 = .ok (.getfield 124, 3) := by decide +kernel
theorem dX12_goesOn_408 : decode cX12_goesOn 408 = .ok (.iload_n 1, 1) := by decide +kernel
theorem dX12_goesOn_409 : decode cX12_goesOn 409 = .ok (.iaload, 1) := by decide +kernel
theorem dX12_goesOn_410 : decode cX12_goesOn 410 = .ok (.ifCond .ne 12, 3) := by decide +kernel
theorem dX12_goesOn_413 : decode cX12_goesOn 413 = .ok (.aload_n 0, 1) := by decide +kernel
theorem dX12_goesOn_414 : decode cX12_goesOn 414 = .ok (.iconst 1, 1) := by decide +kernel
theorem dX12_goesOn_415 : decode cX12_goesOn 415 = .ok (.aload_n 0, 1) := by decide +kernel
theorem dX12_goesOn_416 : decode cX12_goesOn 416 = .ok (.getfield 23, 3) := by decide +kernel
theorem dX12_goesOn_419 : decode cX12_goesOn 419 = .ok (.invokevirtual 242, 3) := by decide +kernel
theorem dX12_goesOn_422 : decode cX12_goesOn 422 = .ok (.iload_n 2, 1) := by decide +kernel
theorem dX12_goesOn_423 : decode cX12_goesOn 423 = .ok (.iconst 2, 1) := by decide +kernel
theorem dX12_goesOn_424 : decode cX12_goesOn 424 = .ok (.if_icmp .ge 17, 3) := by decide +kernel
theorem dX12_goesOn_427 : decode cX12_goesOn 427 = .ok (.aload_n 0, 1) := by decide +kernel
theorem dX12_goesOn_428 : decode cX12_goesOn 428 = .ok (.getfield 36, 3) := by decide +kernel
theorem dX12_goesOn_431 : decode cX12_goesOn 431 = .ok (.ifCond .ne 8, 3) := by decide +kernel
theorem dX12_goesOn_434 : decode cX12_goesOn 434 = .ok (.aload_n 0, 1) := by decide +kernel
theorem dX12_goesOn_435 : decode cX12_goesOn 435 = .ok (.iconst 1, 1) := by decide +kernel
theorem dX12_goesOn_436 : decode cX12_goesOn 436 = .ok (.invokevirtual 344, 3) := by decide +kernel
theorem dX12_goesOn_439 : decode cX12_goesOn 439 = .ok (.iconst 0, 1) := by decide +kernel
theorem dX12_goesOn_440 : decode cX12_goesOn 440 = .ok (.ireturn, 1) := by decide +kernel
theorem dX12_goesOn_441 : decode cX12_goesOn 441 = .ok (.iload_n 2, 1) := by decide +kernel
theorem dX12_goesOn_442 : decode cX12_goesOn 442 = .ok (.iconst 3, 1) := by decide +kernel
theorem dX12_goesOn_443 : decode cX12_goesOn 443 = .ok (.if_icmp .eq 9, 3) := by decide +kernel
theorem dX12_goesOn_446 : decode cX12_goesOn 446 = .ok (.iload_n 2, 1) := by decide +kernel
theorem dX12_goesOn_447 : decode cX12_goesOn 447 = .ok (.bipush 6, 2) := by decide +kernel
theorem dX12_goesOn_449 : decode cX12_goesOn 449 = .ok (.if_icmp .ne 69, 3) := by decide +kernel
theorem dX12_goesOn_452 : decode cX12_goesOn 452 = .ok (.aload_n 0, 1) := by decide +kernel
theorem dX12_goesOn_453 : decode cX12_goesOn 453 = .ok (.bipush 44, 2) := by decide +kernel
theorem dX12_goesOn_455 : decode cX12_goesOn 455 = .ok (.invokevirtual 256, 3) := by decide +kernel
theorem dX12_goesOn_458 : decode cX12_goesOn 458 = .ok (.ifCond .ne 12, 3) := by decide +kernel
theorem dX12_goesOn_461 : decode cX12_goesOn 461 = .ok (.aload_n 0, 1) := by decide +kernel
theorem dX12_goesOn_462 : decode cX12_goesOn 462 = .ok (.iconst 1, 1) := by decide +kernel
theorem dX12_goesOn_463 : decode cX12_goesOn 463 = .ok (.aload_n 0, 1) := by decide +kernel
theorem dX12_goesOn_464 : decode cX12_goesOn 464 = .ok (.getfield 23, 3) := by decide +kernel
theorem dX12_goesOn_467 : decode cX12_goesOn 467 = .ok (.invokevirtual 242, 3) := by decide +kernel
theorem dX12_goesOn_470 : decode cX12_goesOn 470 = .ok (.aload_n 0, 1) := by decide +kernel
theorem dX12_goesOn_471 : decode cX12_goesOn 471 = .ok (.getfield 36, 3) := by decide +kernel
theorem dX12_goesOn_474 : decode cX12_goesOn 474 = .ok (.ifCond .le 5, 3) := by decide +kernel
theorem dX12_goesOn_477 : decode cX12_goesOn 477 = .ok (.iconst 0, 1) := by decide +kernel
theorem dX12_goesOn_478 : decode cX12_goesOn 478 = .ok (.ireturn, 1) := by decide +kernel
theorem dX12_goesOn_479 : decode cX12_goesOn 479 = .ok (.aload_n 0, 1) := by decide +kernel
theorem dX12_goesOn_480 : decode cX12_goesOn 480 = .ok (.iconst 1, 1) := by decide +kernel
theorem dX12_goesOn_481 : decode cX12_goesOn 481 = .ok (.invokevirtual 344, 3) := by decide +kernel
theorem dX12_goesOn_484 : decode cX12_goesOn 484 = .ok (.aload_n 0, 1) := by decide +kernel
theorem dX12_goesOn_485 : decode cX12_goesOn 485 = .ok (.getfield 121, 3) := by decide +kernel
theorem dX12_goesOn_488 : decode cX12_goesOn 488 = .ok (.iload_n 1, 1) := by decide +kernel
theorem dX12_goesOn_489 : decode cX12_goesOn 489 = .ok (.iload_n 2, 1) := by decide +kernel
theorem dX12_goesOn_490 : decode cX12_goesOn 490 = .ok (.iconst 3, 1) := by decide +kernel
theorem dX12_goesOn_491 : decode cX12_goesOn 491 = .ok (.if_icmp .ne 7, 3) := by decide +kernel
theorem dX12_goesOn_494 : decode cX12_goesOn 494 = .ok (.iconst 4, 1) := by decide +kernel
theorem dX12_goesOn_495 : decode cX12_goesOn 495 = .ok (.goto 4, 3) := by decide +kernel
theorem dX12_goesOn_498 : decode cX12_goesOn 498 = .ok (.iconst 3, 1) := by decide +kernel
theorem dX12_goesOn_499 : decode cX12_goesOn 499 = .ok (.iastore, 1) := by decide +kernel
theorem dX12_goesOn_500 : decode cX12_goesOn 500 = .ok (.aload_n 0, 1) := by decide +kernel
theorem dX12_goesOn_501 : decode cX12_goesOn 501 = .ok (.getfield 124, 3) := by decide +kernel
theorem dX12_goesOn_504 : decode cX12_goesOn 504 = .ok (.iload_n 1, 1) := by decide +kernel
theorem dX12_goesOn_505 : decode cX12_goesOn 505 = .ok (.iconst 0, 1) := by decide +kernel
theorem dX12_goesOn_506 : decode cX12_goesOn 506 = .ok (.iastore, 1) := by decide +kernel
theorem dX12_goesOn_507 : decode cX12_goesOn 507 = .ok (.aload_n 0, 1) := by decide +kernel
theorem dX12_goesOn_508 : decode cX12_goesOn 508 = .ok (.invokevirtual 259, 3) := by decide +kernel
theorem dX12_goesOn_511 : decode cX12_goesOn 511 = .ok (.aload_n 0, 1) := by decide +kernel
theorem dX12_goesOn_512 : decode cX12_goesOn 512 = .ok (.iconst 0, 1) := by decide +kernel
theorem dX12_goesOn_513 : decode cX12_goesOn 513 = .ok (.putfield 149, 3) := by decide +kernel
theorem dX12_goesOn_516 : decode cX12_goesOn 516 = .ok (.iconst 1, 1) := by decide +kernel
theorem dX12_goesOn_517 : decode cX12_goesOn 517 = .ok (.ireturn, 1) := by decide +kernel
theorem dX12_goesOn_518 : decode cX12_goesOn 518 = .ok (.aload_n 0, 1) := by decide +kernel
theorem dX12_goesOn_519 : decode cX12_goesOn 519 = .ok (.iload_n 2, 1) := by decide +kernel
theorem dX12_goesOn_520 : decode cX12_goesOn 520 = .ok (.iconst 5, 1) := by decide +kernel
theorem dX12_goesOn_521 : decode cX12_goesOn 521 = .ok (.if_icmp .ne 8, 3) := by decide +kernel
theorem dX12_goesOn_524 : decode cX12_goesOn 524 = .ok (.bipush 93, 2) := by decide +kernel
theorem dX12_goesOn_526 : decode cX12_goesOn 526 = .ok (.goto 5, 3) := by decide +kernel
theorem dX12_goesOn_529 : decode cX12_goesOn 529 = .ok (.bipush 41, 2) := by decide +kernel
theorem dX12_goesOn_531 : decode cX12_goesOn 531 = .ok (.invokevirtual 256, 3) := by decide +kernel
theorem dX12_goesOn_534 : decode cX12_goesOn 534 = .ok (.ifCond .ne 12, 3) := by decide +kernel
theorem dX12_goesOn_537 : decode cX12_goesOn 537 = .ok (.aload_n 0, 1) := by decide +kernel
theorem dX12_goesOn_538 : decode cX12_goesOn 538 = .ok (.iconst 1, 1) := by decide +kernel
theorem dX12_goesOn_539 : decode cX12_goesOn 539 = .ok (.aload_n 0, 1) := by decide +kernel
theorem dX12_goesOn_540 : decode cX12_goesOn 540 = .ok (.getfield 23, 3) := by decide +kernel
theorem dX12_goesOn_543 : decode cX12_goesOn 543 = .ok (.invokevirtual 242, 3) := by decide +kernel
theorem dX12_goesOn_546 : decode cX12_goesOn 546 = .ok (.aload_n 0, 1) := by decide +kernel
theorem dX12_goesOn_547 : decode cX12_goesOn 547 = .ok (.getfield 36, 3) := by decide +kernel
theorem dX12_goesOn_550 : decode cX12_goesOn 550 = .ok (.ifCond .le 5, 3) := by decide +kernel
theorem dX12_goesOn_553 : decode cX12_goesOn 553 = .ok (.iconst 0, 1) := by decide +kernel
theorem dX12_goesOn_554 : decode cX12_goesOn 554 = .ok (.ireturn, 1) := by decide +kernel
theorem dX12_goesOn_555 : decode cX12_goesOn 555 = .ok (.aload_n 0, 1) := by decide +kernel
theorem dX12_goesOn_556 : decode cX12_goesOn 556 = .ok (.iconst 1, 1) := by decide +kernel
theorem dX12_goesOn_557 : decode cX12_goesOn 557 = .ok (.invokevirtual 344, 3) := by decide +kernel
theorem dX12_goesOn_560 : decode cX12_goesOn 560 = .ok (.aload_n 0, 1) := by decide +kernel
theorem dX12_goesOn_561 : decode cX12_goesOn 561 = .ok (.dup, 1) := by decide +kernel
theorem dX12_goesOn_562 : decode cX12_goesOn 562 = .ok (.getfield 137, 3) := by decide +kernel
theorem dX12_goesOn_565 : decode cX12_goesOn 565 = .ok (.iconst 1, 1) := by decide +kernel
theorem dX12_goesOn_566 : decode cX12_goesOn 566 = .ok (.isub, 1) := by decide +kernel
theorem dX12_goesOn_567 : decode cX12_goesOn 567 = .ok (.putfield 137, 3) := by decide +kernel
theorem dX12_goesOn_570 : decode cX12_goesOn 570 = .ok (.aload_n 0, 1) := by decide +kernel
theorem dX12_goesOn_571 : decode cX12_goesOn 571 = .ok (.dup, 1) := by decide +kernel
theorem dX12_goesOn_572 : decode cX12_goesOn 572 = .ok (.getfield 140, 3) := by decide +kernel
theorem dX12_goesOn_575 : decode cX12_goesOn 575 = .ok (.iconst 1, 1) := by decide +kernel
theorem dX12_goesOn_576 : decode cX12_goesOn 576 = .ok (.isub, 1) := by decide +kernel
theorem dX12_goesOn_577 : decode cX12_goesOn 577 = .ok (.putfield 140, 3) := by decide +kernel
theorem dX12_goesOn_580 : decode cX12_goesOn 580 = .ok (.iload_n 2, 1) := by decide +kernel
theorem dX12_goesOn_581 : decode cX12_goesOn 581 = .ok (.iconst 4, 1) := by decide +kernel
theorem dX12_goesOn_582 : decode cX12_goesOn 582 = .ok (.if_icmp .ne 14, 3) := by decide +kernel
theorem dX12_goesOn_585 : decode cX12_goesOn 585 = .ok (.aload_n 0, 1) := by decide +kernel
theorem dX12_goesOn_586 : decode cX12_goesOn 586 = .ok (.aload_n 0, 1) := by decide +kernel
theorem dX12_goesOn_587 : decode cX12_goesOn 587 = .ok (.getfield 131, 3) := by decide +kernel
theorem dX12_goesOn_590 : decode cX12_goesOn 590 = .ok (.iload_n 1, 1) := by decide +kernel
theorem dX12_goesOn_591 : decode cX12_goesOn 591 = .ok (.iaload, 1) := by decide +kernel
theorem dX12_goesOn_592 : decode cX12_goesOn 592 = .ok (.iconst 0, 1) := by decide +kernel
theorem dX12_goesOn_593 : decode cX12_goesOn 593 = .ok (.invokevirtual 325, 3) := by decide +kernel
theorem dX12_goesOn_596 : decode cX12_goesOn 596 = .ok (.iload_n 2, 1) := by decide +kernel
theorem dX12_goesOn_597 : decode cX12_goesOn 597 = .ok (.iconst 5, 1) := by decide +kernel
theorem dX12_goesOn_598 : decode cX12_goesOn 598 = .ok (.if_icmp .ne 15, 3) := by decide +kernel
theorem dX12_goesOn_601 : decode cX12_goesOn 601 = .ok (.aload_n 0, 1) := by decide +kernel
theorem dX12_goesOn_602 : decode cX12_goesOn 602 = .ok (.getfield 124, 3) := by decide +kernel
theorem dX12_goesOn_605 : decode cX12_goesOn 605 = .ok (.aload_n 0, 1) := by decide +kernel
theorem dX12_goesOn_606 : decode cX12_goesOn 606 = .ok (.getfield 137, 3) := by decide +kernel
theorem dX12_goesOn_609 : decode cX12_goesOn 609 = .ok (.iconst 1, 1) := by decide +kernel
theorem dX12_goesOn_610 : decode cX12_goesOn 610 = .ok (.isub, 1) := by decide +kernel
theorem dX12_goesOn_611 : decode cX12_goesOn 611 = .ok (.iconst 2, 1) := by decide +kernel
theorem dX12_goesOn_612 : decode cX12_goesOn 612 = .ok (.iastore, 1) := by decide +kernel
theorem dX12_goesOn_613 : decode cX12_goesOn 613 = .ok (.aload_n 0, 1) := by decide +kernel
theorem dX12_goesOn_614 : decode cX12_goesOn 614 = .ok (.invokevirtual 259, 3) := by decide +kernel
theorem dX12_goesOn_617 : decode cX12_goesOn 617 = .ok (.iconst 1, 1) := by decide +kernel
theorem dX12_goesOn_618 : decode cX12_goesOn 618 = .ok (.ireturn, 1) := by decide +kernel
noncomputable def tX12_goesOn_0 : List (Nat × zF) := [(0, (zla4 0 1)), (1, (zcv 172 0 12)), (4, (zla4 0 1)), (5, (zgf 12 8)), (8, (z_if_le 13)), (11, (zst 1 (zp (.int (0))))), (12, (zri true)), (13, (zla4 0 1)), (14, (zgf 12 41)), (17, (zst 1 (zp (.int (1))))), (18, (zst 1 z_isub)), (19, (zsi4 5 1 1))]
theorem kX12_goesOn_0 : ∀ q ∈ tX12_goesOn_0, zOk zg iX12_goesOn q.1 q.2 := (z_c (ok_aload_n dX12_goesOn_0 rfl) (z_c (ok_callV zcal_172 (q := (RX12, TX12, 73)) rfl zw_774 zw_775 zw_776 dX12_goesOn_1) (z_c (ok_aload_n dX12_goesOn_4 rfl) (z_c (ok_getf (C := RX12) (T := TX12) (N := 73) rfl (by decide) zinX12 rfl zw_695 dX12_goesOn_5) (z_c (ok_if_le dX12_goesOn_8 (by decide)) (z_c (ok_iconst (v := (0)) dX12_goesOn_11 (by decide)) (z_c (ok_zreturn rfl dX12_goesOn_12) (z_c (ok_aload_n dX12_goesOn_13 rfl) (z_c (ok_getf (C := RX12) (T := TX12) (N := 73) rfl (by decide) zinX12 rfl zw_729 dX12_goesOn_14) (z_c (ok_iconst (v := (1)) dX12_goesOn_17 (by decide)) (z_c (ok_isub dX12_goesOn_18) (z_c (ok_istore_n dX12_goesOn_19 rfl) z_n))))))))))))
noncomputable def tX12_goesOn_1 : List (Nat × zF) := [(20, (zla4 0 1)), (21, (zgf 12 36)), (24, (zli4 1 1)), (25, (zal 0)), (26, (zsi4 5 2 1)), (27, (zli4 2 1)), (28, (zcs 187 1)), (31, (zsi4 5 3 1)), (32, (zla4 0 1)), (33, (zgf 12 37)), (36, (zli4 1 1)), (37, (zal 0))]
theorem kX12_goesOn_1 : ∀ q ∈ tX12_goesOn_1, zOk zg iX12_goesOn q.1 q.2 := (z_c (ok_aload_n dX12_goesOn_20 rfl) (z_c (ok_getf (C := RX12) (T := TX12) (N := 73) rfl (by decide) zinX12 rfl zw_723 dX12_goesOn_21) (z_c (ok_iload_n dX12_goesOn_24 rfl) (z_c (ok_iaload rfl dX12_goesOn_25) (z_c (ok_istore_n dX12_goesOn_26 rfl) (z_c (ok_iload_n dX12_goesOn_27 rfl) (z_c (ok_callS zcal_187 zw_822 zw_823 dX12_goesOn_28) (z_c (ok_istore_n dX12_goesOn_31 rfl) (z_c (ok_aload_n dX12_goesOn_32 rfl) (z_c (ok_getf (C := RX12) (T := TX12) (N := 73) rfl (by decide) zinX12 rfl zw_724 dX12_goesOn_33) (z_c (ok_iload_n dX12_goesOn_36 rfl) (z_c (ok_iaload rfl dX12_goesOn_37) z_n))))))))))))
noncomputable def tX12_goesOn_2 : List (Nat × zF) := [(38, (zst 1 (zp (.int (2))))), (39, (z_ic_ge 188)), (42, (zla4 0 1)), (43, (zst 2 (zp (.int (43))))), (45, (zcv 174 1 12)), (48, (z_if_ne 87)), (51, (zla4 0 1)), (52, (zst 2 (zp (.int (45))))), (54, (zcv 174 1 12)), (57, (z_if_ne 87)), (60, (zla4 0 1)), (61, (zst 2 (zp (.int (42)))))]
theorem kX12_goesOn_2 : ∀ q ∈ tX12_goesOn_2, zOk zg iX12_goesOn q.1 q.2 := (z_c (ok_iconst (v := (2)) dX12_goesOn_38 (by decide)) (z_c (ok_icmp_ge dX12_goesOn_39 (by decide)) (z_c (ok_aload_n dX12_goesOn_42 rfl) (z_c (ok_bipush (v := (43)) dX12_goesOn_43 (by decide)) (z_c (ok_callV zcal_174 (q := (RX12, TX12, 73)) rfl zw_777 zw_778 zw_779 dX12_goesOn_45) (z_c (ok_if_ne dX12_goesOn_48 (by decide)) (z_c (ok_aload_n dX12_goesOn_51 rfl) (z_c (ok_bipush (v := (45)) dX12_goesOn_52 (by decide)) (z_c (ok_callV zcal_174 (q := (RX12, TX12, 73)) rfl zw_777 zw_778 zw_779 dX12_goesOn_54) (z_c (ok_if_ne dX12_goesOn_57 (by decide)) (z_c (ok_aload_n dX12_goesOn_60 rfl) (z_c (ok_bipush (v := (42)) dX12_goesOn_61 (by decide)) z_n))))))))))))
noncomputable def tX12_goesOn_3 : List (Nat × zF) := [(63, (zcv 174 1 12)), (66, (z_if_ne 87)), (69, (zla4 0 1)), (70, (zst 2 (zp (.int (47))))), (72, (zcv 174 1 12)), (75, (z_if_ne 87)), (78, (zla4 0 1)), (79, (zst 2 (zp (.int (37))))), (81, (zcv 174 1 12)), (84, (z_if_eq 188)), (87, (zla4 0 1)), (88, (zla4 0 1))]
theorem kX12_goesOn_3 : ∀ q ∈ tX12_goesOn_3, zOk zg iX12_goesOn q.1 q.2 := (z_c (ok_callV zcal_174 (q := (RX12, TX12, 73)) rfl zw_777 zw_778 zw_779 dX12_goesOn_63) (z_c (ok_if_ne dX12_goesOn_66 (by decide)) (z_c (ok_aload_n dX12_goesOn_69 rfl) (z_c (ok_bipush (v := (47)) dX12_goesOn_70 (by decide)) (z_c (ok_callV zcal_174 (q := (RX12, TX12, 73)) rfl zw_777 zw_778 zw_779 dX12_goesOn_72) (z_c (ok_if_ne dX12_goesOn_75 (by decide)) (z_c (ok_aload_n dX12_goesOn_78 rfl) (z_c (ok_bipush (v := (37)) dX12_goesOn_79 (by decide)) (z_c (ok_callV zcal_174 (q := (RX12, TX12, 73)) rfl zw_777 zw_778 zw_779 dX12_goesOn_81) (z_c (ok_if_eq dX12_goesOn_84 (by decide)) (z_c (ok_aload_n dX12_goesOn_87 rfl) (z_c (ok_aload_n dX12_goesOn_88 rfl) z_n))))))))))))
noncomputable def tX12_goesOn_4 : List (Nat × zF) := [(89, (zst 2 (zp (.int (43))))), (91, (zcv 174 1 12)), (94, (z_if_ne 106)), (97, (zla4 0 1)), (98, (zst 2 (zp (.int (45))))), (100, (zcv 174 1 12)), (103, (z_if_eq 110)), (106, (zst 1 (zp (.int (5))))), (107, (zgt 112)), (110, (zst 2 (zp (.int (6))))), (112, (zcv 183 1 12)), (115, (zla4 0 1))]
theorem kX12_goesOn_4 : ∀ q ∈ tX12_goesOn_4, zOk zg iX12_goesOn q.1 q.2 := (z_c (ok_bipush (v := (43)) dX12_goesOn_89 (by decide)) (z_c (ok_callV zcal_174 (q := (RX12, TX12, 73)) rfl zw_777 zw_778 zw_779 dX12_goesOn_91) (z_c (ok_if_ne dX12_goesOn_94 (by decide)) (z_c (ok_aload_n dX12_goesOn_97 rfl) (z_c (ok_bipush (v := (45)) dX12_goesOn_98 (by decide)) (z_c (ok_callV zcal_174 (q := (RX12, TX12, 73)) rfl zw_777 zw_778 zw_779 dX12_goesOn_100) (z_c (ok_if_eq dX12_goesOn_103 (by decide)) (z_c (ok_iconst (v := (5)) dX12_goesOn_106 (by decide)) (z_c (ok_goto dX12_goesOn_107 (by decide)) (z_c (ok_bipush (v := (6)) dX12_goesOn_110 (by decide)) (z_c (ok_callV zcal_183 (q := (RX12, TX12, 73)) rfl zw_833 zw_834 zw_835 dX12_goesOn_112) (z_c (ok_aload_n dX12_goesOn_115 rfl) z_n))))))))))))
noncomputable def tX12_goesOn_5 : List (Nat × zF) := [(116, (zla4 0 1)), (117, (zst 2 (zp (.int (43))))), (119, (zcv 174 1 12)), (122, (z_if_eq 130)), (125, (zst 2 (zp (.int (31))))), (127, (zgt 174)), (130, (zla4 0 1)), (131, (zst 2 (zp (.int (45))))), (133, (zcv 174 1 12)), (136, (z_if_eq 144)), (139, (zst 2 (zp (.int (32))))), (141, (zgt 174))]
theorem kX12_goesOn_5 : ∀ q ∈ tX12_goesOn_5, zOk zg iX12_goesOn q.1 q.2 := (z_c (ok_aload_n dX12_goesOn_116 rfl) (z_c (ok_bipush (v := (43)) dX12_goesOn_117 (by decide)) (z_c (ok_callV zcal_174 (q := (RX12, TX12, 73)) rfl zw_777 zw_778 zw_779 dX12_goesOn_119) (z_c (ok_if_eq dX12_goesOn_122 (by decide)) (z_c (ok_bipush (v := (31)) dX12_goesOn_125 (by decide)) (z_c (ok_goto dX12_goesOn_127 (by decide)) (z_c (ok_aload_n dX12_goesOn_130 rfl) (z_c (ok_bipush (v := (45)) dX12_goesOn_131 (by decide)) (z_c (ok_callV zcal_174 (q := (RX12, TX12, 73)) rfl zw_777 zw_778 zw_779 dX12_goesOn_133) (z_c (ok_if_eq dX12_goesOn_136 (by decide)) (z_c (ok_bipush (v := (32)) dX12_goesOn_139 (by decide)) (z_c (ok_goto dX12_goesOn_141 (by decide)) z_n))))))))))))
noncomputable def tX12_goesOn_6 : List (Nat × zF) := [(144, (zla4 0 1)), (145, (zst 2 (zp (.int (42))))), (147, (zcv 174 1 12)), (150, (z_if_eq 158)), (153, (zst 2 (zp (.int (33))))), (155, (zgt 174)), (158, (zla4 0 1)), (159, (zst 2 (zp (.int (47))))), (161, (zcv 174 1 12)), (164, (z_if_eq 172)), (167, (zst 2 (zp (.int (34))))), (169, (zgt 174))]
theorem kX12_goesOn_6 : ∀ q ∈ tX12_goesOn_6, zOk zg iX12_goesOn q.1 q.2 := (z_c (ok_aload_n dX12_goesOn_144 rfl) (z_c (ok_bipush (v := (42)) dX12_goesOn_145 (by decide)) (z_c (ok_callV zcal_174 (q := (RX12, TX12, 73)) rfl zw_777 zw_778 zw_779 dX12_goesOn_147) (z_c (ok_if_eq dX12_goesOn_150 (by decide)) (z_c (ok_bipush (v := (33)) dX12_goesOn_153 (by decide)) (z_c (ok_goto dX12_goesOn_155 (by decide)) (z_c (ok_aload_n dX12_goesOn_158 rfl) (z_c (ok_bipush (v := (47)) dX12_goesOn_159 (by decide)) (z_c (ok_callV zcal_174 (q := (RX12, TX12, 73)) rfl zw_777 zw_778 zw_779 dX12_goesOn_161) (z_c (ok_if_eq dX12_goesOn_164 (by decide)) (z_c (ok_bipush (v := (34)) dX12_goesOn_167 (by decide)) (z_c (ok_goto dX12_goesOn_169 (by decide)) z_n))))))))))))
noncomputable def tX12_goesOn_7 : List (Nat × zF) := [(172, (zst 2 (zp (.int (35))))), (174, (zcv 184 1 12)), (177, (zla4 0 1)), (178, (zcv 173 0 12)), (181, (zla4 0 1)), (182, (zst 1 (zp (.int (0))))), (183, (zpf 12 45 (.boolean))), (186, (zst 1 (zp (.int (1))))), (187, (zri true)), (188, (zli4 3 1)), (189, (z_if_eq 285)), (192, (zla4 0 1))]
theorem kX12_goesOn_7 : ∀ q ∈ tX12_goesOn_7, zOk zg iX12_goesOn q.1 q.2 := (z_c (ok_bipush (v := (35)) dX12_goesOn_172 (by decide)) (z_c (ok_callV zcal_184 (q := (RX12, TX12, 73)) rfl zw_827 zw_828 zw_829 dX12_goesOn_174) (z_c (ok_aload_n dX12_goesOn_177 rfl) (z_c (ok_callV zcal_173 (q := (RX12, TX12, 73)) rfl zw_780 zw_781 zw_782 dX12_goesOn_178) (z_c (ok_aload_n dX12_goesOn_181 rfl) (z_c (ok_iconst (v := (0)) dX12_goesOn_182 (by decide)) (z_c (ok_putf (C := RX12) (T := TX12) (N := 73) false tyX12 tyX12_ok nmX12 rfl (by decide) zinX12 rfl zw_733 rfl (fun h => absurd h (by decide)) rfl dX12_goesOn_183) (z_c (ok_iconst (v := (1)) dX12_goesOn_186 (by decide)) (z_c (ok_zreturn rfl dX12_goesOn_187) (z_c (ok_iload_n dX12_goesOn_188 rfl) (z_c (ok_if_eq dX12_goesOn_189 (by decide)) (z_c (ok_aload_n dX12_goesOn_192 rfl) z_n))))))))))))
noncomputable def tX12_goesOn_8 : List (Nat × zF) := [(193, (zgf 12 37)), (196, (zli4 1 1)), (197, (zal 0)), (198, (z_if_ne 285)), (201, (zla4 0 1)), (202, (zst 2 (zp (.int (60))))), (204, (zcv 174 1 12)), (207, (z_if_ne 228)), (210, (zla4 0 1)), (211, (zst 2 (zp (.int (62))))), (213, (zcv 174 1 12)), (216, (z_if_ne 228))]
theorem kX12_goesOn_8 : ∀ q ∈ tX12_goesOn_8, zOk zg iX12_goesOn q.1 q.2 := (z_c (ok_getf (C := RX12) (T := TX12) (N := 73) rfl (by decide) zinX12 rfl zw_724 dX12_goesOn_193) (z_c (ok_iload_n dX12_goesOn_196 rfl) (z_c (ok_iaload rfl dX12_goesOn_197) (z_c (ok_if_ne dX12_goesOn_198 (by decide)) (z_c (ok_aload_n dX12_goesOn_201 rfl) (z_c (ok_bipush (v := (60)) dX12_goesOn_202 (by decide)) (z_c (ok_callV zcal_174 (q := (RX12, TX12, 73)) rfl zw_777 zw_778 zw_779 dX12_goesOn_204) (z_c (ok_if_ne dX12_goesOn_207 (by decide)) (z_c (ok_aload_n dX12_goesOn_210 rfl) (z_c (ok_bipush (v := (62)) dX12_goesOn_211 (by decide)) (z_c (ok_callV zcal_174 (q := (RX12, TX12, 73)) rfl zw_777 zw_778 zw_779 dX12_goesOn_213) (z_c (ok_if_ne dX12_goesOn_216 (by decide)) z_n))))))))))))
noncomputable def tX12_goesOn_9 : List (Nat × zF) := [(219, (zla4 0 1)), (220, (zst 2 (zp (.int (61))))), (222, (zcv 174 1 12)), (225, (z_if_eq 285)), (228, (zla4 0 1)), (229, (zst 1 (zp (.int (5))))), (230, (zcv 183 1 12)), (233, (zla4 0 1)), (234, (zla4 0 1)), (235, (zst 2 (zp (.int (60))))), (237, (zcv 174 1 12)), (240, (z_if_eq 248))]
theorem kX12_goesOn_9 : ∀ q ∈ tX12_goesOn_9, zOk zg iX12_goesOn q.1 q.2 := (z_c (ok_aload_n dX12_goesOn_219 rfl) (z_c (ok_bipush (v := (61)) dX12_goesOn_220 (by decide)) (z_c (ok_callV zcal_174 (q := (RX12, TX12, 73)) rfl zw_777 zw_778 zw_779 dX12_goesOn_222) (z_c (ok_if_eq dX12_goesOn_225 (by decide)) (z_c (ok_aload_n dX12_goesOn_228 rfl) (z_c (ok_iconst (v := (5)) dX12_goesOn_229 (by decide)) (z_c (ok_callV zcal_183 (q := (RX12, TX12, 73)) rfl zw_833 zw_834 zw_835 dX12_goesOn_230) (z_c (ok_aload_n dX12_goesOn_233 rfl) (z_c (ok_aload_n dX12_goesOn_234 rfl) (z_c (ok_bipush (v := (60)) dX12_goesOn_235 (by decide)) (z_c (ok_callV zcal_174 (q := (RX12, TX12, 73)) rfl zw_777 zw_778 zw_779 dX12_goesOn_237) (z_c (ok_if_eq dX12_goesOn_240 (by decide)) z_n))))))))))))
noncomputable def tX12_goesOn_10 : List (Nat × zF) := [(243, (zst 2 (zp (.int (38))))), (245, (zgt 264)), (248, (zla4 0 1)), (249, (zst 2 (zp (.int (62))))), (251, (zcv 174 1 12)), (254, (z_if_eq 262)), (257, (zst 2 (zp (.int (39))))), (259, (zgt 264)), (262, (zst 2 (zp (.int (40))))), (264, (zcv 184 1 12)), (267, (zla4 0 1)), (268, (zgf 12 37))]
theorem kX12_goesOn_10 : ∀ q ∈ tX12_goesOn_10, zOk zg iX12_goesOn q.1 q.2 := (z_c (ok_bipush (v := (38)) dX12_goesOn_243 (by decide)) (z_c (ok_goto dX12_goesOn_245 (by decide)) (z_c (ok_aload_n dX12_goesOn_248 rfl) (z_c (ok_bipush (v := (62)) dX12_goesOn_249 (by decide)) (z_c (ok_callV zcal_174 (q := (RX12, TX12, 73)) rfl zw_777 zw_778 zw_779 dX12_goesOn_251) (z_c (ok_if_eq dX12_goesOn_254 (by decide)) (z_c (ok_bipush (v := (39)) dX12_goesOn_257 (by decide)) (z_c (ok_goto dX12_goesOn_259 (by decide)) (z_c (ok_bipush (v := (40)) dX12_goesOn_262 (by decide)) (z_c (ok_callV zcal_184 (q := (RX12, TX12, 73)) rfl zw_827 zw_828 zw_829 dX12_goesOn_264) (z_c (ok_aload_n dX12_goesOn_267 rfl) (z_c (ok_getf (C := RX12) (T := TX12) (N := 73) rfl (by decide) zinX12 rfl zw_724 dX12_goesOn_268) z_n))))))))))))
noncomputable def tX12_goesOn_11 : List (Nat × zF) := [(271, (zli4 1 1)), (272, (zst 1 (zp (.int (1))))), (273, (zas 0)), (274, (zla4 0 1)), (275, (zcv 173 0 12)), (278, (zla4 0 1)), (279, (zst 1 (zp (.int (0))))), (280, (zpf 12 45 (.boolean))), (283, (zst 1 (zp (.int (1))))), (284, (zri true)), (285, (zli4 3 1)), (286, (z_if_eq 400))]
theorem kX12_goesOn_11 : ∀ q ∈ tX12_goesOn_11, zOk zg iX12_goesOn q.1 q.2 := (z_c (ok_iload_n dX12_goesOn_271 rfl) (z_c (ok_iconst (v := (1)) dX12_goesOn_272 (by decide)) (z_c (ok_iastore rfl dX12_goesOn_273) (z_c (ok_aload_n dX12_goesOn_274 rfl) (z_c (ok_callV zcal_173 (q := (RX12, TX12, 73)) rfl zw_780 zw_781 zw_782 dX12_goesOn_275) (z_c (ok_aload_n dX12_goesOn_278 rfl) (z_c (ok_iconst (v := (0)) dX12_goesOn_279 (by decide)) (z_c (ok_putf (C := RX12) (T := TX12) (N := 73) false tyX12 tyX12_ok nmX12 rfl (by decide) zinX12 rfl zw_733 rfl (fun h => absurd h (by decide)) rfl dX12_goesOn_280) (z_c (ok_iconst (v := (1)) dX12_goesOn_283 (by decide)) (z_c (ok_zreturn rfl dX12_goesOn_284) (z_c (ok_iload_n dX12_goesOn_285 rfl) (z_c (ok_if_eq dX12_goesOn_286 (by decide)) z_n))))))))))))
noncomputable def tX12_goesOn_12 : List (Nat × zF) := [(289, (zla4 0 1)), (290, (zst 3 (zp (.long (6385252))))), (293, (zcv 175 1 12)), (296, (z_if_ne 309)), (299, (zla4 0 1)), (300, (zst 3 (zp (.long (28530))))), (303, (zcv 175 1 12)), (306, (z_if_eq 400)), (309, (zla4 0 1)), (310, (zgf 12 37)), (313, (zli4 1 1)), (314, (zal 0))]
theorem kX12_goesOn_12 : ∀ q ∈ tX12_goesOn_12, zOk zg iX12_goesOn q.1 q.2 := (z_c (ok_aload_n dX12_goesOn_289 rfl) (z_c (ok_ldc2 (v := (6385252)) zw_804 dX12_goesOn_290) (z_c (ok_callV zcal_175 (q := (RX12, TX12, 73)) rfl zw_824 zw_825 zw_826 dX12_goesOn_293) (z_c (ok_if_ne dX12_goesOn_296 (by decide)) (z_c (ok_aload_n dX12_goesOn_299 rfl) (z_c (ok_ldc2 (v := (28530)) zw_803 dX12_goesOn_300) (z_c (ok_callV zcal_175 (q := (RX12, TX12, 73)) rfl zw_824 zw_825 zw_826 dX12_goesOn_303) (z_c (ok_if_eq dX12_goesOn_306 (by decide)) (z_c (ok_aload_n dX12_goesOn_309 rfl) (z_c (ok_getf (C := RX12) (T := TX12) (N := 73) rfl (by decide) zinX12 rfl zw_724 dX12_goesOn_310) (z_c (ok_iload_n dX12_goesOn_313 rfl) (z_c (ok_iaload rfl dX12_goesOn_314) z_n))))))))))))
noncomputable def tX12_goesOn_13 : List (Nat × zF) := [(315, (z_if_ne 327)), (318, (zla4 0 1)), (319, (zst 1 (zp (.int (1))))), (320, (zla4 0 1)), (321, (zgf 12 4)), (324, (zcv 169 2 12)), (327, (zla4 0 1)), (328, (zgf 12 8)), (331, (z_if_le 336)), (334, (zst 1 (zp (.int (0))))), (335, (zri true)), (336, (zla4 0 1))]
theorem kX12_goesOn_13 : ∀ q ∈ tX12_goesOn_13, zOk zg iX12_goesOn q.1 q.2 := (z_c (ok_if_ne dX12_goesOn_315 (by decide)) (z_c (ok_aload_n dX12_goesOn_318 rfl) (z_c (ok_iconst (v := (1)) dX12_goesOn_319 (by decide)) (z_c (ok_aload_n dX12_goesOn_320 rfl) (z_c (ok_getf (C := RX12) (T := TX12) (N := 73) rfl (by decide) zinX12 rfl zw_691 dX12_goesOn_321) (z_c (ok_callV zcal_169 (q := (RX12, TX12, 73)) rfl zw_767 zw_768 zw_769 dX12_goesOn_324) (z_c (ok_aload_n dX12_goesOn_327 rfl) (z_c (ok_getf (C := RX12) (T := TX12) (N := 73) rfl (by decide) zinX12 rfl zw_695 dX12_goesOn_328) (z_c (ok_if_le dX12_goesOn_331 (by decide)) (z_c (ok_iconst (v := (0)) dX12_goesOn_334 (by decide)) (z_c (ok_zreturn rfl dX12_goesOn_335) (z_c (ok_aload_n dX12_goesOn_336 rfl) z_n))))))))))))
noncomputable def tX12_goesOn_14 : List (Nat × zF) := [(337, (zst 3 (zp (.long (6385252))))), (340, (zcv 175 1 12)), (343, (zsi4 5 4 2)), (345, (zla4 0 1)), (346, (zli4 4 2)), (348, (z_if_eq 355)), (351, (zst 1 (zp (.int (2))))), (352, (zgt 356)), (355, (zst 1 (zp (.int (1))))), (356, (zcv 183 1 12)), (359, (zla4 0 1)), (360, (zli4 4 2))]
theorem kX12_goesOn_14 : ∀ q ∈ tX12_goesOn_14, zOk zg iX12_goesOn q.1 q.2 := (z_c (ok_ldc2 (v := (6385252)) zw_804 dX12_goesOn_337) (z_c (ok_callV zcal_175 (q := (RX12, TX12, 73)) rfl zw_824 zw_825 zw_826 dX12_goesOn_340) (z_c (ok_istore dX12_goesOn_343) (z_c (ok_aload_n dX12_goesOn_345 rfl) (z_c (ok_iload dX12_goesOn_346) (z_c (ok_if_eq dX12_goesOn_348 (by decide)) (z_c (ok_iconst (v := (2)) dX12_goesOn_351 (by decide)) (z_c (ok_goto dX12_goesOn_352 (by decide)) (z_c (ok_iconst (v := (1)) dX12_goesOn_355 (by decide)) (z_c (ok_callV zcal_183 (q := (RX12, TX12, 73)) rfl zw_833 zw_834 zw_835 dX12_goesOn_356) (z_c (ok_aload_n dX12_goesOn_359 rfl) (z_c (ok_iload dX12_goesOn_360) z_n))))))))))))
noncomputable def tX12_goesOn_15 : List (Nat × zF) := [(362, (z_if_eq 370)), (365, (zst 2 (zp (.int (41))))), (367, (zgt 372)), (370, (zst 2 (zp (.int (42))))), (372, (zcv 184 1 12)), (375, (zla4 0 1)), (376, (zgf 12 37)), (379, (zli4 1 1)), (380, (zst 1 (zp (.int (0))))), (381, (zas 0)), (382, (zla4 0 1)), (383, (zgf 12 38))]
theorem kX12_goesOn_15 : ∀ q ∈ tX12_goesOn_15, zOk zg iX12_goesOn q.1 q.2 := (z_c (ok_if_eq dX12_goesOn_362 (by decide)) (z_c (ok_bipush (v := (41)) dX12_goesOn_365 (by decide)) (z_c (ok_goto dX12_goesOn_367 (by decide)) (z_c (ok_bipush (v := (42)) dX12_goesOn_370 (by decide)) (z_c (ok_callV zcal_184 (q := (RX12, TX12, 73)) rfl zw_827 zw_828 zw_829 dX12_goesOn_372) (z_c (ok_aload_n dX12_goesOn_375 rfl) (z_c (ok_getf (C := RX12) (T := TX12) (N := 73) rfl (by decide) zinX12 rfl zw_724 dX12_goesOn_376) (z_c (ok_iload_n dX12_goesOn_379 rfl) (z_c (ok_iconst (v := (0)) dX12_goesOn_380 (by decide)) (z_c (ok_iastore rfl dX12_goesOn_381) (z_c (ok_aload_n dX12_goesOn_382 rfl) (z_c (ok_getf (C := RX12) (T := TX12) (N := 73) rfl (by decide) zinX12 rfl zw_726 dX12_goesOn_383) z_n))))))))))))
noncomputable def tX12_goesOn_16 : List (Nat × zF) := [(386, (zli4 1 1)), (387, (zst 1 (zp (.int (1))))), (388, (zzs 2)), (389, (zla4 0 1)), (390, (zcv 173 0 12)), (393, (zla4 0 1)), (394, (zst 1 (zp (.int (0))))), (395, (zpf 12 45 (.boolean))), (398, (zst 1 (zp (.int (1))))), (399, (zri true)), (400, (zli4 3 1)), (401, (z_if_eq 422))]
theorem kX12_goesOn_16 : ∀ q ∈ tX12_goesOn_16, zOk zg iX12_goesOn q.1 q.2 := (z_c (ok_iload_n dX12_goesOn_386 rfl) (z_c (ok_iconst (v := (1)) dX12_goesOn_387 (by decide)) (z_c (ok_zastore rfl dX12_goesOn_388) (z_c (ok_aload_n dX12_goesOn_389 rfl) (z_c (ok_callV zcal_173 (q := (RX12, TX12, 73)) rfl zw_780 zw_781 zw_782 dX12_goesOn_390) (z_c (ok_aload_n dX12_goesOn_393 rfl) (z_c (ok_iconst (v := (0)) dX12_goesOn_394 (by decide)) (z_c (ok_putf (C := RX12) (T := TX12) (N := 73) false tyX12 tyX12_ok nmX12 rfl (by decide) zinX12 rfl zw_733 rfl (fun h => absurd h (by decide)) rfl dX12_goesOn_395) (z_c (ok_iconst (v := (1)) dX12_goesOn_398 (by decide)) (z_c (ok_zreturn rfl dX12_goesOn_399) (z_c (ok_iload_n dX12_goesOn_400 rfl) (z_c (ok_if_eq dX12_goesOn_401 (by decide)) z_n))))))))))))
noncomputable def tX12_goesOn_17 : List (Nat × zF) := [(404, (zla4 0 1)), (405, (zgf 12 37)), (408, (zli4 1 1)), (409, (zal 0)), (410, (z_if_ne 422)), (413, (zla4 0 1)), (414, (zst 1 (zp (.int (1))))), (415, (zla4 0 1)), (416, (zgf 12 4)), (419, (zcv 169 2 12)), (422, (zli4 2 1)), (423, (zst 1 (zp (.int (2)))))]
theorem kX12_goesOn_17 : ∀ q ∈ tX12_goesOn_17, zOk zg iX12_goesOn q.1 q.2 := (z_c (ok_aload_n dX12_goesOn_404 rfl) (z_c (ok_getf (C := RX12) (T := TX12) (N := 73) rfl (by decide) zinX12 rfl zw_724 dX12_goesOn_405) (z_c (ok_iload_n dX12_goesOn_408 rfl) (z_c (ok_iaload rfl dX12_goesOn_409) (z_c (ok_if_ne dX12_goesOn_410 (by decide)) (z_c (ok_aload_n dX12_goesOn_413 rfl) (z_c (ok_iconst (v := (1)) dX12_goesOn_414 (by decide)) (z_c (ok_aload_n dX12_goesOn_415 rfl) (z_c (ok_getf (C := RX12) (T := TX12) (N := 73) rfl (by decide) zinX12 rfl zw_691 dX12_goesOn_416) (z_c (ok_callV zcal_169 (q := (RX12, TX12, 73)) rfl zw_767 zw_768 zw_769 dX12_goesOn_419) (z_c (ok_iload_n dX12_goesOn_422 rfl) (z_c (ok_iconst (v := (2)) dX12_goesOn_423 (by decide)) z_n))))))))))))
noncomputable def tX12_goesOn_18 : List (Nat × zF) := [(424, (z_ic_ge 441)), (427, (zla4 0 1)), (428, (zgf 12 8)), (431, (z_if_ne 439)), (434, (zla4 0 1)), (435, (zst 1 (zp (.int (1))))), (436, (zcv 183 1 12)), (439, (zst 1 (zp (.int (0))))), (440, (zri true)), (441, (zli4 2 1)), (442, (zst 1 (zp (.int (3))))), (443, (z_ic_eq 452))]
theorem kX12_goesOn_18 : ∀ q ∈ tX12_goesOn_18, zOk zg iX12_goesOn q.1 q.2 := (z_c (ok_icmp_ge dX12_goesOn_424 (by decide)) (z_c (ok_aload_n dX12_goesOn_427 rfl) (z_c (ok_getf (C := RX12) (T := TX12) (N := 73) rfl (by decide) zinX12 rfl zw_695 dX12_goesOn_428) (z_c (ok_if_ne dX12_goesOn_431 (by decide)) (z_c (ok_aload_n dX12_goesOn_434 rfl) (z_c (ok_iconst (v := (1)) dX12_goesOn_435 (by decide)) (z_c (ok_callV zcal_183 (q := (RX12, TX12, 73)) rfl zw_833 zw_834 zw_835 dX12_goesOn_436) (z_c (ok_iconst (v := (0)) dX12_goesOn_439 (by decide)) (z_c (ok_zreturn rfl dX12_goesOn_440) (z_c (ok_iload_n dX12_goesOn_441 rfl) (z_c (ok_iconst (v := (3)) dX12_goesOn_442 (by decide)) (z_c (ok_icmp_eq dX12_goesOn_443 (by decide)) z_n))))))))))))
noncomputable def tX12_goesOn_19 : List (Nat × zF) := [(446, (zli4 2 1)), (447, (zst 2 (zp (.int (6))))), (449, (z_ic_ne 518)), (452, (zla4 0 1)), (453, (zst 2 (zp (.int (44))))), (455, (zcv 174 1 12)), (458, (z_if_ne 470)), (461, (zla4 0 1)), (462, (zst 1 (zp (.int (1))))), (463, (zla4 0 1)), (464, (zgf 12 4)), (467, (zcv 169 2 12))]
theorem kX12_goesOn_19 : ∀ q ∈ tX12_goesOn_19, zOk zg iX12_goesOn q.1 q.2 := (z_c (ok_iload_n dX12_goesOn_446 rfl) (z_c (ok_bipush (v := (6)) dX12_goesOn_447 (by decide)) (z_c (ok_icmp_ne dX12_goesOn_449 (by decide)) (z_c (ok_aload_n dX12_goesOn_452 rfl) (z_c (ok_bipush (v := (44)) dX12_goesOn_453 (by decide)) (z_c (ok_callV zcal_174 (q := (RX12, TX12, 73)) rfl zw_777 zw_778 zw_779 dX12_goesOn_455) (z_c (ok_if_ne dX12_goesOn_458 (by decide)) (z_c (ok_aload_n dX12_goesOn_461 rfl) (z_c (ok_iconst (v := (1)) dX12_goesOn_462 (by decide)) (z_c (ok_aload_n dX12_goesOn_463 rfl) (z_c (ok_getf (C := RX12) (T := TX12) (N := 73) rfl (by decide) zinX12 rfl zw_691 dX12_goesOn_464) (z_c (ok_callV zcal_169 (q := (RX12, TX12, 73)) rfl zw_767 zw_768 zw_769 dX12_goesOn_467) z_n))))))))))))
noncomputable def tX12_goesOn_20 : List (Nat × zF) := [(470, (zla4 0 1)), (471, (zgf 12 8)), (474, (z_if_le 479)), (477, (zst 1 (zp (.int (0))))), (478, (zri true)), (479, (zla4 0 1)), (480, (zst 1 (zp (.int (1))))), (481, (zcv 183 1 12)), (484, (zla4 0 1)), (485, (zgf 12 36)), (488, (zli4 1 1)), (489, (zli4 2 1))]
theorem kX12_goesOn_20 : ∀ q ∈ tX12_goesOn_20, zOk zg iX12_goesOn q.1 q.2 := (z_c (ok_aload_n dX12_goesOn_470 rfl) (z_c (ok_getf (C := RX12) (T := TX12) (N := 73) rfl (by decide) zinX12 rfl zw_695 dX12_goesOn_471) (z_c (ok_if_le dX12_goesOn_474 (by decide)) (z_c (ok_iconst (v := (0)) dX12_goesOn_477 (by decide)) (z_c (ok_zreturn rfl dX12_goesOn_478) (z_c (ok_aload_n dX12_goesOn_479 rfl) (z_c (ok_iconst (v := (1)) dX12_goesOn_480 (by decide)) (z_c (ok_callV zcal_183 (q := (RX12, TX12, 73)) rfl zw_833 zw_834 zw_835 dX12_goesOn_481) (z_c (ok_aload_n dX12_goesOn_484 rfl) (z_c (ok_getf (C := RX12) (T := TX12) (N := 73) rfl (by decide) zinX12 rfl zw_723 dX12_goesOn_485) (z_c (ok_iload_n dX12_goesOn_488 rfl) (z_c (ok_iload_n dX12_goesOn_489 rfl) z_n))))))))))))
noncomputable def tX12_goesOn_21 : List (Nat × zF) := [(490, (zst 1 (zp (.int (3))))), (491, (z_ic_ne 498)), (494, (zst 1 (zp (.int (4))))), (495, (zgt 499)), (498, (zst 1 (zp (.int (3))))), (499, (zas 0)), (500, (zla4 0 1)), (501, (zgf 12 37)), (504, (zli4 1 1)), (505, (zst 1 (zp (.int (0))))), (506, (zas 0)), (507, (zla4 0 1))]
theorem kX12_goesOn_21 : ∀ q ∈ tX12_goesOn_21, zOk zg iX12_goesOn q.1 q.2 := (z_c (ok_iconst (v := (3)) dX12_goesOn_490 (by decide)) (z_c (ok_icmp_ne dX12_goesOn_491 (by decide)) (z_c (ok_iconst (v := (4)) dX12_goesOn_494 (by decide)) (z_c (ok_goto dX12_goesOn_495 (by decide)) (z_c (ok_iconst (v := (3)) dX12_goesOn_498 (by decide)) (z_c (ok_iastore rfl dX12_goesOn_499) (z_c (ok_aload_n dX12_goesOn_500 rfl) (z_c (ok_getf (C := RX12) (T := TX12) (N := 73) rfl (by decide) zinX12 rfl zw_724 dX12_goesOn_501) (z_c (ok_iload_n dX12_goesOn_504 rfl) (z_c (ok_iconst (v := (0)) dX12_goesOn_505 (by decide)) (z_c (ok_iastore rfl dX12_goesOn_506) (z_c (ok_aload_n dX12_goesOn_507 rfl) z_n))))))))))))
noncomputable def tX12_goesOn_22 : List (Nat × zF) := [(508, (zcv 173 0 12)), (511, (zla4 0 1)), (512, (zst 1 (zp (.int (0))))), (513, (zpf 12 45 (.boolean))), (516, (zst 1 (zp (.int (1))))), (517, (zri true)), (518, (zla4 0 1)), (519, (zli4 2 1)), (520, (zst 1 (zp (.int (5))))), (521, (z_ic_ne 529)), (524, (zst 2 (zp (.int (93))))), (526, (zgt 531))]
theorem kX12_goesOn_22 : ∀ q ∈ tX12_goesOn_22, zOk zg iX12_goesOn q.1 q.2 := (z_c (ok_callV zcal_173 (q := (RX12, TX12, 73)) rfl zw_780 zw_781 zw_782 dX12_goesOn_508) (z_c (ok_aload_n dX12_goesOn_511 rfl) (z_c (ok_iconst (v := (0)) dX12_goesOn_512 (by decide)) (z_c (ok_putf (C := RX12) (T := TX12) (N := 73) false tyX12 tyX12_ok nmX12 rfl (by decide) zinX12 rfl zw_733 rfl (fun h => absurd h (by decide)) rfl dX12_goesOn_513) (z_c (ok_iconst (v := (1)) dX12_goesOn_516 (by decide)) (z_c (ok_zreturn rfl dX12_goesOn_517) (z_c (ok_aload_n dX12_goesOn_518 rfl) (z_c (ok_iload_n dX12_goesOn_519 rfl) (z_c (ok_iconst (v := (5)) dX12_goesOn_520 (by decide)) (z_c (ok_icmp_ne dX12_goesOn_521 (by decide)) (z_c (ok_bipush (v := (93)) dX12_goesOn_524 (by decide)) (z_c (ok_goto dX12_goesOn_526 (by decide)) z_n))))))))))))
noncomputable def tX12_goesOn_23 : List (Nat × zF) := [(529, (zst 2 (zp (.int (41))))), (531, (zcv 174 1 12)), (534, (z_if_ne 546)), (537, (zla4 0 1)), (538, (zst 1 (zp (.int (1))))), (539, (zla4 0 1)), (540, (zgf 12 4)), (543, (zcv 169 2 12)), (546, (zla4 0 1)), (547, (zgf 12 8)), (550, (z_if_le 555)), (553, (zst 1 (zp (.int (0)))))]
theorem kX12_goesOn_23 : ∀ q ∈ tX12_goesOn_23, zOk zg iX12_goesOn q.1 q.2 := (z_c (ok_bipush (v := (41)) dX12_goesOn_529 (by decide)) (z_c (ok_callV zcal_174 (q := (RX12, TX12, 73)) rfl zw_777 zw_778 zw_779 dX12_goesOn_531) (z_c (ok_if_ne dX12_goesOn_534 (by decide)) (z_c (ok_aload_n dX12_goesOn_537 rfl) (z_c (ok_iconst (v := (1)) dX12_goesOn_538 (by decide)) (z_c (ok_aload_n dX12_goesOn_539 rfl) (z_c (ok_getf (C := RX12) (T := TX12) (N := 73) rfl (by decide) zinX12 rfl zw_691 dX12_goesOn_540) (z_c (ok_callV zcal_169 (q := (RX12, TX12, 73)) rfl zw_767 zw_768 zw_769 dX12_goesOn_543) (z_c (ok_aload_n dX12_goesOn_546 rfl) (z_c (ok_getf (C := RX12) (T := TX12) (N := 73) rfl (by decide) zinX12 rfl zw_695 dX12_goesOn_547) (z_c (ok_if_le dX12_goesOn_550 (by decide)) (z_c (ok_iconst (v := (0)) dX12_goesOn_553 (by decide)) z_n))))))))))))
noncomputable def tX12_goesOn_24 : List (Nat × zF) := [(554, (zri true)), (555, (zla4 0 1)), (556, (zst 1 (zp (.int (1))))), (557, (zcv 183 1 12)), (560, (zla4 0 1)), (561, (zst 1 zdu)), (562, (zgf 12 41)), (565, (zst 1 (zp (.int (1))))), (566, (zst 1 z_isub)), (567, (zpf 12 41 (.int))), (570, (zla4 0 1)), (571, (zst 1 zdu))]
theorem kX12_goesOn_24 : ∀ q ∈ tX12_goesOn_24, zOk zg iX12_goesOn q.1 q.2 := (z_c (ok_zreturn rfl dX12_goesOn_554) (z_c (ok_aload_n dX12_goesOn_555 rfl) (z_c (ok_iconst (v := (1)) dX12_goesOn_556 (by decide)) (z_c (ok_callV zcal_183 (q := (RX12, TX12, 73)) rfl zw_833 zw_834 zw_835 dX12_goesOn_557) (z_c (ok_aload_n dX12_goesOn_560 rfl) (z_c (ok_dup dX12_goesOn_561) (z_c (ok_getf (C := RX12) (T := TX12) (N := 73) rfl (by decide) zinX12 rfl zw_729 dX12_goesOn_562) (z_c (ok_iconst (v := (1)) dX12_goesOn_565 (by decide)) (z_c (ok_isub dX12_goesOn_566) (z_c (ok_putf (C := RX12) (T := TX12) (N := 73) false tyX12 tyX12_ok nmX12 rfl (by decide) zinX12 rfl zw_729 rfl (fun h => absurd h (by decide)) rfl dX12_goesOn_567) (z_c (ok_aload_n dX12_goesOn_570 rfl) (z_c (ok_dup dX12_goesOn_571) z_n))))))))))))
noncomputable def tX12_goesOn_25 : List (Nat × zF) := [(572, (zgf 12 42)), (575, (zst 1 (zp (.int (1))))), (576, (zst 1 z_isub)), (577, (zpf 12 42 (.int))), (580, (zli4 2 1)), (581, (zst 1 (zp (.int (4))))), (582, (z_ic_ne 596)), (585, (zla4 0 1)), (586, (zla4 0 1)), (587, (zgf 12 39)), (590, (zli4 1 1)), (591, (zal 0))]
theorem kX12_goesOn_25 : ∀ q ∈ tX12_goesOn_25, zOk zg iX12_goesOn q.1 q.2 := (z_c (ok_getf (C := RX12) (T := TX12) (N := 73) rfl (by decide) zinX12 rfl zw_730 dX12_goesOn_572) (z_c (ok_iconst (v := (1)) dX12_goesOn_575 (by decide)) (z_c (ok_isub dX12_goesOn_576) (z_c (ok_putf (C := RX12) (T := TX12) (N := 73) false tyX12 tyX12_ok nmX12 rfl (by decide) zinX12 rfl zw_730 rfl (fun h => absurd h (by decide)) rfl dX12_goesOn_577) (z_c (ok_iload_n dX12_goesOn_580 rfl) (z_c (ok_iconst (v := (4)) dX12_goesOn_581 (by decide)) (z_c (ok_icmp_ne dX12_goesOn_582 (by decide)) (z_c (ok_aload_n dX12_goesOn_585 rfl) (z_c (ok_aload_n dX12_goesOn_586 rfl) (z_c (ok_getf (C := RX12) (T := TX12) (N := 73) rfl (by decide) zinX12 rfl zw_727 dX12_goesOn_587) (z_c (ok_iload_n dX12_goesOn_590 rfl) (z_c (ok_iaload rfl dX12_goesOn_591) z_n))))))))))))
noncomputable def tX12_goesOn_26 : List (Nat × zF) := [(592, (zst 1 (zp (.int (0))))), (593, (zcv 181 2 12)), (596, (zli4 2 1)), (597, (zst 1 (zp (.int (5))))), (598, (z_ic_ne 613)), (601, (zla4 0 1)), (602, (zgf 12 37)), (605, (zla4 0 1)), (606, (zgf 12 41)), (609, (zst 1 (zp (.int (1))))), (610, (zst 1 z_isub)), (611, (zst 1 (zp (.int (2)))))]
theorem kX12_goesOn_26 : ∀ q ∈ tX12_goesOn_26, zOk zg iX12_goesOn q.1 q.2 := (z_c (ok_iconst (v := (0)) dX12_goesOn_592 (by decide)) (z_c (ok_callV zcal_181 (q := (RX12, TX12, 73)) rfl zw_816 zw_817 zw_818 dX12_goesOn_593) (z_c (ok_iload_n dX12_goesOn_596 rfl) (z_c (ok_iconst (v := (5)) dX12_goesOn_597 (by decide)) (z_c (ok_icmp_ne dX12_goesOn_598 (by decide)) (z_c (ok_aload_n dX12_goesOn_601 rfl) (z_c (ok_getf (C := RX12) (T := TX12) (N := 73) rfl (by decide) zinX12 rfl zw_724 dX12_goesOn_602) (z_c (ok_aload_n dX12_goesOn_605 rfl) (z_c (ok_getf (C := RX12) (T := TX12) (N := 73) rfl (by decide) zinX12 rfl zw_729 dX12_goesOn_606) (z_c (ok_iconst (v := (1)) dX12_goesOn_609 (by decide)) (z_c (ok_isub dX12_goesOn_610) (z_c (ok_iconst (v := (2)) dX12_goesOn_611 (by decide)) z_n))))))))))))
noncomputable def tX12_goesOn_27 : List (Nat × zF) := [(612, (zas 0)), (613, (zla4 0 1)), (614, (zcv 173 0 12)), (617, (zst 1 (zp (.int (1))))), (618, (zri true))]
theorem kX12_goesOn_27 : ∀ q ∈ tX12_goesOn_27, zOk zg iX12_goesOn q.1 q.2 := (z_c (ok_iastore rfl dX12_goesOn_612) (z_c (ok_aload_n dX12_goesOn_613 rfl) (z_c (ok_callV zcal_173 (q := (RX12, TX12, 73)) rfl zw_780 zw_781 zw_782 dX12_goesOn_614) (z_c (ok_iconst (v := (1)) dX12_goesOn_617 (by decide)) (z_c (ok_zreturn rfl dX12_goesOn_618) z_n)))))
noncomputable def tX12_goesOn : zT := [(20, tX12_goesOn_0), (38, tX12_goesOn_1), (63, tX12_goesOn_2), (89, tX12_goesOn_3), (116, tX12_goesOn_4), (144, tX12_goesOn_5), (172, tX12_goesOn_6), (193, tX12_goesOn_7), (219, tX12_goesOn_8), (243, tX12_goesOn_9), (271, tX12_goesOn_10), (289, tX12_goesOn_11), (315, tX12_goesOn_12), (337, tX12_goesOn_13), (362, tX12_goesOn_14), (386, tX12_goesOn_15), (404, tX12_goesOn_16), (424, tX12_goesOn_17), (446, tX12_goesOn_18), (470, tX12_goesOn_19), (490, tX12_goesOn_20), (508, tX12_goesOn_21), (529, tX12_goesOn_22), (554, tX12_goesOn_23), (572, tX12_goesOn_24), (592, tX12_goesOn_25), (612, tX12_goesOn_26), (100000, tX12_goesOn_27)]
theorem kX12_goesOn : zTok zg iX12_goesOn tX12_goesOn := (z_t kX12_goesOn_0 (z_t kX12_goesOn_1 (z_t kX12_goesOn_2 (z_t kX12_goesOn_3 (z_t kX12_goesOn_4 (z_t kX12_goesOn_5 (z_t kX12_goesOn_6 (z_t kX12_goesOn_7 (z_t kX12_goesOn_8 (z_t kX12_goesOn_9 (z_t kX12_goesOn_10 (z_t kX12_goesOn_11 (z_t kX12_goesOn_12 (z_t kX12_goesOn_13 (z_t kX12_goesOn_14 (z_t kX12_goesOn_15 (z_t kX12_goesOn_16 (z_t kX12_goesOn_17 (z_t kX12_goesOn_18 (z_t kX12_goesOn_19 (z_t kX12_goesOn_20 (z_t kX12_goesOn_21 (z_t kX12_goesOn_22 (z_t kX12_goesOn_23 (z_t kX12_goesOn_24 (z_t kX12_goesOn_25 (z_t kX12_goesOn_26 (z_t kX12_goesOn_27 z_tn))))))))))))))))))))))))))))
theorem dX12_reads_0 : decode cX12_reads 0 = .ok (.aload_n 0, 1) := by decide +kernel
theorem dX12_reads_1 : decode cX12_reads 1 = .ok (.getfield 36, 3) := by decide +kernel
theorem dX12_reads_4 : decode cX12_reads 4 = .ok (.ifCond .le 4, 3) := by decide +kernel
theorem dX12_reads_7 : decode cX12_reads 7 = .ok (.return_, 1) := by decide +kernel
theorem dX12_reads_8 : decode cX12_reads 8 = .ok (.aload_n 0, 1) := by decide +kernel
theorem dX12_reads_9 : decode cX12_reads 9 = .ok (.iconst 0, 1) := by decide +kernel
theorem dX12_reads_10 : decode cX12_reads 10 = .ok (.putfield 137, 3) := by decide +kernel
theorem dX12_reads_13 : decode cX12_reads 13 = .ok (.aload_n 0, 1) := by decide +kernel
theorem dX12_reads_14 : decode cX12_reads 14 = .ok (.iconst 0, 1) := by decide +kernel
theorem dX12_reads_15 : decode cX12_reads 15 = .ok (.putfield 140, 3) := by decide +kernel
theorem dX12_reads_18 : decode cX12_reads 18 = .ok (.aload_n 0, 1) := by decide +kernel
theorem dX12_reads_19 : decode cX12_reads 19 = .ok (.iconst 0, 1) := by decide +kernel
theorem dX12_reads_20 : decode cX12_reads 20 = .ok (.putfield 146, 3) := by decide +kernel
theorem dX12_reads_23 : decode cX12_reads 23 = .ok (.aload_n 0, 1) := by decide +kernel
theorem dX12_reads_24 : decode cX12_reads 24 = .ok (.iconst 0, 1) := by decide +kernel
theorem dX12_reads_25 : decode cX12_reads 25 = .ok (.putfield 149, 3) := by decide +kernel
theorem dX12_reads_28 : decode cX12_reads 28 = .ok (.aload_n 0, 1) := by decide +kernel
theorem dX12_reads_29 : decode cX12_reads 29 = .ok (.iload_n 1, 1) := by decide +kernel
theorem dX12_reads_30 : decode cX12_reads 30 = .ok (.ifCond .eq 7, 3) := by decide +kernel
theorem dX12_reads_33 : decode cX12_reads 33 = .ok (.iconst 1, 1) := by decide +kernel
theorem dX12_reads_34 : decode cX12_reads 34 = .ok (.goto 4, 3) := by decide +kernel
theorem dX12_reads_37 : decode cX12_reads 37 = .ok (.iconst 0, 1) := by decide +kernel
theorem dX12_reads_38 : decode cX12_reads 38 = .ok (.invokevirtual 328, 3) := by decide +kernel
theorem dX12_reads_41 : decode cX12_reads 41 = .ok (.iconst 1, 1) := by decide +kernel
theorem dX12_reads_42 : decode cX12_reads 42 = .ok (.istore_n 2, 1) := by decide +kernel
theorem dX12_reads_43 : decode cX12_reads 43 = .ok (.iload_n 2, 1) := by decide +kernel
theorem dX12_reads_44 : decode cX12_reads 44 = .ok (.ifCond .eq 46, 3) := by decide +kernel
theorem dX12_reads_47 : decode cX12_reads 47 = .ok (.aload_n 0, 1) := by decide +kernel
theorem dX12_reads_48 : decode cX12_reads 48 = .ok (.getfield 149, 3) := by decide +kernel
theorem dX12_reads_51 : decode cX12_reads 51 = .ok (.ifCond .ne 14, 3) := by decide +kernel
theorem dX12_reads_54 : decode cX12_reads 54 = .ok (.aload_n 0, 1) := by decide +kernel
theorem dX12_reads_55 : decode cX12_reads 55 = .ok (.aload_n 0, 1) := by decide +kernel
theorem dX12_reads_56 : decode cX12_reads 56 = .ok (.invokevirtual 347, 3) := by decide +kernel
theorem dX12_reads_59 : decode cX12_reads 59 = .ok (.putfield 149, 3) := by decide +kernel
theorem dX12_reads_62 : decode cX12_reads 62 = .ok (.goto 8, 3) := by decide +kernel
theorem dX12_reads_65 : decode cX12_reads 65 = .ok (.aload_n 0, 1) := by decide +kernel
theorem dX12_reads_66 : decode cX12_reads 66 = .ok (.invokevirtual 350, 3) := by decide +kernel
theorem dX12_reads_69 : decode cX12_reads 69 = .ok (.istore_n 2, 1) := by decide +kernel
theorem dX12_reads_70 : decode cX12_reads 70 = .ok (.iload_n 2, 1) := by decide +kernel
theorem dX12_reads_71 : decode cX12_reads 71 = .ok (.ifCond .eq 14, 3) := by decide +kernel
theorem dX12_reads_74 : decode cX12_reads 74 = .ok (.aload_n 0, 1) := by decide +kernel
theorem dX12_reads_75 : decode cX12_reads 75 = .ok (.getfield 36, 3) := by decide +kernel
theorem dX12_reads_78 : decode cX12_reads 78 = .ok (.ifCond .ne 7, 3) := by decide +kernel
theorem dX12_reads_81 : decode cX12_reads 81 = .ok (.iconst 1, 1) := by decide +kernel
theorem dX12_reads_82 : decode cX12_reads 82 = .ok (.goto 4, 3) := by decide +kernel
theorem dX12_reads_85 : decode cX12_reads 85 = .ok (.iconst 0, 1) := by decide +kernel
theorem dX12_reads_86 : decode cX12_reads 86 = .ok (.istore_n 2, 1) := by decide +kernel
theorem dX12_reads_87 : decode cX12_reads 87 = .ok (.goto (-44), 3) := by decide +kernel
theorem dX12_reads_90 : decode cX12_reads 90 = .ok (.return_, 1) := by decide +kernel
noncomputable def tX12_reads_0 : List (Nat × zF) := [(0, (zla4 0 1)), (1, (zgf 12 8)), (4, (z_if_le 8)), (7, zrv), (8, (zla4 0 1)), (9, (zst 1 (zp (.int (0))))), (10, (zpf 12 41 (.int))), (13, (zla4 0 1)), (14, (zst 1 (zp (.int (0))))), (15, (zpf 12 42 (.int))), (18, (zla4 0 1)), (19, (zst 1 (zp (.int (0)))))]
theorem kX12_reads_0 : ∀ q ∈ tX12_reads_0, zOk zg iX12_reads q.1 q.2 := (z_c (ok_aload_n dX12_reads_0 rfl) (z_c (ok_getf (C := RX12) (T := TX12) (N := 73) rfl (by decide) zinX12 rfl zw_695 dX12_reads_1) (z_c (ok_if_le dX12_reads_4 (by decide)) (z_c (ok_return rfl dX12_reads_7) (z_c (ok_aload_n dX12_reads_8 rfl) (z_c (ok_iconst (v := (0)) dX12_reads_9 (by decide)) (z_c (ok_putf (C := RX12) (T := TX12) (N := 73) false tyX12 tyX12_ok nmX12 rfl (by decide) zinX12 rfl zw_729 rfl (fun h => absurd h (by decide)) rfl dX12_reads_10) (z_c (ok_aload_n dX12_reads_13 rfl) (z_c (ok_iconst (v := (0)) dX12_reads_14 (by decide)) (z_c (ok_putf (C := RX12) (T := TX12) (N := 73) false tyX12 tyX12_ok nmX12 rfl (by decide) zinX12 rfl zw_730 rfl (fun h => absurd h (by decide)) rfl dX12_reads_15) (z_c (ok_aload_n dX12_reads_18 rfl) (z_c (ok_iconst (v := (0)) dX12_reads_19 (by decide)) z_n))))))))))))
noncomputable def tX12_reads_1 : List (Nat × zF) := [(20, (zpf 12 44 (.int))), (23, (zla4 0 1)), (24, (zst 1 (zp (.int (0))))), (25, (zpf 12 45 (.boolean))), (28, (zla4 0 1)), (29, (zli4 1 1)), (30, (z_if_eq 37)), (33, (zst 1 (zp (.int (1))))), (34, (zgt 38)), (37, (zst 1 (zp (.int (0))))), (38, (zcv 185 1 12)), (41, (zst 1 (zp (.int (1)))))]
theorem kX12_reads_1 : ∀ q ∈ tX12_reads_1, zOk zg iX12_reads q.1 q.2 := (z_c (ok_putf (C := RX12) (T := TX12) (N := 73) false tyX12 tyX12_ok nmX12 rfl (by decide) zinX12 rfl zw_732 rfl (fun h => absurd h (by decide)) rfl dX12_reads_20) (z_c (ok_aload_n dX12_reads_23 rfl) (z_c (ok_iconst (v := (0)) dX12_reads_24 (by decide)) (z_c (ok_putf (C := RX12) (T := TX12) (N := 73) false tyX12 tyX12_ok nmX12 rfl (by decide) zinX12 rfl zw_733 rfl (fun h => absurd h (by decide)) rfl dX12_reads_25) (z_c (ok_aload_n dX12_reads_28 rfl) (z_c (ok_iload_n dX12_reads_29 rfl) (z_c (ok_if_eq dX12_reads_30 (by decide)) (z_c (ok_iconst (v := (1)) dX12_reads_33 (by decide)) (z_c (ok_goto dX12_reads_34 (by decide)) (z_c (ok_iconst (v := (0)) dX12_reads_37 (by decide)) (z_c (ok_callV zcal_185 (q := (RX12, TX12, 73)) rfl zw_819 zw_820 zw_821 dX12_reads_38) (z_c (ok_iconst (v := (1)) dX12_reads_41 (by decide)) z_n))))))))))))
noncomputable def tX12_reads_2 : List (Nat × zF) := [(42, (zsi4 3 2 1)), (43, (zli4 2 1)), (44, (z_if_eq 90)), (47, (zla4 0 1)), (48, (zgf 12 45)), (51, (z_if_ne 65)), (54, (zla4 0 1)), (55, (zla4 0 1)), (56, (zcv 188 0 12)), (59, (zpf 12 45 (.boolean))), (62, (zgt 70)), (65, (zla4 0 1))]
theorem kX12_reads_2 : ∀ q ∈ tX12_reads_2, zOk zg iX12_reads q.1 q.2 := (z_c (ok_istore_n dX12_reads_42 rfl) (z_c (ok_iload_n dX12_reads_43 rfl) (z_c (ok_if_eq dX12_reads_44 (by decide)) (z_c (ok_aload_n dX12_reads_47 rfl) (z_c (ok_getf (C := RX12) (T := TX12) (N := 73) rfl (by decide) zinX12 rfl zw_733 dX12_reads_48) (z_c (ok_if_ne dX12_reads_51 (by decide)) (z_c (ok_aload_n dX12_reads_54 rfl) (z_c (ok_aload_n dX12_reads_55 rfl) (z_c (ok_callV zcal_188 (q := (RX12, TX12, 73)) rfl zw_836 zw_837 zw_838 dX12_reads_56) (z_c (ok_putf (C := RX12) (T := TX12) (N := 73) false tyX12 tyX12_ok nmX12 rfl (by decide) zinX12 rfl zw_733 rfl (fun h => absurd h (by decide)) rfl dX12_reads_59) (z_c (ok_goto dX12_reads_62 (by decide)) (z_c (ok_aload_n dX12_reads_65 rfl) z_n))))))))))))
noncomputable def tX12_reads_3 : List (Nat × zF) := [(66, (zcv 189 0 12)), (69, (zsi4 3 2 1)), (70, (zli4 2 1)), (71, (z_if_eq 85)), (74, (zla4 0 1)), (75, (zgf 12 8)), (78, (z_if_ne 85)), (81, (zst 1 (zp (.int (1))))), (82, (zgt 86)), (85, (zst 1 (zp (.int (0))))), (86, (zsi4 3 2 1)), (87, (zgt 43))]
theorem kX12_reads_3 : ∀ q ∈ tX12_reads_3, zOk zg iX12_reads q.1 q.2 := (z_c (ok_callV zcal_189 (q := (RX12, TX12, 73)) rfl zw_839 zw_840 zw_841 dX12_reads_66) (z_c (ok_istore_n dX12_reads_69 rfl) (z_c (ok_iload_n dX12_reads_70 rfl) (z_c (ok_if_eq dX12_reads_71 (by decide)) (z_c (ok_aload_n dX12_reads_74 rfl) (z_c (ok_getf (C := RX12) (T := TX12) (N := 73) rfl (by decide) zinX12 rfl zw_695 dX12_reads_75) (z_c (ok_if_ne dX12_reads_78 (by decide)) (z_c (ok_iconst (v := (1)) dX12_reads_81 (by decide)) (z_c (ok_goto dX12_reads_82 (by decide)) (z_c (ok_iconst (v := (0)) dX12_reads_85 (by decide)) (z_c (ok_istore_n dX12_reads_86 rfl) (z_c (ok_goto dX12_reads_87 (by decide)) z_n))))))))))))
noncomputable def tX12_reads_4 : List (Nat × zF) := [(90, zrv)]
theorem kX12_reads_4 : ∀ q ∈ tX12_reads_4, zOk zg iX12_reads q.1 q.2 := (z_c (ok_return rfl dX12_reads_90) z_n)
noncomputable def tX12_reads : zT := [(20, tX12_reads_0), (42, tX12_reads_1), (66, tX12_reads_2), (90, tX12_reads_3), (100000, tX12_reads_4)]
theorem kX12_reads : zTok zg iX12_reads tX12_reads := (z_t kX12_reads_0 (z_t kX12_reads_1 (z_t kX12_reads_2 (z_t kX12_reads_3 (z_t kX12_reads_4 z_tn)))))
theorem dX12_isCounted_0 : decode cX12_isCounted 0 = .ok (.aload_n 0, 1) := by decide +kernel
theorem dX12_isCounted_1 : decode cX12_isCounted 1 = .ok (.getfield 36, 3) := by decide +kernel
theorem dX12_isCounted_4 : decode cX12_isCounted 4 = .ok (.ifCond .ne 17, 3) := by decide +kernel
theorem dX12_isCounted_7 : decode cX12_isCounted 7 = .ok (.iload_n 1, 1) := by decide +kernel
theorem dX12_isCounted_8 : decode cX12_isCounted 8 = .ok (.ifCond .eq 13, 3) := by decide +kernel
theorem dX12_isCounted_11 : decode cX12_isCounted 11 = .ok (.aload_n 0, 1) := by decide +kernel
theorem dX12_isCounted_12 : decode cX12_isCounted 12 = .ok (.bipush 6, 2) := by decide +kernel
theorem dX12_isCounted_14 : decode cX12_isCounted 14 = .ok (.aload_n 0, 1) := by decide +kernel
theorem dX12_isCounted_15 : decode cX12_isCounted 15 = .ok (.getfield 23, 3) := by decide +kernel
theorem dX12_isCounted_18 : decode cX12_isCounted 18 = .ok (.invokevirtual 242, 3) := by decide +kernel
theorem dX12_isCounted_21 : decode cX12_isCounted 21 = .ok (.aload_n 0, 1) := by decide +kernel
theorem dX12_isCounted_22 : decode cX12_isCounted 22 = .ok (.getfield 36, 3) := by decide +kernel
theorem dX12_isCounted_25 : decode cX12_isCounted 25 = .ok (.ifCond .ne 7, 3) := by decide +kernel
theorem dX12_isCounted_28 : decode cX12_isCounted 28 = .ok (.aload_n 0, 1) := by decide +kernel
theorem dX12_isCounted_29 : decode cX12_isCounted 29 = .ok (.invokevirtual 259, 3) := by decide +kernel
theorem dX12_isCounted_32 : decode cX12_isCounted 32 = .ok (.aload_n 0, 1) := by decide +kernel
theorem dX12_isCounted_33 : decode cX12_isCounted 33 = .ok (.getfield 36, 3) := by decide +kernel
theorem dX12_isCounted_36 : decode cX12_isCounted 36 = .ok (.ifCond .ne 7, 3) := by decide +kernel
theorem dX12_isCounted_39 : decode cX12_isCounted 39 = .ok (.iconst 1, 1) := by decide +kernel
theorem dX12_isCounted_40 : decode cX12_isCounted 40 = .ok (.goto 4, 3) := by decide +kernel
theorem dX12_isCounted_43 : decode cX12_isCounted 43 = .ok (.iconst 0, 1) := by decide +kernel
theorem dX12_isCounted_44 : decode cX12_isCounted 44 = .ok (.ireturn, 1) := by decide +kernel
noncomputable def tX12_isCounted_0 : List (Nat × zF) := [(0, (zla4 0 1)), (1, (zgf 12 8)), (4, (z_if_ne 21)), (7, (zli4 1 1)), (8, (z_if_eq 21)), (11, (zla4 0 1)), (12, (zst 2 (zp (.int (6))))), (14, (zla4 0 1)), (15, (zgf 12 4)), (18, (zcv 169 2 12)), (21, (zla4 0 1)), (22, (zgf 12 8))]
theorem kX12_isCounted_0 : ∀ q ∈ tX12_isCounted_0, zOk zg iX12_isCounted q.1 q.2 := (z_c (ok_aload_n dX12_isCounted_0 rfl) (z_c (ok_getf (C := RX12) (T := TX12) (N := 73) rfl (by decide) zinX12 rfl zw_695 dX12_isCounted_1) (z_c (ok_if_ne dX12_isCounted_4 (by decide)) (z_c (ok_iload_n dX12_isCounted_7 rfl) (z_c (ok_if_eq dX12_isCounted_8 (by decide)) (z_c (ok_aload_n dX12_isCounted_11 rfl) (z_c (ok_bipush (v := (6)) dX12_isCounted_12 (by decide)) (z_c (ok_aload_n dX12_isCounted_14 rfl) (z_c (ok_getf (C := RX12) (T := TX12) (N := 73) rfl (by decide) zinX12 rfl zw_691 dX12_isCounted_15) (z_c (ok_callV zcal_169 (q := (RX12, TX12, 73)) rfl zw_767 zw_768 zw_769 dX12_isCounted_18) (z_c (ok_aload_n dX12_isCounted_21 rfl) (z_c (ok_getf (C := RX12) (T := TX12) (N := 73) rfl (by decide) zinX12 rfl zw_695 dX12_isCounted_22) z_n))))))))))))
noncomputable def tX12_isCounted_1 : List (Nat × zF) := [(25, (z_if_ne 32)), (28, (zla4 0 1)), (29, (zcv 173 0 12)), (32, (zla4 0 1)), (33, (zgf 12 8)), (36, (z_if_ne 43)), (39, (zst 1 (zp (.int (1))))), (40, (zgt 44)), (43, (zst 1 (zp (.int (0))))), (44, (zri true))]
theorem kX12_isCounted_1 : ∀ q ∈ tX12_isCounted_1, zOk zg iX12_isCounted q.1 q.2 := (z_c (ok_if_ne dX12_isCounted_25 (by decide)) (z_c (ok_aload_n dX12_isCounted_28 rfl) (z_c (ok_callV zcal_173 (q := (RX12, TX12, 73)) rfl zw_780 zw_781 zw_782 dX12_isCounted_29) (z_c (ok_aload_n dX12_isCounted_32 rfl) (z_c (ok_getf (C := RX12) (T := TX12) (N := 73) rfl (by decide) zinX12 rfl zw_695 dX12_isCounted_33) (z_c (ok_if_ne dX12_isCounted_36 (by decide)) (z_c (ok_iconst (v := (1)) dX12_isCounted_39 (by decide)) (z_c (ok_goto dX12_isCounted_40 (by decide)) (z_c (ok_iconst (v := (0)) dX12_isCounted_43 (by decide)) (z_c (ok_zreturn rfl dX12_isCounted_44) z_n))))))))))
noncomputable def tX12_isCounted : zT := [(25, tX12_isCounted_0), (100000, tX12_isCounted_1)]
theorem kX12_isCounted : zTok zg iX12_isCounted tX12_isCounted := (z_t kX12_isCounted_0 (z_t kX12_isCounted_1 z_tn))
theorem dX12_must__0 : decode cX12_must_ 0 = .ok (.aload_n 0, 1) := by decide +kernel
theorem dX12_must__1 : decode cX12_must_ 1 = .ok (.invokevirtual 253, 3) := by decide +kernel
theorem dX12_must__4 : decode cX12_must_ 4 = .ok (.aload_n 0, 1) := by decide +kernel
theorem dX12_must__5 : decode cX12_must_ 5 = .ok (.getfield 36, 3) := by decide +kernel
theorem dX12_must__8 : decode cX12_must_ 8 = .ok (.ifCond .le 4, 3) := by decide +kernel
theorem dX12_must__11 : decode cX12_must_ 11 = .ok (.return_, 1) := by decide +kernel
theorem dX12_must__12 : decode cX12_must_ 12 = .ok (.aload_n 0, 1) := by decide +kernel
theorem dX12_must__13 : decode cX12_must_ 13 = .ok (.lload_n 1, 1) := by decide +kernel
theorem dX12_must__14 : decode cX12_must_ 14 = .ok (.invokevirtual 334, 3) := by decide +kernel
theorem dX12_must__17 : decode cX12_must_ 17 = .ok (.ifCond .ne 12, 3) := by decide +kernel
theorem dX12_must__20 : decode cX12_must_ 20 = .ok (.aload_n 0, 1) := by decide +kernel
theorem dX12_must__21 : decode cX12_must_ 21 = .ok (.iconst 1, 1) := by decide +kernel
theorem dX12_must__22 : decode cX12_must_ 22 = .ok (.aload_n 0, 1) := by decide +kernel
theorem dX12_must__23 : decode cX12_must_ 23 = .ok (.getfield 23, 3) := by decide +kernel
theorem dX12_must__26 : decode cX12_must_ 26 = .ok (.invokevirtual 242, 3) := by decide +kernel
theorem dX12_must__29 : decode cX12_must_ 29 = .ok (.aload_n 0, 1) := by decide +kernel
theorem dX12_must__30 : decode cX12_must_ 30 = .ok (.getfield 36, 3) := by decide +kernel
theorem dX12_must__33 : decode cX12_must_ 33 = .ok (.ifCond .ne 7, 3) := by decide +kernel
theorem dX12_must__36 : decode cX12_must_ 36 = .ok (.aload_n 0, 1) := by decide +kernel
theorem dX12_must__37 : decode cX12_must_ 37 = .ok (.invokevirtual 259, 3) := by decide +kernel
theorem dX12_must__40 : decode cX12_must_ 40 = .ok (.return_, 1) := by decide +kernel
noncomputable def tX12_must__0 : List (Nat × zF) := [(0, (zla4 0 1)), (1, (zcv 172 0 12)), (4, (zla4 0 1)), (5, (zgf 12 8)), (8, (z_if_le 12)), (11, zrv), (12, (zla4 0 1)), (13, (zll4 1 1)), (14, (zcv 175 1 12)), (17, (z_if_ne 29)), (20, (zla4 0 1)), (21, (zst 1 (zp (.int (1)))))]
theorem kX12_must__0 : ∀ q ∈ tX12_must__0, zOk zg iX12_must_ q.1 q.2 := (z_c (ok_aload_n dX12_must__0 rfl) (z_c (ok_callV zcal_172 (q := (RX12, TX12, 73)) rfl zw_774 zw_775 zw_776 dX12_must__1) (z_c (ok_aload_n dX12_must__4 rfl) (z_c (ok_getf (C := RX12) (T := TX12) (N := 73) rfl (by decide) zinX12 rfl zw_695 dX12_must__5) (z_c (ok_if_le dX12_must__8 (by decide)) (z_c (ok_return rfl dX12_must__11) (z_c (ok_aload_n dX12_must__12 rfl) (z_c (ok_lload_n dX12_must__13 rfl) (z_c (ok_callV zcal_175 (q := (RX12, TX12, 73)) rfl zw_824 zw_825 zw_826 dX12_must__14) (z_c (ok_if_ne dX12_must__17 (by decide)) (z_c (ok_aload_n dX12_must__20 rfl) (z_c (ok_iconst (v := (1)) dX12_must__21 (by decide)) z_n))))))))))))
noncomputable def tX12_must__1 : List (Nat × zF) := [(22, (zla4 0 1)), (23, (zgf 12 4)), (26, (zcv 169 2 12)), (29, (zla4 0 1)), (30, (zgf 12 8)), (33, (z_if_ne 40)), (36, (zla4 0 1)), (37, (zcv 173 0 12)), (40, zrv)]
theorem kX12_must__1 : ∀ q ∈ tX12_must__1, zOk zg iX12_must_ q.1 q.2 := (z_c (ok_aload_n dX12_must__22 rfl) (z_c (ok_getf (C := RX12) (T := TX12) (N := 73) rfl (by decide) zinX12 rfl zw_691 dX12_must__23) (z_c (ok_callV zcal_169 (q := (RX12, TX12, 73)) rfl zw_767 zw_768 zw_769 dX12_must__26) (z_c (ok_aload_n dX12_must__29 rfl) (z_c (ok_getf (C := RX12) (T := TX12) (N := 73) rfl (by decide) zinX12 rfl zw_695 dX12_must__30) (z_c (ok_if_ne dX12_must__33 (by decide)) (z_c (ok_aload_n dX12_must__36 rfl) (z_c (ok_callV zcal_173 (q := (RX12, TX12, 73)) rfl zw_780 zw_781 zw_782 dX12_must__37) (z_c (ok_return rfl dX12_must__40) z_n)))))))))
noncomputable def tX12_must_ : zT := [(22, tX12_must__0), (100000, tX12_must__1)]
theorem kX12_must_ : zTok zg iX12_must_ tX12_must_ := (z_t kX12_must__0 (z_t kX12_must__1 z_tn))
theorem dX12_has2_0 : decode cX12_has2 0 = .ok (.iload_n 0, 1) := by decide +kernel
theorem dX12_has2_1 : decode cX12_has2 1 = .ok (.iload_n 1, 1) := by decide +kernel
theorem dX12_has2_2 : decode cX12_has2 2 = .ok (.ishr, 1) := by decide +kernel
theorem dX12_has2_3 : decode cX12_has2 3 = .ok (.iconst 1, 1) := by decide +kernel
theorem dX12_has2_4 : decode cX12_has2 4 = .ok (.iand, 1) := by decide +kernel
theorem dX12_has2_5 : decode cX12_has2 5 = .ok (.iconst 1, 1) := by decide +kernel
theorem dX12_has2_6 : decode cX12_has2 6 = .ok (.if_icmp .ne 7, 3) := by decide +kernel
theorem dX12_has2_9 : decode cX12_has2 9 = .ok (.iconst 1, 1) := by decide +kernel
theorem dX12_has2_10 : decode cX12_has2 10 = .ok (.goto 4, 3) := by decide +kernel
theorem dX12_has2_13 : decode cX12_has2 13 = .ok (.iconst 0, 1) := by decide +kernel
theorem dX12_has2_14 : decode cX12_has2 14 = .ok (.ireturn, 1) := by decide +kernel
noncomputable def tX12_has2_0 : List (Nat × zF) := [(0, (zli4 0 1)), (1, (zli4 1 1)), (2, (zst 1 z_ishr)), (3, (zst 1 (zp (.int (1))))), (4, (zst 1 z_iand)), (5, (zst 1 (zp (.int (1))))), (6, (z_ic_ne 13)), (9, (zst 1 (zp (.int (1))))), (10, (zgt 14)), (13, (zst 1 (zp (.int (0))))), (14, (zri true))]
theorem kX12_has2_0 : ∀ q ∈ tX12_has2_0, zOk zg iX12_has2 q.1 q.2 := (z_c (ok_iload_n dX12_has2_0 rfl) (z_c (ok_iload_n dX12_has2_1 rfl) (z_c (ok_ishr dX12_has2_2) (z_c (ok_iconst (v := (1)) dX12_has2_3 (by decide)) (z_c (ok_iand dX12_has2_4) (z_c (ok_iconst (v := (1)) dX12_has2_5 (by decide)) (z_c (ok_icmp_ne dX12_has2_6 (by decide)) (z_c (ok_iconst (v := (1)) dX12_has2_9 (by decide)) (z_c (ok_goto dX12_has2_10 (by decide)) (z_c (ok_iconst (v := (0)) dX12_has2_13 (by decide)) (z_c (ok_zreturn rfl dX12_has2_14) z_n)))))))))))
noncomputable def tX12_has2 : zT := [(100000, tX12_has2_0)]
theorem kX12_has2 : zTok zg iX12_has2 tX12_has2 := (z_t kX12_has2_0 z_tn)
theorem dX12_fresh_0 : decode cX12_fresh 0 = .ok (.aload_n 0, 1) := by decide +kernel
theorem dX12_fresh_1 : decode cX12_fresh 1 = .ok (.invokevirtual 253, 3) := by decide +kernel
theorem dX12_fresh_4 : decode cX12_fresh 4 = .ok (.aload_n 0, 1) := by decide +kernel
theorem dX12_fresh_5 : decode cX12_fresh 5 = .ok (.getfield 36, 3) := by decide +kernel
theorem dX12_fresh_8 : decode cX12_fresh 8 = .ok (.ifCond .le 5, 3) := by decide +kernel
theorem dX12_fresh_11 : decode cX12_fresh 11 = .ok (.lconst 0, 1) := by decide +kernel
theorem dX12_fresh_12 : decode cX12_fresh 12 = .ok (.lreturn, 1) := by decide +kernel
theorem dX12_fresh_13 : decode cX12_fresh 13 = .ok (.aload_n 0, 1) := by decide +kernel
theorem dX12_fresh_14 : decode cX12_fresh 14 = .ok (.getfield 20, 3) := by decide +kernel
theorem dX12_fresh_17 : decode cX12_fresh 17 = .ok (.iconst 1, 1) := by decide +kernel
theorem dX12_fresh_18 : decode cX12_fresh 18 = .ok (.if_icmp .ne 14, 3) := by decide +kernel
theorem dX12_fresh_21 : decode cX12_fresh 21 = .ok (.aload_n 0, 1) := by decide +kernel
theorem dX12_fresh_22 : decode cX12_fresh 22 = .ok (.aload_n 0, 1) := by decide +kernel
theorem dX12_fresh_23 : decode cX12_fresh 23 = .ok (.getfield 32, 3) := by decide +kernel
theorem dX12_fresh_26 : decode cX12_fresh 26 = .ok (.invokevirtual 353, 3) := by decide +kernel
theorem dX12_fresh_29 : decode cX12_fresh 29 = .ok (.ifCond .eq 12, 3) := by decide +kernel
theorem dX12_fresh_32 : decode cX12_fresh 32 = .ok (.aload_n 0, 1) := by decide +kernel
theorem dX12_fresh_33 : decode cX12_fresh 33 = .ok (.iconst 1, 1) := by decide +kernel
theorem dX12_fresh_34 : decode cX12_fresh 34 = .ok (.aload_n 0, 1) := by decide +kernel
theorem dX12_fresh_35 : decode cX12_fresh 35 = .ok (.getfield 23, 3) := by decide +kernel
theorem dX12_fresh_38 : decode cX12_fresh 38 = .ok (.invokevirtual 242, 3) := by decide +kernel
theorem dX12_fresh_41 : decode cX12_fresh 41 = .ok (.aload_n 0, 1) := by decide +kernel
theorem dX12_fresh_42 : decode cX12_fresh 42 = .ok (.getfield 36, 3) := by decide +kernel
theorem dX12_fresh_45 : decode cX12_fresh 45 = .ok (.ifCond .ne 23, 3) := by decide +kernel
theorem dX12_fresh_48 : decode cX12_fresh 48 = .ok (.aload_n 0, 1) := by decide +kernel
theorem dX12_fresh_49 : decode cX12_fresh 49 = .ok (.aload_n 0, 1) := by decide +kernel
theorem dX12_fresh_50 : decode cX12_fresh 50 = .ok (.getfield 32, 3) := by decide +kernel
theorem dX12_fresh_53 : decode cX12_fresh 53 = .ok (.invokevirtual 356, 3) := by decide +kernel
theorem dX12_fresh_56 : decode cX12_fresh 56 = .ok (.ifCond .eq 12, 3) := by decide +kernel
theorem dX12_fresh_59 : decode cX12_fresh 59 = .ok (.aload_n 0, 1) := by decide +kernel
theorem dX12_fresh_60 : decode cX12_fresh 60 = .ok (.iconst 2, 1) := by decide +kernel
theorem dX12_fresh_61 : decode cX12_fresh 61 = .ok (.aload_n 0, 1) := by decide +kernel
theorem dX12_fresh_62 : decode cX12_fresh 62 = .ok (.getfield 23, 3) := by decide +kernel
theorem dX12_fresh_65 : decode cX12_fresh 65 = .ok (.invokevirtual 242, 3) := by decide +kernel
theorem dX12_fresh_68 : decode cX12_fresh 68 = .ok (.aload_n 0, 1) := by decide +kernel
theorem dX12_fresh_69 : decode cX12_fresh 69 = .ok (.getfield 32, 3) := by decide +kernel
theorem dX12_fresh_72 : decode cX12_fresh 72 = .ok (.lstore_n 1, 1) := by decide +kernel
theorem dX12_fresh_73 : decode cX12_fresh 73 = .ok (.aload_n 0, 1) := by decide +kernel
theorem dX12_fresh_74 : decode cX12_fresh 74 = .ok (.getfield 36, 3) := by decide +kernel
theorem dX12_fresh_77 : decode cX12_fresh 77 = .ok (.ifCond .ne 7, 3) := by decide +kernel
theorem dX12_fresh_80 : decode cX12_fresh 80 = .ok (.aload_n 0, 1) := by decide +kernel
theorem dX12_fresh_81 : decode cX12_fresh 81 = .ok (.invokevirtual 259, 3) := by decide +kernel
theorem dX12_fresh_84 : decode cX12_fresh 84 = .ok (.lload_n 1, 1) := by decide +kernel
theorem dX12_fresh_85 : decode cX12_fresh 85 = .ok (.lreturn, 1) := by decide +kernel
noncomputable def tX12_fresh_0 : List (Nat × zF) := [(0, (zla4 0 1)), (1, (zcv 172 0 12)), (4, (zla4 0 1)), (5, (zgf 12 8)), (8, (z_if_le 13)), (11, (zst 1 (zp (.long (0))))), (12, zrl), (13, (zla4 0 1)), (14, (zgf 12 3)), (17, (zst 1 (zp (.int (1))))), (18, (z_ic_ne 32)), (21, (zla4 0 1))]
theorem kX12_fresh_0 : ∀ q ∈ tX12_fresh_0, zOk zg iX12_fresh q.1 q.2 := (z_c (ok_aload_n dX12_fresh_0 rfl) (z_c (ok_callV zcal_172 (q := (RX12, TX12, 73)) rfl zw_774 zw_775 zw_776 dX12_fresh_1) (z_c (ok_aload_n dX12_fresh_4 rfl) (z_c (ok_getf (C := RX12) (T := TX12) (N := 73) rfl (by decide) zinX12 rfl zw_695 dX12_fresh_5) (z_c (ok_if_le dX12_fresh_8 (by decide)) (z_c (ok_lconst (v := (0)) dX12_fresh_11 (by decide)) (z_c (ok_lreturn rfl dX12_fresh_12) (z_c (ok_aload_n dX12_fresh_13 rfl) (z_c (ok_getf (C := RX12) (T := TX12) (N := 73) rfl (by decide) zinX12 rfl zw_690 dX12_fresh_14) (z_c (ok_iconst (v := (1)) dX12_fresh_17 (by decide)) (z_c (ok_icmp_ne dX12_fresh_18 (by decide)) (z_c (ok_aload_n dX12_fresh_21 rfl) z_n))))))))))))
noncomputable def tX12_fresh_1 : List (Nat × zF) := [(22, (zla4 0 1)), (23, (zgf 12 7)), (26, (zcv 177 1 12)), (29, (z_if_eq 41)), (32, (zla4 0 1)), (33, (zst 1 (zp (.int (1))))), (34, (zla4 0 1)), (35, (zgf 12 4)), (38, (zcv 169 2 12)), (41, (zla4 0 1)), (42, (zgf 12 8)), (45, (z_if_ne 68))]
theorem kX12_fresh_1 : ∀ q ∈ tX12_fresh_1, zOk zg iX12_fresh q.1 q.2 := (z_c (ok_aload_n dX12_fresh_22 rfl) (z_c (ok_getf (C := RX12) (T := TX12) (N := 73) rfl (by decide) zinX12 rfl zw_694 dX12_fresh_23) (z_c (ok_callV zcal_177 (q := (RX12, TX12, 73)) rfl zw_842 zw_843 zw_844 dX12_fresh_26) (z_c (ok_if_eq dX12_fresh_29 (by decide)) (z_c (ok_aload_n dX12_fresh_32 rfl) (z_c (ok_iconst (v := (1)) dX12_fresh_33 (by decide)) (z_c (ok_aload_n dX12_fresh_34 rfl) (z_c (ok_getf (C := RX12) (T := TX12) (N := 73) rfl (by decide) zinX12 rfl zw_691 dX12_fresh_35) (z_c (ok_callV zcal_169 (q := (RX12, TX12, 73)) rfl zw_767 zw_768 zw_769 dX12_fresh_38) (z_c (ok_aload_n dX12_fresh_41 rfl) (z_c (ok_getf (C := RX12) (T := TX12) (N := 73) rfl (by decide) zinX12 rfl zw_695 dX12_fresh_42) (z_c (ok_if_ne dX12_fresh_45 (by decide)) z_n))))))))))))
noncomputable def tX12_fresh_2 : List (Nat × zF) := [(48, (zla4 0 1)), (49, (zla4 0 1)), (50, (zgf 12 7)), (53, (zcv 179 1 12)), (56, (z_if_eq 68)), (59, (zla4 0 1)), (60, (zst 1 (zp (.int (2))))), (61, (zla4 0 1)), (62, (zgf 12 4)), (65, (zcv 169 2 12)), (68, (zla4 0 1)), (69, (zgf 12 7))]
theorem kX12_fresh_2 : ∀ q ∈ tX12_fresh_2, zOk zg iX12_fresh q.1 q.2 := (z_c (ok_aload_n dX12_fresh_48 rfl) (z_c (ok_aload_n dX12_fresh_49 rfl) (z_c (ok_getf (C := RX12) (T := TX12) (N := 73) rfl (by decide) zinX12 rfl zw_694 dX12_fresh_50) (z_c (ok_callV zcal_179 (q := (RX12, TX12, 73)) rfl zw_845 zw_846 zw_847 dX12_fresh_53) (z_c (ok_if_eq dX12_fresh_56 (by decide)) (z_c (ok_aload_n dX12_fresh_59 rfl) (z_c (ok_iconst (v := (2)) dX12_fresh_60 (by decide)) (z_c (ok_aload_n dX12_fresh_61 rfl) (z_c (ok_getf (C := RX12) (T := TX12) (N := 73) rfl (by decide) zinX12 rfl zw_691 dX12_fresh_62) (z_c (ok_callV zcal_169 (q := (RX12, TX12, 73)) rfl zw_767 zw_768 zw_769 dX12_fresh_65) (z_c (ok_aload_n dX12_fresh_68 rfl) (z_c (ok_getf (C := RX12) (T := TX12) (N := 73) rfl (by decide) zinX12 rfl zw_694 dX12_fresh_69) z_n))))))))))))
noncomputable def tX12_fresh_3 : List (Nat × zF) := [(72, (zsl4 3 1 1)), (73, (zla4 0 1)), (74, (zgf 12 8)), (77, (z_if_ne 84)), (80, (zla4 0 1)), (81, (zcv 173 0 12)), (84, (zll4 1 1)), (85, zrl)]
theorem kX12_fresh_3 : ∀ q ∈ tX12_fresh_3, zOk zg iX12_fresh q.1 q.2 := (z_c (ok_lstore_n dX12_fresh_72 rfl) (z_c (ok_aload_n dX12_fresh_73 rfl) (z_c (ok_getf (C := RX12) (T := TX12) (N := 73) rfl (by decide) zinX12 rfl zw_695 dX12_fresh_74) (z_c (ok_if_ne dX12_fresh_77 (by decide)) (z_c (ok_aload_n dX12_fresh_80 rfl) (z_c (ok_callV zcal_173 (q := (RX12, TX12, 73)) rfl zw_780 zw_781 zw_782 dX12_fresh_81) (z_c (ok_lload_n dX12_fresh_84 rfl) (z_c (ok_lreturn rfl dX12_fresh_85) z_n))))))))
noncomputable def tX12_fresh : zT := [(22, tX12_fresh_0), (48, tX12_fresh_1), (72, tX12_fresh_2), (100000, tX12_fresh_3)]
theorem kX12_fresh : zTok zg iX12_fresh tX12_fresh := (z_t kX12_fresh_0 (z_t kX12_fresh_1 (z_t kX12_fresh_2 (z_t kX12_fresh_3 z_tn))))
theorem dX12_isInTheWay_0 : decode cX12_isInTheWay 0 = .ok (.iconst 0, 1) := by decide +kernel
theorem dX12_isInTheWay_1 : decode cX12_isInTheWay 1 = .ok (.istore_n 2, 1) := by decide +kernel
theorem dX12_isInTheWay_2 : decode cX12_isInTheWay 2 = .ok (.iload_n 2, 1) := by decide +kernel
theorem dX12_isInTheWay_3 : decode cX12_isInTheWay 3 = .ok (.aload_n 0, 1) := by decide +kernel
theorem dX12_isInTheWay_4 : decode cX12_isInTheWay 4 = .ok (.getfield 69, 3) := by decide +kernel
theorem dX12_isInTheWay_7 : decode cX12_isInTheWay 7 = .ok (.aload_n 0, 1) := by decide +kernel
theorem dX12_isInTheWay_8 : decode cX12_isInTheWay 8 = .ok (.getfield 115, 3) := by decide +kernel
theorem dX12_isInTheWay_11 : decode cX12_isInTheWay 11 = .ok (.iaload, 1) := by decide +kernel
theorem dX12_isInTheWay_12 : decode cX12_isInTheWay 12 = .ok (.if_icmp .ge 29, 3) := by decide +kernel
theorem dX12_isInTheWay_15 : decode cX12_isInTheWay 15 = .ok (.aload_n 0, 1) := by decide +kernel
theorem dX12_isInTheWay_16 : decode cX12_isInTheWay 16 = .ok (.getfield 72, 3) := by decide +kernel
theorem dX12_isInTheWay_19 : decode cX12_isInTheWay 19 = .ok (.bipush 9, 2) := by decide +kernel
theorem dX12_isInTheWay_21 : decode cX12_isInTheWay 21 = .ok (.aload_n 0, 1) := by decide +kernel
theorem dX12_isInTheWay_22 : decode cX12_isInTheWay 22 = .ok (.getfield 115, 3) := by decide +kernel
theorem dX12_isInTheWay_25 : decode cX12_isInTheWay 25 = .ok (.imul, 1) := by decide +kernel
theorem dX12_isInTheWay_26 : decode cX12_isInTheWay 26 = .ok (.iload_n 2, 1) := by decide +kernel
theorem dX12_isInTheWay_27 : decode cX12_isInTheWay 27 = .ok (.iadd, 1) := by decide +kernel
theorem dX12_isInTheWay_28 : decode cX12_isInTheWay 28 = .ok (.iaload, 1) := by decide +kernel
theorem dX12_isInTheWay_29 : decode cX12_isInTheWay 29 = .ok (.iload_n 1, 1) := by decide +kernel
theorem dX12_isInTheWay_30 : decode cX12_isInTheWay 30 = .ok (.if_icmp .ne 5, 3) := by decide +kernel
theorem dX12_isInTheWay_33 : decode cX12_isInTheWay 33 = .ok (.iconst 1, 1) := by decide +kernel
theorem dX12_isInTheWay_34 : decode cX12_isInTheWay 34 = .ok (.ireturn, 1) := by decide +kernel
theorem dX12_isInTheWay_35 : decode cX12_isInTheWay 35 = .ok (.iinc 2 1, 3) := by decide +kernel
theorem dX12_isInTheWay_38 : decode cX12_isInTheWay 38 = .ok (.goto (-36), 3) := by decide +kernel
theorem dX12_isInTheWay_41 : decode cX12_isInTheWay 41 = .ok (.iconst 0, 1) := by decide +kernel
theorem dX12_isInTheWay_42 : decode cX12_isInTheWay 42 = .ok (.istore_n 2, 1) := by decide +kernel
theorem dX12_isInTheWay_43 : decode cX12_isInTheWay 43 = .ok (.iload_n 2, 1) := by decide +kernel
theorem dX12_isInTheWay_44 : decode cX12_isInTheWay 44 = .ok (.aload_n 0, 1) := by decide +kernel
theorem dX12_isInTheWay_45 : decode cX12_isInTheWay 45 = .ok (.getfield 84, 3) := by decide +kernel
theorem dX12_isInTheWay_48 : decode cX12_isInTheWay 48 = .ok (.aload_n 0, 1) := by decide +kernel
theorem dX12_isInTheWay_49 : decode cX12_isInTheWay 49 = .ok (.getfield 115, 3) := by decide +kernel
theorem dX12_isInTheWay_52 : decode cX12_isInTheWay 52 = .ok (.iaload, 1) := by decide +kernel
theorem dX12_isInTheWay_53 : decode cX12_isInTheWay 53 = .ok (.if_icmp .ge 47, 3) := by decide +kernel
theorem dX12_isInTheWay_56 : decode cX12_isInTheWay 56 = .ok (.aload_n 0, 1) := by decide +kernel
theorem dX12_isInTheWay_57 : decode cX12_isInTheWay 57 = .ok (.getfield 87, 3) := by decide +kernel
theorem dX12_isInTheWay_60 : decode cX12_isInTheWay 60 = .ok (.bipush 6, 2) := by decide +kernel
theorem dX12_isInTheWay_62 : decode cX12_isInTheWay 62 = .ok (.aload_n 0, 1) := by decide +kernel
theorem dX12_isInTheWay_63 : decode cX12_isInTheWay 63 = .ok (.getfield 115, 3) := by decide +kernel
theorem dX12_isInTheWay_66 : decode cX12_isInTheWay 66 = .ok (.imul, 1) := by decide +kernel
theorem dX12_isInTheWay_67 : decode cX12_isInTheWay 67 = .ok (.iload_n 2, 1) := by decide +kernel
theorem dX12_isInTheWay_68 : decode cX12_isInTheWay 68 = .ok (.iadd, 1) := by decide +kernel
theorem dX12_isInTheWay_69 : decode cX12_isInTheWay 69 = .ok (.iaload, 1) := by decide +kernel
theorem dX12_isInTheWay_70 : decode cX12_isInTheWay 70 = .ok (.iload_n 1, 1) := by decide +kernel
theorem dX12_isInTheWay_71 : decode cX12_isInTheWay 71 = .ok (.if_icmp .eq 21, 3) := by decide +kernel
theorem dX12_isInTheWay_74 : decode cX12_isInTheWay 74 = .ok (.aload_n 0, 1) := by decide +kernel
theorem dX12_isInTheWay_75 : decode cX12_isInTheWay 75 = .ok (.getfield 90, 3) := by decide +kernel
theorem dX12_isInTheWay_78 : decode cX12_isInTheWay 78 = .ok (.bipush 6, 2) := by decide +kernel
theorem dX12_isInTheWay_80 : decode cX12_isInTheWay 80 = .ok (.aload_n 0, 1) := by decide +kernel
theorem dX12_isInTheWay_81 : decode cX12_isInTheWay 81 = .ok (.getfield 115, 3) := by decide +kernel
theorem dX12_isInTheWay_84 : decode cX12_isInTheWay 84 = .ok (.imul, 1) := by decide +kernel
theorem dX12_isInTheWay_85 : decode cX12_isInTheWay 85 = .ok (.iload_n 2, 1) := by decide +kernel
theorem dX12_isInTheWay_86 : decode cX12_isInTheWay 86 = .ok (.iadd, 1) := by decide +kernel
theorem dX12_isInTheWay_87 : decode cX12_isInTheWay 87 = .ok (.iaload, 1) := by decide +kernel
theorem dX12_isInTheWay_88 : decode cX12_isInTheWay 88 = .ok (.iload_n 1, 1) := by decide +kernel
theorem dX12_isInTheWay_89 : decode cX12_isInTheWay 89 = .ok (.if_icmp .ne 5, 3) := by decide +kernel
theorem dX12_isInTheWay_92 : decode cX12_isInTheWay 92 = .ok (.iconst 1, 1) := by decide +kernel
theorem dX12_isInTheWay_93 : decode cX12_isInTheWay 93 = .ok (.ireturn, 1) := by decide +kernel
theorem dX12_isInTheWay_94 : decode cX12_isInTheWay 94 = .ok (.iinc 2 1, 3) := by decide +kernel
theorem dX12_isInTheWay_97 : decode cX12_isInTheWay 97 = .ok (.goto (-54), 3) := by decide +kernel
theorem dX12_isInTheWay_100 : decode cX12_isInTheWay 100 = .ok (.iconst 0, 1) := by decide +kernel
theorem dX12_isInTheWay_101 : decode cX12_isInTheWay 101 = .ok (.ireturn, 1) := by decide +kernel
noncomputable def tX12_isInTheWay_0 : List (Nat × zF) := [(0, (zst 1 (zp (.int (0))))), (1, (zsi4 3 2 1)), (2, (zli4 2 1)), (3, (zla4 0 1)), (4, (zgf 12 19)), (7, (zla4 0 1)), (8, (zgf 12 34)), (11, (zal 0)), (12, (z_ic_ge 41)), (15, (zla4 0 1)), (16, (zgf 12 20)), (19, (zst 2 (zp (.int (9)))))]
theorem kX12_isInTheWay_0 : ∀ q ∈ tX12_isInTheWay_0, zOk zg iX12_isInTheWay q.1 q.2 := (z_c (ok_iconst (v := (0)) dX12_isInTheWay_0 (by decide)) (z_c (ok_istore_n dX12_isInTheWay_1 rfl) (z_c (ok_iload_n dX12_isInTheWay_2 rfl) (z_c (ok_aload_n dX12_isInTheWay_3 rfl) (z_c (ok_getf (C := RX12) (T := TX12) (N := 73) rfl (by decide) zinX12 rfl zw_706 dX12_isInTheWay_4) (z_c (ok_aload_n dX12_isInTheWay_7 rfl) (z_c (ok_getf (C := RX12) (T := TX12) (N := 73) rfl (by decide) zinX12 rfl zw_721 dX12_isInTheWay_8) (z_c (ok_iaload rfl dX12_isInTheWay_11) (z_c (ok_icmp_ge dX12_isInTheWay_12 (by decide)) (z_c (ok_aload_n dX12_isInTheWay_15 rfl) (z_c (ok_getf (C := RX12) (T := TX12) (N := 73) rfl (by decide) zinX12 rfl zw_707 dX12_isInTheWay_16) (z_c (ok_bipush (v := (9)) dX12_isInTheWay_19 (by decide)) z_n))))))))))))
noncomputable def tX12_isInTheWay_1 : List (Nat × zF) := [(21, (zla4 0 1)), (22, (zgf 12 34)), (25, (zst 1 z_imul)), (26, (zli4 2 1)), (27, (zst 1 z_iadd)), (28, (zal 0)), (29, (zli4 1 1)), (30, (z_ic_ne 35)), (33, (zst 1 (zp (.int (1))))), (34, (zri true)), (35, (zin4 3 2 (1))), (38, (zgt 2))]
theorem kX12_isInTheWay_1 : ∀ q ∈ tX12_isInTheWay_1, zOk zg iX12_isInTheWay q.1 q.2 := (z_c (ok_aload_n dX12_isInTheWay_21 rfl) (z_c (ok_getf (C := RX12) (T := TX12) (N := 73) rfl (by decide) zinX12 rfl zw_721 dX12_isInTheWay_22) (z_c (ok_imul dX12_isInTheWay_25) (z_c (ok_iload_n dX12_isInTheWay_26 rfl) (z_c (ok_iadd dX12_isInTheWay_27) (z_c (ok_iaload rfl dX12_isInTheWay_28) (z_c (ok_iload_n dX12_isInTheWay_29 rfl) (z_c (ok_icmp_ne dX12_isInTheWay_30 (by decide)) (z_c (ok_iconst (v := (1)) dX12_isInTheWay_33 (by decide)) (z_c (ok_zreturn rfl dX12_isInTheWay_34) (z_c (ok_iinc (v := (1)) dX12_isInTheWay_35 (by decide)) (z_c (ok_goto dX12_isInTheWay_38 (by decide)) z_n))))))))))))
noncomputable def tX12_isInTheWay_2 : List (Nat × zF) := [(41, (zst 1 (zp (.int (0))))), (42, (zsi4 3 2 1)), (43, (zli4 2 1)), (44, (zla4 0 1)), (45, (zgf 12 24)), (48, (zla4 0 1)), (49, (zgf 12 34)), (52, (zal 0)), (53, (z_ic_ge 100)), (56, (zla4 0 1)), (57, (zgf 12 25)), (60, (zst 2 (zp (.int (6)))))]
theorem kX12_isInTheWay_2 : ∀ q ∈ tX12_isInTheWay_2, zOk zg iX12_isInTheWay q.1 q.2 := (z_c (ok_iconst (v := (0)) dX12_isInTheWay_41 (by decide)) (z_c (ok_istore_n dX12_isInTheWay_42 rfl) (z_c (ok_iload_n dX12_isInTheWay_43 rfl) (z_c (ok_aload_n dX12_isInTheWay_44 rfl) (z_c (ok_getf (C := RX12) (T := TX12) (N := 73) rfl (by decide) zinX12 rfl zw_711 dX12_isInTheWay_45) (z_c (ok_aload_n dX12_isInTheWay_48 rfl) (z_c (ok_getf (C := RX12) (T := TX12) (N := 73) rfl (by decide) zinX12 rfl zw_721 dX12_isInTheWay_49) (z_c (ok_iaload rfl dX12_isInTheWay_52) (z_c (ok_icmp_ge dX12_isInTheWay_53 (by decide)) (z_c (ok_aload_n dX12_isInTheWay_56 rfl) (z_c (ok_getf (C := RX12) (T := TX12) (N := 73) rfl (by decide) zinX12 rfl zw_712 dX12_isInTheWay_57) (z_c (ok_bipush (v := (6)) dX12_isInTheWay_60 (by decide)) z_n))))))))))))
noncomputable def tX12_isInTheWay_3 : List (Nat × zF) := [(62, (zla4 0 1)), (63, (zgf 12 34)), (66, (zst 1 z_imul)), (67, (zli4 2 1)), (68, (zst 1 z_iadd)), (69, (zal 0)), (70, (zli4 1 1)), (71, (z_ic_eq 92)), (74, (zla4 0 1)), (75, (zgf 12 26)), (78, (zst 2 (zp (.int (6))))), (80, (zla4 0 1))]
theorem kX12_isInTheWay_3 : ∀ q ∈ tX12_isInTheWay_3, zOk zg iX12_isInTheWay q.1 q.2 := (z_c (ok_aload_n dX12_isInTheWay_62 rfl) (z_c (ok_getf (C := RX12) (T := TX12) (N := 73) rfl (by decide) zinX12 rfl zw_721 dX12_isInTheWay_63) (z_c (ok_imul dX12_isInTheWay_66) (z_c (ok_iload_n dX12_isInTheWay_67 rfl) (z_c (ok_iadd dX12_isInTheWay_68) (z_c (ok_iaload rfl dX12_isInTheWay_69) (z_c (ok_iload_n dX12_isInTheWay_70 rfl) (z_c (ok_icmp_eq dX12_isInTheWay_71 (by decide)) (z_c (ok_aload_n dX12_isInTheWay_74 rfl) (z_c (ok_getf (C := RX12) (T := TX12) (N := 73) rfl (by decide) zinX12 rfl zw_713 dX12_isInTheWay_75) (z_c (ok_bipush (v := (6)) dX12_isInTheWay_78 (by decide)) (z_c (ok_aload_n dX12_isInTheWay_80 rfl) z_n))))))))))))
noncomputable def tX12_isInTheWay_4 : List (Nat × zF) := [(81, (zgf 12 34)), (84, (zst 1 z_imul)), (85, (zli4 2 1)), (86, (zst 1 z_iadd)), (87, (zal 0)), (88, (zli4 1 1)), (89, (z_ic_ne 94)), (92, (zst 1 (zp (.int (1))))), (93, (zri true)), (94, (zin4 3 2 (1))), (97, (zgt 43)), (100, (zst 1 (zp (.int (0)))))]
theorem kX12_isInTheWay_4 : ∀ q ∈ tX12_isInTheWay_4, zOk zg iX12_isInTheWay q.1 q.2 := (z_c (ok_getf (C := RX12) (T := TX12) (N := 73) rfl (by decide) zinX12 rfl zw_721 dX12_isInTheWay_81) (z_c (ok_imul dX12_isInTheWay_84) (z_c (ok_iload_n dX12_isInTheWay_85 rfl) (z_c (ok_iadd dX12_isInTheWay_86) (z_c (ok_iaload rfl dX12_isInTheWay_87) (z_c (ok_iload_n dX12_isInTheWay_88 rfl) (z_c (ok_icmp_ne dX12_isInTheWay_89 (by decide)) (z_c (ok_iconst (v := (1)) dX12_isInTheWay_92 (by decide)) (z_c (ok_zreturn rfl dX12_isInTheWay_93) (z_c (ok_iinc (v := (1)) dX12_isInTheWay_94 (by decide)) (z_c (ok_goto dX12_isInTheWay_97 (by decide)) (z_c (ok_iconst (v := (0)) dX12_isInTheWay_100 (by decide)) z_n))))))))))))
noncomputable def tX12_isInTheWay_5 : List (Nat × zF) := [(101, (zri true))]
theorem kX12_isInTheWay_5 : ∀ q ∈ tX12_isInTheWay_5, zOk zg iX12_isInTheWay q.1 q.2 := (z_c (ok_zreturn rfl dX12_isInTheWay_101) z_n)
noncomputable def tX12_isInTheWay : zT := [(21, tX12_isInTheWay_0), (41, tX12_isInTheWay_1), (62, tX12_isInTheWay_2), (81, tX12_isInTheWay_3), (101, tX12_isInTheWay_4), (100000, tX12_isInTheWay_5)]
theorem kX12_isInTheWay : zTok zg iX12_isInTheWay tX12_isInTheWay := (z_t kX12_isInTheWay_0 (z_t kX12_isInTheWay_1 (z_t kX12_isInTheWay_2 (z_t kX12_isInTheWay_3 (z_t kX12_isInTheWay_4 (z_t kX12_isInTheWay_5 z_tn))))))
theorem dX12_cellTold_0 : decode cX12_cellTold 0 = .ok (.aload_n 0, 1) := by decide +kernel
theorem dX12_cellTold_1 : decode cX12_cellTold 1 = .ok (.iconst 0, 1) := by decide +kernel
theorem dX12_cellTold_2 : decode cX12_cellTold 2 = .ok (.aload_n 0, 1) := by decide +kernel
theorem dX12_cellTold_3 : decode cX12_cellTold 3 = .ok (.getfield 54, 3) := by decide +kernel
theorem dX12_cellTold_6 : decode cX12_cellTold 6 = .ok (.aload_n 0, 1) := by decide +kernel
theorem dX12_cellTold_7 : decode cX12_cellTold 7 = .ok (.getfield 115, 3) := by decide +kernel
theorem dX12_cellTold_10 : decode cX12_cellTold 10 = .ok (.iaload, 1) := by decide +kernel
theorem dX12_cellTold_11 : decode cX12_cellTold 11 = .ok (.iconst 1, 1) := by decide +kernel
theorem dX12_cellTold_12 : decode cX12_cellTold 12 = .ok (.isub, 1) := by decide +kernel
theorem dX12_cellTold_13 : decode cX12_cellTold 13 = .ok (.invokevirtual 359, 3) := by decide +kernel
theorem dX12_cellTold_16 : decode cX12_cellTold 16 = .ok (.istore_n 2, 1) := by decide +kernel
theorem dX12_cellTold_17 : decode cX12_cellTold 17 = .ok (.aload_n 0, 1) := by decide +kernel
theorem dX12_cellTold_18 : decode cX12_cellTold 18 = .ok (.invokevirtual 253, 3) := by decide +kernel
theorem dX12_cellTold_21 : decode cX12_cellTold 21 = .ok (.aload_n 0, 1) := by decide +kernel
theorem dX12_cellTold_22 : decode cX12_cellTold 22 = .ok (.getfield 23, 3) := by decide +kernel
theorem dX12_cellTold_25 : decode cX12_cellTold 25 = .ok (.istore_n 3, 1) := by decide +kernel
theorem dX12_cellTold_26 : decode cX12_cellTold 26 = .ok (.aload_n 0, 1) := by decide +kernel
theorem dX12_cellTold_27 : decode cX12_cellTold 27 = .ok (.iconst 0, 1) := by decide +kernel
theorem dX12_cellTold_28 : decode cX12_cellTold 28 = .ok (.aload_n 0, 1) := by decide +kernel
theorem dX12_cellTold_29 : decode cX12_cellTold 29 = .ok (.getfield 57, 3) := by decide +kernel
theorem dX12_cellTold_32 : decode cX12_cellTold 32 = .ok (.aload_n 0, 1) := by decide +kernel
theorem dX12_cellTold_33 : decode cX12_cellTold 33 = .ok (.getfield 115, 3) := by decide +kernel
theorem dX12_cellTold_36 : decode cX12_cellTold 36 = .ok (.iaload, 1) := by decide +kernel
theorem dX12_cellTold_37 : decode cX12_cellTold 37 = .ok (.iconst 1, 1) := by decide +kernel
theorem dX12_cellTold_38 : decode cX12_cellTold 38 = .ok (.isub, 1) := by decide +kernel
theorem dX12_cellTold_39 : decode cX12_cellTold 39 = .ok (.invokevirtual 359, 3) := by decide +kernel
theorem dX12_cellTold_42 : decode cX12_cellTold 42 = .ok (.istore 4, 2) := by decide +kernel
theorem dX12_cellTold_44 : decode cX12_cellTold 44 = .ok (.aload_n 0, 1) := by decide +kernel
theorem dX12_cellTold_45 : decode cX12_cellTold 45 = .ok (.getfield 36, 3) := by decide +kernel
theorem dX12_cellTold_48 : decode cX12_cellTold 48 = .ok (.ifCond .le 5, 3) := by decide +kernel
theorem dX12_cellTold_51 : decode cX12_cellTold 51 = .ok (.iconst 0, 1) := by decide +kernel
theorem dX12_cellTold_52 : decode cX12_cellTold 52 = .ok (.ireturn, 1) := by decide +kernel
theorem dX12_cellTold_53 : decode cX12_cellTold 53 = .ok (.bipush 8, 2) := by decide +kernel
theorem dX12_cellTold_55 : decode cX12_cellTold 55 = .ok (.iload 4, 2) := by decide +kernel
theorem dX12_cellTold_57 : decode cX12_cellTold 57 = .ok (.imul, 1) := by decide +kernel
theorem dX12_cellTold_58 : decode cX12_cellTold 58 = .ok (.iload_n 2, 1) := by decide +kernel
theorem dX12_cellTold_59 : decode cX12_cellTold 59 = .ok (.iadd, 1) := by decide +kernel
theorem dX12_cellTold_60 : decode cX12_cellTold 60 = .ok (.istore 5, 2) := by decide +kernel
theorem dX12_cellTold_62 : decode cX12_cellTold 62 = .ok (.aload_n 0, 1) := by decide +kernel
theorem dX12_cellTold_63 : decode cX12_cellTold 63 = .ok (.getfield 66, 3) := by decide +kernel
theorem dX12_cellTold_66 : decode cX12_cellTold 66 = .ok (.bipush 64, 2) := by decide +kernel
theorem dX12_cellTold_68 : decode cX12_cellTold 68 = .ok (.aload_n 0, 1) := by decide +kernel
theorem dX12_cellTold_69 : decode cX12_cellTold 69 = .ok (.getfield 115, 3) := by decide +kernel
theorem dX12_cellTold_72 : decode cX12_cellTold 72 = .ok (.imul, 1) := by decide +kernel
theorem dX12_cellTold_73 : decode cX12_cellTold 73 = .ok (.iload 5, 2) := by decide +kernel
theorem dX12_cellTold_75 : decode cX12_cellTold 75 = .ok (.iadd, 1) := by decide +kernel
theorem dX12_cellTold_76 : decode cX12_cellTold 76 = .ok (.iaload, 1) := by decide +kernel
theorem dX12_cellTold_77 : decode cX12_cellTold 77 = .ok (.iconst 1, 1) := by decide +kernel
theorem dX12_cellTold_78 : decode cX12_cellTold 78 = .ok (.if_icmp .eq 16, 3) := by decide +kernel
theorem dX12_cellTold_81 : decode cX12_cellTold 81 = .ok (.iload_n 1, 1) := by decide +kernel
theorem dX12_cellTold_82 : decode cX12_cellTold 82 = .ok (.ifCond .eq 18, 3) := by decide +kernel
theorem dX12_cellTold_85 : decode cX12_cellTold 85 = .ok (.aload_n 0, 1) := by decide +kernel
theorem dX12_cellTold_86 : decode cX12_cellTold 86 = .ok (.iload 5, 2) := by decide +kernel
theorem dX12_cellTold_88 : decode cX12_cellTold 88 = .ok (.invokevirtual 363, 3) := by decide +kernel
theorem dX12_cellTold_91 : decode cX12_cellTold 91 = .ok (.ifCond .eq 9, 3) := by decide +kernel
theorem dX12_cellTold_94 : decode cX12_cellTold 94 = .ok (.aload_n 0, 1) := by decide +kernel
theorem dX12_cellTold_95 : decode cX12_cellTold 95 = .ok (.iconst 4, 1) := by decide +kernel
theorem dX12_cellTold_96 : decode cX12_cellTold 96 = .ok (.iload_n 3, 1) := by decide +kernel
theorem dX12_cellTold_97 : decode cX12_cellTold 97 = .ok (.invokevirtual 242, 3) := by decide +kernel
theorem dX12_cellTold_100 : decode cX12_cellTold 100 = .ok (.iload 5, 2) := by decide +kernel
theorem dX12_cellTold_102 : decode cX12_cellTold 102 = .ok (.ireturn, 1) := by decide +kernel
noncomputable def tX12_cellTold_0 : List (Nat × zF) := [(0, (zla4 0 1)), (1, (zst 1 (zp (.int (0))))), (2, (zla4 0 1)), (3, (zgf 12 14)), (6, (zla4 0 1)), (7, (zgf 12 34)), (10, (zal 0)), (11, (zst 1 (zp (.int (1))))), (12, (zst 1 z_isub)), (13, (zcv 180 2 12)), (16, (zsi4 6 2 1)), (17, (zla4 0 1))]
theorem kX12_cellTold_0 : ∀ q ∈ tX12_cellTold_0, zOk zg iX12_cellTold q.1 q.2 := (z_c (ok_aload_n dX12_cellTold_0 rfl) (z_c (ok_iconst (v := (0)) dX12_cellTold_1 (by decide)) (z_c (ok_aload_n dX12_cellTold_2 rfl) (z_c (ok_getf (C := RX12) (T := TX12) (N := 73) rfl (by decide) zinX12 rfl zw_701 dX12_cellTold_3) (z_c (ok_aload_n dX12_cellTold_6 rfl) (z_c (ok_getf (C := RX12) (T := TX12) (N := 73) rfl (by decide) zinX12 rfl zw_721 dX12_cellTold_7) (z_c (ok_iaload rfl dX12_cellTold_10) (z_c (ok_iconst (v := (1)) dX12_cellTold_11 (by decide)) (z_c (ok_isub dX12_cellTold_12) (z_c (ok_callV zcal_180 (q := (RX12, TX12, 73)) rfl zw_848 zw_849 zw_850 dX12_cellTold_13) (z_c (ok_istore_n dX12_cellTold_16 rfl) (z_c (ok_aload_n dX12_cellTold_17 rfl) z_n))))))))))))
noncomputable def tX12_cellTold_1 : List (Nat × zF) := [(18, (zcv 172 0 12)), (21, (zla4 0 1)), (22, (zgf 12 4)), (25, (zsi4 6 3 1)), (26, (zla4 0 1)), (27, (zst 1 (zp (.int (0))))), (28, (zla4 0 1)), (29, (zgf 12 15)), (32, (zla4 0 1)), (33, (zgf 12 34)), (36, (zal 0)), (37, (zst 1 (zp (.int (1)))))]
theorem kX12_cellTold_1 : ∀ q ∈ tX12_cellTold_1, zOk zg iX12_cellTold q.1 q.2 := (z_c (ok_callV zcal_172 (q := (RX12, TX12, 73)) rfl zw_774 zw_775 zw_776 dX12_cellTold_18) (z_c (ok_aload_n dX12_cellTold_21 rfl) (z_c (ok_getf (C := RX12) (T := TX12) (N := 73) rfl (by decide) zinX12 rfl zw_691 dX12_cellTold_22) (z_c (ok_istore_n dX12_cellTold_25 rfl) (z_c (ok_aload_n dX12_cellTold_26 rfl) (z_c (ok_iconst (v := (0)) dX12_cellTold_27 (by decide)) (z_c (ok_aload_n dX12_cellTold_28 rfl) (z_c (ok_getf (C := RX12) (T := TX12) (N := 73) rfl (by decide) zinX12 rfl zw_702 dX12_cellTold_29) (z_c (ok_aload_n dX12_cellTold_32 rfl) (z_c (ok_getf (C := RX12) (T := TX12) (N := 73) rfl (by decide) zinX12 rfl zw_721 dX12_cellTold_33) (z_c (ok_iaload rfl dX12_cellTold_36) (z_c (ok_iconst (v := (1)) dX12_cellTold_37 (by decide)) z_n))))))))))))
noncomputable def tX12_cellTold_2 : List (Nat × zF) := [(38, (zst 1 z_isub)), (39, (zcv 180 2 12)), (42, (zsi4 6 4 2)), (44, (zla4 0 1)), (45, (zgf 12 8)), (48, (z_if_le 53)), (51, (zst 1 (zp (.int (0))))), (52, (zri false)), (53, (zst 2 (zp (.int (8))))), (55, (zli4 4 2)), (57, (zst 1 z_imul)), (58, (zli4 2 1))]
theorem kX12_cellTold_2 : ∀ q ∈ tX12_cellTold_2, zOk zg iX12_cellTold q.1 q.2 := (z_c (ok_isub dX12_cellTold_38) (z_c (ok_callV zcal_180 (q := (RX12, TX12, 73)) rfl zw_848 zw_849 zw_850 dX12_cellTold_39) (z_c (ok_istore dX12_cellTold_42) (z_c (ok_aload_n dX12_cellTold_44 rfl) (z_c (ok_getf (C := RX12) (T := TX12) (N := 73) rfl (by decide) zinX12 rfl zw_695 dX12_cellTold_45) (z_c (ok_if_le dX12_cellTold_48 (by decide)) (z_c (ok_iconst (v := (0)) dX12_cellTold_51 (by decide)) (z_c (ok_ireturn rfl dX12_cellTold_52) (z_c (ok_bipush (v := (8)) dX12_cellTold_53 (by decide)) (z_c (ok_iload dX12_cellTold_55) (z_c (ok_imul dX12_cellTold_57) (z_c (ok_iload_n dX12_cellTold_58 rfl) z_n))))))))))))
noncomputable def tX12_cellTold_3 : List (Nat × zF) := [(59, (zst 1 z_iadd)), (60, (zsi4 6 5 2)), (62, (zla4 0 1)), (63, (zgf 12 18)), (66, (zst 2 (zp (.int (64))))), (68, (zla4 0 1)), (69, (zgf 12 34)), (72, (zst 1 z_imul)), (73, (zli4 5 2)), (75, (zst 1 z_iadd)), (76, (zal 0)), (77, (zst 1 (zp (.int (1)))))]
theorem kX12_cellTold_3 : ∀ q ∈ tX12_cellTold_3, zOk zg iX12_cellTold q.1 q.2 := (z_c (ok_iadd dX12_cellTold_59) (z_c (ok_istore dX12_cellTold_60) (z_c (ok_aload_n dX12_cellTold_62 rfl) (z_c (ok_getf (C := RX12) (T := TX12) (N := 73) rfl (by decide) zinX12 rfl zw_705 dX12_cellTold_63) (z_c (ok_bipush (v := (64)) dX12_cellTold_66 (by decide)) (z_c (ok_aload_n dX12_cellTold_68 rfl) (z_c (ok_getf (C := RX12) (T := TX12) (N := 73) rfl (by decide) zinX12 rfl zw_721 dX12_cellTold_69) (z_c (ok_imul dX12_cellTold_72) (z_c (ok_iload dX12_cellTold_73) (z_c (ok_iadd dX12_cellTold_75) (z_c (ok_iaload rfl dX12_cellTold_76) (z_c (ok_iconst (v := (1)) dX12_cellTold_77 (by decide)) z_n))))))))))))
noncomputable def tX12_cellTold_4 : List (Nat × zF) := [(78, (z_ic_eq 94)), (81, (zli4 1 1)), (82, (z_if_eq 100)), (85, (zla4 0 1)), (86, (zli4 5 2)), (88, (zcv 195 1 12)), (91, (z_if_eq 100)), (94, (zla4 0 1)), (95, (zst 1 (zp (.int (4))))), (96, (zli4 3 1)), (97, (zcv 169 2 12)), (100, (zli4 5 2))]
theorem kX12_cellTold_4 : ∀ q ∈ tX12_cellTold_4, zOk zg iX12_cellTold q.1 q.2 := (z_c (ok_icmp_eq dX12_cellTold_78 (by decide)) (z_c (ok_iload_n dX12_cellTold_81 rfl) (z_c (ok_if_eq dX12_cellTold_82 (by decide)) (z_c (ok_aload_n dX12_cellTold_85 rfl) (z_c (ok_iload dX12_cellTold_86) (z_c (ok_callV zcal_195 (q := (RX12, TX12, 73)) rfl zw_851 zw_852 zw_853 dX12_cellTold_88) (z_c (ok_if_eq dX12_cellTold_91 (by decide)) (z_c (ok_aload_n dX12_cellTold_94 rfl) (z_c (ok_iconst (v := (4)) dX12_cellTold_95 (by decide)) (z_c (ok_iload_n dX12_cellTold_96 rfl) (z_c (ok_callV zcal_169 (q := (RX12, TX12, 73)) rfl zw_767 zw_768 zw_769 dX12_cellTold_97) (z_c (ok_iload dX12_cellTold_100) z_n))))))))))))
noncomputable def tX12_cellTold_5 : List (Nat × zF) := [(102, (zri false))]
theorem kX12_cellTold_5 : ∀ q ∈ tX12_cellTold_5, zOk zg iX12_cellTold q.1 q.2 := (z_c (ok_ireturn rfl dX12_cellTold_102) z_n)
noncomputable def tX12_cellTold : zT := [(18, tX12_cellTold_0), (38, tX12_cellTold_1), (59, tX12_cellTold_2), (78, tX12_cellTold_3), (102, tX12_cellTold_4), (100000, tX12_cellTold_5)]
theorem kX12_cellTold : zTok zg iX12_cellTold tX12_cellTold := (z_t kX12_cellTold_0 (z_t kX12_cellTold_1 (z_t kX12_cellTold_2 (z_t kX12_cellTold_3 (z_t kX12_cellTold_4 (z_t kX12_cellTold_5 z_tn))))))
