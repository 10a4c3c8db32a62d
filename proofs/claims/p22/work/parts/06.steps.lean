theorem dX0_init_0 : decode cX0_init 0 = .ok (.aload_n 0, 1) := by decide +kernel
theorem dX0_init_1 : decode cX0_init 1 = .ok (.invokespecial 3, 3) := by decide +kernel
theorem dX0_init_4 : decode cX0_init 4 = .ok (.aload_n 0, 1) := by decide +kernel
theorem dX0_init_5 : decode cX0_init 5 = .ok (.new 9, 3) := by decide +kernel
theorem dX0_init_8 : decode cX0_init 8 = .ok (.dup, 1) := by decide +kernel
theorem dX0_init_9 : decode cX0_init 9 = .ok (.invokespecial 11, 3) := by decide +kernel
theorem dX0_init_12 : decode cX0_init 12 = .ok (.putfield 12, 3) := by decide +kernel
theorem dX0_init_15 : decode cX0_init 15 = .ok (.aload_n 0, 1) := by decide +kernel
theorem dX0_init_16 : decode cX0_init 16 = .ok (.bipush 49, 2) := by decide +kernel
theorem dX0_init_18 : decode cX0_init 18 = .ok (.newarray .long, 2) := by decide +kernel
theorem dX0_init_20 : decode cX0_init 20 = .ok (.putfield 18, 3) := by decide +kernel
theorem dX0_init_23 : decode cX0_init 23 = .ok (.aload_n 0, 1) := by decide +kernel
theorem dX0_init_24 : decode cX0_init 24 = .ok (.aload_n 1, 1) := by decide +kernel
theorem dX0_init_25 : decode cX0_init 25 = .ok (.putfield 22, 3) := by decide +kernel
theorem dX0_init_28 : decode cX0_init 28 = .ok (.return_, 1) := by decide +kernel
noncomputable def tX0_init_0 : List (Nat × zF) := [(0, (zla4 0 1)), (1, zoi), (4, (zla4 0 1)), (5, (znw 6 zdfX6)), (8, (zst 1 zdu)), (9, (zci 68 0)), (12, (zpf 0 1 (.object "MissingLamps$Reckoner"))), (15, (zla4 0 1)), (16, (zst 2 (zp (.int (49))))), (18, (zna 1 8 zn_long 2)), (20, (zpf 0 2 (.array .long))), (23, (zla4 0 1))]
theorem kX0_init_0 : ∀ q ∈ tX0_init_0, zOk zg iX0_init q.1 q.2 := (z_c (ok_aload_n dX0_init_0 rfl) (z_c (ok_objInit zw_0 zw_1 zw_2 dX0_init_1) (z_c (ok_aload_n dX0_init_4 rfl) (z_c (ok_new (C := RX6) (T := TX6) (N := 7) tyX6 tyX6_ok rfl zinX6 zw_3 zw_4 zw_5 rfl (fun _ _ => rfl) zdfX6_ok dX0_init_5) (z_c (ok_dup dX0_init_8) (z_c (ok_callIN zcal_68 rfl rfl zx_nest_3 zw_6 dX0_init_9) (z_c (ok_putf (C := RX0) (T := TX0) (N := 5) true tyX0 tyX0_ok nmX0 rfl (by decide) zinX0 rfl zw_7 rfl (fun _ => ⟨rfl, rfl⟩) rfl dX0_init_12) (z_c (ok_aload_n dX0_init_15 rfl) (z_c (ok_bipush (v := (49)) dX0_init_16 (by decide)) (z_c (ok_newa (ty := .long) rfl rfl (fun _ h => by cases h) zw_8 rfl zn_long_c zn_long_n dX0_init_18) (z_c (ok_putf (C := RX0) (T := TX0) (N := 5) true tyX0 tyX0_ok nmX0 rfl (by decide) zinX0 rfl zw_9 rfl (fun _ => ⟨rfl, rfl⟩) rfl dX0_init_20) (z_c (ok_aload_n dX0_init_23 rfl) z_n))))))))))))
noncomputable def tX0_init_1 : List (Nat × zF) := [(24, (zla4 1 1)), (25, (zpf 0 0 (.object "MissingLamps$Quay"))), (28, zrv)]
theorem kX0_init_1 : ∀ q ∈ tX0_init_1, zOk zg iX0_init q.1 q.2 := (z_c (ok_aload_n dX0_init_24 rfl) (z_c (ok_putf (C := RX0) (T := TX0) (N := 5) false tyX0 tyX0_ok nmX0 rfl (by decide) zinX0 rfl zw_10 rfl (fun h => absurd h (by decide)) rfl dX0_init_25) (z_c (ok_return rfl dX0_init_28) z_n)))
noncomputable def tX0_init : zT := [(24, tX0_init_0), (100000, tX0_init_1)]
theorem kX0_init : zTok zg iX0_init tX0_init := (z_t kX0_init_0 (z_t kX0_init_1 z_tn))
theorem dX0_moveTo_0 : decode cX0_moveTo 0 = .ok (.aload_n 0, 1) := by decide +kernel
theorem dX0_moveTo_1 : decode cX0_moveTo 1 = .ok (.aload_n 1, 1) := by decide +kernel
theorem dX0_moveTo_2 : decode cX0_moveTo 2 = .ok (.putfield 22, 3) := by decide +kernel
theorem dX0_moveTo_5 : decode cX0_moveTo 5 = .ok (.return_, 1) := by decide +kernel
noncomputable def tX0_moveTo_0 : List (Nat × zF) := [(0, (zla4 0 1)), (1, (zla4 1 1)), (2, (zpf 0 0 (.object "MissingLamps$Quay"))), (5, zrv)]
theorem kX0_moveTo_0 : ∀ q ∈ tX0_moveTo_0, zOk zg iX0_moveTo q.1 q.2 := (z_c (ok_aload_n dX0_moveTo_0 rfl) (z_c (ok_aload_n dX0_moveTo_1 rfl) (z_c (ok_putf (C := RX0) (T := TX0) (N := 5) false tyX0 tyX0_ok nmX0 rfl (by decide) zinX0 rfl zw_10 rfl (fun h => absurd h (by decide)) rfl dX0_moveTo_2) (z_c (ok_return rfl dX0_moveTo_5) z_n))))
noncomputable def tX0_moveTo : zT := [(100000, tX0_moveTo_0)]
theorem kX0_moveTo : zTok zg iX0_moveTo tX0_moveTo := (z_t kX0_moveTo_0 z_tn)
theorem dX0_pass_0 : decode cX0_pass 0 = .ok (.iconst 0, 1) := by decide +kernel
theorem dX0_pass_1 : decode cX0_pass 1 = .ok (.istore 4, 2) := by decide +kernel
theorem dX0_pass_3 : decode cX0_pass 3 = .ok (.iload 4, 2) := by decide +kernel
theorem dX0_pass_5 : decode cX0_pass 5 = .ok (.iload_n 2, 1) := by decide +kernel
theorem dX0_pass_6 : decode cX0_pass 6 = .ok (.if_icmp .ge 73, 3) := by decide +kernel
theorem dX0_pass_9 : decode cX0_pass 9 = .ok (.aload_n 0, 1) := by decide +kernel
theorem dX0_pass_10 : decode cX0_pass 10 = .ok (.aload_n 1, 1) := by decide +kernel
theorem dX0_pass_11 : decode cX0_pass 11 = .ok (.iload_n 3, 1) := by decide +kernel
theorem dX0_pass_12 : decode cX0_pass 12 = .ok (.invokevirtual 26, 3) := by decide +kernel
theorem dX0_pass_15 : decode cX0_pass 15 = .ok (.lstore 5, 2) := by decide +kernel
theorem dX0_pass_17 : decode cX0_pass 17 = .ok (.iconst 0, 1) := by decide +kernel
theorem dX0_pass_18 : decode cX0_pass 18 = .ok (.istore 7, 2) := by decide +kernel
theorem dX0_pass_20 : decode cX0_pass 20 = .ok (.iload 7, 2) := by decide +kernel
theorem dX0_pass_22 : decode cX0_pass 22 = .ok (.aload_n 0, 1) := by decide +kernel
theorem dX0_pass_23 : decode cX0_pass 23 = .ok (.getfield 22, 3) := by decide +kernel
theorem dX0_pass_26 : decode cX0_pass 26 = .ok (.getfield 30, 3) := by decide +kernel
theorem dX0_pass_29 : decode cX0_pass 29 = .ok (.if_icmp .ge 39, 3) := by decide +kernel
theorem dX0_pass_32 : decode cX0_pass 32 = .ok (.aload_n 1, 1) := by decide +kernel
theorem dX0_pass_33 : decode cX0_pass 33 = .ok (.getfield 36, 3) := by decide +kernel
theorem dX0_pass_36 : decode cX0_pass 36 = .ok (.iload 7, 2) := by decide +kernel
theorem dX0_pass_38 : decode cX0_pass 38 = .ok (.aload_n 0, 1) := by decide +kernel
theorem dX0_pass_39 : decode cX0_pass 39 = .ok (.aload_n 1, 1) := by decide +kernel
theorem dX0_pass_40 : decode cX0_pass 40 = .ok (.getfield 36, 3) := by decide +kernel
theorem dX0_pass_43 : decode cX0_pass 43 = .ok (.iload 7, 2) := by decide +kernel
theorem dX0_pass_45 : decode cX0_pass 45 = .ok (.iaload, 1) := by decide +kernel
theorem dX0_pass_46 : decode cX0_pass 46 = .ok (.aload_n 0, 1) := by decide +kernel
theorem dX0_pass_47 : decode cX0_pass 47 = .ok (.getfield 22, 3) := by decide +kernel
theorem dX0_pass_50 : decode cX0_pass 50 = .ok (.getfield 42, 3) := by decide +kernel
theorem dX0_pass_53 : decode cX0_pass 53 = .ok (.iload 7, 2) := by decide +kernel
theorem dX0_pass_55 : decode cX0_pass 55 = .ok (.iaload, 1) := by decide +kernel
theorem dX0_pass_56 : decode cX0_pass 56 = .ok (.lload 5, 2) := by decide +kernel
theorem dX0_pass_58 : decode cX0_pass 58 = .ok (.invokevirtual 45, 3) := by decide +kernel
theorem dX0_pass_61 : decode cX0_pass 61 = .ok (.iastore, 1) := by decide +kernel
theorem dX0_pass_62 : decode cX0_pass 62 = .ok (.iinc 7 1, 3) := by decide +kernel
theorem dX0_pass_65 : decode cX0_pass 65 = .ok (.goto (-45), 3) := by decide +kernel
theorem dX0_pass_68 : decode cX0_pass 68 = .ok (.aload_n 0, 1) := by decide +kernel
theorem dX0_pass_69 : decode cX0_pass 69 = .ok (.aload_n 1, 1) := by decide +kernel
theorem dX0_pass_70 : decode cX0_pass 70 = .ok (.invokevirtual 49, 3) := by decide +kernel
theorem dX0_pass_73 : decode cX0_pass 73 = .ok (.iinc 4 1, 3) := by decide +kernel
theorem dX0_pass_76 : decode cX0_pass 76 = .ok (.goto (-73), 3) := by decide +kernel
theorem dX0_pass_79 : decode cX0_pass 79 = .ok (.return_, 1) := by decide +kernel
noncomputable def tX0_pass_0 : List (Nat × zF) := [(0, (zst 1 (zp (.int (0))))), (1, (zsi4 8 4 2)), (3, (zli4 4 2)), (5, (zli4 2 1)), (6, (z_ic_ge 79)), (9, (zla4 0 1)), (10, (zla4 1 1)), (11, (zli4 3 1)), (12, (zcv 3 2 0)), (15, (zsl4 8 5 2)), (17, (zst 1 (zp (.int (0))))), (18, (zsi4 8 7 2))]
theorem kX0_pass_0 : ∀ q ∈ tX0_pass_0, zOk zg iX0_pass q.1 q.2 := (z_c (ok_iconst (v := (0)) dX0_pass_0 (by decide)) (z_c (ok_istore dX0_pass_1) (z_c (ok_iload dX0_pass_3) (z_c (ok_iload_n dX0_pass_5 rfl) (z_c (ok_icmp_ge dX0_pass_6 (by decide)) (z_c (ok_aload_n dX0_pass_9 rfl) (z_c (ok_aload_n dX0_pass_10 rfl) (z_c (ok_iload_n dX0_pass_11 rfl) (z_c (ok_callV zcal_3 (q := (RX0, TX0, 5)) rfl zw_11 zw_12 zw_13 dX0_pass_12) (z_c (ok_lstore dX0_pass_15) (z_c (ok_iconst (v := (0)) dX0_pass_17 (by decide)) (z_c (ok_istore dX0_pass_18) z_n))))))))))))
noncomputable def tX0_pass_1 : List (Nat × zF) := [(20, (zli4 7 2)), (22, (zla4 0 1)), (23, (zgf 0 0)), (26, (zgf 4 13)), (29, (z_ic_ge 68)), (32, (zla4 1 1)), (33, (zgf 8 3)), (36, (zli4 7 2)), (38, (zla4 0 1)), (39, (zla4 1 1)), (40, (zgf 8 3)), (43, (zli4 7 2))]
theorem kX0_pass_1 : ∀ q ∈ tX0_pass_1, zOk zg iX0_pass q.1 q.2 := (z_c (ok_iload dX0_pass_20) (z_c (ok_aload_n dX0_pass_22 rfl) (z_c (ok_getf (C := RX0) (T := TX0) (N := 5) rfl (by decide) zinX0 rfl zw_10 dX0_pass_23) (z_c (ok_getf (C := RX4) (T := TX4) (N := 18) rfl (by decide) zinX4 rfl zw_14 dX0_pass_26) (z_c (ok_icmp_ge dX0_pass_29 (by decide)) (z_c (ok_aload_n dX0_pass_32 rfl) (z_c (ok_getf (C := RX8) (T := TX8) (N := 6) rfl (by decide) zinX8 rfl zw_15 dX0_pass_33) (z_c (ok_iload dX0_pass_36) (z_c (ok_aload_n dX0_pass_38 rfl) (z_c (ok_aload_n dX0_pass_39 rfl) (z_c (ok_getf (C := RX8) (T := TX8) (N := 6) rfl (by decide) zinX8 rfl zw_15 dX0_pass_40) (z_c (ok_iload dX0_pass_43) z_n))))))))))))
noncomputable def tX0_pass_2 : List (Nat × zF) := [(45, (zal 0)), (46, (zla4 0 1)), (47, (zgf 0 0)), (50, (zgf 4 16)), (53, (zli4 7 2)), (55, (zal 0)), (56, (zll4 5 2)), (58, (zcv 9 3 0)), (61, (zas 0)), (62, (zin4 8 7 (1))), (65, (zgt 20)), (68, (zla4 0 1))]
theorem kX0_pass_2 : ∀ q ∈ tX0_pass_2, zOk zg iX0_pass q.1 q.2 := (z_c (ok_iaload rfl dX0_pass_45) (z_c (ok_aload_n dX0_pass_46 rfl) (z_c (ok_getf (C := RX0) (T := TX0) (N := 5) rfl (by decide) zinX0 rfl zw_10 dX0_pass_47) (z_c (ok_getf (C := RX4) (T := TX4) (N := 18) rfl (by decide) zinX4 rfl zw_16 dX0_pass_50) (z_c (ok_iload dX0_pass_53) (z_c (ok_iaload rfl dX0_pass_55) (z_c (ok_lload dX0_pass_56) (z_c (ok_callV zcal_9 (q := (RX0, TX0, 5)) rfl zw_17 zw_18 zw_19 dX0_pass_58) (z_c (ok_iastore rfl dX0_pass_61) (z_c (ok_iinc (v := (1)) dX0_pass_62 (by decide)) (z_c (ok_goto dX0_pass_65 (by decide)) (z_c (ok_aload_n dX0_pass_68 rfl) z_n))))))))))))
noncomputable def tX0_pass_3 : List (Nat × zF) := [(69, (zla4 1 1)), (70, (zcv 11 1 0)), (73, (zin4 8 4 (1))), (76, (zgt 3)), (79, zrv)]
theorem kX0_pass_3 : ∀ q ∈ tX0_pass_3, zOk zg iX0_pass q.1 q.2 := (z_c (ok_aload_n dX0_pass_69 rfl) (z_c (ok_callV zcal_11 (q := (RX0, TX0, 5)) rfl zw_20 zw_21 zw_22 dX0_pass_70) (z_c (ok_iinc (v := (1)) dX0_pass_73 (by decide)) (z_c (ok_goto dX0_pass_76 (by decide)) (z_c (ok_return rfl dX0_pass_79) z_n)))))
noncomputable def tX0_pass : zT := [(20, tX0_pass_0), (45, tX0_pass_1), (69, tX0_pass_2), (100000, tX0_pass_3)]
theorem kX0_pass : zTok zg iX0_pass tX0_pass := (z_t kX0_pass_0 (z_t kX0_pass_1 (z_t kX0_pass_2 (z_t kX0_pass_3 z_tn))))
theorem dX0_lit_0 : decode cX0_lit 0 = .ok (.lconst 0, 1) := by decide +kernel
theorem dX0_lit_1 : decode cX0_lit 1 = .ok (.lstore_n 3, 1) := by decide +kernel
theorem dX0_lit_2 : decode cX0_lit 2 = .ok (.iconst 0, 1) := by decide +kernel
theorem dX0_lit_3 : decode cX0_lit 3 = .ok (.istore 5, 2) := by decide +kernel
theorem dX0_lit_5 : decode cX0_lit 5 = .ok (.iload 5, 2) := by decide +kernel
theorem dX0_lit_7 : decode cX0_lit 7 = .ok (.aload_n 0, 1) := by decide +kernel
theorem dX0_lit_8 : decode cX0_lit 8 = .ok (.getfield 22, 3) := by decide +kernel
theorem dX0_lit_11 : decode cX0_lit 11 = .ok (.getfield 53, 3) := by decide +kernel
theorem dX0_lit_14 : decode cX0_lit 14 = .ok (.if_icmp .ge 48, 3) := by decide +kernel
theorem dX0_lit_17 : decode cX0_lit 17 = .ok (.iload 5, 2) := by decide +kernel
theorem dX0_lit_19 : decode cX0_lit 19 = .ok (.iload_n 2, 1) := by decide +kernel
theorem dX0_lit_20 : decode cX0_lit 20 = .ok (.if_icmp .eq 36, 3) := by decide +kernel
theorem dX0_lit_23 : decode cX0_lit 23 = .ok (.aload_n 1, 1) := by decide +kernel
theorem dX0_lit_24 : decode cX0_lit 24 = .ok (.iload 5, 2) := by decide +kernel
theorem dX0_lit_26 : decode cX0_lit 26 = .ok (.invokevirtual 56, 3) := by decide +kernel
theorem dX0_lit_29 : decode cX0_lit 29 = .ok (.ifCond .eq 27, 3) := by decide +kernel
theorem dX0_lit_32 : decode cX0_lit 32 = .ok (.lload_n 3, 1) := by decide +kernel
theorem dX0_lit_33 : decode cX0_lit 33 = .ok (.aload_n 0, 1) := by decide +kernel
theorem dX0_lit_34 : decode cX0_lit 34 = .ok (.aload_n 0, 1) := by decide +kernel
theorem dX0_lit_35 : decode cX0_lit 35 = .ok (.getfield 22, 3) := by decide +kernel
theorem dX0_lit_38 : decode cX0_lit 38 = .ok (.getfield 60, 3) := by decide +kernel
theorem dX0_lit_41 : decode cX0_lit 41 = .ok (.iload 5, 2) := by decide +kernel
theorem dX0_lit_43 : decode cX0_lit 43 = .ok (.iaload, 1) := by decide +kernel
theorem dX0_lit_44 : decode cX0_lit 44 = .ok (.aload_n 0, 1) := by decide +kernel
theorem dX0_lit_45 : decode cX0_lit 45 = .ok (.aload_n 1, 1) := by decide +kernel
theorem dX0_lit_46 : decode cX0_lit 46 = .ok (.iload 5, 2) := by decide +kernel
theorem dX0_lit_48 : decode cX0_lit 48 = .ok (.invokevirtual 63, 3) := by decide +kernel
theorem dX0_lit_51 : decode cX0_lit 51 = .ok (.invokevirtual 67, 3) := by decide +kernel
theorem dX0_lit_54 : decode cX0_lit 54 = .ok (.lor, 1) := by decide +kernel
theorem dX0_lit_55 : decode cX0_lit 55 = .ok (.lstore_n 3, 1) := by decide +kernel
theorem dX0_lit_56 : decode cX0_lit 56 = .ok (.iinc 5 1, 3) := by decide +kernel
theorem dX0_lit_59 : decode cX0_lit 59 = .ok (.goto (-54), 3) := by decide +kernel
theorem dX0_lit_62 : decode cX0_lit 62 = .ok (.lload_n 3, 1) := by decide +kernel
theorem dX0_lit_63 : decode cX0_lit 63 = .ok (.lreturn, 1) := by decide +kernel
noncomputable def tX0_lit_0 : List (Nat × zF) := [(0, (zst 1 (zp (.long (0))))), (1, (zsl4 6 3 1)), (2, (zst 1 (zp (.int (0))))), (3, (zsi4 6 5 2)), (5, (zli4 5 2)), (7, (zla4 0 1)), (8, (zgf 0 0)), (11, (zgf 4 7)), (14, (z_ic_ge 62)), (17, (zli4 5 2)), (19, (zli4 2 1)), (20, (z_ic_eq 56))]
theorem kX0_lit_0 : ∀ q ∈ tX0_lit_0, zOk zg iX0_lit q.1 q.2 := (z_c (ok_lconst (v := (0)) dX0_lit_0 (by decide)) (z_c (ok_lstore_n dX0_lit_1 rfl) (z_c (ok_iconst (v := (0)) dX0_lit_2 (by decide)) (z_c (ok_istore dX0_lit_3) (z_c (ok_iload dX0_lit_5) (z_c (ok_aload_n dX0_lit_7 rfl) (z_c (ok_getf (C := RX0) (T := TX0) (N := 5) rfl (by decide) zinX0 rfl zw_10 dX0_lit_8) (z_c (ok_getf (C := RX4) (T := TX4) (N := 18) rfl (by decide) zinX4 rfl zw_23 dX0_lit_11) (z_c (ok_icmp_ge dX0_lit_14 (by decide)) (z_c (ok_iload dX0_lit_17) (z_c (ok_iload_n dX0_lit_19 rfl) (z_c (ok_icmp_eq dX0_lit_20 (by decide)) z_n))))))))))))
noncomputable def tX0_lit_1 : List (Nat × zF) := [(23, (zla4 1 1)), (24, (zli4 5 2)), (26, (zcv 81 1 8)), (29, (z_if_eq 56)), (32, (zll4 3 1)), (33, (zla4 0 1)), (34, (zla4 0 1)), (35, (zgf 0 0)), (38, (zgf 4 9)), (41, (zli4 5 2)), (43, (zal 0)), (44, (zla4 0 1))]
theorem kX0_lit_1 : ∀ q ∈ tX0_lit_1, zOk zg iX0_lit q.1 q.2 := (z_c (ok_aload_n dX0_lit_23 rfl) (z_c (ok_iload dX0_lit_24) (z_c (ok_callV zcal_81 (q := (RX8, TX8, 6)) rfl zw_24 zw_25 zw_26 dX0_lit_26) (z_c (ok_if_eq dX0_lit_29 (by decide)) (z_c (ok_lload_n dX0_lit_32 rfl) (z_c (ok_aload_n dX0_lit_33 rfl) (z_c (ok_aload_n dX0_lit_34 rfl) (z_c (ok_getf (C := RX0) (T := TX0) (N := 5) rfl (by decide) zinX0 rfl zw_10 dX0_lit_35) (z_c (ok_getf (C := RX4) (T := TX4) (N := 18) rfl (by decide) zinX4 rfl zw_27 dX0_lit_38) (z_c (ok_iload dX0_lit_41) (z_c (ok_iaload rfl dX0_lit_43) (z_c (ok_aload_n dX0_lit_44 rfl) z_n))))))))))))
noncomputable def tX0_lit_2 : List (Nat × zF) := [(45, (zla4 1 1)), (46, (zli4 5 2)), (48, (zcv 4 2 0)), (51, (zcv 5 2 0)), (54, (zst 1 z_lor)), (55, (zsl4 6 3 1)), (56, (zin4 6 5 (1))), (59, (zgt 5)), (62, (zll4 3 1)), (63, zrl)]
theorem kX0_lit_2 : ∀ q ∈ tX0_lit_2, zOk zg iX0_lit q.1 q.2 := (z_c (ok_aload_n dX0_lit_45 rfl) (z_c (ok_iload dX0_lit_46) (z_c (ok_callV zcal_4 (q := (RX0, TX0, 5)) rfl zw_28 zw_29 zw_30 dX0_lit_48) (z_c (ok_callV zcal_5 (q := (RX0, TX0, 5)) rfl zw_31 zw_32 zw_33 dX0_lit_51) (z_c (ok_lor dX0_lit_54) (z_c (ok_lstore_n dX0_lit_55 rfl) (z_c (ok_iinc (v := (1)) dX0_lit_56 (by decide)) (z_c (ok_goto dX0_lit_59 (by decide)) (z_c (ok_lload_n dX0_lit_62 rfl) (z_c (ok_lreturn rfl dX0_lit_63) z_n))))))))))
noncomputable def tX0_lit : zT := [(23, tX0_lit_0), (45, tX0_lit_1), (100000, tX0_lit_2)]
theorem kX0_lit : zTok zg iX0_lit tX0_lit := (z_t kX0_lit_0 (z_t kX0_lit_1 (z_t kX0_lit_2 z_tn)))
theorem dX0_glow_0 : decode cX0_glow 0 = .ok (.aload_n 0, 1) := by decide +kernel
theorem dX0_glow_1 : decode cX0_glow 1 = .ok (.getfield 22, 3) := by decide +kernel
theorem dX0_glow_4 : decode cX0_glow 4 = .ok (.getfield 71, 3) := by decide +kernel
theorem dX0_glow_7 : decode cX0_glow 7 = .ok (.iconst 0, 1) := by decide +kernel
theorem dX0_glow_8 : decode cX0_glow 8 = .ok (.invokevirtual 75, 3) := by decide +kernel
theorem dX0_glow_11 : decode cX0_glow 11 = .ok (.ifCond .ne 10, 3) := by decide +kernel
theorem dX0_glow_14 : decode cX0_glow 14 = .ok (.aload_n 0, 1) := by decide +kernel
theorem dX0_glow_15 : decode cX0_glow 15 = .ok (.aload_n 1, 1) := by decide +kernel
theorem dX0_glow_16 : decode cX0_glow 16 = .ok (.iload_n 2, 1) := by decide +kernel
theorem dX0_glow_17 : decode cX0_glow 17 = .ok (.invokevirtual 80, 3) := by decide +kernel
theorem dX0_glow_20 : decode cX0_glow 20 = .ok (.ireturn, 1) := by decide +kernel
theorem dX0_glow_21 : decode cX0_glow 21 = .ok (.aload_n 0, 1) := by decide +kernel
theorem dX0_glow_22 : decode cX0_glow 22 = .ok (.aload_n 1, 1) := by decide +kernel
theorem dX0_glow_23 : decode cX0_glow 23 = .ok (.iload_n 2, 1) := by decide +kernel
theorem dX0_glow_24 : decode cX0_glow 24 = .ok (.invokevirtual 83, 3) := by decide +kernel
theorem dX0_glow_27 : decode cX0_glow 27 = .ok (.iconst 0, 1) := by decide +kernel
theorem dX0_glow_28 : decode cX0_glow 28 = .ok (.bipush 9, 2) := by decide +kernel
theorem dX0_glow_30 : decode cX0_glow 30 = .ok (.aload_n 0, 1) := by decide +kernel
theorem dX0_glow_31 : decode cX0_glow 31 = .ok (.getfield 12, 3) := by decide +kernel
theorem dX0_glow_34 : decode cX0_glow 34 = .ok (.aload_n 0, 1) := by decide +kernel
theorem dX0_glow_35 : decode cX0_glow 35 = .ok (.getfield 22, 3) := by decide +kernel
theorem dX0_glow_38 : decode cX0_glow 38 = .ok (.getfield 71, 3) := by decide +kernel
theorem dX0_glow_41 : decode cX0_glow 41 = .ok (.iconst 0, 1) := by decide +kernel
theorem dX0_glow_42 : decode cX0_glow 42 = .ok (.invokevirtual 87, 3) := by decide +kernel
theorem dX0_glow_45 : decode cX0_glow 45 = .ok (.invokestatic 91, 3) := by decide +kernel
theorem dX0_glow_48 : decode cX0_glow 48 = .ok (.invokestatic 97, 3) := by decide +kernel
theorem dX0_glow_51 : decode cX0_glow 51 = .ok (.ireturn, 1) := by decide +kernel
noncomputable def tX0_glow_0 : List (Nat × zF) := [(0, (zla4 0 1)), (1, (zgf 0 0)), (4, (zgf 4 17)), (7, (zst 1 (zp (.int (0))))), (8, (zcv 75 1 7)), (11, (z_if_ne 21)), (14, (zla4 0 1)), (15, (zla4 1 1)), (16, (zli4 2 1)), (17, (zcv 15 2 0)), (20, (zri false)), (21, (zla4 0 1))]
theorem kX0_glow_0 : ∀ q ∈ tX0_glow_0, zOk zg iX0_glow q.1 q.2 := (z_c (ok_aload_n dX0_glow_0 rfl) (z_c (ok_getf (C := RX0) (T := TX0) (N := 5) rfl (by decide) zinX0 rfl zw_10 dX0_glow_1) (z_c (ok_getf (C := RX4) (T := TX4) (N := 18) rfl (by decide) zinX4 rfl zw_34 dX0_glow_4) (z_c (ok_iconst (v := (0)) dX0_glow_7 (by decide)) (z_c (ok_callV zcal_75 (q := (RX7, TX7, 4)) rfl zw_35 zw_36 zw_37 dX0_glow_8) (z_c (ok_if_ne dX0_glow_11 (by decide)) (z_c (ok_aload_n dX0_glow_14 rfl) (z_c (ok_aload_n dX0_glow_15 rfl) (z_c (ok_iload_n dX0_glow_16 rfl) (z_c (ok_callV zcal_15 (q := (RX0, TX0, 5)) rfl zw_38 zw_39 zw_40 dX0_glow_17) (z_c (ok_ireturn rfl dX0_glow_20) (z_c (ok_aload_n dX0_glow_21 rfl) z_n))))))))))))
noncomputable def tX0_glow_1 : List (Nat × zF) := [(22, (zla4 1 1)), (23, (zli4 2 1)), (24, (zcv 14 2 0)), (27, (zst 1 (zp (.int (0))))), (28, (zst 2 (zp (.int (9))))), (30, (zla4 0 1)), (31, (zgf 0 1)), (34, (zla4 0 1)), (35, (zgf 0 0)), (38, (zgf 4 17)), (41, (zst 1 (zp (.int (0))))), (42, (zcv 69 2 6))]
theorem kX0_glow_1 : ∀ q ∈ tX0_glow_1, zOk zg iX0_glow q.1 q.2 := (z_c (ok_aload_n dX0_glow_22 rfl) (z_c (ok_iload_n dX0_glow_23 rfl) (z_c (ok_callV zcal_14 (q := (RX0, TX0, 5)) rfl zw_41 zw_42 zw_43 dX0_glow_24) (z_c (ok_iconst (v := (0)) dX0_glow_27 (by decide)) (z_c (ok_bipush (v := (9)) dX0_glow_28 (by decide)) (z_c (ok_aload_n dX0_glow_30 rfl) (z_c (ok_getf (C := RX0) (T := TX0) (N := 5) rfl (by decide) zinX0 rfl zw_7 dX0_glow_31) (z_c (ok_aload_n dX0_glow_34 rfl) (z_c (ok_getf (C := RX0) (T := TX0) (N := 5) rfl (by decide) zinX0 rfl zw_10 dX0_glow_35) (z_c (ok_getf (C := RX4) (T := TX4) (N := 18) rfl (by decide) zinX4 rfl zw_34 dX0_glow_38) (z_c (ok_iconst (v := (0)) dX0_glow_41 (by decide)) (z_c (ok_callV zcal_69 (q := (RX6, TX6, 7)) rfl zw_44 zw_45 zw_46 dX0_glow_42) z_n))))))))))))
noncomputable def tX0_glow_2 : List (Nat × zF) := [(45, zmmin), (48, zmmax), (51, (zri false))]
theorem kX0_glow_2 : ∀ q ∈ tX0_glow_2, zOk zg iX0_glow q.1 q.2 := (z_c (ok_mmin zw_47 zw_48 zw_49 zw_50 dX0_glow_45) (z_c (ok_mmax zw_51 zw_52 zw_49 zw_53 dX0_glow_48) (z_c (ok_ireturn rfl dX0_glow_51) z_n)))
noncomputable def tX0_glow : zT := [(22, tX0_glow_0), (45, tX0_glow_1), (100000, tX0_glow_2)]
theorem kX0_glow : zTok zg iX0_glow tX0_glow := (z_t kX0_glow_0 (z_t kX0_glow_1 (z_t kX0_glow_2 z_tn)))
theorem dX0_light_0 : decode cX0_light 0 = .ok (.iload_n 1, 1) := by decide +kernel
theorem dX0_light_1 : decode cX0_light 1 = .ok (.invokestatic 100, 3) := by decide +kernel
theorem dX0_light_4 : decode cX0_light 4 = .ok (.lstore_n 3, 1) := by decide +kernel
theorem dX0_light_5 : decode cX0_light 5 = .ok (.iconst 0, 1) := by decide +kernel
theorem dX0_light_6 : decode cX0_light 6 = .ok (.istore 5, 2) := by decide +kernel
theorem dX0_light_8 : decode cX0_light 8 = .ok (.iload 5, 2) := by decide +kernel
theorem dX0_light_10 : decode cX0_light 10 = .ok (.iload_n 2, 1) := by decide +kernel
theorem dX0_light_11 : decode cX0_light 11 = .ok (.if_icmp .ge 24, 3) := by decide +kernel
theorem dX0_light_14 : decode cX0_light 14 = .ok (.lload_n 3, 1) := by decide +kernel
theorem dX0_light_15 : decode cX0_light 15 = .ok (.lload_n 3, 1) := by decide +kernel
theorem dX0_light_16 : decode cX0_light 16 = .ok (.invokestatic 104, 3) := by decide +kernel
theorem dX0_light_19 : decode cX0_light 19 = .ok (.aload_n 0, 1) := by decide +kernel
theorem dX0_light_20 : decode cX0_light 20 = .ok (.getfield 22, 3) := by decide +kernel
theorem dX0_light_23 : decode cX0_light 23 = .ok (.getfield 108, 3) := by decide +kernel
theorem dX0_light_26 : decode cX0_light 26 = .ok (.land, 1) := by decide +kernel
theorem dX0_light_27 : decode cX0_light 27 = .ok (.lor, 1) := by decide +kernel
theorem dX0_light_28 : decode cX0_light 28 = .ok (.lstore_n 3, 1) := by decide +kernel
theorem dX0_light_29 : decode cX0_light 29 = .ok (.iinc 5 1, 3) := by decide +kernel
theorem dX0_light_32 : decode cX0_light 32 = .ok (.goto (-24), 3) := by decide +kernel
theorem dX0_light_35 : decode cX0_light 35 = .ok (.lload_n 3, 1) := by decide +kernel
theorem dX0_light_36 : decode cX0_light 36 = .ok (.aload_n 0, 1) := by decide +kernel
theorem dX0_light_37 : decode cX0_light 37 = .ok (.getfield 22, 3) := by decide +kernel
theorem dX0_light_40 : decode cX0_light 40 = .ok (.getfield 112, 3) := by decide +kernel
theorem dX0_light_43 : decode cX0_light 43 = .ok (.ldc2_w 115, 3) := by decide +kernel
theorem dX0_light_46 : decode cX0_light 46 = .ok (.lxor, 1) := by decide +kernel
theorem dX0_light_47 : decode cX0_light 47 = .ok (.land, 1) := by decide +kernel
theorem dX0_light_48 : decode cX0_light 48 = .ok (.lreturn, 1) := by decide +kernel
noncomputable def tX0_light_0 : List (Nat × zF) := [(0, (zli4 1 1)), (1, (zcs 163 1)), (4, (zsl4 6 3 1)), (5, (zst 1 (zp (.int (0))))), (6, (zsi4 6 5 2)), (8, (zli4 5 2)), (10, (zli4 2 1)), (11, (z_ic_ge 35)), (14, (zll4 3 1)), (15, (zll4 3 1)), (16, (zcs 6 1)), (19, (zla4 0 1))]
theorem kX0_light_0 : ∀ q ∈ tX0_light_0, zOk zg iX0_light q.1 q.2 := (z_c (ok_iload_n dX0_light_0 rfl) (z_c (ok_callSN zcal_163 zx_nest_4 zw_54 dX0_light_1) (z_c (ok_lstore_n dX0_light_4 rfl) (z_c (ok_iconst (v := (0)) dX0_light_5 (by decide)) (z_c (ok_istore dX0_light_6) (z_c (ok_iload dX0_light_8) (z_c (ok_iload_n dX0_light_10 rfl) (z_c (ok_icmp_ge dX0_light_11 (by decide)) (z_c (ok_lload_n dX0_light_14 rfl) (z_c (ok_lload_n dX0_light_15 rfl) (z_c (ok_callS zcal_6 zw_55 zw_56 dX0_light_16) (z_c (ok_aload_n dX0_light_19 rfl) z_n))))))))))))
noncomputable def tX0_light_1 : List (Nat × zF) := [(20, (zgf 0 0)), (23, (zgf 4 5)), (26, (zst 1 z_land)), (27, (zst 1 z_lor)), (28, (zsl4 6 3 1)), (29, (zin4 6 5 (1))), (32, (zgt 8)), (35, (zll4 3 1)), (36, (zla4 0 1)), (37, (zgf 0 0)), (40, (zgf 4 6)), (43, (zst 3 (zp (.long (-1)))))]
theorem kX0_light_1 : ∀ q ∈ tX0_light_1, zOk zg iX0_light q.1 q.2 := (z_c (ok_getf (C := RX0) (T := TX0) (N := 5) rfl (by decide) zinX0 rfl zw_10 dX0_light_20) (z_c (ok_getf (C := RX4) (T := TX4) (N := 18) rfl (by decide) zinX4 rfl zw_57 dX0_light_23) (z_c (ok_land dX0_light_26) (z_c (ok_lor dX0_light_27) (z_c (ok_lstore_n dX0_light_28 rfl) (z_c (ok_iinc (v := (1)) dX0_light_29 (by decide)) (z_c (ok_goto dX0_light_32 (by decide)) (z_c (ok_lload_n dX0_light_35 rfl) (z_c (ok_aload_n dX0_light_36 rfl) (z_c (ok_getf (C := RX0) (T := TX0) (N := 5) rfl (by decide) zinX0 rfl zw_10 dX0_light_37) (z_c (ok_getf (C := RX4) (T := TX4) (N := 18) rfl (by decide) zinX4 rfl zw_58 dX0_light_40) (z_c (ok_ldc2 (v := (-1)) zw_59 dX0_light_43) z_n))))))))))))
noncomputable def tX0_light_2 : List (Nat × zF) := [(46, (zst 1 z_lxor)), (47, (zst 1 z_land)), (48, zrl)]
theorem kX0_light_2 : ∀ q ∈ tX0_light_2, zOk zg iX0_light q.1 q.2 := (z_c (ok_lxor dX0_light_46) (z_c (ok_land dX0_light_47) (z_c (ok_lreturn rfl dX0_light_48) z_n)))
noncomputable def tX0_light : zT := [(20, tX0_light_0), (46, tX0_light_1), (100000, tX0_light_2)]
theorem kX0_light : zTok zg iX0_light tX0_light := (z_t kX0_light_0 (z_t kX0_light_1 (z_t kX0_light_2 z_tn)))
theorem dX0_nextTo_0 : decode cX0_nextTo 0 = .ok (.lload_n 0, 1) := by decide +kernel
theorem dX0_nextTo_1 : decode cX0_nextTo 1 = .ok (.iconst 1, 1) := by decide +kernel
theorem dX0_nextTo_2 : decode cX0_nextTo 2 = .ok (.lshl, 1) := by decide +kernel
theorem dX0_nextTo_3 : decode cX0_nextTo 3 = .ok (.lload_n 0, 1) := by decide +kernel
theorem dX0_nextTo_4 : decode cX0_nextTo 4 = .ok (.iconst 1, 1) := by decide +kernel
theorem dX0_nextTo_5 : decode cX0_nextTo 5 = .ok (.lushr, 1) := by decide +kernel
theorem dX0_nextTo_6 : decode cX0_nextTo 6 = .ok (.lor, 1) := by decide +kernel
theorem dX0_nextTo_7 : decode cX0_nextTo 7 = .ok (.lload_n 0, 1) := by decide +kernel
theorem dX0_nextTo_8 : decode cX0_nextTo 8 = .ok (.bipush 8, 2) := by decide +kernel
theorem dX0_nextTo_10 : decode cX0_nextTo 10 = .ok (.lshl, 1) := by decide +kernel
theorem dX0_nextTo_11 : decode cX0_nextTo 11 = .ok (.lor, 1) := by decide +kernel
theorem dX0_nextTo_12 : decode cX0_nextTo 12 = .ok (.lload_n 0, 1) := by decide +kernel
theorem dX0_nextTo_13 : decode cX0_nextTo 13 = .ok (.bipush 8, 2) := by decide +kernel
theorem dX0_nextTo_15 : decode cX0_nextTo 15 = .ok (.lushr, 1) := by decide +kernel
theorem dX0_nextTo_16 : decode cX0_nextTo 16 = .ok (.lor, 1) := by decide +kernel
theorem dX0_nextTo_17 : decode cX0_nextTo 17 = .ok (.lreturn, 1) := by decide +kernel
noncomputable def tX0_nextTo_0 : List (Nat × zF) := [(0, (zll4 0 1)), (1, (zst 1 (zp (.int (1))))), (2, (zst 1 z_lshl)), (3, (zll4 0 1)), (4, (zst 1 (zp (.int (1))))), (5, (zst 1 z_lushr)), (6, (zst 1 z_lor)), (7, (zll4 0 1)), (8, (zst 2 (zp (.int (8))))), (10, (zst 1 z_lshl)), (11, (zst 1 z_lor)), (12, (zll4 0 1))]
theorem kX0_nextTo_0 : ∀ q ∈ tX0_nextTo_0, zOk zg iX0_nextTo q.1 q.2 := (z_c (ok_lload_n dX0_nextTo_0 rfl) (z_c (ok_iconst (v := (1)) dX0_nextTo_1 (by decide)) (z_c (ok_lshl dX0_nextTo_2) (z_c (ok_lload_n dX0_nextTo_3 rfl) (z_c (ok_iconst (v := (1)) dX0_nextTo_4 (by decide)) (z_c (ok_lushr dX0_nextTo_5) (z_c (ok_lor dX0_nextTo_6) (z_c (ok_lload_n dX0_nextTo_7 rfl) (z_c (ok_bipush (v := (8)) dX0_nextTo_8 (by decide)) (z_c (ok_lshl dX0_nextTo_10) (z_c (ok_lor dX0_nextTo_11) (z_c (ok_lload_n dX0_nextTo_12 rfl) z_n))))))))))))
noncomputable def tX0_nextTo_1 : List (Nat × zF) := [(13, (zst 2 (zp (.int (8))))), (15, (zst 1 z_lushr)), (16, (zst 1 z_lor)), (17, zrl)]
theorem kX0_nextTo_1 : ∀ q ∈ tX0_nextTo_1, zOk zg iX0_nextTo q.1 q.2 := (z_c (ok_bipush (v := (8)) dX0_nextTo_13 (by decide)) (z_c (ok_lushr dX0_nextTo_15) (z_c (ok_lor dX0_nextTo_16) (z_c (ok_lreturn rfl dX0_nextTo_17) z_n))))
noncomputable def tX0_nextTo : zT := [(13, tX0_nextTo_0), (100000, tX0_nextTo_1)]
theorem kX0_nextTo : zTok zg iX0_nextTo tX0_nextTo := (z_t kX0_nextTo_0 (z_t kX0_nextTo_1 z_tn))
theorem dX0_countLanterns_0 : decode cX0_countLanterns 0 = .ok (.iconst 0, 1) := by decide +kernel
theorem dX0_countLanterns_1 : decode cX0_countLanterns 1 = .ok (.istore 4, 2) := by decide +kernel
theorem dX0_countLanterns_3 : decode cX0_countLanterns 3 = .ok (.iconst 0, 1) := by decide +kernel
theorem dX0_countLanterns_4 : decode cX0_countLanterns 4 = .ok (.istore 5, 2) := by decide +kernel
theorem dX0_countLanterns_6 : decode cX0_countLanterns 6 = .ok (.iload 5, 2) := by decide +kernel
theorem dX0_countLanterns_8 : decode cX0_countLanterns 8 = .ok (.aload_n 0, 1) := by decide +kernel
theorem dX0_countLanterns_9 : decode cX0_countLanterns 9 = .ok (.getfield 22, 3) := by decide +kernel
theorem dX0_countLanterns_12 : decode cX0_countLanterns 12 = .ok (.getfield 53, 3) := by decide +kernel
theorem dX0_countLanterns_15 : decode cX0_countLanterns 15 = .ok (.if_icmp .ge 49, 3) := by decide +kernel
theorem dX0_countLanterns_18 : decode cX0_countLanterns 18 = .ok (.aload_n 1, 1) := by decide +kernel
theorem dX0_countLanterns_19 : decode cX0_countLanterns 19 = .ok (.iload 5, 2) := by decide +kernel
theorem dX0_countLanterns_21 : decode cX0_countLanterns 21 = .ok (.invokevirtual 56, 3) := by decide +kernel
theorem dX0_countLanterns_24 : decode cX0_countLanterns 24 = .ok (.ifCond .eq 34, 3) := by decide +kernel
theorem dX0_countLanterns_27 : decode cX0_countLanterns 27 = .ok (.aload_n 0, 1) := by decide +kernel
theorem dX0_countLanterns_28 : decode cX0_countLanterns 28 = .ok (.aload_n 0, 1) := by decide +kernel
theorem dX0_countLanterns_29 : decode cX0_countLanterns 29 = .ok (.getfield 22, 3) := by decide +kernel
theorem dX0_countLanterns_32 : decode cX0_countLanterns 32 = .ok (.getfield 60, 3) := by decide +kernel
theorem dX0_countLanterns_35 : decode cX0_countLanterns 35 = .ok (.iload 5, 2) := by decide +kernel
theorem dX0_countLanterns_37 : decode cX0_countLanterns 37 = .ok (.iaload, 1) := by decide +kernel
theorem dX0_countLanterns_38 : decode cX0_countLanterns 38 = .ok (.aload_n 0, 1) := by decide +kernel
theorem dX0_countLanterns_39 : decode cX0_countLanterns 39 = .ok (.aload_n 1, 1) := by decide +kernel
theorem dX0_countLanterns_40 : decode cX0_countLanterns 40 = .ok (.iload 5, 2) := by decide +kernel
theorem dX0_countLanterns_42 : decode cX0_countLanterns 42 = .ok (.invokevirtual 63, 3) := by decide +kernel
theorem dX0_countLanterns_45 : decode cX0_countLanterns 45 = .ok (.invokevirtual 67, 3) := by decide +kernel
theorem dX0_countLanterns_48 : decode cX0_countLanterns 48 = .ok (.lload_n 2, 1) := by decide +kernel
theorem dX0_countLanterns_49 : decode cX0_countLanterns 49 = .ok (.land, 1) := by decide +kernel
theorem dX0_countLanterns_50 : decode cX0_countLanterns 50 = .ok (.lconst 0, 1) := by decide +kernel
theorem dX0_countLanterns_51 : decode cX0_countLanterns 51 = .ok (.lcmp, 1) := by decide +kernel
theorem dX0_countLanterns_52 : decode cX0_countLanterns 52 = .ok (.ifCond .eq 6, 3) := by decide +kernel
theorem dX0_countLanterns_55 : decode cX0_countLanterns 55 = .ok (.iinc 4 1, 3) := by decide +kernel
theorem dX0_countLanterns_58 : decode cX0_countLanterns 58 = .ok (.iinc 5 1, 3) := by decide +kernel
theorem dX0_countLanterns_61 : decode cX0_countLanterns 61 = .ok (.goto (-55), 3) := by decide +kernel
theorem dX0_countLanterns_64 : decode cX0_countLanterns 64 = .ok (.iload 4, 2) := by decide +kernel
theorem dX0_countLanterns_66 : decode cX0_countLanterns 66 = .ok (.ireturn, 1) := by decide +kernel
noncomputable def tX0_countLanterns_0 : List (Nat × zF) := [(0, (zst 1 (zp (.int (0))))), (1, (zsi4 6 4 2)), (3, (zst 1 (zp (.int (0))))), (4, (zsi4 6 5 2)), (6, (zli4 5 2)), (8, (zla4 0 1)), (9, (zgf 0 0)), (12, (zgf 4 7)), (15, (z_ic_ge 64)), (18, (zla4 1 1)), (19, (zli4 5 2)), (21, (zcv 81 1 8))]
theorem kX0_countLanterns_0 : ∀ q ∈ tX0_countLanterns_0, zOk zg iX0_countLanterns q.1 q.2 := (z_c (ok_iconst (v := (0)) dX0_countLanterns_0 (by decide)) (z_c (ok_istore dX0_countLanterns_1) (z_c (ok_iconst (v := (0)) dX0_countLanterns_3 (by decide)) (z_c (ok_istore dX0_countLanterns_4) (z_c (ok_iload dX0_countLanterns_6) (z_c (ok_aload_n dX0_countLanterns_8 rfl) (z_c (ok_getf (C := RX0) (T := TX0) (N := 5) rfl (by decide) zinX0 rfl zw_10 dX0_countLanterns_9) (z_c (ok_getf (C := RX4) (T := TX4) (N := 18) rfl (by decide) zinX4 rfl zw_23 dX0_countLanterns_12) (z_c (ok_icmp_ge dX0_countLanterns_15 (by decide)) (z_c (ok_aload_n dX0_countLanterns_18 rfl) (z_c (ok_iload dX0_countLanterns_19) (z_c (ok_callV zcal_81 (q := (RX8, TX8, 6)) rfl zw_24 zw_25 zw_26 dX0_countLanterns_21) z_n))))))))))))
noncomputable def tX0_countLanterns_1 : List (Nat × zF) := [(24, (z_if_eq 58)), (27, (zla4 0 1)), (28, (zla4 0 1)), (29, (zgf 0 0)), (32, (zgf 4 9)), (35, (zli4 5 2)), (37, (zal 0)), (38, (zla4 0 1)), (39, (zla4 1 1)), (40, (zli4 5 2)), (42, (zcv 4 2 0)), (45, (zcv 5 2 0))]
theorem kX0_countLanterns_1 : ∀ q ∈ tX0_countLanterns_1, zOk zg iX0_countLanterns q.1 q.2 := (z_c (ok_if_eq dX0_countLanterns_24 (by decide)) (z_c (ok_aload_n dX0_countLanterns_27 rfl) (z_c (ok_aload_n dX0_countLanterns_28 rfl) (z_c (ok_getf (C := RX0) (T := TX0) (N := 5) rfl (by decide) zinX0 rfl zw_10 dX0_countLanterns_29) (z_c (ok_getf (C := RX4) (T := TX4) (N := 18) rfl (by decide) zinX4 rfl zw_27 dX0_countLanterns_32) (z_c (ok_iload dX0_countLanterns_35) (z_c (ok_iaload rfl dX0_countLanterns_37) (z_c (ok_aload_n dX0_countLanterns_38 rfl) (z_c (ok_aload_n dX0_countLanterns_39 rfl) (z_c (ok_iload dX0_countLanterns_40) (z_c (ok_callV zcal_4 (q := (RX0, TX0, 5)) rfl zw_28 zw_29 zw_30 dX0_countLanterns_42) (z_c (ok_callV zcal_5 (q := (RX0, TX0, 5)) rfl zw_31 zw_32 zw_33 dX0_countLanterns_45) z_n))))))))))))
noncomputable def tX0_countLanterns_2 : List (Nat × zF) := [(48, (zll4 2 1)), (49, (zst 1 z_land)), (50, (zst 1 (zp (.long (0))))), (51, (zst 1 zcm)), (52, (z_if_eq 58)), (55, (zin4 6 4 (1))), (58, (zin4 6 5 (1))), (61, (zgt 6)), (64, (zli4 4 2)), (66, (zri false))]
theorem kX0_countLanterns_2 : ∀ q ∈ tX0_countLanterns_2, zOk zg iX0_countLanterns q.1 q.2 := (z_c (ok_lload_n dX0_countLanterns_48 rfl) (z_c (ok_land dX0_countLanterns_49) (z_c (ok_lconst (v := (0)) dX0_countLanterns_50 (by decide)) (z_c (ok_lcmp dX0_countLanterns_51) (z_c (ok_if_eq dX0_countLanterns_52 (by decide)) (z_c (ok_iinc (v := (1)) dX0_countLanterns_55 (by decide)) (z_c (ok_iinc (v := (1)) dX0_countLanterns_58 (by decide)) (z_c (ok_goto dX0_countLanterns_61 (by decide)) (z_c (ok_iload dX0_countLanterns_64) (z_c (ok_ireturn rfl dX0_countLanterns_66) z_n))))))))))
noncomputable def tX0_countLanterns : zT := [(24, tX0_countLanterns_0), (48, tX0_countLanterns_1), (100000, tX0_countLanterns_2)]
theorem kX0_countLanterns : zTok zg iX0_countLanterns tX0_countLanterns := (z_t kX0_countLanterns_0 (z_t kX0_countLanterns_1 (z_t kX0_countLanterns_2 z_tn)))
theorem dX0_road_0 : decode cX0_road 0 = .ok (.iload_n 1, 1) := by decide +kernel
theorem dX0_road_1 : decode cX0_road 1 = .ok (.invokestatic 100, 3) := by decide +kernel
theorem dX0_road_4 : decode cX0_road 4 = .ok (.lstore 5, 2) := by decide +kernel
theorem dX0_road_6 : decode cX0_road 6 = .ok (.aload_n 0, 1) := by decide +kernel
theorem dX0_road_7 : decode cX0_road 7 = .ok (.getfield 18, 3) := by decide +kernel
theorem dX0_road_10 : decode cX0_road 10 = .ok (.iconst 0, 1) := by decide +kernel
theorem dX0_road_11 : decode cX0_road 11 = .ok (.iload_n 2, 1) := by decide +kernel
theorem dX0_road_12 : decode cX0_road 12 = .ok (.invokestatic 100, 3) := by decide +kernel
theorem dX0_road_15 : decode cX0_road 15 = .ok (.lastore, 1) := by decide +kernel
theorem dX0_road_16 : decode cX0_road 16 = .ok (.iload_n 1, 1) := by decide +kernel
theorem dX0_road_17 : decode cX0_road 17 = .ok (.iload_n 2, 1) := by decide +kernel
theorem dX0_road_18 : decode cX0_road 18 = .ok (.if_icmp .ne 5, 3) := by decide +kernel
theorem dX0_road_21 : decode cX0_road 21 = .ok (.iconst 0, 1) := by decide +kernel
theorem dX0_road_22 : decode cX0_road 22 = .ok (.ireturn, 1) := by decide +kernel
theorem dX0_road_23 : decode cX0_road 23 = .ok (.aload_n 0, 1) := by decide +kernel
theorem dX0_road_24 : decode cX0_road 24 = .ok (.getfield 18, 3) := by decide +kernel
theorem dX0_road_27 : decode cX0_road 27 = .ok (.iconst 0, 1) := by decide +kernel
theorem dX0_road_28 : decode cX0_road 28 = .ok (.laload, 1) := by decide +kernel
theorem dX0_road_29 : decode cX0_road 29 = .ok (.lload_n 3, 1) := by decide +kernel
theorem dX0_road_30 : decode cX0_road 30 = .ok (.land, 1) := by decide +kernel
theorem dX0_road_31 : decode cX0_road 31 = .ok (.lconst 0, 1) := by decide +kernel
theorem dX0_road_32 : decode cX0_road 32 = .ok (.lcmp, 1) := by decide +kernel
theorem dX0_road_33 : decode cX0_road 33 = .ok (.ifCond .ne 5, 3) := by decide +kernel
theorem dX0_road_36 : decode cX0_road 36 = .ok (.iconst (-1), 1) := by decide +kernel
theorem dX0_road_37 : decode cX0_road 37 = .ok (.ireturn, 1) := by decide +kernel
theorem dX0_road_38 : decode cX0_road 38 = .ok (.lload_n 3, 1) := by decide +kernel
theorem dX0_road_39 : decode cX0_road 39 = .ok (.lload 5, 2) := by decide +kernel
theorem dX0_road_41 : decode cX0_road 41 = .ok (.lor, 1) := by decide +kernel
theorem dX0_road_42 : decode cX0_road 42 = .ok (.aload_n 0, 1) := by decide +kernel
theorem dX0_road_43 : decode cX0_road 43 = .ok (.getfield 18, 3) := by decide +kernel
theorem dX0_road_46 : decode cX0_road 46 = .ok (.iconst 0, 1) := by decide +kernel
theorem dX0_road_47 : decode cX0_road 47 = .ok (.laload, 1) := by decide +kernel
theorem dX0_road_48 : decode cX0_road 48 = .ok (.ldc2_w 115, 3) := by decide +kernel
theorem dX0_road_51 : decode cX0_road 51 = .ok (.lxor, 1) := by decide +kernel
theorem dX0_road_52 : decode cX0_road 52 = .ok (.land, 1) := by decide +kernel
theorem dX0_road_53 : decode cX0_road 53 = .ok (.lstore 7, 2) := by decide +kernel
theorem dX0_road_55 : decode cX0_road 55 = .ok (.iconst 1, 1) := by decide +kernel
theorem dX0_road_56 : decode cX0_road 56 = .ok (.istore 9, 2) := by decide +kernel
theorem dX0_road_58 : decode cX0_road 58 = .ok (.iload 9, 2) := by decide +kernel
theorem dX0_road_60 : decode cX0_road 60 = .ok (.bipush 49, 2) := by decide +kernel
theorem dX0_road_62 : decode cX0_road 62 = .ok (.if_icmp .ge 68, 3) := by decide +kernel
theorem dX0_road_65 : decode cX0_road 65 = .ok (.aload_n 0, 1) := by decide +kernel
theorem dX0_road_66 : decode cX0_road 66 = .ok (.getfield 18, 3) := by decide +kernel
theorem dX0_road_69 : decode cX0_road 69 = .ok (.iload 9, 2) := by decide +kernel
theorem dX0_road_71 : decode cX0_road 71 = .ok (.iconst 1, 1) := by decide +kernel
theorem dX0_road_72 : decode cX0_road 72 = .ok (.isub, 1) := by decide +kernel
theorem dX0_road_73 : decode cX0_road 73 = .ok (.laload, 1) := by decide +kernel
theorem dX0_road_74 : decode cX0_road 74 = .ok (.invokestatic 104, 3) := by decide +kernel
theorem dX0_road_77 : decode cX0_road 77 = .ok (.lload 7, 2) := by decide +kernel
theorem dX0_road_79 : decode cX0_road 79 = .ok (.land, 1) := by decide +kernel
theorem dX0_road_80 : decode cX0_road 80 = .ok (.lstore 10, 2) := by decide +kernel
theorem dX0_road_82 : decode cX0_road 82 = .ok (.lload 10, 2) := by decide +kernel
theorem dX0_road_84 : decode cX0_road 84 = .ok (.lload 5, 2) := by decide +kernel
theorem dX0_road_86 : decode cX0_road 86 = .ok (.land, 1) := by decide +kernel
theorem dX0_road_87 : decode cX0_road 87 = .ok (.lconst 0, 1) := by decide +kernel
theorem dX0_road_88 : decode cX0_road 88 = .ok (.lcmp, 1) := by decide +kernel
theorem dX0_road_89 : decode cX0_road 89 = .ok (.ifCond .eq 6, 3) := by decide +kernel
theorem dX0_road_92 : decode cX0_road 92 = .ok (.iload 9, 2) := by decide +kernel
theorem dX0_road_94 : decode cX0_road 94 = .ok (.ireturn, 1) := by decide +kernel
theorem dX0_road_95 : decode cX0_road 95 = .ok (.lload 10, 2) := by decide +kernel
theorem dX0_road_97 : decode cX0_road 97 = .ok (.lconst 0, 1) := by decide +kernel
theorem dX0_road_98 : decode cX0_road 98 = .ok (.lcmp, 1) := by decide +kernel
theorem dX0_road_99 : decode cX0_road 99 = .ok (.ifCond .ne 5, 3) := by decide +kernel
theorem dX0_road_102 : decode cX0_road 102 = .ok (.iconst (-1), 1) := by decide +kernel
theorem dX0_road_103 : decode cX0_road 103 = .ok (.ireturn, 1) := by decide +kernel
theorem dX0_road_104 : decode cX0_road 104 = .ok (.aload_n 0, 1) := by decide +kernel
theorem dX0_road_105 : decode cX0_road 105 = .ok (.getfield 18, 3) := by decide +kernel
theorem dX0_road_108 : decode cX0_road 108 = .ok (.iload 9, 2) := by decide +kernel
theorem dX0_road_110 : decode cX0_road 110 = .ok (.lload 10, 2) := by decide +kernel
theorem dX0_road_112 : decode cX0_road 112 = .ok (.lastore, 1) := by decide +kernel
theorem dX0_road_113 : decode cX0_road 113 = .ok (.lload 7, 2) := by decide +kernel
theorem dX0_road_115 : decode cX0_road 115 = .ok (.lload 10, 2) := by decide +kernel
theorem dX0_road_117 : decode cX0_road 117 = .ok (.ldc2_w 115, 3) := by decide +kernel
theorem dX0_road_120 : decode cX0_road 120 = .ok (.lxor, 1) := by decide +kernel
theorem dX0_road_121 : decode cX0_road 121 = .ok (.land, 1) := by decide +kernel
theorem dX0_road_122 : decode cX0_road 122 = .ok (.lstore 7, 2) := by decide +kernel
theorem dX0_road_124 : decode cX0_road 124 = .ok (.iinc 9 1, 3) := by decide +kernel
theorem dX0_road_127 : decode cX0_road 127 = .ok (.goto (-69), 3) := by decide +kernel
theorem dX0_road_130 : decode cX0_road 130 = .ok (.iconst (-1), 1) := by decide +kernel
theorem dX0_road_131 : decode cX0_road 131 = .ok (.ireturn, 1) := by decide +kernel
noncomputable def tX0_road_0 : List (Nat × zF) := [(0, (zli4 1 1)), (1, (zcs 163 1)), (4, (zsl4 12 5 2)), (6, (zla4 0 1)), (7, (zgf 0 2)), (10, (zst 1 (zp (.int (0))))), (11, (zli4 2 1)), (12, (zcs 163 1)), (15, (zla 1)), (16, (zli4 1 1)), (17, (zli4 2 1)), (18, (z_ic_ne 23))]
theorem kX0_road_0 : ∀ q ∈ tX0_road_0, zOk zg iX0_road q.1 q.2 := (z_c (ok_iload_n dX0_road_0 rfl) (z_c (ok_callSN zcal_163 zx_nest_4 zw_54 dX0_road_1) (z_c (ok_lstore dX0_road_4) (z_c (ok_aload_n dX0_road_6 rfl) (z_c (ok_getf (C := RX0) (T := TX0) (N := 5) rfl (by decide) zinX0 rfl zw_9 dX0_road_7) (z_c (ok_iconst (v := (0)) dX0_road_10 (by decide)) (z_c (ok_iload_n dX0_road_11 rfl) (z_c (ok_callSN zcal_163 zx_nest_4 zw_54 dX0_road_12) (z_c (ok_lastore rfl dX0_road_15) (z_c (ok_iload_n dX0_road_16 rfl) (z_c (ok_iload_n dX0_road_17 rfl) (z_c (ok_icmp_ne dX0_road_18 (by decide)) z_n))))))))))))
noncomputable def tX0_road_1 : List (Nat × zF) := [(21, (zst 1 (zp (.int (0))))), (22, (zri false)), (23, (zla4 0 1)), (24, (zgf 0 2)), (27, (zst 1 (zp (.int (0))))), (28, (zll 1)), (29, (zll4 3 1)), (30, (zst 1 z_land)), (31, (zst 1 (zp (.long (0))))), (32, (zst 1 zcm)), (33, (z_if_ne 38)), (36, (zst 1 (zp (.int ((-1))))))]
theorem kX0_road_1 : ∀ q ∈ tX0_road_1, zOk zg iX0_road q.1 q.2 := (z_c (ok_iconst (v := (0)) dX0_road_21 (by decide)) (z_c (ok_ireturn rfl dX0_road_22) (z_c (ok_aload_n dX0_road_23 rfl) (z_c (ok_getf (C := RX0) (T := TX0) (N := 5) rfl (by decide) zinX0 rfl zw_9 dX0_road_24) (z_c (ok_iconst (v := (0)) dX0_road_27 (by decide)) (z_c (ok_laload rfl dX0_road_28) (z_c (ok_lload_n dX0_road_29 rfl) (z_c (ok_land dX0_road_30) (z_c (ok_lconst (v := (0)) dX0_road_31 (by decide)) (z_c (ok_lcmp dX0_road_32) (z_c (ok_if_ne dX0_road_33 (by decide)) (z_c (ok_iconst (v := (-1)) dX0_road_36 (by decide)) z_n))))))))))))
noncomputable def tX0_road_2 : List (Nat × zF) := [(37, (zri false)), (38, (zll4 3 1)), (39, (zll4 5 2)), (41, (zst 1 z_lor)), (42, (zla4 0 1)), (43, (zgf 0 2)), (46, (zst 1 (zp (.int (0))))), (47, (zll 1)), (48, (zst 3 (zp (.long (-1))))), (51, (zst 1 z_lxor)), (52, (zst 1 z_land)), (53, (zsl4 12 7 2))]
theorem kX0_road_2 : ∀ q ∈ tX0_road_2, zOk zg iX0_road q.1 q.2 := (z_c (ok_ireturn rfl dX0_road_37) (z_c (ok_lload_n dX0_road_38 rfl) (z_c (ok_lload dX0_road_39) (z_c (ok_lor dX0_road_41) (z_c (ok_aload_n dX0_road_42 rfl) (z_c (ok_getf (C := RX0) (T := TX0) (N := 5) rfl (by decide) zinX0 rfl zw_9 dX0_road_43) (z_c (ok_iconst (v := (0)) dX0_road_46 (by decide)) (z_c (ok_laload rfl dX0_road_47) (z_c (ok_ldc2 (v := (-1)) zw_59 dX0_road_48) (z_c (ok_lxor dX0_road_51) (z_c (ok_land dX0_road_52) (z_c (ok_lstore dX0_road_53) z_n))))))))))))
noncomputable def tX0_road_3 : List (Nat × zF) := [(55, (zst 1 (zp (.int (1))))), (56, (zsi4 12 9 2)), (58, (zli4 9 2)), (60, (zst 2 (zp (.int (49))))), (62, (z_ic_ge 130)), (65, (zla4 0 1)), (66, (zgf 0 2)), (69, (zli4 9 2)), (71, (zst 1 (zp (.int (1))))), (72, (zst 1 z_isub)), (73, (zll 1)), (74, (zcs 6 1))]
theorem kX0_road_3 : ∀ q ∈ tX0_road_3, zOk zg iX0_road q.1 q.2 := (z_c (ok_iconst (v := (1)) dX0_road_55 (by decide)) (z_c (ok_istore dX0_road_56) (z_c (ok_iload dX0_road_58) (z_c (ok_bipush (v := (49)) dX0_road_60 (by decide)) (z_c (ok_icmp_ge dX0_road_62 (by decide)) (z_c (ok_aload_n dX0_road_65 rfl) (z_c (ok_getf (C := RX0) (T := TX0) (N := 5) rfl (by decide) zinX0 rfl zw_9 dX0_road_66) (z_c (ok_iload dX0_road_69) (z_c (ok_iconst (v := (1)) dX0_road_71 (by decide)) (z_c (ok_isub dX0_road_72) (z_c (ok_laload rfl dX0_road_73) (z_c (ok_callS zcal_6 zw_55 zw_56 dX0_road_74) z_n))))))))))))
noncomputable def tX0_road_4 : List (Nat × zF) := [(77, (zll4 7 2)), (79, (zst 1 z_land)), (80, (zsl4 12 10 2)), (82, (zll4 10 2)), (84, (zll4 5 2)), (86, (zst 1 z_land)), (87, (zst 1 (zp (.long (0))))), (88, (zst 1 zcm)), (89, (z_if_eq 95)), (92, (zli4 9 2)), (94, (zri false)), (95, (zll4 10 2))]
theorem kX0_road_4 : ∀ q ∈ tX0_road_4, zOk zg iX0_road q.1 q.2 := (z_c (ok_lload dX0_road_77) (z_c (ok_land dX0_road_79) (z_c (ok_lstore dX0_road_80) (z_c (ok_lload dX0_road_82) (z_c (ok_lload dX0_road_84) (z_c (ok_land dX0_road_86) (z_c (ok_lconst (v := (0)) dX0_road_87 (by decide)) (z_c (ok_lcmp dX0_road_88) (z_c (ok_if_eq dX0_road_89 (by decide)) (z_c (ok_iload dX0_road_92) (z_c (ok_ireturn rfl dX0_road_94) (z_c (ok_lload dX0_road_95) z_n))))))))))))
noncomputable def tX0_road_5 : List (Nat × zF) := [(97, (zst 1 (zp (.long (0))))), (98, (zst 1 zcm)), (99, (z_if_ne 104)), (102, (zst 1 (zp (.int ((-1)))))), (103, (zri false)), (104, (zla4 0 1)), (105, (zgf 0 2)), (108, (zli4 9 2)), (110, (zll4 10 2)), (112, (zla 1)), (113, (zll4 7 2)), (115, (zll4 10 2))]
theorem kX0_road_5 : ∀ q ∈ tX0_road_5, zOk zg iX0_road q.1 q.2 := (z_c (ok_lconst (v := (0)) dX0_road_97 (by decide)) (z_c (ok_lcmp dX0_road_98) (z_c (ok_if_ne dX0_road_99 (by decide)) (z_c (ok_iconst (v := (-1)) dX0_road_102 (by decide)) (z_c (ok_ireturn rfl dX0_road_103) (z_c (ok_aload_n dX0_road_104 rfl) (z_c (ok_getf (C := RX0) (T := TX0) (N := 5) rfl (by decide) zinX0 rfl zw_9 dX0_road_105) (z_c (ok_iload dX0_road_108) (z_c (ok_lload dX0_road_110) (z_c (ok_lastore rfl dX0_road_112) (z_c (ok_lload dX0_road_113) (z_c (ok_lload dX0_road_115) z_n))))))))))))
noncomputable def tX0_road_6 : List (Nat × zF) := [(117, (zst 3 (zp (.long (-1))))), (120, (zst 1 z_lxor)), (121, (zst 1 z_land)), (122, (zsl4 12 7 2)), (124, (zin4 12 9 (1))), (127, (zgt 58)), (130, (zst 1 (zp (.int ((-1)))))), (131, (zri false))]
theorem kX0_road_6 : ∀ q ∈ tX0_road_6, zOk zg iX0_road q.1 q.2 := (z_c (ok_ldc2 (v := (-1)) zw_59 dX0_road_117) (z_c (ok_lxor dX0_road_120) (z_c (ok_land dX0_road_121) (z_c (ok_lstore dX0_road_122) (z_c (ok_iinc (v := (1)) dX0_road_124 (by decide)) (z_c (ok_goto dX0_road_127 (by decide)) (z_c (ok_iconst (v := (-1)) dX0_road_130 (by decide)) (z_c (ok_ireturn rfl dX0_road_131) z_n))))))))
noncomputable def tX0_road : zT := [(21, tX0_road_0), (37, tX0_road_1), (55, tX0_road_2), (77, tX0_road_3), (97, tX0_road_4), (117, tX0_road_5), (100000, tX0_road_6)]
theorem kX0_road : zTok zg iX0_road tX0_road := (z_t kX0_road_0 (z_t kX0_road_1 (z_t kX0_road_2 (z_t kX0_road_3 (z_t kX0_road_4 (z_t kX0_road_5 (z_t kX0_road_6 z_tn)))))))
theorem dX0_walked_0 : decode cX0_walked 0 = .ok (.aload_n 0, 1) := by decide +kernel
theorem dX0_walked_1 : decode cX0_walked 1 = .ok (.iload_n 1, 1) := by decide +kernel
theorem dX0_walked_2 : decode cX0_walked 2 = .ok (.iload_n 2, 1) := by decide +kernel
theorem dX0_walked_3 : decode cX0_walked 3 = .ok (.lload_n 3, 1) := by decide +kernel
theorem dX0_walked_4 : decode cX0_walked 4 = .ok (.invokevirtual 117, 3) := by decide +kernel
theorem dX0_walked_7 : decode cX0_walked 7 = .ok (.istore 5, 2) := by decide +kernel
theorem dX0_walked_9 : decode cX0_walked 9 = .ok (.iload_n 1, 1) := by decide +kernel
theorem dX0_walked_10 : decode cX0_walked 10 = .ok (.istore 6, 2) := by decide +kernel
theorem dX0_walked_12 : decode cX0_walked 12 = .ok (.iconst 0, 1) := by decide +kernel
theorem dX0_walked_13 : decode cX0_walked 13 = .ok (.istore 7, 2) := by decide +kernel
theorem dX0_walked_15 : decode cX0_walked 15 = .ok (.iload 7, 2) := by decide +kernel
theorem dX0_walked_17 : decode cX0_walked 17 = .ok (.aload_n 0, 1) := by decide +kernel
theorem dX0_walked_18 : decode cX0_walked 18 = .ok (.getfield 22, 3) := by decide +kernel
theorem dX0_walked_21 : decode cX0_walked 21 = .ok (.getfield 120, 3) := by decide +kernel
theorem dX0_walked_24 : decode cX0_walked 24 = .ok (.if_icmp .ge 31, 3) := by decide +kernel
theorem dX0_walked_27 : decode cX0_walked 27 = .ok (.iload 5, 2) := by decide +kernel
theorem dX0_walked_29 : decode cX0_walked 29 = .ok (.ifCond .le 26, 3) := by decide +kernel
theorem dX0_walked_32 : decode cX0_walked 32 = .ok (.iinc 5 (-1), 3) := by decide +kernel
theorem dX0_walked_35 : decode cX0_walked 35 = .ok (.iload 6, 2) := by decide +kernel
theorem dX0_walked_37 : decode cX0_walked 37 = .ok (.aload_n 0, 1) := by decide +kernel
theorem dX0_walked_38 : decode cX0_walked 38 = .ok (.getfield 18, 3) := by decide +kernel
theorem dX0_walked_41 : decode cX0_walked 41 = .ok (.iload 5, 2) := by decide +kernel
theorem dX0_walked_43 : decode cX0_walked 43 = .ok (.laload, 1) := by decide +kernel
theorem dX0_walked_44 : decode cX0_walked 44 = .ok (.invokestatic 123, 3) := by decide +kernel
theorem dX0_walked_47 : decode cX0_walked 47 = .ok (.istore 6, 2) := by decide +kernel
theorem dX0_walked_49 : decode cX0_walked 49 = .ok (.iinc 7 1, 3) := by decide +kernel
theorem dX0_walked_52 : decode cX0_walked 52 = .ok (.goto (-37), 3) := by decide +kernel
theorem dX0_walked_55 : decode cX0_walked 55 = .ok (.iload 6, 2) := by decide +kernel
theorem dX0_walked_57 : decode cX0_walked 57 = .ok (.ireturn, 1) := by decide +kernel
noncomputable def tX0_walked_0 : List (Nat × zF) := [(0, (zla4 0 1)), (1, (zli4 1 1)), (2, (zli4 2 1)), (3, (zll4 3 1)), (4, (zcv 8 3 0)), (7, (zsi4 8 5 2)), (9, (zli4 1 1)), (10, (zsi4 8 6 2)), (12, (zst 1 (zp (.int (0))))), (13, (zsi4 8 7 2)), (15, (zli4 7 2)), (17, (zla4 0 1))]
theorem kX0_walked_0 : ∀ q ∈ tX0_walked_0, zOk zg iX0_walked q.1 q.2 := (z_c (ok_aload_n dX0_walked_0 rfl) (z_c (ok_iload_n dX0_walked_1 rfl) (z_c (ok_iload_n dX0_walked_2 rfl) (z_c (ok_lload_n dX0_walked_3 rfl) (z_c (ok_callV zcal_8 (q := (RX0, TX0, 5)) rfl zw_60 zw_61 zw_62 dX0_walked_4) (z_c (ok_istore dX0_walked_7) (z_c (ok_iload_n dX0_walked_9 rfl) (z_c (ok_istore dX0_walked_10) (z_c (ok_iconst (v := (0)) dX0_walked_12 (by decide)) (z_c (ok_istore dX0_walked_13) (z_c (ok_iload dX0_walked_15) (z_c (ok_aload_n dX0_walked_17 rfl) z_n))))))))))))
noncomputable def tX0_walked_1 : List (Nat × zF) := [(18, (zgf 0 0)), (21, (zgf 4 3)), (24, (z_ic_ge 55)), (27, (zli4 5 2)), (29, (z_if_le 55)), (32, (zin4 8 5 (-1))), (35, (zli4 6 2)), (37, (zla4 0 1)), (38, (zgf 0 2)), (41, (zli4 5 2)), (43, (zll 1)), (44, (zcs 10 2))]
theorem kX0_walked_1 : ∀ q ∈ tX0_walked_1, zOk zg iX0_walked q.1 q.2 := (z_c (ok_getf (C := RX0) (T := TX0) (N := 5) rfl (by decide) zinX0 rfl zw_10 dX0_walked_18) (z_c (ok_getf (C := RX4) (T := TX4) (N := 18) rfl (by decide) zinX4 rfl zw_63 dX0_walked_21) (z_c (ok_icmp_ge dX0_walked_24 (by decide)) (z_c (ok_iload dX0_walked_27) (z_c (ok_if_le dX0_walked_29 (by decide)) (z_c (ok_iinc (v := (-1)) dX0_walked_32 (by decide)) (z_c (ok_iload dX0_walked_35) (z_c (ok_aload_n dX0_walked_37 rfl) (z_c (ok_getf (C := RX0) (T := TX0) (N := 5) rfl (by decide) zinX0 rfl zw_9 dX0_walked_38) (z_c (ok_iload dX0_walked_41) (z_c (ok_laload rfl dX0_walked_43) (z_c (ok_callS zcal_10 zw_64 zw_65 dX0_walked_44) z_n))))))))))))
noncomputable def tX0_walked_2 : List (Nat × zF) := [(47, (zsi4 8 6 2)), (49, (zin4 8 7 (1))), (52, (zgt 15)), (55, (zli4 6 2)), (57, (zri false))]
theorem kX0_walked_2 : ∀ q ∈ tX0_walked_2, zOk zg iX0_walked q.1 q.2 := (z_c (ok_istore dX0_walked_47) (z_c (ok_iinc (v := (1)) dX0_walked_49 (by decide)) (z_c (ok_goto dX0_walked_52 (by decide)) (z_c (ok_iload dX0_walked_55) (z_c (ok_ireturn rfl dX0_walked_57) z_n)))))
noncomputable def tX0_walked : zT := [(18, tX0_walked_0), (47, tX0_walked_1), (100000, tX0_walked_2)]
theorem kX0_walked : zTok zg iX0_walked tX0_walked := (z_t kX0_walked_0 (z_t kX0_walked_1 (z_t kX0_walked_2 z_tn)))
theorem dX0_stepped_0 : decode cX0_stepped 0 = .ok (.iload_n 0, 1) := by decide +kernel
theorem dX0_stepped_1 : decode cX0_stepped 1 = .ok (.invokestatic 100, 3) := by decide +kernel
theorem dX0_stepped_4 : decode cX0_stepped 4 = .ok (.lstore_n 3, 1) := by decide +kernel
theorem dX0_stepped_5 : decode cX0_stepped 5 = .ok (.lload_n 3, 1) := by decide +kernel
theorem dX0_stepped_6 : decode cX0_stepped 6 = .ok (.bipush 8, 2) := by decide +kernel
theorem dX0_stepped_8 : decode cX0_stepped 8 = .ok (.lushr, 1) := by decide +kernel
theorem dX0_stepped_9 : decode cX0_stepped 9 = .ok (.lload_n 1, 1) := by decide +kernel
theorem dX0_stepped_10 : decode cX0_stepped 10 = .ok (.land, 1) := by decide +kernel
theorem dX0_stepped_11 : decode cX0_stepped 11 = .ok (.lconst 0, 1) := by decide +kernel
theorem dX0_stepped_12 : decode cX0_stepped 12 = .ok (.lcmp, 1) := by decide +kernel
theorem dX0_stepped_13 : decode cX0_stepped 13 = .ok (.ifCond .eq 8, 3) := by decide +kernel
theorem dX0_stepped_16 : decode cX0_stepped 16 = .ok (.iload_n 0, 1) := by decide +kernel
theorem dX0_stepped_17 : decode cX0_stepped 17 = .ok (.bipush 8, 2) := by decide +kernel
theorem dX0_stepped_19 : decode cX0_stepped 19 = .ok (.isub, 1) := by decide +kernel
theorem dX0_stepped_20 : decode cX0_stepped 20 = .ok (.ireturn, 1) := by decide +kernel
theorem dX0_stepped_21 : decode cX0_stepped 21 = .ok (.lload_n 3, 1) := by decide +kernel
theorem dX0_stepped_22 : decode cX0_stepped 22 = .ok (.iconst 1, 1) := by decide +kernel
theorem dX0_stepped_23 : decode cX0_stepped 23 = .ok (.lshl, 1) := by decide +kernel
theorem dX0_stepped_24 : decode cX0_stepped 24 = .ok (.lload_n 1, 1) := by decide +kernel
theorem dX0_stepped_25 : decode cX0_stepped 25 = .ok (.land, 1) := by decide +kernel
theorem dX0_stepped_26 : decode cX0_stepped 26 = .ok (.lconst 0, 1) := by decide +kernel
theorem dX0_stepped_27 : decode cX0_stepped 27 = .ok (.lcmp, 1) := by decide +kernel
theorem dX0_stepped_28 : decode cX0_stepped 28 = .ok (.ifCond .eq 7, 3) := by decide +kernel
theorem dX0_stepped_31 : decode cX0_stepped 31 = .ok (.iload_n 0, 1) := by decide +kernel
theorem dX0_stepped_32 : decode cX0_stepped 32 = .ok (.iconst 1, 1) := by decide +kernel
theorem dX0_stepped_33 : decode cX0_stepped 33 = .ok (.iadd, 1) := by decide +kernel
theorem dX0_stepped_34 : decode cX0_stepped 34 = .ok (.ireturn, 1) := by decide +kernel
theorem dX0_stepped_35 : decode cX0_stepped 35 = .ok (.lload_n 3, 1) := by decide +kernel
theorem dX0_stepped_36 : decode cX0_stepped 36 = .ok (.bipush 8, 2) := by decide +kernel
theorem dX0_stepped_38 : decode cX0_stepped 38 = .ok (.lshl, 1) := by decide +kernel
theorem dX0_stepped_39 : decode cX0_stepped 39 = .ok (.lload_n 1, 1) := by decide +kernel
theorem dX0_stepped_40 : decode cX0_stepped 40 = .ok (.land, 1) := by decide +kernel
theorem dX0_stepped_41 : decode cX0_stepped 41 = .ok (.lconst 0, 1) := by decide +kernel
theorem dX0_stepped_42 : decode cX0_stepped 42 = .ok (.lcmp, 1) := by decide +kernel
theorem dX0_stepped_43 : decode cX0_stepped 43 = .ok (.ifCond .eq 8, 3) := by decide +kernel
theorem dX0_stepped_46 : decode cX0_stepped 46 = .ok (.iload_n 0, 1) := by decide +kernel
theorem dX0_stepped_47 : decode cX0_stepped 47 = .ok (.bipush 8, 2) := by decide +kernel
theorem dX0_stepped_49 : decode cX0_stepped 49 = .ok (.iadd, 1) := by decide +kernel
theorem dX0_stepped_50 : decode cX0_stepped 50 = .ok (.ireturn, 1) := by decide +kernel
theorem dX0_stepped_51 : decode cX0_stepped 51 = .ok (.lload_n 3, 1) := by decide +kernel
theorem dX0_stepped_52 : decode cX0_stepped 52 = .ok (.iconst 1, 1) := by decide +kernel
theorem dX0_stepped_53 : decode cX0_stepped 53 = .ok (.lushr, 1) := by decide +kernel
theorem dX0_stepped_54 : decode cX0_stepped 54 = .ok (.lload_n 1, 1) := by decide +kernel
theorem dX0_stepped_55 : decode cX0_stepped 55 = .ok (.land, 1) := by decide +kernel
theorem dX0_stepped_56 : decode cX0_stepped 56 = .ok (.lconst 0, 1) := by decide +kernel
theorem dX0_stepped_57 : decode cX0_stepped 57 = .ok (.lcmp, 1) := by decide +kernel
theorem dX0_stepped_58 : decode cX0_stepped 58 = .ok (.ifCond .eq 9, 3) := by decide +kernel
theorem dX0_stepped_61 : decode cX0_stepped 61 = .ok (.iload_n 0, 1) := by decide +kernel
theorem dX0_stepped_62 : decode cX0_stepped 62 = .ok (.iconst 1, 1) := by decide +kernel
theorem dX0_stepped_63 : decode cX0_stepped 63 = .ok (.isub, 1) := by decide +kernel
theorem dX0_stepped_64 : decode cX0_stepped 64 = .ok (.goto 4, 3) := by decide +kernel
theorem dX0_stepped_67 : decode cX0_stepped 67 = .ok (.iload_n 0, 1) := by decide +kernel
theorem dX0_stepped_68 : decode cX0_stepped 68 = .ok (.ireturn, 1) := by decide +kernel
noncomputable def tX0_stepped_0 : List (Nat × zF) := [(0, (zli4 0 1)), (1, (zcs 163 1)), (4, (zsl4 5 3 1)), (5, (zll4 3 1)), (6, (zst 2 (zp (.int (8))))), (8, (zst 1 z_lushr)), (9, (zll4 1 1)), (10, (zst 1 z_land)), (11, (zst 1 (zp (.long (0))))), (12, (zst 1 zcm)), (13, (z_if_eq 21)), (16, (zli4 0 1))]
theorem kX0_stepped_0 : ∀ q ∈ tX0_stepped_0, zOk zg iX0_stepped q.1 q.2 := (z_c (ok_iload_n dX0_stepped_0 rfl) (z_c (ok_callSN zcal_163 zx_nest_4 zw_54 dX0_stepped_1) (z_c (ok_lstore_n dX0_stepped_4 rfl) (z_c (ok_lload_n dX0_stepped_5 rfl) (z_c (ok_bipush (v := (8)) dX0_stepped_6 (by decide)) (z_c (ok_lushr dX0_stepped_8) (z_c (ok_lload_n dX0_stepped_9 rfl) (z_c (ok_land dX0_stepped_10) (z_c (ok_lconst (v := (0)) dX0_stepped_11 (by decide)) (z_c (ok_lcmp dX0_stepped_12) (z_c (ok_if_eq dX0_stepped_13 (by decide)) (z_c (ok_iload_n dX0_stepped_16 rfl) z_n))))))))))))
noncomputable def tX0_stepped_1 : List (Nat × zF) := [(17, (zst 2 (zp (.int (8))))), (19, (zst 1 z_isub)), (20, (zri false)), (21, (zll4 3 1)), (22, (zst 1 (zp (.int (1))))), (23, (zst 1 z_lshl)), (24, (zll4 1 1)), (25, (zst 1 z_land)), (26, (zst 1 (zp (.long (0))))), (27, (zst 1 zcm)), (28, (z_if_eq 35)), (31, (zli4 0 1))]
theorem kX0_stepped_1 : ∀ q ∈ tX0_stepped_1, zOk zg iX0_stepped q.1 q.2 := (z_c (ok_bipush (v := (8)) dX0_stepped_17 (by decide)) (z_c (ok_isub dX0_stepped_19) (z_c (ok_ireturn rfl dX0_stepped_20) (z_c (ok_lload_n dX0_stepped_21 rfl) (z_c (ok_iconst (v := (1)) dX0_stepped_22 (by decide)) (z_c (ok_lshl dX0_stepped_23) (z_c (ok_lload_n dX0_stepped_24 rfl) (z_c (ok_land dX0_stepped_25) (z_c (ok_lconst (v := (0)) dX0_stepped_26 (by decide)) (z_c (ok_lcmp dX0_stepped_27) (z_c (ok_if_eq dX0_stepped_28 (by decide)) (z_c (ok_iload_n dX0_stepped_31 rfl) z_n))))))))))))
noncomputable def tX0_stepped_2 : List (Nat × zF) := [(32, (zst 1 (zp (.int (1))))), (33, (zst 1 z_iadd)), (34, (zri false)), (35, (zll4 3 1)), (36, (zst 2 (zp (.int (8))))), (38, (zst 1 z_lshl)), (39, (zll4 1 1)), (40, (zst 1 z_land)), (41, (zst 1 (zp (.long (0))))), (42, (zst 1 zcm)), (43, (z_if_eq 51)), (46, (zli4 0 1))]
theorem kX0_stepped_2 : ∀ q ∈ tX0_stepped_2, zOk zg iX0_stepped q.1 q.2 := (z_c (ok_iconst (v := (1)) dX0_stepped_32 (by decide)) (z_c (ok_iadd dX0_stepped_33) (z_c (ok_ireturn rfl dX0_stepped_34) (z_c (ok_lload_n dX0_stepped_35 rfl) (z_c (ok_bipush (v := (8)) dX0_stepped_36 (by decide)) (z_c (ok_lshl dX0_stepped_38) (z_c (ok_lload_n dX0_stepped_39 rfl) (z_c (ok_land dX0_stepped_40) (z_c (ok_lconst (v := (0)) dX0_stepped_41 (by decide)) (z_c (ok_lcmp dX0_stepped_42) (z_c (ok_if_eq dX0_stepped_43 (by decide)) (z_c (ok_iload_n dX0_stepped_46 rfl) z_n))))))))))))
noncomputable def tX0_stepped_3 : List (Nat × zF) := [(47, (zst 2 (zp (.int (8))))), (49, (zst 1 z_iadd)), (50, (zri false)), (51, (zll4 3 1)), (52, (zst 1 (zp (.int (1))))), (53, (zst 1 z_lushr)), (54, (zll4 1 1)), (55, (zst 1 z_land)), (56, (zst 1 (zp (.long (0))))), (57, (zst 1 zcm)), (58, (z_if_eq 67)), (61, (zli4 0 1))]
theorem kX0_stepped_3 : ∀ q ∈ tX0_stepped_3, zOk zg iX0_stepped q.1 q.2 := (z_c (ok_bipush (v := (8)) dX0_stepped_47 (by decide)) (z_c (ok_iadd dX0_stepped_49) (z_c (ok_ireturn rfl dX0_stepped_50) (z_c (ok_lload_n dX0_stepped_51 rfl) (z_c (ok_iconst (v := (1)) dX0_stepped_52 (by decide)) (z_c (ok_lushr dX0_stepped_53) (z_c (ok_lload_n dX0_stepped_54 rfl) (z_c (ok_land dX0_stepped_55) (z_c (ok_lconst (v := (0)) dX0_stepped_56 (by decide)) (z_c (ok_lcmp dX0_stepped_57) (z_c (ok_if_eq dX0_stepped_58 (by decide)) (z_c (ok_iload_n dX0_stepped_61 rfl) z_n))))))))))))
noncomputable def tX0_stepped_4 : List (Nat × zF) := [(62, (zst 1 (zp (.int (1))))), (63, (zst 1 z_isub)), (64, (zgt 68)), (67, (zli4 0 1)), (68, (zri false))]
theorem kX0_stepped_4 : ∀ q ∈ tX0_stepped_4, zOk zg iX0_stepped q.1 q.2 := (z_c (ok_iconst (v := (1)) dX0_stepped_62 (by decide)) (z_c (ok_isub dX0_stepped_63) (z_c (ok_goto dX0_stepped_64 (by decide)) (z_c (ok_iload_n dX0_stepped_67 rfl) (z_c (ok_ireturn rfl dX0_stepped_68) z_n)))))
noncomputable def tX0_stepped : zT := [(17, tX0_stepped_0), (32, tX0_stepped_1), (47, tX0_stepped_2), (62, tX0_stepped_3), (100000, tX0_stepped_4)]
theorem kX0_stepped : zTok zg iX0_stepped tX0_stepped := (z_t kX0_stepped_0 (z_t kX0_stepped_1 (z_t kX0_stepped_2 (z_t kX0_stepped_3 (z_t kX0_stepped_4 z_tn)))))
theorem dX0_settle_0 : decode cX0_settle 0 = .ok (.aload_n 0, 1) := by decide +kernel
theorem dX0_settle_1 : decode cX0_settle 1 = .ok (.iconst 0, 1) := by decide +kernel
theorem dX0_settle_2 : decode cX0_settle 2 = .ok (.putfield 127, 3) := by decide +kernel
theorem dX0_settle_5 : decode cX0_settle 5 = .ok (.aload_n 0, 1) := by decide +kernel
theorem dX0_settle_6 : decode cX0_settle 6 = .ok (.iconst 0, 1) := by decide +kernel
theorem dX0_settle_7 : decode cX0_settle 7 = .ok (.putfield 130, 3) := by decide +kernel
theorem dX0_settle_10 : decode cX0_settle 10 = .ok (.iconst 0, 1) := by decide +kernel
theorem dX0_settle_11 : decode cX0_settle 11 = .ok (.istore_n 2, 1) := by decide +kernel
theorem dX0_settle_12 : decode cX0_settle 12 = .ok (.iload_n 2, 1) := by decide +kernel
theorem dX0_settle_13 : decode cX0_settle 13 = .ok (.aload_n 0, 1) := by decide +kernel
theorem dX0_settle_14 : decode cX0_settle 14 = .ok (.getfield 22, 3) := by decide +kernel
theorem dX0_settle_17 : decode cX0_settle 17 = .ok (.getfield 53, 3) := by decide +kernel
theorem dX0_settle_20 : decode cX0_settle 20 = .ok (.if_icmp .ge 66, 3) := by decide +kernel
theorem dX0_settle_23 : decode cX0_settle 23 = .ok (.aload_n 1, 1) := by decide +kernel
theorem dX0_settle_24 : decode cX0_settle 24 = .ok (.iload_n 2, 1) := by decide +kernel
theorem dX0_settle_25 : decode cX0_settle 25 = .ok (.invokevirtual 56, 3) := by decide +kernel
theorem dX0_settle_28 : decode cX0_settle 28 = .ok (.ifCond .ne 31, 3) := by decide +kernel
theorem dX0_settle_31 : decode cX0_settle 31 = .ok (.aload_n 0, 1) := by decide +kernel
theorem dX0_settle_32 : decode cX0_settle 32 = .ok (.dup, 1) := by decide +kernel
theorem dX0_settle_33 : decode cX0_settle 33 = .ok (.getfield 130, 3) := by decide +kernel
theorem dX0_settle_36 : decode cX0_settle 36 = .ok (.aload_n 0, 1) := by decide +kernel
theorem dX0_settle_37 : decode cX0_settle 37 = .ok (.aload_n 1, 1) := by decide +kernel
theorem dX0_settle_38 : decode cX0_settle 38 = .ok (.iload_n 2, 1) := by decide +kernel
theorem dX0_settle_39 : decode cX0_settle 39 = .ok (.invokevirtual 133, 3) := by decide +kernel
theorem dX0_settle_42 : decode cX0_settle 42 = .ok (.ifCond .eq 9, 3) := by decide +kernel
theorem dX0_settle_45 : decode cX0_settle 45 = .ok (.iconst 1, 1) := by decide +kernel
theorem dX0_settle_46 : decode cX0_settle 46 = .ok (.iload_n 2, 1) := by decide +kernel
theorem dX0_settle_47 : decode cX0_settle 47 = .ok (.ishl, 1) := by decide +kernel
theorem dX0_settle_48 : decode cX0_settle 48 = .ok (.goto 4, 3) := by decide +kernel
theorem dX0_settle_51 : decode cX0_settle 51 = .ok (.iconst 0, 1) := by decide +kernel
theorem dX0_settle_52 : decode cX0_settle 52 = .ok (.ior, 1) := by decide +kernel
theorem dX0_settle_53 : decode cX0_settle 53 = .ok (.putfield 130, 3) := by decide +kernel
theorem dX0_settle_56 : decode cX0_settle 56 = .ok (.goto 24, 3) := by decide +kernel
theorem dX0_settle_59 : decode cX0_settle 59 = .ok (.aload_n 0, 1) := by decide +kernel
theorem dX0_settle_60 : decode cX0_settle 60 = .ok (.aload_n 1, 1) := by decide +kernel
theorem dX0_settle_61 : decode cX0_settle 61 = .ok (.iload_n 2, 1) := by decide +kernel
theorem dX0_settle_62 : decode cX0_settle 62 = .ok (.invokevirtual 137, 3) := by decide +kernel
theorem dX0_settle_65 : decode cX0_settle 65 = .ok (.ifCond .eq 15, 3) := by decide +kernel
theorem dX0_settle_68 : decode cX0_settle 68 = .ok (.aload_n 0, 1) := by decide +kernel
theorem dX0_settle_69 : decode cX0_settle 69 = .ok (.dup, 1) := by decide +kernel
theorem dX0_settle_70 : decode cX0_settle 70 = .ok (.getfield 127, 3) := by decide +kernel
theorem dX0_settle_73 : decode cX0_settle 73 = .ok (.iconst 1, 1) := by decide +kernel
theorem dX0_settle_74 : decode cX0_settle 74 = .ok (.iload_n 2, 1) := by decide +kernel
theorem dX0_settle_75 : decode cX0_settle 75 = .ok (.ishl, 1) := by decide +kernel
theorem dX0_settle_76 : decode cX0_settle 76 = .ok (.ior, 1) := by decide +kernel
theorem dX0_settle_77 : decode cX0_settle 77 = .ok (.putfield 127, 3) := by decide +kernel
theorem dX0_settle_80 : decode cX0_settle 80 = .ok (.iinc 2 1, 3) := by decide +kernel
theorem dX0_settle_83 : decode cX0_settle 83 = .ok (.goto (-71), 3) := by decide +kernel
theorem dX0_settle_86 : decode cX0_settle 86 = .ok (.aload_n 0, 1) := by decide +kernel
theorem dX0_settle_87 : decode cX0_settle 87 = .ok (.getfield 127, 3) := by decide +kernel
theorem dX0_settle_90 : decode cX0_settle 90 = .ok (.aload_n 0, 1) := by decide +kernel
theorem dX0_settle_91 : decode cX0_settle 91 = .ok (.getfield 130, 3) := by decide +kernel
theorem dX0_settle_94 : decode cX0_settle 94 = .ok (.ior, 1) := by decide +kernel
theorem dX0_settle_95 : decode cX0_settle 95 = .ok (.istore_n 2, 1) := by decide +kernel
theorem dX0_settle_96 : decode cX0_settle 96 = .ok (.iconst 0, 1) := by decide +kernel
theorem dX0_settle_97 : decode cX0_settle 97 = .ok (.istore_n 3, 1) := by decide +kernel
theorem dX0_settle_98 : decode cX0_settle 98 = .ok (.iload_n 3, 1) := by decide +kernel
theorem dX0_settle_99 : decode cX0_settle 99 = .ok (.aload_n 0, 1) := by decide +kernel
theorem dX0_settle_100 : decode cX0_settle 100 = .ok (.getfield 22, 3) := by decide +kernel
theorem dX0_settle_103 : decode cX0_settle 103 = .ok (.getfield 53, 3) := by decide +kernel
theorem dX0_settle_106 : decode cX0_settle 106 = .ok (.if_icmp .ge 40, 3) := by decide +kernel
theorem dX0_settle_109 : decode cX0_settle 109 = .ok (.aload_n 1, 1) := by decide +kernel
theorem dX0_settle_110 : decode cX0_settle 110 = .ok (.getfield 140, 3) := by decide +kernel
theorem dX0_settle_113 : decode cX0_settle 113 = .ok (.iload_n 3, 1) := by decide +kernel
theorem dX0_settle_114 : decode cX0_settle 114 = .ok (.iload_n 2, 1) := by decide +kernel
theorem dX0_settle_115 : decode cX0_settle 115 = .ok (.iload_n 3, 1) := by decide +kernel
theorem dX0_settle_116 : decode cX0_settle 116 = .ok (.ishr, 1) := by decide +kernel
theorem dX0_settle_117 : decode cX0_settle 117 = .ok (.iconst 1, 1) := by decide +kernel
theorem dX0_settle_118 : decode cX0_settle 118 = .ok (.iand, 1) := by decide +kernel
theorem dX0_settle_119 : decode cX0_settle 119 = .ok (.ifCond .eq 7, 3) := by decide +kernel
theorem dX0_settle_122 : decode cX0_settle 122 = .ok (.iconst 0, 1) := by decide +kernel
theorem dX0_settle_123 : decode cX0_settle 123 = .ok (.goto 16, 3) := by decide +kernel
theorem dX0_settle_126 : decode cX0_settle 126 = .ok (.bipush 99, 2) := by decide +kernel
theorem dX0_settle_128 : decode cX0_settle 128 = .ok (.aload_n 1, 1) := by decide +kernel
theorem dX0_settle_129 : decode cX0_settle 129 = .ok (.getfield 140, 3) := by decide +kernel
theorem dX0_settle_132 : decode cX0_settle 132 = .ok (.iload_n 3, 1) := by decide +kernel
theorem dX0_settle_133 : decode cX0_settle 133 = .ok (.iaload, 1) := by decide +kernel
theorem dX0_settle_134 : decode cX0_settle 134 = .ok (.iconst 1, 1) := by decide +kernel
theorem dX0_settle_135 : decode cX0_settle 135 = .ok (.iadd, 1) := by decide +kernel
theorem dX0_settle_136 : decode cX0_settle 136 = .ok (.invokestatic 91, 3) := by decide +kernel
theorem dX0_settle_139 : decode cX0_settle 139 = .ok (.iastore, 1) := by decide +kernel
theorem dX0_settle_140 : decode cX0_settle 140 = .ok (.iinc 3 1, 3) := by decide +kernel
theorem dX0_settle_143 : decode cX0_settle 143 = .ok (.goto (-45), 3) := by decide +kernel
theorem dX0_settle_146 : decode cX0_settle 146 = .ok (.aload_n 1, 1) := by decide +kernel
theorem dX0_settle_147 : decode cX0_settle 147 = .ok (.dup, 1) := by decide +kernel
theorem dX0_settle_148 : decode cX0_settle 148 = .ok (.getfield 143, 3) := by decide +kernel
theorem dX0_settle_151 : decode cX0_settle 151 = .ok (.iload_n 2, 1) := by decide +kernel
theorem dX0_settle_152 : decode cX0_settle 152 = .ok (.ixor, 1) := by decide +kernel
theorem dX0_settle_153 : decode cX0_settle 153 = .ok (.putfield 143, 3) := by decide +kernel
theorem dX0_settle_156 : decode cX0_settle 156 = .ok (.aload_n 1, 1) := by decide +kernel
theorem dX0_settle_157 : decode cX0_settle 157 = .ok (.sipush 999, 3) := by decide +kernel
theorem dX0_settle_160 : decode cX0_settle 160 = .ok (.aload_n 1, 1) := by decide +kernel
theorem dX0_settle_161 : decode cX0_settle 161 = .ok (.getfield 146, 3) := by decide +kernel
theorem dX0_settle_164 : decode cX0_settle 164 = .ok (.iconst 1, 1) := by decide +kernel
theorem dX0_settle_165 : decode cX0_settle 165 = .ok (.iadd, 1) := by decide +kernel
theorem dX0_settle_166 : decode cX0_settle 166 = .ok (.invokestatic 91, 3) := by decide +kernel
theorem dX0_settle_169 : decode cX0_settle 169 = .ok (.putfield 146, 3) := by decide +kernel
theorem dX0_settle_172 : decode cX0_settle 172 = .ok (.return_, 1) := by decide +kernel
noncomputable def tX0_settle_0 : List (Nat × zF) := [(0, (zla4 0 1)), (1, (zst 1 (zp (.int (0))))), (2, (zpf 0 3 (.int))), (5, (zla4 0 1)), (6, (zst 1 (zp (.int (0))))), (7, (zpf 0 4 (.int))), (10, (zst 1 (zp (.int (0))))), (11, (zsi4 4 2 1)), (12, (zli4 2 1)), (13, (zla4 0 1)), (14, (zgf 0 0)), (17, (zgf 4 7))]
theorem kX0_settle_0 : ∀ q ∈ tX0_settle_0, zOk zg iX0_settle q.1 q.2 := (z_c (ok_aload_n dX0_settle_0 rfl) (z_c (ok_iconst (v := (0)) dX0_settle_1 (by decide)) (z_c (ok_putf (C := RX0) (T := TX0) (N := 5) false tyX0 tyX0_ok nmX0 rfl (by decide) zinX0 rfl zw_66 rfl (fun h => absurd h (by decide)) rfl dX0_settle_2) (z_c (ok_aload_n dX0_settle_5 rfl) (z_c (ok_iconst (v := (0)) dX0_settle_6 (by decide)) (z_c (ok_putf (C := RX0) (T := TX0) (N := 5) false tyX0 tyX0_ok nmX0 rfl (by decide) zinX0 rfl zw_67 rfl (fun h => absurd h (by decide)) rfl dX0_settle_7) (z_c (ok_iconst (v := (0)) dX0_settle_10 (by decide)) (z_c (ok_istore_n dX0_settle_11 rfl) (z_c (ok_iload_n dX0_settle_12 rfl) (z_c (ok_aload_n dX0_settle_13 rfl) (z_c (ok_getf (C := RX0) (T := TX0) (N := 5) rfl (by decide) zinX0 rfl zw_10 dX0_settle_14) (z_c (ok_getf (C := RX4) (T := TX4) (N := 18) rfl (by decide) zinX4 rfl zw_23 dX0_settle_17) z_n))))))))))))
noncomputable def tX0_settle_1 : List (Nat × zF) := [(20, (z_ic_ge 86)), (23, (zla4 1 1)), (24, (zli4 2 1)), (25, (zcv 81 1 8)), (28, (z_if_ne 59)), (31, (zla4 0 1)), (32, (zst 1 zdu)), (33, (zgf 0 4)), (36, (zla4 0 1)), (37, (zla4 1 1)), (38, (zli4 2 1)), (39, (zcv 13 2 0))]
theorem kX0_settle_1 : ∀ q ∈ tX0_settle_1, zOk zg iX0_settle q.1 q.2 := (z_c (ok_icmp_ge dX0_settle_20 (by decide)) (z_c (ok_aload_n dX0_settle_23 rfl) (z_c (ok_iload_n dX0_settle_24 rfl) (z_c (ok_callV zcal_81 (q := (RX8, TX8, 6)) rfl zw_24 zw_25 zw_26 dX0_settle_25) (z_c (ok_if_ne dX0_settle_28 (by decide)) (z_c (ok_aload_n dX0_settle_31 rfl) (z_c (ok_dup dX0_settle_32) (z_c (ok_getf (C := RX0) (T := TX0) (N := 5) rfl (by decide) zinX0 rfl zw_67 dX0_settle_33) (z_c (ok_aload_n dX0_settle_36 rfl) (z_c (ok_aload_n dX0_settle_37 rfl) (z_c (ok_iload_n dX0_settle_38 rfl) (z_c (ok_callV zcal_13 (q := (RX0, TX0, 5)) rfl zw_68 zw_69 zw_70 dX0_settle_39) z_n))))))))))))
noncomputable def tX0_settle_2 : List (Nat × zF) := [(42, (z_if_eq 51)), (45, (zst 1 (zp (.int (1))))), (46, (zli4 2 1)), (47, (zst 1 z_ishl)), (48, (zgt 52)), (51, (zst 1 (zp (.int (0))))), (52, (zst 1 z_ior)), (53, (zpf 0 4 (.int))), (56, (zgt 80)), (59, (zla4 0 1)), (60, (zla4 1 1)), (61, (zli4 2 1))]
theorem kX0_settle_2 : ∀ q ∈ tX0_settle_2, zOk zg iX0_settle q.1 q.2 := (z_c (ok_if_eq dX0_settle_42 (by decide)) (z_c (ok_iconst (v := (1)) dX0_settle_45 (by decide)) (z_c (ok_iload_n dX0_settle_46 rfl) (z_c (ok_ishl dX0_settle_47) (z_c (ok_goto dX0_settle_48 (by decide)) (z_c (ok_iconst (v := (0)) dX0_settle_51 (by decide)) (z_c (ok_ior dX0_settle_52) (z_c (ok_putf (C := RX0) (T := TX0) (N := 5) false tyX0 tyX0_ok nmX0 rfl (by decide) zinX0 rfl zw_67 rfl (fun h => absurd h (by decide)) rfl dX0_settle_53) (z_c (ok_goto dX0_settle_56 (by decide)) (z_c (ok_aload_n dX0_settle_59 rfl) (z_c (ok_aload_n dX0_settle_60 rfl) (z_c (ok_iload_n dX0_settle_61 rfl) z_n))))))))))))
noncomputable def tX0_settle_3 : List (Nat × zF) := [(62, (zcv 12 2 0)), (65, (z_if_eq 80)), (68, (zla4 0 1)), (69, (zst 1 zdu)), (70, (zgf 0 3)), (73, (zst 1 (zp (.int (1))))), (74, (zli4 2 1)), (75, (zst 1 z_ishl)), (76, (zst 1 z_ior)), (77, (zpf 0 3 (.int))), (80, (zin4 4 2 (1))), (83, (zgt 12))]
theorem kX0_settle_3 : ∀ q ∈ tX0_settle_3, zOk zg iX0_settle q.1 q.2 := (z_c (ok_callV zcal_12 (q := (RX0, TX0, 5)) rfl zw_71 zw_72 zw_73 dX0_settle_62) (z_c (ok_if_eq dX0_settle_65 (by decide)) (z_c (ok_aload_n dX0_settle_68 rfl) (z_c (ok_dup dX0_settle_69) (z_c (ok_getf (C := RX0) (T := TX0) (N := 5) rfl (by decide) zinX0 rfl zw_66 dX0_settle_70) (z_c (ok_iconst (v := (1)) dX0_settle_73 (by decide)) (z_c (ok_iload_n dX0_settle_74 rfl) (z_c (ok_ishl dX0_settle_75) (z_c (ok_ior dX0_settle_76) (z_c (ok_putf (C := RX0) (T := TX0) (N := 5) false tyX0 tyX0_ok nmX0 rfl (by decide) zinX0 rfl zw_66 rfl (fun h => absurd h (by decide)) rfl dX0_settle_77) (z_c (ok_iinc (v := (1)) dX0_settle_80 (by decide)) (z_c (ok_goto dX0_settle_83 (by decide)) z_n))))))))))))
noncomputable def tX0_settle_4 : List (Nat × zF) := [(86, (zla4 0 1)), (87, (zgf 0 3)), (90, (zla4 0 1)), (91, (zgf 0 4)), (94, (zst 1 z_ior)), (95, (zsi4 4 2 1)), (96, (zst 1 (zp (.int (0))))), (97, (zsi4 4 3 1)), (98, (zli4 3 1)), (99, (zla4 0 1)), (100, (zgf 0 0)), (103, (zgf 4 7))]
theorem kX0_settle_4 : ∀ q ∈ tX0_settle_4, zOk zg iX0_settle q.1 q.2 := (z_c (ok_aload_n dX0_settle_86 rfl) (z_c (ok_getf (C := RX0) (T := TX0) (N := 5) rfl (by decide) zinX0 rfl zw_66 dX0_settle_87) (z_c (ok_aload_n dX0_settle_90 rfl) (z_c (ok_getf (C := RX0) (T := TX0) (N := 5) rfl (by decide) zinX0 rfl zw_67 dX0_settle_91) (z_c (ok_ior dX0_settle_94) (z_c (ok_istore_n dX0_settle_95 rfl) (z_c (ok_iconst (v := (0)) dX0_settle_96 (by decide)) (z_c (ok_istore_n dX0_settle_97 rfl) (z_c (ok_iload_n dX0_settle_98 rfl) (z_c (ok_aload_n dX0_settle_99 rfl) (z_c (ok_getf (C := RX0) (T := TX0) (N := 5) rfl (by decide) zinX0 rfl zw_10 dX0_settle_100) (z_c (ok_getf (C := RX4) (T := TX4) (N := 18) rfl (by decide) zinX4 rfl zw_23 dX0_settle_103) z_n))))))))))))
noncomputable def tX0_settle_5 : List (Nat × zF) := [(106, (z_ic_ge 146)), (109, (zla4 1 1)), (110, (zgf 8 2)), (113, (zli4 3 1)), (114, (zli4 2 1)), (115, (zli4 3 1)), (116, (zst 1 z_ishr)), (117, (zst 1 (zp (.int (1))))), (118, (zst 1 z_iand)), (119, (z_if_eq 126)), (122, (zst 1 (zp (.int (0))))), (123, (zgt 139))]
theorem kX0_settle_5 : ∀ q ∈ tX0_settle_5, zOk zg iX0_settle q.1 q.2 := (z_c (ok_icmp_ge dX0_settle_106 (by decide)) (z_c (ok_aload_n dX0_settle_109 rfl) (z_c (ok_getf (C := RX8) (T := TX8) (N := 6) rfl (by decide) zinX8 rfl zw_74 dX0_settle_110) (z_c (ok_iload_n dX0_settle_113 rfl) (z_c (ok_iload_n dX0_settle_114 rfl) (z_c (ok_iload_n dX0_settle_115 rfl) (z_c (ok_ishr dX0_settle_116) (z_c (ok_iconst (v := (1)) dX0_settle_117 (by decide)) (z_c (ok_iand dX0_settle_118) (z_c (ok_if_eq dX0_settle_119 (by decide)) (z_c (ok_iconst (v := (0)) dX0_settle_122 (by decide)) (z_c (ok_goto dX0_settle_123 (by decide)) z_n))))))))))))
noncomputable def tX0_settle_6 : List (Nat × zF) := [(126, (zst 2 (zp (.int (99))))), (128, (zla4 1 1)), (129, (zgf 8 2)), (132, (zli4 3 1)), (133, (zal 0)), (134, (zst 1 (zp (.int (1))))), (135, (zst 1 z_iadd)), (136, zmmin), (139, (zas 0)), (140, (zin4 4 3 (1))), (143, (zgt 98)), (146, (zla4 1 1))]
theorem kX0_settle_6 : ∀ q ∈ tX0_settle_6, zOk zg iX0_settle q.1 q.2 := (z_c (ok_bipush (v := (99)) dX0_settle_126 (by decide)) (z_c (ok_aload_n dX0_settle_128 rfl) (z_c (ok_getf (C := RX8) (T := TX8) (N := 6) rfl (by decide) zinX8 rfl zw_74 dX0_settle_129) (z_c (ok_iload_n dX0_settle_132 rfl) (z_c (ok_iaload rfl dX0_settle_133) (z_c (ok_iconst (v := (1)) dX0_settle_134 (by decide)) (z_c (ok_iadd dX0_settle_135) (z_c (ok_mmin zw_47 zw_48 zw_49 zw_50 dX0_settle_136) (z_c (ok_iastore rfl dX0_settle_139) (z_c (ok_iinc (v := (1)) dX0_settle_140 (by decide)) (z_c (ok_goto dX0_settle_143 (by decide)) (z_c (ok_aload_n dX0_settle_146 rfl) z_n))))))))))))
noncomputable def tX0_settle_7 : List (Nat × zF) := [(147, (zst 1 zdu)), (148, (zgf 8 1)), (151, (zli4 2 1)), (152, (zst 1 z_ixor)), (153, (zpf 8 1 (.int))), (156, (zla4 1 1)), (157, (zst 3 (zp (.int (999))))), (160, (zla4 1 1)), (161, (zgf 8 0)), (164, (zst 1 (zp (.int (1))))), (165, (zst 1 z_iadd)), (166, zmmin)]
theorem kX0_settle_7 : ∀ q ∈ tX0_settle_7, zOk zg iX0_settle q.1 q.2 := (z_c (ok_dup dX0_settle_147) (z_c (ok_getf (C := RX8) (T := TX8) (N := 6) rfl (by decide) zinX8 rfl zw_75 dX0_settle_148) (z_c (ok_iload_n dX0_settle_151 rfl) (z_c (ok_ixor dX0_settle_152) (z_c (ok_putf (C := RX8) (T := TX8) (N := 6) false tyX8 tyX8_ok nmX8 rfl (by decide) zinX8 rfl zw_75 rfl (fun h => absurd h (by decide)) rfl dX0_settle_153) (z_c (ok_aload_n dX0_settle_156 rfl) (z_c (ok_sipush (v := (999)) dX0_settle_157 (by decide)) (z_c (ok_aload_n dX0_settle_160 rfl) (z_c (ok_getf (C := RX8) (T := TX8) (N := 6) rfl (by decide) zinX8 rfl zw_76 dX0_settle_161) (z_c (ok_iconst (v := (1)) dX0_settle_164 (by decide)) (z_c (ok_iadd dX0_settle_165) (z_c (ok_mmin zw_47 zw_48 zw_49 zw_50 dX0_settle_166) z_n))))))))))))
noncomputable def tX0_settle_8 : List (Nat × zF) := [(169, (zpf 8 0 (.int))), (172, zrv)]
theorem kX0_settle_8 : ∀ q ∈ tX0_settle_8, zOk zg iX0_settle q.1 q.2 := (z_c (ok_putf (C := RX8) (T := TX8) (N := 6) false tyX8 tyX8_ok nmX8 rfl (by decide) zinX8 rfl zw_76 rfl (fun h => absurd h (by decide)) rfl dX0_settle_169) (z_c (ok_return rfl dX0_settle_172) z_n))
noncomputable def tX0_settle : zT := [(20, tX0_settle_0), (42, tX0_settle_1), (62, tX0_settle_2), (86, tX0_settle_3), (106, tX0_settle_4), (126, tX0_settle_5), (147, tX0_settle_6), (169, tX0_settle_7), (100000, tX0_settle_8)]
theorem kX0_settle : zTok zg iX0_settle tX0_settle := (z_t kX0_settle_0 (z_t kX0_settle_1 (z_t kX0_settle_2 (z_t kX0_settle_3 (z_t kX0_settle_4 (z_t kX0_settle_5 (z_t kX0_settle_6 (z_t kX0_settle_7 (z_t kX0_settle_8 z_tn)))))))))
theorem dX0_isFound_0 : decode cX0_isFound 0 = .ok (.aload_n 0, 1) := by decide +kernel
theorem dX0_isFound_1 : decode cX0_isFound 1 = .ok (.getfield 22, 3) := by decide +kernel
theorem dX0_isFound_4 : decode cX0_isFound 4 = .ok (.getfield 71, 3) := by decide +kernel
theorem dX0_isFound_7 : decode cX0_isFound 7 = .ok (.iconst 1, 1) := by decide +kernel
theorem dX0_isFound_8 : decode cX0_isFound 8 = .ok (.invokevirtual 75, 3) := by decide +kernel
theorem dX0_isFound_11 : decode cX0_isFound 11 = .ok (.ifCond .ne 18, 3) := by decide +kernel
theorem dX0_isFound_14 : decode cX0_isFound 14 = .ok (.aload_n 0, 1) := by decide +kernel
theorem dX0_isFound_15 : decode cX0_isFound 15 = .ok (.aload_n 1, 1) := by decide +kernel
theorem dX0_isFound_16 : decode cX0_isFound 16 = .ok (.iload_n 2, 1) := by decide +kernel
theorem dX0_isFound_17 : decode cX0_isFound 17 = .ok (.invokevirtual 149, 3) := by decide +kernel
theorem dX0_isFound_20 : decode cX0_isFound 20 = .ok (.ifCond .le 7, 3) := by decide +kernel
theorem dX0_isFound_23 : decode cX0_isFound 23 = .ok (.iconst 1, 1) := by decide +kernel
theorem dX0_isFound_24 : decode cX0_isFound 24 = .ok (.goto 4, 3) := by decide +kernel
theorem dX0_isFound_27 : decode cX0_isFound 27 = .ok (.iconst 0, 1) := by decide +kernel
theorem dX0_isFound_28 : decode cX0_isFound 28 = .ok (.ireturn, 1) := by decide +kernel
theorem dX0_isFound_29 : decode cX0_isFound 29 = .ok (.aload_n 0, 1) := by decide +kernel
theorem dX0_isFound_30 : decode cX0_isFound 30 = .ok (.aload_n 1, 1) := by decide +kernel
theorem dX0_isFound_31 : decode cX0_isFound 31 = .ok (.iload_n 2, 1) := by decide +kernel
theorem dX0_isFound_32 : decode cX0_isFound 32 = .ok (.invokevirtual 83, 3) := by decide +kernel
theorem dX0_isFound_35 : decode cX0_isFound 35 = .ok (.aload_n 0, 1) := by decide +kernel
theorem dX0_isFound_36 : decode cX0_isFound 36 = .ok (.getfield 12, 3) := by decide +kernel
theorem dX0_isFound_39 : decode cX0_isFound 39 = .ok (.aload_n 0, 1) := by decide +kernel
theorem dX0_isFound_40 : decode cX0_isFound 40 = .ok (.aload_n 1, 1) := by decide +kernel
theorem dX0_isFound_41 : decode cX0_isFound 41 = .ok (.iload_n 2, 1) := by decide +kernel
theorem dX0_isFound_42 : decode cX0_isFound 42 = .ok (.invokevirtual 149, 3) := by decide +kernel
theorem dX0_isFound_45 : decode cX0_isFound 45 = .ok (.putfield 152, 3) := by decide +kernel
theorem dX0_isFound_48 : decode cX0_isFound 48 = .ok (.aload_n 0, 1) := by decide +kernel
theorem dX0_isFound_49 : decode cX0_isFound 49 = .ok (.getfield 12, 3) := by decide +kernel
theorem dX0_isFound_52 : decode cX0_isFound 52 = .ok (.aload_n 0, 1) := by decide +kernel
theorem dX0_isFound_53 : decode cX0_isFound 53 = .ok (.getfield 22, 3) := by decide +kernel
theorem dX0_isFound_56 : decode cX0_isFound 56 = .ok (.getfield 71, 3) := by decide +kernel
theorem dX0_isFound_59 : decode cX0_isFound 59 = .ok (.iconst 1, 1) := by decide +kernel
theorem dX0_isFound_60 : decode cX0_isFound 60 = .ok (.invokevirtual 87, 3) := by decide +kernel
theorem dX0_isFound_63 : decode cX0_isFound 63 = .ok (.ifCond .eq 7, 3) := by decide +kernel
theorem dX0_isFound_66 : decode cX0_isFound 66 = .ok (.iconst 1, 1) := by decide +kernel
theorem dX0_isFound_67 : decode cX0_isFound 67 = .ok (.goto 4, 3) := by decide +kernel
theorem dX0_isFound_70 : decode cX0_isFound 70 = .ok (.iconst 0, 1) := by decide +kernel
theorem dX0_isFound_71 : decode cX0_isFound 71 = .ok (.ireturn, 1) := by decide +kernel
noncomputable def tX0_isFound_0 : List (Nat × zF) := [(0, (zla4 0 1)), (1, (zgf 0 0)), (4, (zgf 4 17)), (7, (zst 1 (zp (.int (1))))), (8, (zcv 75 1 7)), (11, (z_if_ne 29)), (14, (zla4 0 1)), (15, (zla4 1 1)), (16, (zli4 2 1)), (17, (zcv 16 2 0)), (20, (z_if_le 27)), (23, (zst 1 (zp (.int (1)))))]
theorem kX0_isFound_0 : ∀ q ∈ tX0_isFound_0, zOk zg iX0_isFound q.1 q.2 := (z_c (ok_aload_n dX0_isFound_0 rfl) (z_c (ok_getf (C := RX0) (T := TX0) (N := 5) rfl (by decide) zinX0 rfl zw_10 dX0_isFound_1) (z_c (ok_getf (C := RX4) (T := TX4) (N := 18) rfl (by decide) zinX4 rfl zw_34 dX0_isFound_4) (z_c (ok_iconst (v := (1)) dX0_isFound_7 (by decide)) (z_c (ok_callV zcal_75 (q := (RX7, TX7, 4)) rfl zw_35 zw_36 zw_37 dX0_isFound_8) (z_c (ok_if_ne dX0_isFound_11 (by decide)) (z_c (ok_aload_n dX0_isFound_14 rfl) (z_c (ok_aload_n dX0_isFound_15 rfl) (z_c (ok_iload_n dX0_isFound_16 rfl) (z_c (ok_callV zcal_16 (q := (RX0, TX0, 5)) rfl zw_77 zw_78 zw_79 dX0_isFound_17) (z_c (ok_if_le dX0_isFound_20 (by decide)) (z_c (ok_iconst (v := (1)) dX0_isFound_23 (by decide)) z_n))))))))))))
noncomputable def tX0_isFound_1 : List (Nat × zF) := [(24, (zgt 28)), (27, (zst 1 (zp (.int (0))))), (28, (zri true)), (29, (zla4 0 1)), (30, (zla4 1 1)), (31, (zli4 2 1)), (32, (zcv 14 2 0)), (35, (zla4 0 1)), (36, (zgf 0 1)), (39, (zla4 0 1)), (40, (zla4 1 1)), (41, (zli4 2 1))]
theorem kX0_isFound_1 : ∀ q ∈ tX0_isFound_1, zOk zg iX0_isFound q.1 q.2 := (z_c (ok_goto dX0_isFound_24 (by decide)) (z_c (ok_iconst (v := (0)) dX0_isFound_27 (by decide)) (z_c (ok_zreturn rfl dX0_isFound_28) (z_c (ok_aload_n dX0_isFound_29 rfl) (z_c (ok_aload_n dX0_isFound_30 rfl) (z_c (ok_iload_n dX0_isFound_31 rfl) (z_c (ok_callV zcal_14 (q := (RX0, TX0, 5)) rfl zw_41 zw_42 zw_43 dX0_isFound_32) (z_c (ok_aload_n dX0_isFound_35 rfl) (z_c (ok_getf (C := RX0) (T := TX0) (N := 5) rfl (by decide) zinX0 rfl zw_7 dX0_isFound_36) (z_c (ok_aload_n dX0_isFound_39 rfl) (z_c (ok_aload_n dX0_isFound_40 rfl) (z_c (ok_iload_n dX0_isFound_41 rfl) z_n))))))))))))
noncomputable def tX0_isFound_2 : List (Nat × zF) := [(42, (zcv 16 2 0)), (45, (zpf 6 6 (.int))), (48, (zla4 0 1)), (49, (zgf 0 1)), (52, (zla4 0 1)), (53, (zgf 0 0)), (56, (zgf 4 17)), (59, (zst 1 (zp (.int (1))))), (60, (zcv 69 2 6)), (63, (z_if_eq 70)), (66, (zst 1 (zp (.int (1))))), (67, (zgt 71))]
theorem kX0_isFound_2 : ∀ q ∈ tX0_isFound_2, zOk zg iX0_isFound q.1 q.2 := (z_c (ok_callV zcal_16 (q := (RX0, TX0, 5)) rfl zw_77 zw_78 zw_79 dX0_isFound_42) (z_c (ok_putf (C := RX6) (T := TX6) (N := 7) false tyX6 tyX6_ok nmX6 rfl (by decide) zinX6 rfl zw_80 rfl (fun h => absurd h (by decide)) rfl dX0_isFound_45) (z_c (ok_aload_n dX0_isFound_48 rfl) (z_c (ok_getf (C := RX0) (T := TX0) (N := 5) rfl (by decide) zinX0 rfl zw_7 dX0_isFound_49) (z_c (ok_aload_n dX0_isFound_52 rfl) (z_c (ok_getf (C := RX0) (T := TX0) (N := 5) rfl (by decide) zinX0 rfl zw_10 dX0_isFound_53) (z_c (ok_getf (C := RX4) (T := TX4) (N := 18) rfl (by decide) zinX4 rfl zw_34 dX0_isFound_56) (z_c (ok_iconst (v := (1)) dX0_isFound_59 (by decide)) (z_c (ok_callV zcal_69 (q := (RX6, TX6, 7)) rfl zw_44 zw_45 zw_46 dX0_isFound_60) (z_c (ok_if_eq dX0_isFound_63 (by decide)) (z_c (ok_iconst (v := (1)) dX0_isFound_66 (by decide)) (z_c (ok_goto dX0_isFound_67 (by decide)) z_n))))))))))))
noncomputable def tX0_isFound_3 : List (Nat × zF) := [(70, (zst 1 (zp (.int (0))))), (71, (zri true))]
theorem kX0_isFound_3 : ∀ q ∈ tX0_isFound_3, zOk zg iX0_isFound q.1 q.2 := (z_c (ok_iconst (v := (0)) dX0_isFound_70 (by decide)) (z_c (ok_zreturn rfl dX0_isFound_71) z_n))
noncomputable def tX0_isFound : zT := [(24, tX0_isFound_0), (42, tX0_isFound_1), (70, tX0_isFound_2), (100000, tX0_isFound_3)]
theorem kX0_isFound : zTok zg iX0_isFound tX0_isFound := (z_t kX0_isFound_0 (z_t kX0_isFound_1 (z_t kX0_isFound_2 (z_t kX0_isFound_3 z_tn))))
theorem dX0_isLost_0 : decode cX0_isLost 0 = .ok (.aload_n 0, 1) := by decide +kernel
theorem dX0_isLost_1 : decode cX0_isLost 1 = .ok (.getfield 22, 3) := by decide +kernel
theorem dX0_isLost_4 : decode cX0_isLost 4 = .ok (.getfield 71, 3) := by decide +kernel
theorem dX0_isLost_7 : decode cX0_isLost 7 = .ok (.iconst 2, 1) := by decide +kernel
theorem dX0_isLost_8 : decode cX0_isLost 8 = .ok (.invokevirtual 75, 3) := by decide +kernel
theorem dX0_isLost_11 : decode cX0_isLost 11 = .ok (.ifCond .ne 5, 3) := by decide +kernel
theorem dX0_isLost_14 : decode cX0_isLost 14 = .ok (.iconst 0, 1) := by decide +kernel
theorem dX0_isLost_15 : decode cX0_isLost 15 = .ok (.ireturn, 1) := by decide +kernel
theorem dX0_isLost_16 : decode cX0_isLost 16 = .ok (.aload_n 0, 1) := by decide +kernel
theorem dX0_isLost_17 : decode cX0_isLost 17 = .ok (.aload_n 1, 1) := by decide +kernel
theorem dX0_isLost_18 : decode cX0_isLost 18 = .ok (.iload_n 2, 1) := by decide +kernel
theorem dX0_isLost_19 : decode cX0_isLost 19 = .ok (.invokevirtual 83, 3) := by decide +kernel
theorem dX0_isLost_22 : decode cX0_isLost 22 = .ok (.aload_n 0, 1) := by decide +kernel
theorem dX0_isLost_23 : decode cX0_isLost 23 = .ok (.getfield 12, 3) := by decide +kernel
theorem dX0_isLost_26 : decode cX0_isLost 26 = .ok (.aload_n 0, 1) := by decide +kernel
theorem dX0_isLost_27 : decode cX0_isLost 27 = .ok (.getfield 22, 3) := by decide +kernel
theorem dX0_isLost_30 : decode cX0_isLost 30 = .ok (.getfield 71, 3) := by decide +kernel
theorem dX0_isLost_33 : decode cX0_isLost 33 = .ok (.iconst 2, 1) := by decide +kernel
theorem dX0_isLost_34 : decode cX0_isLost 34 = .ok (.invokevirtual 87, 3) := by decide +kernel
theorem dX0_isLost_37 : decode cX0_isLost 37 = .ok (.ifCond .eq 7, 3) := by decide +kernel
theorem dX0_isLost_40 : decode cX0_isLost 40 = .ok (.iconst 1, 1) := by decide +kernel
theorem dX0_isLost_41 : decode cX0_isLost 41 = .ok (.goto 4, 3) := by decide +kernel
theorem dX0_isLost_44 : decode cX0_isLost 44 = .ok (.iconst 0, 1) := by decide +kernel
theorem dX0_isLost_45 : decode cX0_isLost 45 = .ok (.ireturn, 1) := by decide +kernel
noncomputable def tX0_isLost_0 : List (Nat × zF) := [(0, (zla4 0 1)), (1, (zgf 0 0)), (4, (zgf 4 17)), (7, (zst 1 (zp (.int (2))))), (8, (zcv 75 1 7)), (11, (z_if_ne 16)), (14, (zst 1 (zp (.int (0))))), (15, (zri true)), (16, (zla4 0 1)), (17, (zla4 1 1)), (18, (zli4 2 1)), (19, (zcv 14 2 0))]
theorem kX0_isLost_0 : ∀ q ∈ tX0_isLost_0, zOk zg iX0_isLost q.1 q.2 := (z_c (ok_aload_n dX0_isLost_0 rfl) (z_c (ok_getf (C := RX0) (T := TX0) (N := 5) rfl (by decide) zinX0 rfl zw_10 dX0_isLost_1) (z_c (ok_getf (C := RX4) (T := TX4) (N := 18) rfl (by decide) zinX4 rfl zw_34 dX0_isLost_4) (z_c (ok_iconst (v := (2)) dX0_isLost_7 (by decide)) (z_c (ok_callV zcal_75 (q := (RX7, TX7, 4)) rfl zw_35 zw_36 zw_37 dX0_isLost_8) (z_c (ok_if_ne dX0_isLost_11 (by decide)) (z_c (ok_iconst (v := (0)) dX0_isLost_14 (by decide)) (z_c (ok_zreturn rfl dX0_isLost_15) (z_c (ok_aload_n dX0_isLost_16 rfl) (z_c (ok_aload_n dX0_isLost_17 rfl) (z_c (ok_iload_n dX0_isLost_18 rfl) (z_c (ok_callV zcal_14 (q := (RX0, TX0, 5)) rfl zw_41 zw_42 zw_43 dX0_isLost_19) z_n))))))))))))
noncomputable def tX0_isLost_1 : List (Nat × zF) := [(22, (zla4 0 1)), (23, (zgf 0 1)), (26, (zla4 0 1)), (27, (zgf 0 0)), (30, (zgf 4 17)), (33, (zst 1 (zp (.int (2))))), (34, (zcv 69 2 6)), (37, (z_if_eq 44)), (40, (zst 1 (zp (.int (1))))), (41, (zgt 45)), (44, (zst 1 (zp (.int (0))))), (45, (zri true))]
theorem kX0_isLost_1 : ∀ q ∈ tX0_isLost_1, zOk zg iX0_isLost q.1 q.2 := (z_c (ok_aload_n dX0_isLost_22 rfl) (z_c (ok_getf (C := RX0) (T := TX0) (N := 5) rfl (by decide) zinX0 rfl zw_7 dX0_isLost_23) (z_c (ok_aload_n dX0_isLost_26 rfl) (z_c (ok_getf (C := RX0) (T := TX0) (N := 5) rfl (by decide) zinX0 rfl zw_10 dX0_isLost_27) (z_c (ok_getf (C := RX4) (T := TX4) (N := 18) rfl (by decide) zinX4 rfl zw_34 dX0_isLost_30) (z_c (ok_iconst (v := (2)) dX0_isLost_33 (by decide)) (z_c (ok_callV zcal_69 (q := (RX6, TX6, 7)) rfl zw_44 zw_45 zw_46 dX0_isLost_34) (z_c (ok_if_eq dX0_isLost_37 (by decide)) (z_c (ok_iconst (v := (1)) dX0_isLost_40 (by decide)) (z_c (ok_goto dX0_isLost_41 (by decide)) (z_c (ok_iconst (v := (0)) dX0_isLost_44 (by decide)) (z_c (ok_zreturn rfl dX0_isLost_45) z_n))))))))))))
noncomputable def tX0_isLost : zT := [(22, tX0_isLost_0), (100000, tX0_isLost_1)]
theorem kX0_isLost : zTok zg iX0_isLost tX0_isLost := (z_t kX0_isLost_0 (z_t kX0_isLost_1 z_tn))
theorem dX0_setOut_0 : decode cX0_setOut 0 = .ok (.aload_n 0, 1) := by decide +kernel
theorem dX0_setOut_1 : decode cX0_setOut 1 = .ok (.getfield 12, 3) := by decide +kernel
theorem dX0_setOut_4 : decode cX0_setOut 4 = .ok (.aload_n 1, 1) := by decide +kernel
theorem dX0_setOut_5 : decode cX0_setOut 5 = .ok (.getfield 146, 3) := by decide +kernel
theorem dX0_setOut_8 : decode cX0_setOut 8 = .ok (.putfield 154, 3) := by decide +kernel
theorem dX0_setOut_11 : decode cX0_setOut 11 = .ok (.aload_n 0, 1) := by decide +kernel
theorem dX0_setOut_12 : decode cX0_setOut 12 = .ok (.getfield 12, 3) := by decide +kernel
theorem dX0_setOut_15 : decode cX0_setOut 15 = .ok (.aload_n 0, 1) := by decide +kernel
theorem dX0_setOut_16 : decode cX0_setOut 16 = .ok (.aload_n 1, 1) := by decide +kernel
theorem dX0_setOut_17 : decode cX0_setOut 17 = .ok (.iload_n 2, 1) := by decide +kernel
theorem dX0_setOut_18 : decode cX0_setOut 18 = .ok (.invokevirtual 80, 3) := by decide +kernel
theorem dX0_setOut_21 : decode cX0_setOut 21 = .ok (.putfield 155, 3) := by decide +kernel
theorem dX0_setOut_24 : decode cX0_setOut 24 = .ok (.aload_n 0, 1) := by decide +kernel
theorem dX0_setOut_25 : decode cX0_setOut 25 = .ok (.getfield 12, 3) := by decide +kernel
theorem dX0_setOut_28 : decode cX0_setOut 28 = .ok (.aload_n 0, 1) := by decide +kernel
theorem dX0_setOut_29 : decode cX0_setOut 29 = .ok (.getfield 22, 3) := by decide +kernel
theorem dX0_setOut_32 : decode cX0_setOut 32 = .ok (.getfield 158, 3) := by decide +kernel
theorem dX0_setOut_35 : decode cX0_setOut 35 = .ok (.iload_n 2, 1) := by decide +kernel
theorem dX0_setOut_36 : decode cX0_setOut 36 = .ok (.iaload, 1) := by decide +kernel
theorem dX0_setOut_37 : decode cX0_setOut 37 = .ok (.putfield 161, 3) := by decide +kernel
theorem dX0_setOut_40 : decode cX0_setOut 40 = .ok (.aload_n 0, 1) := by decide +kernel
theorem dX0_setOut_41 : decode cX0_setOut 41 = .ok (.getfield 12, 3) := by decide +kernel
theorem dX0_setOut_44 : decode cX0_setOut 44 = .ok (.aload_n 1, 1) := by decide +kernel
theorem dX0_setOut_45 : decode cX0_setOut 45 = .ok (.getfield 140, 3) := by decide +kernel
theorem dX0_setOut_48 : decode cX0_setOut 48 = .ok (.iload_n 2, 1) := by decide +kernel
theorem dX0_setOut_49 : decode cX0_setOut 49 = .ok (.iaload, 1) := by decide +kernel
theorem dX0_setOut_50 : decode cX0_setOut 50 = .ok (.putfield 164, 3) := by decide +kernel
theorem dX0_setOut_53 : decode cX0_setOut 53 = .ok (.aload_n 0, 1) := by decide +kernel
theorem dX0_setOut_54 : decode cX0_setOut 54 = .ok (.getfield 12, 3) := by decide +kernel
theorem dX0_setOut_57 : decode cX0_setOut 57 = .ok (.aload_n 1, 1) := by decide +kernel
theorem dX0_setOut_58 : decode cX0_setOut 58 = .ok (.getfield 143, 3) := by decide +kernel
theorem dX0_setOut_61 : decode cX0_setOut 61 = .ok (.invokestatic 167, 3) := by decide +kernel
theorem dX0_setOut_64 : decode cX0_setOut 64 = .ok (.putfield 173, 3) := by decide +kernel
theorem dX0_setOut_67 : decode cX0_setOut 67 = .ok (.return_, 1) := by decide +kernel
noncomputable def tX0_setOut_0 : List (Nat × zF) := [(0, (zla4 0 1)), (1, (zgf 0 1)), (4, (zla4 1 1)), (5, (zgf 8 0)), (8, (zpf 6 1 (.int))), (11, (zla4 0 1)), (12, (zgf 0 1)), (15, (zla4 0 1)), (16, (zla4 1 1)), (17, (zli4 2 1)), (18, (zcv 15 2 0)), (21, (zpf 6 2 (.int)))]
theorem kX0_setOut_0 : ∀ q ∈ tX0_setOut_0, zOk zg iX0_setOut q.1 q.2 := (z_c (ok_aload_n dX0_setOut_0 rfl) (z_c (ok_getf (C := RX0) (T := TX0) (N := 5) rfl (by decide) zinX0 rfl zw_7 dX0_setOut_1) (z_c (ok_aload_n dX0_setOut_4 rfl) (z_c (ok_getf (C := RX8) (T := TX8) (N := 6) rfl (by decide) zinX8 rfl zw_76 dX0_setOut_5) (z_c (ok_putf (C := RX6) (T := TX6) (N := 7) false tyX6 tyX6_ok nmX6 rfl (by decide) zinX6 rfl zw_81 rfl (fun h => absurd h (by decide)) rfl dX0_setOut_8) (z_c (ok_aload_n dX0_setOut_11 rfl) (z_c (ok_getf (C := RX0) (T := TX0) (N := 5) rfl (by decide) zinX0 rfl zw_7 dX0_setOut_12) (z_c (ok_aload_n dX0_setOut_15 rfl) (z_c (ok_aload_n dX0_setOut_16 rfl) (z_c (ok_iload_n dX0_setOut_17 rfl) (z_c (ok_callV zcal_15 (q := (RX0, TX0, 5)) rfl zw_38 zw_39 zw_40 dX0_setOut_18) (z_c (ok_putf (C := RX6) (T := TX6) (N := 7) false tyX6 tyX6_ok nmX6 rfl (by decide) zinX6 rfl zw_82 rfl (fun h => absurd h (by decide)) rfl dX0_setOut_21) z_n))))))))))))
noncomputable def tX0_setOut_1 : List (Nat × zF) := [(24, (zla4 0 1)), (25, (zgf 0 1)), (28, (zla4 0 1)), (29, (zgf 0 0)), (32, (zgf 4 11)), (35, (zli4 2 1)), (36, (zal 0)), (37, (zpf 6 3 (.int))), (40, (zla4 0 1)), (41, (zgf 0 1)), (44, (zla4 1 1)), (45, (zgf 8 2))]
theorem kX0_setOut_1 : ∀ q ∈ tX0_setOut_1, zOk zg iX0_setOut q.1 q.2 := (z_c (ok_aload_n dX0_setOut_24 rfl) (z_c (ok_getf (C := RX0) (T := TX0) (N := 5) rfl (by decide) zinX0 rfl zw_7 dX0_setOut_25) (z_c (ok_aload_n dX0_setOut_28 rfl) (z_c (ok_getf (C := RX0) (T := TX0) (N := 5) rfl (by decide) zinX0 rfl zw_10 dX0_setOut_29) (z_c (ok_getf (C := RX4) (T := TX4) (N := 18) rfl (by decide) zinX4 rfl zw_83 dX0_setOut_32) (z_c (ok_iload_n dX0_setOut_35 rfl) (z_c (ok_iaload rfl dX0_setOut_36) (z_c (ok_putf (C := RX6) (T := TX6) (N := 7) false tyX6 tyX6_ok nmX6 rfl (by decide) zinX6 rfl zw_84 rfl (fun h => absurd h (by decide)) rfl dX0_setOut_37) (z_c (ok_aload_n dX0_setOut_40 rfl) (z_c (ok_getf (C := RX0) (T := TX0) (N := 5) rfl (by decide) zinX0 rfl zw_7 dX0_setOut_41) (z_c (ok_aload_n dX0_setOut_44 rfl) (z_c (ok_getf (C := RX8) (T := TX8) (N := 6) rfl (by decide) zinX8 rfl zw_74 dX0_setOut_45) z_n))))))))))))
noncomputable def tX0_setOut_2 : List (Nat × zF) := [(48, (zli4 2 1)), (49, (zal 0)), (50, (zpf 6 4 (.int))), (53, (zla4 0 1)), (54, (zgf 0 1)), (57, (zla4 1 1)), (58, (zgf 8 1)), (61, (zcs 279 1)), (64, (zpf 6 5 (.int))), (67, zrv)]
theorem kX0_setOut_2 : ∀ q ∈ tX0_setOut_2, zOk zg iX0_setOut q.1 q.2 := (z_c (ok_iload_n dX0_setOut_48 rfl) (z_c (ok_iaload rfl dX0_setOut_49) (z_c (ok_putf (C := RX6) (T := TX6) (N := 7) false tyX6 tyX6_ok nmX6 rfl (by decide) zinX6 rfl zw_85 rfl (fun h => absurd h (by decide)) rfl dX0_setOut_50) (z_c (ok_aload_n dX0_setOut_53 rfl) (z_c (ok_getf (C := RX0) (T := TX0) (N := 5) rfl (by decide) zinX0 rfl zw_7 dX0_setOut_54) (z_c (ok_aload_n dX0_setOut_57 rfl) (z_c (ok_getf (C := RX8) (T := TX8) (N := 6) rfl (by decide) zinX8 rfl zw_75 dX0_setOut_58) (z_c (ok_callS zcal_279 zw_86 zw_87 dX0_setOut_61) (z_c (ok_putf (C := RX6) (T := TX6) (N := 7) false tyX6 tyX6_ok nmX6 rfl (by decide) zinX6 rfl zw_88 rfl (fun h => absurd h (by decide)) rfl dX0_setOut_64) (z_c (ok_return rfl dX0_setOut_67) z_n))))))))))
noncomputable def tX0_setOut : zT := [(24, tX0_setOut_0), (48, tX0_setOut_1), (100000, tX0_setOut_2)]
theorem kX0_setOut : zTok zg iX0_setOut tX0_setOut := (z_t kX0_setOut_0 (z_t kX0_setOut_1 (z_t kX0_setOut_2 z_tn)))
theorem dX0_hueOf_0 : decode cX0_hueOf 0 = .ok (.iload_n 2, 1) := by decide +kernel
theorem dX0_hueOf_1 : decode cX0_hueOf 1 = .ok (.aload_n 1, 1) := by decide +kernel
theorem dX0_hueOf_2 : decode cX0_hueOf 2 = .ok (.getfield 176, 3) := by decide +kernel
theorem dX0_hueOf_5 : decode cX0_hueOf 5 = .ok (.if_icmp .ne 10, 3) := by decide +kernel
theorem dX0_hueOf_8 : decode cX0_hueOf 8 = .ok (.aload_n 1, 1) := by decide +kernel
theorem dX0_hueOf_9 : decode cX0_hueOf 9 = .ok (.getfield 179, 3) := by decide +kernel
theorem dX0_hueOf_12 : decode cX0_hueOf 12 = .ok (.goto 12, 3) := by decide +kernel
theorem dX0_hueOf_15 : decode cX0_hueOf 15 = .ok (.aload_n 0, 1) := by decide +kernel
theorem dX0_hueOf_16 : decode cX0_hueOf 16 = .ok (.getfield 22, 3) := by decide +kernel
theorem dX0_hueOf_19 : decode cX0_hueOf 19 = .ok (.getfield 182, 3) := by decide +kernel
theorem dX0_hueOf_22 : decode cX0_hueOf 22 = .ok (.iload_n 2, 1) := by decide +kernel
theorem dX0_hueOf_23 : decode cX0_hueOf 23 = .ok (.iaload, 1) := by decide +kernel
theorem dX0_hueOf_24 : decode cX0_hueOf 24 = .ok (.ireturn, 1) := by decide +kernel
noncomputable def tX0_hueOf_0 : List (Nat × zF) := [(0, (zli4 2 1)), (1, (zla4 1 1)), (2, (zgf 8 4)), (5, (z_ic_ne 15)), (8, (zla4 1 1)), (9, (zgf 8 5)), (12, (zgt 24)), (15, (zla4 0 1)), (16, (zgf 0 0)), (19, (zgf 4 10)), (22, (zli4 2 1)), (23, (zal 0))]
theorem kX0_hueOf_0 : ∀ q ∈ tX0_hueOf_0, zOk zg iX0_hueOf q.1 q.2 := (z_c (ok_iload_n dX0_hueOf_0 rfl) (z_c (ok_aload_n dX0_hueOf_1 rfl) (z_c (ok_getf (C := RX8) (T := TX8) (N := 6) rfl (by decide) zinX8 rfl zw_89 dX0_hueOf_2) (z_c (ok_icmp_ne dX0_hueOf_5 (by decide)) (z_c (ok_aload_n dX0_hueOf_8 rfl) (z_c (ok_getf (C := RX8) (T := TX8) (N := 6) rfl (by decide) zinX8 rfl zw_90 dX0_hueOf_9) (z_c (ok_goto dX0_hueOf_12 (by decide)) (z_c (ok_aload_n dX0_hueOf_15 rfl) (z_c (ok_getf (C := RX0) (T := TX0) (N := 5) rfl (by decide) zinX0 rfl zw_10 dX0_hueOf_16) (z_c (ok_getf (C := RX4) (T := TX4) (N := 18) rfl (by decide) zinX4 rfl zw_91 dX0_hueOf_19) (z_c (ok_iload_n dX0_hueOf_22 rfl) (z_c (ok_iaload rfl dX0_hueOf_23) z_n))))))))))))
noncomputable def tX0_hueOf_1 : List (Nat × zF) := [(24, (zri false))]
theorem kX0_hueOf_1 : ∀ q ∈ tX0_hueOf_1, zOk zg iX0_hueOf q.1 q.2 := (z_c (ok_ireturn rfl dX0_hueOf_24) z_n)
noncomputable def tX0_hueOf : zT := [(24, tX0_hueOf_0), (100000, tX0_hueOf_1)]
theorem kX0_hueOf : zTok zg iX0_hueOf tX0_hueOf := (z_t kX0_hueOf_0 (z_t kX0_hueOf_1 z_tn))
theorem dX0_near_0 : decode cX0_near 0 = .ok (.iconst 0, 1) := by decide +kernel
theorem dX0_near_1 : decode cX0_near 1 = .ok (.istore_n 3, 1) := by decide +kernel
theorem dX0_near_2 : decode cX0_near 2 = .ok (.iconst 0, 1) := by decide +kernel
theorem dX0_near_3 : decode cX0_near 3 = .ok (.istore 4, 2) := by decide +kernel
theorem dX0_near_5 : decode cX0_near 5 = .ok (.iload 4, 2) := by decide +kernel
theorem dX0_near_7 : decode cX0_near 7 = .ok (.aload_n 0, 1) := by decide +kernel
theorem dX0_near_8 : decode cX0_near 8 = .ok (.getfield 22, 3) := by decide +kernel
theorem dX0_near_11 : decode cX0_near 11 = .ok (.getfield 30, 3) := by decide +kernel
theorem dX0_near_14 : decode cX0_near 14 = .ok (.if_icmp .ge 31, 3) := by decide +kernel
theorem dX0_near_17 : decode cX0_near 17 = .ok (.aload_n 1, 1) := by decide +kernel
theorem dX0_near_18 : decode cX0_near 18 = .ok (.getfield 36, 3) := by decide +kernel
theorem dX0_near_21 : decode cX0_near 21 = .ok (.iload 4, 2) := by decide +kernel
theorem dX0_near_23 : decode cX0_near 23 = .ok (.iaload, 1) := by decide +kernel
theorem dX0_near_24 : decode cX0_near 24 = .ok (.aload_n 0, 1) := by decide +kernel
theorem dX0_near_25 : decode cX0_near 25 = .ok (.getfield 22, 3) := by decide +kernel
theorem dX0_near_28 : decode cX0_near 28 = .ok (.getfield 60, 3) := by decide +kernel
theorem dX0_near_31 : decode cX0_near 31 = .ok (.iload_n 2, 1) := by decide +kernel
theorem dX0_near_32 : decode cX0_near 32 = .ok (.iaload, 1) := by decide +kernel
theorem dX0_near_33 : decode cX0_near 33 = .ok (.if_icmp .ne 6, 3) := by decide +kernel
theorem dX0_near_36 : decode cX0_near 36 = .ok (.iinc 3 1, 3) := by decide +kernel
theorem dX0_near_39 : decode cX0_near 39 = .ok (.iinc 4 1, 3) := by decide +kernel
theorem dX0_near_42 : decode cX0_near 42 = .ok (.goto (-37), 3) := by decide +kernel
theorem dX0_near_45 : decode cX0_near 45 = .ok (.iload_n 3, 1) := by decide +kernel
theorem dX0_near_46 : decode cX0_near 46 = .ok (.ireturn, 1) := by decide +kernel
noncomputable def tX0_near_0 : List (Nat × zF) := [(0, (zst 1 (zp (.int (0))))), (1, (zsi4 5 3 1)), (2, (zst 1 (zp (.int (0))))), (3, (zsi4 5 4 2)), (5, (zli4 4 2)), (7, (zla4 0 1)), (8, (zgf 0 0)), (11, (zgf 4 13)), (14, (z_ic_ge 45)), (17, (zla4 1 1)), (18, (zgf 8 3)), (21, (zli4 4 2))]
theorem kX0_near_0 : ∀ q ∈ tX0_near_0, zOk zg iX0_near q.1 q.2 := (z_c (ok_iconst (v := (0)) dX0_near_0 (by decide)) (z_c (ok_istore_n dX0_near_1 rfl) (z_c (ok_iconst (v := (0)) dX0_near_2 (by decide)) (z_c (ok_istore dX0_near_3) (z_c (ok_iload dX0_near_5) (z_c (ok_aload_n dX0_near_7 rfl) (z_c (ok_getf (C := RX0) (T := TX0) (N := 5) rfl (by decide) zinX0 rfl zw_10 dX0_near_8) (z_c (ok_getf (C := RX4) (T := TX4) (N := 18) rfl (by decide) zinX4 rfl zw_14 dX0_near_11) (z_c (ok_icmp_ge dX0_near_14 (by decide)) (z_c (ok_aload_n dX0_near_17 rfl) (z_c (ok_getf (C := RX8) (T := TX8) (N := 6) rfl (by decide) zinX8 rfl zw_15 dX0_near_18) (z_c (ok_iload dX0_near_21) z_n))))))))))))
noncomputable def tX0_near_1 : List (Nat × zF) := [(23, (zal 0)), (24, (zla4 0 1)), (25, (zgf 0 0)), (28, (zgf 4 9)), (31, (zli4 2 1)), (32, (zal 0)), (33, (z_ic_ne 39)), (36, (zin4 5 3 (1))), (39, (zin4 5 4 (1))), (42, (zgt 5)), (45, (zli4 3 1)), (46, (zri false))]
theorem kX0_near_1 : ∀ q ∈ tX0_near_1, zOk zg iX0_near q.1 q.2 := (z_c (ok_iaload rfl dX0_near_23) (z_c (ok_aload_n dX0_near_24 rfl) (z_c (ok_getf (C := RX0) (T := TX0) (N := 5) rfl (by decide) zinX0 rfl zw_10 dX0_near_25) (z_c (ok_getf (C := RX4) (T := TX4) (N := 18) rfl (by decide) zinX4 rfl zw_27 dX0_near_28) (z_c (ok_iload_n dX0_near_31 rfl) (z_c (ok_iaload rfl dX0_near_32) (z_c (ok_icmp_ne dX0_near_33 (by decide)) (z_c (ok_iinc (v := (1)) dX0_near_36 (by decide)) (z_c (ok_iinc (v := (1)) dX0_near_39 (by decide)) (z_c (ok_goto dX0_near_42 (by decide)) (z_c (ok_iload_n dX0_near_45 rfl) (z_c (ok_ireturn rfl dX0_near_46) z_n))))))))))))
noncomputable def tX0_near : zT := [(23, tX0_near_0), (100000, tX0_near_1)]
theorem kX0_near : zTok zg iX0_near tX0_near := (z_t kX0_near_0 (z_t kX0_near_1 z_tn))
theorem dX0_isAtHome_0 : decode cX0_isAtHome 0 = .ok (.aload_n 1, 1) := by decide +kernel
theorem dX0_isAtHome_1 : decode cX0_isAtHome 1 = .ok (.getfield 36, 3) := by decide +kernel
theorem dX0_isAtHome_4 : decode cX0_isAtHome 4 = .ok (.iload_n 2, 1) := by decide +kernel
theorem dX0_isAtHome_5 : decode cX0_isAtHome 5 = .ok (.iaload, 1) := by decide +kernel
theorem dX0_isAtHome_6 : decode cX0_isAtHome 6 = .ok (.aload_n 0, 1) := by decide +kernel
theorem dX0_isAtHome_7 : decode cX0_isAtHome 7 = .ok (.getfield 22, 3) := by decide +kernel
theorem dX0_isAtHome_10 : decode cX0_isAtHome 10 = .ok (.getfield 42, 3) := by decide +kernel
theorem dX0_isAtHome_13 : decode cX0_isAtHome 13 = .ok (.iload_n 2, 1) := by decide +kernel
theorem dX0_isAtHome_14 : decode cX0_isAtHome 14 = .ok (.iaload, 1) := by decide +kernel
theorem dX0_isAtHome_15 : decode cX0_isAtHome 15 = .ok (.if_icmp .ne 7, 3) := by decide +kernel
theorem dX0_isAtHome_18 : decode cX0_isAtHome 18 = .ok (.iconst 1, 1) := by decide +kernel
theorem dX0_isAtHome_19 : decode cX0_isAtHome 19 = .ok (.goto 4, 3) := by decide +kernel
theorem dX0_isAtHome_22 : decode cX0_isAtHome 22 = .ok (.iconst 0, 1) := by decide +kernel
theorem dX0_isAtHome_23 : decode cX0_isAtHome 23 = .ok (.ireturn, 1) := by decide +kernel
noncomputable def tX0_isAtHome_0 : List (Nat × zF) := [(0, (zla4 1 1)), (1, (zgf 8 3)), (4, (zli4 2 1)), (5, (zal 0)), (6, (zla4 0 1)), (7, (zgf 0 0)), (10, (zgf 4 16)), (13, (zli4 2 1)), (14, (zal 0)), (15, (z_ic_ne 22)), (18, (zst 1 (zp (.int (1))))), (19, (zgt 23))]
theorem kX0_isAtHome_0 : ∀ q ∈ tX0_isAtHome_0, zOk zg iX0_isAtHome q.1 q.2 := (z_c (ok_aload_n dX0_isAtHome_0 rfl) (z_c (ok_getf (C := RX8) (T := TX8) (N := 6) rfl (by decide) zinX8 rfl zw_15 dX0_isAtHome_1) (z_c (ok_iload_n dX0_isAtHome_4 rfl) (z_c (ok_iaload rfl dX0_isAtHome_5) (z_c (ok_aload_n dX0_isAtHome_6 rfl) (z_c (ok_getf (C := RX0) (T := TX0) (N := 5) rfl (by decide) zinX0 rfl zw_10 dX0_isAtHome_7) (z_c (ok_getf (C := RX4) (T := TX4) (N := 18) rfl (by decide) zinX4 rfl zw_16 dX0_isAtHome_10) (z_c (ok_iload_n dX0_isAtHome_13 rfl) (z_c (ok_iaload rfl dX0_isAtHome_14) (z_c (ok_icmp_ne dX0_isAtHome_15 (by decide)) (z_c (ok_iconst (v := (1)) dX0_isAtHome_18 (by decide)) (z_c (ok_goto dX0_isAtHome_19 (by decide)) z_n))))))))))))
noncomputable def tX0_isAtHome_1 : List (Nat × zF) := [(22, (zst 1 (zp (.int (0))))), (23, (zri true))]
theorem kX0_isAtHome_1 : ∀ q ∈ tX0_isAtHome_1, zOk zg iX0_isAtHome q.1 q.2 := (z_c (ok_iconst (v := (0)) dX0_isAtHome_22 (by decide)) (z_c (ok_zreturn rfl dX0_isAtHome_23) z_n))
noncomputable def tX0_isAtHome : zT := [(22, tX0_isAtHome_0), (100000, tX0_isAtHome_1)]
theorem kX0_isAtHome : zTok zg iX0_isAtHome tX0_isAtHome := (z_t kX0_isAtHome_0 (z_t kX0_isAtHome_1 z_tn))
theorem dX0_countAtHome_0 : decode cX0_countAtHome 0 = .ok (.iconst 0, 1) := by decide +kernel
theorem dX0_countAtHome_1 : decode cX0_countAtHome 1 = .ok (.istore_n 2, 1) := by decide +kernel
theorem dX0_countAtHome_2 : decode cX0_countAtHome 2 = .ok (.iconst 0, 1) := by decide +kernel
theorem dX0_countAtHome_3 : decode cX0_countAtHome 3 = .ok (.istore_n 3, 1) := by decide +kernel
theorem dX0_countAtHome_4 : decode cX0_countAtHome 4 = .ok (.iload_n 3, 1) := by decide +kernel
theorem dX0_countAtHome_5 : decode cX0_countAtHome 5 = .ok (.aload_n 0, 1) := by decide +kernel
theorem dX0_countAtHome_6 : decode cX0_countAtHome 6 = .ok (.getfield 22, 3) := by decide +kernel
theorem dX0_countAtHome_9 : decode cX0_countAtHome 9 = .ok (.getfield 30, 3) := by decide +kernel
theorem dX0_countAtHome_12 : decode cX0_countAtHome 12 = .ok (.if_icmp .ge 21, 3) := by decide +kernel
theorem dX0_countAtHome_15 : decode cX0_countAtHome 15 = .ok (.aload_n 0, 1) := by decide +kernel
theorem dX0_countAtHome_16 : decode cX0_countAtHome 16 = .ok (.aload_n 1, 1) := by decide +kernel
theorem dX0_countAtHome_17 : decode cX0_countAtHome 17 = .ok (.iload_n 3, 1) := by decide +kernel
theorem dX0_countAtHome_18 : decode cX0_countAtHome 18 = .ok (.invokevirtual 185, 3) := by decide +kernel
theorem dX0_countAtHome_21 : decode cX0_countAtHome 21 = .ok (.ifCond .eq 6, 3) := by decide +kernel
theorem dX0_countAtHome_24 : decode cX0_countAtHome 24 = .ok (.iinc 2 1, 3) := by decide +kernel
theorem dX0_countAtHome_27 : decode cX0_countAtHome 27 = .ok (.iinc 3 1, 3) := by decide +kernel
theorem dX0_countAtHome_30 : decode cX0_countAtHome 30 = .ok (.goto (-26), 3) := by decide +kernel
theorem dX0_countAtHome_33 : decode cX0_countAtHome 33 = .ok (.iload_n 2, 1) := by decide +kernel
theorem dX0_countAtHome_34 : decode cX0_countAtHome 34 = .ok (.ireturn, 1) := by decide +kernel
noncomputable def tX0_countAtHome_0 : List (Nat × zF) := [(0, (zst 1 (zp (.int (0))))), (1, (zsi4 4 2 1)), (2, (zst 1 (zp (.int (0))))), (3, (zsi4 4 3 1)), (4, (zli4 3 1)), (5, (zla4 0 1)), (6, (zgf 0 0)), (9, (zgf 4 13)), (12, (z_ic_ge 33)), (15, (zla4 0 1)), (16, (zla4 1 1)), (17, (zli4 3 1))]
theorem kX0_countAtHome_0 : ∀ q ∈ tX0_countAtHome_0, zOk zg iX0_countAtHome q.1 q.2 := (z_c (ok_iconst (v := (0)) dX0_countAtHome_0 (by decide)) (z_c (ok_istore_n dX0_countAtHome_1 rfl) (z_c (ok_iconst (v := (0)) dX0_countAtHome_2 (by decide)) (z_c (ok_istore_n dX0_countAtHome_3 rfl) (z_c (ok_iload_n dX0_countAtHome_4 rfl) (z_c (ok_aload_n dX0_countAtHome_5 rfl) (z_c (ok_getf (C := RX0) (T := TX0) (N := 5) rfl (by decide) zinX0 rfl zw_10 dX0_countAtHome_6) (z_c (ok_getf (C := RX4) (T := TX4) (N := 18) rfl (by decide) zinX4 rfl zw_14 dX0_countAtHome_9) (z_c (ok_icmp_ge dX0_countAtHome_12 (by decide)) (z_c (ok_aload_n dX0_countAtHome_15 rfl) (z_c (ok_aload_n dX0_countAtHome_16 rfl) (z_c (ok_iload_n dX0_countAtHome_17 rfl) z_n))))))))))))
noncomputable def tX0_countAtHome_1 : List (Nat × zF) := [(18, (zcv 17 2 0)), (21, (z_if_eq 27)), (24, (zin4 4 2 (1))), (27, (zin4 4 3 (1))), (30, (zgt 4)), (33, (zli4 2 1)), (34, (zri false))]
theorem kX0_countAtHome_1 : ∀ q ∈ tX0_countAtHome_1, zOk zg iX0_countAtHome q.1 q.2 := (z_c (ok_callV zcal_17 (q := (RX0, TX0, 5)) rfl zw_92 zw_93 zw_94 dX0_countAtHome_18) (z_c (ok_if_eq dX0_countAtHome_21 (by decide)) (z_c (ok_iinc (v := (1)) dX0_countAtHome_24 (by decide)) (z_c (ok_iinc (v := (1)) dX0_countAtHome_27 (by decide)) (z_c (ok_goto dX0_countAtHome_30 (by decide)) (z_c (ok_iload_n dX0_countAtHome_33 rfl) (z_c (ok_ireturn rfl dX0_countAtHome_34) z_n)))))))
noncomputable def tX0_countAtHome : zT := [(18, tX0_countAtHome_0), (100000, tX0_countAtHome_1)]
theorem kX0_countAtHome : zTok zg iX0_countAtHome tX0_countAtHome := (z_t kX0_countAtHome_0 (z_t kX0_countAtHome_1 z_tn))
theorem dX1_init_0 : decode cX1_init 0 = .ok (.aload_n 0, 1) := by decide +kernel
theorem dX1_init_1 : decode cX1_init 1 = .ok (.invokespecial 3, 3) := by decide +kernel
theorem dX1_init_4 : decode cX1_init 4 = .ok (.aload_n 0, 1) := by decide +kernel
theorem dX1_init_5 : decode cX1_init 5 = .ok (.bipush 40, 2) := by decide +kernel
theorem dX1_init_7 : decode cX1_init 7 = .ok (.newarray .int, 2) := by decide +kernel
theorem dX1_init_9 : decode cX1_init 9 = .ok (.putfield 9, 3) := by decide +kernel
theorem dX1_init_12 : decode cX1_init 12 = .ok (.aload_n 0, 1) := by decide +kernel
theorem dX1_init_13 : decode cX1_init 13 = .ok (.bipush 40, 2) := by decide +kernel
theorem dX1_init_15 : decode cX1_init 15 = .ok (.newarray .int, 2) := by decide +kernel
theorem dX1_init_17 : decode cX1_init 17 = .ok (.putfield 15, 3) := by decide +kernel
theorem dX1_init_20 : decode cX1_init 20 = .ok (.aload_n 0, 1) := by decide +kernel
theorem dX1_init_21 : decode cX1_init 21 = .ok (.bipush 40, 2) := by decide +kernel
theorem dX1_init_23 : decode cX1_init 23 = .ok (.newarray .int, 2) := by decide +kernel
theorem dX1_init_25 : decode cX1_init 25 = .ok (.putfield 18, 3) := by decide +kernel
theorem dX1_init_28 : decode cX1_init 28 = .ok (.return_, 1) := by decide +kernel
noncomputable def tX1_init_0 : List (Nat × zF) := [(0, (zla4 0 1)), (1, zoi), (4, (zla4 0 1)), (5, (zst 2 (zp (.int (40))))), (7, (zna 0 4 zn_int 2)), (9, (zpf 1 0 (.array .int))), (12, (zla4 0 1)), (13, (zst 2 (zp (.int (40))))), (15, (zna 0 4 zn_int 2)), (17, (zpf 1 1 (.array .int))), (20, (zla4 0 1)), (21, (zst 2 (zp (.int (40)))))]
theorem kX1_init_0 : ∀ q ∈ tX1_init_0, zOk zg iX1_init q.1 q.2 := (z_c (ok_aload_n dX1_init_0 rfl) (z_c (ok_objInit zw_95 zw_1 zw_2 dX1_init_1) (z_c (ok_aload_n dX1_init_4 rfl) (z_c (ok_bipush (v := (40)) dX1_init_5 (by decide)) (z_c (ok_newa (ty := .int) rfl rfl (fun _ h => by cases h) zw_96 rfl zn_int_c zn_int_n dX1_init_7) (z_c (ok_putf (C := RX1) (T := TX1) (N := 4) true tyX1 tyX1_ok nmX1 rfl (by decide) zinX1 rfl zw_97 rfl (fun _ => ⟨rfl, rfl⟩) rfl dX1_init_9) (z_c (ok_aload_n dX1_init_12 rfl) (z_c (ok_bipush (v := (40)) dX1_init_13 (by decide)) (z_c (ok_newa (ty := .int) rfl rfl (fun _ h => by cases h) zw_96 rfl zn_int_c zn_int_n dX1_init_15) (z_c (ok_putf (C := RX1) (T := TX1) (N := 4) true tyX1 tyX1_ok nmX1 rfl (by decide) zinX1 rfl zw_98 rfl (fun _ => ⟨rfl, rfl⟩) rfl dX1_init_17) (z_c (ok_aload_n dX1_init_20 rfl) (z_c (ok_bipush (v := (40)) dX1_init_21 (by decide)) z_n))))))))))))
noncomputable def tX1_init_1 : List (Nat × zF) := [(23, (zna 0 4 zn_int 2)), (25, (zpf 1 2 (.array .int))), (28, zrv)]
theorem kX1_init_1 : ∀ q ∈ tX1_init_1, zOk zg iX1_init q.1 q.2 := (z_c (ok_newa (ty := .int) rfl rfl (fun _ h => by cases h) zw_96 rfl zn_int_c zn_int_n dX1_init_23) (z_c (ok_putf (C := RX1) (T := TX1) (N := 4) true tyX1 tyX1_ok nmX1 rfl (by decide) zinX1 rfl zw_99 rfl (fun _ => ⟨rfl, rfl⟩) rfl dX1_init_25) (z_c (ok_return rfl dX1_init_28) z_n)))
noncomputable def tX1_init : zT := [(23, tX1_init_0), (100000, tX1_init_1)]
theorem kX1_init : zTok zg iX1_init tX1_init := (z_t kX1_init_0 (z_t kX1_init_1 z_tn))
theorem dX1_add_0 : decode cX1_add 0 = .ok (.aload_n 0, 1) := by decide +kernel
theorem dX1_add_1 : decode cX1_add 1 = .ok (.getfield 21, 3) := by decide +kernel
theorem dX1_add_4 : decode cX1_add 4 = .ok (.bipush 40, 2) := by decide +kernel
theorem dX1_add_6 : decode cX1_add 6 = .ok (.if_icmp .lt 60, 3) := by decide +kernel
theorem dX1_add_9 : decode cX1_add 9 = .ok (.aload_n 0, 1) := by decide +kernel
theorem dX1_add_10 : decode cX1_add 10 = .ok (.bipush 39, 2) := by decide +kernel
theorem dX1_add_12 : decode cX1_add 12 = .ok (.putfield 21, 3) := by decide +kernel
theorem dX1_add_15 : decode cX1_add 15 = .ok (.aload_n 0, 1) := by decide +kernel
theorem dX1_add_16 : decode cX1_add 16 = .ok (.getfield 9, 3) := by decide +kernel
theorem dX1_add_19 : decode cX1_add 19 = .ok (.iconst 1, 1) := by decide +kernel
theorem dX1_add_20 : decode cX1_add 20 = .ok (.aload_n 0, 1) := by decide +kernel
theorem dX1_add_21 : decode cX1_add 21 = .ok (.getfield 9, 3) := by decide +kernel
theorem dX1_add_24 : decode cX1_add 24 = .ok (.iconst 0, 1) := by decide +kernel
theorem dX1_add_25 : decode cX1_add 25 = .ok (.aload_n 0, 1) := by decide +kernel
theorem dX1_add_26 : decode cX1_add 26 = .ok (.getfield 21, 3) := by decide +kernel
theorem dX1_add_29 : decode cX1_add 29 = .ok (.invokestatic 25, 3) := by decide +kernel
theorem dX1_add_32 : decode cX1_add 32 = .ok (.aload_n 0, 1) := by decide +kernel
theorem dX1_add_33 : decode cX1_add 33 = .ok (.getfield 15, 3) := by decide +kernel
theorem dX1_add_36 : decode cX1_add 36 = .ok (.iconst 1, 1) := by decide +kernel
theorem dX1_add_37 : decode cX1_add 37 = .ok (.aload_n 0, 1) := by decide +kernel
theorem dX1_add_38 : decode cX1_add 38 = .ok (.getfield 15, 3) := by decide +kernel
theorem dX1_add_41 : decode cX1_add 41 = .ok (.iconst 0, 1) := by decide +kernel
theorem dX1_add_42 : decode cX1_add 42 = .ok (.aload_n 0, 1) := by decide +kernel
theorem dX1_add_43 : decode cX1_add 43 = .ok (.getfield 21, 3) := by decide +kernel
theorem dX1_add_46 : decode cX1_add 46 = .ok (.invokestatic 25, 3) := by decide +kernel
theorem dX1_add_49 : decode cX1_add 49 = .ok (.aload_n 0, 1) := by decide +kernel
theorem dX1_add_50 : decode cX1_add 50 = .ok (.getfield 18, 3) := by decide +kernel
theorem dX1_add_53 : decode cX1_add 53 = .ok (.iconst 1, 1) := by decide +kernel
theorem dX1_add_54 : decode cX1_add 54 = .ok (.aload_n 0, 1) := by decide +kernel
theorem dX1_add_55 : decode cX1_add 55 = .ok (.getfield 18, 3) := by decide +kernel
theorem dX1_add_58 : decode cX1_add 58 = .ok (.iconst 0, 1) := by decide +kernel
theorem dX1_add_59 : decode cX1_add 59 = .ok (.aload_n 0, 1) := by decide +kernel
theorem dX1_add_60 : decode cX1_add 60 = .ok (.getfield 21, 3) := by decide +kernel
theorem dX1_add_63 : decode cX1_add 63 = .ok (.invokestatic 25, 3) := by decide +kernel
theorem dX1_add_66 : decode cX1_add 66 = .ok (.aload_n 0, 1) := by decide +kernel
theorem dX1_add_67 : decode cX1_add 67 = .ok (.getfield 9, 3) := by decide +kernel
theorem dX1_add_70 : decode cX1_add 70 = .ok (.aload_n 0, 1) := by decide +kernel
theorem dX1_add_71 : decode cX1_add 71 = .ok (.getfield 21, 3) := by decide +kernel
theorem dX1_add_74 : decode cX1_add 74 = .ok (.iload_n 1, 1) := by decide +kernel
theorem dX1_add_75 : decode cX1_add 75 = .ok (.iastore, 1) := by decide +kernel
theorem dX1_add_76 : decode cX1_add 76 = .ok (.aload_n 0, 1) := by decide +kernel
theorem dX1_add_77 : decode cX1_add 77 = .ok (.getfield 15, 3) := by decide +kernel
theorem dX1_add_80 : decode cX1_add 80 = .ok (.aload_n 0, 1) := by decide +kernel
theorem dX1_add_81 : decode cX1_add 81 = .ok (.getfield 21, 3) := by decide +kernel
theorem dX1_add_84 : decode cX1_add 84 = .ok (.iload_n 2, 1) := by decide +kernel
theorem dX1_add_85 : decode cX1_add 85 = .ok (.iastore, 1) := by decide +kernel
theorem dX1_add_86 : decode cX1_add 86 = .ok (.aload_n 0, 1) := by decide +kernel
theorem dX1_add_87 : decode cX1_add 87 = .ok (.getfield 18, 3) := by decide +kernel
theorem dX1_add_90 : decode cX1_add 90 = .ok (.aload_n 0, 1) := by decide +kernel
theorem dX1_add_91 : decode cX1_add 91 = .ok (.getfield 21, 3) := by decide +kernel
theorem dX1_add_94 : decode cX1_add 94 = .ok (.iload_n 3, 1) := by decide +kernel
theorem dX1_add_95 : decode cX1_add 95 = .ok (.iastore, 1) := by decide +kernel
theorem dX1_add_96 : decode cX1_add 96 = .ok (.aload_n 0, 1) := by decide +kernel
theorem dX1_add_97 : decode cX1_add 97 = .ok (.dup, 1) := by decide +kernel
theorem dX1_add_98 : decode cX1_add 98 = .ok (.getfield 21, 3) := by decide +kernel
theorem dX1_add_101 : decode cX1_add 101 = .ok (.iconst 1, 1) := by decide +kernel
theorem dX1_add_102 : decode cX1_add 102 = .ok (.iadd, 1) := by decide +kernel
theorem dX1_add_103 : decode cX1_add 103 = .ok (.putfield 21, 3) := by decide +kernel
theorem dX1_add_106 : decode cX1_add 106 = .ok (.return_, 1) := by decide +kernel
noncomputable def tX1_add_0 : List (Nat × zF) := [(0, (zla4 0 1)), (1, (zgf 1 3)), (4, (zst 2 (zp (.int (40))))), (6, (z_ic_lt 66)), (9, (zla4 0 1)), (10, (zst 2 (zp (.int (39))))), (12, (zpf 1 3 (.int))), (15, (zla4 0 1)), (16, (zgf 1 0)), (19, (zst 1 (zp (.int (1))))), (20, (zla4 0 1)), (21, (zgf 1 0))]
theorem kX1_add_0 : ∀ q ∈ tX1_add_0, zOk zg iX1_add q.1 q.2 := (z_c (ok_aload_n dX1_add_0 rfl) (z_c (ok_getf (C := RX1) (T := TX1) (N := 4) rfl (by decide) zinX1 rfl zw_100 dX1_add_1) (z_c (ok_bipush (v := (40)) dX1_add_4 (by decide)) (z_c (ok_icmp_lt dX1_add_6 (by decide)) (z_c (ok_aload_n dX1_add_9 rfl) (z_c (ok_bipush (v := (39)) dX1_add_10 (by decide)) (z_c (ok_putf (C := RX1) (T := TX1) (N := 4) false tyX1 tyX1_ok nmX1 rfl (by decide) zinX1 rfl zw_100 rfl (fun h => absurd h (by decide)) rfl dX1_add_12) (z_c (ok_aload_n dX1_add_15 rfl) (z_c (ok_getf (C := RX1) (T := TX1) (N := 4) rfl (by decide) zinX1 rfl zw_97 dX1_add_16) (z_c (ok_iconst (v := (1)) dX1_add_19 (by decide)) (z_c (ok_aload_n dX1_add_20 rfl) (z_c (ok_getf (C := RX1) (T := TX1) (N := 4) rfl (by decide) zinX1 rfl zw_97 dX1_add_21) z_n))))))))))))
noncomputable def tX1_add_1 : List (Nat × zF) := [(24, (zst 1 (zp (.int (0))))), (25, (zla4 0 1)), (26, (zgf 1 3)), (29, (zcp 0)), (32, (zla4 0 1)), (33, (zgf 1 1)), (36, (zst 1 (zp (.int (1))))), (37, (zla4 0 1)), (38, (zgf 1 1)), (41, (zst 1 (zp (.int (0))))), (42, (zla4 0 1)), (43, (zgf 1 3))]
theorem kX1_add_1 : ∀ q ∈ tX1_add_1, zOk zg iX1_add q.1 q.2 := (z_c (ok_iconst (v := (0)) dX1_add_24 (by decide)) (z_c (ok_aload_n dX1_add_25 rfl) (z_c (ok_getf (C := RX1) (T := TX1) (N := 4) rfl (by decide) zinX1 rfl zw_100 dX1_add_26) (z_c (ok_copyi rfl zw_101 zw_102 zw_103 zw_104 dX1_add_29) (z_c (ok_aload_n dX1_add_32 rfl) (z_c (ok_getf (C := RX1) (T := TX1) (N := 4) rfl (by decide) zinX1 rfl zw_98 dX1_add_33) (z_c (ok_iconst (v := (1)) dX1_add_36 (by decide)) (z_c (ok_aload_n dX1_add_37 rfl) (z_c (ok_getf (C := RX1) (T := TX1) (N := 4) rfl (by decide) zinX1 rfl zw_98 dX1_add_38) (z_c (ok_iconst (v := (0)) dX1_add_41 (by decide)) (z_c (ok_aload_n dX1_add_42 rfl) (z_c (ok_getf (C := RX1) (T := TX1) (N := 4) rfl (by decide) zinX1 rfl zw_100 dX1_add_43) z_n))))))))))))
noncomputable def tX1_add_2 : List (Nat × zF) := [(46, (zcp 0)), (49, (zla4 0 1)), (50, (zgf 1 2)), (53, (zst 1 (zp (.int (1))))), (54, (zla4 0 1)), (55, (zgf 1 2)), (58, (zst 1 (zp (.int (0))))), (59, (zla4 0 1)), (60, (zgf 1 3)), (63, (zcp 0)), (66, (zla4 0 1)), (67, (zgf 1 0))]
theorem kX1_add_2 : ∀ q ∈ tX1_add_2, zOk zg iX1_add q.1 q.2 := (z_c (ok_copyi rfl zw_101 zw_102 zw_103 zw_104 dX1_add_46) (z_c (ok_aload_n dX1_add_49 rfl) (z_c (ok_getf (C := RX1) (T := TX1) (N := 4) rfl (by decide) zinX1 rfl zw_99 dX1_add_50) (z_c (ok_iconst (v := (1)) dX1_add_53 (by decide)) (z_c (ok_aload_n dX1_add_54 rfl) (z_c (ok_getf (C := RX1) (T := TX1) (N := 4) rfl (by decide) zinX1 rfl zw_99 dX1_add_55) (z_c (ok_iconst (v := (0)) dX1_add_58 (by decide)) (z_c (ok_aload_n dX1_add_59 rfl) (z_c (ok_getf (C := RX1) (T := TX1) (N := 4) rfl (by decide) zinX1 rfl zw_100 dX1_add_60) (z_c (ok_copyi rfl zw_101 zw_102 zw_103 zw_104 dX1_add_63) (z_c (ok_aload_n dX1_add_66 rfl) (z_c (ok_getf (C := RX1) (T := TX1) (N := 4) rfl (by decide) zinX1 rfl zw_97 dX1_add_67) z_n))))))))))))
noncomputable def tX1_add_3 : List (Nat × zF) := [(70, (zla4 0 1)), (71, (zgf 1 3)), (74, (zli4 1 1)), (75, (zas 0)), (76, (zla4 0 1)), (77, (zgf 1 1)), (80, (zla4 0 1)), (81, (zgf 1 3)), (84, (zli4 2 1)), (85, (zas 0)), (86, (zla4 0 1)), (87, (zgf 1 2))]
theorem kX1_add_3 : ∀ q ∈ tX1_add_3, zOk zg iX1_add q.1 q.2 := (z_c (ok_aload_n dX1_add_70 rfl) (z_c (ok_getf (C := RX1) (T := TX1) (N := 4) rfl (by decide) zinX1 rfl zw_100 dX1_add_71) (z_c (ok_iload_n dX1_add_74 rfl) (z_c (ok_iastore rfl dX1_add_75) (z_c (ok_aload_n dX1_add_76 rfl) (z_c (ok_getf (C := RX1) (T := TX1) (N := 4) rfl (by decide) zinX1 rfl zw_98 dX1_add_77) (z_c (ok_aload_n dX1_add_80 rfl) (z_c (ok_getf (C := RX1) (T := TX1) (N := 4) rfl (by decide) zinX1 rfl zw_100 dX1_add_81) (z_c (ok_iload_n dX1_add_84 rfl) (z_c (ok_iastore rfl dX1_add_85) (z_c (ok_aload_n dX1_add_86 rfl) (z_c (ok_getf (C := RX1) (T := TX1) (N := 4) rfl (by decide) zinX1 rfl zw_99 dX1_add_87) z_n))))))))))))
noncomputable def tX1_add_4 : List (Nat × zF) := [(90, (zla4 0 1)), (91, (zgf 1 3)), (94, (zli4 3 1)), (95, (zas 0)), (96, (zla4 0 1)), (97, (zst 1 zdu)), (98, (zgf 1 3)), (101, (zst 1 (zp (.int (1))))), (102, (zst 1 z_iadd)), (103, (zpf 1 3 (.int))), (106, zrv)]
theorem kX1_add_4 : ∀ q ∈ tX1_add_4, zOk zg iX1_add q.1 q.2 := (z_c (ok_aload_n dX1_add_90 rfl) (z_c (ok_getf (C := RX1) (T := TX1) (N := 4) rfl (by decide) zinX1 rfl zw_100 dX1_add_91) (z_c (ok_iload_n dX1_add_94 rfl) (z_c (ok_iastore rfl dX1_add_95) (z_c (ok_aload_n dX1_add_96 rfl) (z_c (ok_dup dX1_add_97) (z_c (ok_getf (C := RX1) (T := TX1) (N := 4) rfl (by decide) zinX1 rfl zw_100 dX1_add_98) (z_c (ok_iconst (v := (1)) dX1_add_101 (by decide)) (z_c (ok_iadd dX1_add_102) (z_c (ok_putf (C := RX1) (T := TX1) (N := 4) false tyX1 tyX1_ok nmX1 rfl (by decide) zinX1 rfl zw_100 rfl (fun h => absurd h (by decide)) rfl dX1_add_103) (z_c (ok_return rfl dX1_add_106) z_n)))))))))))
noncomputable def tX1_add : zT := [(24, tX1_add_0), (46, tX1_add_1), (70, tX1_add_2), (90, tX1_add_3), (100000, tX1_add_4)]
theorem kX1_add : zTok zg iX1_add tX1_add := (z_t kX1_add_0 (z_t kX1_add_1 (z_t kX1_add_2 (z_t kX1_add_3 (z_t kX1_add_4 z_tn)))))
theorem dX1_copyFrom_0 : decode cX1_copyFrom 0 = .ok (.aload_n 0, 1) := by decide +kernel
theorem dX1_copyFrom_1 : decode cX1_copyFrom 1 = .ok (.aload_n 1, 1) := by decide +kernel
theorem dX1_copyFrom_2 : decode cX1_copyFrom 2 = .ok (.getfield 21, 3) := by decide +kernel
theorem dX1_copyFrom_5 : decode cX1_copyFrom 5 = .ok (.putfield 21, 3) := by decide +kernel
theorem dX1_copyFrom_8 : decode cX1_copyFrom 8 = .ok (.aload_n 1, 1) := by decide +kernel
theorem dX1_copyFrom_9 : decode cX1_copyFrom 9 = .ok (.getfield 9, 3) := by decide +kernel
theorem dX1_copyFrom_12 : decode cX1_copyFrom 12 = .ok (.iconst 0, 1) := by decide +kernel
theorem dX1_copyFrom_13 : decode cX1_copyFrom 13 = .ok (.aload_n 0, 1) := by decide +kernel
theorem dX1_copyFrom_14 : decode cX1_copyFrom 14 = .ok (.getfield 9, 3) := by decide +kernel
theorem dX1_copyFrom_17 : decode cX1_copyFrom 17 = .ok (.iconst 0, 1) := by decide +kernel
theorem dX1_copyFrom_18 : decode cX1_copyFrom 18 = .ok (.aload_n 0, 1) := by decide +kernel
theorem dX1_copyFrom_19 : decode cX1_copyFrom 19 = .ok (.getfield 21, 3) := by decide +kernel
theorem dX1_copyFrom_22 : decode cX1_copyFrom 22 = .ok (.invokestatic 25, 3) := by decide +kernel
theorem dX1_copyFrom_25 : decode cX1_copyFrom 25 = .ok (.aload_n 1, 1) := by decide +kernel
theorem dX1_copyFrom_26 : decode cX1_copyFrom 26 = .ok (.getfield 15, 3) := by decide +kernel
theorem dX1_copyFrom_29 : decode cX1_copyFrom 29 = .ok (.iconst 0, 1) := by decide +kernel
theorem dX1_copyFrom_30 : decode cX1_copyFrom 30 = .ok (.aload_n 0, 1) := by decide +kernel
theorem dX1_copyFrom_31 : decode cX1_copyFrom 31 = .ok (.getfield 15, 3) := by decide +kernel
theorem dX1_copyFrom_34 : decode cX1_copyFrom 34 = .ok (.iconst 0, 1) := by decide +kernel
theorem dX1_copyFrom_35 : decode cX1_copyFrom 35 = .ok (.aload_n 0, 1) := by decide +kernel
theorem dX1_copyFrom_36 : decode cX1_copyFrom 36 = .ok (.getfield 21, 3) := by decide +kernel
theorem dX1_copyFrom_39 : decode cX1_copyFrom 39 = .ok (.invokestatic 25, 3) := by decide +kernel
theorem dX1_copyFrom_42 : decode cX1_copyFrom 42 = .ok (.aload_n 1, 1) := by decide +kernel
theorem dX1_copyFrom_43 : decode cX1_copyFrom 43 = .ok (.getfield 18, 3) := by decide +kernel
theorem dX1_copyFrom_46 : decode cX1_copyFrom 46 = .ok (.iconst 0, 1) := by decide +kernel
theorem dX1_copyFrom_47 : decode cX1_copyFrom 47 = .ok (.aload_n 0, 1) := by decide +kernel
theorem dX1_copyFrom_48 : decode cX1_copyFrom 48 = .ok (.getfield 18, 3) := by decide +kernel
theorem dX1_copyFrom_51 : decode cX1_copyFrom 51 = .ok (.iconst 0, 1) := by decide +kernel
theorem dX1_copyFrom_52 : decode cX1_copyFrom 52 = .ok (.aload_n 0, 1) := by decide +kernel
theorem dX1_copyFrom_53 : decode cX1_copyFrom 53 = .ok (.getfield 21, 3) := by decide +kernel
theorem dX1_copyFrom_56 : decode cX1_copyFrom 56 = .ok (.invokestatic 25, 3) := by decide +kernel
theorem dX1_copyFrom_59 : decode cX1_copyFrom 59 = .ok (.return_, 1) := by decide +kernel
noncomputable def tX1_copyFrom_0 : List (Nat × zF) := [(0, (zla4 0 1)), (1, (zla4 1 1)), (2, (zgf 1 3)), (5, (zpf 1 3 (.int))), (8, (zla4 1 1)), (9, (zgf 1 0)), (12, (zst 1 (zp (.int (0))))), (13, (zla4 0 1)), (14, (zgf 1 0)), (17, (zst 1 (zp (.int (0))))), (18, (zla4 0 1)), (19, (zgf 1 3))]
theorem kX1_copyFrom_0 : ∀ q ∈ tX1_copyFrom_0, zOk zg iX1_copyFrom q.1 q.2 := (z_c (ok_aload_n dX1_copyFrom_0 rfl) (z_c (ok_aload_n dX1_copyFrom_1 rfl) (z_c (ok_getf (C := RX1) (T := TX1) (N := 4) rfl (by decide) zinX1 rfl zw_100 dX1_copyFrom_2) (z_c (ok_putf (C := RX1) (T := TX1) (N := 4) false tyX1 tyX1_ok nmX1 rfl (by decide) zinX1 rfl zw_100 rfl (fun h => absurd h (by decide)) rfl dX1_copyFrom_5) (z_c (ok_aload_n dX1_copyFrom_8 rfl) (z_c (ok_getf (C := RX1) (T := TX1) (N := 4) rfl (by decide) zinX1 rfl zw_97 dX1_copyFrom_9) (z_c (ok_iconst (v := (0)) dX1_copyFrom_12 (by decide)) (z_c (ok_aload_n dX1_copyFrom_13 rfl) (z_c (ok_getf (C := RX1) (T := TX1) (N := 4) rfl (by decide) zinX1 rfl zw_97 dX1_copyFrom_14) (z_c (ok_iconst (v := (0)) dX1_copyFrom_17 (by decide)) (z_c (ok_aload_n dX1_copyFrom_18 rfl) (z_c (ok_getf (C := RX1) (T := TX1) (N := 4) rfl (by decide) zinX1 rfl zw_100 dX1_copyFrom_19) z_n))))))))))))
noncomputable def tX1_copyFrom_1 : List (Nat × zF) := [(22, (zcp 0)), (25, (zla4 1 1)), (26, (zgf 1 1)), (29, (zst 1 (zp (.int (0))))), (30, (zla4 0 1)), (31, (zgf 1 1)), (34, (zst 1 (zp (.int (0))))), (35, (zla4 0 1)), (36, (zgf 1 3)), (39, (zcp 0)), (42, (zla4 1 1)), (43, (zgf 1 2))]
theorem kX1_copyFrom_1 : ∀ q ∈ tX1_copyFrom_1, zOk zg iX1_copyFrom q.1 q.2 := (z_c (ok_copyi rfl zw_101 zw_102 zw_103 zw_104 dX1_copyFrom_22) (z_c (ok_aload_n dX1_copyFrom_25 rfl) (z_c (ok_getf (C := RX1) (T := TX1) (N := 4) rfl (by decide) zinX1 rfl zw_98 dX1_copyFrom_26) (z_c (ok_iconst (v := (0)) dX1_copyFrom_29 (by decide)) (z_c (ok_aload_n dX1_copyFrom_30 rfl) (z_c (ok_getf (C := RX1) (T := TX1) (N := 4) rfl (by decide) zinX1 rfl zw_98 dX1_copyFrom_31) (z_c (ok_iconst (v := (0)) dX1_copyFrom_34 (by decide)) (z_c (ok_aload_n dX1_copyFrom_35 rfl) (z_c (ok_getf (C := RX1) (T := TX1) (N := 4) rfl (by decide) zinX1 rfl zw_100 dX1_copyFrom_36) (z_c (ok_copyi rfl zw_101 zw_102 zw_103 zw_104 dX1_copyFrom_39) (z_c (ok_aload_n dX1_copyFrom_42 rfl) (z_c (ok_getf (C := RX1) (T := TX1) (N := 4) rfl (by decide) zinX1 rfl zw_99 dX1_copyFrom_43) z_n))))))))))))
noncomputable def tX1_copyFrom_2 : List (Nat × zF) := [(46, (zst 1 (zp (.int (0))))), (47, (zla4 0 1)), (48, (zgf 1 2)), (51, (zst 1 (zp (.int (0))))), (52, (zla4 0 1)), (53, (zgf 1 3)), (56, (zcp 0)), (59, zrv)]
theorem kX1_copyFrom_2 : ∀ q ∈ tX1_copyFrom_2, zOk zg iX1_copyFrom q.1 q.2 := (z_c (ok_iconst (v := (0)) dX1_copyFrom_46 (by decide)) (z_c (ok_aload_n dX1_copyFrom_47 rfl) (z_c (ok_getf (C := RX1) (T := TX1) (N := 4) rfl (by decide) zinX1 rfl zw_99 dX1_copyFrom_48) (z_c (ok_iconst (v := (0)) dX1_copyFrom_51 (by decide)) (z_c (ok_aload_n dX1_copyFrom_52 rfl) (z_c (ok_getf (C := RX1) (T := TX1) (N := 4) rfl (by decide) zinX1 rfl zw_100 dX1_copyFrom_53) (z_c (ok_copyi rfl zw_101 zw_102 zw_103 zw_104 dX1_copyFrom_56) (z_c (ok_return rfl dX1_copyFrom_59) z_n))))))))
noncomputable def tX1_copyFrom : zT := [(22, tX1_copyFrom_0), (46, tX1_copyFrom_1), (100000, tX1_copyFrom_2)]
theorem kX1_copyFrom : zTok zg iX1_copyFrom tX1_copyFrom := (z_t kX1_copyFrom_0 (z_t kX1_copyFrom_1 (z_t kX1_copyFrom_2 z_tn)))
theorem dX2_init_0 : decode cX2_init 0 = .ok (.aload_n 0, 1) := by decide +kernel
theorem dX2_init_1 : decode cX2_init 1 = .ok (.invokespecial 3, 3) := by decide +kernel
theorem dX2_init_4 : decode cX2_init 4 = .ok (.aload_n 0, 1) := by decide +kernel
theorem dX2_init_5 : decode cX2_init 5 = .ok (.bipush 20, 2) := by decide +kernel
theorem dX2_init_7 : decode cX2_init 7 = .ok (.anewarray 9, 3) := by decide +kernel
theorem dX2_init_10 : decode cX2_init 10 = .ok (.putfield 11, 3) := by decide +kernel
theorem dX2_init_13 : decode cX2_init 13 = .ok (.aload_n 0, 1) := by decide +kernel
theorem dX2_init_14 : decode cX2_init 14 = .ok (.bipush 20, 2) := by decide +kernel
theorem dX2_init_16 : decode cX2_init 16 = .ok (.anewarray 17, 3) := by decide +kernel
theorem dX2_init_19 : decode cX2_init 19 = .ok (.putfield 19, 3) := by decide +kernel
theorem dX2_init_22 : decode cX2_init 22 = .ok (.iconst 0, 1) := by decide +kernel
theorem dX2_init_23 : decode cX2_init 23 = .ok (.istore_n 1, 1) := by decide +kernel
theorem dX2_init_24 : decode cX2_init 24 = .ok (.iload_n 1, 1) := by decide +kernel
theorem dX2_init_25 : decode cX2_init 25 = .ok (.bipush 20, 2) := by decide +kernel
theorem dX2_init_27 : decode cX2_init 27 = .ok (.if_icmp .ge 35, 3) := by decide +kernel
theorem dX2_init_30 : decode cX2_init 30 = .ok (.aload_n 0, 1) := by decide +kernel
theorem dX2_init_31 : decode cX2_init 31 = .ok (.getfield 11, 3) := by decide +kernel
theorem dX2_init_34 : decode cX2_init 34 = .ok (.iload_n 1, 1) := by decide +kernel
theorem dX2_init_35 : decode cX2_init 35 = .ok (.new 9, 3) := by decide +kernel
theorem dX2_init_38 : decode cX2_init 38 = .ok (.dup, 1) := by decide +kernel
theorem dX2_init_39 : decode cX2_init 39 = .ok (.invokespecial 23, 3) := by decide +kernel
theorem dX2_init_42 : decode cX2_init 42 = .ok (.aastore, 1) := by decide +kernel
theorem dX2_init_43 : decode cX2_init 43 = .ok (.aload_n 0, 1) := by decide +kernel
theorem dX2_init_44 : decode cX2_init 44 = .ok (.getfield 19, 3) := by decide +kernel
theorem dX2_init_47 : decode cX2_init 47 = .ok (.iload_n 1, 1) := by decide +kernel
theorem dX2_init_48 : decode cX2_init 48 = .ok (.new 17, 3) := by decide +kernel
theorem dX2_init_51 : decode cX2_init 51 = .ok (.dup, 1) := by decide +kernel
theorem dX2_init_52 : decode cX2_init 52 = .ok (.invokespecial 24, 3) := by decide +kernel
theorem dX2_init_55 : decode cX2_init 55 = .ok (.aastore, 1) := by decide +kernel
theorem dX2_init_56 : decode cX2_init 56 = .ok (.iinc 1 1, 3) := by decide +kernel
theorem dX2_init_59 : decode cX2_init 59 = .ok (.goto (-35), 3) := by decide +kernel
theorem dX2_init_62 : decode cX2_init 62 = .ok (.return_, 1) := by decide +kernel
noncomputable def tX2_init_0 : List (Nat × zF) := [(0, (zla4 0 1)), (1, zoi), (4, (zla4 0 1)), (5, (zst 2 (zp (.int (20))))), (7, (zna 3 4 zn_ref 3)), (10, (zpf 2 0 (.array (.object "MissingLamps$State")))), (13, (zla4 0 1)), (14, (zst 2 (zp (.int (20))))), (16, (zna 4 4 zn_ref 3)), (19, (zpf 2 1 (.array (.object "MissingLamps$KeptRows")))), (22, (zst 1 (zp (.int (0))))), (23, (zsi4 2 1 1))]
theorem kX2_init_0 : ∀ q ∈ tX2_init_0, zOk zg iX2_init q.1 q.2 := (z_c (ok_aload_n dX2_init_0 rfl) (z_c (ok_objInit zw_105 zw_1 zw_2 dX2_init_1) (z_c (ok_aload_n dX2_init_4 rfl) (z_c (ok_bipush (v := (20)) dX2_init_5 (by decide)) (z_c (ok_newq (C := "MissingLamps$State") rfl zx_ao3 zw_106 dX2_init_7) (z_c (ok_putf (C := RX2) (T := TX2) (N := 4) true tyX2 tyX2_ok nmX2 rfl (by decide) zinX2 rfl zw_107 rfl (fun _ => ⟨rfl, rfl⟩) rfl dX2_init_10) (z_c (ok_aload_n dX2_init_13 rfl) (z_c (ok_bipush (v := (20)) dX2_init_14 (by decide)) (z_c (ok_newq (C := "MissingLamps$KeptRows") rfl zx_ao4 zw_108 dX2_init_16) (z_c (ok_putf (C := RX2) (T := TX2) (N := 4) true tyX2 tyX2_ok nmX2 rfl (by decide) zinX2 rfl zw_109 rfl (fun _ => ⟨rfl, rfl⟩) rfl dX2_init_19) (z_c (ok_iconst (v := (0)) dX2_init_22 (by decide)) (z_c (ok_istore_n dX2_init_23 rfl) z_n))))))))))))
noncomputable def tX2_init_1 : List (Nat × zF) := [(24, (zli4 1 1)), (25, (zst 2 (zp (.int (20))))), (27, (z_ic_ge 62)), (30, (zla4 0 1)), (31, (zgf 2 0)), (34, (zli4 1 1)), (35, (znw 8 zdfX8)), (38, (zst 1 zdu)), (39, (zci 79 0)), (42, (zsq 3 8)), (43, (zla4 0 1)), (44, (zgf 2 1))]
theorem kX2_init_1 : ∀ q ∈ tX2_init_1, zOk zg iX2_init q.1 q.2 := (z_c (ok_iload_n dX2_init_24 rfl) (z_c (ok_bipush (v := (20)) dX2_init_25 (by decide)) (z_c (ok_icmp_ge dX2_init_27 (by decide)) (z_c (ok_aload_n dX2_init_30 rfl) (z_c (ok_getf (C := RX2) (T := TX2) (N := 4) rfl (by decide) zinX2 rfl zw_107 dX2_init_31) (z_c (ok_iload_n dX2_init_34 rfl) (z_c (ok_new (C := RX8) (T := TX8) (N := 6) tyX8 tyX8_ok rfl zinX8 zw_106 zw_110 zw_111 rfl (fun _ _ => rfl) zdfX8_ok dX2_init_35) (z_c (ok_dup dX2_init_38) (z_c (ok_callIN zcal_79 rfl rfl zx_nest_5 zw_112 dX2_init_39) (z_c (ok_aastore (q := (RX8, TX8, 6)) rfl rfl dX2_init_42) (z_c (ok_aload_n dX2_init_43 rfl) (z_c (ok_getf (C := RX2) (T := TX2) (N := 4) rfl (by decide) zinX2 rfl zw_109 dX2_init_44) z_n))))))))))))
noncomputable def tX2_init_2 : List (Nat × zF) := [(47, (zli4 1 1)), (48, (znw 1 zdfX1)), (51, (zst 1 zdu)), (52, (zci 19 0)), (55, (zsq 4 1)), (56, (zin4 2 1 (1))), (59, (zgt 24)), (62, zrv)]
theorem kX2_init_2 : ∀ q ∈ tX2_init_2, zOk zg iX2_init q.1 q.2 := (z_c (ok_iload_n dX2_init_47 rfl) (z_c (ok_new (C := RX1) (T := TX1) (N := 4) tyX1 tyX1_ok rfl zinX1 zw_108 zw_113 zw_114 rfl (fun _ _ => rfl) zdfX1_ok dX2_init_48) (z_c (ok_dup dX2_init_51) (z_c (ok_callIN zcal_19 rfl rfl zx_nest_6 zw_115 dX2_init_52) (z_c (ok_aastore (q := (RX1, TX1, 4)) rfl rfl dX2_init_55) (z_c (ok_iinc (v := (1)) dX2_init_56 (by decide)) (z_c (ok_goto dX2_init_59 (by decide)) (z_c (ok_return rfl dX2_init_62) z_n))))))))
noncomputable def tX2_init : zT := [(24, tX2_init_0), (47, tX2_init_1), (100000, tX2_init_2)]
theorem kX2_init : zTok zg iX2_init tX2_init := (z_t kX2_init_0 (z_t kX2_init_1 (z_t kX2_init_2 z_tn)))
theorem dX2_push_0 : decode cX2_push 0 = .ok (.aload_n 0, 1) := by decide +kernel
theorem dX2_push_1 : decode cX2_push 1 = .ok (.getfield 11, 3) := by decide +kernel
theorem dX2_push_4 : decode cX2_push 4 = .ok (.aload_n 0, 1) := by decide +kernel
theorem dX2_push_5 : decode cX2_push 5 = .ok (.getfield 25, 3) := by decide +kernel
theorem dX2_push_8 : decode cX2_push 8 = .ok (.aaload, 1) := by decide +kernel
theorem dX2_push_9 : decode cX2_push 9 = .ok (.aload_n 1, 1) := by decide +kernel
theorem dX2_push_10 : decode cX2_push 10 = .ok (.invokevirtual 29, 3) := by decide +kernel
theorem dX2_push_13 : decode cX2_push 13 = .ok (.aload_n 0, 1) := by decide +kernel
theorem dX2_push_14 : decode cX2_push 14 = .ok (.getfield 19, 3) := by decide +kernel
theorem dX2_push_17 : decode cX2_push 17 = .ok (.aload_n 0, 1) := by decide +kernel
theorem dX2_push_18 : decode cX2_push 18 = .ok (.getfield 25, 3) := by decide +kernel
theorem dX2_push_21 : decode cX2_push 21 = .ok (.aaload, 1) := by decide +kernel
theorem dX2_push_22 : decode cX2_push 22 = .ok (.aload_n 2, 1) := by decide +kernel
theorem dX2_push_23 : decode cX2_push 23 = .ok (.invokevirtual 33, 3) := by decide +kernel
theorem dX2_push_26 : decode cX2_push 26 = .ok (.aload_n 0, 1) := by decide +kernel
theorem dX2_push_27 : decode cX2_push 27 = .ok (.aload_n 0, 1) := by decide +kernel
theorem dX2_push_28 : decode cX2_push 28 = .ok (.getfield 25, 3) := by decide +kernel
theorem dX2_push_31 : decode cX2_push 31 = .ok (.iconst 1, 1) := by decide +kernel
theorem dX2_push_32 : decode cX2_push 32 = .ok (.iadd, 1) := by decide +kernel
theorem dX2_push_33 : decode cX2_push 33 = .ok (.bipush 20, 2) := by decide +kernel
theorem dX2_push_35 : decode cX2_push 35 = .ok (.irem, 1) := by decide +kernel
theorem dX2_push_36 : decode cX2_push 36 = .ok (.putfield 25, 3) := by decide +kernel
theorem dX2_push_39 : decode cX2_push 39 = .ok (.aload_n 0, 1) := by decide +kernel
theorem dX2_push_40 : decode cX2_push 40 = .ok (.aload_n 0, 1) := by decide +kernel
theorem dX2_push_41 : decode cX2_push 41 = .ok (.getfield 36, 3) := by decide +kernel
theorem dX2_push_44 : decode cX2_push 44 = .ok (.iconst 1, 1) := by decide +kernel
theorem dX2_push_45 : decode cX2_push 45 = .ok (.iadd, 1) := by decide +kernel
theorem dX2_push_46 : decode cX2_push 46 = .ok (.bipush 20, 2) := by decide +kernel
theorem dX2_push_48 : decode cX2_push 48 = .ok (.invokestatic 39, 3) := by decide +kernel
theorem dX2_push_51 : decode cX2_push 51 = .ok (.putfield 36, 3) := by decide +kernel
theorem dX2_push_54 : decode cX2_push 54 = .ok (.return_, 1) := by decide +kernel
noncomputable def tX2_push_0 : List (Nat × zF) := [(0, (zla4 0 1)), (1, (zgf 2 0)), (4, (zla4 0 1)), (5, (zgf 2 2)), (8, (zaq 3)), (9, (zla4 1 1)), (10, (zcv 80 1 8)), (13, (zla4 0 1)), (14, (zgf 2 1)), (17, (zla4 0 1)), (18, (zgf 2 2)), (21, (zaq 4))]
theorem kX2_push_0 : ∀ q ∈ tX2_push_0, zOk zg iX2_push q.1 q.2 := (z_c (ok_aload_n dX2_push_0 rfl) (z_c (ok_getf (C := RX2) (T := TX2) (N := 4) rfl (by decide) zinX2 rfl zw_107 dX2_push_1) (z_c (ok_aload_n dX2_push_4 rfl) (z_c (ok_getf (C := RX2) (T := TX2) (N := 4) rfl (by decide) zinX2 rfl zw_116 dX2_push_5) (z_c (ok_aaload (C := "MissingLamps$State") rfl dX2_push_8) (z_c (ok_aload_n dX2_push_9 rfl) (z_c (ok_callV zcal_80 (q := (RX8, TX8, 6)) rfl zw_117 zw_118 zw_119 dX2_push_10) (z_c (ok_aload_n dX2_push_13 rfl) (z_c (ok_getf (C := RX2) (T := TX2) (N := 4) rfl (by decide) zinX2 rfl zw_109 dX2_push_14) (z_c (ok_aload_n dX2_push_17 rfl) (z_c (ok_getf (C := RX2) (T := TX2) (N := 4) rfl (by decide) zinX2 rfl zw_116 dX2_push_18) (z_c (ok_aaload (C := "MissingLamps$KeptRows") rfl dX2_push_21) z_n))))))))))))
noncomputable def tX2_push_1 : List (Nat × zF) := [(22, (zla4 2 1)), (23, (zcv 21 1 1)), (26, (zla4 0 1)), (27, (zla4 0 1)), (28, (zgf 2 2)), (31, (zst 1 (zp (.int (1))))), (32, (zst 1 z_iadd)), (33, (zst 2 (zp (.int (20))))), (35, (zst 1 z_irem)), (36, (zpf 2 2 (.int))), (39, (zla4 0 1)), (40, (zla4 0 1))]
theorem kX2_push_1 : ∀ q ∈ tX2_push_1, zOk zg iX2_push q.1 q.2 := (z_c (ok_aload_n dX2_push_22 rfl) (z_c (ok_callV zcal_21 (q := (RX1, TX1, 4)) rfl zw_120 zw_121 zw_122 dX2_push_23) (z_c (ok_aload_n dX2_push_26 rfl) (z_c (ok_aload_n dX2_push_27 rfl) (z_c (ok_getf (C := RX2) (T := TX2) (N := 4) rfl (by decide) zinX2 rfl zw_116 dX2_push_28) (z_c (ok_iconst (v := (1)) dX2_push_31 (by decide)) (z_c (ok_iadd dX2_push_32) (z_c (ok_bipush (v := (20)) dX2_push_33 (by decide)) (z_c (ok_irem dX2_push_35) (z_c (ok_putf (C := RX2) (T := TX2) (N := 4) false tyX2 tyX2_ok nmX2 rfl (by decide) zinX2 rfl zw_116 rfl (fun h => absurd h (by decide)) rfl dX2_push_36) (z_c (ok_aload_n dX2_push_39 rfl) (z_c (ok_aload_n dX2_push_40 rfl) z_n))))))))))))
noncomputable def tX2_push_2 : List (Nat × zF) := [(41, (zgf 2 3)), (44, (zst 1 (zp (.int (1))))), (45, (zst 1 z_iadd)), (46, (zst 2 (zp (.int (20))))), (48, zmmin), (51, (zpf 2 3 (.int))), (54, zrv)]
theorem kX2_push_2 : ∀ q ∈ tX2_push_2, zOk zg iX2_push q.1 q.2 := (z_c (ok_getf (C := RX2) (T := TX2) (N := 4) rfl (by decide) zinX2 rfl zw_123 dX2_push_41) (z_c (ok_iconst (v := (1)) dX2_push_44 (by decide)) (z_c (ok_iadd dX2_push_45) (z_c (ok_bipush (v := (20)) dX2_push_46 (by decide)) (z_c (ok_mmin zw_124 zw_48 zw_49 zw_50 dX2_push_48) (z_c (ok_putf (C := RX2) (T := TX2) (N := 4) false tyX2 tyX2_ok nmX2 rfl (by decide) zinX2 rfl zw_123 rfl (fun h => absurd h (by decide)) rfl dX2_push_51) (z_c (ok_return rfl dX2_push_54) z_n)))))))
noncomputable def tX2_push : zT := [(22, tX2_push_0), (41, tX2_push_1), (100000, tX2_push_2)]
theorem kX2_push : zTok zg iX2_push tX2_push := (z_t kX2_push_0 (z_t kX2_push_1 (z_t kX2_push_2 z_tn)))
theorem dX2_pop_0 : decode cX2_pop 0 = .ok (.aload_n 0, 1) := by decide +kernel
theorem dX2_pop_1 : decode cX2_pop 1 = .ok (.getfield 36, 3) := by decide +kernel
theorem dX2_pop_4 : decode cX2_pop 4 = .ok (.ifCond .le 55, 3) := by decide +kernel
theorem dX2_pop_7 : decode cX2_pop 7 = .ok (.aload_n 0, 1) := by decide +kernel
theorem dX2_pop_8 : decode cX2_pop 8 = .ok (.aload_n 0, 1) := by decide +kernel
theorem dX2_pop_9 : decode cX2_pop 9 = .ok (.getfield 25, 3) := by decide +kernel
theorem dX2_pop_12 : decode cX2_pop 12 = .ok (.bipush 20, 2) := by decide +kernel
theorem dX2_pop_14 : decode cX2_pop 14 = .ok (.iadd, 1) := by decide +kernel
theorem dX2_pop_15 : decode cX2_pop 15 = .ok (.iconst 1, 1) := by decide +kernel
theorem dX2_pop_16 : decode cX2_pop 16 = .ok (.isub, 1) := by decide +kernel
theorem dX2_pop_17 : decode cX2_pop 17 = .ok (.bipush 20, 2) := by decide +kernel
theorem dX2_pop_19 : decode cX2_pop 19 = .ok (.irem, 1) := by decide +kernel
theorem dX2_pop_20 : decode cX2_pop 20 = .ok (.putfield 25, 3) := by decide +kernel
theorem dX2_pop_23 : decode cX2_pop 23 = .ok (.aload_n 0, 1) := by decide +kernel
theorem dX2_pop_24 : decode cX2_pop 24 = .ok (.dup, 1) := by decide +kernel
theorem dX2_pop_25 : decode cX2_pop 25 = .ok (.getfield 36, 3) := by decide +kernel
theorem dX2_pop_28 : decode cX2_pop 28 = .ok (.iconst 1, 1) := by decide +kernel
theorem dX2_pop_29 : decode cX2_pop 29 = .ok (.isub, 1) := by decide +kernel
theorem dX2_pop_30 : decode cX2_pop 30 = .ok (.putfield 36, 3) := by decide +kernel
theorem dX2_pop_33 : decode cX2_pop 33 = .ok (.aload_n 1, 1) := by decide +kernel
theorem dX2_pop_34 : decode cX2_pop 34 = .ok (.aload_n 0, 1) := by decide +kernel
theorem dX2_pop_35 : decode cX2_pop 35 = .ok (.getfield 11, 3) := by decide +kernel
theorem dX2_pop_38 : decode cX2_pop 38 = .ok (.aload_n 0, 1) := by decide +kernel
theorem dX2_pop_39 : decode cX2_pop 39 = .ok (.getfield 25, 3) := by decide +kernel
theorem dX2_pop_42 : decode cX2_pop 42 = .ok (.aaload, 1) := by decide +kernel
theorem dX2_pop_43 : decode cX2_pop 43 = .ok (.invokevirtual 29, 3) := by decide +kernel
theorem dX2_pop_46 : decode cX2_pop 46 = .ok (.aload_n 2, 1) := by decide +kernel
theorem dX2_pop_47 : decode cX2_pop 47 = .ok (.aload_n 0, 1) := by decide +kernel
theorem dX2_pop_48 : decode cX2_pop 48 = .ok (.getfield 19, 3) := by decide +kernel
theorem dX2_pop_51 : decode cX2_pop 51 = .ok (.aload_n 0, 1) := by decide +kernel
theorem dX2_pop_52 : decode cX2_pop 52 = .ok (.getfield 25, 3) := by decide +kernel
theorem dX2_pop_55 : decode cX2_pop 55 = .ok (.aaload, 1) := by decide +kernel
theorem dX2_pop_56 : decode cX2_pop 56 = .ok (.invokevirtual 33, 3) := by decide +kernel
theorem dX2_pop_59 : decode cX2_pop 59 = .ok (.return_, 1) := by decide +kernel
noncomputable def tX2_pop_0 : List (Nat × zF) := [(0, (zla4 0 1)), (1, (zgf 2 3)), (4, (z_if_le 59)), (7, (zla4 0 1)), (8, (zla4 0 1)), (9, (zgf 2 2)), (12, (zst 2 (zp (.int (20))))), (14, (zst 1 z_iadd)), (15, (zst 1 (zp (.int (1))))), (16, (zst 1 z_isub)), (17, (zst 2 (zp (.int (20))))), (19, (zst 1 z_irem))]
theorem kX2_pop_0 : ∀ q ∈ tX2_pop_0, zOk zg iX2_pop q.1 q.2 := (z_c (ok_aload_n dX2_pop_0 rfl) (z_c (ok_getf (C := RX2) (T := TX2) (N := 4) rfl (by decide) zinX2 rfl zw_123 dX2_pop_1) (z_c (ok_if_le dX2_pop_4 (by decide)) (z_c (ok_aload_n dX2_pop_7 rfl) (z_c (ok_aload_n dX2_pop_8 rfl) (z_c (ok_getf (C := RX2) (T := TX2) (N := 4) rfl (by decide) zinX2 rfl zw_116 dX2_pop_9) (z_c (ok_bipush (v := (20)) dX2_pop_12 (by decide)) (z_c (ok_iadd dX2_pop_14) (z_c (ok_iconst (v := (1)) dX2_pop_15 (by decide)) (z_c (ok_isub dX2_pop_16) (z_c (ok_bipush (v := (20)) dX2_pop_17 (by decide)) (z_c (ok_irem dX2_pop_19) z_n))))))))))))
noncomputable def tX2_pop_1 : List (Nat × zF) := [(20, (zpf 2 2 (.int))), (23, (zla4 0 1)), (24, (zst 1 zdu)), (25, (zgf 2 3)), (28, (zst 1 (zp (.int (1))))), (29, (zst 1 z_isub)), (30, (zpf 2 3 (.int))), (33, (zla4 1 1)), (34, (zla4 0 1)), (35, (zgf 2 0)), (38, (zla4 0 1)), (39, (zgf 2 2))]
theorem kX2_pop_1 : ∀ q ∈ tX2_pop_1, zOk zg iX2_pop q.1 q.2 := (z_c (ok_putf (C := RX2) (T := TX2) (N := 4) false tyX2 tyX2_ok nmX2 rfl (by decide) zinX2 rfl zw_116 rfl (fun h => absurd h (by decide)) rfl dX2_pop_20) (z_c (ok_aload_n dX2_pop_23 rfl) (z_c (ok_dup dX2_pop_24) (z_c (ok_getf (C := RX2) (T := TX2) (N := 4) rfl (by decide) zinX2 rfl zw_123 dX2_pop_25) (z_c (ok_iconst (v := (1)) dX2_pop_28 (by decide)) (z_c (ok_isub dX2_pop_29) (z_c (ok_putf (C := RX2) (T := TX2) (N := 4) false tyX2 tyX2_ok nmX2 rfl (by decide) zinX2 rfl zw_123 rfl (fun h => absurd h (by decide)) rfl dX2_pop_30) (z_c (ok_aload_n dX2_pop_33 rfl) (z_c (ok_aload_n dX2_pop_34 rfl) (z_c (ok_getf (C := RX2) (T := TX2) (N := 4) rfl (by decide) zinX2 rfl zw_107 dX2_pop_35) (z_c (ok_aload_n dX2_pop_38 rfl) (z_c (ok_getf (C := RX2) (T := TX2) (N := 4) rfl (by decide) zinX2 rfl zw_116 dX2_pop_39) z_n))))))))))))
noncomputable def tX2_pop_2 : List (Nat × zF) := [(42, (zaq 3)), (43, (zcv 80 1 8)), (46, (zla4 2 1)), (47, (zla4 0 1)), (48, (zgf 2 1)), (51, (zla4 0 1)), (52, (zgf 2 2)), (55, (zaq 4)), (56, (zcv 21 1 1)), (59, zrv)]
theorem kX2_pop_2 : ∀ q ∈ tX2_pop_2, zOk zg iX2_pop q.1 q.2 := (z_c (ok_aaload (C := "MissingLamps$State") rfl dX2_pop_42) (z_c (ok_callV zcal_80 (q := (RX8, TX8, 6)) rfl zw_117 zw_118 zw_119 dX2_pop_43) (z_c (ok_aload_n dX2_pop_46 rfl) (z_c (ok_aload_n dX2_pop_47 rfl) (z_c (ok_getf (C := RX2) (T := TX2) (N := 4) rfl (by decide) zinX2 rfl zw_109 dX2_pop_48) (z_c (ok_aload_n dX2_pop_51 rfl) (z_c (ok_getf (C := RX2) (T := TX2) (N := 4) rfl (by decide) zinX2 rfl zw_116 dX2_pop_52) (z_c (ok_aaload (C := "MissingLamps$KeptRows") rfl dX2_pop_55) (z_c (ok_callV zcal_21 (q := (RX1, TX1, 4)) rfl zw_120 zw_121 zw_122 dX2_pop_56) (z_c (ok_return rfl dX2_pop_59) z_n))))))))))
noncomputable def tX2_pop : zT := [(20, tX2_pop_0), (42, tX2_pop_1), (100000, tX2_pop_2)]
theorem kX2_pop : zTok zg iX2_pop tX2_pop := (z_t kX2_pop_0 (z_t kX2_pop_1 (z_t kX2_pop_2 z_tn)))
theorem dX3_init_0 : decode cX3_init 0 = .ok (.aload_n 0, 1) := by decide +kernel
theorem dX3_init_1 : decode cX3_init 1 = .ok (.invokespecial 3, 3) := by decide +kernel
theorem dX3_init_4 : decode cX3_init 4 = .ok (.aload_n 0, 1) := by decide +kernel
theorem dX3_init_5 : decode cX3_init 5 = .ok (.bipush 9, 2) := by decide +kernel
theorem dX3_init_7 : decode cX3_init 7 = .ok (.anewarray 9, 3) := by decide +kernel
theorem dX3_init_10 : decode cX3_init 10 = .ok (.putfield 11, 3) := by decide +kernel
theorem dX3_init_13 : decode cX3_init 13 = .ok (.aload_n 0, 1) := by decide +kernel
theorem dX3_init_14 : decode cX3_init 14 = .ok (.bipush 9, 2) := by decide +kernel
theorem dX3_init_16 : decode cX3_init 16 = .ok (.newarray .long, 2) := by decide +kernel
theorem dX3_init_18 : decode cX3_init 18 = .ok (.putfield 17, 3) := by decide +kernel
theorem dX3_init_21 : decode cX3_init 21 = .ok (.aload_n 0, 1) := by decide +kernel
theorem dX3_init_22 : decode cX3_init 22 = .ok (.bipush 54, 2) := by decide +kernel
theorem dX3_init_24 : decode cX3_init 24 = .ok (.newarray .int, 2) := by decide +kernel
theorem dX3_init_26 : decode cX3_init 26 = .ok (.putfield 21, 3) := by decide +kernel
theorem dX3_init_29 : decode cX3_init 29 = .ok (.aload_n 0, 1) := by decide +kernel
theorem dX3_init_30 : decode cX3_init 30 = .ok (.sipush 3584, 3) := by decide +kernel
theorem dX3_init_33 : decode cX3_init 33 = .ok (.newarray .int, 2) := by decide +kernel
theorem dX3_init_35 : decode cX3_init 35 = .ok (.putfield 25, 3) := by decide +kernel
theorem dX3_init_38 : decode cX3_init 38 = .ok (.aload_n 0, 1) := by decide +kernel
theorem dX3_init_39 : decode cX3_init 39 = .ok (.bipush 6, 2) := by decide +kernel
theorem dX3_init_41 : decode cX3_init 41 = .ok (.newarray .int, 2) := by decide +kernel
theorem dX3_init_43 : decode cX3_init 43 = .ok (.putfield 28, 3) := by decide +kernel
theorem dX3_init_46 : decode cX3_init 46 = .ok (.aload_n 0, 1) := by decide +kernel
theorem dX3_init_47 : decode cX3_init 47 = .ok (.bipush 64, 2) := by decide +kernel
theorem dX3_init_49 : decode cX3_init 49 = .ok (.newarray .int, 2) := by decide +kernel
theorem dX3_init_51 : decode cX3_init 51 = .ok (.putfield 31, 3) := by decide +kernel
theorem dX3_init_54 : decode cX3_init 54 = .ok (.aload_n 0, 1) := by decide +kernel
theorem dX3_init_55 : decode cX3_init 55 = .ok (.aload_n 1, 1) := by decide +kernel
theorem dX3_init_56 : decode cX3_init 56 = .ok (.putfield 34, 3) := by decide +kernel
theorem dX3_init_59 : decode cX3_init 59 = .ok (.iconst 0, 1) := by decide +kernel
theorem dX3_init_60 : decode cX3_init 60 = .ok (.istore_n 2, 1) := by decide +kernel
theorem dX3_init_61 : decode cX3_init 61 = .ok (.iload_n 2, 1) := by decide +kernel
theorem dX3_init_62 : decode cX3_init 62 = .ok (.bipush 9, 2) := by decide +kernel
theorem dX3_init_64 : decode cX3_init 64 = .ok (.if_icmp .ge 22, 3) := by decide +kernel
theorem dX3_init_67 : decode cX3_init 67 = .ok (.aload_n 0, 1) := by decide +kernel
theorem dX3_init_68 : decode cX3_init 68 = .ok (.getfield 11, 3) := by decide +kernel
theorem dX3_init_71 : decode cX3_init 71 = .ok (.iload_n 2, 1) := by decide +kernel
theorem dX3_init_72 : decode cX3_init 72 = .ok (.new 9, 3) := by decide +kernel
theorem dX3_init_75 : decode cX3_init 75 = .ok (.dup, 1) := by decide +kernel
theorem dX3_init_76 : decode cX3_init 76 = .ok (.invokespecial 38, 3) := by decide +kernel
theorem dX3_init_79 : decode cX3_init 79 = .ok (.aastore, 1) := by decide +kernel
theorem dX3_init_80 : decode cX3_init 80 = .ok (.iinc 2 1, 3) := by decide +kernel
theorem dX3_init_83 : decode cX3_init 83 = .ok (.goto (-22), 3) := by decide +kernel
theorem dX3_init_86 : decode cX3_init 86 = .ok (.return_, 1) := by decide +kernel
noncomputable def tX3_init_0 : List (Nat × zF) := [(0, (zla4 0 1)), (1, zoi), (4, (zla4 0 1)), (5, (zst 2 (zp (.int (9))))), (7, (zna 3 4 zn_ref 3)), (10, (zpf 3 1 (.array (.object "MissingLamps$State")))), (13, (zla4 0 1)), (14, (zst 2 (zp (.int (9))))), (16, (zna 1 8 zn_long 2)), (18, (zpf 3 2 (.array .long))), (21, (zla4 0 1)), (22, (zst 2 (zp (.int (54)))))]
theorem kX3_init_0 : ∀ q ∈ tX3_init_0, zOk zg iX3_init q.1 q.2 := (z_c (ok_aload_n dX3_init_0 rfl) (z_c (ok_objInit zw_125 zw_1 zw_2 dX3_init_1) (z_c (ok_aload_n dX3_init_4 rfl) (z_c (ok_bipush (v := (9)) dX3_init_5 (by decide)) (z_c (ok_newq (C := "MissingLamps$State") rfl zx_ao3 zw_126 dX3_init_7) (z_c (ok_putf (C := RX3) (T := TX3) (N := 13) true tyX3 tyX3_ok nmX3 rfl (by decide) zinX3 rfl zw_127 rfl (fun _ => ⟨rfl, rfl⟩) rfl dX3_init_10) (z_c (ok_aload_n dX3_init_13 rfl) (z_c (ok_bipush (v := (9)) dX3_init_14 (by decide)) (z_c (ok_newa (ty := .long) rfl rfl (fun _ h => by cases h) zw_8 rfl zn_long_c zn_long_n dX3_init_16) (z_c (ok_putf (C := RX3) (T := TX3) (N := 13) true tyX3 tyX3_ok nmX3 rfl (by decide) zinX3 rfl zw_128 rfl (fun _ => ⟨rfl, rfl⟩) rfl dX3_init_18) (z_c (ok_aload_n dX3_init_21 rfl) (z_c (ok_bipush (v := (54)) dX3_init_22 (by decide)) z_n))))))))))))
noncomputable def tX3_init_1 : List (Nat × zF) := [(24, (zna 0 4 zn_int 2)), (26, (zpf 3 3 (.array .int))), (29, (zla4 0 1)), (30, (zst 3 (zp (.int (3584))))), (33, (zna 0 4 zn_int 2)), (35, (zpf 3 4 (.array .int))), (38, (zla4 0 1)), (39, (zst 2 (zp (.int (6))))), (41, (zna 0 4 zn_int 2)), (43, (zpf 3 5 (.array .int))), (46, (zla4 0 1)), (47, (zst 2 (zp (.int (64)))))]
theorem kX3_init_1 : ∀ q ∈ tX3_init_1, zOk zg iX3_init q.1 q.2 := (z_c (ok_newa (ty := .int) rfl rfl (fun _ h => by cases h) zw_96 rfl zn_int_c zn_int_n dX3_init_24) (z_c (ok_putf (C := RX3) (T := TX3) (N := 13) true tyX3 tyX3_ok nmX3 rfl (by decide) zinX3 rfl zw_129 rfl (fun _ => ⟨rfl, rfl⟩) rfl dX3_init_26) (z_c (ok_aload_n dX3_init_29 rfl) (z_c (ok_sipush (v := (3584)) dX3_init_30 (by decide)) (z_c (ok_newa (ty := .int) rfl rfl (fun _ h => by cases h) zw_96 rfl zn_int_c zn_int_n dX3_init_33) (z_c (ok_putf (C := RX3) (T := TX3) (N := 13) true tyX3 tyX3_ok nmX3 rfl (by decide) zinX3 rfl zw_130 rfl (fun _ => ⟨rfl, rfl⟩) rfl dX3_init_35) (z_c (ok_aload_n dX3_init_38 rfl) (z_c (ok_bipush (v := (6)) dX3_init_39 (by decide)) (z_c (ok_newa (ty := .int) rfl rfl (fun _ h => by cases h) zw_96 rfl zn_int_c zn_int_n dX3_init_41) (z_c (ok_putf (C := RX3) (T := TX3) (N := 13) true tyX3 tyX3_ok nmX3 rfl (by decide) zinX3 rfl zw_131 rfl (fun _ => ⟨rfl, rfl⟩) rfl dX3_init_43) (z_c (ok_aload_n dX3_init_46 rfl) (z_c (ok_bipush (v := (64)) dX3_init_47 (by decide)) z_n))))))))))))
noncomputable def tX3_init_2 : List (Nat × zF) := [(49, (zna 0 4 zn_int 2)), (51, (zpf 3 8 (.array .int))), (54, (zla4 0 1)), (55, (zla4 1 1)), (56, (zpf 3 0 (.object "MissingLamps$Harbour"))), (59, (zst 1 (zp (.int (0))))), (60, (zsi4 3 2 1)), (61, (zli4 2 1)), (62, (zst 2 (zp (.int (9))))), (64, (z_ic_ge 86)), (67, (zla4 0 1)), (68, (zgf 3 1))]
theorem kX3_init_2 : ∀ q ∈ tX3_init_2, zOk zg iX3_init q.1 q.2 := (z_c (ok_newa (ty := .int) rfl rfl (fun _ h => by cases h) zw_96 rfl zn_int_c zn_int_n dX3_init_49) (z_c (ok_putf (C := RX3) (T := TX3) (N := 13) true tyX3 tyX3_ok nmX3 rfl (by decide) zinX3 rfl zw_132 rfl (fun _ => ⟨rfl, rfl⟩) rfl dX3_init_51) (z_c (ok_aload_n dX3_init_54 rfl) (z_c (ok_aload_n dX3_init_55 rfl) (z_c (ok_putf (C := RX3) (T := TX3) (N := 13) true tyX3 tyX3_ok nmX3 rfl (by decide) zinX3 rfl zw_133 rfl (fun _ => ⟨rfl, rfl⟩) rfl dX3_init_56) (z_c (ok_iconst (v := (0)) dX3_init_59 (by decide)) (z_c (ok_istore_n dX3_init_60 rfl) (z_c (ok_iload_n dX3_init_61 rfl) (z_c (ok_bipush (v := (9)) dX3_init_62 (by decide)) (z_c (ok_icmp_ge dX3_init_64 (by decide)) (z_c (ok_aload_n dX3_init_67 rfl) (z_c (ok_getf (C := RX3) (T := TX3) (N := 13) rfl (by decide) zinX3 rfl zw_127 dX3_init_68) z_n))))))))))))
noncomputable def tX3_init_3 : List (Nat × zF) := [(71, (zli4 2 1)), (72, (znw 8 zdfX8)), (75, (zst 1 zdu)), (76, (zci 79 0)), (79, (zsq 3 8)), (80, (zin4 3 2 (1))), (83, (zgt 61)), (86, zrv)]
theorem kX3_init_3 : ∀ q ∈ tX3_init_3, zOk zg iX3_init q.1 q.2 := (z_c (ok_iload_n dX3_init_71 rfl) (z_c (ok_new (C := RX8) (T := TX8) (N := 6) tyX8 tyX8_ok rfl zinX8 zw_126 zw_110 zw_111 rfl (fun _ _ => rfl) zdfX8_ok dX3_init_72) (z_c (ok_dup dX3_init_75) (z_c (ok_callIN zcal_79 rfl rfl zx_nest_7 zw_112 dX3_init_76) (z_c (ok_aastore (q := (RX8, TX8, 6)) rfl rfl dX3_init_79) (z_c (ok_iinc (v := (1)) dX3_init_80 (by decide)) (z_c (ok_goto dX3_init_83 (by decide)) (z_c (ok_return rfl dX3_init_86) z_n))))))))
noncomputable def tX3_init : zT := [(24, tX3_init_0), (49, tX3_init_1), (71, tX3_init_2), (100000, tX3_init_3)]
theorem kX3_init : zTok zg iX3_init tX3_init := (z_t kX3_init_0 (z_t kX3_init_1 (z_t kX3_init_2 (z_t kX3_init_3 z_tn))))
theorem dX3_behind_0 : decode cX3_behind 0 = .ok (.aload_n 0, 1) := by decide +kernel
theorem dX3_behind_1 : decode cX3_behind 1 = .ok (.getfield 11, 3) := by decide +kernel
theorem dX3_behind_4 : decode cX3_behind 4 = .ok (.iconst 0, 1) := by decide +kernel
theorem dX3_behind_5 : decode cX3_behind 5 = .ok (.aaload, 1) := by decide +kernel
theorem dX3_behind_6 : decode cX3_behind 6 = .ok (.astore_n 3, 1) := by decide +kernel
theorem dX3_behind_7 : decode cX3_behind 7 = .ok (.aload_n 3, 1) := by decide +kernel
theorem dX3_behind_8 : decode cX3_behind 8 = .ok (.aload_n 1, 1) := by decide +kernel
theorem dX3_behind_9 : decode cX3_behind 9 = .ok (.invokevirtual 39, 3) := by decide +kernel
theorem dX3_behind_12 : decode cX3_behind 12 = .ok (.aload_n 0, 1) := by decide +kernel
theorem dX3_behind_13 : decode cX3_behind 13 = .ok (.getfield 34, 3) := by decide +kernel
theorem dX3_behind_16 : decode cX3_behind 16 = .ok (.aload_n 3, 1) := by decide +kernel
theorem dX3_behind_17 : decode cX3_behind 17 = .ok (.iload_n 2, 1) := by decide +kernel
theorem dX3_behind_18 : decode cX3_behind 18 = .ok (.iconst (-1), 1) := by decide +kernel
theorem dX3_behind_19 : decode cX3_behind 19 = .ok (.invokevirtual 43, 3) := by decide +kernel
theorem dX3_behind_22 : decode cX3_behind 22 = .ok (.aload_n 3, 1) := by decide +kernel
theorem dX3_behind_23 : decode cX3_behind 23 = .ok (.areturn, 1) := by decide +kernel
noncomputable def tX3_behind_0 : List (Nat × zF) := [(0, (zla4 0 1)), (1, (zgf 3 1)), (4, (zst 1 (zp (.int (0))))), (5, (zaq 3)), (6, (zsa4 4 3 1)), (7, (zla4 3 1)), (8, (zla4 1 1)), (9, (zcv 80 1 8)), (12, (zla4 0 1)), (13, (zgf 3 0)), (16, (zla4 3 1)), (17, (zli4 2 1))]
theorem kX3_behind_0 : ∀ q ∈ tX3_behind_0, zOk zg iX3_behind q.1 q.2 := (z_c (ok_aload_n dX3_behind_0 rfl) (z_c (ok_getf (C := RX3) (T := TX3) (N := 13) rfl (by decide) zinX3 rfl zw_127 dX3_behind_1) (z_c (ok_iconst (v := (0)) dX3_behind_4 (by decide)) (z_c (ok_aaload (C := "MissingLamps$State") rfl dX3_behind_5) (z_c (ok_astore_n dX3_behind_6 rfl) (z_c (ok_aload_n dX3_behind_7 rfl) (z_c (ok_aload_n dX3_behind_8 rfl) (z_c (ok_callV zcal_80 (q := (RX8, TX8, 6)) rfl zw_134 zw_118 zw_119 dX3_behind_9) (z_c (ok_aload_n dX3_behind_12 rfl) (z_c (ok_getf (C := RX3) (T := TX3) (N := 13) rfl (by decide) zinX3 rfl zw_133 dX3_behind_13) (z_c (ok_aload_n dX3_behind_16 rfl) (z_c (ok_iload_n dX3_behind_17 rfl) z_n))))))))))))
noncomputable def tX3_behind_1 : List (Nat × zF) := [(18, (zst 1 (zp (.int ((-1)))))), (19, (zcv 2 3 0)), (22, (zla4 3 1)), (23, zra)]
theorem kX3_behind_1 : ∀ q ∈ tX3_behind_1, zOk zg iX3_behind q.1 q.2 := (z_c (ok_iconst (v := (-1)) dX3_behind_18 (by decide)) (z_c (ok_callV zcal_2 (q := (RX0, TX0, 5)) rfl zw_135 zw_136 zw_137 dX3_behind_19) (z_c (ok_aload_n dX3_behind_22 rfl) (z_c (ok_areturn rfl dX3_behind_23) z_n))))
noncomputable def tX3_behind : zT := [(18, tX3_behind_0), (100000, tX3_behind_1)]
theorem kX3_behind : zTok zg iX3_behind tX3_behind := (z_t kX3_behind_0 (z_t kX3_behind_1 z_tn))
theorem dX3_nightsTillHome_0 : decode cX3_nightsTillHome 0 = .ok (.aload_n 0, 1) := by decide +kernel
theorem dX3_nightsTillHome_1 : decode cX3_nightsTillHome 1 = .ok (.getfield 11, 3) := by decide +kernel
theorem dX3_nightsTillHome_4 : decode cX3_nightsTillHome 4 = .ok (.iconst 0, 1) := by decide +kernel
theorem dX3_nightsTillHome_5 : decode cX3_nightsTillHome 5 = .ok (.aaload, 1) := by decide +kernel
theorem dX3_nightsTillHome_6 : decode cX3_nightsTillHome 6 = .ok (.astore_n 3, 1) := by decide +kernel
theorem dX3_nightsTillHome_7 : decode cX3_nightsTillHome 7 = .ok (.aload_n 3, 1) := by decide +kernel
theorem dX3_nightsTillHome_8 : decode cX3_nightsTillHome 8 = .ok (.aload_n 1, 1) := by decide +kernel
theorem dX3_nightsTillHome_9 : decode cX3_nightsTillHome 9 = .ok (.invokevirtual 39, 3) := by decide +kernel
theorem dX3_nightsTillHome_12 : decode cX3_nightsTillHome 12 = .ok (.bipush 40, 2) := by decide +kernel
theorem dX3_nightsTillHome_14 : decode cX3_nightsTillHome 14 = .ok (.sipush 999, 3) := by decide +kernel
theorem dX3_nightsTillHome_17 : decode cX3_nightsTillHome 17 = .ok (.aload_n 1, 1) := by decide +kernel
theorem dX3_nightsTillHome_18 : decode cX3_nightsTillHome 18 = .ok (.getfield 49, 3) := by decide +kernel
theorem dX3_nightsTillHome_21 : decode cX3_nightsTillHome 21 = .ok (.isub, 1) := by decide +kernel
theorem dX3_nightsTillHome_22 : decode cX3_nightsTillHome 22 = .ok (.invokestatic 53, 3) := by decide +kernel
theorem dX3_nightsTillHome_25 : decode cX3_nightsTillHome 25 = .ok (.istore 4, 2) := by decide +kernel
theorem dX3_nightsTillHome_27 : decode cX3_nightsTillHome 27 = .ok (.iconst 0, 1) := by decide +kernel
theorem dX3_nightsTillHome_28 : decode cX3_nightsTillHome 28 = .ok (.istore 5, 2) := by decide +kernel
theorem dX3_nightsTillHome_30 : decode cX3_nightsTillHome 30 = .ok (.iload 5, 2) := by decide +kernel
theorem dX3_nightsTillHome_32 : decode cX3_nightsTillHome 32 = .ok (.iload 4, 2) := by decide +kernel
theorem dX3_nightsTillHome_34 : decode cX3_nightsTillHome 34 = .ok (.if_icmp .ge 31, 3) := by decide +kernel
theorem dX3_nightsTillHome_37 : decode cX3_nightsTillHome 37 = .ok (.aload_n 0, 1) := by decide +kernel
theorem dX3_nightsTillHome_38 : decode cX3_nightsTillHome 38 = .ok (.getfield 34, 3) := by decide +kernel
theorem dX3_nightsTillHome_41 : decode cX3_nightsTillHome 41 = .ok (.aload_n 3, 1) := by decide +kernel
theorem dX3_nightsTillHome_42 : decode cX3_nightsTillHome 42 = .ok (.iload_n 2, 1) := by decide +kernel
theorem dX3_nightsTillHome_43 : decode cX3_nightsTillHome 43 = .ok (.invokevirtual 59, 3) := by decide +kernel
theorem dX3_nightsTillHome_46 : decode cX3_nightsTillHome 46 = .ok (.ifCond .ne 19, 3) := by decide +kernel
theorem dX3_nightsTillHome_49 : decode cX3_nightsTillHome 49 = .ok (.aload_n 0, 1) := by decide +kernel
theorem dX3_nightsTillHome_50 : decode cX3_nightsTillHome 50 = .ok (.getfield 34, 3) := by decide +kernel
theorem dX3_nightsTillHome_53 : decode cX3_nightsTillHome 53 = .ok (.aload_n 3, 1) := by decide +kernel
theorem dX3_nightsTillHome_54 : decode cX3_nightsTillHome 54 = .ok (.iconst 1, 1) := by decide +kernel
theorem dX3_nightsTillHome_55 : decode cX3_nightsTillHome 55 = .ok (.iconst (-1), 1) := by decide +kernel
theorem dX3_nightsTillHome_56 : decode cX3_nightsTillHome 56 = .ok (.invokevirtual 43, 3) := by decide +kernel
theorem dX3_nightsTillHome_59 : decode cX3_nightsTillHome 59 = .ok (.iinc 5 1, 3) := by decide +kernel
theorem dX3_nightsTillHome_62 : decode cX3_nightsTillHome 62 = .ok (.goto (-32), 3) := by decide +kernel
theorem dX3_nightsTillHome_65 : decode cX3_nightsTillHome 65 = .ok (.aload_n 0, 1) := by decide +kernel
theorem dX3_nightsTillHome_66 : decode cX3_nightsTillHome 66 = .ok (.getfield 34, 3) := by decide +kernel
theorem dX3_nightsTillHome_69 : decode cX3_nightsTillHome 69 = .ok (.aload_n 3, 1) := by decide +kernel
theorem dX3_nightsTillHome_70 : decode cX3_nightsTillHome 70 = .ok (.iload_n 2, 1) := by decide +kernel
theorem dX3_nightsTillHome_71 : decode cX3_nightsTillHome 71 = .ok (.invokevirtual 59, 3) := by decide +kernel
theorem dX3_nightsTillHome_74 : decode cX3_nightsTillHome 74 = .ok (.ifCond .ne 5, 3) := by decide +kernel
theorem dX3_nightsTillHome_77 : decode cX3_nightsTillHome 77 = .ok (.iconst (-1), 1) := by decide +kernel
theorem dX3_nightsTillHome_78 : decode cX3_nightsTillHome 78 = .ok (.ireturn, 1) := by decide +kernel
theorem dX3_nightsTillHome_79 : decode cX3_nightsTillHome 79 = .ok (.aload_n 3, 1) := by decide +kernel
theorem dX3_nightsTillHome_80 : decode cX3_nightsTillHome 80 = .ok (.getfield 49, 3) := by decide +kernel
theorem dX3_nightsTillHome_83 : decode cX3_nightsTillHome 83 = .ok (.aload_n 1, 1) := by decide +kernel
theorem dX3_nightsTillHome_84 : decode cX3_nightsTillHome 84 = .ok (.getfield 49, 3) := by decide +kernel
theorem dX3_nightsTillHome_87 : decode cX3_nightsTillHome 87 = .ok (.isub, 1) := by decide +kernel
theorem dX3_nightsTillHome_88 : decode cX3_nightsTillHome 88 = .ok (.ireturn, 1) := by decide +kernel
noncomputable def tX3_nightsTillHome_0 : List (Nat × zF) := [(0, (zla4 0 1)), (1, (zgf 3 1)), (4, (zst 1 (zp (.int (0))))), (5, (zaq 3)), (6, (zsa4 6 3 1)), (7, (zla4 3 1)), (8, (zla4 1 1)), (9, (zcv 80 1 8)), (12, (zst 2 (zp (.int (40))))), (14, (zst 3 (zp (.int (999))))), (17, (zla4 1 1)), (18, (zgf 8 0))]
theorem kX3_nightsTillHome_0 : ∀ q ∈ tX3_nightsTillHome_0, zOk zg iX3_nightsTillHome q.1 q.2 := (z_c (ok_aload_n dX3_nightsTillHome_0 rfl) (z_c (ok_getf (C := RX3) (T := TX3) (N := 13) rfl (by decide) zinX3 rfl zw_127 dX3_nightsTillHome_1) (z_c (ok_iconst (v := (0)) dX3_nightsTillHome_4 (by decide)) (z_c (ok_aaload (C := "MissingLamps$State") rfl dX3_nightsTillHome_5) (z_c (ok_astore_n dX3_nightsTillHome_6 rfl) (z_c (ok_aload_n dX3_nightsTillHome_7 rfl) (z_c (ok_aload_n dX3_nightsTillHome_8 rfl) (z_c (ok_callV zcal_80 (q := (RX8, TX8, 6)) rfl zw_134 zw_118 zw_119 dX3_nightsTillHome_9) (z_c (ok_bipush (v := (40)) dX3_nightsTillHome_12 (by decide)) (z_c (ok_sipush (v := (999)) dX3_nightsTillHome_14 (by decide)) (z_c (ok_aload_n dX3_nightsTillHome_17 rfl) (z_c (ok_getf (C := RX8) (T := TX8) (N := 6) rfl (by decide) zinX8 rfl zw_138 dX3_nightsTillHome_18) z_n))))))))))))
noncomputable def tX3_nightsTillHome_1 : List (Nat × zF) := [(21, (zst 1 z_isub)), (22, zmmin), (25, (zsi4 6 4 2)), (27, (zst 1 (zp (.int (0))))), (28, (zsi4 6 5 2)), (30, (zli4 5 2)), (32, (zli4 4 2)), (34, (z_ic_ge 65)), (37, (zla4 0 1)), (38, (zgf 3 0)), (41, (zla4 3 1)), (42, (zli4 2 1))]
theorem kX3_nightsTillHome_1 : ∀ q ∈ tX3_nightsTillHome_1, zOk zg iX3_nightsTillHome q.1 q.2 := (z_c (ok_isub dX3_nightsTillHome_21) (z_c (ok_mmin zw_139 zw_48 zw_49 zw_50 dX3_nightsTillHome_22) (z_c (ok_istore dX3_nightsTillHome_25) (z_c (ok_iconst (v := (0)) dX3_nightsTillHome_27 (by decide)) (z_c (ok_istore dX3_nightsTillHome_28) (z_c (ok_iload dX3_nightsTillHome_30) (z_c (ok_iload dX3_nightsTillHome_32) (z_c (ok_icmp_ge dX3_nightsTillHome_34 (by decide)) (z_c (ok_aload_n dX3_nightsTillHome_37 rfl) (z_c (ok_getf (C := RX3) (T := TX3) (N := 13) rfl (by decide) zinX3 rfl zw_133 dX3_nightsTillHome_38) (z_c (ok_aload_n dX3_nightsTillHome_41 rfl) (z_c (ok_iload_n dX3_nightsTillHome_42 rfl) z_n))))))))))))
noncomputable def tX3_nightsTillHome_2 : List (Nat × zF) := [(43, (zcv 17 2 0)), (46, (z_if_ne 65)), (49, (zla4 0 1)), (50, (zgf 3 0)), (53, (zla4 3 1)), (54, (zst 1 (zp (.int (1))))), (55, (zst 1 (zp (.int ((-1)))))), (56, (zcv 2 3 0)), (59, (zin4 6 5 (1))), (62, (zgt 30)), (65, (zla4 0 1)), (66, (zgf 3 0))]
theorem kX3_nightsTillHome_2 : ∀ q ∈ tX3_nightsTillHome_2, zOk zg iX3_nightsTillHome q.1 q.2 := (z_c (ok_callV zcal_17 (q := (RX0, TX0, 5)) rfl zw_140 zw_93 zw_94 dX3_nightsTillHome_43) (z_c (ok_if_ne dX3_nightsTillHome_46 (by decide)) (z_c (ok_aload_n dX3_nightsTillHome_49 rfl) (z_c (ok_getf (C := RX3) (T := TX3) (N := 13) rfl (by decide) zinX3 rfl zw_133 dX3_nightsTillHome_50) (z_c (ok_aload_n dX3_nightsTillHome_53 rfl) (z_c (ok_iconst (v := (1)) dX3_nightsTillHome_54 (by decide)) (z_c (ok_iconst (v := (-1)) dX3_nightsTillHome_55 (by decide)) (z_c (ok_callV zcal_2 (q := (RX0, TX0, 5)) rfl zw_135 zw_136 zw_137 dX3_nightsTillHome_56) (z_c (ok_iinc (v := (1)) dX3_nightsTillHome_59 (by decide)) (z_c (ok_goto dX3_nightsTillHome_62 (by decide)) (z_c (ok_aload_n dX3_nightsTillHome_65 rfl) (z_c (ok_getf (C := RX3) (T := TX3) (N := 13) rfl (by decide) zinX3 rfl zw_133 dX3_nightsTillHome_66) z_n))))))))))))
noncomputable def tX3_nightsTillHome_3 : List (Nat × zF) := [(69, (zla4 3 1)), (70, (zli4 2 1)), (71, (zcv 17 2 0)), (74, (z_if_ne 79)), (77, (zst 1 (zp (.int ((-1)))))), (78, (zri false)), (79, (zla4 3 1)), (80, (zgf 8 0)), (83, (zla4 1 1)), (84, (zgf 8 0)), (87, (zst 1 z_isub)), (88, (zri false))]
theorem kX3_nightsTillHome_3 : ∀ q ∈ tX3_nightsTillHome_3, zOk zg iX3_nightsTillHome q.1 q.2 := (z_c (ok_aload_n dX3_nightsTillHome_69 rfl) (z_c (ok_iload_n dX3_nightsTillHome_70 rfl) (z_c (ok_callV zcal_17 (q := (RX0, TX0, 5)) rfl zw_140 zw_93 zw_94 dX3_nightsTillHome_71) (z_c (ok_if_ne dX3_nightsTillHome_74 (by decide)) (z_c (ok_iconst (v := (-1)) dX3_nightsTillHome_77 (by decide)) (z_c (ok_ireturn rfl dX3_nightsTillHome_78) (z_c (ok_aload_n dX3_nightsTillHome_79 rfl) (z_c (ok_getf (C := RX8) (T := TX8) (N := 6) rfl (by decide) zinX8 rfl zw_138 dX3_nightsTillHome_80) (z_c (ok_aload_n dX3_nightsTillHome_83 rfl) (z_c (ok_getf (C := RX8) (T := TX8) (N := 6) rfl (by decide) zinX8 rfl zw_138 dX3_nightsTillHome_84) (z_c (ok_isub dX3_nightsTillHome_87) (z_c (ok_ireturn rfl dX3_nightsTillHome_88) z_n))))))))))))
noncomputable def tX3_nightsTillHome : zT := [(21, tX3_nightsTillHome_0), (43, tX3_nightsTillHome_1), (69, tX3_nightsTillHome_2), (100000, tX3_nightsTillHome_3)]
theorem kX3_nightsTillHome : zTok zg iX3_nightsTillHome tX3_nightsTillHome := (z_t kX3_nightsTillHome_0 (z_t kX3_nightsTillHome_1 (z_t kX3_nightsTillHome_2 (z_t kX3_nightsTillHome_3 z_tn))))
theorem dX3_leastLosses_0 : decode cX3_leastLosses 0 = .ok (.aload_n 0, 1) := by decide +kernel
theorem dX3_leastLosses_1 : decode cX3_leastLosses 1 = .ok (.getfield 11, 3) := by decide +kernel
theorem dX3_leastLosses_4 : decode cX3_leastLosses 4 = .ok (.iconst 0, 1) := by decide +kernel
theorem dX3_leastLosses_5 : decode cX3_leastLosses 5 = .ok (.aaload, 1) := by decide +kernel
theorem dX3_leastLosses_6 : decode cX3_leastLosses 6 = .ok (.astore 4, 2) := by decide +kernel
theorem dX3_leastLosses_8 : decode cX3_leastLosses 8 = .ok (.iconst 1, 1) := by decide +kernel
theorem dX3_leastLosses_9 : decode cX3_leastLosses 9 = .ok (.aload_n 0, 1) := by decide +kernel
theorem dX3_leastLosses_10 : decode cX3_leastLosses 10 = .ok (.getfield 34, 3) := by decide +kernel
theorem dX3_leastLosses_13 : decode cX3_leastLosses 13 = .ok (.getfield 63, 3) := by decide +kernel
theorem dX3_leastLosses_16 : decode cX3_leastLosses 16 = .ok (.getfield 67, 3) := by decide +kernel
theorem dX3_leastLosses_19 : decode cX3_leastLosses 19 = .ok (.ishl, 1) := by decide +kernel
theorem dX3_leastLosses_20 : decode cX3_leastLosses 20 = .ok (.iconst 1, 1) := by decide +kernel
theorem dX3_leastLosses_21 : decode cX3_leastLosses 21 = .ok (.isub, 1) := by decide +kernel
theorem dX3_leastLosses_22 : decode cX3_leastLosses 22 = .ok (.aload_n 1, 1) := by decide +kernel
theorem dX3_leastLosses_23 : decode cX3_leastLosses 23 = .ok (.getfield 72, 3) := by decide +kernel
theorem dX3_leastLosses_26 : decode cX3_leastLosses 26 = .ok (.iconst (-1), 1) := by decide +kernel
theorem dX3_leastLosses_27 : decode cX3_leastLosses 27 = .ok (.ixor, 1) := by decide +kernel
theorem dX3_leastLosses_28 : decode cX3_leastLosses 28 = .ok (.iand, 1) := by decide +kernel
theorem dX3_leastLosses_29 : decode cX3_leastLosses 29 = .ok (.istore 5, 2) := by decide +kernel
theorem dX3_leastLosses_31 : decode cX3_leastLosses 31 = .ok (.iload 5, 2) := by decide +kernel
theorem dX3_leastLosses_33 : decode cX3_leastLosses 33 = .ok (.invokestatic 75, 3) := by decide +kernel
theorem dX3_leastLosses_36 : decode cX3_leastLosses 36 = .ok (.istore 6, 2) := by decide +kernel
theorem dX3_leastLosses_38 : decode cX3_leastLosses 38 = .ok (.iconst 0, 1) := by decide +kernel
theorem dX3_leastLosses_39 : decode cX3_leastLosses 39 = .ok (.istore 7, 2) := by decide +kernel
theorem dX3_leastLosses_41 : decode cX3_leastLosses 41 = .ok (.iload 7, 2) := by decide +kernel
theorem dX3_leastLosses_43 : decode cX3_leastLosses 43 = .ok (.iload 6, 2) := by decide +kernel
theorem dX3_leastLosses_45 : decode cX3_leastLosses 45 = .ok (.if_icmp .gt 85, 3) := by decide +kernel
theorem dX3_leastLosses_48 : decode cX3_leastLosses 48 = .ok (.iconst 0, 1) := by decide +kernel
theorem dX3_leastLosses_49 : decode cX3_leastLosses 49 = .ok (.istore 8, 2) := by decide +kernel
theorem dX3_leastLosses_51 : decode cX3_leastLosses 51 = .ok (.iload 8, 2) := by decide +kernel
theorem dX3_leastLosses_53 : decode cX3_leastLosses 53 = .ok (.iload 5, 2) := by decide +kernel
theorem dX3_leastLosses_55 : decode cX3_leastLosses 55 = .ok (.if_icmp .gt 69, 3) := by decide +kernel
theorem dX3_leastLosses_58 : decode cX3_leastLosses 58 = .ok (.iload 8, 2) := by decide +kernel
theorem dX3_leastLosses_60 : decode cX3_leastLosses 60 = .ok (.iload 5, 2) := by decide +kernel
theorem dX3_leastLosses_62 : decode cX3_leastLosses 62 = .ok (.iconst (-1), 1) := by decide +kernel
theorem dX3_leastLosses_63 : decode cX3_leastLosses 63 = .ok (.ixor, 1) := by decide +kernel
theorem dX3_leastLosses_64 : decode cX3_leastLosses 64 = .ok (.iand, 1) := by decide +kernel
theorem dX3_leastLosses_65 : decode cX3_leastLosses 65 = .ok (.ifCond .ne 53, 3) := by decide +kernel
theorem dX3_leastLosses_68 : decode cX3_leastLosses 68 = .ok (.iload 8, 2) := by decide +kernel
theorem dX3_leastLosses_70 : decode cX3_leastLosses 70 = .ok (.invokestatic 75, 3) := by decide +kernel
theorem dX3_leastLosses_73 : decode cX3_leastLosses 73 = .ok (.iload 7, 2) := by decide +kernel
theorem dX3_leastLosses_75 : decode cX3_leastLosses 75 = .ok (.if_icmp .ne 43, 3) := by decide +kernel
theorem dX3_leastLosses_78 : decode cX3_leastLosses 78 = .ok (.aload 4, 2) := by decide +kernel
theorem dX3_leastLosses_80 : decode cX3_leastLosses 80 = .ok (.aload_n 1, 1) := by decide +kernel
theorem dX3_leastLosses_81 : decode cX3_leastLosses 81 = .ok (.invokevirtual 39, 3) := by decide +kernel
theorem dX3_leastLosses_84 : decode cX3_leastLosses 84 = .ok (.aload 4, 2) := by decide +kernel
theorem dX3_leastLosses_86 : decode cX3_leastLosses 86 = .ok (.iload 8, 2) := by decide +kernel
theorem dX3_leastLosses_88 : decode cX3_leastLosses 88 = .ok (.invokestatic 81, 3) := by decide +kernel
theorem dX3_leastLosses_91 : decode cX3_leastLosses 91 = .ok (.aload_n 0, 1) := by decide +kernel
theorem dX3_leastLosses_92 : decode cX3_leastLosses 92 = .ok (.getfield 34, 3) := by decide +kernel
theorem dX3_leastLosses_95 : decode cX3_leastLosses 95 = .ok (.aload 4, 2) := by decide +kernel
theorem dX3_leastLosses_97 : decode cX3_leastLosses 97 = .ok (.iload_n 3, 1) := by decide +kernel
theorem dX3_leastLosses_98 : decode cX3_leastLosses 98 = .ok (.iconst (-1), 1) := by decide +kernel
theorem dX3_leastLosses_99 : decode cX3_leastLosses 99 = .ok (.invokevirtual 43, 3) := by decide +kernel
theorem dX3_leastLosses_102 : decode cX3_leastLosses 102 = .ok (.aload_n 0, 1) := by decide +kernel
theorem dX3_leastLosses_103 : decode cX3_leastLosses 103 = .ok (.getfield 34, 3) := by decide +kernel
theorem dX3_leastLosses_106 : decode cX3_leastLosses 106 = .ok (.aload 4, 2) := by decide +kernel
theorem dX3_leastLosses_108 : decode cX3_leastLosses 108 = .ok (.iload_n 2, 1) := by decide +kernel
theorem dX3_leastLosses_109 : decode cX3_leastLosses 109 = .ok (.invokevirtual 59, 3) := by decide +kernel
theorem dX3_leastLosses_112 : decode cX3_leastLosses 112 = .ok (.ifCond .eq 6, 3) := by decide +kernel
theorem dX3_leastLosses_115 : decode cX3_leastLosses 115 = .ok (.iload 8, 2) := by decide +kernel
theorem dX3_leastLosses_117 : decode cX3_leastLosses 117 = .ok (.ireturn, 1) := by decide +kernel
theorem dX3_leastLosses_118 : decode cX3_leastLosses 118 = .ok (.iinc 8 1, 3) := by decide +kernel
theorem dX3_leastLosses_121 : decode cX3_leastLosses 121 = .ok (.goto (-70), 3) := by decide +kernel
theorem dX3_leastLosses_124 : decode cX3_leastLosses 124 = .ok (.iinc 7 1, 3) := by decide +kernel
theorem dX3_leastLosses_127 : decode cX3_leastLosses 127 = .ok (.goto (-86), 3) := by decide +kernel
theorem dX3_leastLosses_130 : decode cX3_leastLosses 130 = .ok (.iconst (-1), 1) := by decide +kernel
theorem dX3_leastLosses_131 : decode cX3_leastLosses 131 = .ok (.ireturn, 1) := by decide +kernel
noncomputable def tX3_leastLosses_0 : List (Nat × zF) := [(0, (zla4 0 1)), (1, (zgf 3 1)), (4, (zst 1 (zp (.int (0))))), (5, (zaq 3)), (6, (zsa4 9 4 2)), (8, (zst 1 (zp (.int (1))))), (9, (zla4 0 1)), (10, (zgf 3 0)), (13, (zgf 0 0)), (16, (zgf 4 7)), (19, (zst 1 z_ishl)), (20, (zst 1 (zp (.int (1)))))]
theorem kX3_leastLosses_0 : ∀ q ∈ tX3_leastLosses_0, zOk zg iX3_leastLosses q.1 q.2 := (z_c (ok_aload_n dX3_leastLosses_0 rfl) (z_c (ok_getf (C := RX3) (T := TX3) (N := 13) rfl (by decide) zinX3 rfl zw_127 dX3_leastLosses_1) (z_c (ok_iconst (v := (0)) dX3_leastLosses_4 (by decide)) (z_c (ok_aaload (C := "MissingLamps$State") rfl dX3_leastLosses_5) (z_c (ok_astore dX3_leastLosses_6) (z_c (ok_iconst (v := (1)) dX3_leastLosses_8 (by decide)) (z_c (ok_aload_n dX3_leastLosses_9 rfl) (z_c (ok_getf (C := RX3) (T := TX3) (N := 13) rfl (by decide) zinX3 rfl zw_133 dX3_leastLosses_10) (z_c (ok_getf (C := RX0) (T := TX0) (N := 5) rfl (by decide) zinX0 rfl zw_141 dX3_leastLosses_13) (z_c (ok_getf (C := RX4) (T := TX4) (N := 18) rfl (by decide) zinX4 rfl zw_142 dX3_leastLosses_16) (z_c (ok_ishl dX3_leastLosses_19) (z_c (ok_iconst (v := (1)) dX3_leastLosses_20 (by decide)) z_n))))))))))))
noncomputable def tX3_leastLosses_1 : List (Nat × zF) := [(21, (zst 1 z_isub)), (22, (zla4 1 1)), (23, (zgf 8 1)), (26, (zst 1 (zp (.int ((-1)))))), (27, (zst 1 z_ixor)), (28, (zst 1 z_iand)), (29, (zsi4 9 5 2)), (31, (zli4 5 2)), (33, (zcs 279 1)), (36, (zsi4 9 6 2)), (38, (zst 1 (zp (.int (0))))), (39, (zsi4 9 7 2))]
theorem kX3_leastLosses_1 : ∀ q ∈ tX3_leastLosses_1, zOk zg iX3_leastLosses q.1 q.2 := (z_c (ok_isub dX3_leastLosses_21) (z_c (ok_aload_n dX3_leastLosses_22 rfl) (z_c (ok_getf (C := RX8) (T := TX8) (N := 6) rfl (by decide) zinX8 rfl zw_143 dX3_leastLosses_23) (z_c (ok_iconst (v := (-1)) dX3_leastLosses_26 (by decide)) (z_c (ok_ixor dX3_leastLosses_27) (z_c (ok_iand dX3_leastLosses_28) (z_c (ok_istore dX3_leastLosses_29) (z_c (ok_iload dX3_leastLosses_31) (z_c (ok_callS zcal_279 zw_144 zw_87 dX3_leastLosses_33) (z_c (ok_istore dX3_leastLosses_36) (z_c (ok_iconst (v := (0)) dX3_leastLosses_38 (by decide)) (z_c (ok_istore dX3_leastLosses_39) z_n))))))))))))
noncomputable def tX3_leastLosses_2 : List (Nat × zF) := [(41, (zli4 7 2)), (43, (zli4 6 2)), (45, (z_ic_gt 130)), (48, (zst 1 (zp (.int (0))))), (49, (zsi4 9 8 2)), (51, (zli4 8 2)), (53, (zli4 5 2)), (55, (z_ic_gt 124)), (58, (zli4 8 2)), (60, (zli4 5 2)), (62, (zst 1 (zp (.int ((-1)))))), (63, (zst 1 z_ixor))]
theorem kX3_leastLosses_2 : ∀ q ∈ tX3_leastLosses_2, zOk zg iX3_leastLosses q.1 q.2 := (z_c (ok_iload dX3_leastLosses_41) (z_c (ok_iload dX3_leastLosses_43) (z_c (ok_icmp_gt dX3_leastLosses_45 (by decide)) (z_c (ok_iconst (v := (0)) dX3_leastLosses_48 (by decide)) (z_c (ok_istore dX3_leastLosses_49) (z_c (ok_iload dX3_leastLosses_51) (z_c (ok_iload dX3_leastLosses_53) (z_c (ok_icmp_gt dX3_leastLosses_55 (by decide)) (z_c (ok_iload dX3_leastLosses_58) (z_c (ok_iload dX3_leastLosses_60) (z_c (ok_iconst (v := (-1)) dX3_leastLosses_62 (by decide)) (z_c (ok_ixor dX3_leastLosses_63) z_n))))))))))))
noncomputable def tX3_leastLosses_3 : List (Nat × zF) := [(64, (zst 1 z_iand)), (65, (z_if_ne 118)), (68, (zli4 8 2)), (70, (zcs 279 1)), (73, (zli4 7 2)), (75, (z_ic_ne 118)), (78, (zla4 4 2)), (80, (zla4 1 1)), (81, (zcv 80 1 8)), (84, (zla4 4 2)), (86, (zli4 8 2)), (88, (zcs 29 2))]
theorem kX3_leastLosses_3 : ∀ q ∈ tX3_leastLosses_3, zOk zg iX3_leastLosses q.1 q.2 := (z_c (ok_iand dX3_leastLosses_64) (z_c (ok_if_ne dX3_leastLosses_65 (by decide)) (z_c (ok_iload dX3_leastLosses_68) (z_c (ok_callS zcal_279 zw_144 zw_87 dX3_leastLosses_70) (z_c (ok_iload dX3_leastLosses_73) (z_c (ok_icmp_ne dX3_leastLosses_75 (by decide)) (z_c (ok_aload dX3_leastLosses_78) (z_c (ok_aload_n dX3_leastLosses_80 rfl) (z_c (ok_callV zcal_80 (q := (RX8, TX8, 6)) rfl zw_134 zw_118 zw_119 dX3_leastLosses_81) (z_c (ok_aload dX3_leastLosses_84) (z_c (ok_iload dX3_leastLosses_86) (z_c (ok_callS zcal_29 zw_145 zw_146 dX3_leastLosses_88) z_n))))))))))))
noncomputable def tX3_leastLosses_4 : List (Nat × zF) := [(91, (zla4 0 1)), (92, (zgf 3 0)), (95, (zla4 4 2)), (97, (zli4 3 1)), (98, (zst 1 (zp (.int ((-1)))))), (99, (zcv 2 3 0)), (102, (zla4 0 1)), (103, (zgf 3 0)), (106, (zla4 4 2)), (108, (zli4 2 1)), (109, (zcv 17 2 0)), (112, (z_if_eq 118))]
theorem kX3_leastLosses_4 : ∀ q ∈ tX3_leastLosses_4, zOk zg iX3_leastLosses q.1 q.2 := (z_c (ok_aload_n dX3_leastLosses_91 rfl) (z_c (ok_getf (C := RX3) (T := TX3) (N := 13) rfl (by decide) zinX3 rfl zw_133 dX3_leastLosses_92) (z_c (ok_aload dX3_leastLosses_95) (z_c (ok_iload_n dX3_leastLosses_97 rfl) (z_c (ok_iconst (v := (-1)) dX3_leastLosses_98 (by decide)) (z_c (ok_callV zcal_2 (q := (RX0, TX0, 5)) rfl zw_135 zw_136 zw_137 dX3_leastLosses_99) (z_c (ok_aload_n dX3_leastLosses_102 rfl) (z_c (ok_getf (C := RX3) (T := TX3) (N := 13) rfl (by decide) zinX3 rfl zw_133 dX3_leastLosses_103) (z_c (ok_aload dX3_leastLosses_106) (z_c (ok_iload_n dX3_leastLosses_108 rfl) (z_c (ok_callV zcal_17 (q := (RX0, TX0, 5)) rfl zw_140 zw_93 zw_94 dX3_leastLosses_109) (z_c (ok_if_eq dX3_leastLosses_112 (by decide)) z_n))))))))))))
noncomputable def tX3_leastLosses_5 : List (Nat × zF) := [(115, (zli4 8 2)), (117, (zri false)), (118, (zin4 9 8 (1))), (121, (zgt 51)), (124, (zin4 9 7 (1))), (127, (zgt 41)), (130, (zst 1 (zp (.int ((-1)))))), (131, (zri false))]
theorem kX3_leastLosses_5 : ∀ q ∈ tX3_leastLosses_5, zOk zg iX3_leastLosses q.1 q.2 := (z_c (ok_iload dX3_leastLosses_115) (z_c (ok_ireturn rfl dX3_leastLosses_117) (z_c (ok_iinc (v := (1)) dX3_leastLosses_118 (by decide)) (z_c (ok_goto dX3_leastLosses_121 (by decide)) (z_c (ok_iinc (v := (1)) dX3_leastLosses_124 (by decide)) (z_c (ok_goto dX3_leastLosses_127 (by decide)) (z_c (ok_iconst (v := (-1)) dX3_leastLosses_130 (by decide)) (z_c (ok_ireturn rfl dX3_leastLosses_131) z_n))))))))
noncomputable def tX3_leastLosses : zT := [(21, tX3_leastLosses_0), (41, tX3_leastLosses_1), (64, tX3_leastLosses_2), (91, tX3_leastLosses_3), (115, tX3_leastLosses_4), (100000, tX3_leastLosses_5)]
theorem kX3_leastLosses : zTok zg iX3_leastLosses tX3_leastLosses := (z_t kX3_leastLosses_0 (z_t kX3_leastLosses_1 (z_t kX3_leastLosses_2 (z_t kX3_leastLosses_3 (z_t kX3_leastLosses_4 (z_t kX3_leastLosses_5 z_tn))))))
theorem dX3_turnAll_0 : decode cX3_turnAll 0 = .ok (.iconst 0, 1) := by decide +kernel
theorem dX3_turnAll_1 : decode cX3_turnAll 1 = .ok (.istore_n 2, 1) := by decide +kernel
theorem dX3_turnAll_2 : decode cX3_turnAll 2 = .ok (.iload_n 2, 1) := by decide +kernel
theorem dX3_turnAll_3 : decode cX3_turnAll 3 = .ok (.bipush 9, 2) := by decide +kernel
theorem dX3_turnAll_5 : decode cX3_turnAll 5 = .ok (.if_icmp .ge 22, 3) := by decide +kernel
theorem dX3_turnAll_8 : decode cX3_turnAll 8 = .ok (.iload_n 1, 1) := by decide +kernel
theorem dX3_turnAll_9 : decode cX3_turnAll 9 = .ok (.iload_n 2, 1) := by decide +kernel
theorem dX3_turnAll_10 : decode cX3_turnAll 10 = .ok (.ishr, 1) := by decide +kernel
theorem dX3_turnAll_11 : decode cX3_turnAll 11 = .ok (.iconst 1, 1) := by decide +kernel
theorem dX3_turnAll_12 : decode cX3_turnAll 12 = .ok (.iand, 1) := by decide +kernel
theorem dX3_turnAll_13 : decode cX3_turnAll 13 = .ok (.ifCond .eq 8, 3) := by decide +kernel
theorem dX3_turnAll_16 : decode cX3_turnAll 16 = .ok (.aload_n 0, 1) := by decide +kernel
theorem dX3_turnAll_17 : decode cX3_turnAll 17 = .ok (.iload_n 2, 1) := by decide +kernel
theorem dX3_turnAll_18 : decode cX3_turnAll 18 = .ok (.invokevirtual 85, 3) := by decide +kernel
theorem dX3_turnAll_21 : decode cX3_turnAll 21 = .ok (.iinc 2 1, 3) := by decide +kernel
theorem dX3_turnAll_24 : decode cX3_turnAll 24 = .ok (.goto (-22), 3) := by decide +kernel
theorem dX3_turnAll_27 : decode cX3_turnAll 27 = .ok (.return_, 1) := by decide +kernel
noncomputable def tX3_turnAll_0 : List (Nat × zF) := [(0, (zst 1 (zp (.int (0))))), (1, (zsi4 3 2 1)), (2, (zli4 2 1)), (3, (zst 2 (zp (.int (9))))), (5, (z_ic_ge 27)), (8, (zli4 1 1)), (9, (zli4 2 1)), (10, (zst 1 z_ishr)), (11, (zst 1 (zp (.int (1))))), (12, (zst 1 z_iand)), (13, (z_if_eq 21)), (16, (zla4 0 1))]
theorem kX3_turnAll_0 : ∀ q ∈ tX3_turnAll_0, zOk zg iX3_turnAll q.1 q.2 := (z_c (ok_iconst (v := (0)) dX3_turnAll_0 (by decide)) (z_c (ok_istore_n dX3_turnAll_1 rfl) (z_c (ok_iload_n dX3_turnAll_2 rfl) (z_c (ok_bipush (v := (9)) dX3_turnAll_3 (by decide)) (z_c (ok_icmp_ge dX3_turnAll_5 (by decide)) (z_c (ok_iload_n dX3_turnAll_8 rfl) (z_c (ok_iload_n dX3_turnAll_9 rfl) (z_c (ok_ishr dX3_turnAll_10) (z_c (ok_iconst (v := (1)) dX3_turnAll_11 (by decide)) (z_c (ok_iand dX3_turnAll_12) (z_c (ok_if_eq dX3_turnAll_13 (by decide)) (z_c (ok_aload_n dX3_turnAll_16 rfl) z_n))))))))))))
noncomputable def tX3_turnAll_1 : List (Nat × zF) := [(17, (zli4 2 1)), (18, (zcv 82 1 8)), (21, (zin4 3 2 (1))), (24, (zgt 2)), (27, zrv)]
theorem kX3_turnAll_1 : ∀ q ∈ tX3_turnAll_1, zOk zg iX3_turnAll q.1 q.2 := (z_c (ok_iload_n dX3_turnAll_17 rfl) (z_c (ok_callV zcal_82 (q := (RX8, TX8, 6)) rfl zw_147 zw_148 zw_149 dX3_turnAll_18) (z_c (ok_iinc (v := (1)) dX3_turnAll_21 (by decide)) (z_c (ok_goto dX3_turnAll_24 (by decide)) (z_c (ok_return rfl dX3_turnAll_27) z_n)))))
noncomputable def tX3_turnAll : zT := [(17, tX3_turnAll_0), (100000, tX3_turnAll_1)]
theorem kX3_turnAll : zTok zg iX3_turnAll tX3_turnAll := (z_t kX3_turnAll_0 (z_t kX3_turnAll_1 z_tn))
theorem dX3_worstFound_0 : decode cX3_worstFound 0 = .ok (.aload_n 0, 1) := by decide +kernel
theorem dX3_worstFound_1 : decode cX3_worstFound 1 = .ok (.getfield 11, 3) := by decide +kernel
theorem dX3_worstFound_4 : decode cX3_worstFound 4 = .ok (.iconst 0, 1) := by decide +kernel
theorem dX3_worstFound_5 : decode cX3_worstFound 5 = .ok (.aaload, 1) := by decide +kernel
theorem dX3_worstFound_6 : decode cX3_worstFound 6 = .ok (.astore 4, 2) := by decide +kernel
theorem dX3_worstFound_8 : decode cX3_worstFound 8 = .ok (.iconst (-1), 1) := by decide +kernel
theorem dX3_worstFound_9 : decode cX3_worstFound 9 = .ok (.istore 5, 2) := by decide +kernel
theorem dX3_worstFound_11 : decode cX3_worstFound 11 = .ok (.iconst (-1), 1) := by decide +kernel
theorem dX3_worstFound_12 : decode cX3_worstFound 12 = .ok (.istore 6, 2) := by decide +kernel
theorem dX3_worstFound_14 : decode cX3_worstFound 14 = .ok (.iconst 0, 1) := by decide +kernel
theorem dX3_worstFound_15 : decode cX3_worstFound 15 = .ok (.istore 7, 2) := by decide +kernel
theorem dX3_worstFound_17 : decode cX3_worstFound 17 = .ok (.iload 7, 2) := by decide +kernel
theorem dX3_worstFound_19 : decode cX3_worstFound 19 = .ok (.aload_n 0, 1) := by decide +kernel
theorem dX3_worstFound_20 : decode cX3_worstFound 20 = .ok (.getfield 34, 3) := by decide +kernel
theorem dX3_worstFound_23 : decode cX3_worstFound 23 = .ok (.getfield 63, 3) := by decide +kernel
theorem dX3_worstFound_26 : decode cX3_worstFound 26 = .ok (.getfield 67, 3) := by decide +kernel
theorem dX3_worstFound_29 : decode cX3_worstFound 29 = .ok (.if_icmp .ge 74, 3) := by decide +kernel
theorem dX3_worstFound_32 : decode cX3_worstFound 32 = .ok (.aload_n 1, 1) := by decide +kernel
theorem dX3_worstFound_33 : decode cX3_worstFound 33 = .ok (.iload 7, 2) := by decide +kernel
theorem dX3_worstFound_35 : decode cX3_worstFound 35 = .ok (.invokevirtual 89, 3) := by decide +kernel
theorem dX3_worstFound_38 : decode cX3_worstFound 38 = .ok (.ifCond .eq 59, 3) := by decide +kernel
theorem dX3_worstFound_41 : decode cX3_worstFound 41 = .ok (.aload 4, 2) := by decide +kernel
theorem dX3_worstFound_43 : decode cX3_worstFound 43 = .ok (.aload_n 1, 1) := by decide +kernel
theorem dX3_worstFound_44 : decode cX3_worstFound 44 = .ok (.invokevirtual 39, 3) := by decide +kernel
theorem dX3_worstFound_47 : decode cX3_worstFound 47 = .ok (.aload 4, 2) := by decide +kernel
theorem dX3_worstFound_49 : decode cX3_worstFound 49 = .ok (.iload 7, 2) := by decide +kernel
theorem dX3_worstFound_51 : decode cX3_worstFound 51 = .ok (.invokevirtual 85, 3) := by decide +kernel
theorem dX3_worstFound_54 : decode cX3_worstFound 54 = .ok (.aload_n 0, 1) := by decide +kernel
theorem dX3_worstFound_55 : decode cX3_worstFound 55 = .ok (.getfield 34, 3) := by decide +kernel
theorem dX3_worstFound_58 : decode cX3_worstFound 58 = .ok (.aload 4, 2) := by decide +kernel
theorem dX3_worstFound_60 : decode cX3_worstFound 60 = .ok (.iload_n 2, 1) := by decide +kernel
theorem dX3_worstFound_61 : decode cX3_worstFound 61 = .ok (.iconst (-1), 1) := by decide +kernel
theorem dX3_worstFound_62 : decode cX3_worstFound 62 = .ok (.invokevirtual 43, 3) := by decide +kernel
theorem dX3_worstFound_65 : decode cX3_worstFound 65 = .ok (.aload_n 0, 1) := by decide +kernel
theorem dX3_worstFound_66 : decode cX3_worstFound 66 = .ok (.getfield 34, 3) := by decide +kernel
theorem dX3_worstFound_69 : decode cX3_worstFound 69 = .ok (.aload 4, 2) := by decide +kernel
theorem dX3_worstFound_71 : decode cX3_worstFound 71 = .ok (.invokevirtual 93, 3) := by decide +kernel
theorem dX3_worstFound_74 : decode cX3_worstFound 74 = .ok (.istore 8, 2) := by decide +kernel
theorem dX3_worstFound_76 : decode cX3_worstFound 76 = .ok (.iload 5, 2) := by decide +kernel
theorem dX3_worstFound_78 : decode cX3_worstFound 78 = .ok (.iconst (-1), 1) := by decide +kernel
theorem dX3_worstFound_79 : decode cX3_worstFound 79 = .ok (.if_icmp .eq 10, 3) := by decide +kernel
theorem dX3_worstFound_82 : decode cX3_worstFound 82 = .ok (.iload 8, 2) := by decide +kernel
theorem dX3_worstFound_84 : decode cX3_worstFound 84 = .ok (.iload 6, 2) := by decide +kernel
theorem dX3_worstFound_86 : decode cX3_worstFound 86 = .ok (.if_icmp .ge 11, 3) := by decide +kernel
theorem dX3_worstFound_89 : decode cX3_worstFound 89 = .ok (.iload 7, 2) := by decide +kernel
theorem dX3_worstFound_91 : decode cX3_worstFound 91 = .ok (.istore 5, 2) := by decide +kernel
theorem dX3_worstFound_93 : decode cX3_worstFound 93 = .ok (.iload 8, 2) := by decide +kernel
theorem dX3_worstFound_95 : decode cX3_worstFound 95 = .ok (.istore 6, 2) := by decide +kernel
theorem dX3_worstFound_97 : decode cX3_worstFound 97 = .ok (.iinc 7 1, 3) := by decide +kernel
theorem dX3_worstFound_100 : decode cX3_worstFound 100 = .ok (.goto (-83), 3) := by decide +kernel
theorem dX3_worstFound_103 : decode cX3_worstFound 103 = .ok (.iload_n 3, 1) := by decide +kernel
theorem dX3_worstFound_104 : decode cX3_worstFound 104 = .ok (.ifCond .eq 8, 3) := by decide +kernel
theorem dX3_worstFound_107 : decode cX3_worstFound 107 = .ok (.iload 5, 2) := by decide +kernel
theorem dX3_worstFound_109 : decode cX3_worstFound 109 = .ok (.goto 5, 3) := by decide +kernel
theorem dX3_worstFound_112 : decode cX3_worstFound 112 = .ok (.iload 6, 2) := by decide +kernel
theorem dX3_worstFound_114 : decode cX3_worstFound 114 = .ok (.ireturn, 1) := by decide +kernel
noncomputable def tX3_worstFound_0 : List (Nat × zF) := [(0, (zla4 0 1)), (1, (zgf 3 1)), (4, (zst 1 (zp (.int (0))))), (5, (zaq 3)), (6, (zsa4 9 4 2)), (8, (zst 1 (zp (.int ((-1)))))), (9, (zsi4 9 5 2)), (11, (zst 1 (zp (.int ((-1)))))), (12, (zsi4 9 6 2)), (14, (zst 1 (zp (.int (0))))), (15, (zsi4 9 7 2)), (17, (zli4 7 2))]
theorem kX3_worstFound_0 : ∀ q ∈ tX3_worstFound_0, zOk zg iX3_worstFound q.1 q.2 := (z_c (ok_aload_n dX3_worstFound_0 rfl) (z_c (ok_getf (C := RX3) (T := TX3) (N := 13) rfl (by decide) zinX3 rfl zw_127 dX3_worstFound_1) (z_c (ok_iconst (v := (0)) dX3_worstFound_4 (by decide)) (z_c (ok_aaload (C := "MissingLamps$State") rfl dX3_worstFound_5) (z_c (ok_astore dX3_worstFound_6) (z_c (ok_iconst (v := (-1)) dX3_worstFound_8 (by decide)) (z_c (ok_istore dX3_worstFound_9) (z_c (ok_iconst (v := (-1)) dX3_worstFound_11 (by decide)) (z_c (ok_istore dX3_worstFound_12) (z_c (ok_iconst (v := (0)) dX3_worstFound_14 (by decide)) (z_c (ok_istore dX3_worstFound_15) (z_c (ok_iload dX3_worstFound_17) z_n))))))))))))
noncomputable def tX3_worstFound_1 : List (Nat × zF) := [(19, (zla4 0 1)), (20, (zgf 3 0)), (23, (zgf 0 0)), (26, (zgf 4 7)), (29, (z_ic_ge 103)), (32, (zla4 1 1)), (33, (zli4 7 2)), (35, (zcv 81 1 8)), (38, (z_if_eq 97)), (41, (zla4 4 2)), (43, (zla4 1 1)), (44, (zcv 80 1 8))]
theorem kX3_worstFound_1 : ∀ q ∈ tX3_worstFound_1, zOk zg iX3_worstFound q.1 q.2 := (z_c (ok_aload_n dX3_worstFound_19 rfl) (z_c (ok_getf (C := RX3) (T := TX3) (N := 13) rfl (by decide) zinX3 rfl zw_133 dX3_worstFound_20) (z_c (ok_getf (C := RX0) (T := TX0) (N := 5) rfl (by decide) zinX0 rfl zw_141 dX3_worstFound_23) (z_c (ok_getf (C := RX4) (T := TX4) (N := 18) rfl (by decide) zinX4 rfl zw_142 dX3_worstFound_26) (z_c (ok_icmp_ge dX3_worstFound_29 (by decide)) (z_c (ok_aload_n dX3_worstFound_32 rfl) (z_c (ok_iload dX3_worstFound_33) (z_c (ok_callV zcal_81 (q := (RX8, TX8, 6)) rfl zw_150 zw_25 zw_26 dX3_worstFound_35) (z_c (ok_if_eq dX3_worstFound_38 (by decide)) (z_c (ok_aload dX3_worstFound_41) (z_c (ok_aload_n dX3_worstFound_43 rfl) (z_c (ok_callV zcal_80 (q := (RX8, TX8, 6)) rfl zw_134 zw_118 zw_119 dX3_worstFound_44) z_n))))))))))))
noncomputable def tX3_worstFound_2 : List (Nat × zF) := [(47, (zla4 4 2)), (49, (zli4 7 2)), (51, (zcv 82 1 8)), (54, (zla4 0 1)), (55, (zgf 3 0)), (58, (zla4 4 2)), (60, (zli4 2 1)), (61, (zst 1 (zp (.int ((-1)))))), (62, (zcv 2 3 0)), (65, (zla4 0 1)), (66, (zgf 3 0)), (69, (zla4 4 2))]
theorem kX3_worstFound_2 : ∀ q ∈ tX3_worstFound_2, zOk zg iX3_worstFound q.1 q.2 := (z_c (ok_aload dX3_worstFound_47) (z_c (ok_iload dX3_worstFound_49) (z_c (ok_callV zcal_82 (q := (RX8, TX8, 6)) rfl zw_147 zw_148 zw_149 dX3_worstFound_51) (z_c (ok_aload_n dX3_worstFound_54 rfl) (z_c (ok_getf (C := RX3) (T := TX3) (N := 13) rfl (by decide) zinX3 rfl zw_133 dX3_worstFound_55) (z_c (ok_aload dX3_worstFound_58) (z_c (ok_iload_n dX3_worstFound_60 rfl) (z_c (ok_iconst (v := (-1)) dX3_worstFound_61 (by decide)) (z_c (ok_callV zcal_2 (q := (RX0, TX0, 5)) rfl zw_135 zw_136 zw_137 dX3_worstFound_62) (z_c (ok_aload_n dX3_worstFound_65 rfl) (z_c (ok_getf (C := RX3) (T := TX3) (N := 13) rfl (by decide) zinX3 rfl zw_133 dX3_worstFound_66) (z_c (ok_aload dX3_worstFound_69) z_n))))))))))))
noncomputable def tX3_worstFound_3 : List (Nat × zF) := [(71, (zcv 18 1 0)), (74, (zsi4 9 8 2)), (76, (zli4 5 2)), (78, (zst 1 (zp (.int ((-1)))))), (79, (z_ic_eq 89)), (82, (zli4 8 2)), (84, (zli4 6 2)), (86, (z_ic_ge 97)), (89, (zli4 7 2)), (91, (zsi4 9 5 2)), (93, (zli4 8 2)), (95, (zsi4 9 6 2))]
theorem kX3_worstFound_3 : ∀ q ∈ tX3_worstFound_3, zOk zg iX3_worstFound q.1 q.2 := (z_c (ok_callV zcal_18 (q := (RX0, TX0, 5)) rfl zw_151 zw_152 zw_153 dX3_worstFound_71) (z_c (ok_istore dX3_worstFound_74) (z_c (ok_iload dX3_worstFound_76) (z_c (ok_iconst (v := (-1)) dX3_worstFound_78 (by decide)) (z_c (ok_icmp_eq dX3_worstFound_79 (by decide)) (z_c (ok_iload dX3_worstFound_82) (z_c (ok_iload dX3_worstFound_84) (z_c (ok_icmp_ge dX3_worstFound_86 (by decide)) (z_c (ok_iload dX3_worstFound_89) (z_c (ok_istore dX3_worstFound_91) (z_c (ok_iload dX3_worstFound_93) (z_c (ok_istore dX3_worstFound_95) z_n))))))))))))
noncomputable def tX3_worstFound_4 : List (Nat × zF) := [(97, (zin4 9 7 (1))), (100, (zgt 17)), (103, (zli4 3 1)), (104, (z_if_eq 112)), (107, (zli4 5 2)), (109, (zgt 114)), (112, (zli4 6 2)), (114, (zri false))]
theorem kX3_worstFound_4 : ∀ q ∈ tX3_worstFound_4, zOk zg iX3_worstFound q.1 q.2 := (z_c (ok_iinc (v := (1)) dX3_worstFound_97 (by decide)) (z_c (ok_goto dX3_worstFound_100 (by decide)) (z_c (ok_iload_n dX3_worstFound_103 rfl) (z_c (ok_if_eq dX3_worstFound_104 (by decide)) (z_c (ok_iload dX3_worstFound_107) (z_c (ok_goto dX3_worstFound_109 (by decide)) (z_c (ok_iload dX3_worstFound_112) (z_c (ok_ireturn rfl dX3_worstFound_114) z_n))))))))
noncomputable def tX3_worstFound : zT := [(19, tX3_worstFound_0), (47, tX3_worstFound_1), (71, tX3_worstFound_2), (97, tX3_worstFound_3), (100000, tX3_worstFound_4)]
theorem kX3_worstFound : zTok zg iX3_worstFound tX3_worstFound := (z_t kX3_worstFound_0 (z_t kX3_worstFound_1 (z_t kX3_worstFound_2 (z_t kX3_worstFound_3 (z_t kX3_worstFound_4 z_tn)))))
theorem dX3_leastCover_0 : decode cX3_leastCover 0 = .ok (.lconst 0, 1) := by decide +kernel
theorem dX3_leastCover_1 : decode cX3_leastCover 1 = .ok (.lstore_n 2, 1) := by decide +kernel
theorem dX3_leastCover_2 : decode cX3_leastCover 2 = .ok (.iconst 0, 1) := by decide +kernel
theorem dX3_leastCover_3 : decode cX3_leastCover 3 = .ok (.istore 4, 2) := by decide +kernel
theorem dX3_leastCover_5 : decode cX3_leastCover 5 = .ok (.iload 4, 2) := by decide +kernel
theorem dX3_leastCover_7 : decode cX3_leastCover 7 = .ok (.aload_n 0, 1) := by decide +kernel
theorem dX3_leastCover_8 : decode cX3_leastCover 8 = .ok (.getfield 34, 3) := by decide +kernel
theorem dX3_leastCover_11 : decode cX3_leastCover 11 = .ok (.getfield 63, 3) := by decide +kernel
theorem dX3_leastCover_14 : decode cX3_leastCover 14 = .ok (.getfield 67, 3) := by decide +kernel
theorem dX3_leastCover_17 : decode cX3_leastCover 17 = .ok (.if_icmp .ge 69, 3) := by decide +kernel
theorem dX3_leastCover_20 : decode cX3_leastCover 20 = .ok (.aload_n 0, 1) := by decide +kernel
theorem dX3_leastCover_21 : decode cX3_leastCover 21 = .ok (.getfield 17, 3) := by decide +kernel
theorem dX3_leastCover_24 : decode cX3_leastCover 24 = .ok (.iload 4, 2) := by decide +kernel
theorem dX3_leastCover_26 : decode cX3_leastCover 26 = .ok (.aload_n 1, 1) := by decide +kernel
theorem dX3_leastCover_27 : decode cX3_leastCover 27 = .ok (.iload 4, 2) := by decide +kernel
theorem dX3_leastCover_29 : decode cX3_leastCover 29 = .ok (.invokevirtual 89, 3) := by decide +kernel
theorem dX3_leastCover_32 : decode cX3_leastCover 32 = .ok (.ifCond .eq 36, 3) := by decide +kernel
theorem dX3_leastCover_35 : decode cX3_leastCover 35 = .ok (.aload_n 0, 1) := by decide +kernel
theorem dX3_leastCover_36 : decode cX3_leastCover 36 = .ok (.getfield 34, 3) := by decide +kernel
theorem dX3_leastCover_39 : decode cX3_leastCover 39 = .ok (.aload_n 0, 1) := by decide +kernel
theorem dX3_leastCover_40 : decode cX3_leastCover 40 = .ok (.getfield 34, 3) := by decide +kernel
theorem dX3_leastCover_43 : decode cX3_leastCover 43 = .ok (.getfield 63, 3) := by decide +kernel
theorem dX3_leastCover_46 : decode cX3_leastCover 46 = .ok (.getfield 97, 3) := by decide +kernel
theorem dX3_leastCover_49 : decode cX3_leastCover 49 = .ok (.iload 4, 2) := by decide +kernel
theorem dX3_leastCover_51 : decode cX3_leastCover 51 = .ok (.iaload, 1) := by decide +kernel
theorem dX3_leastCover_52 : decode cX3_leastCover 52 = .ok (.aload_n 0, 1) := by decide +kernel
theorem dX3_leastCover_53 : decode cX3_leastCover 53 = .ok (.getfield 34, 3) := by decide +kernel
theorem dX3_leastCover_56 : decode cX3_leastCover 56 = .ok (.aload_n 1, 1) := by decide +kernel
theorem dX3_leastCover_57 : decode cX3_leastCover 57 = .ok (.iload 4, 2) := by decide +kernel
theorem dX3_leastCover_59 : decode cX3_leastCover 59 = .ok (.invokevirtual 100, 3) := by decide +kernel
theorem dX3_leastCover_62 : decode cX3_leastCover 62 = .ok (.invokevirtual 104, 3) := by decide +kernel
theorem dX3_leastCover_65 : decode cX3_leastCover 65 = .ok (.goto 4, 3) := by decide +kernel
theorem dX3_leastCover_68 : decode cX3_leastCover 68 = .ok (.lconst 0, 1) := by decide +kernel
theorem dX3_leastCover_69 : decode cX3_leastCover 69 = .ok (.lastore, 1) := by decide +kernel
theorem dX3_leastCover_70 : decode cX3_leastCover 70 = .ok (.lload_n 2, 1) := by decide +kernel
theorem dX3_leastCover_71 : decode cX3_leastCover 71 = .ok (.aload_n 0, 1) := by decide +kernel
theorem dX3_leastCover_72 : decode cX3_leastCover 72 = .ok (.getfield 17, 3) := by decide +kernel
theorem dX3_leastCover_75 : decode cX3_leastCover 75 = .ok (.iload 4, 2) := by decide +kernel
theorem dX3_leastCover_77 : decode cX3_leastCover 77 = .ok (.laload, 1) := by decide +kernel
theorem dX3_leastCover_78 : decode cX3_leastCover 78 = .ok (.lor, 1) := by decide +kernel
theorem dX3_leastCover_79 : decode cX3_leastCover 79 = .ok (.lstore_n 2, 1) := by decide +kernel
theorem dX3_leastCover_80 : decode cX3_leastCover 80 = .ok (.iinc 4 1, 3) := by decide +kernel
theorem dX3_leastCover_83 : decode cX3_leastCover 83 = .ok (.goto (-78), 3) := by decide +kernel
theorem dX3_leastCover_86 : decode cX3_leastCover 86 = .ok (.aload_n 1, 1) := by decide +kernel
theorem dX3_leastCover_87 : decode cX3_leastCover 87 = .ok (.getfield 72, 3) := by decide +kernel
theorem dX3_leastCover_90 : decode cX3_leastCover 90 = .ok (.istore 4, 2) := by decide +kernel
theorem dX3_leastCover_92 : decode cX3_leastCover 92 = .ok (.iload 4, 2) := by decide +kernel
theorem dX3_leastCover_94 : decode cX3_leastCover 94 = .ok (.invokestatic 75, 3) := by decide +kernel
theorem dX3_leastCover_97 : decode cX3_leastCover 97 = .ok (.istore 5, 2) := by decide +kernel
theorem dX3_leastCover_99 : decode cX3_leastCover 99 = .ok (.iconst 0, 1) := by decide +kernel
theorem dX3_leastCover_100 : decode cX3_leastCover 100 = .ok (.istore 6, 2) := by decide +kernel
theorem dX3_leastCover_102 : decode cX3_leastCover 102 = .ok (.iload 6, 2) := by decide +kernel
theorem dX3_leastCover_104 : decode cX3_leastCover 104 = .ok (.aload_n 1, 1) := by decide +kernel
theorem dX3_leastCover_105 : decode cX3_leastCover 105 = .ok (.getfield 72, 3) := by decide +kernel
theorem dX3_leastCover_108 : decode cX3_leastCover 108 = .ok (.if_icmp .gt 53, 3) := by decide +kernel
theorem dX3_leastCover_111 : decode cX3_leastCover 111 = .ok (.iload 6, 2) := by decide +kernel
theorem dX3_leastCover_113 : decode cX3_leastCover 113 = .ok (.aload_n 1, 1) := by decide +kernel
theorem dX3_leastCover_114 : decode cX3_leastCover 114 = .ok (.getfield 72, 3) := by decide +kernel
theorem dX3_leastCover_117 : decode cX3_leastCover 117 = .ok (.iconst (-1), 1) := by decide +kernel
theorem dX3_leastCover_118 : decode cX3_leastCover 118 = .ok (.ixor, 1) := by decide +kernel
theorem dX3_leastCover_119 : decode cX3_leastCover 119 = .ok (.iand, 1) := by decide +kernel
theorem dX3_leastCover_120 : decode cX3_leastCover 120 = .ok (.ifCond .ne 35, 3) := by decide +kernel
theorem dX3_leastCover_123 : decode cX3_leastCover 123 = .ok (.iload 6, 2) := by decide +kernel
theorem dX3_leastCover_125 : decode cX3_leastCover 125 = .ok (.invokestatic 75, 3) := by decide +kernel
theorem dX3_leastCover_128 : decode cX3_leastCover 128 = .ok (.iload 5, 2) := by decide +kernel
theorem dX3_leastCover_130 : decode cX3_leastCover 130 = .ok (.if_icmp .ge 25, 3) := by decide +kernel
theorem dX3_leastCover_133 : decode cX3_leastCover 133 = .ok (.aload_n 0, 1) := by decide +kernel
theorem dX3_leastCover_134 : decode cX3_leastCover 134 = .ok (.iload 6, 2) := by decide +kernel
theorem dX3_leastCover_136 : decode cX3_leastCover 136 = .ok (.invokevirtual 108, 3) := by decide +kernel
theorem dX3_leastCover_139 : decode cX3_leastCover 139 = .ok (.lload_n 2, 1) := by decide +kernel
theorem dX3_leastCover_140 : decode cX3_leastCover 140 = .ok (.lcmp, 1) := by decide +kernel
theorem dX3_leastCover_141 : decode cX3_leastCover 141 = .ok (.ifCond .ne 14, 3) := by decide +kernel
theorem dX3_leastCover_144 : decode cX3_leastCover 144 = .ok (.iload 6, 2) := by decide +kernel
theorem dX3_leastCover_146 : decode cX3_leastCover 146 = .ok (.istore 4, 2) := by decide +kernel
theorem dX3_leastCover_148 : decode cX3_leastCover 148 = .ok (.iload 6, 2) := by decide +kernel
theorem dX3_leastCover_150 : decode cX3_leastCover 150 = .ok (.invokestatic 75, 3) := by decide +kernel
theorem dX3_leastCover_153 : decode cX3_leastCover 153 = .ok (.istore 5, 2) := by decide +kernel
theorem dX3_leastCover_155 : decode cX3_leastCover 155 = .ok (.iinc 6 1, 3) := by decide +kernel
theorem dX3_leastCover_158 : decode cX3_leastCover 158 = .ok (.goto (-56), 3) := by decide +kernel
theorem dX3_leastCover_161 : decode cX3_leastCover 161 = .ok (.iload 4, 2) := by decide +kernel
theorem dX3_leastCover_163 : decode cX3_leastCover 163 = .ok (.ireturn, 1) := by decide +kernel
noncomputable def tX3_leastCover_0 : List (Nat × zF) := [(0, (zst 1 (zp (.long (0))))), (1, (zsl4 7 2 1)), (2, (zst 1 (zp (.int (0))))), (3, (zsi4 7 4 2)), (5, (zli4 4 2)), (7, (zla4 0 1)), (8, (zgf 3 0)), (11, (zgf 0 0)), (14, (zgf 4 7)), (17, (z_ic_ge 86)), (20, (zla4 0 1)), (21, (zgf 3 2))]
theorem kX3_leastCover_0 : ∀ q ∈ tX3_leastCover_0, zOk zg iX3_leastCover q.1 q.2 := (z_c (ok_lconst (v := (0)) dX3_leastCover_0 (by decide)) (z_c (ok_lstore_n dX3_leastCover_1 rfl) (z_c (ok_iconst (v := (0)) dX3_leastCover_2 (by decide)) (z_c (ok_istore dX3_leastCover_3) (z_c (ok_iload dX3_leastCover_5) (z_c (ok_aload_n dX3_leastCover_7 rfl) (z_c (ok_getf (C := RX3) (T := TX3) (N := 13) rfl (by decide) zinX3 rfl zw_133 dX3_leastCover_8) (z_c (ok_getf (C := RX0) (T := TX0) (N := 5) rfl (by decide) zinX0 rfl zw_141 dX3_leastCover_11) (z_c (ok_getf (C := RX4) (T := TX4) (N := 18) rfl (by decide) zinX4 rfl zw_142 dX3_leastCover_14) (z_c (ok_icmp_ge dX3_leastCover_17 (by decide)) (z_c (ok_aload_n dX3_leastCover_20 rfl) (z_c (ok_getf (C := RX3) (T := TX3) (N := 13) rfl (by decide) zinX3 rfl zw_128 dX3_leastCover_21) z_n))))))))))))
noncomputable def tX3_leastCover_1 : List (Nat × zF) := [(24, (zli4 4 2)), (26, (zla4 1 1)), (27, (zli4 4 2)), (29, (zcv 81 1 8)), (32, (z_if_eq 68)), (35, (zla4 0 1)), (36, (zgf 3 0)), (39, (zla4 0 1)), (40, (zgf 3 0)), (43, (zgf 0 0)), (46, (zgf 4 9)), (49, (zli4 4 2))]
theorem kX3_leastCover_1 : ∀ q ∈ tX3_leastCover_1, zOk zg iX3_leastCover q.1 q.2 := (z_c (ok_iload dX3_leastCover_24) (z_c (ok_aload_n dX3_leastCover_26 rfl) (z_c (ok_iload dX3_leastCover_27) (z_c (ok_callV zcal_81 (q := (RX8, TX8, 6)) rfl zw_150 zw_25 zw_26 dX3_leastCover_29) (z_c (ok_if_eq dX3_leastCover_32 (by decide)) (z_c (ok_aload_n dX3_leastCover_35 rfl) (z_c (ok_getf (C := RX3) (T := TX3) (N := 13) rfl (by decide) zinX3 rfl zw_133 dX3_leastCover_36) (z_c (ok_aload_n dX3_leastCover_39 rfl) (z_c (ok_getf (C := RX3) (T := TX3) (N := 13) rfl (by decide) zinX3 rfl zw_133 dX3_leastCover_40) (z_c (ok_getf (C := RX0) (T := TX0) (N := 5) rfl (by decide) zinX0 rfl zw_141 dX3_leastCover_43) (z_c (ok_getf (C := RX4) (T := TX4) (N := 18) rfl (by decide) zinX4 rfl zw_154 dX3_leastCover_46) (z_c (ok_iload dX3_leastCover_49) z_n))))))))))))
noncomputable def tX3_leastCover_2 : List (Nat × zF) := [(51, (zal 0)), (52, (zla4 0 1)), (53, (zgf 3 0)), (56, (zla4 1 1)), (57, (zli4 4 2)), (59, (zcv 4 2 0)), (62, (zcv 5 2 0)), (65, (zgt 69)), (68, (zst 1 (zp (.long (0))))), (69, (zla 1)), (70, (zll4 2 1)), (71, (zla4 0 1))]
theorem kX3_leastCover_2 : ∀ q ∈ tX3_leastCover_2, zOk zg iX3_leastCover q.1 q.2 := (z_c (ok_iaload rfl dX3_leastCover_51) (z_c (ok_aload_n dX3_leastCover_52 rfl) (z_c (ok_getf (C := RX3) (T := TX3) (N := 13) rfl (by decide) zinX3 rfl zw_133 dX3_leastCover_53) (z_c (ok_aload_n dX3_leastCover_56 rfl) (z_c (ok_iload dX3_leastCover_57) (z_c (ok_callV zcal_4 (q := (RX0, TX0, 5)) rfl zw_155 zw_29 zw_30 dX3_leastCover_59) (z_c (ok_callV zcal_5 (q := (RX0, TX0, 5)) rfl zw_156 zw_32 zw_33 dX3_leastCover_62) (z_c (ok_goto dX3_leastCover_65 (by decide)) (z_c (ok_lconst (v := (0)) dX3_leastCover_68 (by decide)) (z_c (ok_lastore rfl dX3_leastCover_69) (z_c (ok_lload_n dX3_leastCover_70 rfl) (z_c (ok_aload_n dX3_leastCover_71 rfl) z_n))))))))))))
noncomputable def tX3_leastCover_3 : List (Nat × zF) := [(72, (zgf 3 2)), (75, (zli4 4 2)), (77, (zll 1)), (78, (zst 1 z_lor)), (79, (zsl4 7 2 1)), (80, (zin4 7 4 (1))), (83, (zgt 5)), (86, (zla4 1 1)), (87, (zgf 8 1)), (90, (zsi4 7 4 2)), (92, (zli4 4 2)), (94, (zcs 279 1))]
theorem kX3_leastCover_3 : ∀ q ∈ tX3_leastCover_3, zOk zg iX3_leastCover q.1 q.2 := (z_c (ok_getf (C := RX3) (T := TX3) (N := 13) rfl (by decide) zinX3 rfl zw_128 dX3_leastCover_72) (z_c (ok_iload dX3_leastCover_75) (z_c (ok_laload rfl dX3_leastCover_77) (z_c (ok_lor dX3_leastCover_78) (z_c (ok_lstore_n dX3_leastCover_79 rfl) (z_c (ok_iinc (v := (1)) dX3_leastCover_80 (by decide)) (z_c (ok_goto dX3_leastCover_83 (by decide)) (z_c (ok_aload_n dX3_leastCover_86 rfl) (z_c (ok_getf (C := RX8) (T := TX8) (N := 6) rfl (by decide) zinX8 rfl zw_143 dX3_leastCover_87) (z_c (ok_istore dX3_leastCover_90) (z_c (ok_iload dX3_leastCover_92) (z_c (ok_callS zcal_279 zw_144 zw_87 dX3_leastCover_94) z_n))))))))))))
noncomputable def tX3_leastCover_4 : List (Nat × zF) := [(97, (zsi4 7 5 2)), (99, (zst 1 (zp (.int (0))))), (100, (zsi4 7 6 2)), (102, (zli4 6 2)), (104, (zla4 1 1)), (105, (zgf 8 1)), (108, (z_ic_gt 161)), (111, (zli4 6 2)), (113, (zla4 1 1)), (114, (zgf 8 1)), (117, (zst 1 (zp (.int ((-1)))))), (118, (zst 1 z_ixor))]
theorem kX3_leastCover_4 : ∀ q ∈ tX3_leastCover_4, zOk zg iX3_leastCover q.1 q.2 := (z_c (ok_istore dX3_leastCover_97) (z_c (ok_iconst (v := (0)) dX3_leastCover_99 (by decide)) (z_c (ok_istore dX3_leastCover_100) (z_c (ok_iload dX3_leastCover_102) (z_c (ok_aload_n dX3_leastCover_104 rfl) (z_c (ok_getf (C := RX8) (T := TX8) (N := 6) rfl (by decide) zinX8 rfl zw_143 dX3_leastCover_105) (z_c (ok_icmp_gt dX3_leastCover_108 (by decide)) (z_c (ok_iload dX3_leastCover_111) (z_c (ok_aload_n dX3_leastCover_113 rfl) (z_c (ok_getf (C := RX8) (T := TX8) (N := 6) rfl (by decide) zinX8 rfl zw_143 dX3_leastCover_114) (z_c (ok_iconst (v := (-1)) dX3_leastCover_117 (by decide)) (z_c (ok_ixor dX3_leastCover_118) z_n))))))))))))
noncomputable def tX3_leastCover_5 : List (Nat × zF) := [(119, (zst 1 z_iand)), (120, (z_if_ne 155)), (123, (zli4 6 2)), (125, (zcs 279 1)), (128, (zli4 5 2)), (130, (z_ic_ge 155)), (133, (zla4 0 1)), (134, (zli4 6 2)), (136, (zcv 32 1 3)), (139, (zll4 2 1)), (140, (zst 1 zcm)), (141, (z_if_ne 155))]
theorem kX3_leastCover_5 : ∀ q ∈ tX3_leastCover_5, zOk zg iX3_leastCover q.1 q.2 := (z_c (ok_iand dX3_leastCover_119) (z_c (ok_if_ne dX3_leastCover_120 (by decide)) (z_c (ok_iload dX3_leastCover_123) (z_c (ok_callS zcal_279 zw_144 zw_87 dX3_leastCover_125) (z_c (ok_iload dX3_leastCover_128) (z_c (ok_icmp_ge dX3_leastCover_130 (by decide)) (z_c (ok_aload_n dX3_leastCover_133 rfl) (z_c (ok_iload dX3_leastCover_134) (z_c (ok_callV zcal_32 (q := (RX3, TX3, 13)) rfl zw_157 zw_158 zw_159 dX3_leastCover_136) (z_c (ok_lload_n dX3_leastCover_139 rfl) (z_c (ok_lcmp dX3_leastCover_140) (z_c (ok_if_ne dX3_leastCover_141 (by decide)) z_n))))))))))))
noncomputable def tX3_leastCover_6 : List (Nat × zF) := [(144, (zli4 6 2)), (146, (zsi4 7 4 2)), (148, (zli4 6 2)), (150, (zcs 279 1)), (153, (zsi4 7 5 2)), (155, (zin4 7 6 (1))), (158, (zgt 102)), (161, (zli4 4 2)), (163, (zri false))]
theorem kX3_leastCover_6 : ∀ q ∈ tX3_leastCover_6, zOk zg iX3_leastCover q.1 q.2 := (z_c (ok_iload dX3_leastCover_144) (z_c (ok_istore dX3_leastCover_146) (z_c (ok_iload dX3_leastCover_148) (z_c (ok_callS zcal_279 zw_144 zw_87 dX3_leastCover_150) (z_c (ok_istore dX3_leastCover_153) (z_c (ok_iinc (v := (1)) dX3_leastCover_155 (by decide)) (z_c (ok_goto dX3_leastCover_158 (by decide)) (z_c (ok_iload dX3_leastCover_161) (z_c (ok_ireturn rfl dX3_leastCover_163) z_n)))))))))
noncomputable def tX3_leastCover : zT := [(24, tX3_leastCover_0), (51, tX3_leastCover_1), (72, tX3_leastCover_2), (97, tX3_leastCover_3), (119, tX3_leastCover_4), (144, tX3_leastCover_5), (100000, tX3_leastCover_6)]
theorem kX3_leastCover : zTok zg iX3_leastCover tX3_leastCover := (z_t kX3_leastCover_0 (z_t kX3_leastCover_1 (z_t kX3_leastCover_2 (z_t kX3_leastCover_3 (z_t kX3_leastCover_4 (z_t kX3_leastCover_5 (z_t kX3_leastCover_6 z_tn)))))))
theorem dX3_lightOf_0 : decode cX3_lightOf 0 = .ok (.lconst 0, 1) := by decide +kernel
theorem dX3_lightOf_1 : decode cX3_lightOf 1 = .ok (.lstore_n 2, 1) := by decide +kernel
theorem dX3_lightOf_2 : decode cX3_lightOf 2 = .ok (.iconst 0, 1) := by decide +kernel
theorem dX3_lightOf_3 : decode cX3_lightOf 3 = .ok (.istore 4, 2) := by decide +kernel
theorem dX3_lightOf_5 : decode cX3_lightOf 5 = .ok (.iload 4, 2) := by decide +kernel
theorem dX3_lightOf_7 : decode cX3_lightOf 7 = .ok (.bipush 9, 2) := by decide +kernel
theorem dX3_lightOf_9 : decode cX3_lightOf 9 = .ok (.if_icmp .ge 28, 3) := by decide +kernel
theorem dX3_lightOf_12 : decode cX3_lightOf 12 = .ok (.iload_n 1, 1) := by decide +kernel
theorem dX3_lightOf_13 : decode cX3_lightOf 13 = .ok (.iload 4, 2) := by decide +kernel
theorem dX3_lightOf_15 : decode cX3_lightOf 15 = .ok (.ishr, 1) := by decide +kernel
theorem dX3_lightOf_16 : decode cX3_lightOf 16 = .ok (.iconst 1, 1) := by decide +kernel
theorem dX3_lightOf_17 : decode cX3_lightOf 17 = .ok (.iand, 1) := by decide +kernel
theorem dX3_lightOf_18 : decode cX3_lightOf 18 = .ok (.ifCond .eq 13, 3) := by decide +kernel
theorem dX3_lightOf_21 : decode cX3_lightOf 21 = .ok (.lload_n 2, 1) := by decide +kernel
theorem dX3_lightOf_22 : decode cX3_lightOf 22 = .ok (.aload_n 0, 1) := by decide +kernel
theorem dX3_lightOf_23 : decode cX3_lightOf 23 = .ok (.getfield 17, 3) := by decide +kernel
theorem dX3_lightOf_26 : decode cX3_lightOf 26 = .ok (.iload 4, 2) := by decide +kernel
theorem dX3_lightOf_28 : decode cX3_lightOf 28 = .ok (.laload, 1) := by decide +kernel
theorem dX3_lightOf_29 : decode cX3_lightOf 29 = .ok (.lor, 1) := by decide +kernel
theorem dX3_lightOf_30 : decode cX3_lightOf 30 = .ok (.lstore_n 2, 1) := by decide +kernel
theorem dX3_lightOf_31 : decode cX3_lightOf 31 = .ok (.iinc 4 1, 3) := by decide +kernel
theorem dX3_lightOf_34 : decode cX3_lightOf 34 = .ok (.goto (-29), 3) := by decide +kernel
theorem dX3_lightOf_37 : decode cX3_lightOf 37 = .ok (.lload_n 2, 1) := by decide +kernel
theorem dX3_lightOf_38 : decode cX3_lightOf 38 = .ok (.lreturn, 1) := by decide +kernel
noncomputable def tX3_lightOf_0 : List (Nat × zF) := [(0, (zst 1 (zp (.long (0))))), (1, (zsl4 5 2 1)), (2, (zst 1 (zp (.int (0))))), (3, (zsi4 5 4 2)), (5, (zli4 4 2)), (7, (zst 2 (zp (.int (9))))), (9, (z_ic_ge 37)), (12, (zli4 1 1)), (13, (zli4 4 2)), (15, (zst 1 z_ishr)), (16, (zst 1 (zp (.int (1))))), (17, (zst 1 z_iand))]
theorem kX3_lightOf_0 : ∀ q ∈ tX3_lightOf_0, zOk zg iX3_lightOf q.1 q.2 := (z_c (ok_lconst (v := (0)) dX3_lightOf_0 (by decide)) (z_c (ok_lstore_n dX3_lightOf_1 rfl) (z_c (ok_iconst (v := (0)) dX3_lightOf_2 (by decide)) (z_c (ok_istore dX3_lightOf_3) (z_c (ok_iload dX3_lightOf_5) (z_c (ok_bipush (v := (9)) dX3_lightOf_7 (by decide)) (z_c (ok_icmp_ge dX3_lightOf_9 (by decide)) (z_c (ok_iload_n dX3_lightOf_12 rfl) (z_c (ok_iload dX3_lightOf_13) (z_c (ok_ishr dX3_lightOf_15) (z_c (ok_iconst (v := (1)) dX3_lightOf_16 (by decide)) (z_c (ok_iand dX3_lightOf_17) z_n))))))))))))
noncomputable def tX3_lightOf_1 : List (Nat × zF) := [(18, (z_if_eq 31)), (21, (zll4 2 1)), (22, (zla4 0 1)), (23, (zgf 3 2)), (26, (zli4 4 2)), (28, (zll 1)), (29, (zst 1 z_lor)), (30, (zsl4 5 2 1)), (31, (zin4 5 4 (1))), (34, (zgt 5)), (37, (zll4 2 1)), (38, zrl)]
theorem kX3_lightOf_1 : ∀ q ∈ tX3_lightOf_1, zOk zg iX3_lightOf q.1 q.2 := (z_c (ok_if_eq dX3_lightOf_18 (by decide)) (z_c (ok_lload_n dX3_lightOf_21 rfl) (z_c (ok_aload_n dX3_lightOf_22 rfl) (z_c (ok_getf (C := RX3) (T := TX3) (N := 13) rfl (by decide) zinX3 rfl zw_128 dX3_lightOf_23) (z_c (ok_iload dX3_lightOf_26) (z_c (ok_laload rfl dX3_lightOf_28) (z_c (ok_lor dX3_lightOf_29) (z_c (ok_lstore_n dX3_lightOf_30 rfl) (z_c (ok_iinc (v := (1)) dX3_lightOf_31 (by decide)) (z_c (ok_goto dX3_lightOf_34 (by decide)) (z_c (ok_lload_n dX3_lightOf_37 rfl) (z_c (ok_lreturn rfl dX3_lightOf_38) z_n))))))))))))
noncomputable def tX3_lightOf : zT := [(18, tX3_lightOf_0), (100000, tX3_lightOf_1)]
theorem kX3_lightOf : zTok zg iX3_lightOf tX3_lightOf := (z_t kX3_lightOf_0 (z_t kX3_lightOf_1 z_tn))
theorem dX3_arrange_0 : decode cX3_arrange 0 = .ok (.aload_n 0, 1) := by decide +kernel
theorem dX3_arrange_1 : decode cX3_arrange 1 = .ok (.aload_n 1, 1) := by decide +kernel
theorem dX3_arrange_2 : decode cX3_arrange 2 = .ok (.invokevirtual 112, 3) := by decide +kernel
theorem dX3_arrange_5 : decode cX3_arrange 5 = .ok (.aload_n 0, 1) := by decide +kernel
theorem dX3_arrange_6 : decode cX3_arrange 6 = .ok (.aload_n 1, 1) := by decide +kernel
theorem dX3_arrange_7 : decode cX3_arrange 7 = .ok (.getfield 72, 3) := by decide +kernel
theorem dX3_arrange_10 : decode cX3_arrange 10 = .ok (.invokevirtual 115, 3) := by decide +kernel
theorem dX3_arrange_13 : decode cX3_arrange 13 = .ok (.aload_n 0, 1) := by decide +kernel
theorem dX3_arrange_14 : decode cX3_arrange 14 = .ok (.iconst 0, 1) := by decide +kernel
theorem dX3_arrange_15 : decode cX3_arrange 15 = .ok (.putfield 118, 3) := by decide +kernel
theorem dX3_arrange_18 : decode cX3_arrange 18 = .ok (.aload_n 0, 1) := by decide +kernel
theorem dX3_arrange_19 : decode cX3_arrange 19 = .ok (.iconst 0, 1) := by decide +kernel
theorem dX3_arrange_20 : decode cX3_arrange 20 = .ok (.putfield 121, 3) := by decide +kernel
theorem dX3_arrange_23 : decode cX3_arrange 23 = .ok (.iconst 0, 1) := by decide +kernel
theorem dX3_arrange_24 : decode cX3_arrange 24 = .ok (.istore_n 2, 1) := by decide +kernel
theorem dX3_arrange_25 : decode cX3_arrange 25 = .ok (.iconst 0, 1) := by decide +kernel
theorem dX3_arrange_26 : decode cX3_arrange 26 = .ok (.istore_n 3, 1) := by decide +kernel
theorem dX3_arrange_27 : decode cX3_arrange 27 = .ok (.iload_n 3, 1) := by decide +kernel
theorem dX3_arrange_28 : decode cX3_arrange 28 = .ok (.aload_n 0, 1) := by decide +kernel
theorem dX3_arrange_29 : decode cX3_arrange 29 = .ok (.getfield 34, 3) := by decide +kernel
theorem dX3_arrange_32 : decode cX3_arrange 32 = .ok (.getfield 63, 3) := by decide +kernel
theorem dX3_arrange_35 : decode cX3_arrange 35 = .ok (.getfield 124, 3) := by decide +kernel
theorem dX3_arrange_38 : decode cX3_arrange 38 = .ok (.if_icmp .ge 69, 3) := by decide +kernel
theorem dX3_arrange_41 : decode cX3_arrange 41 = .ok (.aload_n 0, 1) := by decide +kernel
theorem dX3_arrange_42 : decode cX3_arrange 42 = .ok (.iload_n 3, 1) := by decide +kernel
theorem dX3_arrange_43 : decode cX3_arrange 43 = .ok (.iload_n 2, 1) := by decide +kernel
theorem dX3_arrange_44 : decode cX3_arrange 44 = .ok (.invokevirtual 127, 3) := by decide +kernel
theorem dX3_arrange_47 : decode cX3_arrange 47 = .ok (.istore 4, 2) := by decide +kernel
theorem dX3_arrange_49 : decode cX3_arrange 49 = .ok (.aload_n 0, 1) := by decide +kernel
theorem dX3_arrange_50 : decode cX3_arrange 50 = .ok (.getfield 28, 3) := by decide +kernel
theorem dX3_arrange_53 : decode cX3_arrange 53 = .ok (.iload_n 3, 1) := by decide +kernel
theorem dX3_arrange_54 : decode cX3_arrange 54 = .ok (.iload 4, 2) := by decide +kernel
theorem dX3_arrange_56 : decode cX3_arrange 56 = .ok (.iastore, 1) := by decide +kernel
theorem dX3_arrange_57 : decode cX3_arrange 57 = .ok (.iload 4, 2) := by decide +kernel
theorem dX3_arrange_59 : decode cX3_arrange 59 = .ok (.iconst (-1), 1) := by decide +kernel
theorem dX3_arrange_60 : decode cX3_arrange 60 = .ok (.if_icmp .eq 41, 3) := by decide +kernel
theorem dX3_arrange_63 : decode cX3_arrange 63 = .ok (.aload_n 0, 1) := by decide +kernel
theorem dX3_arrange_64 : decode cX3_arrange 64 = .ok (.dup, 1) := by decide +kernel
theorem dX3_arrange_65 : decode cX3_arrange 65 = .ok (.getfield 118, 3) := by decide +kernel
theorem dX3_arrange_68 : decode cX3_arrange 68 = .ok (.iconst 1, 1) := by decide +kernel
theorem dX3_arrange_69 : decode cX3_arrange 69 = .ok (.iadd, 1) := by decide +kernel
theorem dX3_arrange_70 : decode cX3_arrange 70 = .ok (.putfield 118, 3) := by decide +kernel
theorem dX3_arrange_73 : decode cX3_arrange 73 = .ok (.aload_n 0, 1) := by decide +kernel
theorem dX3_arrange_74 : decode cX3_arrange 74 = .ok (.dup, 1) := by decide +kernel
theorem dX3_arrange_75 : decode cX3_arrange 75 = .ok (.getfield 121, 3) := by decide +kernel
theorem dX3_arrange_78 : decode cX3_arrange 78 = .ok (.aload_n 0, 1) := by decide +kernel
theorem dX3_arrange_79 : decode cX3_arrange 79 = .ok (.getfield 21, 3) := by decide +kernel
theorem dX3_arrange_82 : decode cX3_arrange 82 = .ok (.iload_n 3, 1) := by decide +kernel
theorem dX3_arrange_83 : decode cX3_arrange 83 = .ok (.bipush 9, 2) := by decide +kernel
theorem dX3_arrange_85 : decode cX3_arrange 85 = .ok (.imul, 1) := by decide +kernel
theorem dX3_arrange_86 : decode cX3_arrange 86 = .ok (.iload 4, 2) := by decide +kernel
theorem dX3_arrange_88 : decode cX3_arrange 88 = .ok (.iadd, 1) := by decide +kernel
theorem dX3_arrange_89 : decode cX3_arrange 89 = .ok (.iaload, 1) := by decide +kernel
theorem dX3_arrange_90 : decode cX3_arrange 90 = .ok (.iadd, 1) := by decide +kernel
theorem dX3_arrange_91 : decode cX3_arrange 91 = .ok (.putfield 121, 3) := by decide +kernel
theorem dX3_arrange_94 : decode cX3_arrange 94 = .ok (.iload_n 2, 1) := by decide +kernel
theorem dX3_arrange_95 : decode cX3_arrange 95 = .ok (.iconst 1, 1) := by decide +kernel
theorem dX3_arrange_96 : decode cX3_arrange 96 = .ok (.iload 4, 2) := by decide +kernel
theorem dX3_arrange_98 : decode cX3_arrange 98 = .ok (.ishl, 1) := by decide +kernel
theorem dX3_arrange_99 : decode cX3_arrange 99 = .ok (.ior, 1) := by decide +kernel
theorem dX3_arrange_100 : decode cX3_arrange 100 = .ok (.istore_n 2, 1) := by decide +kernel
theorem dX3_arrange_101 : decode cX3_arrange 101 = .ok (.iinc 3 1, 3) := by decide +kernel
theorem dX3_arrange_104 : decode cX3_arrange 104 = .ok (.goto (-77), 3) := by decide +kernel
theorem dX3_arrange_107 : decode cX3_arrange 107 = .ok (.return_, 1) := by decide +kernel
noncomputable def tX3_arrange_0 : List (Nat × zF) := [(0, (zla4 0 1)), (1, (zla4 1 1)), (2, (zcv 34 1 3)), (5, (zla4 0 1)), (6, (zla4 1 1)), (7, (zgf 8 1)), (10, (zcv 35 1 3)), (13, (zla4 0 1)), (14, (zst 1 (zp (.int (0))))), (15, (zpf 3 6 (.int))), (18, (zla4 0 1)), (19, (zst 1 (zp (.int (0)))))]
theorem kX3_arrange_0 : ∀ q ∈ tX3_arrange_0, zOk zg iX3_arrange q.1 q.2 := (z_c (ok_aload_n dX3_arrange_0 rfl) (z_c (ok_aload_n dX3_arrange_1 rfl) (z_c (ok_callV zcal_34 (q := (RX3, TX3, 13)) rfl zw_160 zw_161 zw_162 dX3_arrange_2) (z_c (ok_aload_n dX3_arrange_5 rfl) (z_c (ok_aload_n dX3_arrange_6 rfl) (z_c (ok_getf (C := RX8) (T := TX8) (N := 6) rfl (by decide) zinX8 rfl zw_143 dX3_arrange_7) (z_c (ok_callV zcal_35 (q := (RX3, TX3, 13)) rfl zw_163 zw_164 zw_165 dX3_arrange_10) (z_c (ok_aload_n dX3_arrange_13 rfl) (z_c (ok_iconst (v := (0)) dX3_arrange_14 (by decide)) (z_c (ok_putf (C := RX3) (T := TX3) (N := 13) false tyX3 tyX3_ok nmX3 rfl (by decide) zinX3 rfl zw_166 rfl (fun h => absurd h (by decide)) rfl dX3_arrange_15) (z_c (ok_aload_n dX3_arrange_18 rfl) (z_c (ok_iconst (v := (0)) dX3_arrange_19 (by decide)) z_n))))))))))))
noncomputable def tX3_arrange_1 : List (Nat × zF) := [(20, (zpf 3 7 (.int))), (23, (zst 1 (zp (.int (0))))), (24, (zsi4 5 2 1)), (25, (zst 1 (zp (.int (0))))), (26, (zsi4 5 3 1)), (27, (zli4 3 1)), (28, (zla4 0 1)), (29, (zgf 3 0)), (32, (zgf 0 0)), (35, (zgf 4 13)), (38, (z_ic_ge 107)), (41, (zla4 0 1))]
theorem kX3_arrange_1 : ∀ q ∈ tX3_arrange_1, zOk zg iX3_arrange q.1 q.2 := (z_c (ok_putf (C := RX3) (T := TX3) (N := 13) false tyX3 tyX3_ok nmX3 rfl (by decide) zinX3 rfl zw_167 rfl (fun h => absurd h (by decide)) rfl dX3_arrange_20) (z_c (ok_iconst (v := (0)) dX3_arrange_23 (by decide)) (z_c (ok_istore_n dX3_arrange_24 rfl) (z_c (ok_iconst (v := (0)) dX3_arrange_25 (by decide)) (z_c (ok_istore_n dX3_arrange_26 rfl) (z_c (ok_iload_n dX3_arrange_27 rfl) (z_c (ok_aload_n dX3_arrange_28 rfl) (z_c (ok_getf (C := RX3) (T := TX3) (N := 13) rfl (by decide) zinX3 rfl zw_133 dX3_arrange_29) (z_c (ok_getf (C := RX0) (T := TX0) (N := 5) rfl (by decide) zinX0 rfl zw_141 dX3_arrange_32) (z_c (ok_getf (C := RX4) (T := TX4) (N := 18) rfl (by decide) zinX4 rfl zw_168 dX3_arrange_35) (z_c (ok_icmp_ge dX3_arrange_38 (by decide)) (z_c (ok_aload_n dX3_arrange_41 rfl) z_n))))))))))))
noncomputable def tX3_arrange_2 : List (Nat × zF) := [(42, (zli4 3 1)), (43, (zli4 2 1)), (44, (zcv 37 2 3)), (47, (zsi4 5 4 2)), (49, (zla4 0 1)), (50, (zgf 3 5)), (53, (zli4 3 1)), (54, (zli4 4 2)), (56, (zas 0)), (57, (zli4 4 2)), (59, (zst 1 (zp (.int ((-1)))))), (60, (z_ic_eq 101))]
theorem kX3_arrange_2 : ∀ q ∈ tX3_arrange_2, zOk zg iX3_arrange q.1 q.2 := (z_c (ok_iload_n dX3_arrange_42 rfl) (z_c (ok_iload_n dX3_arrange_43 rfl) (z_c (ok_callV zcal_37 (q := (RX3, TX3, 13)) rfl zw_169 zw_170 zw_171 dX3_arrange_44) (z_c (ok_istore dX3_arrange_47) (z_c (ok_aload_n dX3_arrange_49 rfl) (z_c (ok_getf (C := RX3) (T := TX3) (N := 13) rfl (by decide) zinX3 rfl zw_131 dX3_arrange_50) (z_c (ok_iload_n dX3_arrange_53 rfl) (z_c (ok_iload dX3_arrange_54) (z_c (ok_iastore rfl dX3_arrange_56) (z_c (ok_iload dX3_arrange_57) (z_c (ok_iconst (v := (-1)) dX3_arrange_59 (by decide)) (z_c (ok_icmp_eq dX3_arrange_60 (by decide)) z_n))))))))))))
noncomputable def tX3_arrange_3 : List (Nat × zF) := [(63, (zla4 0 1)), (64, (zst 1 zdu)), (65, (zgf 3 6)), (68, (zst 1 (zp (.int (1))))), (69, (zst 1 z_iadd)), (70, (zpf 3 6 (.int))), (73, (zla4 0 1)), (74, (zst 1 zdu)), (75, (zgf 3 7)), (78, (zla4 0 1)), (79, (zgf 3 3)), (82, (zli4 3 1))]
theorem kX3_arrange_3 : ∀ q ∈ tX3_arrange_3, zOk zg iX3_arrange q.1 q.2 := (z_c (ok_aload_n dX3_arrange_63 rfl) (z_c (ok_dup dX3_arrange_64) (z_c (ok_getf (C := RX3) (T := TX3) (N := 13) rfl (by decide) zinX3 rfl zw_166 dX3_arrange_65) (z_c (ok_iconst (v := (1)) dX3_arrange_68 (by decide)) (z_c (ok_iadd dX3_arrange_69) (z_c (ok_putf (C := RX3) (T := TX3) (N := 13) false tyX3 tyX3_ok nmX3 rfl (by decide) zinX3 rfl zw_166 rfl (fun h => absurd h (by decide)) rfl dX3_arrange_70) (z_c (ok_aload_n dX3_arrange_73 rfl) (z_c (ok_dup dX3_arrange_74) (z_c (ok_getf (C := RX3) (T := TX3) (N := 13) rfl (by decide) zinX3 rfl zw_167 dX3_arrange_75) (z_c (ok_aload_n dX3_arrange_78 rfl) (z_c (ok_getf (C := RX3) (T := TX3) (N := 13) rfl (by decide) zinX3 rfl zw_129 dX3_arrange_79) (z_c (ok_iload_n dX3_arrange_82 rfl) z_n))))))))))))
noncomputable def tX3_arrange_4 : List (Nat × zF) := [(83, (zst 2 (zp (.int (9))))), (85, (zst 1 z_imul)), (86, (zli4 4 2)), (88, (zst 1 z_iadd)), (89, (zal 0)), (90, (zst 1 z_iadd)), (91, (zpf 3 7 (.int))), (94, (zli4 2 1)), (95, (zst 1 (zp (.int (1))))), (96, (zli4 4 2)), (98, (zst 1 z_ishl)), (99, (zst 1 z_ior))]
theorem kX3_arrange_4 : ∀ q ∈ tX3_arrange_4, zOk zg iX3_arrange q.1 q.2 := (z_c (ok_bipush (v := (9)) dX3_arrange_83 (by decide)) (z_c (ok_imul dX3_arrange_85) (z_c (ok_iload dX3_arrange_86) (z_c (ok_iadd dX3_arrange_88) (z_c (ok_iaload rfl dX3_arrange_89) (z_c (ok_iadd dX3_arrange_90) (z_c (ok_putf (C := RX3) (T := TX3) (N := 13) false tyX3 tyX3_ok nmX3 rfl (by decide) zinX3 rfl zw_167 rfl (fun h => absurd h (by decide)) rfl dX3_arrange_91) (z_c (ok_iload_n dX3_arrange_94 rfl) (z_c (ok_iconst (v := (1)) dX3_arrange_95 (by decide)) (z_c (ok_iload dX3_arrange_96) (z_c (ok_ishl dX3_arrange_98) (z_c (ok_ior dX3_arrange_99) z_n))))))))))))
noncomputable def tX3_arrange_5 : List (Nat × zF) := [(100, (zsi4 5 2 1)), (101, (zin4 5 3 (1))), (104, (zgt 27)), (107, zrv)]
theorem kX3_arrange_5 : ∀ q ∈ tX3_arrange_5, zOk zg iX3_arrange q.1 q.2 := (z_c (ok_istore_n dX3_arrange_100 rfl) (z_c (ok_iinc (v := (1)) dX3_arrange_101 (by decide)) (z_c (ok_goto dX3_arrange_104 (by decide)) (z_c (ok_return rfl dX3_arrange_107) z_n))))
noncomputable def tX3_arrange : zT := [(20, tX3_arrange_0), (42, tX3_arrange_1), (63, tX3_arrange_2), (83, tX3_arrange_3), (100, tX3_arrange_4), (100000, tX3_arrange_5)]
theorem kX3_arrange : zTok zg iX3_arrange tX3_arrange := (z_t kX3_arrange_0 (z_t kX3_arrange_1 (z_t kX3_arrange_2 (z_t kX3_arrange_3 (z_t kX3_arrange_4 (z_t kX3_arrange_5 z_tn))))))
theorem dX3_measure_0 : decode cX3_measure 0 = .ok (.aload_n 0, 1) := by decide +kernel
theorem dX3_measure_1 : decode cX3_measure 1 = .ok (.getfield 34, 3) := by decide +kernel
theorem dX3_measure_4 : decode cX3_measure 4 = .ok (.getfield 63, 3) := by decide +kernel
theorem dX3_measure_7 : decode cX3_measure 7 = .ok (.getfield 130, 3) := by decide +kernel
theorem dX3_measure_10 : decode cX3_measure 10 = .ok (.aload_n 0, 1) := by decide +kernel
theorem dX3_measure_11 : decode cX3_measure 11 = .ok (.getfield 34, 3) := by decide +kernel
theorem dX3_measure_14 : decode cX3_measure 14 = .ok (.getfield 63, 3) := by decide +kernel
theorem dX3_measure_17 : decode cX3_measure 17 = .ok (.getfield 134, 3) := by decide +kernel
theorem dX3_measure_20 : decode cX3_measure 20 = .ok (.ldc2_w 137, 3) := by decide +kernel
theorem dX3_measure_23 : decode cX3_measure 23 = .ok (.lxor, 1) := by decide +kernel
theorem dX3_measure_24 : decode cX3_measure 24 = .ok (.land, 1) := by decide +kernel
theorem dX3_measure_25 : decode cX3_measure 25 = .ok (.lstore_n 2, 1) := by decide +kernel
theorem dX3_measure_26 : decode cX3_measure 26 = .ok (.iconst 0, 1) := by decide +kernel
theorem dX3_measure_27 : decode cX3_measure 27 = .ok (.istore 4, 2) := by decide +kernel
theorem dX3_measure_29 : decode cX3_measure 29 = .ok (.iload 4, 2) := by decide +kernel
theorem dX3_measure_31 : decode cX3_measure 31 = .ok (.aload_n 0, 1) := by decide +kernel
theorem dX3_measure_32 : decode cX3_measure 32 = .ok (.getfield 34, 3) := by decide +kernel
theorem dX3_measure_35 : decode cX3_measure 35 = .ok (.getfield 63, 3) := by decide +kernel
theorem dX3_measure_38 : decode cX3_measure 38 = .ok (.getfield 124, 3) := by decide +kernel
theorem dX3_measure_41 : decode cX3_measure 41 = .ok (.if_icmp .ge 87, 3) := by decide +kernel
theorem dX3_measure_44 : decode cX3_measure 44 = .ok (.iconst 0, 1) := by decide +kernel
theorem dX3_measure_45 : decode cX3_measure 45 = .ok (.istore 5, 2) := by decide +kernel
theorem dX3_measure_47 : decode cX3_measure 47 = .ok (.iload 5, 2) := by decide +kernel
theorem dX3_measure_49 : decode cX3_measure 49 = .ok (.aload_n 0, 1) := by decide +kernel
theorem dX3_measure_50 : decode cX3_measure 50 = .ok (.getfield 34, 3) := by decide +kernel
theorem dX3_measure_53 : decode cX3_measure 53 = .ok (.getfield 63, 3) := by decide +kernel
theorem dX3_measure_56 : decode cX3_measure 56 = .ok (.getfield 67, 3) := by decide +kernel
theorem dX3_measure_59 : decode cX3_measure 59 = .ok (.if_icmp .ge 63, 3) := by decide +kernel
theorem dX3_measure_62 : decode cX3_measure 62 = .ok (.aload_n 0, 1) := by decide +kernel
theorem dX3_measure_63 : decode cX3_measure 63 = .ok (.getfield 21, 3) := by decide +kernel
theorem dX3_measure_66 : decode cX3_measure 66 = .ok (.iload 4, 2) := by decide +kernel
theorem dX3_measure_68 : decode cX3_measure 68 = .ok (.bipush 9, 2) := by decide +kernel
theorem dX3_measure_70 : decode cX3_measure 70 = .ok (.imul, 1) := by decide +kernel
theorem dX3_measure_71 : decode cX3_measure 71 = .ok (.iload 5, 2) := by decide +kernel
theorem dX3_measure_73 : decode cX3_measure 73 = .ok (.iadd, 1) := by decide +kernel
theorem dX3_measure_74 : decode cX3_measure 74 = .ok (.aload_n 1, 1) := by decide +kernel
theorem dX3_measure_75 : decode cX3_measure 75 = .ok (.iload 5, 2) := by decide +kernel
theorem dX3_measure_77 : decode cX3_measure 77 = .ok (.invokevirtual 89, 3) := by decide +kernel
theorem dX3_measure_80 : decode cX3_measure 80 = .ok (.ifCond .eq 34, 3) := by decide +kernel
theorem dX3_measure_83 : decode cX3_measure 83 = .ok (.aload_n 0, 1) := by decide +kernel
theorem dX3_measure_84 : decode cX3_measure 84 = .ok (.getfield 34, 3) := by decide +kernel
theorem dX3_measure_87 : decode cX3_measure 87 = .ok (.aload_n 1, 1) := by decide +kernel
theorem dX3_measure_88 : decode cX3_measure 88 = .ok (.getfield 139, 3) := by decide +kernel
theorem dX3_measure_91 : decode cX3_measure 91 = .ok (.iload 4, 2) := by decide +kernel
theorem dX3_measure_93 : decode cX3_measure 93 = .ok (.iaload, 1) := by decide +kernel
theorem dX3_measure_94 : decode cX3_measure 94 = .ok (.aload_n 0, 1) := by decide +kernel
theorem dX3_measure_95 : decode cX3_measure 95 = .ok (.getfield 34, 3) := by decide +kernel
theorem dX3_measure_98 : decode cX3_measure 98 = .ok (.getfield 63, 3) := by decide +kernel
theorem dX3_measure_101 : decode cX3_measure 101 = .ok (.getfield 97, 3) := by decide +kernel
theorem dX3_measure_104 : decode cX3_measure 104 = .ok (.iload 5, 2) := by decide +kernel
theorem dX3_measure_106 : decode cX3_measure 106 = .ok (.iaload, 1) := by decide +kernel
theorem dX3_measure_107 : decode cX3_measure 107 = .ok (.lload_n 2, 1) := by decide +kernel
theorem dX3_measure_108 : decode cX3_measure 108 = .ok (.invokevirtual 142, 3) := by decide +kernel
theorem dX3_measure_111 : decode cX3_measure 111 = .ok (.goto 4, 3) := by decide +kernel
theorem dX3_measure_114 : decode cX3_measure 114 = .ok (.iconst (-1), 1) := by decide +kernel
theorem dX3_measure_115 : decode cX3_measure 115 = .ok (.iastore, 1) := by decide +kernel
theorem dX3_measure_116 : decode cX3_measure 116 = .ok (.iinc 5 1, 3) := by decide +kernel
theorem dX3_measure_119 : decode cX3_measure 119 = .ok (.goto (-72), 3) := by decide +kernel
theorem dX3_measure_122 : decode cX3_measure 122 = .ok (.iinc 4 1, 3) := by decide +kernel
theorem dX3_measure_125 : decode cX3_measure 125 = .ok (.goto (-96), 3) := by decide +kernel
theorem dX3_measure_128 : decode cX3_measure 128 = .ok (.return_, 1) := by decide +kernel
noncomputable def tX3_measure_0 : List (Nat × zF) := [(0, (zla4 0 1)), (1, (zgf 3 0)), (4, (zgf 0 0)), (7, (zgf 4 5)), (10, (zla4 0 1)), (11, (zgf 3 0)), (14, (zgf 0 0)), (17, (zgf 4 6)), (20, (zst 3 (zp (.long (-1))))), (23, (zst 1 z_lxor)), (24, (zst 1 z_land)), (25, (zsl4 6 2 1))]
theorem kX3_measure_0 : ∀ q ∈ tX3_measure_0, zOk zg iX3_measure q.1 q.2 := (z_c (ok_aload_n dX3_measure_0 rfl) (z_c (ok_getf (C := RX3) (T := TX3) (N := 13) rfl (by decide) zinX3 rfl zw_133 dX3_measure_1) (z_c (ok_getf (C := RX0) (T := TX0) (N := 5) rfl (by decide) zinX0 rfl zw_141 dX3_measure_4) (z_c (ok_getf (C := RX4) (T := TX4) (N := 18) rfl (by decide) zinX4 rfl zw_172 dX3_measure_7) (z_c (ok_aload_n dX3_measure_10 rfl) (z_c (ok_getf (C := RX3) (T := TX3) (N := 13) rfl (by decide) zinX3 rfl zw_133 dX3_measure_11) (z_c (ok_getf (C := RX0) (T := TX0) (N := 5) rfl (by decide) zinX0 rfl zw_141 dX3_measure_14) (z_c (ok_getf (C := RX4) (T := TX4) (N := 18) rfl (by decide) zinX4 rfl zw_173 dX3_measure_17) (z_c (ok_ldc2 (v := (-1)) zw_174 dX3_measure_20) (z_c (ok_lxor dX3_measure_23) (z_c (ok_land dX3_measure_24) (z_c (ok_lstore_n dX3_measure_25 rfl) z_n))))))))))))
noncomputable def tX3_measure_1 : List (Nat × zF) := [(26, (zst 1 (zp (.int (0))))), (27, (zsi4 6 4 2)), (29, (zli4 4 2)), (31, (zla4 0 1)), (32, (zgf 3 0)), (35, (zgf 0 0)), (38, (zgf 4 13)), (41, (z_ic_ge 128)), (44, (zst 1 (zp (.int (0))))), (45, (zsi4 6 5 2)), (47, (zli4 5 2)), (49, (zla4 0 1))]
theorem kX3_measure_1 : ∀ q ∈ tX3_measure_1, zOk zg iX3_measure q.1 q.2 := (z_c (ok_iconst (v := (0)) dX3_measure_26 (by decide)) (z_c (ok_istore dX3_measure_27) (z_c (ok_iload dX3_measure_29) (z_c (ok_aload_n dX3_measure_31 rfl) (z_c (ok_getf (C := RX3) (T := TX3) (N := 13) rfl (by decide) zinX3 rfl zw_133 dX3_measure_32) (z_c (ok_getf (C := RX0) (T := TX0) (N := 5) rfl (by decide) zinX0 rfl zw_141 dX3_measure_35) (z_c (ok_getf (C := RX4) (T := TX4) (N := 18) rfl (by decide) zinX4 rfl zw_168 dX3_measure_38) (z_c (ok_icmp_ge dX3_measure_41 (by decide)) (z_c (ok_iconst (v := (0)) dX3_measure_44 (by decide)) (z_c (ok_istore dX3_measure_45) (z_c (ok_iload dX3_measure_47) (z_c (ok_aload_n dX3_measure_49 rfl) z_n))))))))))))
noncomputable def tX3_measure_2 : List (Nat × zF) := [(50, (zgf 3 0)), (53, (zgf 0 0)), (56, (zgf 4 7)), (59, (z_ic_ge 122)), (62, (zla4 0 1)), (63, (zgf 3 3)), (66, (zli4 4 2)), (68, (zst 2 (zp (.int (9))))), (70, (zst 1 z_imul)), (71, (zli4 5 2)), (73, (zst 1 z_iadd)), (74, (zla4 1 1))]
theorem kX3_measure_2 : ∀ q ∈ tX3_measure_2, zOk zg iX3_measure q.1 q.2 := (z_c (ok_getf (C := RX3) (T := TX3) (N := 13) rfl (by decide) zinX3 rfl zw_133 dX3_measure_50) (z_c (ok_getf (C := RX0) (T := TX0) (N := 5) rfl (by decide) zinX0 rfl zw_141 dX3_measure_53) (z_c (ok_getf (C := RX4) (T := TX4) (N := 18) rfl (by decide) zinX4 rfl zw_142 dX3_measure_56) (z_c (ok_icmp_ge dX3_measure_59 (by decide)) (z_c (ok_aload_n dX3_measure_62 rfl) (z_c (ok_getf (C := RX3) (T := TX3) (N := 13) rfl (by decide) zinX3 rfl zw_129 dX3_measure_63) (z_c (ok_iload dX3_measure_66) (z_c (ok_bipush (v := (9)) dX3_measure_68 (by decide)) (z_c (ok_imul dX3_measure_70) (z_c (ok_iload dX3_measure_71) (z_c (ok_iadd dX3_measure_73) (z_c (ok_aload_n dX3_measure_74 rfl) z_n))))))))))))
noncomputable def tX3_measure_3 : List (Nat × zF) := [(75, (zli4 5 2)), (77, (zcv 81 1 8)), (80, (z_if_eq 114)), (83, (zla4 0 1)), (84, (zgf 3 0)), (87, (zla4 1 1)), (88, (zgf 8 3)), (91, (zli4 4 2)), (93, (zal 0)), (94, (zla4 0 1)), (95, (zgf 3 0)), (98, (zgf 0 0))]
theorem kX3_measure_3 : ∀ q ∈ tX3_measure_3, zOk zg iX3_measure q.1 q.2 := (z_c (ok_iload dX3_measure_75) (z_c (ok_callV zcal_81 (q := (RX8, TX8, 6)) rfl zw_150 zw_25 zw_26 dX3_measure_77) (z_c (ok_if_eq dX3_measure_80 (by decide)) (z_c (ok_aload_n dX3_measure_83 rfl) (z_c (ok_getf (C := RX3) (T := TX3) (N := 13) rfl (by decide) zinX3 rfl zw_133 dX3_measure_84) (z_c (ok_aload_n dX3_measure_87 rfl) (z_c (ok_getf (C := RX8) (T := TX8) (N := 6) rfl (by decide) zinX8 rfl zw_175 dX3_measure_88) (z_c (ok_iload dX3_measure_91) (z_c (ok_iaload rfl dX3_measure_93) (z_c (ok_aload_n dX3_measure_94 rfl) (z_c (ok_getf (C := RX3) (T := TX3) (N := 13) rfl (by decide) zinX3 rfl zw_133 dX3_measure_95) (z_c (ok_getf (C := RX0) (T := TX0) (N := 5) rfl (by decide) zinX0 rfl zw_141 dX3_measure_98) z_n))))))))))))
noncomputable def tX3_measure_4 : List (Nat × zF) := [(101, (zgf 4 9)), (104, (zli4 5 2)), (106, (zal 0)), (107, (zll4 2 1)), (108, (zcv 8 3 0)), (111, (zgt 115)), (114, (zst 1 (zp (.int ((-1)))))), (115, (zas 0)), (116, (zin4 6 5 (1))), (119, (zgt 47)), (122, (zin4 6 4 (1))), (125, (zgt 29))]
theorem kX3_measure_4 : ∀ q ∈ tX3_measure_4, zOk zg iX3_measure q.1 q.2 := (z_c (ok_getf (C := RX4) (T := TX4) (N := 18) rfl (by decide) zinX4 rfl zw_154 dX3_measure_101) (z_c (ok_iload dX3_measure_104) (z_c (ok_iaload rfl dX3_measure_106) (z_c (ok_lload_n dX3_measure_107 rfl) (z_c (ok_callV zcal_8 (q := (RX0, TX0, 5)) rfl zw_176 zw_61 zw_62 dX3_measure_108) (z_c (ok_goto dX3_measure_111 (by decide)) (z_c (ok_iconst (v := (-1)) dX3_measure_114 (by decide)) (z_c (ok_iastore rfl dX3_measure_115) (z_c (ok_iinc (v := (1)) dX3_measure_116 (by decide)) (z_c (ok_goto dX3_measure_119 (by decide)) (z_c (ok_iinc (v := (1)) dX3_measure_122 (by decide)) (z_c (ok_goto dX3_measure_125 (by decide)) z_n))))))))))))
noncomputable def tX3_measure_5 : List (Nat × zF) := [(128, zrv)]
theorem kX3_measure_5 : ∀ q ∈ tX3_measure_5, zOk zg iX3_measure q.1 q.2 := (z_c (ok_return rfl dX3_measure_128) z_n)
noncomputable def tX3_measure : zT := [(26, tX3_measure_0), (50, tX3_measure_1), (75, tX3_measure_2), (101, tX3_measure_3), (128, tX3_measure_4), (100000, tX3_measure_5)]
theorem kX3_measure : zTok zg iX3_measure tX3_measure := (z_t kX3_measure_0 (z_t kX3_measure_1 (z_t kX3_measure_2 (z_t kX3_measure_3 (z_t kX3_measure_4 (z_t kX3_measure_5 z_tn))))))
theorem dX3_weigh_0 : decode cX3_weigh 0 = .ok (.aload_n 0, 1) := by decide +kernel
theorem dX3_weigh_1 : decode cX3_weigh 1 = .ok (.getfield 34, 3) := by decide +kernel
theorem dX3_weigh_4 : decode cX3_weigh 4 = .ok (.getfield 63, 3) := by decide +kernel
theorem dX3_weigh_7 : decode cX3_weigh 7 = .ok (.getfield 124, 3) := by decide +kernel
theorem dX3_weigh_10 : decode cX3_weigh 10 = .ok (.istore_n 2, 1) := by decide +kernel
theorem dX3_weigh_11 : decode cX3_weigh 11 = .ok (.iconst 0, 1) := by decide +kernel
theorem dX3_weigh_12 : decode cX3_weigh 12 = .ok (.istore_n 3, 1) := by decide +kernel
theorem dX3_weigh_13 : decode cX3_weigh 13 = .ok (.iload_n 3, 1) := by decide +kernel
theorem dX3_weigh_14 : decode cX3_weigh 14 = .ok (.sipush 512, 3) := by decide +kernel
theorem dX3_weigh_17 : decode cX3_weigh 17 = .ok (.if_icmp .ge 22, 3) := by decide +kernel
theorem dX3_weigh_20 : decode cX3_weigh 20 = .ok (.aload_n 0, 1) := by decide +kernel
theorem dX3_weigh_21 : decode cX3_weigh 21 = .ok (.getfield 25, 3) := by decide +kernel
theorem dX3_weigh_24 : decode cX3_weigh 24 = .ok (.iload_n 2, 1) := by decide +kernel
theorem dX3_weigh_25 : decode cX3_weigh 25 = .ok (.sipush 512, 3) := by decide +kernel
theorem dX3_weigh_28 : decode cX3_weigh 28 = .ok (.imul, 1) := by decide +kernel
theorem dX3_weigh_29 : decode cX3_weigh 29 = .ok (.iload_n 3, 1) := by decide +kernel
theorem dX3_weigh_30 : decode cX3_weigh 30 = .ok (.iadd, 1) := by decide +kernel
theorem dX3_weigh_31 : decode cX3_weigh 31 = .ok (.iconst 0, 1) := by decide +kernel
theorem dX3_weigh_32 : decode cX3_weigh 32 = .ok (.iastore, 1) := by decide +kernel
theorem dX3_weigh_33 : decode cX3_weigh 33 = .ok (.iinc 3 1, 3) := by decide +kernel
theorem dX3_weigh_36 : decode cX3_weigh 36 = .ok (.goto (-23), 3) := by decide +kernel
theorem dX3_weigh_39 : decode cX3_weigh 39 = .ok (.iload_n 2, 1) := by decide +kernel
theorem dX3_weigh_40 : decode cX3_weigh 40 = .ok (.iconst 1, 1) := by decide +kernel
theorem dX3_weigh_41 : decode cX3_weigh 41 = .ok (.isub, 1) := by decide +kernel
theorem dX3_weigh_42 : decode cX3_weigh 42 = .ok (.istore_n 3, 1) := by decide +kernel
theorem dX3_weigh_43 : decode cX3_weigh 43 = .ok (.iload_n 3, 1) := by decide +kernel
theorem dX3_weigh_44 : decode cX3_weigh 44 = .ok (.ifCond .lt 125, 3) := by decide +kernel
theorem dX3_weigh_47 : decode cX3_weigh 47 = .ok (.iconst 0, 1) := by decide +kernel
theorem dX3_weigh_48 : decode cX3_weigh 48 = .ok (.istore 4, 2) := by decide +kernel
theorem dX3_weigh_50 : decode cX3_weigh 50 = .ok (.iload 4, 2) := by decide +kernel
theorem dX3_weigh_52 : decode cX3_weigh 52 = .ok (.iload_n 1, 1) := by decide +kernel
theorem dX3_weigh_53 : decode cX3_weigh 53 = .ok (.if_icmp .gt 110, 3) := by decide +kernel
theorem dX3_weigh_56 : decode cX3_weigh 56 = .ok (.iload 4, 2) := by decide +kernel
theorem dX3_weigh_58 : decode cX3_weigh 58 = .ok (.iload_n 1, 1) := by decide +kernel
theorem dX3_weigh_59 : decode cX3_weigh 59 = .ok (.iconst (-1), 1) := by decide +kernel
theorem dX3_weigh_60 : decode cX3_weigh 60 = .ok (.ixor, 1) := by decide +kernel
theorem dX3_weigh_61 : decode cX3_weigh 61 = .ok (.iand, 1) := by decide +kernel
theorem dX3_weigh_62 : decode cX3_weigh 62 = .ok (.ifCond .ne 95, 3) := by decide +kernel
theorem dX3_weigh_65 : decode cX3_weigh 65 = .ok (.iload 4, 2) := by decide +kernel
theorem dX3_weigh_67 : decode cX3_weigh 67 = .ok (.invokestatic 75, 3) := by decide +kernel
theorem dX3_weigh_70 : decode cX3_weigh 70 = .ok (.iload_n 3, 1) := by decide +kernel
theorem dX3_weigh_71 : decode cX3_weigh 71 = .ok (.if_icmp .gt 86, 3) := by decide +kernel
theorem dX3_weigh_74 : decode cX3_weigh 74 = .ok (.aload_n 0, 1) := by decide +kernel
theorem dX3_weigh_75 : decode cX3_weigh 75 = .ok (.getfield 25, 3) := by decide +kernel
theorem dX3_weigh_78 : decode cX3_weigh 78 = .ok (.iload_n 3, 1) := by decide +kernel
theorem dX3_weigh_79 : decode cX3_weigh 79 = .ok (.sipush 512, 3) := by decide +kernel
theorem dX3_weigh_82 : decode cX3_weigh 82 = .ok (.imul, 1) := by decide +kernel
theorem dX3_weigh_83 : decode cX3_weigh 83 = .ok (.iload 4, 2) := by decide +kernel
theorem dX3_weigh_85 : decode cX3_weigh 85 = .ok (.iadd, 1) := by decide +kernel
theorem dX3_weigh_86 : decode cX3_weigh 86 = .ok (.aload_n 0, 1) := by decide +kernel
theorem dX3_weigh_87 : decode cX3_weigh 87 = .ok (.iload_n 3, 1) := by decide +kernel
theorem dX3_weigh_88 : decode cX3_weigh 88 = .ok (.iload 4, 2) := by decide +kernel
theorem dX3_weigh_90 : decode cX3_weigh 90 = .ok (.iconst (-1), 1) := by decide +kernel
theorem dX3_weigh_91 : decode cX3_weigh 91 = .ok (.invokevirtual 146, 3) := by decide +kernel
theorem dX3_weigh_94 : decode cX3_weigh 94 = .ok (.iastore, 1) := by decide +kernel
theorem dX3_weigh_95 : decode cX3_weigh 95 = .ok (.iconst 0, 1) := by decide +kernel
theorem dX3_weigh_96 : decode cX3_weigh 96 = .ok (.istore 5, 2) := by decide +kernel
theorem dX3_weigh_98 : decode cX3_weigh 98 = .ok (.iload 5, 2) := by decide +kernel
theorem dX3_weigh_100 : decode cX3_weigh 100 = .ok (.aload_n 0, 1) := by decide +kernel
theorem dX3_weigh_101 : decode cX3_weigh 101 = .ok (.getfield 34, 3) := by decide +kernel
theorem dX3_weigh_104 : decode cX3_weigh 104 = .ok (.getfield 63, 3) := by decide +kernel
theorem dX3_weigh_107 : decode cX3_weigh 107 = .ok (.getfield 67, 3) := by decide +kernel
theorem dX3_weigh_110 : decode cX3_weigh 110 = .ok (.if_icmp .ge 47, 3) := by decide +kernel
theorem dX3_weigh_113 : decode cX3_weigh 113 = .ok (.aload_n 0, 1) := by decide +kernel
theorem dX3_weigh_114 : decode cX3_weigh 114 = .ok (.getfield 25, 3) := by decide +kernel
theorem dX3_weigh_117 : decode cX3_weigh 117 = .ok (.iload_n 3, 1) := by decide +kernel
theorem dX3_weigh_118 : decode cX3_weigh 118 = .ok (.sipush 512, 3) := by decide +kernel
theorem dX3_weigh_121 : decode cX3_weigh 121 = .ok (.imul, 1) := by decide +kernel
theorem dX3_weigh_122 : decode cX3_weigh 122 = .ok (.iload 4, 2) := by decide +kernel
theorem dX3_weigh_124 : decode cX3_weigh 124 = .ok (.iadd, 1) := by decide +kernel
theorem dX3_weigh_125 : decode cX3_weigh 125 = .ok (.aload_n 0, 1) := by decide +kernel
theorem dX3_weigh_126 : decode cX3_weigh 126 = .ok (.getfield 25, 3) := by decide +kernel
theorem dX3_weigh_129 : decode cX3_weigh 129 = .ok (.iload_n 3, 1) := by decide +kernel
theorem dX3_weigh_130 : decode cX3_weigh 130 = .ok (.sipush 512, 3) := by decide +kernel
theorem dX3_weigh_133 : decode cX3_weigh 133 = .ok (.imul, 1) := by decide +kernel
theorem dX3_weigh_134 : decode cX3_weigh 134 = .ok (.iload 4, 2) := by decide +kernel
theorem dX3_weigh_136 : decode cX3_weigh 136 = .ok (.iadd, 1) := by decide +kernel
theorem dX3_weigh_137 : decode cX3_weigh 137 = .ok (.iaload, 1) := by decide +kernel
theorem dX3_weigh_138 : decode cX3_weigh 138 = .ok (.aload_n 0, 1) := by decide +kernel
theorem dX3_weigh_139 : decode cX3_weigh 139 = .ok (.iload_n 3, 1) := by decide +kernel
theorem dX3_weigh_140 : decode cX3_weigh 140 = .ok (.iload 4, 2) := by decide +kernel
theorem dX3_weigh_142 : decode cX3_weigh 142 = .ok (.iload 5, 2) := by decide +kernel
theorem dX3_weigh_144 : decode cX3_weigh 144 = .ok (.invokevirtual 146, 3) := by decide +kernel
theorem dX3_weigh_147 : decode cX3_weigh 147 = .ok (.invokestatic 150, 3) := by decide +kernel
theorem dX3_weigh_150 : decode cX3_weigh 150 = .ok (.iastore, 1) := by decide +kernel
theorem dX3_weigh_151 : decode cX3_weigh 151 = .ok (.iinc 5 1, 3) := by decide +kernel
theorem dX3_weigh_154 : decode cX3_weigh 154 = .ok (.goto (-56), 3) := by decide +kernel
theorem dX3_weigh_157 : decode cX3_weigh 157 = .ok (.iinc 4 1, 3) := by decide +kernel
theorem dX3_weigh_160 : decode cX3_weigh 160 = .ok (.goto (-110), 3) := by decide +kernel
theorem dX3_weigh_163 : decode cX3_weigh 163 = .ok (.iinc 3 (-1), 3) := by decide +kernel
theorem dX3_weigh_166 : decode cX3_weigh 166 = .ok (.goto (-123), 3) := by decide +kernel
theorem dX3_weigh_169 : decode cX3_weigh 169 = .ok (.return_, 1) := by decide +kernel
noncomputable def tX3_weigh_0 : List (Nat × zF) := [(0, (zla4 0 1)), (1, (zgf 3 0)), (4, (zgf 0 0)), (7, (zgf 4 13)), (10, (zsi4 6 2 1)), (11, (zst 1 (zp (.int (0))))), (12, (zsi4 6 3 1)), (13, (zli4 3 1)), (14, (zst 3 (zp (.int (512))))), (17, (z_ic_ge 39)), (20, (zla4 0 1)), (21, (zgf 3 4))]
theorem kX3_weigh_0 : ∀ q ∈ tX3_weigh_0, zOk zg iX3_weigh q.1 q.2 := (z_c (ok_aload_n dX3_weigh_0 rfl) (z_c (ok_getf (C := RX3) (T := TX3) (N := 13) rfl (by decide) zinX3 rfl zw_133 dX3_weigh_1) (z_c (ok_getf (C := RX0) (T := TX0) (N := 5) rfl (by decide) zinX0 rfl zw_141 dX3_weigh_4) (z_c (ok_getf (C := RX4) (T := TX4) (N := 18) rfl (by decide) zinX4 rfl zw_168 dX3_weigh_7) (z_c (ok_istore_n dX3_weigh_10 rfl) (z_c (ok_iconst (v := (0)) dX3_weigh_11 (by decide)) (z_c (ok_istore_n dX3_weigh_12 rfl) (z_c (ok_iload_n dX3_weigh_13 rfl) (z_c (ok_sipush (v := (512)) dX3_weigh_14 (by decide)) (z_c (ok_icmp_ge dX3_weigh_17 (by decide)) (z_c (ok_aload_n dX3_weigh_20 rfl) (z_c (ok_getf (C := RX3) (T := TX3) (N := 13) rfl (by decide) zinX3 rfl zw_130 dX3_weigh_21) z_n))))))))))))
noncomputable def tX3_weigh_1 : List (Nat × zF) := [(24, (zli4 2 1)), (25, (zst 3 (zp (.int (512))))), (28, (zst 1 z_imul)), (29, (zli4 3 1)), (30, (zst 1 z_iadd)), (31, (zst 1 (zp (.int (0))))), (32, (zas 0)), (33, (zin4 6 3 (1))), (36, (zgt 13)), (39, (zli4 2 1)), (40, (zst 1 (zp (.int (1))))), (41, (zst 1 z_isub))]
theorem kX3_weigh_1 : ∀ q ∈ tX3_weigh_1, zOk zg iX3_weigh q.1 q.2 := (z_c (ok_iload_n dX3_weigh_24 rfl) (z_c (ok_sipush (v := (512)) dX3_weigh_25 (by decide)) (z_c (ok_imul dX3_weigh_28) (z_c (ok_iload_n dX3_weigh_29 rfl) (z_c (ok_iadd dX3_weigh_30) (z_c (ok_iconst (v := (0)) dX3_weigh_31 (by decide)) (z_c (ok_iastore rfl dX3_weigh_32) (z_c (ok_iinc (v := (1)) dX3_weigh_33 (by decide)) (z_c (ok_goto dX3_weigh_36 (by decide)) (z_c (ok_iload_n dX3_weigh_39 rfl) (z_c (ok_iconst (v := (1)) dX3_weigh_40 (by decide)) (z_c (ok_isub dX3_weigh_41) z_n))))))))))))
noncomputable def tX3_weigh_2 : List (Nat × zF) := [(42, (zsi4 6 3 1)), (43, (zli4 3 1)), (44, (z_if_lt 169)), (47, (zst 1 (zp (.int (0))))), (48, (zsi4 6 4 2)), (50, (zli4 4 2)), (52, (zli4 1 1)), (53, (z_ic_gt 163)), (56, (zli4 4 2)), (58, (zli4 1 1)), (59, (zst 1 (zp (.int ((-1)))))), (60, (zst 1 z_ixor))]
theorem kX3_weigh_2 : ∀ q ∈ tX3_weigh_2, zOk zg iX3_weigh q.1 q.2 := (z_c (ok_istore_n dX3_weigh_42 rfl) (z_c (ok_iload_n dX3_weigh_43 rfl) (z_c (ok_if_lt dX3_weigh_44 (by decide)) (z_c (ok_iconst (v := (0)) dX3_weigh_47 (by decide)) (z_c (ok_istore dX3_weigh_48) (z_c (ok_iload dX3_weigh_50) (z_c (ok_iload_n dX3_weigh_52 rfl) (z_c (ok_icmp_gt dX3_weigh_53 (by decide)) (z_c (ok_iload dX3_weigh_56) (z_c (ok_iload_n dX3_weigh_58 rfl) (z_c (ok_iconst (v := (-1)) dX3_weigh_59 (by decide)) (z_c (ok_ixor dX3_weigh_60) z_n))))))))))))
noncomputable def tX3_weigh_3 : List (Nat × zF) := [(61, (zst 1 z_iand)), (62, (z_if_ne 157)), (65, (zli4 4 2)), (67, (zcs 279 1)), (70, (zli4 3 1)), (71, (z_ic_gt 157)), (74, (zla4 0 1)), (75, (zgf 3 4)), (78, (zli4 3 1)), (79, (zst 3 (zp (.int (512))))), (82, (zst 1 z_imul)), (83, (zli4 4 2))]
theorem kX3_weigh_3 : ∀ q ∈ tX3_weigh_3, zOk zg iX3_weigh q.1 q.2 := (z_c (ok_iand dX3_weigh_61) (z_c (ok_if_ne dX3_weigh_62 (by decide)) (z_c (ok_iload dX3_weigh_65) (z_c (ok_callS zcal_279 zw_144 zw_87 dX3_weigh_67) (z_c (ok_iload_n dX3_weigh_70 rfl) (z_c (ok_icmp_gt dX3_weigh_71 (by decide)) (z_c (ok_aload_n dX3_weigh_74 rfl) (z_c (ok_getf (C := RX3) (T := TX3) (N := 13) rfl (by decide) zinX3 rfl zw_130 dX3_weigh_75) (z_c (ok_iload_n dX3_weigh_78 rfl) (z_c (ok_sipush (v := (512)) dX3_weigh_79 (by decide)) (z_c (ok_imul dX3_weigh_82) (z_c (ok_iload dX3_weigh_83) z_n))))))))))))
noncomputable def tX3_weigh_4 : List (Nat × zF) := [(85, (zst 1 z_iadd)), (86, (zla4 0 1)), (87, (zli4 3 1)), (88, (zli4 4 2)), (90, (zst 1 (zp (.int ((-1)))))), (91, (zcv 36 3 3)), (94, (zas 0)), (95, (zst 1 (zp (.int (0))))), (96, (zsi4 6 5 2)), (98, (zli4 5 2)), (100, (zla4 0 1)), (101, (zgf 3 0))]
theorem kX3_weigh_4 : ∀ q ∈ tX3_weigh_4, zOk zg iX3_weigh q.1 q.2 := (z_c (ok_iadd dX3_weigh_85) (z_c (ok_aload_n dX3_weigh_86 rfl) (z_c (ok_iload_n dX3_weigh_87 rfl) (z_c (ok_iload dX3_weigh_88) (z_c (ok_iconst (v := (-1)) dX3_weigh_90 (by decide)) (z_c (ok_callV zcal_36 (q := (RX3, TX3, 13)) rfl zw_177 zw_178 zw_179 dX3_weigh_91) (z_c (ok_iastore rfl dX3_weigh_94) (z_c (ok_iconst (v := (0)) dX3_weigh_95 (by decide)) (z_c (ok_istore dX3_weigh_96) (z_c (ok_iload dX3_weigh_98) (z_c (ok_aload_n dX3_weigh_100 rfl) (z_c (ok_getf (C := RX3) (T := TX3) (N := 13) rfl (by decide) zinX3 rfl zw_133 dX3_weigh_101) z_n))))))))))))
noncomputable def tX3_weigh_5 : List (Nat × zF) := [(104, (zgf 0 0)), (107, (zgf 4 7)), (110, (z_ic_ge 157)), (113, (zla4 0 1)), (114, (zgf 3 4)), (117, (zli4 3 1)), (118, (zst 3 (zp (.int (512))))), (121, (zst 1 z_imul)), (122, (zli4 4 2)), (124, (zst 1 z_iadd)), (125, (zla4 0 1)), (126, (zgf 3 4))]
theorem kX3_weigh_5 : ∀ q ∈ tX3_weigh_5, zOk zg iX3_weigh q.1 q.2 := (z_c (ok_getf (C := RX0) (T := TX0) (N := 5) rfl (by decide) zinX0 rfl zw_141 dX3_weigh_104) (z_c (ok_getf (C := RX4) (T := TX4) (N := 18) rfl (by decide) zinX4 rfl zw_142 dX3_weigh_107) (z_c (ok_icmp_ge dX3_weigh_110 (by decide)) (z_c (ok_aload_n dX3_weigh_113 rfl) (z_c (ok_getf (C := RX3) (T := TX3) (N := 13) rfl (by decide) zinX3 rfl zw_130 dX3_weigh_114) (z_c (ok_iload_n dX3_weigh_117 rfl) (z_c (ok_sipush (v := (512)) dX3_weigh_118 (by decide)) (z_c (ok_imul dX3_weigh_121) (z_c (ok_iload dX3_weigh_122) (z_c (ok_iadd dX3_weigh_124) (z_c (ok_aload_n dX3_weigh_125 rfl) (z_c (ok_getf (C := RX3) (T := TX3) (N := 13) rfl (by decide) zinX3 rfl zw_130 dX3_weigh_126) z_n))))))))))))
noncomputable def tX3_weigh_6 : List (Nat × zF) := [(129, (zli4 3 1)), (130, (zst 3 (zp (.int (512))))), (133, (zst 1 z_imul)), (134, (zli4 4 2)), (136, (zst 1 z_iadd)), (137, (zal 0)), (138, (zla4 0 1)), (139, (zli4 3 1)), (140, (zli4 4 2)), (142, (zli4 5 2)), (144, (zcv 36 3 3)), (147, zmmax)]
theorem kX3_weigh_6 : ∀ q ∈ tX3_weigh_6, zOk zg iX3_weigh q.1 q.2 := (z_c (ok_iload_n dX3_weigh_129 rfl) (z_c (ok_sipush (v := (512)) dX3_weigh_130 (by decide)) (z_c (ok_imul dX3_weigh_133) (z_c (ok_iload dX3_weigh_134) (z_c (ok_iadd dX3_weigh_136) (z_c (ok_iaload rfl dX3_weigh_137) (z_c (ok_aload_n dX3_weigh_138 rfl) (z_c (ok_iload_n dX3_weigh_139 rfl) (z_c (ok_iload dX3_weigh_140) (z_c (ok_iload dX3_weigh_142) (z_c (ok_callV zcal_36 (q := (RX3, TX3, 13)) rfl zw_177 zw_178 zw_179 dX3_weigh_144) (z_c (ok_mmax zw_180 zw_52 zw_49 zw_53 dX3_weigh_147) z_n))))))))))))
noncomputable def tX3_weigh_7 : List (Nat × zF) := [(150, (zas 0)), (151, (zin4 6 5 (1))), (154, (zgt 98)), (157, (zin4 6 4 (1))), (160, (zgt 50)), (163, (zin4 6 3 (-1))), (166, (zgt 43)), (169, zrv)]
theorem kX3_weigh_7 : ∀ q ∈ tX3_weigh_7, zOk zg iX3_weigh q.1 q.2 := (z_c (ok_iastore rfl dX3_weigh_150) (z_c (ok_iinc (v := (1)) dX3_weigh_151 (by decide)) (z_c (ok_goto dX3_weigh_154 (by decide)) (z_c (ok_iinc (v := (1)) dX3_weigh_157 (by decide)) (z_c (ok_goto dX3_weigh_160 (by decide)) (z_c (ok_iinc (v := (-1)) dX3_weigh_163 (by decide)) (z_c (ok_goto dX3_weigh_166 (by decide)) (z_c (ok_return rfl dX3_weigh_169) z_n))))))))
noncomputable def tX3_weigh : zT := [(24, tX3_weigh_0), (42, tX3_weigh_1), (61, tX3_weigh_2), (85, tX3_weigh_3), (104, tX3_weigh_4), (129, tX3_weigh_5), (150, tX3_weigh_6), (100000, tX3_weigh_7)]
theorem kX3_weigh : zTok zg iX3_weigh tX3_weigh := (z_t kX3_weigh_0 (z_t kX3_weigh_1 (z_t kX3_weigh_2 (z_t kX3_weigh_3 (z_t kX3_weigh_4 (z_t kX3_weigh_5 (z_t kX3_weigh_6 (z_t kX3_weigh_7 z_tn))))))))
theorem dX3_worthWith_0 : decode cX3_worthWith 0 = .ok (.iload_n 1, 1) := by decide +kernel
theorem dX3_worthWith_1 : decode cX3_worthWith 1 = .ok (.iconst 1, 1) := by decide +kernel
theorem dX3_worthWith_2 : decode cX3_worthWith 2 = .ok (.iadd, 1) := by decide +kernel
theorem dX3_worthWith_3 : decode cX3_worthWith 3 = .ok (.sipush 512, 3) := by decide +kernel
theorem dX3_worthWith_6 : decode cX3_worthWith 6 = .ok (.imul, 1) := by decide +kernel
theorem dX3_worthWith_7 : decode cX3_worthWith 7 = .ok (.istore 4, 2) := by decide +kernel
theorem dX3_worthWith_9 : decode cX3_worthWith 9 = .ok (.iload_n 3, 1) := by decide +kernel
theorem dX3_worthWith_10 : decode cX3_worthWith 10 = .ok (.iconst (-1), 1) := by decide +kernel
theorem dX3_worthWith_11 : decode cX3_worthWith 11 = .ok (.if_icmp .ne 13, 3) := by decide +kernel
theorem dX3_worthWith_14 : decode cX3_worthWith 14 = .ok (.aload_n 0, 1) := by decide +kernel
theorem dX3_worthWith_15 : decode cX3_worthWith 15 = .ok (.getfield 25, 3) := by decide +kernel
theorem dX3_worthWith_18 : decode cX3_worthWith 18 = .ok (.iload 4, 2) := by decide +kernel
theorem dX3_worthWith_20 : decode cX3_worthWith 20 = .ok (.iload_n 2, 1) := by decide +kernel
theorem dX3_worthWith_21 : decode cX3_worthWith 21 = .ok (.iadd, 1) := by decide +kernel
theorem dX3_worthWith_22 : decode cX3_worthWith 22 = .ok (.iaload, 1) := by decide +kernel
theorem dX3_worthWith_23 : decode cX3_worthWith 23 = .ok (.ireturn, 1) := by decide +kernel
theorem dX3_worthWith_24 : decode cX3_worthWith 24 = .ok (.aload_n 0, 1) := by decide +kernel
theorem dX3_worthWith_25 : decode cX3_worthWith 25 = .ok (.getfield 21, 3) := by decide +kernel
theorem dX3_worthWith_28 : decode cX3_worthWith 28 = .ok (.iload_n 1, 1) := by decide +kernel
theorem dX3_worthWith_29 : decode cX3_worthWith 29 = .ok (.bipush 9, 2) := by decide +kernel
theorem dX3_worthWith_31 : decode cX3_worthWith 31 = .ok (.imul, 1) := by decide +kernel
theorem dX3_worthWith_32 : decode cX3_worthWith 32 = .ok (.iload_n 3, 1) := by decide +kernel
theorem dX3_worthWith_33 : decode cX3_worthWith 33 = .ok (.iadd, 1) := by decide +kernel
theorem dX3_worthWith_34 : decode cX3_worthWith 34 = .ok (.iaload, 1) := by decide +kernel
theorem dX3_worthWith_35 : decode cX3_worthWith 35 = .ok (.istore 5, 2) := by decide +kernel
theorem dX3_worthWith_37 : decode cX3_worthWith 37 = .ok (.iload 5, 2) := by decide +kernel
theorem dX3_worthWith_39 : decode cX3_worthWith 39 = .ok (.iconst (-1), 1) := by decide +kernel
theorem dX3_worthWith_40 : decode cX3_worthWith 40 = .ok (.if_icmp .eq 11, 3) := by decide +kernel
theorem dX3_worthWith_43 : decode cX3_worthWith 43 = .ok (.iload_n 2, 1) := by decide +kernel
theorem dX3_worthWith_44 : decode cX3_worthWith 44 = .ok (.iload_n 3, 1) := by decide +kernel
theorem dX3_worthWith_45 : decode cX3_worthWith 45 = .ok (.ishr, 1) := by decide +kernel
theorem dX3_worthWith_46 : decode cX3_worthWith 46 = .ok (.iconst 1, 1) := by decide +kernel
theorem dX3_worthWith_47 : decode cX3_worthWith 47 = .ok (.iand, 1) := by decide +kernel
theorem dX3_worthWith_48 : decode cX3_worthWith 48 = .ok (.ifCond .eq 5, 3) := by decide +kernel
theorem dX3_worthWith_51 : decode cX3_worthWith 51 = .ok (.iconst (-1), 1) := by decide +kernel
theorem dX3_worthWith_52 : decode cX3_worthWith 52 = .ok (.ireturn, 1) := by decide +kernel
theorem dX3_worthWith_53 : decode cX3_worthWith 53 = .ok (.sipush 1000, 3) := by decide +kernel
theorem dX3_worthWith_56 : decode cX3_worthWith 56 = .ok (.iload 5, 2) := by decide +kernel
theorem dX3_worthWith_58 : decode cX3_worthWith 58 = .ok (.isub, 1) := by decide +kernel
theorem dX3_worthWith_59 : decode cX3_worthWith 59 = .ok (.aload_n 0, 1) := by decide +kernel
theorem dX3_worthWith_60 : decode cX3_worthWith 60 = .ok (.getfield 25, 3) := by decide +kernel
theorem dX3_worthWith_63 : decode cX3_worthWith 63 = .ok (.iload 4, 2) := by decide +kernel
theorem dX3_worthWith_65 : decode cX3_worthWith 65 = .ok (.iload_n 2, 1) := by decide +kernel
theorem dX3_worthWith_66 : decode cX3_worthWith 66 = .ok (.iconst 1, 1) := by decide +kernel
theorem dX3_worthWith_67 : decode cX3_worthWith 67 = .ok (.iload_n 3, 1) := by decide +kernel
theorem dX3_worthWith_68 : decode cX3_worthWith 68 = .ok (.ishl, 1) := by decide +kernel
theorem dX3_worthWith_69 : decode cX3_worthWith 69 = .ok (.ior, 1) := by decide +kernel
theorem dX3_worthWith_70 : decode cX3_worthWith 70 = .ok (.iadd, 1) := by decide +kernel
theorem dX3_worthWith_71 : decode cX3_worthWith 71 = .ok (.iaload, 1) := by decide +kernel
theorem dX3_worthWith_72 : decode cX3_worthWith 72 = .ok (.iadd, 1) := by decide +kernel
theorem dX3_worthWith_73 : decode cX3_worthWith 73 = .ok (.ireturn, 1) := by decide +kernel
noncomputable def tX3_worthWith_0 : List (Nat × zF) := [(0, (zli4 1 1)), (1, (zst 1 (zp (.int (1))))), (2, (zst 1 z_iadd)), (3, (zst 3 (zp (.int (512))))), (6, (zst 1 z_imul)), (7, (zsi4 6 4 2)), (9, (zli4 3 1)), (10, (zst 1 (zp (.int ((-1)))))), (11, (z_ic_ne 24)), (14, (zla4 0 1)), (15, (zgf 3 4)), (18, (zli4 4 2))]
theorem kX3_worthWith_0 : ∀ q ∈ tX3_worthWith_0, zOk zg iX3_worthWith q.1 q.2 := (z_c (ok_iload_n dX3_worthWith_0 rfl) (z_c (ok_iconst (v := (1)) dX3_worthWith_1 (by decide)) (z_c (ok_iadd dX3_worthWith_2) (z_c (ok_sipush (v := (512)) dX3_worthWith_3 (by decide)) (z_c (ok_imul dX3_worthWith_6) (z_c (ok_istore dX3_worthWith_7) (z_c (ok_iload_n dX3_worthWith_9 rfl) (z_c (ok_iconst (v := (-1)) dX3_worthWith_10 (by decide)) (z_c (ok_icmp_ne dX3_worthWith_11 (by decide)) (z_c (ok_aload_n dX3_worthWith_14 rfl) (z_c (ok_getf (C := RX3) (T := TX3) (N := 13) rfl (by decide) zinX3 rfl zw_130 dX3_worthWith_15) (z_c (ok_iload dX3_worthWith_18) z_n))))))))))))
noncomputable def tX3_worthWith_1 : List (Nat × zF) := [(20, (zli4 2 1)), (21, (zst 1 z_iadd)), (22, (zal 0)), (23, (zri false)), (24, (zla4 0 1)), (25, (zgf 3 3)), (28, (zli4 1 1)), (29, (zst 2 (zp (.int (9))))), (31, (zst 1 z_imul)), (32, (zli4 3 1)), (33, (zst 1 z_iadd)), (34, (zal 0))]
theorem kX3_worthWith_1 : ∀ q ∈ tX3_worthWith_1, zOk zg iX3_worthWith q.1 q.2 := (z_c (ok_iload_n dX3_worthWith_20 rfl) (z_c (ok_iadd dX3_worthWith_21) (z_c (ok_iaload rfl dX3_worthWith_22) (z_c (ok_ireturn rfl dX3_worthWith_23) (z_c (ok_aload_n dX3_worthWith_24 rfl) (z_c (ok_getf (C := RX3) (T := TX3) (N := 13) rfl (by decide) zinX3 rfl zw_129 dX3_worthWith_25) (z_c (ok_iload_n dX3_worthWith_28 rfl) (z_c (ok_bipush (v := (9)) dX3_worthWith_29 (by decide)) (z_c (ok_imul dX3_worthWith_31) (z_c (ok_iload_n dX3_worthWith_32 rfl) (z_c (ok_iadd dX3_worthWith_33) (z_c (ok_iaload rfl dX3_worthWith_34) z_n))))))))))))
noncomputable def tX3_worthWith_2 : List (Nat × zF) := [(35, (zsi4 6 5 2)), (37, (zli4 5 2)), (39, (zst 1 (zp (.int ((-1)))))), (40, (z_ic_eq 51)), (43, (zli4 2 1)), (44, (zli4 3 1)), (45, (zst 1 z_ishr)), (46, (zst 1 (zp (.int (1))))), (47, (zst 1 z_iand)), (48, (z_if_eq 53)), (51, (zst 1 (zp (.int ((-1)))))), (52, (zri false))]
theorem kX3_worthWith_2 : ∀ q ∈ tX3_worthWith_2, zOk zg iX3_worthWith q.1 q.2 := (z_c (ok_istore dX3_worthWith_35) (z_c (ok_iload dX3_worthWith_37) (z_c (ok_iconst (v := (-1)) dX3_worthWith_39 (by decide)) (z_c (ok_icmp_eq dX3_worthWith_40 (by decide)) (z_c (ok_iload_n dX3_worthWith_43 rfl) (z_c (ok_iload_n dX3_worthWith_44 rfl) (z_c (ok_ishr dX3_worthWith_45) (z_c (ok_iconst (v := (1)) dX3_worthWith_46 (by decide)) (z_c (ok_iand dX3_worthWith_47) (z_c (ok_if_eq dX3_worthWith_48 (by decide)) (z_c (ok_iconst (v := (-1)) dX3_worthWith_51 (by decide)) (z_c (ok_ireturn rfl dX3_worthWith_52) z_n))))))))))))
noncomputable def tX3_worthWith_3 : List (Nat × zF) := [(53, (zst 3 (zp (.int (1000))))), (56, (zli4 5 2)), (58, (zst 1 z_isub)), (59, (zla4 0 1)), (60, (zgf 3 4)), (63, (zli4 4 2)), (65, (zli4 2 1)), (66, (zst 1 (zp (.int (1))))), (67, (zli4 3 1)), (68, (zst 1 z_ishl)), (69, (zst 1 z_ior)), (70, (zst 1 z_iadd))]
theorem kX3_worthWith_3 : ∀ q ∈ tX3_worthWith_3, zOk zg iX3_worthWith q.1 q.2 := (z_c (ok_sipush (v := (1000)) dX3_worthWith_53 (by decide)) (z_c (ok_iload dX3_worthWith_56) (z_c (ok_isub dX3_worthWith_58) (z_c (ok_aload_n dX3_worthWith_59 rfl) (z_c (ok_getf (C := RX3) (T := TX3) (N := 13) rfl (by decide) zinX3 rfl zw_130 dX3_worthWith_60) (z_c (ok_iload dX3_worthWith_63) (z_c (ok_iload_n dX3_worthWith_65 rfl) (z_c (ok_iconst (v := (1)) dX3_worthWith_66 (by decide)) (z_c (ok_iload_n dX3_worthWith_67 rfl) (z_c (ok_ishl dX3_worthWith_68) (z_c (ok_ior dX3_worthWith_69) (z_c (ok_iadd dX3_worthWith_70) z_n))))))))))))
noncomputable def tX3_worthWith_4 : List (Nat × zF) := [(71, (zal 0)), (72, (zst 1 z_iadd)), (73, (zri false))]
theorem kX3_worthWith_4 : ∀ q ∈ tX3_worthWith_4, zOk zg iX3_worthWith q.1 q.2 := (z_c (ok_iaload rfl dX3_worthWith_71) (z_c (ok_iadd dX3_worthWith_72) (z_c (ok_ireturn rfl dX3_worthWith_73) z_n)))
noncomputable def tX3_worthWith : zT := [(20, tX3_worthWith_0), (35, tX3_worthWith_1), (53, tX3_worthWith_2), (71, tX3_worthWith_3), (100000, tX3_worthWith_4)]
theorem kX3_worthWith : zTok zg iX3_worthWith tX3_worthWith := (z_t kX3_worthWith_0 (z_t kX3_worthWith_1 (z_t kX3_worthWith_2 (z_t kX3_worthWith_3 (z_t kX3_worthWith_4 z_tn)))))
theorem dX3_firstBest_0 : decode cX3_firstBest 0 = .ok (.aload_n 0, 1) := by decide +kernel
theorem dX3_firstBest_1 : decode cX3_firstBest 1 = .ok (.getfield 25, 3) := by decide +kernel
theorem dX3_firstBest_4 : decode cX3_firstBest 4 = .ok (.iload_n 1, 1) := by decide +kernel
theorem dX3_firstBest_5 : decode cX3_firstBest 5 = .ok (.sipush 512, 3) := by decide +kernel
theorem dX3_firstBest_8 : decode cX3_firstBest 8 = .ok (.imul, 1) := by decide +kernel
theorem dX3_firstBest_9 : decode cX3_firstBest 9 = .ok (.iload_n 2, 1) := by decide +kernel
theorem dX3_firstBest_10 : decode cX3_firstBest 10 = .ok (.iadd, 1) := by decide +kernel
theorem dX3_firstBest_11 : decode cX3_firstBest 11 = .ok (.iaload, 1) := by decide +kernel
theorem dX3_firstBest_12 : decode cX3_firstBest 12 = .ok (.istore_n 3, 1) := by decide +kernel
theorem dX3_firstBest_13 : decode cX3_firstBest 13 = .ok (.iconst (-1), 1) := by decide +kernel
theorem dX3_firstBest_14 : decode cX3_firstBest 14 = .ok (.istore 4, 2) := by decide +kernel
theorem dX3_firstBest_16 : decode cX3_firstBest 16 = .ok (.iload 4, 2) := by decide +kernel
theorem dX3_firstBest_18 : decode cX3_firstBest 18 = .ok (.aload_n 0, 1) := by decide +kernel
theorem dX3_firstBest_19 : decode cX3_firstBest 19 = .ok (.getfield 34, 3) := by decide +kernel
theorem dX3_firstBest_22 : decode cX3_firstBest 22 = .ok (.getfield 63, 3) := by decide +kernel
theorem dX3_firstBest_25 : decode cX3_firstBest 25 = .ok (.getfield 67, 3) := by decide +kernel
theorem dX3_firstBest_28 : decode cX3_firstBest 28 = .ok (.if_icmp .ge 24, 3) := by decide +kernel
theorem dX3_firstBest_31 : decode cX3_firstBest 31 = .ok (.aload_n 0, 1) := by decide +kernel
theorem dX3_firstBest_32 : decode cX3_firstBest 32 = .ok (.iload_n 1, 1) := by decide +kernel
theorem dX3_firstBest_33 : decode cX3_firstBest 33 = .ok (.iload_n 2, 1) := by decide +kernel
theorem dX3_firstBest_34 : decode cX3_firstBest 34 = .ok (.iload 4, 2) := by decide +kernel
theorem dX3_firstBest_36 : decode cX3_firstBest 36 = .ok (.invokevirtual 146, 3) := by decide +kernel
theorem dX3_firstBest_39 : decode cX3_firstBest 39 = .ok (.iload_n 3, 1) := by decide +kernel
theorem dX3_firstBest_40 : decode cX3_firstBest 40 = .ok (.if_icmp .ne 6, 3) := by decide +kernel
theorem dX3_firstBest_43 : decode cX3_firstBest 43 = .ok (.iload 4, 2) := by decide +kernel
theorem dX3_firstBest_45 : decode cX3_firstBest 45 = .ok (.ireturn, 1) := by decide +kernel
theorem dX3_firstBest_46 : decode cX3_firstBest 46 = .ok (.iinc 4 1, 3) := by decide +kernel
theorem dX3_firstBest_49 : decode cX3_firstBest 49 = .ok (.goto (-33), 3) := by decide +kernel
theorem dX3_firstBest_52 : decode cX3_firstBest 52 = .ok (.iconst (-1), 1) := by decide +kernel
theorem dX3_firstBest_53 : decode cX3_firstBest 53 = .ok (.ireturn, 1) := by decide +kernel
noncomputable def tX3_firstBest_0 : List (Nat × zF) := [(0, (zla4 0 1)), (1, (zgf 3 4)), (4, (zli4 1 1)), (5, (zst 3 (zp (.int (512))))), (8, (zst 1 z_imul)), (9, (zli4 2 1)), (10, (zst 1 z_iadd)), (11, (zal 0)), (12, (zsi4 5 3 1)), (13, (zst 1 (zp (.int ((-1)))))), (14, (zsi4 5 4 2)), (16, (zli4 4 2))]
theorem kX3_firstBest_0 : ∀ q ∈ tX3_firstBest_0, zOk zg iX3_firstBest q.1 q.2 := (z_c (ok_aload_n dX3_firstBest_0 rfl) (z_c (ok_getf (C := RX3) (T := TX3) (N := 13) rfl (by decide) zinX3 rfl zw_130 dX3_firstBest_1) (z_c (ok_iload_n dX3_firstBest_4 rfl) (z_c (ok_sipush (v := (512)) dX3_firstBest_5 (by decide)) (z_c (ok_imul dX3_firstBest_8) (z_c (ok_iload_n dX3_firstBest_9 rfl) (z_c (ok_iadd dX3_firstBest_10) (z_c (ok_iaload rfl dX3_firstBest_11) (z_c (ok_istore_n dX3_firstBest_12 rfl) (z_c (ok_iconst (v := (-1)) dX3_firstBest_13 (by decide)) (z_c (ok_istore dX3_firstBest_14) (z_c (ok_iload dX3_firstBest_16) z_n))))))))))))
noncomputable def tX3_firstBest_1 : List (Nat × zF) := [(18, (zla4 0 1)), (19, (zgf 3 0)), (22, (zgf 0 0)), (25, (zgf 4 7)), (28, (z_ic_ge 52)), (31, (zla4 0 1)), (32, (zli4 1 1)), (33, (zli4 2 1)), (34, (zli4 4 2)), (36, (zcv 36 3 3)), (39, (zli4 3 1)), (40, (z_ic_ne 46))]
theorem kX3_firstBest_1 : ∀ q ∈ tX3_firstBest_1, zOk zg iX3_firstBest q.1 q.2 := (z_c (ok_aload_n dX3_firstBest_18 rfl) (z_c (ok_getf (C := RX3) (T := TX3) (N := 13) rfl (by decide) zinX3 rfl zw_133 dX3_firstBest_19) (z_c (ok_getf (C := RX0) (T := TX0) (N := 5) rfl (by decide) zinX0 rfl zw_141 dX3_firstBest_22) (z_c (ok_getf (C := RX4) (T := TX4) (N := 18) rfl (by decide) zinX4 rfl zw_142 dX3_firstBest_25) (z_c (ok_icmp_ge dX3_firstBest_28 (by decide)) (z_c (ok_aload_n dX3_firstBest_31 rfl) (z_c (ok_iload_n dX3_firstBest_32 rfl) (z_c (ok_iload_n dX3_firstBest_33 rfl) (z_c (ok_iload dX3_firstBest_34) (z_c (ok_callV zcal_36 (q := (RX3, TX3, 13)) rfl zw_177 zw_178 zw_179 dX3_firstBest_36) (z_c (ok_iload_n dX3_firstBest_39 rfl) (z_c (ok_icmp_ne dX3_firstBest_40 (by decide)) z_n))))))))))))
noncomputable def tX3_firstBest_2 : List (Nat × zF) := [(43, (zli4 4 2)), (45, (zri false)), (46, (zin4 5 4 (1))), (49, (zgt 16)), (52, (zst 1 (zp (.int ((-1)))))), (53, (zri false))]
theorem kX3_firstBest_2 : ∀ q ∈ tX3_firstBest_2, zOk zg iX3_firstBest q.1 q.2 := (z_c (ok_iload dX3_firstBest_43) (z_c (ok_ireturn rfl dX3_firstBest_45) (z_c (ok_iinc (v := (1)) dX3_firstBest_46 (by decide)) (z_c (ok_goto dX3_firstBest_49 (by decide)) (z_c (ok_iconst (v := (-1)) dX3_firstBest_52 (by decide)) (z_c (ok_ireturn rfl dX3_firstBest_53) z_n))))))
noncomputable def tX3_firstBest : zT := [(18, tX3_firstBest_0), (43, tX3_firstBest_1), (100000, tX3_firstBest_2)]
theorem kX3_firstBest : zTok zg iX3_firstBest tX3_firstBest := (z_t kX3_firstBest_0 (z_t kX3_firstBest_1 (z_t kX3_firstBest_2 z_tn)))
theorem dX3_rowsToHome_0 : decode cX3_rowsToHome 0 = .ok (.aload_n 1, 1) := by decide +kernel
theorem dX3_rowsToHome_1 : decode cX3_rowsToHome 1 = .ok (.getfield 139, 3) := by decide +kernel
theorem dX3_rowsToHome_4 : decode cX3_rowsToHome 4 = .ok (.iload_n 2, 1) := by decide +kernel
theorem dX3_rowsToHome_5 : decode cX3_rowsToHome 5 = .ok (.iaload, 1) := by decide +kernel
theorem dX3_rowsToHome_6 : decode cX3_rowsToHome 6 = .ok (.istore_n 3, 1) := by decide +kernel
theorem dX3_rowsToHome_7 : decode cX3_rowsToHome 7 = .ok (.aload_n 0, 1) := by decide +kernel
theorem dX3_rowsToHome_8 : decode cX3_rowsToHome 8 = .ok (.getfield 34, 3) := by decide +kernel
theorem dX3_rowsToHome_11 : decode cX3_rowsToHome 11 = .ok (.getfield 63, 3) := by decide +kernel
theorem dX3_rowsToHome_14 : decode cX3_rowsToHome 14 = .ok (.getfield 153, 3) := by decide +kernel
theorem dX3_rowsToHome_17 : decode cX3_rowsToHome 17 = .ok (.iload_n 2, 1) := by decide +kernel
theorem dX3_rowsToHome_18 : decode cX3_rowsToHome 18 = .ok (.iaload, 1) := by decide +kernel
theorem dX3_rowsToHome_19 : decode cX3_rowsToHome 19 = .ok (.istore 4, 2) := by decide +kernel
theorem dX3_rowsToHome_21 : decode cX3_rowsToHome 21 = .ok (.aload_n 0, 1) := by decide +kernel
theorem dX3_rowsToHome_22 : decode cX3_rowsToHome 22 = .ok (.getfield 34, 3) := by decide +kernel
theorem dX3_rowsToHome_25 : decode cX3_rowsToHome 25 = .ok (.iload_n 3, 1) := by decide +kernel
theorem dX3_rowsToHome_26 : decode cX3_rowsToHome 26 = .ok (.iload 4, 2) := by decide +kernel
theorem dX3_rowsToHome_28 : decode cX3_rowsToHome 28 = .ok (.aload_n 0, 1) := by decide +kernel
theorem dX3_rowsToHome_29 : decode cX3_rowsToHome 29 = .ok (.getfield 34, 3) := by decide +kernel
theorem dX3_rowsToHome_32 : decode cX3_rowsToHome 32 = .ok (.aload_n 1, 1) := by decide +kernel
theorem dX3_rowsToHome_33 : decode cX3_rowsToHome 33 = .ok (.iconst (-1), 1) := by decide +kernel
theorem dX3_rowsToHome_34 : decode cX3_rowsToHome 34 = .ok (.invokevirtual 156, 3) := by decide +kernel
theorem dX3_rowsToHome_37 : decode cX3_rowsToHome 37 = .ok (.invokevirtual 160, 3) := by decide +kernel
theorem dX3_rowsToHome_40 : decode cX3_rowsToHome 40 = .ok (.iload 4, 2) := by decide +kernel
theorem dX3_rowsToHome_42 : decode cX3_rowsToHome 42 = .ok (.if_icmp .ne 16, 3) := by decide +kernel
theorem dX3_rowsToHome_45 : decode cX3_rowsToHome 45 = .ok (.aload_n 0, 1) := by decide +kernel
theorem dX3_rowsToHome_46 : decode cX3_rowsToHome 46 = .ok (.getfield 34, 3) := by decide +kernel
theorem dX3_rowsToHome_49 : decode cX3_rowsToHome 49 = .ok (.getfield 63, 3) := by decide +kernel
theorem dX3_rowsToHome_52 : decode cX3_rowsToHome 52 = .ok (.getfield 67, 3) := by decide +kernel
theorem dX3_rowsToHome_55 : decode cX3_rowsToHome 55 = .ok (.goto 4, 3) := by decide +kernel
theorem dX3_rowsToHome_58 : decode cX3_rowsToHome 58 = .ok (.iconst 0, 1) := by decide +kernel
theorem dX3_rowsToHome_59 : decode cX3_rowsToHome 59 = .ok (.istore 5, 2) := by decide +kernel
theorem dX3_rowsToHome_61 : decode cX3_rowsToHome 61 = .ok (.iconst 0, 1) := by decide +kernel
theorem dX3_rowsToHome_62 : decode cX3_rowsToHome 62 = .ok (.istore 6, 2) := by decide +kernel
theorem dX3_rowsToHome_64 : decode cX3_rowsToHome 64 = .ok (.iconst 0, 1) := by decide +kernel
theorem dX3_rowsToHome_65 : decode cX3_rowsToHome 65 = .ok (.istore 7, 2) := by decide +kernel
theorem dX3_rowsToHome_67 : decode cX3_rowsToHome 67 = .ok (.iload 7, 2) := by decide +kernel
theorem dX3_rowsToHome_69 : decode cX3_rowsToHome 69 = .ok (.aload_n 0, 1) := by decide +kernel
theorem dX3_rowsToHome_70 : decode cX3_rowsToHome 70 = .ok (.getfield 34, 3) := by decide +kernel
theorem dX3_rowsToHome_73 : decode cX3_rowsToHome 73 = .ok (.getfield 63, 3) := by decide +kernel
theorem dX3_rowsToHome_76 : decode cX3_rowsToHome 76 = .ok (.getfield 67, 3) := by decide +kernel
theorem dX3_rowsToHome_79 : decode cX3_rowsToHome 79 = .ok (.if_icmp .ge 37, 3) := by decide +kernel
theorem dX3_rowsToHome_82 : decode cX3_rowsToHome 82 = .ok (.aload_n 0, 1) := by decide +kernel
theorem dX3_rowsToHome_83 : decode cX3_rowsToHome 83 = .ok (.getfield 34, 3) := by decide +kernel
theorem dX3_rowsToHome_86 : decode cX3_rowsToHome 86 = .ok (.iload_n 3, 1) := by decide +kernel
theorem dX3_rowsToHome_87 : decode cX3_rowsToHome 87 = .ok (.iload 4, 2) := by decide +kernel
theorem dX3_rowsToHome_89 : decode cX3_rowsToHome 89 = .ok (.aload_n 0, 1) := by decide +kernel
theorem dX3_rowsToHome_90 : decode cX3_rowsToHome 90 = .ok (.getfield 34, 3) := by decide +kernel
theorem dX3_rowsToHome_93 : decode cX3_rowsToHome 93 = .ok (.aload_n 1, 1) := by decide +kernel
theorem dX3_rowsToHome_94 : decode cX3_rowsToHome 94 = .ok (.iload 7, 2) := by decide +kernel
theorem dX3_rowsToHome_96 : decode cX3_rowsToHome 96 = .ok (.invokevirtual 156, 3) := by decide +kernel
theorem dX3_rowsToHome_99 : decode cX3_rowsToHome 99 = .ok (.invokevirtual 160, 3) := by decide +kernel
theorem dX3_rowsToHome_102 : decode cX3_rowsToHome 102 = .ok (.iload 4, 2) := by decide +kernel
theorem dX3_rowsToHome_104 : decode cX3_rowsToHome 104 = .ok (.if_icmp .ne 6, 3) := by decide +kernel
theorem dX3_rowsToHome_107 : decode cX3_rowsToHome 107 = .ok (.iinc 6 1, 3) := by decide +kernel
theorem dX3_rowsToHome_110 : decode cX3_rowsToHome 110 = .ok (.iinc 7 1, 3) := by decide +kernel
theorem dX3_rowsToHome_113 : decode cX3_rowsToHome 113 = .ok (.goto (-46), 3) := by decide +kernel
theorem dX3_rowsToHome_116 : decode cX3_rowsToHome 116 = .ok (.bipush 100, 2) := by decide +kernel
theorem dX3_rowsToHome_118 : decode cX3_rowsToHome 118 = .ok (.aload_n 0, 1) := by decide +kernel
theorem dX3_rowsToHome_119 : decode cX3_rowsToHome 119 = .ok (.getfield 34, 3) := by decide +kernel
theorem dX3_rowsToHome_122 : decode cX3_rowsToHome 122 = .ok (.getfield 63, 3) := by decide +kernel
theorem dX3_rowsToHome_125 : decode cX3_rowsToHome 125 = .ok (.getfield 163, 3) := by decide +kernel
theorem dX3_rowsToHome_128 : decode cX3_rowsToHome 128 = .ok (.isub, 1) := by decide +kernel
theorem dX3_rowsToHome_129 : decode cX3_rowsToHome 129 = .ok (.iload 5, 2) := by decide +kernel
theorem dX3_rowsToHome_131 : decode cX3_rowsToHome 131 = .ok (.imul, 1) := by decide +kernel
theorem dX3_rowsToHome_132 : decode cX3_rowsToHome 132 = .ok (.aload_n 0, 1) := by decide +kernel
theorem dX3_rowsToHome_133 : decode cX3_rowsToHome 133 = .ok (.getfield 34, 3) := by decide +kernel
theorem dX3_rowsToHome_136 : decode cX3_rowsToHome 136 = .ok (.getfield 63, 3) := by decide +kernel
theorem dX3_rowsToHome_139 : decode cX3_rowsToHome 139 = .ok (.getfield 163, 3) := by decide +kernel
theorem dX3_rowsToHome_142 : decode cX3_rowsToHome 142 = .ok (.iload 6, 2) := by decide +kernel
theorem dX3_rowsToHome_144 : decode cX3_rowsToHome 144 = .ok (.imul, 1) := by decide +kernel
theorem dX3_rowsToHome_145 : decode cX3_rowsToHome 145 = .ok (.iadd, 1) := by decide +kernel
theorem dX3_rowsToHome_146 : decode cX3_rowsToHome 146 = .ok (.ireturn, 1) := by decide +kernel
noncomputable def tX3_rowsToHome_0 : List (Nat × zF) := [(0, (zla4 1 1)), (1, (zgf 8 3)), (4, (zli4 2 1)), (5, (zal 0)), (6, (zsi4 8 3 1)), (7, (zla4 0 1)), (8, (zgf 3 0)), (11, (zgf 0 0)), (14, (zgf 4 16)), (17, (zli4 2 1)), (18, (zal 0)), (19, (zsi4 8 4 2))]
theorem kX3_rowsToHome_0 : ∀ q ∈ tX3_rowsToHome_0, zOk zg iX3_rowsToHome q.1 q.2 := (z_c (ok_aload_n dX3_rowsToHome_0 rfl) (z_c (ok_getf (C := RX8) (T := TX8) (N := 6) rfl (by decide) zinX8 rfl zw_175 dX3_rowsToHome_1) (z_c (ok_iload_n dX3_rowsToHome_4 rfl) (z_c (ok_iaload rfl dX3_rowsToHome_5) (z_c (ok_istore_n dX3_rowsToHome_6 rfl) (z_c (ok_aload_n dX3_rowsToHome_7 rfl) (z_c (ok_getf (C := RX3) (T := TX3) (N := 13) rfl (by decide) zinX3 rfl zw_133 dX3_rowsToHome_8) (z_c (ok_getf (C := RX0) (T := TX0) (N := 5) rfl (by decide) zinX0 rfl zw_141 dX3_rowsToHome_11) (z_c (ok_getf (C := RX4) (T := TX4) (N := 18) rfl (by decide) zinX4 rfl zw_181 dX3_rowsToHome_14) (z_c (ok_iload_n dX3_rowsToHome_17 rfl) (z_c (ok_iaload rfl dX3_rowsToHome_18) (z_c (ok_istore dX3_rowsToHome_19) z_n))))))))))))
noncomputable def tX3_rowsToHome_1 : List (Nat × zF) := [(21, (zla4 0 1)), (22, (zgf 3 0)), (25, (zli4 3 1)), (26, (zli4 4 2)), (28, (zla4 0 1)), (29, (zgf 3 0)), (32, (zla4 1 1)), (33, (zst 1 (zp (.int ((-1)))))), (34, (zcv 3 2 0)), (37, (zcv 9 3 0)), (40, (zli4 4 2)), (42, (z_ic_ne 58))]
theorem kX3_rowsToHome_1 : ∀ q ∈ tX3_rowsToHome_1, zOk zg iX3_rowsToHome q.1 q.2 := (z_c (ok_aload_n dX3_rowsToHome_21 rfl) (z_c (ok_getf (C := RX3) (T := TX3) (N := 13) rfl (by decide) zinX3 rfl zw_133 dX3_rowsToHome_22) (z_c (ok_iload_n dX3_rowsToHome_25 rfl) (z_c (ok_iload dX3_rowsToHome_26) (z_c (ok_aload_n dX3_rowsToHome_28 rfl) (z_c (ok_getf (C := RX3) (T := TX3) (N := 13) rfl (by decide) zinX3 rfl zw_133 dX3_rowsToHome_29) (z_c (ok_aload_n dX3_rowsToHome_32 rfl) (z_c (ok_iconst (v := (-1)) dX3_rowsToHome_33 (by decide)) (z_c (ok_callV zcal_3 (q := (RX0, TX0, 5)) rfl zw_182 zw_12 zw_13 dX3_rowsToHome_34) (z_c (ok_callV zcal_9 (q := (RX0, TX0, 5)) rfl zw_183 zw_18 zw_19 dX3_rowsToHome_37) (z_c (ok_iload dX3_rowsToHome_40) (z_c (ok_icmp_ne dX3_rowsToHome_42 (by decide)) z_n))))))))))))
noncomputable def tX3_rowsToHome_2 : List (Nat × zF) := [(45, (zla4 0 1)), (46, (zgf 3 0)), (49, (zgf 0 0)), (52, (zgf 4 7)), (55, (zgt 59)), (58, (zst 1 (zp (.int (0))))), (59, (zsi4 8 5 2)), (61, (zst 1 (zp (.int (0))))), (62, (zsi4 8 6 2)), (64, (zst 1 (zp (.int (0))))), (65, (zsi4 8 7 2)), (67, (zli4 7 2))]
theorem kX3_rowsToHome_2 : ∀ q ∈ tX3_rowsToHome_2, zOk zg iX3_rowsToHome q.1 q.2 := (z_c (ok_aload_n dX3_rowsToHome_45 rfl) (z_c (ok_getf (C := RX3) (T := TX3) (N := 13) rfl (by decide) zinX3 rfl zw_133 dX3_rowsToHome_46) (z_c (ok_getf (C := RX0) (T := TX0) (N := 5) rfl (by decide) zinX0 rfl zw_141 dX3_rowsToHome_49) (z_c (ok_getf (C := RX4) (T := TX4) (N := 18) rfl (by decide) zinX4 rfl zw_142 dX3_rowsToHome_52) (z_c (ok_goto dX3_rowsToHome_55 (by decide)) (z_c (ok_iconst (v := (0)) dX3_rowsToHome_58 (by decide)) (z_c (ok_istore dX3_rowsToHome_59) (z_c (ok_iconst (v := (0)) dX3_rowsToHome_61 (by decide)) (z_c (ok_istore dX3_rowsToHome_62) (z_c (ok_iconst (v := (0)) dX3_rowsToHome_64 (by decide)) (z_c (ok_istore dX3_rowsToHome_65) (z_c (ok_iload dX3_rowsToHome_67) z_n))))))))))))
noncomputable def tX3_rowsToHome_3 : List (Nat × zF) := [(69, (zla4 0 1)), (70, (zgf 3 0)), (73, (zgf 0 0)), (76, (zgf 4 7)), (79, (z_ic_ge 116)), (82, (zla4 0 1)), (83, (zgf 3 0)), (86, (zli4 3 1)), (87, (zli4 4 2)), (89, (zla4 0 1)), (90, (zgf 3 0)), (93, (zla4 1 1))]
theorem kX3_rowsToHome_3 : ∀ q ∈ tX3_rowsToHome_3, zOk zg iX3_rowsToHome q.1 q.2 := (z_c (ok_aload_n dX3_rowsToHome_69 rfl) (z_c (ok_getf (C := RX3) (T := TX3) (N := 13) rfl (by decide) zinX3 rfl zw_133 dX3_rowsToHome_70) (z_c (ok_getf (C := RX0) (T := TX0) (N := 5) rfl (by decide) zinX0 rfl zw_141 dX3_rowsToHome_73) (z_c (ok_getf (C := RX4) (T := TX4) (N := 18) rfl (by decide) zinX4 rfl zw_142 dX3_rowsToHome_76) (z_c (ok_icmp_ge dX3_rowsToHome_79 (by decide)) (z_c (ok_aload_n dX3_rowsToHome_82 rfl) (z_c (ok_getf (C := RX3) (T := TX3) (N := 13) rfl (by decide) zinX3 rfl zw_133 dX3_rowsToHome_83) (z_c (ok_iload_n dX3_rowsToHome_86 rfl) (z_c (ok_iload dX3_rowsToHome_87) (z_c (ok_aload_n dX3_rowsToHome_89 rfl) (z_c (ok_getf (C := RX3) (T := TX3) (N := 13) rfl (by decide) zinX3 rfl zw_133 dX3_rowsToHome_90) (z_c (ok_aload_n dX3_rowsToHome_93 rfl) z_n))))))))))))
noncomputable def tX3_rowsToHome_4 : List (Nat × zF) := [(94, (zli4 7 2)), (96, (zcv 3 2 0)), (99, (zcv 9 3 0)), (102, (zli4 4 2)), (104, (z_ic_ne 110)), (107, (zin4 8 6 (1))), (110, (zin4 8 7 (1))), (113, (zgt 67)), (116, (zst 2 (zp (.int (100))))), (118, (zla4 0 1)), (119, (zgf 3 0)), (122, (zgf 0 0))]
theorem kX3_rowsToHome_4 : ∀ q ∈ tX3_rowsToHome_4, zOk zg iX3_rowsToHome q.1 q.2 := (z_c (ok_iload dX3_rowsToHome_94) (z_c (ok_callV zcal_3 (q := (RX0, TX0, 5)) rfl zw_182 zw_12 zw_13 dX3_rowsToHome_96) (z_c (ok_callV zcal_9 (q := (RX0, TX0, 5)) rfl zw_183 zw_18 zw_19 dX3_rowsToHome_99) (z_c (ok_iload dX3_rowsToHome_102) (z_c (ok_icmp_ne dX3_rowsToHome_104 (by decide)) (z_c (ok_iinc (v := (1)) dX3_rowsToHome_107 (by decide)) (z_c (ok_iinc (v := (1)) dX3_rowsToHome_110 (by decide)) (z_c (ok_goto dX3_rowsToHome_113 (by decide)) (z_c (ok_bipush (v := (100)) dX3_rowsToHome_116 (by decide)) (z_c (ok_aload_n dX3_rowsToHome_118 rfl) (z_c (ok_getf (C := RX3) (T := TX3) (N := 13) rfl (by decide) zinX3 rfl zw_133 dX3_rowsToHome_119) (z_c (ok_getf (C := RX0) (T := TX0) (N := 5) rfl (by decide) zinX0 rfl zw_141 dX3_rowsToHome_122) z_n))))))))))))
noncomputable def tX3_rowsToHome_5 : List (Nat × zF) := [(125, (zgf 4 4)), (128, (zst 1 z_isub)), (129, (zli4 5 2)), (131, (zst 1 z_imul)), (132, (zla4 0 1)), (133, (zgf 3 0)), (136, (zgf 0 0)), (139, (zgf 4 4)), (142, (zli4 6 2)), (144, (zst 1 z_imul)), (145, (zst 1 z_iadd)), (146, (zri false))]
theorem kX3_rowsToHome_5 : ∀ q ∈ tX3_rowsToHome_5, zOk zg iX3_rowsToHome q.1 q.2 := (z_c (ok_getf (C := RX4) (T := TX4) (N := 18) rfl (by decide) zinX4 rfl zw_184 dX3_rowsToHome_125) (z_c (ok_isub dX3_rowsToHome_128) (z_c (ok_iload dX3_rowsToHome_129) (z_c (ok_imul dX3_rowsToHome_131) (z_c (ok_aload_n dX3_rowsToHome_132 rfl) (z_c (ok_getf (C := RX3) (T := TX3) (N := 13) rfl (by decide) zinX3 rfl zw_133 dX3_rowsToHome_133) (z_c (ok_getf (C := RX0) (T := TX0) (N := 5) rfl (by decide) zinX0 rfl zw_141 dX3_rowsToHome_136) (z_c (ok_getf (C := RX4) (T := TX4) (N := 18) rfl (by decide) zinX4 rfl zw_184 dX3_rowsToHome_139) (z_c (ok_iload dX3_rowsToHome_142) (z_c (ok_imul dX3_rowsToHome_144) (z_c (ok_iadd dX3_rowsToHome_145) (z_c (ok_ireturn rfl dX3_rowsToHome_146) z_n))))))))))))
noncomputable def tX3_rowsToHome : zT := [(21, tX3_rowsToHome_0), (45, tX3_rowsToHome_1), (69, tX3_rowsToHome_2), (94, tX3_rowsToHome_3), (125, tX3_rowsToHome_4), (100000, tX3_rowsToHome_5)]
theorem kX3_rowsToHome : zTok zg iX3_rowsToHome tX3_rowsToHome := (z_t kX3_rowsToHome_0 (z_t kX3_rowsToHome_1 (z_t kX3_rowsToHome_2 (z_t kX3_rowsToHome_3 (z_t kX3_rowsToHome_4 (z_t kX3_rowsToHome_5 z_tn))))))
