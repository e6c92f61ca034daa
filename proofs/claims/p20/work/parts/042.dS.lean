theorem dX4_init_0 : decode cX4_init 0 = .ok (.aload_n 0, 1) := by decide +kernel
theorem dX4_init_1 : decode cX4_init 1 = .ok (.invokespecial 1, 3) := by decide +kernel
theorem dX4_init_4 : decode cX4_init 4 = .ok (.aload_n 0, 1) := by decide +kernel
theorem dX4_init_5 : decode cX4_init 5 = .ok (.iconst 0, 1) := by decide +kernel
theorem dX4_init_6 : decode cX4_init 6 = .ok (.anewarray 7, 3) := by decide +kernel
theorem dX4_init_9 : decode cX4_init 9 = .ok (.putfield 9, 3) := by decide +kernel
theorem dX4_init_12 : decode cX4_init 12 = .ok (.aload_n 0, 1) := by decide +kernel
theorem dX4_init_13 : decode cX4_init 13 = .ok (.bipush 16, 2) := by decide +kernel
theorem dX4_init_15 : decode cX4_init 15 = .ok (.newarray .boolean, 2) := by decide +kernel
theorem dX4_init_17 : decode cX4_init 17 = .ok (.putfield 15, 3) := by decide +kernel
theorem dX4_init_20 : decode cX4_init 20 = .ok (.aload_n 0, 1) := by decide +kernel
theorem dX4_init_21 : decode cX4_init 21 = .ok (.iconst 3, 1) := by decide +kernel
theorem dX4_init_22 : decode cX4_init 22 = .ok (.putfield 19, 3) := by decide +kernel
theorem dX4_init_25 : decode cX4_init 25 = .ok (.aload_n 0, 1) := by decide +kernel
theorem dX4_init_26 : decode cX4_init 26 = .ok (.bipush 16, 2) := by decide +kernel
theorem dX4_init_28 : decode cX4_init 28 = .ok (.newarray .int, 2) := by decide +kernel
theorem dX4_init_30 : decode cX4_init 30 = .ok (.putfield 23, 3) := by decide +kernel
theorem dX4_init_33 : decode cX4_init 33 = .ok (.aload_n 0, 1) := by decide +kernel
theorem dX4_init_34 : decode cX4_init 34 = .ok (.bipush 16, 2) := by decide +kernel
theorem dX4_init_36 : decode cX4_init 36 = .ok (.newarray .int, 2) := by decide +kernel
theorem dX4_init_38 : decode cX4_init 38 = .ok (.putfield 26, 3) := by decide +kernel
theorem dX4_init_41 : decode cX4_init 41 = .ok (.return_, 1) := by decide +kernel
theorem dX4_uses_0 : decode cX4_uses 0 = .ok (.aload_n 0, 1) := by decide +kernel
theorem dX4_uses_1 : decode cX4_uses 1 = .ok (.getfield 9, 3) := by decide +kernel
theorem dX4_uses_4 : decode cX4_uses 4 = .ok (.iload_n 1, 1) := by decide +kernel
theorem dX4_uses_5 : decode cX4_uses 5 = .ok (.aaload, 1) := by decide +kernel
theorem dX4_uses_6 : decode cX4_uses 6 = .ok (.iconst 1, 1) := by decide +kernel
theorem dX4_uses_7 : decode cX4_uses 7 = .ok (.iaload, 1) := by decide +kernel
theorem dX4_uses_8 : decode cX4_uses 8 = .ok (.iload_n 2, 1) := by decide +kernel
theorem dX4_uses_9 : decode cX4_uses 9 = .ok (.if_icmp .eq 15, 3) := by decide +kernel
theorem dX4_uses_12 : decode cX4_uses 12 = .ok (.aload_n 0, 1) := by decide +kernel
theorem dX4_uses_13 : decode cX4_uses 13 = .ok (.getfield 9, 3) := by decide +kernel
theorem dX4_uses_16 : decode cX4_uses 16 = .ok (.iload_n 1, 1) := by decide +kernel
theorem dX4_uses_17 : decode cX4_uses 17 = .ok (.aaload, 1) := by decide +kernel
theorem dX4_uses_18 : decode cX4_uses 18 = .ok (.iconst 2, 1) := by decide +kernel
theorem dX4_uses_19 : decode cX4_uses 19 = .ok (.iaload, 1) := by decide +kernel
theorem dX4_uses_20 : decode cX4_uses 20 = .ok (.iload_n 2, 1) := by decide +kernel
theorem dX4_uses_21 : decode cX4_uses 21 = .ok (.if_icmp .ne 7, 3) := by decide +kernel
theorem dX4_uses_24 : decode cX4_uses 24 = .ok (.iconst 1, 1) := by decide +kernel
theorem dX4_uses_25 : decode cX4_uses 25 = .ok (.goto 4, 3) := by decide +kernel
theorem dX4_uses_28 : decode cX4_uses 28 = .ok (.iconst 0, 1) := by decide +kernel
theorem dX4_uses_29 : decode cX4_uses 29 = .ok (.ireturn, 1) := by decide +kernel
theorem dX4_lives_0 : decode cX4_lives 0 = .ok (.iload_n 2, 1) := by decide +kernel
theorem dX4_lives_1 : decode cX4_lives 1 = .ok (.iconst 1, 1) := by decide +kernel
theorem dX4_lives_2 : decode cX4_lives 2 = .ok (.iadd, 1) := by decide +kernel
theorem dX4_lives_3 : decode cX4_lives 3 = .ok (.istore_n 3, 1) := by decide +kernel
theorem dX4_lives_4 : decode cX4_lives 4 = .ok (.iload_n 3, 1) := by decide +kernel
theorem dX4_lives_5 : decode cX4_lives 5 = .ok (.aload_n 0, 1) := by decide +kernel
theorem dX4_lives_6 : decode cX4_lives 6 = .ok (.getfield 9, 3) := by decide +kernel
theorem dX4_lives_9 : decode cX4_lives 9 = .ok (.arraylength, 1) := by decide +kernel
theorem dX4_lives_10 : decode cX4_lives 10 = .ok (.if_icmp .ge 34, 3) := by decide +kernel
theorem dX4_lives_13 : decode cX4_lives 13 = .ok (.aload_n 0, 1) := by decide +kernel
theorem dX4_lives_14 : decode cX4_lives 14 = .ok (.iload_n 3, 1) := by decide +kernel
theorem dX4_lives_15 : decode cX4_lives 15 = .ok (.iload_n 1, 1) := by decide +kernel
theorem dX4_lives_16 : decode cX4_lives 16 = .ok (.invokevirtual 29, 3) := by decide +kernel
theorem dX4_lives_19 : decode cX4_lives 19 = .ok (.ifCond .eq 5, 3) := by decide +kernel
theorem dX4_lives_22 : decode cX4_lives 22 = .ok (.iconst 1, 1) := by decide +kernel
theorem dX4_lives_23 : decode cX4_lives 23 = .ok (.ireturn, 1) := by decide +kernel
theorem dX4_lives_24 : decode cX4_lives 24 = .ok (.aload_n 0, 1) := by decide +kernel
theorem dX4_lives_25 : decode cX4_lives 25 = .ok (.getfield 9, 3) := by decide +kernel
theorem dX4_lives_28 : decode cX4_lives 28 = .ok (.iload_n 3, 1) := by decide +kernel
theorem dX4_lives_29 : decode cX4_lives 29 = .ok (.aaload, 1) := by decide +kernel
theorem dX4_lives_30 : decode cX4_lives 30 = .ok (.iconst 0, 1) := by decide +kernel
theorem dX4_lives_31 : decode cX4_lives 31 = .ok (.iaload, 1) := by decide +kernel
theorem dX4_lives_32 : decode cX4_lives 32 = .ok (.iload_n 1, 1) := by decide +kernel
theorem dX4_lives_33 : decode cX4_lives 33 = .ok (.if_icmp .ne 5, 3) := by decide +kernel
theorem dX4_lives_36 : decode cX4_lives 36 = .ok (.iconst 0, 1) := by decide +kernel
theorem dX4_lives_37 : decode cX4_lives 37 = .ok (.ireturn, 1) := by decide +kernel
theorem dX4_lives_38 : decode cX4_lives 38 = .ok (.iinc 3 1, 3) := by decide +kernel
theorem dX4_lives_41 : decode cX4_lives 41 = .ok (.goto (-37), 3) := by decide +kernel
theorem dX4_lives_44 : decode cX4_lives 44 = .ok (.aload_n 0, 1) := by decide +kernel
theorem dX4_lives_45 : decode cX4_lives 45 = .ok (.getfield 15, 3) := by decide +kernel
theorem dX4_lives_48 : decode cX4_lives 48 = .ok (.iload_n 1, 1) := by decide +kernel
theorem dX4_lives_49 : decode cX4_lives 49 = .ok (.baload, 1) := by decide +kernel
theorem dX4_lives_50 : decode cX4_lives 50 = .ok (.ireturn, 1) := by decide +kernel
theorem dX4_alive_0 : decode cX4_alive 0 = .ok (.iconst 0, 1) := by decide +kernel
theorem dX4_alive_1 : decode cX4_alive 1 = .ok (.istore_n 2, 1) := by decide +kernel
theorem dX4_alive_2 : decode cX4_alive 2 = .ok (.iconst 0, 1) := by decide +kernel
theorem dX4_alive_3 : decode cX4_alive 3 = .ok (.istore_n 3, 1) := by decide +kernel
theorem dX4_alive_4 : decode cX4_alive 4 = .ok (.iload_n 3, 1) := by decide +kernel
theorem dX4_alive_5 : decode cX4_alive 5 = .ok (.bipush 16, 2) := by decide +kernel
theorem dX4_alive_7 : decode cX4_alive 7 = .ok (.if_icmp .ge 26, 3) := by decide +kernel
theorem dX4_alive_10 : decode cX4_alive 10 = .ok (.iload_n 2, 1) := by decide +kernel
theorem dX4_alive_11 : decode cX4_alive 11 = .ok (.aload_n 0, 1) := by decide +kernel
theorem dX4_alive_12 : decode cX4_alive 12 = .ok (.iload_n 3, 1) := by decide +kernel
theorem dX4_alive_13 : decode cX4_alive 13 = .ok (.iload_n 1, 1) := by decide +kernel
theorem dX4_alive_14 : decode cX4_alive 14 = .ok (.invokevirtual 33, 3) := by decide +kernel
theorem dX4_alive_17 : decode cX4_alive 17 = .ok (.ifCond .eq 7, 3) := by decide +kernel
theorem dX4_alive_20 : decode cX4_alive 20 = .ok (.iconst 1, 1) := by decide +kernel
theorem dX4_alive_21 : decode cX4_alive 21 = .ok (.goto 4, 3) := by decide +kernel
theorem dX4_alive_24 : decode cX4_alive 24 = .ok (.iconst 0, 1) := by decide +kernel
theorem dX4_alive_25 : decode cX4_alive 25 = .ok (.iadd, 1) := by decide +kernel
theorem dX4_alive_26 : decode cX4_alive 26 = .ok (.istore_n 2, 1) := by decide +kernel
theorem dX4_alive_27 : decode cX4_alive 27 = .ok (.iinc 3 1, 3) := by decide +kernel
theorem dX4_alive_30 : decode cX4_alive 30 = .ok (.goto (-26), 3) := by decide +kernel
theorem dX4_alive_33 : decode cX4_alive 33 = .ok (.iload_n 2, 1) := by decide +kernel
theorem dX4_alive_34 : decode cX4_alive 34 = .ok (.ireturn, 1) := by decide +kernel
theorem dX4_isThere_0 : decode cX4_isThere 0 = .ok (.aload_n 0, 1) := by decide +kernel
theorem dX4_isThere_1 : decode cX4_isThere 1 = .ok (.getfield 15, 3) := by decide +kernel
theorem dX4_isThere_4 : decode cX4_isThere 4 = .ok (.iload_n 1, 1) := by decide +kernel
theorem dX4_isThere_5 : decode cX4_isThere 5 = .ok (.baload, 1) := by decide +kernel
theorem dX4_isThere_6 : decode cX4_isThere 6 = .ok (.istore_n 2, 1) := by decide +kernel
theorem dX4_isThere_7 : decode cX4_isThere 7 = .ok (.iconst 0, 1) := by decide +kernel
theorem dX4_isThere_8 : decode cX4_isThere 8 = .ok (.istore_n 3, 1) := by decide +kernel
theorem dX4_isThere_9 : decode cX4_isThere 9 = .ok (.iload_n 3, 1) := by decide +kernel
theorem dX4_isThere_10 : decode cX4_isThere 10 = .ok (.aload_n 0, 1) := by decide +kernel
theorem dX4_isThere_11 : decode cX4_isThere 11 = .ok (.getfield 9, 3) := by decide +kernel
theorem dX4_isThere_14 : decode cX4_isThere 14 = .ok (.arraylength, 1) := by decide +kernel
theorem dX4_isThere_15 : decode cX4_isThere 15 = .ok (.if_icmp .ge 38, 3) := by decide +kernel
theorem dX4_isThere_18 : decode cX4_isThere 18 = .ok (.iload_n 2, 1) := by decide +kernel
theorem dX4_isThere_19 : decode cX4_isThere 19 = .ok (.aload_n 0, 1) := by decide +kernel
theorem dX4_isThere_20 : decode cX4_isThere 20 = .ok (.getfield 9, 3) := by decide +kernel
theorem dX4_isThere_23 : decode cX4_isThere 23 = .ok (.iload_n 3, 1) := by decide +kernel
theorem dX4_isThere_24 : decode cX4_isThere 24 = .ok (.aaload, 1) := by decide +kernel
theorem dX4_isThere_25 : decode cX4_isThere 25 = .ok (.iconst 0, 1) := by decide +kernel
theorem dX4_isThere_26 : decode cX4_isThere 26 = .ok (.iaload, 1) := by decide +kernel
theorem dX4_isThere_27 : decode cX4_isThere 27 = .ok (.iload_n 1, 1) := by decide +kernel
theorem dX4_isThere_28 : decode cX4_isThere 28 = .ok (.if_icmp .eq 12, 3) := by decide +kernel
theorem dX4_isThere_31 : decode cX4_isThere 31 = .ok (.aload_n 0, 1) := by decide +kernel
theorem dX4_isThere_32 : decode cX4_isThere 32 = .ok (.iload_n 3, 1) := by decide +kernel
theorem dX4_isThere_33 : decode cX4_isThere 33 = .ok (.iload_n 1, 1) := by decide +kernel
theorem dX4_isThere_34 : decode cX4_isThere 34 = .ok (.invokevirtual 29, 3) := by decide +kernel
theorem dX4_isThere_37 : decode cX4_isThere 37 = .ok (.ifCond .eq 7, 3) := by decide +kernel
theorem dX4_isThere_40 : decode cX4_isThere 40 = .ok (.iconst 1, 1) := by decide +kernel
theorem dX4_isThere_41 : decode cX4_isThere 41 = .ok (.goto 4, 3) := by decide +kernel
theorem dX4_isThere_44 : decode cX4_isThere 44 = .ok (.iconst 0, 1) := by decide +kernel
theorem dX4_isThere_45 : decode cX4_isThere 45 = .ok (.ior, 1) := by decide +kernel
theorem dX4_isThere_46 : decode cX4_isThere 46 = .ok (.istore_n 2, 1) := by decide +kernel
theorem dX4_isThere_47 : decode cX4_isThere 47 = .ok (.iinc 3 1, 3) := by decide +kernel
theorem dX4_isThere_50 : decode cX4_isThere 50 = .ok (.goto (-41), 3) := by decide +kernel
theorem dX4_isThere_53 : decode cX4_isThere 53 = .ok (.iload_n 2, 1) := by decide +kernel
theorem dX4_isThere_54 : decode cX4_isThere 54 = .ok (.ireturn, 1) := by decide +kernel
theorem dX4_cost_0 : decode cX4_cost 0 = .ok (.iconst 0, 1) := by decide +kernel
theorem dX4_cost_1 : decode cX4_cost 1 = .ok (.istore_n 2, 1) := by decide +kernel
theorem dX4_cost_2 : decode cX4_cost 2 = .ok (.aload_n 0, 1) := by decide +kernel
theorem dX4_cost_3 : decode cX4_cost 3 = .ok (.getfield 9, 3) := by decide +kernel
theorem dX4_cost_6 : decode cX4_cost 6 = .ok (.astore_n 3, 1) := by decide +kernel
theorem dX4_cost_7 : decode cX4_cost 7 = .ok (.aload_n 3, 1) := by decide +kernel
theorem dX4_cost_8 : decode cX4_cost 8 = .ok (.arraylength, 1) := by decide +kernel
theorem dX4_cost_9 : decode cX4_cost 9 = .ok (.istore 4, 2) := by decide +kernel
theorem dX4_cost_11 : decode cX4_cost 11 = .ok (.iconst 0, 1) := by decide +kernel
theorem dX4_cost_12 : decode cX4_cost 12 = .ok (.istore 5, 2) := by decide +kernel
theorem dX4_cost_14 : decode cX4_cost 14 = .ok (.iload 5, 2) := by decide +kernel
theorem dX4_cost_16 : decode cX4_cost 16 = .ok (.iload 4, 2) := by decide +kernel
theorem dX4_cost_18 : decode cX4_cost 18 = .ok (.if_icmp .ge 50, 3) := by decide +kernel
theorem dX4_cost_21 : decode cX4_cost 21 = .ok (.aload_n 3, 1) := by decide +kernel
theorem dX4_cost_22 : decode cX4_cost 22 = .ok (.iload 5, 2) := by decide +kernel
theorem dX4_cost_24 : decode cX4_cost 24 = .ok (.aaload, 1) := by decide +kernel
theorem dX4_cost_25 : decode cX4_cost 25 = .ok (.astore 6, 2) := by decide +kernel
theorem dX4_cost_27 : decode cX4_cost 27 = .ok (.iconst 0, 1) := by decide +kernel
theorem dX4_cost_28 : decode cX4_cost 28 = .ok (.istore 7, 2) := by decide +kernel
theorem dX4_cost_30 : decode cX4_cost 30 = .ok (.iload 7, 2) := by decide +kernel
theorem dX4_cost_32 : decode cX4_cost 32 = .ok (.iconst 3, 1) := by decide +kernel
theorem dX4_cost_33 : decode cX4_cost 33 = .ok (.if_icmp .ge 29, 3) := by decide +kernel
theorem dX4_cost_36 : decode cX4_cost 36 = .ok (.iload_n 2, 1) := by decide +kernel
theorem dX4_cost_37 : decode cX4_cost 37 = .ok (.aload 6, 2) := by decide +kernel
theorem dX4_cost_39 : decode cX4_cost 39 = .ok (.iload 7, 2) := by decide +kernel
theorem dX4_cost_41 : decode cX4_cost 41 = .ok (.iaload, 1) := by decide +kernel
theorem dX4_cost_42 : decode cX4_cost 42 = .ok (.iload_n 1, 1) := by decide +kernel
theorem dX4_cost_43 : decode cX4_cost 43 = .ok (.if_icmp .ne 10, 3) := by decide +kernel
theorem dX4_cost_46 : decode cX4_cost 46 = .ok (.aload 6, 2) := by decide +kernel
theorem dX4_cost_48 : decode cX4_cost 48 = .ok (.iconst 3, 1) := by decide +kernel
theorem dX4_cost_49 : decode cX4_cost 49 = .ok (.iaload, 1) := by decide +kernel
theorem dX4_cost_50 : decode cX4_cost 50 = .ok (.goto 4, 3) := by decide +kernel
theorem dX4_cost_53 : decode cX4_cost 53 = .ok (.iconst 0, 1) := by decide +kernel
theorem dX4_cost_54 : decode cX4_cost 54 = .ok (.iadd, 1) := by decide +kernel
theorem dX4_cost_55 : decode cX4_cost 55 = .ok (.istore_n 2, 1) := by decide +kernel
theorem dX4_cost_56 : decode cX4_cost 56 = .ok (.iinc 7 1, 3) := by decide +kernel
theorem dX4_cost_59 : decode cX4_cost 59 = .ok (.goto (-29), 3) := by decide +kernel
theorem dX4_cost_62 : decode cX4_cost 62 = .ok (.iinc 5 1, 3) := by decide +kernel
theorem dX4_cost_65 : decode cX4_cost 65 = .ok (.goto (-51), 3) := by decide +kernel
theorem dX4_cost_68 : decode cX4_cost 68 = .ok (.iload_n 2, 1) := by decide +kernel
theorem dX4_cost_69 : decode cX4_cost 69 = .ok (.ireturn, 1) := by decide +kernel
theorem dX4_clashes_0 : decode cX4_clashes 0 = .ok (.bipush 16, 2) := by decide +kernel
theorem dX4_clashes_2 : decode cX4_clashes 2 = .ok (.bipush 16, 2) := by decide +kernel
theorem dX4_clashes_4 : decode cX4_clashes 4 = .ok (.multianewarray 36 2, 4) := by decide +kernel
theorem dX4_clashes_8 : decode cX4_clashes 8 = .ok (.astore_n 1, 1) := by decide +kernel
theorem dX4_clashes_9 : decode cX4_clashes 9 = .ok (.iconst 0, 1) := by decide +kernel
theorem dX4_clashes_10 : decode cX4_clashes 10 = .ok (.istore_n 2, 1) := by decide +kernel
theorem dX4_clashes_11 : decode cX4_clashes 11 = .ok (.iload_n 2, 1) := by decide +kernel
theorem dX4_clashes_12 : decode cX4_clashes 12 = .ok (.bipush 16, 2) := by decide +kernel
theorem dX4_clashes_14 : decode cX4_clashes 14 = .ok (.if_icmp .ge 169, 3) := by decide +kernel
theorem dX4_clashes_17 : decode cX4_clashes 17 = .ok (.iconst 0, 1) := by decide +kernel
theorem dX4_clashes_18 : decode cX4_clashes 18 = .ok (.istore_n 3, 1) := by decide +kernel
theorem dX4_clashes_19 : decode cX4_clashes 19 = .ok (.iload_n 3, 1) := by decide +kernel
theorem dX4_clashes_20 : decode cX4_clashes 20 = .ok (.bipush 16, 2) := by decide +kernel
theorem dX4_clashes_22 : decode cX4_clashes 22 = .ok (.if_icmp .ge 155, 3) := by decide +kernel
theorem dX4_clashes_25 : decode cX4_clashes 25 = .ok (.iload_n 2, 1) := by decide +kernel
theorem dX4_clashes_26 : decode cX4_clashes 26 = .ok (.iload_n 3, 1) := by decide +kernel
theorem dX4_clashes_27 : decode cX4_clashes 27 = .ok (.if_icmp .ne 6, 3) := by decide +kernel
theorem dX4_clashes_30 : decode cX4_clashes 30 = .ok (.goto 141, 3) := by decide +kernel
theorem dX4_clashes_33 : decode cX4_clashes 33 = .ok (.aload_n 0, 1) := by decide +kernel
theorem dX4_clashes_34 : decode cX4_clashes 34 = .ok (.iload_n 2, 1) := by decide +kernel
theorem dX4_clashes_35 : decode cX4_clashes 35 = .ok (.iconst (-1), 1) := by decide +kernel
theorem dX4_clashes_36 : decode cX4_clashes 36 = .ok (.invokevirtual 33, 3) := by decide +kernel
theorem dX4_clashes_39 : decode cX4_clashes 39 = .ok (.ifCond .eq 16, 3) := by decide +kernel
theorem dX4_clashes_42 : decode cX4_clashes 42 = .ok (.aload_n 0, 1) := by decide +kernel
theorem dX4_clashes_43 : decode cX4_clashes 43 = .ok (.iload_n 3, 1) := by decide +kernel
theorem dX4_clashes_44 : decode cX4_clashes 44 = .ok (.iconst (-1), 1) := by decide +kernel
theorem dX4_clashes_45 : decode cX4_clashes 45 = .ok (.invokevirtual 33, 3) := by decide +kernel
theorem dX4_clashes_48 : decode cX4_clashes 48 = .ok (.ifCond .eq 7, 3) := by decide +kernel
theorem dX4_clashes_51 : decode cX4_clashes 51 = .ok (.iconst 1, 1) := by decide +kernel
theorem dX4_clashes_52 : decode cX4_clashes 52 = .ok (.goto 4, 3) := by decide +kernel
theorem dX4_clashes_55 : decode cX4_clashes 55 = .ok (.iconst 0, 1) := by decide +kernel
theorem dX4_clashes_56 : decode cX4_clashes 56 = .ok (.istore 4, 2) := by decide +kernel
theorem dX4_clashes_58 : decode cX4_clashes 58 = .ok (.iconst 0, 1) := by decide +kernel
theorem dX4_clashes_59 : decode cX4_clashes 59 = .ok (.istore 5, 2) := by decide +kernel
theorem dX4_clashes_61 : decode cX4_clashes 61 = .ok (.iload 5, 2) := by decide +kernel
theorem dX4_clashes_63 : decode cX4_clashes 63 = .ok (.aload_n 0, 1) := by decide +kernel
theorem dX4_clashes_64 : decode cX4_clashes 64 = .ok (.getfield 9, 3) := by decide +kernel
theorem dX4_clashes_67 : decode cX4_clashes 67 = .ok (.arraylength, 1) := by decide +kernel
theorem dX4_clashes_68 : decode cX4_clashes 68 = .ok (.if_icmp .ge 96, 3) := by decide +kernel
theorem dX4_clashes_71 : decode cX4_clashes 71 = .ok (.aload_n 0, 1) := by decide +kernel
theorem dX4_clashes_72 : decode cX4_clashes 72 = .ok (.getfield 9, 3) := by decide +kernel
theorem dX4_clashes_75 : decode cX4_clashes 75 = .ok (.iload 5, 2) := by decide +kernel
theorem dX4_clashes_77 : decode cX4_clashes 77 = .ok (.aaload, 1) := by decide +kernel
theorem dX4_clashes_78 : decode cX4_clashes 78 = .ok (.astore 6, 2) := by decide +kernel
theorem dX4_clashes_80 : decode cX4_clashes 80 = .ok (.iload 4, 2) := by decide +kernel
theorem dX4_clashes_82 : decode cX4_clashes 82 = .ok (.aload 6, 2) := by decide +kernel
theorem dX4_clashes_84 : decode cX4_clashes 84 = .ok (.iconst 0, 1) := by decide +kernel
theorem dX4_clashes_85 : decode cX4_clashes 85 = .ok (.iaload, 1) := by decide +kernel
theorem dX4_clashes_86 : decode cX4_clashes 86 = .ok (.iload_n 2, 1) := by decide +kernel
theorem dX4_clashes_87 : decode cX4_clashes 87 = .ok (.if_icmp .ne 29, 3) := by decide +kernel
theorem dX4_clashes_90 : decode cX4_clashes 90 = .ok (.aload_n 0, 1) := by decide +kernel
theorem dX4_clashes_91 : decode cX4_clashes 91 = .ok (.iload_n 3, 1) := by decide +kernel
theorem dX4_clashes_92 : decode cX4_clashes 92 = .ok (.iload 5, 2) := by decide +kernel
theorem dX4_clashes_94 : decode cX4_clashes 94 = .ok (.invokevirtual 33, 3) := by decide +kernel
theorem dX4_clashes_97 : decode cX4_clashes 97 = .ok (.ifCond .eq 19, 3) := by decide +kernel
theorem dX4_clashes_100 : decode cX4_clashes 100 = .ok (.aload 6, 2) := by decide +kernel
theorem dX4_clashes_102 : decode cX4_clashes 102 = .ok (.iconst 4, 1) := by decide +kernel
theorem dX4_clashes_103 : decode cX4_clashes 103 = .ok (.iaload, 1) := by decide +kernel
theorem dX4_clashes_104 : decode cX4_clashes 104 = .ok (.iconst 1, 1) := by decide +kernel
theorem dX4_clashes_105 : decode cX4_clashes 105 = .ok (.if_icmp .ne 45, 3) := by decide +kernel
theorem dX4_clashes_108 : decode cX4_clashes 108 = .ok (.aload 6, 2) := by decide +kernel
theorem dX4_clashes_110 : decode cX4_clashes 110 = .ok (.iconst 1, 1) := by decide +kernel
theorem dX4_clashes_111 : decode cX4_clashes 111 = .ok (.iaload, 1) := by decide +kernel
theorem dX4_clashes_112 : decode cX4_clashes 112 = .ok (.iload_n 3, 1) := by decide +kernel
theorem dX4_clashes_113 : decode cX4_clashes 113 = .ok (.if_icmp .ne 37, 3) := by decide +kernel
theorem dX4_clashes_116 : decode cX4_clashes 116 = .ok (.aload 6, 2) := by decide +kernel
theorem dX4_clashes_118 : decode cX4_clashes 118 = .ok (.iconst 0, 1) := by decide +kernel
theorem dX4_clashes_119 : decode cX4_clashes 119 = .ok (.iaload, 1) := by decide +kernel
theorem dX4_clashes_120 : decode cX4_clashes 120 = .ok (.iload_n 3, 1) := by decide +kernel
theorem dX4_clashes_121 : decode cX4_clashes 121 = .ok (.if_icmp .ne 33, 3) := by decide +kernel
theorem dX4_clashes_124 : decode cX4_clashes 124 = .ok (.aload_n 0, 1) := by decide +kernel
theorem dX4_clashes_125 : decode cX4_clashes 125 = .ok (.iload_n 2, 1) := by decide +kernel
theorem dX4_clashes_126 : decode cX4_clashes 126 = .ok (.iload 5, 2) := by decide +kernel
theorem dX4_clashes_128 : decode cX4_clashes 128 = .ok (.invokevirtual 33, 3) := by decide +kernel
theorem dX4_clashes_131 : decode cX4_clashes 131 = .ok (.ifCond .eq 23, 3) := by decide +kernel
theorem dX4_clashes_134 : decode cX4_clashes 134 = .ok (.aload 6, 2) := by decide +kernel
theorem dX4_clashes_136 : decode cX4_clashes 136 = .ok (.iconst 4, 1) := by decide +kernel
theorem dX4_clashes_137 : decode cX4_clashes 137 = .ok (.iaload, 1) := by decide +kernel
theorem dX4_clashes_138 : decode cX4_clashes 138 = .ok (.iconst 1, 1) := by decide +kernel
theorem dX4_clashes_139 : decode cX4_clashes 139 = .ok (.if_icmp .ne 11, 3) := by decide +kernel
theorem dX4_clashes_142 : decode cX4_clashes 142 = .ok (.aload 6, 2) := by decide +kernel
theorem dX4_clashes_144 : decode cX4_clashes 144 = .ok (.iconst 1, 1) := by decide +kernel
theorem dX4_clashes_145 : decode cX4_clashes 145 = .ok (.iaload, 1) := by decide +kernel
theorem dX4_clashes_146 : decode cX4_clashes 146 = .ok (.iload_n 2, 1) := by decide +kernel
theorem dX4_clashes_147 : decode cX4_clashes 147 = .ok (.if_icmp .eq 7, 3) := by decide +kernel
theorem dX4_clashes_150 : decode cX4_clashes 150 = .ok (.iconst 1, 1) := by decide +kernel
theorem dX4_clashes_151 : decode cX4_clashes 151 = .ok (.goto 4, 3) := by decide +kernel
theorem dX4_clashes_154 : decode cX4_clashes 154 = .ok (.iconst 0, 1) := by decide +kernel
theorem dX4_clashes_155 : decode cX4_clashes 155 = .ok (.ior, 1) := by decide +kernel
theorem dX4_clashes_156 : decode cX4_clashes 156 = .ok (.istore 4, 2) := by decide +kernel
theorem dX4_clashes_158 : decode cX4_clashes 158 = .ok (.iinc 5 1, 3) := by decide +kernel
theorem dX4_clashes_161 : decode cX4_clashes 161 = .ok (.goto (-100), 3) := by decide +kernel
theorem dX4_clashes_164 : decode cX4_clashes 164 = .ok (.aload_n 1, 1) := by decide +kernel
theorem dX4_clashes_165 : decode cX4_clashes 165 = .ok (.iload_n 2, 1) := by decide +kernel
theorem dX4_clashes_166 : decode cX4_clashes 166 = .ok (.aaload, 1) := by decide +kernel
theorem dX4_clashes_167 : decode cX4_clashes 167 = .ok (.iload_n 3, 1) := by decide +kernel
theorem dX4_clashes_168 : decode cX4_clashes 168 = .ok (.iload 4, 2) := by decide +kernel
theorem dX4_clashes_170 : decode cX4_clashes 170 = .ok (.bastore, 1) := by decide +kernel
theorem dX4_clashes_171 : decode cX4_clashes 171 = .ok (.iinc 3 1, 3) := by decide +kernel
theorem dX4_clashes_174 : decode cX4_clashes 174 = .ok (.goto (-155), 3) := by decide +kernel
theorem dX4_clashes_177 : decode cX4_clashes 177 = .ok (.iinc 2 1, 3) := by decide +kernel
theorem dX4_clashes_180 : decode cX4_clashes 180 = .ok (.goto (-169), 3) := by decide +kernel
theorem dX4_clashes_183 : decode cX4_clashes 183 = .ok (.aload_n 1, 1) := by decide +kernel
theorem dX4_clashes_184 : decode cX4_clashes 184 = .ok (.areturn, 1) := by decide +kernel
theorem dX4_among_0 : decode cX4_among 0 = .ok (.iconst 0, 1) := by decide +kernel
theorem dX4_among_1 : decode cX4_among 1 = .ok (.istore_n 2, 1) := by decide +kernel
theorem dX4_among_2 : decode cX4_among 2 = .ok (.iconst 0, 1) := by decide +kernel
theorem dX4_among_3 : decode cX4_among 3 = .ok (.istore_n 3, 1) := by decide +kernel
theorem dX4_among_4 : decode cX4_among 4 = .ok (.iload_n 3, 1) := by decide +kernel
theorem dX4_among_5 : decode cX4_among 5 = .ok (.bipush 16, 2) := by decide +kernel
theorem dX4_among_7 : decode cX4_among 7 = .ok (.if_icmp .ge 29, 3) := by decide +kernel
theorem dX4_among_10 : decode cX4_among 10 = .ok (.iload_n 2, 1) := by decide +kernel
theorem dX4_among_11 : decode cX4_among 11 = .ok (.aload_n 0, 1) := by decide +kernel
theorem dX4_among_12 : decode cX4_among 12 = .ok (.iload_n 3, 1) := by decide +kernel
theorem dX4_among_13 : decode cX4_among 13 = .ok (.baload, 1) := by decide +kernel
theorem dX4_among_14 : decode cX4_among 14 = .ok (.ifCond .eq 13, 3) := by decide +kernel
theorem dX4_among_17 : decode cX4_among 17 = .ok (.aload_n 1, 1) := by decide +kernel
theorem dX4_among_18 : decode cX4_among 18 = .ok (.iload_n 3, 1) := by decide +kernel
theorem dX4_among_19 : decode cX4_among 19 = .ok (.baload, 1) := by decide +kernel
theorem dX4_among_20 : decode cX4_among 20 = .ok (.ifCond .eq 7, 3) := by decide +kernel
theorem dX4_among_23 : decode cX4_among 23 = .ok (.iconst 1, 1) := by decide +kernel
theorem dX4_among_24 : decode cX4_among 24 = .ok (.goto 4, 3) := by decide +kernel
theorem dX4_among_27 : decode cX4_among 27 = .ok (.iconst 0, 1) := by decide +kernel
theorem dX4_among_28 : decode cX4_among 28 = .ok (.iadd, 1) := by decide +kernel
theorem dX4_among_29 : decode cX4_among 29 = .ok (.istore_n 2, 1) := by decide +kernel
theorem dX4_among_30 : decode cX4_among 30 = .ok (.iinc 3 1, 3) := by decide +kernel
theorem dX4_among_33 : decode cX4_among 33 = .ok (.goto (-29), 3) := by decide +kernel
theorem dX4_among_36 : decode cX4_among 36 = .ok (.iload_n 2, 1) := by decide +kernel
theorem dX4_among_37 : decode cX4_among 37 = .ok (.ireturn, 1) := by decide +kernel
theorem dX4_isTaken_0 : decode cX4_isTaken 0 = .ok (.iconst 0, 1) := by decide +kernel
theorem dX4_isTaken_1 : decode cX4_isTaken 1 = .ok (.istore_n 3, 1) := by decide +kernel
theorem dX4_isTaken_2 : decode cX4_isTaken 2 = .ok (.iload_n 3, 1) := by decide +kernel
theorem dX4_isTaken_3 : decode cX4_isTaken 3 = .ok (.bipush 16, 2) := by decide +kernel
theorem dX4_isTaken_5 : decode cX4_isTaken 5 = .ok (.if_icmp .ge 27, 3) := by decide +kernel
theorem dX4_isTaken_8 : decode cX4_isTaken 8 = .ok (.aload_n 1, 1) := by decide +kernel
theorem dX4_isTaken_9 : decode cX4_isTaken 9 = .ok (.iload_n 3, 1) := by decide +kernel
theorem dX4_isTaken_10 : decode cX4_isTaken 10 = .ok (.baload, 1) := by decide +kernel
theorem dX4_isTaken_11 : decode cX4_isTaken 11 = .ok (.ifCond .eq 15, 3) := by decide +kernel
theorem dX4_isTaken_14 : decode cX4_isTaken 14 = .ok (.aload_n 0, 1) := by decide +kernel
theorem dX4_isTaken_15 : decode cX4_isTaken 15 = .ok (.getfield 26, 3) := by decide +kernel
theorem dX4_isTaken_18 : decode cX4_isTaken 18 = .ok (.iload_n 3, 1) := by decide +kernel
theorem dX4_isTaken_19 : decode cX4_isTaken 19 = .ok (.iaload, 1) := by decide +kernel
theorem dX4_isTaken_20 : decode cX4_isTaken 20 = .ok (.iload_n 2, 1) := by decide +kernel
theorem dX4_isTaken_21 : decode cX4_isTaken 21 = .ok (.if_icmp .ne 5, 3) := by decide +kernel
theorem dX4_isTaken_24 : decode cX4_isTaken 24 = .ok (.iconst 1, 1) := by decide +kernel
theorem dX4_isTaken_25 : decode cX4_isTaken 25 = .ok (.ireturn, 1) := by decide +kernel
theorem dX4_isTaken_26 : decode cX4_isTaken 26 = .ok (.iinc 3 1, 3) := by decide +kernel
theorem dX4_isTaken_29 : decode cX4_isTaken 29 = .ok (.goto (-27), 3) := by decide +kernel
theorem dX4_isTaken_32 : decode cX4_isTaken 32 = .ok (.iconst 0, 1) := by decide +kernel
theorem dX4_isTaken_33 : decode cX4_isTaken 33 = .ok (.ireturn, 1) := by decide +kernel
theorem dX4_hookFor_0 : decode cX4_hookFor 0 = .ok (.bipush 16, 2) := by decide +kernel
theorem dX4_hookFor_2 : decode cX4_hookFor 2 = .ok (.istore 4, 2) := by decide +kernel
theorem dX4_hookFor_4 : decode cX4_hookFor 4 = .ok (.aload_n 0, 1) := by decide +kernel
theorem dX4_hookFor_5 : decode cX4_hookFor 5 = .ok (.getfield 9, 3) := by decide +kernel
theorem dX4_hookFor_8 : decode cX4_hookFor 8 = .ok (.astore 5, 2) := by decide +kernel
theorem dX4_hookFor_10 : decode cX4_hookFor 10 = .ok (.aload 5, 2) := by decide +kernel
theorem dX4_hookFor_12 : decode cX4_hookFor 12 = .ok (.arraylength, 1) := by decide +kernel
theorem dX4_hookFor_13 : decode cX4_hookFor 13 = .ok (.istore 6, 2) := by decide +kernel
theorem dX4_hookFor_15 : decode cX4_hookFor 15 = .ok (.iconst 0, 1) := by decide +kernel
theorem dX4_hookFor_16 : decode cX4_hookFor 16 = .ok (.istore 7, 2) := by decide +kernel
theorem dX4_hookFor_18 : decode cX4_hookFor 18 = .ok (.iload 7, 2) := by decide +kernel
theorem dX4_hookFor_20 : decode cX4_hookFor 20 = .ok (.iload 6, 2) := by decide +kernel
theorem dX4_hookFor_22 : decode cX4_hookFor 22 = .ok (.if_icmp .ge 108, 3) := by decide +kernel
theorem dX4_hookFor_25 : decode cX4_hookFor 25 = .ok (.aload 5, 2) := by decide +kernel
theorem dX4_hookFor_27 : decode cX4_hookFor 27 = .ok (.iload 7, 2) := by decide +kernel
theorem dX4_hookFor_29 : decode cX4_hookFor 29 = .ok (.aaload, 1) := by decide +kernel
theorem dX4_hookFor_30 : decode cX4_hookFor 30 = .ok (.astore 8, 2) := by decide +kernel
theorem dX4_hookFor_32 : decode cX4_hookFor 32 = .ok (.aload 8, 2) := by decide +kernel
theorem dX4_hookFor_34 : decode cX4_hookFor 34 = .ok (.iconst 4, 1) := by decide +kernel
theorem dX4_hookFor_35 : decode cX4_hookFor 35 = .ok (.iaload, 1) := by decide +kernel
theorem dX4_hookFor_36 : decode cX4_hookFor 36 = .ok (.ifCond .eq 88, 3) := by decide +kernel
theorem dX4_hookFor_39 : decode cX4_hookFor 39 = .ok (.aload 8, 2) := by decide +kernel
theorem dX4_hookFor_41 : decode cX4_hookFor 41 = .ok (.iconst 0, 1) := by decide +kernel
theorem dX4_hookFor_42 : decode cX4_hookFor 42 = .ok (.iaload, 1) := by decide +kernel
theorem dX4_hookFor_43 : decode cX4_hookFor 43 = .ok (.aload 8, 2) := by decide +kernel
theorem dX4_hookFor_45 : decode cX4_hookFor 45 = .ok (.iconst 1, 1) := by decide +kernel
theorem dX4_hookFor_46 : decode cX4_hookFor 46 = .ok (.iaload, 1) := by decide +kernel
theorem dX4_hookFor_47 : decode cX4_hookFor 47 = .ok (.if_icmp .eq 77, 3) := by decide +kernel
theorem dX4_hookFor_50 : decode cX4_hookFor 50 = .ok (.aload 8, 2) := by decide +kernel
theorem dX4_hookFor_52 : decode cX4_hookFor 52 = .ok (.iconst 0, 1) := by decide +kernel
theorem dX4_hookFor_53 : decode cX4_hookFor 53 = .ok (.iaload, 1) := by decide +kernel
theorem dX4_hookFor_54 : decode cX4_hookFor 54 = .ok (.iload_n 1, 1) := by decide +kernel
theorem dX4_hookFor_55 : decode cX4_hookFor 55 = .ok (.if_icmp .eq 14, 3) := by decide +kernel
theorem dX4_hookFor_58 : decode cX4_hookFor 58 = .ok (.aload 8, 2) := by decide +kernel
theorem dX4_hookFor_60 : decode cX4_hookFor 60 = .ok (.iconst 1, 1) := by decide +kernel
theorem dX4_hookFor_61 : decode cX4_hookFor 61 = .ok (.iaload, 1) := by decide +kernel
theorem dX4_hookFor_62 : decode cX4_hookFor 62 = .ok (.iload_n 1, 1) := by decide +kernel
theorem dX4_hookFor_63 : decode cX4_hookFor 63 = .ok (.if_icmp .eq 6, 3) := by decide +kernel
theorem dX4_hookFor_66 : decode cX4_hookFor 66 = .ok (.goto 58, 3) := by decide +kernel
theorem dX4_hookFor_69 : decode cX4_hookFor 69 = .ok (.aload 8, 2) := by decide +kernel
theorem dX4_hookFor_71 : decode cX4_hookFor 71 = .ok (.iconst 0, 1) := by decide +kernel
theorem dX4_hookFor_72 : decode cX4_hookFor 72 = .ok (.iaload, 1) := by decide +kernel
theorem dX4_hookFor_73 : decode cX4_hookFor 73 = .ok (.iload_n 1, 1) := by decide +kernel
theorem dX4_hookFor_74 : decode cX4_hookFor 74 = .ok (.if_icmp .ne 10, 3) := by decide +kernel
theorem dX4_hookFor_77 : decode cX4_hookFor 77 = .ok (.aload 8, 2) := by decide +kernel
theorem dX4_hookFor_79 : decode cX4_hookFor 79 = .ok (.iconst 1, 1) := by decide +kernel
theorem dX4_hookFor_80 : decode cX4_hookFor 80 = .ok (.iaload, 1) := by decide +kernel
theorem dX4_hookFor_81 : decode cX4_hookFor 81 = .ok (.goto 7, 3) := by decide +kernel
theorem dX4_hookFor_84 : decode cX4_hookFor 84 = .ok (.aload 8, 2) := by decide +kernel
theorem dX4_hookFor_86 : decode cX4_hookFor 86 = .ok (.iconst 0, 1) := by decide +kernel
theorem dX4_hookFor_87 : decode cX4_hookFor 87 = .ok (.iaload, 1) := by decide +kernel
theorem dX4_hookFor_88 : decode cX4_hookFor 88 = .ok (.istore 9, 2) := by decide +kernel
theorem dX4_hookFor_90 : decode cX4_hookFor 90 = .ok (.aload_n 0, 1) := by decide +kernel
theorem dX4_hookFor_91 : decode cX4_hookFor 91 = .ok (.getfield 26, 3) := by decide +kernel
theorem dX4_hookFor_94 : decode cX4_hookFor 94 = .ok (.iload 9, 2) := by decide +kernel
theorem dX4_hookFor_96 : decode cX4_hookFor 96 = .ok (.iaload, 1) := by decide +kernel
theorem dX4_hookFor_97 : decode cX4_hookFor 97 = .ok (.ifCond .lt 27, 3) := by decide +kernel
theorem dX4_hookFor_100 : decode cX4_hookFor 100 = .ok (.aload_n 0, 1) := by decide +kernel
theorem dX4_hookFor_101 : decode cX4_hookFor 101 = .ok (.aload_n 2, 1) := by decide +kernel
theorem dX4_hookFor_102 : decode cX4_hookFor 102 = .ok (.aload_n 0, 1) := by decide +kernel
theorem dX4_hookFor_103 : decode cX4_hookFor 103 = .ok (.getfield 26, 3) := by decide +kernel
theorem dX4_hookFor_106 : decode cX4_hookFor 106 = .ok (.iload 9, 2) := by decide +kernel
theorem dX4_hookFor_108 : decode cX4_hookFor 108 = .ok (.iaload, 1) := by decide +kernel
theorem dX4_hookFor_109 : decode cX4_hookFor 109 = .ok (.invokevirtual 38, 3) := by decide +kernel
theorem dX4_hookFor_112 : decode cX4_hookFor 112 = .ok (.ifCond .ne 12, 3) := by decide +kernel
theorem dX4_hookFor_115 : decode cX4_hookFor 115 = .ok (.iload 4, 2) := by decide +kernel
theorem dX4_hookFor_117 : decode cX4_hookFor 117 = .ok (.iload 9, 2) := by decide +kernel
theorem dX4_hookFor_119 : decode cX4_hookFor 119 = .ok (.invokestatic 42, 3) := by decide +kernel
theorem dX4_hookFor_122 : decode cX4_hookFor 122 = .ok (.istore 4, 2) := by decide +kernel
theorem dX4_hookFor_124 : decode cX4_hookFor 124 = .ok (.iinc 7 1, 3) := by decide +kernel
theorem dX4_hookFor_127 : decode cX4_hookFor 127 = .ok (.goto (-109), 3) := by decide +kernel
theorem dX4_hookFor_130 : decode cX4_hookFor 130 = .ok (.iload 4, 2) := by decide +kernel
theorem dX4_hookFor_132 : decode cX4_hookFor 132 = .ok (.bipush 16, 2) := by decide +kernel
theorem dX4_hookFor_134 : decode cX4_hookFor 134 = .ok (.if_icmp .ge 11, 3) := by decide +kernel
theorem dX4_hookFor_137 : decode cX4_hookFor 137 = .ok (.aload_n 0, 1) := by decide +kernel
theorem dX4_hookFor_138 : decode cX4_hookFor 138 = .ok (.getfield 26, 3) := by decide +kernel
theorem dX4_hookFor_141 : decode cX4_hookFor 141 = .ok (.iload 4, 2) := by decide +kernel
theorem dX4_hookFor_143 : decode cX4_hookFor 143 = .ok (.iaload, 1) := by decide +kernel
theorem dX4_hookFor_144 : decode cX4_hookFor 144 = .ok (.ireturn, 1) := by decide +kernel
theorem dX4_hookFor_145 : decode cX4_hookFor 145 = .ok (.iconst 0, 1) := by decide +kernel
theorem dX4_hookFor_146 : decode cX4_hookFor 146 = .ok (.istore 5, 2) := by decide +kernel
theorem dX4_hookFor_148 : decode cX4_hookFor 148 = .ok (.iload 5, 2) := by decide +kernel
theorem dX4_hookFor_150 : decode cX4_hookFor 150 = .ok (.iload_n 3, 1) := by decide +kernel
theorem dX4_hookFor_151 : decode cX4_hookFor 151 = .ok (.if_icmp .ge 22, 3) := by decide +kernel
theorem dX4_hookFor_154 : decode cX4_hookFor 154 = .ok (.aload_n 0, 1) := by decide +kernel
theorem dX4_hookFor_155 : decode cX4_hookFor 155 = .ok (.aload_n 2, 1) := by decide +kernel
theorem dX4_hookFor_156 : decode cX4_hookFor 156 = .ok (.iload 5, 2) := by decide +kernel
theorem dX4_hookFor_158 : decode cX4_hookFor 158 = .ok (.invokevirtual 38, 3) := by decide +kernel
theorem dX4_hookFor_161 : decode cX4_hookFor 161 = .ok (.ifCond .ne 6, 3) := by decide +kernel
theorem dX4_hookFor_164 : decode cX4_hookFor 164 = .ok (.iload 5, 2) := by decide +kernel
theorem dX4_hookFor_166 : decode cX4_hookFor 166 = .ok (.ireturn, 1) := by decide +kernel
theorem dX4_hookFor_167 : decode cX4_hookFor 167 = .ok (.iinc 5 1, 3) := by decide +kernel
theorem dX4_hookFor_170 : decode cX4_hookFor 170 = .ok (.goto (-22), 3) := by decide +kernel
theorem dX4_hookFor_173 : decode cX4_hookFor 173 = .ok (.iconst (-1), 1) := by decide +kernel
theorem dX4_hookFor_174 : decode cX4_hookFor 174 = .ok (.ireturn, 1) := by decide +kernel
theorem dX4_hang_0 : decode cX4_hang 0 = .ok (.aload_n 0, 1) := by decide +kernel
theorem dX4_hang_1 : decode cX4_hang 1 = .ok (.invokevirtual 48, 3) := by decide +kernel
theorem dX4_hang_4 : decode cX4_hang 4 = .ok (.astore_n 2, 1) := by decide +kernel
theorem dX4_hang_5 : decode cX4_hang 5 = .ok (.bipush 16, 2) := by decide +kernel
theorem dX4_hang_7 : decode cX4_hang 7 = .ok (.newarray .boolean, 2) := by decide +kernel
theorem dX4_hang_9 : decode cX4_hang 9 = .ok (.astore_n 3, 1) := by decide +kernel
theorem dX4_hang_10 : decode cX4_hang 10 = .ok (.iconst 0, 1) := by decide +kernel
theorem dX4_hang_11 : decode cX4_hang 11 = .ok (.istore 4, 2) := by decide +kernel
theorem dX4_hang_13 : decode cX4_hang 13 = .ok (.iconst 0, 1) := by decide +kernel
theorem dX4_hang_14 : decode cX4_hang 14 = .ok (.istore 5, 2) := by decide +kernel
theorem dX4_hang_16 : decode cX4_hang 16 = .ok (.iload 5, 2) := by decide +kernel
theorem dX4_hang_18 : decode cX4_hang 18 = .ok (.bipush 16, 2) := by decide +kernel
theorem dX4_hang_20 : decode cX4_hang 20 = .ok (.if_icmp .ge 52, 3) := by decide +kernel
theorem dX4_hang_23 : decode cX4_hang 23 = .ok (.aload_n 3, 1) := by decide +kernel
theorem dX4_hang_24 : decode cX4_hang 24 = .ok (.iload 5, 2) := by decide +kernel
theorem dX4_hang_26 : decode cX4_hang 26 = .ok (.aload_n 0, 1) := by decide +kernel
theorem dX4_hang_27 : decode cX4_hang 27 = .ok (.iload 5, 2) := by decide +kernel
theorem dX4_hang_29 : decode cX4_hang 29 = .ok (.invokevirtual 52, 3) := by decide +kernel
theorem dX4_hang_32 : decode cX4_hang 32 = .ok (.bastore, 1) := by decide +kernel
theorem dX4_hang_33 : decode cX4_hang 33 = .ok (.iload 4, 2) := by decide +kernel
theorem dX4_hang_35 : decode cX4_hang 35 = .ok (.aload_n 3, 1) := by decide +kernel
theorem dX4_hang_36 : decode cX4_hang 36 = .ok (.iload 5, 2) := by decide +kernel
theorem dX4_hang_38 : decode cX4_hang 38 = .ok (.baload, 1) := by decide +kernel
theorem dX4_hang_39 : decode cX4_hang 39 = .ok (.ifCond .eq 7, 3) := by decide +kernel
theorem dX4_hang_42 : decode cX4_hang 42 = .ok (.iconst 1, 1) := by decide +kernel
theorem dX4_hang_43 : decode cX4_hang 43 = .ok (.goto 4, 3) := by decide +kernel
theorem dX4_hang_46 : decode cX4_hang 46 = .ok (.iconst 0, 1) := by decide +kernel
theorem dX4_hang_47 : decode cX4_hang 47 = .ok (.iadd, 1) := by decide +kernel
theorem dX4_hang_48 : decode cX4_hang 48 = .ok (.istore 4, 2) := by decide +kernel
theorem dX4_hang_50 : decode cX4_hang 50 = .ok (.aload_n 0, 1) := by decide +kernel
theorem dX4_hang_51 : decode cX4_hang 51 = .ok (.getfield 23, 3) := by decide +kernel
theorem dX4_hang_54 : decode cX4_hang 54 = .ok (.iload 5, 2) := by decide +kernel
theorem dX4_hang_56 : decode cX4_hang 56 = .ok (.iconst (-1), 1) := by decide +kernel
theorem dX4_hang_57 : decode cX4_hang 57 = .ok (.iastore, 1) := by decide +kernel
theorem dX4_hang_58 : decode cX4_hang 58 = .ok (.aload_n 0, 1) := by decide +kernel
theorem dX4_hang_59 : decode cX4_hang 59 = .ok (.getfield 26, 3) := by decide +kernel
theorem dX4_hang_62 : decode cX4_hang 62 = .ok (.iload 5, 2) := by decide +kernel
theorem dX4_hang_64 : decode cX4_hang 64 = .ok (.iconst (-1), 1) := by decide +kernel
theorem dX4_hang_65 : decode cX4_hang 65 = .ok (.iastore, 1) := by decide +kernel
theorem dX4_hang_66 : decode cX4_hang 66 = .ok (.iinc 5 1, 3) := by decide +kernel
theorem dX4_hang_69 : decode cX4_hang 69 = .ok (.goto (-53), 3) := by decide +kernel
theorem dX4_hang_72 : decode cX4_hang 72 = .ok (.iload 4, 2) := by decide +kernel
theorem dX4_hang_74 : decode cX4_hang 74 = .ok (.newarray .int, 2) := by decide +kernel
theorem dX4_hang_76 : decode cX4_hang 76 = .ok (.astore 5, 2) := by decide +kernel
theorem dX4_hang_78 : decode cX4_hang 78 = .ok (.iconst 0, 1) := by decide +kernel
theorem dX4_hang_79 : decode cX4_hang 79 = .ok (.istore 6, 2) := by decide +kernel
theorem dX4_hang_81 : decode cX4_hang 81 = .ok (.iload 6, 2) := by decide +kernel
theorem dX4_hang_83 : decode cX4_hang 83 = .ok (.iload 4, 2) := by decide +kernel
theorem dX4_hang_85 : decode cX4_hang 85 = .ok (.if_icmp .ge 150, 3) := by decide +kernel
theorem dX4_hang_88 : decode cX4_hang 88 = .ok (.iconst (-1), 1) := by decide +kernel
theorem dX4_hang_89 : decode cX4_hang 89 = .ok (.istore 7, 2) := by decide +kernel
theorem dX4_hang_91 : decode cX4_hang 91 = .ok (.iconst 0, 1) := by decide +kernel
theorem dX4_hang_92 : decode cX4_hang 92 = .ok (.istore 8, 2) := by decide +kernel
theorem dX4_hang_94 : decode cX4_hang 94 = .ok (.iload 8, 2) := by decide +kernel
theorem dX4_hang_96 : decode cX4_hang 96 = .ok (.bipush 16, 2) := by decide +kernel
theorem dX4_hang_98 : decode cX4_hang 98 = .ok (.if_icmp .ge 37, 3) := by decide +kernel
theorem dX4_hang_101 : decode cX4_hang 101 = .ok (.iload 7, 2) := by decide +kernel
theorem dX4_hang_103 : decode cX4_hang 103 = .ok (.ifCond .ge 32, 3) := by decide +kernel
theorem dX4_hang_106 : decode cX4_hang 106 = .ok (.aload_n 3, 1) := by decide +kernel
theorem dX4_hang_107 : decode cX4_hang 107 = .ok (.iload 8, 2) := by decide +kernel
theorem dX4_hang_109 : decode cX4_hang 109 = .ok (.baload, 1) := by decide +kernel
theorem dX4_hang_110 : decode cX4_hang 110 = .ok (.ifCond .eq 19, 3) := by decide +kernel
theorem dX4_hang_113 : decode cX4_hang 113 = .ok (.aload_n 2, 1) := by decide +kernel
theorem dX4_hang_114 : decode cX4_hang 114 = .ok (.iload 8, 2) := by decide +kernel
theorem dX4_hang_116 : decode cX4_hang 116 = .ok (.aaload, 1) := by decide +kernel
theorem dX4_hang_117 : decode cX4_hang 117 = .ok (.aload_n 3, 1) := by decide +kernel
theorem dX4_hang_118 : decode cX4_hang 118 = .ok (.invokestatic 56, 3) := by decide +kernel
theorem dX4_hang_121 : decode cX4_hang 121 = .ok (.iload_n 1, 1) := by decide +kernel
theorem dX4_hang_122 : decode cX4_hang 122 = .ok (.if_icmp .ge 7, 3) := by decide +kernel
theorem dX4_hang_125 : decode cX4_hang 125 = .ok (.iload 8, 2) := by decide +kernel
theorem dX4_hang_127 : decode cX4_hang 127 = .ok (.istore 7, 2) := by decide +kernel
theorem dX4_hang_129 : decode cX4_hang 129 = .ok (.iinc 8 1, 3) := by decide +kernel
theorem dX4_hang_132 : decode cX4_hang 132 = .ok (.goto (-38), 3) := by decide +kernel
theorem dX4_hang_135 : decode cX4_hang 135 = .ok (.iload 7, 2) := by decide +kernel
theorem dX4_hang_137 : decode cX4_hang 137 = .ok (.ifCond .ge 71, 3) := by decide +kernel
theorem dX4_hang_140 : decode cX4_hang 140 = .ok (.iconst 0, 1) := by decide +kernel
theorem dX4_hang_141 : decode cX4_hang 141 = .ok (.istore 8, 2) := by decide +kernel
theorem dX4_hang_143 : decode cX4_hang 143 = .ok (.iload 8, 2) := by decide +kernel
theorem dX4_hang_145 : decode cX4_hang 145 = .ok (.bipush 16, 2) := by decide +kernel
theorem dX4_hang_147 : decode cX4_hang 147 = .ok (.if_icmp .ge 61, 3) := by decide +kernel
theorem dX4_hang_150 : decode cX4_hang 150 = .ok (.aload_n 3, 1) := by decide +kernel
theorem dX4_hang_151 : decode cX4_hang 151 = .ok (.iload 8, 2) := by decide +kernel
theorem dX4_hang_153 : decode cX4_hang 153 = .ok (.baload, 1) := by decide +kernel
theorem dX4_hang_154 : decode cX4_hang 154 = .ok (.ifCond .ne 6, 3) := by decide +kernel
theorem dX4_hang_157 : decode cX4_hang 157 = .ok (.goto 45, 3) := by decide +kernel
theorem dX4_hang_160 : decode cX4_hang 160 = .ok (.iload 7, 2) := by decide +kernel
theorem dX4_hang_162 : decode cX4_hang 162 = .ok (.ifCond .lt 36, 3) := by decide +kernel
theorem dX4_hang_165 : decode cX4_hang 165 = .ok (.aload_n 0, 1) := by decide +kernel
theorem dX4_hang_166 : decode cX4_hang 166 = .ok (.iload 8, 2) := by decide +kernel
theorem dX4_hang_168 : decode cX4_hang 168 = .ok (.invokevirtual 60, 3) := by decide +kernel
theorem dX4_hang_171 : decode cX4_hang 171 = .ok (.aload_n 2, 1) := by decide +kernel
theorem dX4_hang_172 : decode cX4_hang 172 = .ok (.iload 7, 2) := by decide +kernel
theorem dX4_hang_174 : decode cX4_hang 174 = .ok (.aaload, 1) := by decide +kernel
theorem dX4_hang_175 : decode cX4_hang 175 = .ok (.aload_n 3, 1) := by decide +kernel
theorem dX4_hang_176 : decode cX4_hang 176 = .ok (.invokestatic 56, 3) := by decide +kernel
theorem dX4_hang_179 : decode cX4_hang 179 = .ok (.imul, 1) := by decide +kernel
theorem dX4_hang_180 : decode cX4_hang 180 = .ok (.aload_n 0, 1) := by decide +kernel
theorem dX4_hang_181 : decode cX4_hang 181 = .ok (.iload 7, 2) := by decide +kernel
theorem dX4_hang_183 : decode cX4_hang 183 = .ok (.invokevirtual 60, 3) := by decide +kernel
theorem dX4_hang_186 : decode cX4_hang 186 = .ok (.aload_n 2, 1) := by decide +kernel
theorem dX4_hang_187 : decode cX4_hang 187 = .ok (.iload 8, 2) := by decide +kernel
theorem dX4_hang_189 : decode cX4_hang 189 = .ok (.aaload, 1) := by decide +kernel
theorem dX4_hang_190 : decode cX4_hang 190 = .ok (.aload_n 3, 1) := by decide +kernel
theorem dX4_hang_191 : decode cX4_hang 191 = .ok (.invokestatic 56, 3) := by decide +kernel
theorem dX4_hang_194 : decode cX4_hang 194 = .ok (.imul, 1) := by decide +kernel
theorem dX4_hang_195 : decode cX4_hang 195 = .ok (.if_icmp .ge 7, 3) := by decide +kernel
theorem dX4_hang_198 : decode cX4_hang 198 = .ok (.iload 8, 2) := by decide +kernel
theorem dX4_hang_200 : decode cX4_hang 200 = .ok (.istore 7, 2) := by decide +kernel
theorem dX4_hang_202 : decode cX4_hang 202 = .ok (.iinc 8 1, 3) := by decide +kernel
theorem dX4_hang_205 : decode cX4_hang 205 = .ok (.goto (-62), 3) := by decide +kernel
theorem dX4_hang_208 : decode cX4_hang 208 = .ok (.aload_n 3, 1) := by decide +kernel
theorem dX4_hang_209 : decode cX4_hang 209 = .ok (.iload 7, 2) := by decide +kernel
theorem dX4_hang_211 : decode cX4_hang 211 = .ok (.iconst 0, 1) := by decide +kernel
theorem dX4_hang_212 : decode cX4_hang 212 = .ok (.bastore, 1) := by decide +kernel
theorem dX4_hang_213 : decode cX4_hang 213 = .ok (.aload 5, 2) := by decide +kernel
theorem dX4_hang_215 : decode cX4_hang 215 = .ok (.iload 6, 2) := by decide +kernel
theorem dX4_hang_217 : decode cX4_hang 217 = .ok (.iload 7, 2) := by decide +kernel
theorem dX4_hang_219 : decode cX4_hang 219 = .ok (.iastore, 1) := by decide +kernel
theorem dX4_hang_220 : decode cX4_hang 220 = .ok (.aload_n 0, 1) := by decide +kernel
theorem dX4_hang_221 : decode cX4_hang 221 = .ok (.getfield 23, 3) := by decide +kernel
theorem dX4_hang_224 : decode cX4_hang 224 = .ok (.iload 7, 2) := by decide +kernel
theorem dX4_hang_226 : decode cX4_hang 226 = .ok (.iload 6, 2) := by decide +kernel
theorem dX4_hang_228 : decode cX4_hang 228 = .ok (.iastore, 1) := by decide +kernel
theorem dX4_hang_229 : decode cX4_hang 229 = .ok (.iinc 6 1, 3) := by decide +kernel
theorem dX4_hang_232 : decode cX4_hang 232 = .ok (.goto (-151), 3) := by decide +kernel
theorem dX4_hang_235 : decode cX4_hang 235 = .ok (.iconst 0, 1) := by decide +kernel
theorem dX4_hang_236 : decode cX4_hang 236 = .ok (.istore 6, 2) := by decide +kernel
theorem dX4_hang_238 : decode cX4_hang 238 = .ok (.iload 4, 2) := by decide +kernel
theorem dX4_hang_240 : decode cX4_hang 240 = .ok (.iconst 1, 1) := by decide +kernel
theorem dX4_hang_241 : decode cX4_hang 241 = .ok (.isub, 1) := by decide +kernel
theorem dX4_hang_242 : decode cX4_hang 242 = .ok (.istore 7, 2) := by decide +kernel
theorem dX4_hang_244 : decode cX4_hang 244 = .ok (.iload 7, 2) := by decide +kernel
theorem dX4_hang_246 : decode cX4_hang 246 = .ok (.ifCond .lt 54, 3) := by decide +kernel
theorem dX4_hang_249 : decode cX4_hang 249 = .ok (.aload 5, 2) := by decide +kernel
theorem dX4_hang_251 : decode cX4_hang 251 = .ok (.iload 7, 2) := by decide +kernel
theorem dX4_hang_253 : decode cX4_hang 253 = .ok (.iaload, 1) := by decide +kernel
theorem dX4_hang_254 : decode cX4_hang 254 = .ok (.istore 8, 2) := by decide +kernel
theorem dX4_hang_256 : decode cX4_hang 256 = .ok (.aload_n 0, 1) := by decide +kernel
theorem dX4_hang_257 : decode cX4_hang 257 = .ok (.getfield 26, 3) := by decide +kernel
theorem dX4_hang_260 : decode cX4_hang 260 = .ok (.iload 8, 2) := by decide +kernel
theorem dX4_hang_262 : decode cX4_hang 262 = .ok (.aload_n 0, 1) := by decide +kernel
theorem dX4_hang_263 : decode cX4_hang 263 = .ok (.iload 8, 2) := by decide +kernel
theorem dX4_hang_265 : decode cX4_hang 265 = .ok (.aload_n 2, 1) := by decide +kernel
theorem dX4_hang_266 : decode cX4_hang 266 = .ok (.iload 8, 2) := by decide +kernel
theorem dX4_hang_268 : decode cX4_hang 268 = .ok (.aaload, 1) := by decide +kernel
theorem dX4_hang_269 : decode cX4_hang 269 = .ok (.iload_n 1, 1) := by decide +kernel
theorem dX4_hang_270 : decode cX4_hang 270 = .ok (.invokevirtual 64, 3) := by decide +kernel
theorem dX4_hang_273 : decode cX4_hang 273 = .ok (.iastore, 1) := by decide +kernel
theorem dX4_hang_274 : decode cX4_hang 274 = .ok (.iload 6, 2) := by decide +kernel
theorem dX4_hang_276 : decode cX4_hang 276 = .ok (.aload_n 0, 1) := by decide +kernel
theorem dX4_hang_277 : decode cX4_hang 277 = .ok (.getfield 26, 3) := by decide +kernel
theorem dX4_hang_280 : decode cX4_hang 280 = .ok (.iload 8, 2) := by decide +kernel
theorem dX4_hang_282 : decode cX4_hang 282 = .ok (.iaload, 1) := by decide +kernel
theorem dX4_hang_283 : decode cX4_hang 283 = .ok (.ifCond .ge 7, 3) := by decide +kernel
theorem dX4_hang_286 : decode cX4_hang 286 = .ok (.iconst 1, 1) := by decide +kernel
theorem dX4_hang_287 : decode cX4_hang 287 = .ok (.goto 4, 3) := by decide +kernel
theorem dX4_hang_290 : decode cX4_hang 290 = .ok (.iconst 0, 1) := by decide +kernel
theorem dX4_hang_291 : decode cX4_hang 291 = .ok (.iadd, 1) := by decide +kernel
theorem dX4_hang_292 : decode cX4_hang 292 = .ok (.istore 6, 2) := by decide +kernel
theorem dX4_hang_294 : decode cX4_hang 294 = .ok (.iinc 7 (-1), 3) := by decide +kernel
theorem dX4_hang_297 : decode cX4_hang 297 = .ok (.goto (-53), 3) := by decide +kernel
theorem dX4_hang_300 : decode cX4_hang 300 = .ok (.iload 6, 2) := by decide +kernel
theorem dX4_hang_302 : decode cX4_hang 302 = .ok (.ireturn, 1) := by decide +kernel
theorem dX4_floorCost_0 : decode cX4_floorCost 0 = .ok (.iconst 0, 1) := by decide +kernel
theorem dX4_floorCost_1 : decode cX4_floorCost 1 = .ok (.istore_n 1, 1) := by decide +kernel
theorem dX4_floorCost_2 : decode cX4_floorCost 2 = .ok (.iconst 0, 1) := by decide +kernel
theorem dX4_floorCost_3 : decode cX4_floorCost 3 = .ok (.istore_n 2, 1) := by decide +kernel
theorem dX4_floorCost_4 : decode cX4_floorCost 4 = .ok (.iload_n 2, 1) := by decide +kernel
theorem dX4_floorCost_5 : decode cX4_floorCost 5 = .ok (.bipush 16, 2) := by decide +kernel
theorem dX4_floorCost_7 : decode cX4_floorCost 7 = .ok (.if_icmp .ge 39, 3) := by decide +kernel
theorem dX4_floorCost_10 : decode cX4_floorCost 10 = .ok (.iload_n 1, 1) := by decide +kernel
theorem dX4_floorCost_11 : decode cX4_floorCost 11 = .ok (.aload_n 0, 1) := by decide +kernel
theorem dX4_floorCost_12 : decode cX4_floorCost 12 = .ok (.getfield 23, 3) := by decide +kernel
theorem dX4_floorCost_15 : decode cX4_floorCost 15 = .ok (.iload_n 2, 1) := by decide +kernel
theorem dX4_floorCost_16 : decode cX4_floorCost 16 = .ok (.iaload, 1) := by decide +kernel
theorem dX4_floorCost_17 : decode cX4_floorCost 17 = .ok (.ifCond .lt 20, 3) := by decide +kernel
theorem dX4_floorCost_20 : decode cX4_floorCost 20 = .ok (.aload_n 0, 1) := by decide +kernel
theorem dX4_floorCost_21 : decode cX4_floorCost 21 = .ok (.getfield 26, 3) := by decide +kernel
theorem dX4_floorCost_24 : decode cX4_floorCost 24 = .ok (.iload_n 2, 1) := by decide +kernel
theorem dX4_floorCost_25 : decode cX4_floorCost 25 = .ok (.iaload, 1) := by decide +kernel
theorem dX4_floorCost_26 : decode cX4_floorCost 26 = .ok (.ifCond .ge 11, 3) := by decide +kernel
theorem dX4_floorCost_29 : decode cX4_floorCost 29 = .ok (.aload_n 0, 1) := by decide +kernel
theorem dX4_floorCost_30 : decode cX4_floorCost 30 = .ok (.iload_n 2, 1) := by decide +kernel
theorem dX4_floorCost_31 : decode cX4_floorCost 31 = .ok (.invokevirtual 60, 3) := by decide +kernel
theorem dX4_floorCost_34 : decode cX4_floorCost 34 = .ok (.goto 4, 3) := by decide +kernel
theorem dX4_floorCost_37 : decode cX4_floorCost 37 = .ok (.iconst 0, 1) := by decide +kernel
theorem dX4_floorCost_38 : decode cX4_floorCost 38 = .ok (.iadd, 1) := by decide +kernel
theorem dX4_floorCost_39 : decode cX4_floorCost 39 = .ok (.istore_n 1, 1) := by decide +kernel
theorem dX4_floorCost_40 : decode cX4_floorCost 40 = .ok (.iinc 2 1, 3) := by decide +kernel
theorem dX4_floorCost_43 : decode cX4_floorCost 43 = .ok (.goto (-39), 3) := by decide +kernel
theorem dX4_floorCost_46 : decode cX4_floorCost 46 = .ok (.iload_n 1, 1) := by decide +kernel
theorem dX4_floorCost_47 : decode cX4_floorCost 47 = .ok (.ireturn, 1) := by decide +kernel
theorem dX4_isSame_0 : decode cX4_isSame 0 = .ok (.aload_n 0, 1) := by decide +kernel
theorem dX4_isSame_1 : decode cX4_isSame 1 = .ok (.invokevirtual 48, 3) := by decide +kernel
theorem dX4_isSame_4 : decode cX4_isSame 4 = .ok (.astore_n 2, 1) := by decide +kernel
theorem dX4_isSame_5 : decode cX4_isSame 5 = .ok (.aload_n 0, 1) := by decide +kernel
theorem dX4_isSame_6 : decode cX4_isSame 6 = .ok (.aload_n 0, 1) := by decide +kernel
theorem dX4_isSame_7 : decode cX4_isSame 7 = .ok (.getfield 19, 3) := by decide +kernel
theorem dX4_isSame_10 : decode cX4_isSame 10 = .ok (.invokevirtual 68, 3) := by decide +kernel
theorem dX4_isSame_13 : decode cX4_isSame 13 = .ok (.istore_n 3, 1) := by decide +kernel
theorem dX4_isSame_14 : decode cX4_isSame 14 = .ok (.aload_n 0, 1) := by decide +kernel
theorem dX4_isSame_15 : decode cX4_isSame 15 = .ok (.iconst (-1), 1) := by decide +kernel
theorem dX4_isSame_16 : decode cX4_isSame 16 = .ok (.invokevirtual 71, 3) := by decide +kernel
theorem dX4_isSame_19 : decode cX4_isSame 19 = .ok (.istore 4, 2) := by decide +kernel
theorem dX4_isSame_21 : decode cX4_isSame 21 = .ok (.iconst 0, 1) := by decide +kernel
theorem dX4_isSame_22 : decode cX4_isSame 22 = .ok (.istore 5, 2) := by decide +kernel
theorem dX4_isSame_24 : decode cX4_isSame 24 = .ok (.iconst 0, 1) := by decide +kernel
theorem dX4_isSame_25 : decode cX4_isSame 25 = .ok (.istore 6, 2) := by decide +kernel
theorem dX4_isSame_27 : decode cX4_isSame 27 = .ok (.iconst 0, 1) := by decide +kernel
theorem dX4_isSame_28 : decode cX4_isSame 28 = .ok (.istore 7, 2) := by decide +kernel
theorem dX4_isSame_30 : decode cX4_isSame 30 = .ok (.iconst 0, 1) := by decide +kernel
theorem dX4_isSame_31 : decode cX4_isSame 31 = .ok (.istore 8, 2) := by decide +kernel
theorem dX4_isSame_33 : decode cX4_isSame 33 = .ok (.iconst 0, 1) := by decide +kernel
theorem dX4_isSame_34 : decode cX4_isSame 34 = .ok (.istore 9, 2) := by decide +kernel
theorem dX4_isSame_36 : decode cX4_isSame 36 = .ok (.iload 9, 2) := by decide +kernel
theorem dX4_isSame_38 : decode cX4_isSame 38 = .ok (.aload_n 0, 1) := by decide +kernel
theorem dX4_isSame_39 : decode cX4_isSame 39 = .ok (.getfield 9, 3) := by decide +kernel
theorem dX4_isSame_42 : decode cX4_isSame 42 = .ok (.arraylength, 1) := by decide +kernel
theorem dX4_isSame_43 : decode cX4_isSame 43 = .ok (.if_icmp .ge 261, 3) := by decide +kernel
theorem dX4_isSame_46 : decode cX4_isSame 46 = .ok (.aload_n 0, 1) := by decide +kernel
theorem dX4_isSame_47 : decode cX4_isSame 47 = .ok (.getfield 9, 3) := by decide +kernel
theorem dX4_isSame_50 : decode cX4_isSame 50 = .ok (.iload 9, 2) := by decide +kernel
theorem dX4_isSame_52 : decode cX4_isSame 52 = .ok (.aaload, 1) := by decide +kernel
theorem dX4_isSame_53 : decode cX4_isSame 53 = .ok (.astore 10, 2) := by decide +kernel
theorem dX4_isSame_55 : decode cX4_isSame 55 = .ok (.bipush 7, 2) := by decide +kernel
theorem dX4_isSame_57 : decode cX4_isSame 57 = .ok (.newarray .int, 2) := by decide +kernel
theorem dX4_isSame_59 : decode cX4_isSame 59 = .ok (.dup, 1) := by decide +kernel
theorem dX4_isSame_60 : decode cX4_isSame 60 = .ok (.iconst 0, 1) := by decide +kernel
theorem dX4_isSame_61 : decode cX4_isSame 61 = .ok (.aload 10, 2) := by decide +kernel
theorem dX4_isSame_63 : decode cX4_isSame 63 = .ok (.iconst 0, 1) := by decide +kernel
theorem dX4_isSame_64 : decode cX4_isSame 64 = .ok (.iaload, 1) := by decide +kernel
theorem dX4_isSame_65 : decode cX4_isSame 65 = .ok (.iastore, 1) := by decide +kernel
theorem dX4_isSame_66 : decode cX4_isSame 66 = .ok (.dup, 1) := by decide +kernel
theorem dX4_isSame_67 : decode cX4_isSame 67 = .ok (.iconst 1, 1) := by decide +kernel
theorem dX4_isSame_68 : decode cX4_isSame 68 = .ok (.aload 10, 2) := by decide +kernel
theorem dX4_isSame_70 : decode cX4_isSame 70 = .ok (.iconst 1, 1) := by decide +kernel
theorem dX4_isSame_71 : decode cX4_isSame 71 = .ok (.iaload, 1) := by decide +kernel
theorem dX4_isSame_72 : decode cX4_isSame 72 = .ok (.iastore, 1) := by decide +kernel
theorem dX4_isSame_73 : decode cX4_isSame 73 = .ok (.dup, 1) := by decide +kernel
theorem dX4_isSame_74 : decode cX4_isSame 74 = .ok (.iconst 2, 1) := by decide +kernel
theorem dX4_isSame_75 : decode cX4_isSame 75 = .ok (.aload 10, 2) := by decide +kernel
theorem dX4_isSame_77 : decode cX4_isSame 77 = .ok (.iconst 2, 1) := by decide +kernel
theorem dX4_isSame_78 : decode cX4_isSame 78 = .ok (.iaload, 1) := by decide +kernel
theorem dX4_isSame_79 : decode cX4_isSame 79 = .ok (.iastore, 1) := by decide +kernel
theorem dX4_isSame_80 : decode cX4_isSame 80 = .ok (.dup, 1) := by decide +kernel
theorem dX4_isSame_81 : decode cX4_isSame 81 = .ok (.iconst 3, 1) := by decide +kernel
theorem dX4_isSame_82 : decode cX4_isSame 82 = .ok (.aload 10, 2) := by decide +kernel
theorem dX4_isSame_84 : decode cX4_isSame 84 = .ok (.iconst 3, 1) := by decide +kernel
theorem dX4_isSame_85 : decode cX4_isSame 85 = .ok (.iaload, 1) := by decide +kernel
theorem dX4_isSame_86 : decode cX4_isSame 86 = .ok (.iastore, 1) := by decide +kernel
theorem dX4_isSame_87 : decode cX4_isSame 87 = .ok (.dup, 1) := by decide +kernel
theorem dX4_isSame_88 : decode cX4_isSame 88 = .ok (.iconst 4, 1) := by decide +kernel
theorem dX4_isSame_89 : decode cX4_isSame 89 = .ok (.aload 10, 2) := by decide +kernel
theorem dX4_isSame_91 : decode cX4_isSame 91 = .ok (.iconst 4, 1) := by decide +kernel
theorem dX4_isSame_92 : decode cX4_isSame 92 = .ok (.iaload, 1) := by decide +kernel
theorem dX4_isSame_93 : decode cX4_isSame 93 = .ok (.iastore, 1) := by decide +kernel
theorem dX4_isSame_94 : decode cX4_isSame 94 = .ok (.dup, 1) := by decide +kernel
theorem dX4_isSame_95 : decode cX4_isSame 95 = .ok (.iconst 5, 1) := by decide +kernel
theorem dX4_isSame_96 : decode cX4_isSame 96 = .ok (.aload_n 0, 1) := by decide +kernel
theorem dX4_isSame_97 : decode cX4_isSame 97 = .ok (.iload 9, 2) := by decide +kernel
theorem dX4_isSame_99 : decode cX4_isSame 99 = .ok (.invokevirtual 71, 3) := by decide +kernel
theorem dX4_isSame_102 : decode cX4_isSame 102 = .ok (.iastore, 1) := by decide +kernel
theorem dX4_isSame_103 : decode cX4_isSame 103 = .ok (.dup, 1) := by decide +kernel
theorem dX4_isSame_104 : decode cX4_isSame 104 = .ok (.bipush 6, 2) := by decide +kernel
theorem dX4_isSame_106 : decode cX4_isSame 106 = .ok (.aload_n 0, 1) := by decide +kernel
theorem dX4_isSame_107 : decode cX4_isSame 107 = .ok (.iload 9, 2) := by decide +kernel
theorem dX4_isSame_109 : decode cX4_isSame 109 = .ok (.iconst 1, 1) := by decide +kernel
theorem dX4_isSame_110 : decode cX4_isSame 110 = .ok (.isub, 1) := by decide +kernel
theorem dX4_isSame_111 : decode cX4_isSame 111 = .ok (.invokevirtual 71, 3) := by decide +kernel
theorem dX4_isSame_114 : decode cX4_isSame 114 = .ok (.iastore, 1) := by decide +kernel
theorem dX4_isSame_115 : decode cX4_isSame 115 = .ok (.astore 11, 2) := by decide +kernel
theorem dX4_isSame_117 : decode cX4_isSame 117 = .ok (.iconst 0, 1) := by decide +kernel
theorem dX4_isSame_118 : decode cX4_isSame 118 = .ok (.istore 12, 2) := by decide +kernel
theorem dX4_isSame_120 : decode cX4_isSame 120 = .ok (.iload 12, 2) := by decide +kernel
theorem dX4_isSame_122 : decode cX4_isSame 122 = .ok (.bipush 7, 2) := by decide +kernel
theorem dX4_isSame_124 : decode cX4_isSame 124 = .ok (.if_icmp .ge 27, 3) := by decide +kernel
theorem dX4_isSame_127 : decode cX4_isSame 127 = .ok (.aload_n 1, 1) := by decide +kernel
theorem dX4_isSame_128 : decode cX4_isSame 128 = .ok (.iload 9, 2) := by decide +kernel
theorem dX4_isSame_130 : decode cX4_isSame 130 = .ok (.iload 12, 2) := by decide +kernel
theorem dX4_isSame_132 : decode cX4_isSame 132 = .ok (.invokevirtual 74, 3) := by decide +kernel
theorem dX4_isSame_135 : decode cX4_isSame 135 = .ok (.aload 11, 2) := by decide +kernel
theorem dX4_isSame_137 : decode cX4_isSame 137 = .ok (.iload 12, 2) := by decide +kernel
theorem dX4_isSame_139 : decode cX4_isSame 139 = .ok (.iaload, 1) := by decide +kernel
theorem dX4_isSame_140 : decode cX4_isSame 140 = .ok (.if_icmp .eq 5, 3) := by decide +kernel
theorem dX4_isSame_143 : decode cX4_isSame 143 = .ok (.iconst 0, 1) := by decide +kernel
theorem dX4_isSame_144 : decode cX4_isSame 144 = .ok (.ireturn, 1) := by decide +kernel
theorem dX4_isSame_145 : decode cX4_isSame 145 = .ok (.iinc 12 1, 3) := by decide +kernel
theorem dX4_isSame_148 : decode cX4_isSame 148 = .ok (.goto (-28), 3) := by decide +kernel
theorem dX4_isSame_151 : decode cX4_isSame 151 = .ok (.iconst 0, 1) := by decide +kernel
theorem dX4_isSame_152 : decode cX4_isSame 152 = .ok (.istore 12, 2) := by decide +kernel
theorem dX4_isSame_154 : decode cX4_isSame 154 = .ok (.iload 12, 2) := by decide +kernel
theorem dX4_isSame_156 : decode cX4_isSame 156 = .ok (.bipush 16, 2) := by decide +kernel
theorem dX4_isSame_158 : decode cX4_isSame 158 = .ok (.if_icmp .ge 30, 3) := by decide +kernel
theorem dX4_isSame_161 : decode cX4_isSame 161 = .ok (.aload_n 1, 1) := by decide +kernel
theorem dX4_isSame_162 : decode cX4_isSame 162 = .ok (.iload 12, 2) := by decide +kernel
theorem dX4_isSame_164 : decode cX4_isSame 164 = .ok (.iload 9, 2) := by decide +kernel
theorem dX4_isSame_166 : decode cX4_isSame 166 = .ok (.invokevirtual 79, 3) := by decide +kernel
theorem dX4_isSame_169 : decode cX4_isSame 169 = .ok (.aload_n 0, 1) := by decide +kernel
theorem dX4_isSame_170 : decode cX4_isSame 170 = .ok (.iload 12, 2) := by decide +kernel
theorem dX4_isSame_172 : decode cX4_isSame 172 = .ok (.iload 9, 2) := by decide +kernel
theorem dX4_isSame_174 : decode cX4_isSame 174 = .ok (.invokevirtual 33, 3) := by decide +kernel
theorem dX4_isSame_177 : decode cX4_isSame 177 = .ok (.if_icmp .eq 5, 3) := by decide +kernel
theorem dX4_isSame_180 : decode cX4_isSame 180 = .ok (.iconst 0, 1) := by decide +kernel
theorem dX4_isSame_181 : decode cX4_isSame 181 = .ok (.ireturn, 1) := by decide +kernel
theorem dX4_isSame_182 : decode cX4_isSame 182 = .ok (.iinc 12 1, 3) := by decide +kernel
theorem dX4_isSame_185 : decode cX4_isSame 185 = .ok (.goto (-31), 3) := by decide +kernel
theorem dX4_isSame_188 : decode cX4_isSame 188 = .ok (.iload 4, 2) := by decide +kernel
theorem dX4_isSame_190 : decode cX4_isSame 190 = .ok (.aload 11, 2) := by decide +kernel
theorem dX4_isSame_192 : decode cX4_isSame 192 = .ok (.iconst 5, 1) := by decide +kernel
theorem dX4_isSame_193 : decode cX4_isSame 193 = .ok (.iaload, 1) := by decide +kernel
theorem dX4_isSame_194 : decode cX4_isSame 194 = .ok (.invokestatic 80, 3) := by decide +kernel
theorem dX4_isSame_197 : decode cX4_isSame 197 = .ok (.istore 4, 2) := by decide +kernel
theorem dX4_isSame_199 : decode cX4_isSame 199 = .ok (.iload 5, 2) := by decide +kernel
theorem dX4_isSame_201 : decode cX4_isSame 201 = .ok (.aload 11, 2) := by decide +kernel
theorem dX4_isSame_203 : decode cX4_isSame 203 = .ok (.iconst 5, 1) := by decide +kernel
theorem dX4_isSame_204 : decode cX4_isSame 204 = .ok (.iaload, 1) := by decide +kernel
theorem dX4_isSame_205 : decode cX4_isSame 205 = .ok (.iadd, 1) := by decide +kernel
theorem dX4_isSame_206 : decode cX4_isSame 206 = .ok (.istore 5, 2) := by decide +kernel
theorem dX4_isSame_208 : decode cX4_isSame 208 = .ok (.aload 10, 2) := by decide +kernel
theorem dX4_isSame_210 : decode cX4_isSame 210 = .ok (.iconst 4, 1) := by decide +kernel
theorem dX4_isSame_211 : decode cX4_isSame 211 = .ok (.iaload, 1) := by decide +kernel
theorem dX4_isSame_212 : decode cX4_isSame 212 = .ok (.iconst 1, 1) := by decide +kernel
theorem dX4_isSame_213 : decode cX4_isSame 213 = .ok (.if_icmp .ne 40, 3) := by decide +kernel
theorem dX4_isSame_216 : decode cX4_isSame 216 = .ok (.aload_n 0, 1) := by decide +kernel
theorem dX4_isSame_217 : decode cX4_isSame 217 = .ok (.getfield 26, 3) := by decide +kernel
theorem dX4_isSame_220 : decode cX4_isSame 220 = .ok (.aload 10, 2) := by decide +kernel
theorem dX4_isSame_222 : decode cX4_isSame 222 = .ok (.iconst 0, 1) := by decide +kernel
theorem dX4_isSame_223 : decode cX4_isSame 223 = .ok (.iaload, 1) := by decide +kernel
theorem dX4_isSame_224 : decode cX4_isSame 224 = .ok (.iaload, 1) := by decide +kernel
theorem dX4_isSame_225 : decode cX4_isSame 225 = .ok (.ifCond .lt 28, 3) := by decide +kernel
theorem dX4_isSame_228 : decode cX4_isSame 228 = .ok (.aload_n 0, 1) := by decide +kernel
theorem dX4_isSame_229 : decode cX4_isSame 229 = .ok (.getfield 26, 3) := by decide +kernel
theorem dX4_isSame_232 : decode cX4_isSame 232 = .ok (.aload 10, 2) := by decide +kernel
theorem dX4_isSame_234 : decode cX4_isSame 234 = .ok (.iconst 0, 1) := by decide +kernel
theorem dX4_isSame_235 : decode cX4_isSame 235 = .ok (.iaload, 1) := by decide +kernel
theorem dX4_isSame_236 : decode cX4_isSame 236 = .ok (.iaload, 1) := by decide +kernel
theorem dX4_isSame_237 : decode cX4_isSame 237 = .ok (.aload_n 0, 1) := by decide +kernel
theorem dX4_isSame_238 : decode cX4_isSame 238 = .ok (.getfield 26, 3) := by decide +kernel
theorem dX4_isSame_241 : decode cX4_isSame 241 = .ok (.aload 10, 2) := by decide +kernel
theorem dX4_isSame_243 : decode cX4_isSame 243 = .ok (.iconst 1, 1) := by decide +kernel
theorem dX4_isSame_244 : decode cX4_isSame 244 = .ok (.iaload, 1) := by decide +kernel
theorem dX4_isSame_245 : decode cX4_isSame 245 = .ok (.iaload, 1) := by decide +kernel
theorem dX4_isSame_246 : decode cX4_isSame 246 = .ok (.if_icmp .ne 7, 3) := by decide +kernel
theorem dX4_isSame_249 : decode cX4_isSame 249 = .ok (.iconst 1, 1) := by decide +kernel
theorem dX4_isSame_250 : decode cX4_isSame 250 = .ok (.goto 4, 3) := by decide +kernel
theorem dX4_isSame_253 : decode cX4_isSame 253 = .ok (.iconst 0, 1) := by decide +kernel
theorem dX4_isSame_254 : decode cX4_isSame 254 = .ok (.istore 12, 2) := by decide +kernel
theorem dX4_isSame_256 : decode cX4_isSame 256 = .ok (.iload 6, 2) := by decide +kernel
theorem dX4_isSame_258 : decode cX4_isSame 258 = .ok (.aload 10, 2) := by decide +kernel
theorem dX4_isSame_260 : decode cX4_isSame 260 = .ok (.iconst 4, 1) := by decide +kernel
theorem dX4_isSame_261 : decode cX4_isSame 261 = .ok (.iaload, 1) := by decide +kernel
theorem dX4_isSame_262 : decode cX4_isSame 262 = .ok (.iadd, 1) := by decide +kernel
theorem dX4_isSame_263 : decode cX4_isSame 263 = .ok (.istore 6, 2) := by decide +kernel
theorem dX4_isSame_265 : decode cX4_isSame 265 = .ok (.iload 7, 2) := by decide +kernel
theorem dX4_isSame_267 : decode cX4_isSame 267 = .ok (.iload 12, 2) := by decide +kernel
theorem dX4_isSame_269 : decode cX4_isSame 269 = .ok (.ifCond .eq 7, 3) := by decide +kernel
theorem dX4_isSame_272 : decode cX4_isSame 272 = .ok (.iconst 1, 1) := by decide +kernel
theorem dX4_isSame_273 : decode cX4_isSame 273 = .ok (.goto 4, 3) := by decide +kernel
theorem dX4_isSame_276 : decode cX4_isSame 276 = .ok (.iconst 0, 1) := by decide +kernel
theorem dX4_isSame_277 : decode cX4_isSame 277 = .ok (.iadd, 1) := by decide +kernel
theorem dX4_isSame_278 : decode cX4_isSame 278 = .ok (.istore 7, 2) := by decide +kernel
theorem dX4_isSame_280 : decode cX4_isSame 280 = .ok (.iload 8, 2) := by decide +kernel
theorem dX4_isSame_282 : decode cX4_isSame 282 = .ok (.iload 12, 2) := by decide +kernel
theorem dX4_isSame_284 : decode cX4_isSame 284 = .ok (.ifCond .eq 7, 3) := by decide +kernel
theorem dX4_isSame_287 : decode cX4_isSame 287 = .ok (.iconst 0, 1) := by decide +kernel
theorem dX4_isSame_288 : decode cX4_isSame 288 = .ok (.goto 7, 3) := by decide +kernel
theorem dX4_isSame_291 : decode cX4_isSame 291 = .ok (.aload 10, 2) := by decide +kernel
theorem dX4_isSame_293 : decode cX4_isSame 293 = .ok (.iconst 3, 1) := by decide +kernel
theorem dX4_isSame_294 : decode cX4_isSame 294 = .ok (.iaload, 1) := by decide +kernel
theorem dX4_isSame_295 : decode cX4_isSame 295 = .ok (.iadd, 1) := by decide +kernel
theorem dX4_isSame_296 : decode cX4_isSame 296 = .ok (.istore 8, 2) := by decide +kernel
theorem dX4_isSame_298 : decode cX4_isSame 298 = .ok (.iinc 9 1, 3) := by decide +kernel
theorem dX4_isSame_301 : decode cX4_isSame 301 = .ok (.goto (-265), 3) := by decide +kernel
theorem dX4_isSame_304 : decode cX4_isSame 304 = .ok (.iconst 0, 1) := by decide +kernel
theorem dX4_isSame_305 : decode cX4_isSame 305 = .ok (.istore 9, 2) := by decide +kernel
theorem dX4_isSame_307 : decode cX4_isSame 307 = .ok (.iconst 0, 1) := by decide +kernel
theorem dX4_isSame_308 : decode cX4_isSame 308 = .ok (.istore 10, 2) := by decide +kernel
theorem dX4_isSame_310 : decode cX4_isSame 310 = .ok (.bipush 16, 2) := by decide +kernel
theorem dX4_isSame_312 : decode cX4_isSame 312 = .ok (.newarray .boolean, 2) := by decide +kernel
theorem dX4_isSame_314 : decode cX4_isSame 314 = .ok (.astore 11, 2) := by decide +kernel
theorem dX4_isSame_316 : decode cX4_isSame 316 = .ok (.iconst 0, 1) := by decide +kernel
theorem dX4_isSame_317 : decode cX4_isSame 317 = .ok (.istore 12, 2) := by decide +kernel
theorem dX4_isSame_319 : decode cX4_isSame 319 = .ok (.iload 12, 2) := by decide +kernel
theorem dX4_isSame_321 : decode cX4_isSame 321 = .ok (.bipush 16, 2) := by decide +kernel
theorem dX4_isSame_323 : decode cX4_isSame 323 = .ok (.if_icmp .ge 223, 3) := by decide +kernel
theorem dX4_isSame_326 : decode cX4_isSame 326 = .ok (.iconst 0, 1) := by decide +kernel
theorem dX4_isSame_327 : decode cX4_isSame 327 = .ok (.istore 13, 2) := by decide +kernel
theorem dX4_isSame_329 : decode cX4_isSame 329 = .ok (.iconst 0, 1) := by decide +kernel
theorem dX4_isSame_330 : decode cX4_isSame 330 = .ok (.istore 14, 2) := by decide +kernel
theorem dX4_isSame_332 : decode cX4_isSame 332 = .ok (.iload 14, 2) := by decide +kernel
theorem dX4_isSame_334 : decode cX4_isSame 334 = .ok (.bipush 16, 2) := by decide +kernel
theorem dX4_isSame_336 : decode cX4_isSame 336 = .ok (.if_icmp .ge 49, 3) := by decide +kernel
theorem dX4_isSame_339 : decode cX4_isSame 339 = .ok (.aload_n 1, 1) := by decide +kernel
theorem dX4_isSame_340 : decode cX4_isSame 340 = .ok (.iload 12, 2) := by decide +kernel
theorem dX4_isSame_342 : decode cX4_isSame 342 = .ok (.iload 14, 2) := by decide +kernel
theorem dX4_isSame_344 : decode cX4_isSame 344 = .ok (.invokevirtual 83, 3) := by decide +kernel
theorem dX4_isSame_347 : decode cX4_isSame 347 = .ok (.aload_n 2, 1) := by decide +kernel
theorem dX4_isSame_348 : decode cX4_isSame 348 = .ok (.iload 12, 2) := by decide +kernel
theorem dX4_isSame_350 : decode cX4_isSame 350 = .ok (.aaload, 1) := by decide +kernel
theorem dX4_isSame_351 : decode cX4_isSame 351 = .ok (.iload 14, 2) := by decide +kernel
theorem dX4_isSame_353 : decode cX4_isSame 353 = .ok (.baload, 1) := by decide +kernel
theorem dX4_isSame_354 : decode cX4_isSame 354 = .ok (.if_icmp .eq 5, 3) := by decide +kernel
theorem dX4_isSame_357 : decode cX4_isSame 357 = .ok (.iconst 0, 1) := by decide +kernel
theorem dX4_isSame_358 : decode cX4_isSame 358 = .ok (.ireturn, 1) := by decide +kernel
theorem dX4_isSame_359 : decode cX4_isSame 359 = .ok (.iload 13, 2) := by decide +kernel
theorem dX4_isSame_361 : decode cX4_isSame 361 = .ok (.aload_n 2, 1) := by decide +kernel
theorem dX4_isSame_362 : decode cX4_isSame 362 = .ok (.iload 12, 2) := by decide +kernel
theorem dX4_isSame_364 : decode cX4_isSame 364 = .ok (.aaload, 1) := by decide +kernel
theorem dX4_isSame_365 : decode cX4_isSame 365 = .ok (.iload 14, 2) := by decide +kernel
theorem dX4_isSame_367 : decode cX4_isSame 367 = .ok (.baload, 1) := by decide +kernel
theorem dX4_isSame_368 : decode cX4_isSame 368 = .ok (.ifCond .eq 7, 3) := by decide +kernel
theorem dX4_isSame_371 : decode cX4_isSame 371 = .ok (.iconst 1, 1) := by decide +kernel
theorem dX4_isSame_372 : decode cX4_isSame 372 = .ok (.goto 4, 3) := by decide +kernel
theorem dX4_isSame_375 : decode cX4_isSame 375 = .ok (.iconst 0, 1) := by decide +kernel
theorem dX4_isSame_376 : decode cX4_isSame 376 = .ok (.iadd, 1) := by decide +kernel
theorem dX4_isSame_377 : decode cX4_isSame 377 = .ok (.istore 13, 2) := by decide +kernel
theorem dX4_isSame_379 : decode cX4_isSame 379 = .ok (.iinc 14 1, 3) := by decide +kernel
theorem dX4_isSame_382 : decode cX4_isSame 382 = .ok (.goto (-50), 3) := by decide +kernel
theorem dX4_isSame_385 : decode cX4_isSame 385 = .ok (.aload_n 0, 1) := by decide +kernel
theorem dX4_isSame_386 : decode cX4_isSame 386 = .ok (.iload 12, 2) := by decide +kernel
theorem dX4_isSame_388 : decode cX4_isSame 388 = .ok (.invokevirtual 52, 3) := by decide +kernel
theorem dX4_isSame_391 : decode cX4_isSame 391 = .ok (.istore 14, 2) := by decide +kernel
theorem dX4_isSame_393 : decode cX4_isSame 393 = .ok (.bipush 6, 2) := by decide +kernel
theorem dX4_isSame_395 : decode cX4_isSame 395 = .ok (.newarray .int, 2) := by decide +kernel
theorem dX4_isSame_397 : decode cX4_isSame 397 = .ok (.dup, 1) := by decide +kernel
theorem dX4_isSame_398 : decode cX4_isSame 398 = .ok (.iconst 0, 1) := by decide +kernel
theorem dX4_isSame_399 : decode cX4_isSame 399 = .ok (.iload 14, 2) := by decide +kernel
theorem dX4_isSame_401 : decode cX4_isSame 401 = .ok (.ifCond .eq 7, 3) := by decide +kernel
theorem dX4_isSame_404 : decode cX4_isSame 404 = .ok (.iconst 1, 1) := by decide +kernel
theorem dX4_isSame_405 : decode cX4_isSame 405 = .ok (.goto 4, 3) := by decide +kernel
theorem dX4_isSame_408 : decode cX4_isSame 408 = .ok (.iconst 0, 1) := by decide +kernel
theorem dX4_isSame_409 : decode cX4_isSame 409 = .ok (.iastore, 1) := by decide +kernel
theorem dX4_isSame_410 : decode cX4_isSame 410 = .ok (.dup, 1) := by decide +kernel
theorem dX4_isSame_411 : decode cX4_isSame 411 = .ok (.iconst 1, 1) := by decide +kernel
theorem dX4_isSame_412 : decode cX4_isSame 412 = .ok (.aload_n 0, 1) := by decide +kernel
theorem dX4_isSame_413 : decode cX4_isSame 413 = .ok (.iload 12, 2) := by decide +kernel
theorem dX4_isSame_415 : decode cX4_isSame 415 = .ok (.invokevirtual 60, 3) := by decide +kernel
theorem dX4_isSame_418 : decode cX4_isSame 418 = .ok (.iastore, 1) := by decide +kernel
theorem dX4_isSame_419 : decode cX4_isSame 419 = .ok (.dup, 1) := by decide +kernel
theorem dX4_isSame_420 : decode cX4_isSame 420 = .ok (.iconst 2, 1) := by decide +kernel
theorem dX4_isSame_421 : decode cX4_isSame 421 = .ok (.iload 13, 2) := by decide +kernel
theorem dX4_isSame_423 : decode cX4_isSame 423 = .ok (.iastore, 1) := by decide +kernel
theorem dX4_isSame_424 : decode cX4_isSame 424 = .ok (.dup, 1) := by decide +kernel
theorem dX4_isSame_425 : decode cX4_isSame 425 = .ok (.iconst 3, 1) := by decide +kernel
theorem dX4_isSame_426 : decode cX4_isSame 426 = .ok (.aload_n 0, 1) := by decide +kernel
theorem dX4_isSame_427 : decode cX4_isSame 427 = .ok (.getfield 26, 3) := by decide +kernel
theorem dX4_isSame_430 : decode cX4_isSame 430 = .ok (.iload 12, 2) := by decide +kernel
theorem dX4_isSame_432 : decode cX4_isSame 432 = .ok (.iaload, 1) := by decide +kernel
theorem dX4_isSame_433 : decode cX4_isSame 433 = .ok (.iastore, 1) := by decide +kernel
theorem dX4_isSame_434 : decode cX4_isSame 434 = .ok (.dup, 1) := by decide +kernel
theorem dX4_isSame_435 : decode cX4_isSame 435 = .ok (.iconst 4, 1) := by decide +kernel
theorem dX4_isSame_436 : decode cX4_isSame 436 = .ok (.aload_n 0, 1) := by decide +kernel
theorem dX4_isSame_437 : decode cX4_isSame 437 = .ok (.getfield 23, 3) := by decide +kernel
theorem dX4_isSame_440 : decode cX4_isSame 440 = .ok (.iload 12, 2) := by decide +kernel
theorem dX4_isSame_442 : decode cX4_isSame 442 = .ok (.iaload, 1) := by decide +kernel
theorem dX4_isSame_443 : decode cX4_isSame 443 = .ok (.iastore, 1) := by decide +kernel
theorem dX4_isSame_444 : decode cX4_isSame 444 = .ok (.dup, 1) := by decide +kernel
theorem dX4_isSame_445 : decode cX4_isSame 445 = .ok (.iconst 5, 1) := by decide +kernel
theorem dX4_isSame_446 : decode cX4_isSame 446 = .ok (.iload 14, 2) := by decide +kernel
theorem dX4_isSame_448 : decode cX4_isSame 448 = .ok (.ifCond .eq 17, 3) := by decide +kernel
theorem dX4_isSame_451 : decode cX4_isSame 451 = .ok (.aload_n 0, 1) := by decide +kernel
theorem dX4_isSame_452 : decode cX4_isSame 452 = .ok (.getfield 26, 3) := by decide +kernel
theorem dX4_isSame_455 : decode cX4_isSame 455 = .ok (.iload 12, 2) := by decide +kernel
theorem dX4_isSame_457 : decode cX4_isSame 457 = .ok (.iaload, 1) := by decide +kernel
theorem dX4_isSame_458 : decode cX4_isSame 458 = .ok (.ifCond .ge 7, 3) := by decide +kernel
theorem dX4_isSame_461 : decode cX4_isSame 461 = .ok (.iconst 1, 1) := by decide +kernel
theorem dX4_isSame_462 : decode cX4_isSame 462 = .ok (.goto 4, 3) := by decide +kernel
theorem dX4_isSame_465 : decode cX4_isSame 465 = .ok (.iconst 0, 1) := by decide +kernel
theorem dX4_isSame_466 : decode cX4_isSame 466 = .ok (.iastore, 1) := by decide +kernel
theorem dX4_isSame_467 : decode cX4_isSame 467 = .ok (.astore 15, 2) := by decide +kernel
theorem dX4_isSame_469 : decode cX4_isSame 469 = .ok (.iconst 0, 1) := by decide +kernel
theorem dX4_isSame_470 : decode cX4_isSame 470 = .ok (.istore 16, 2) := by decide +kernel
theorem dX4_isSame_472 : decode cX4_isSame 472 = .ok (.iload 16, 2) := by decide +kernel
theorem dX4_isSame_474 : decode cX4_isSame 474 = .ok (.bipush 6, 2) := by decide +kernel
theorem dX4_isSame_476 : decode cX4_isSame 476 = .ok (.if_icmp .ge 27, 3) := by decide +kernel
theorem dX4_isSame_479 : decode cX4_isSame 479 = .ok (.aload_n 1, 1) := by decide +kernel
theorem dX4_isSame_480 : decode cX4_isSame 480 = .ok (.iload 12, 2) := by decide +kernel
theorem dX4_isSame_482 : decode cX4_isSame 482 = .ok (.iload 16, 2) := by decide +kernel
theorem dX4_isSame_484 : decode cX4_isSame 484 = .ok (.invokevirtual 86, 3) := by decide +kernel
theorem dX4_isSame_487 : decode cX4_isSame 487 = .ok (.aload 15, 2) := by decide +kernel
theorem dX4_isSame_489 : decode cX4_isSame 489 = .ok (.iload 16, 2) := by decide +kernel
theorem dX4_isSame_491 : decode cX4_isSame 491 = .ok (.iaload, 1) := by decide +kernel
theorem dX4_isSame_492 : decode cX4_isSame 492 = .ok (.if_icmp .eq 5, 3) := by decide +kernel
theorem dX4_isSame_495 : decode cX4_isSame 495 = .ok (.iconst 0, 1) := by decide +kernel
theorem dX4_isSame_496 : decode cX4_isSame 496 = .ok (.ireturn, 1) := by decide +kernel
theorem dX4_isSame_497 : decode cX4_isSame 497 = .ok (.iinc 16 1, 3) := by decide +kernel
theorem dX4_isSame_500 : decode cX4_isSame 500 = .ok (.goto (-28), 3) := by decide +kernel
theorem dX4_isSame_503 : decode cX4_isSame 503 = .ok (.iload 9, 2) := by decide +kernel
theorem dX4_isSame_505 : decode cX4_isSame 505 = .ok (.aload 15, 2) := by decide +kernel
theorem dX4_isSame_507 : decode cX4_isSame 507 = .ok (.iconst 0, 1) := by decide +kernel
theorem dX4_isSame_508 : decode cX4_isSame 508 = .ok (.iaload, 1) := by decide +kernel
theorem dX4_isSame_509 : decode cX4_isSame 509 = .ok (.iadd, 1) := by decide +kernel
theorem dX4_isSame_510 : decode cX4_isSame 510 = .ok (.istore 9, 2) := by decide +kernel
theorem dX4_isSame_512 : decode cX4_isSame 512 = .ok (.iload 10, 2) := by decide +kernel
theorem dX4_isSame_514 : decode cX4_isSame 514 = .ok (.iload 13, 2) := by decide +kernel
theorem dX4_isSame_516 : decode cX4_isSame 516 = .ok (.iadd, 1) := by decide +kernel
theorem dX4_isSame_517 : decode cX4_isSame 517 = .ok (.istore 10, 2) := by decide +kernel
theorem dX4_isSame_519 : decode cX4_isSame 519 = .ok (.aload_n 0, 1) := by decide +kernel
theorem dX4_isSame_520 : decode cX4_isSame 520 = .ok (.getfield 26, 3) := by decide +kernel
theorem dX4_isSame_523 : decode cX4_isSame 523 = .ok (.iload 12, 2) := by decide +kernel
theorem dX4_isSame_525 : decode cX4_isSame 525 = .ok (.iaload, 1) := by decide +kernel
theorem dX4_isSame_526 : decode cX4_isSame 526 = .ok (.ifCond .lt 14, 3) := by decide +kernel
theorem dX4_isSame_529 : decode cX4_isSame 529 = .ok (.aload 11, 2) := by decide +kernel
theorem dX4_isSame_531 : decode cX4_isSame 531 = .ok (.aload_n 0, 1) := by decide +kernel
theorem dX4_isSame_532 : decode cX4_isSame 532 = .ok (.getfield 26, 3) := by decide +kernel
theorem dX4_isSame_535 : decode cX4_isSame 535 = .ok (.iload 12, 2) := by decide +kernel
theorem dX4_isSame_537 : decode cX4_isSame 537 = .ok (.iaload, 1) := by decide +kernel
theorem dX4_isSame_538 : decode cX4_isSame 538 = .ok (.iconst 1, 1) := by decide +kernel
theorem dX4_isSame_539 : decode cX4_isSame 539 = .ok (.bastore, 1) := by decide +kernel
theorem dX4_isSame_540 : decode cX4_isSame 540 = .ok (.iinc 12 1, 3) := by decide +kernel
theorem dX4_isSame_543 : decode cX4_isSame 543 = .ok (.goto (-224), 3) := by decide +kernel
theorem dX4_isSame_546 : decode cX4_isSame 546 = .ok (.iconst 0, 1) := by decide +kernel
theorem dX4_isSame_547 : decode cX4_isSame 547 = .ok (.istore 12, 2) := by decide +kernel
theorem dX4_isSame_549 : decode cX4_isSame 549 = .ok (.iconst 0, 1) := by decide +kernel
theorem dX4_isSame_550 : decode cX4_isSame 550 = .ok (.istore 13, 2) := by decide +kernel
theorem dX4_isSame_552 : decode cX4_isSame 552 = .ok (.iload 13, 2) := by decide +kernel
theorem dX4_isSame_554 : decode cX4_isSame 554 = .ok (.aload_n 0, 1) := by decide +kernel
theorem dX4_isSame_555 : decode cX4_isSame 555 = .ok (.getfield 19, 3) := by decide +kernel
theorem dX4_isSame_558 : decode cX4_isSame 558 = .ok (.if_icmp .ge 81, 3) := by decide +kernel
theorem dX4_isSame_561 : decode cX4_isSame 561 = .ok (.iconst 0, 1) := by decide +kernel
theorem dX4_isSame_562 : decode cX4_isSame 562 = .ok (.istore 14, 2) := by decide +kernel
theorem dX4_isSame_564 : decode cX4_isSame 564 = .ok (.iconst 0, 1) := by decide +kernel
theorem dX4_isSame_565 : decode cX4_isSame 565 = .ok (.istore 15, 2) := by decide +kernel
theorem dX4_isSame_567 : decode cX4_isSame 567 = .ok (.iload 15, 2) := by decide +kernel
theorem dX4_isSame_569 : decode cX4_isSame 569 = .ok (.bipush 16, 2) := by decide +kernel
theorem dX4_isSame_571 : decode cX4_isSame 571 = .ok (.if_icmp .ge 31, 3) := by decide +kernel
theorem dX4_isSame_574 : decode cX4_isSame 574 = .ok (.iload 14, 2) := by decide +kernel
theorem dX4_isSame_576 : decode cX4_isSame 576 = .ok (.aload_n 0, 1) := by decide +kernel
theorem dX4_isSame_577 : decode cX4_isSame 577 = .ok (.getfield 26, 3) := by decide +kernel
theorem dX4_isSame_580 : decode cX4_isSame 580 = .ok (.iload 15, 2) := by decide +kernel
theorem dX4_isSame_582 : decode cX4_isSame 582 = .ok (.iaload, 1) := by decide +kernel
theorem dX4_isSame_583 : decode cX4_isSame 583 = .ok (.iload 13, 2) := by decide +kernel
theorem dX4_isSame_585 : decode cX4_isSame 585 = .ok (.if_icmp .ne 7, 3) := by decide +kernel
theorem dX4_isSame_588 : decode cX4_isSame 588 = .ok (.iconst 1, 1) := by decide +kernel
theorem dX4_isSame_589 : decode cX4_isSame 589 = .ok (.goto 4, 3) := by decide +kernel
theorem dX4_isSame_592 : decode cX4_isSame 592 = .ok (.iconst 0, 1) := by decide +kernel
theorem dX4_isSame_593 : decode cX4_isSame 593 = .ok (.iadd, 1) := by decide +kernel
theorem dX4_isSame_594 : decode cX4_isSame 594 = .ok (.istore 14, 2) := by decide +kernel
theorem dX4_isSame_596 : decode cX4_isSame 596 = .ok (.iinc 15 1, 3) := by decide +kernel
theorem dX4_isSame_599 : decode cX4_isSame 599 = .ok (.goto (-32), 3) := by decide +kernel
theorem dX4_isSame_602 : decode cX4_isSame 602 = .ok (.aload_n 1, 1) := by decide +kernel
theorem dX4_isSame_603 : decode cX4_isSame 603 = .ok (.iload 13, 2) := by decide +kernel
theorem dX4_isSame_605 : decode cX4_isSame 605 = .ok (.invokevirtual 89, 3) := by decide +kernel
theorem dX4_isSame_608 : decode cX4_isSame 608 = .ok (.iload 14, 2) := by decide +kernel
theorem dX4_isSame_610 : decode cX4_isSame 610 = .ok (.if_icmp .eq 5, 3) := by decide +kernel
theorem dX4_isSame_613 : decode cX4_isSame 613 = .ok (.iconst 0, 1) := by decide +kernel
theorem dX4_isSame_614 : decode cX4_isSame 614 = .ok (.ireturn, 1) := by decide +kernel
theorem dX4_isSame_615 : decode cX4_isSame 615 = .ok (.iload 12, 2) := by decide +kernel
theorem dX4_isSame_617 : decode cX4_isSame 617 = .ok (.aload 11, 2) := by decide +kernel
theorem dX4_isSame_619 : decode cX4_isSame 619 = .ok (.iload 13, 2) := by decide +kernel
theorem dX4_isSame_621 : decode cX4_isSame 621 = .ok (.baload, 1) := by decide +kernel
theorem dX4_isSame_622 : decode cX4_isSame 622 = .ok (.ifCond .eq 7, 3) := by decide +kernel
theorem dX4_isSame_625 : decode cX4_isSame 625 = .ok (.iconst 1, 1) := by decide +kernel
theorem dX4_isSame_626 : decode cX4_isSame 626 = .ok (.goto 4, 3) := by decide +kernel
theorem dX4_isSame_629 : decode cX4_isSame 629 = .ok (.iconst 0, 1) := by decide +kernel
theorem dX4_isSame_630 : decode cX4_isSame 630 = .ok (.iadd, 1) := by decide +kernel
theorem dX4_isSame_631 : decode cX4_isSame 631 = .ok (.istore 12, 2) := by decide +kernel
theorem dX4_isSame_633 : decode cX4_isSame 633 = .ok (.iinc 13 1, 3) := by decide +kernel
theorem dX4_isSame_636 : decode cX4_isSame 636 = .ok (.goto (-84), 3) := by decide +kernel
theorem dX4_isSame_639 : decode cX4_isSame 639 = .ok (.bipush 10, 2) := by decide +kernel
theorem dX4_isSame_641 : decode cX4_isSame 641 = .ok (.newarray .int, 2) := by decide +kernel
theorem dX4_isSame_643 : decode cX4_isSame 643 = .ok (.dup, 1) := by decide +kernel
theorem dX4_isSame_644 : decode cX4_isSame 644 = .ok (.iconst 0, 1) := by decide +kernel
theorem dX4_isSame_645 : decode cX4_isSame 645 = .ok (.aload_n 0, 1) := by decide +kernel
theorem dX4_isSame_646 : decode cX4_isSame 646 = .ok (.getfield 9, 3) := by decide +kernel
theorem dX4_isSame_649 : decode cX4_isSame 649 = .ok (.arraylength, 1) := by decide +kernel
theorem dX4_isSame_650 : decode cX4_isSame 650 = .ok (.iastore, 1) := by decide +kernel
theorem dX4_isSame_651 : decode cX4_isSame 651 = .ok (.dup, 1) := by decide +kernel
theorem dX4_isSame_652 : decode cX4_isSame 652 = .ok (.iconst 1, 1) := by decide +kernel
theorem dX4_isSame_653 : decode cX4_isSame 653 = .ok (.aload_n 0, 1) := by decide +kernel
theorem dX4_isSame_654 : decode cX4_isSame 654 = .ok (.getfield 19, 3) := by decide +kernel
theorem dX4_isSame_657 : decode cX4_isSame 657 = .ok (.iastore, 1) := by decide +kernel
theorem dX4_isSame_658 : decode cX4_isSame 658 = .ok (.dup, 1) := by decide +kernel
theorem dX4_isSame_659 : decode cX4_isSame 659 = .ok (.iconst 2, 1) := by decide +kernel
theorem dX4_isSame_660 : decode cX4_isSame 660 = .ok (.iload 9, 2) := by decide +kernel
theorem dX4_isSame_662 : decode cX4_isSame 662 = .ok (.iastore, 1) := by decide +kernel
theorem dX4_isSame_663 : decode cX4_isSame 663 = .ok (.dup, 1) := by decide +kernel
theorem dX4_isSame_664 : decode cX4_isSame 664 = .ok (.iconst 3, 1) := by decide +kernel
theorem dX4_isSame_665 : decode cX4_isSame 665 = .ok (.iload 10, 2) := by decide +kernel
theorem dX4_isSame_667 : decode cX4_isSame 667 = .ok (.iconst 2, 1) := by decide +kernel
theorem dX4_isSame_668 : decode cX4_isSame 668 = .ok (.idiv, 1) := by decide +kernel
theorem dX4_isSame_669 : decode cX4_isSame 669 = .ok (.iastore, 1) := by decide +kernel
theorem dX4_isSame_670 : decode cX4_isSame 670 = .ok (.dup, 1) := by decide +kernel
theorem dX4_isSame_671 : decode cX4_isSame 671 = .ok (.iconst 4, 1) := by decide +kernel
theorem dX4_isSame_672 : decode cX4_isSame 672 = .ok (.iload_n 3, 1) := by decide +kernel
theorem dX4_isSame_673 : decode cX4_isSame 673 = .ok (.iastore, 1) := by decide +kernel
theorem dX4_isSame_674 : decode cX4_isSame 674 = .ok (.dup, 1) := by decide +kernel
theorem dX4_isSame_675 : decode cX4_isSame 675 = .ok (.iconst 5, 1) := by decide +kernel
theorem dX4_isSame_676 : decode cX4_isSame 676 = .ok (.iload 12, 2) := by decide +kernel
theorem dX4_isSame_678 : decode cX4_isSame 678 = .ok (.iastore, 1) := by decide +kernel
theorem dX4_isSame_679 : decode cX4_isSame 679 = .ok (.dup, 1) := by decide +kernel
theorem dX4_isSame_680 : decode cX4_isSame 680 = .ok (.bipush 6, 2) := by decide +kernel
theorem dX4_isSame_682 : decode cX4_isSame 682 = .ok (.iload 6, 2) := by decide +kernel
theorem dX4_isSame_684 : decode cX4_isSame 684 = .ok (.iastore, 1) := by decide +kernel
theorem dX4_isSame_685 : decode cX4_isSame 685 = .ok (.dup, 1) := by decide +kernel
theorem dX4_isSame_686 : decode cX4_isSame 686 = .ok (.bipush 7, 2) := by decide +kernel
theorem dX4_isSame_688 : decode cX4_isSame 688 = .ok (.iload 7, 2) := by decide +kernel
theorem dX4_isSame_690 : decode cX4_isSame 690 = .ok (.iastore, 1) := by decide +kernel
theorem dX4_isSame_691 : decode cX4_isSame 691 = .ok (.dup, 1) := by decide +kernel
theorem dX4_isSame_692 : decode cX4_isSame 692 = .ok (.bipush 8, 2) := by decide +kernel
theorem dX4_isSame_694 : decode cX4_isSame 694 = .ok (.aload_n 0, 1) := by decide +kernel
theorem dX4_isSame_695 : decode cX4_isSame 695 = .ok (.invokevirtual 92, 3) := by decide +kernel
theorem dX4_isSame_698 : decode cX4_isSame 698 = .ok (.iastore, 1) := by decide +kernel
theorem dX4_isSame_699 : decode cX4_isSame 699 = .ok (.dup, 1) := by decide +kernel
theorem dX4_isSame_700 : decode cX4_isSame 700 = .ok (.bipush 9, 2) := by decide +kernel
theorem dX4_isSame_702 : decode cX4_isSame 702 = .ok (.iload 8, 2) := by decide +kernel
theorem dX4_isSame_704 : decode cX4_isSame 704 = .ok (.iastore, 1) := by decide +kernel
theorem dX4_isSame_705 : decode cX4_isSame 705 = .ok (.astore 13, 2) := by decide +kernel
theorem dX4_isSame_707 : decode cX4_isSame 707 = .ok (.iconst 0, 1) := by decide +kernel
theorem dX4_isSame_708 : decode cX4_isSame 708 = .ok (.istore 14, 2) := by decide +kernel
theorem dX4_isSame_710 : decode cX4_isSame 710 = .ok (.iload 14, 2) := by decide +kernel
theorem dX4_isSame_712 : decode cX4_isSame 712 = .ok (.bipush 10, 2) := by decide +kernel
theorem dX4_isSame_714 : decode cX4_isSame 714 = .ok (.if_icmp .ge 25, 3) := by decide +kernel
theorem dX4_isSame_717 : decode cX4_isSame 717 = .ok (.aload_n 1, 1) := by decide +kernel
theorem dX4_isSame_718 : decode cX4_isSame 718 = .ok (.iload 14, 2) := by decide +kernel
theorem dX4_isSame_720 : decode cX4_isSame 720 = .ok (.invokevirtual 96, 3) := by decide +kernel
theorem dX4_isSame_723 : decode cX4_isSame 723 = .ok (.aload 13, 2) := by decide +kernel
theorem dX4_isSame_725 : decode cX4_isSame 725 = .ok (.iload 14, 2) := by decide +kernel
theorem dX4_isSame_727 : decode cX4_isSame 727 = .ok (.iaload, 1) := by decide +kernel
theorem dX4_isSame_728 : decode cX4_isSame 728 = .ok (.if_icmp .eq 5, 3) := by decide +kernel
theorem dX4_isSame_731 : decode cX4_isSame 731 = .ok (.iconst 0, 1) := by decide +kernel
theorem dX4_isSame_732 : decode cX4_isSame 732 = .ok (.ireturn, 1) := by decide +kernel
theorem dX4_isSame_733 : decode cX4_isSame 733 = .ok (.iinc 14 1, 3) := by decide +kernel
theorem dX4_isSame_736 : decode cX4_isSame 736 = .ok (.goto (-26), 3) := by decide +kernel
theorem dX4_isSame_739 : decode cX4_isSame 739 = .ok (.aload_n 1, 1) := by decide +kernel
theorem dX4_isSame_740 : decode cX4_isSame 740 = .ok (.invokevirtual 99, 3) := by decide +kernel
theorem dX4_isSame_743 : decode cX4_isSame 743 = .ok (.iload 4, 2) := by decide +kernel
theorem dX4_isSame_745 : decode cX4_isSame 745 = .ok (.if_icmp .ne 37, 3) := by decide +kernel
theorem dX4_isSame_748 : decode cX4_isSame 748 = .ok (.aload_n 1, 1) := by decide +kernel
theorem dX4_isSame_749 : decode cX4_isSame 749 = .ok (.invokevirtual 102, 3) := by decide +kernel
theorem dX4_isSame_752 : decode cX4_isSame 752 = .ok (.aload_n 0, 1) := by decide +kernel
theorem dX4_isSame_753 : decode cX4_isSame 753 = .ok (.getfield 9, 3) := by decide +kernel
theorem dX4_isSame_756 : decode cX4_isSame 756 = .ok (.arraylength, 1) := by decide +kernel
theorem dX4_isSame_757 : decode cX4_isSame 757 = .ok (.ifCond .ne 7, 3) := by decide +kernel
theorem dX4_isSame_760 : decode cX4_isSame 760 = .ok (.dconst 0, 1) := by decide +kernel
theorem dX4_isSame_761 : decode cX4_isSame 761 = .ok (.goto 13, 3) := by decide +kernel
theorem dX4_isSame_764 : decode cX4_isSame 764 = .ok (.iload 5, 2) := by decide +kernel
theorem dX4_isSame_766 : decode cX4_isSame 766 = .ok (.i2d, 1) := by decide +kernel
theorem dX4_isSame_767 : decode cX4_isSame 767 = .ok (.aload_n 0, 1) := by decide +kernel
theorem dX4_isSame_768 : decode cX4_isSame 768 = .ok (.getfield 9, 3) := by decide +kernel
theorem dX4_isSame_771 : decode cX4_isSame 771 = .ok (.arraylength, 1) := by decide +kernel
theorem dX4_isSame_772 : decode cX4_isSame 772 = .ok (.i2d, 1) := by decide +kernel
theorem dX4_isSame_773 : decode cX4_isSame 773 = .ok (.ddiv, 1) := by decide +kernel
theorem dX4_isSame_774 : decode cX4_isSame 774 = .ok (.dcmp .l, 1) := by decide +kernel
theorem dX4_isSame_775 : decode cX4_isSame 775 = .ok (.ifCond .ne 7, 3) := by decide +kernel
theorem dX4_isSame_778 : decode cX4_isSame 778 = .ok (.iconst 1, 1) := by decide +kernel
theorem dX4_isSame_779 : decode cX4_isSame 779 = .ok (.goto 4, 3) := by decide +kernel
theorem dX4_isSame_782 : decode cX4_isSame 782 = .ok (.iconst 0, 1) := by decide +kernel
theorem dX4_isSame_783 : decode cX4_isSame 783 = .ok (.ireturn, 1) := by decide +kernel
theorem dX4_without_0 : decode cX4_without 0 = .ok (.aload_n 0, 1) := by decide +kernel
theorem dX4_without_1 : decode cX4_without 1 = .ok (.arraylength, 1) := by decide +kernel
theorem dX4_without_2 : decode cX4_without 2 = .ok (.iconst 1, 1) := by decide +kernel
theorem dX4_without_3 : decode cX4_without 3 = .ok (.isub, 1) := by decide +kernel
theorem dX4_without_4 : decode cX4_without 4 = .ok (.anewarray 7, 3) := by decide +kernel
theorem dX4_without_7 : decode cX4_without 7 = .ok (.astore_n 2, 1) := by decide +kernel
theorem dX4_without_8 : decode cX4_without 8 = .ok (.iconst 0, 1) := by decide +kernel
theorem dX4_without_9 : decode cX4_without 9 = .ok (.istore_n 3, 1) := by decide +kernel
theorem dX4_without_10 : decode cX4_without 10 = .ok (.iload_n 3, 1) := by decide +kernel
theorem dX4_without_11 : decode cX4_without 11 = .ok (.aload_n 2, 1) := by decide +kernel
theorem dX4_without_12 : decode cX4_without 12 = .ok (.arraylength, 1) := by decide +kernel
theorem dX4_without_13 : decode cX4_without 13 = .ok (.if_icmp .ge 26, 3) := by decide +kernel
theorem dX4_without_16 : decode cX4_without 16 = .ok (.aload_n 2, 1) := by decide +kernel
theorem dX4_without_17 : decode cX4_without 17 = .ok (.iload_n 3, 1) := by decide +kernel
theorem dX4_without_18 : decode cX4_without 18 = .ok (.aload_n 0, 1) := by decide +kernel
theorem dX4_without_19 : decode cX4_without 19 = .ok (.iload_n 3, 1) := by decide +kernel
theorem dX4_without_20 : decode cX4_without 20 = .ok (.iload_n 1, 1) := by decide +kernel
theorem dX4_without_21 : decode cX4_without 21 = .ok (.if_icmp .ge 7, 3) := by decide +kernel
theorem dX4_without_24 : decode cX4_without 24 = .ok (.iload_n 3, 1) := by decide +kernel
theorem dX4_without_25 : decode cX4_without 25 = .ok (.goto 6, 3) := by decide +kernel
theorem dX4_without_28 : decode cX4_without 28 = .ok (.iload_n 3, 1) := by decide +kernel
theorem dX4_without_29 : decode cX4_without 29 = .ok (.iconst 1, 1) := by decide +kernel
theorem dX4_without_30 : decode cX4_without 30 = .ok (.iadd, 1) := by decide +kernel
theorem dX4_without_31 : decode cX4_without 31 = .ok (.aaload, 1) := by decide +kernel
theorem dX4_without_32 : decode cX4_without 32 = .ok (.aastore, 1) := by decide +kernel
theorem dX4_without_33 : decode cX4_without 33 = .ok (.iinc 3 1, 3) := by decide +kernel
theorem dX4_without_36 : decode cX4_without 36 = .ok (.goto (-26), 3) := by decide +kernel
theorem dX4_without_39 : decode cX4_without 39 = .ok (.aload_n 2, 1) := by decide +kernel
theorem dX4_without_40 : decode cX4_without 40 = .ok (.areturn, 1) := by decide +kernel
