theorem dX4_init_0 : decode cX4_init 0 = .ok (.aload_n 0, 1) := by decide +kernel
theorem dX4_init_1 : decode cX4_init 1 = .ok (.invokespecial 1, 3) := by decide +kernel
theorem dX4_init_4 : decode cX4_init 4 = .ok (.aload_n 0, 1) := by decide +kernel
theorem dX4_init_5 : decode cX4_init 5 = .ok (.iconst 3, 1) := by decide +kernel
theorem dX4_init_6 : decode cX4_init 6 = .ok (.putfield 7, 3) := by decide +kernel
theorem dX4_init_9 : decode cX4_init 9 = .ok (.aload_n 0, 1) := by decide +kernel
theorem dX4_init_10 : decode cX4_init 10 = .ok (.bipush 30, 2) := by decide +kernel
theorem dX4_init_12 : decode cX4_init 12 = .ok (.newarray .int, 2) := by decide +kernel
theorem dX4_init_14 : decode cX4_init 14 = .ok (.putfield 13, 3) := by decide +kernel
theorem dX4_init_17 : decode cX4_init 17 = .ok (.aload_n 0, 1) := by decide +kernel
theorem dX4_init_18 : decode cX4_init 18 = .ok (.bipush 30, 2) := by decide +kernel
theorem dX4_init_20 : decode cX4_init 20 = .ok (.newarray .int, 2) := by decide +kernel
theorem dX4_init_22 : decode cX4_init 22 = .ok (.putfield 17, 3) := by decide +kernel
theorem dX4_init_25 : decode cX4_init 25 = .ok (.aload_n 0, 1) := by decide +kernel
theorem dX4_init_26 : decode cX4_init 26 = .ok (.bipush 30, 2) := by decide +kernel
theorem dX4_init_28 : decode cX4_init 28 = .ok (.newarray .int, 2) := by decide +kernel
theorem dX4_init_30 : decode cX4_init 30 = .ok (.putfield 20, 3) := by decide +kernel
theorem dX4_init_33 : decode cX4_init 33 = .ok (.aload_n 0, 1) := by decide +kernel
theorem dX4_init_34 : decode cX4_init 34 = .ok (.bipush 30, 2) := by decide +kernel
theorem dX4_init_36 : decode cX4_init 36 = .ok (.newarray .int, 2) := by decide +kernel
theorem dX4_init_38 : decode cX4_init 38 = .ok (.putfield 23, 3) := by decide +kernel
theorem dX4_init_41 : decode cX4_init 41 = .ok (.aload_n 0, 1) := by decide +kernel
theorem dX4_init_42 : decode cX4_init 42 = .ok (.bipush 30, 2) := by decide +kernel
theorem dX4_init_44 : decode cX4_init 44 = .ok (.newarray .int, 2) := by decide +kernel
theorem dX4_init_46 : decode cX4_init 46 = .ok (.putfield 26, 3) := by decide +kernel
theorem dX4_init_49 : decode cX4_init 49 = .ok (.aload_n 0, 1) := by decide +kernel
theorem dX4_init_50 : decode cX4_init 50 = .ok (.iconst (-1), 1) := by decide +kernel
theorem dX4_init_51 : decode cX4_init 51 = .ok (.putfield 29, 3) := by decide +kernel
theorem dX4_init_54 : decode cX4_init 54 = .ok (.aload_n 0, 1) := by decide +kernel
theorem dX4_init_55 : decode cX4_init 55 = .ok (.bipush 30, 2) := by decide +kernel
theorem dX4_init_57 : decode cX4_init 57 = .ok (.newarray .int, 2) := by decide +kernel
theorem dX4_init_59 : decode cX4_init 59 = .ok (.putfield 32, 3) := by decide +kernel
theorem dX4_init_62 : decode cX4_init 62 = .ok (.aload_n 0, 1) := by decide +kernel
theorem dX4_init_63 : decode cX4_init 63 = .ok (.bipush 16, 2) := by decide +kernel
theorem dX4_init_65 : decode cX4_init 65 = .ok (.newarray .int, 2) := by decide +kernel
theorem dX4_init_67 : decode cX4_init 67 = .ok (.putfield 35, 3) := by decide +kernel
theorem dX4_init_70 : decode cX4_init 70 = .ok (.aload_n 0, 1) := by decide +kernel
theorem dX4_init_71 : decode cX4_init 71 = .ok (.bipush 16, 2) := by decide +kernel
theorem dX4_init_73 : decode cX4_init 73 = .ok (.newarray .int, 2) := by decide +kernel
theorem dX4_init_75 : decode cX4_init 75 = .ok (.putfield 38, 3) := by decide +kernel
theorem dX4_init_78 : decode cX4_init 78 = .ok (.aload_n 0, 1) := by decide +kernel
theorem dX4_init_79 : decode cX4_init 79 = .ok (.bipush 16, 2) := by decide +kernel
theorem dX4_init_81 : decode cX4_init 81 = .ok (.newarray .int, 2) := by decide +kernel
theorem dX4_init_83 : decode cX4_init 83 = .ok (.putfield 41, 3) := by decide +kernel
theorem dX4_init_86 : decode cX4_init 86 = .ok (.aload_n 0, 1) := by decide +kernel
theorem dX4_init_87 : decode cX4_init 87 = .ok (.bipush 16, 2) := by decide +kernel
theorem dX4_init_89 : decode cX4_init 89 = .ok (.newarray .int, 2) := by decide +kernel
theorem dX4_init_91 : decode cX4_init 91 = .ok (.putfield 44, 3) := by decide +kernel
theorem dX4_init_94 : decode cX4_init 94 = .ok (.aload_n 0, 1) := by decide +kernel
theorem dX4_init_95 : decode cX4_init 95 = .ok (.bipush 16, 2) := by decide +kernel
theorem dX4_init_97 : decode cX4_init 97 = .ok (.newarray .int, 2) := by decide +kernel
theorem dX4_init_99 : decode cX4_init 99 = .ok (.putfield 47, 3) := by decide +kernel
theorem dX4_init_102 : decode cX4_init 102 = .ok (.return_, 1) := by decide +kernel
theorem dX4_thrown_0 : decode cX4_thrown 0 = .ok (.aload_n 0, 1) := by decide +kernel
theorem dX4_thrown_1 : decode cX4_thrown 1 = .ok (.getfield 50, 3) := by decide +kernel
theorem dX4_thrown_4 : decode cX4_thrown 4 = .ok (.ireturn, 1) := by decide +kernel
theorem dX4_no_0 : decode cX4_no 0 = .ok (.aload_n 0, 1) := by decide +kernel
theorem dX4_no_1 : decode cX4_no 1 = .ok (.iload_n 1, 1) := by decide +kernel
theorem dX4_no_2 : decode cX4_no 2 = .ok (.putfield 50, 3) := by decide +kernel
theorem dX4_no_5 : decode cX4_no 5 = .ok (.iconst 0, 1) := by decide +kernel
theorem dX4_no_6 : decode cX4_no 6 = .ok (.ireturn, 1) := by decide +kernel
theorem dX4_isIn_0 : decode cX4_isIn 0 = .ok (.iload_n 0, 1) := by decide +kernel
theorem dX4_isIn_1 : decode cX4_isIn 1 = .ok (.iload_n 1, 1) := by decide +kernel
theorem dX4_isIn_2 : decode cX4_isIn 2 = .ok (.if_icmp .lt 12, 3) := by decide +kernel
theorem dX4_isIn_5 : decode cX4_isIn 5 = .ok (.iload_n 0, 1) := by decide +kernel
theorem dX4_isIn_6 : decode cX4_isIn 6 = .ok (.iload_n 2, 1) := by decide +kernel
theorem dX4_isIn_7 : decode cX4_isIn 7 = .ok (.if_icmp .gt 7, 3) := by decide +kernel
theorem dX4_isIn_10 : decode cX4_isIn 10 = .ok (.iconst 1, 1) := by decide +kernel
theorem dX4_isIn_11 : decode cX4_isIn 11 = .ok (.goto 4, 3) := by decide +kernel
theorem dX4_isIn_14 : decode cX4_isIn 14 = .ok (.iconst 0, 1) := by decide +kernel
theorem dX4_isIn_15 : decode cX4_isIn 15 = .ok (.ireturn, 1) := by decide +kernel
theorem dX4_isPot_0 : decode cX4_isPot 0 = .ok (.iload_n 0, 1) := by decide +kernel
theorem dX4_isPot_1 : decode cX4_isPot 1 = .ok (.iconst 0, 1) := by decide +kernel
theorem dX4_isPot_2 : decode cX4_isPot 2 = .ok (.bipush 15, 2) := by decide +kernel
theorem dX4_isPot_4 : decode cX4_isPot 4 = .ok (.invokestatic 53, 3) := by decide +kernel
theorem dX4_isPot_7 : decode cX4_isPot 7 = .ok (.ireturn, 1) := by decide +kernel
theorem dX4_isDeed_0 : decode cX4_isDeed 0 = .ok (.iload_n 1, 1) := by decide +kernel
theorem dX4_isDeed_1 : decode cX4_isDeed 1 = .ok (.iconst 0, 1) := by decide +kernel
theorem dX4_isDeed_2 : decode cX4_isDeed 2 = .ok (.aload_n 0, 1) := by decide +kernel
theorem dX4_isDeed_3 : decode cX4_isDeed 3 = .ok (.getfield 57, 3) := by decide +kernel
theorem dX4_isDeed_6 : decode cX4_isDeed 6 = .ok (.iconst 1, 1) := by decide +kernel
theorem dX4_isDeed_7 : decode cX4_isDeed 7 = .ok (.isub, 1) := by decide +kernel
theorem dX4_isDeed_8 : decode cX4_isDeed 8 = .ok (.invokestatic 53, 3) := by decide +kernel
theorem dX4_isDeed_11 : decode cX4_isDeed 11 = .ok (.ireturn, 1) := by decide +kernel
theorem dX4_has_0 : decode cX4_has 0 = .ok (.iload_n 0, 1) := by decide +kernel
theorem dX4_has_1 : decode cX4_has 1 = .ok (.iload_n 1, 1) := by decide +kernel
theorem dX4_has_2 : decode cX4_has 2 = .ok (.ishr, 1) := by decide +kernel
theorem dX4_has_3 : decode cX4_has 3 = .ok (.iconst 1, 1) := by decide +kernel
theorem dX4_has_4 : decode cX4_has 4 = .ok (.iand, 1) := by decide +kernel
theorem dX4_has_5 : decode cX4_has 5 = .ok (.iconst 1, 1) := by decide +kernel
theorem dX4_has_6 : decode cX4_has 6 = .ok (.if_icmp .ne 7, 3) := by decide +kernel
theorem dX4_has_9 : decode cX4_has 9 = .ok (.iconst 1, 1) := by decide +kernel
theorem dX4_has_10 : decode cX4_has 10 = .ok (.goto 4, 3) := by decide +kernel
theorem dX4_has_13 : decode cX4_has 13 = .ok (.iconst 0, 1) := by decide +kernel
theorem dX4_has_14 : decode cX4_has 14 = .ok (.ireturn, 1) := by decide +kernel
theorem dX4_bit_0 : decode cX4_bit 0 = .ok (.iload_n 0, 1) := by decide +kernel
theorem dX4_bit_1 : decode cX4_bit 1 = .ok (.iconst (-1), 1) := by decide +kernel
theorem dX4_bit_2 : decode cX4_bit 2 = .ok (.if_icmp .ne 7, 3) := by decide +kernel
theorem dX4_bit_5 : decode cX4_bit 5 = .ok (.iconst 0, 1) := by decide +kernel
theorem dX4_bit_6 : decode cX4_bit 6 = .ok (.goto 6, 3) := by decide +kernel
theorem dX4_bit_9 : decode cX4_bit 9 = .ok (.iconst 1, 1) := by decide +kernel
theorem dX4_bit_10 : decode cX4_bit 10 = .ok (.iload_n 0, 1) := by decide +kernel
theorem dX4_bit_11 : decode cX4_bit 11 = .ok (.ishl, 1) := by decide +kernel
theorem dX4_bit_12 : decode cX4_bit 12 = .ok (.ireturn, 1) := by decide +kernel
theorem dX4_uses_0 : decode cX4_uses 0 = .ok (.aload_n 0, 1) := by decide +kernel
theorem dX4_uses_1 : decode cX4_uses 1 = .ok (.getfield 17, 3) := by decide +kernel
theorem dX4_uses_4 : decode cX4_uses 4 = .ok (.iload_n 1, 1) := by decide +kernel
theorem dX4_uses_5 : decode cX4_uses 5 = .ok (.iaload, 1) := by decide +kernel
theorem dX4_uses_6 : decode cX4_uses 6 = .ok (.invokestatic 60, 3) := by decide +kernel
theorem dX4_uses_9 : decode cX4_uses 9 = .ok (.aload_n 0, 1) := by decide +kernel
theorem dX4_uses_10 : decode cX4_uses 10 = .ok (.getfield 20, 3) := by decide +kernel
theorem dX4_uses_13 : decode cX4_uses 13 = .ok (.iload_n 1, 1) := by decide +kernel
theorem dX4_uses_14 : decode cX4_uses 14 = .ok (.iaload, 1) := by decide +kernel
theorem dX4_uses_15 : decode cX4_uses 15 = .ok (.invokestatic 60, 3) := by decide +kernel
theorem dX4_uses_18 : decode cX4_uses 18 = .ok (.ior, 1) := by decide +kernel
theorem dX4_uses_19 : decode cX4_uses 19 = .ok (.ireturn, 1) := by decide +kernel
theorem dX4_live_0 : decode cX4_live 0 = .ok (.aload_n 0, 1) := by decide +kernel
theorem dX4_live_1 : decode cX4_live 1 = .ok (.getfield 64, 3) := by decide +kernel
theorem dX4_live_4 : decode cX4_live 4 = .ok (.istore_n 1, 1) := by decide +kernel
theorem dX4_live_5 : decode cX4_live 5 = .ok (.aload_n 0, 1) := by decide +kernel
theorem dX4_live_6 : decode cX4_live 6 = .ok (.aload_n 0, 1) := by decide +kernel
theorem dX4_live_7 : decode cX4_live 7 = .ok (.getfield 64, 3) := by decide +kernel
theorem dX4_live_10 : decode cX4_live 10 = .ok (.putfield 67, 3) := by decide +kernel
theorem dX4_live_13 : decode cX4_live 13 = .ok (.aload_n 0, 1) := by decide +kernel
theorem dX4_live_14 : decode cX4_live 14 = .ok (.getfield 57, 3) := by decide +kernel
theorem dX4_live_17 : decode cX4_live 17 = .ok (.iconst 1, 1) := by decide +kernel
theorem dX4_live_18 : decode cX4_live 18 = .ok (.isub, 1) := by decide +kernel
theorem dX4_live_19 : decode cX4_live 19 = .ok (.istore_n 2, 1) := by decide +kernel
theorem dX4_live_20 : decode cX4_live 20 = .ok (.iload_n 2, 1) := by decide +kernel
theorem dX4_live_21 : decode cX4_live 21 = .ok (.ifCond .lt 71, 3) := by decide +kernel
theorem dX4_live_24 : decode cX4_live 24 = .ok (.aload_n 0, 1) := by decide +kernel
theorem dX4_live_25 : decode cX4_live 25 = .ok (.getfield 32, 3) := by decide +kernel
theorem dX4_live_28 : decode cX4_live 28 = .ok (.iload_n 2, 1) := by decide +kernel
theorem dX4_live_29 : decode cX4_live 29 = .ok (.iload_n 1, 1) := by decide +kernel
theorem dX4_live_30 : decode cX4_live 30 = .ok (.iastore, 1) := by decide +kernel
theorem dX4_live_31 : decode cX4_live 31 = .ok (.iload_n 2, 1) := by decide +kernel
theorem dX4_live_32 : decode cX4_live 32 = .ok (.aload_n 0, 1) := by decide +kernel
theorem dX4_live_33 : decode cX4_live 33 = .ok (.getfield 29, 3) := by decide +kernel
theorem dX4_live_36 : decode cX4_live 36 = .ok (.if_icmp .ne 6, 3) := by decide +kernel
theorem dX4_live_39 : decode cX4_live 39 = .ok (.goto 47, 3) := by decide +kernel
theorem dX4_live_42 : decode cX4_live 42 = .ok (.aload_n 0, 1) := by decide +kernel
theorem dX4_live_43 : decode cX4_live 43 = .ok (.dup, 1) := by decide +kernel
theorem dX4_live_44 : decode cX4_live 44 = .ok (.getfield 67, 3) := by decide +kernel
theorem dX4_live_47 : decode cX4_live 47 = .ok (.aload_n 0, 1) := by decide +kernel
theorem dX4_live_48 : decode cX4_live 48 = .ok (.iload_n 2, 1) := by decide +kernel
theorem dX4_live_49 : decode cX4_live 49 = .ok (.invokevirtual 70, 3) := by decide +kernel
theorem dX4_live_52 : decode cX4_live 52 = .ok (.aload_n 0, 1) := by decide +kernel
theorem dX4_live_53 : decode cX4_live 53 = .ok (.getfield 13, 3) := by decide +kernel
theorem dX4_live_56 : decode cX4_live 56 = .ok (.iload_n 2, 1) := by decide +kernel
theorem dX4_live_57 : decode cX4_live 57 = .ok (.iaload, 1) := by decide +kernel
theorem dX4_live_58 : decode cX4_live 58 = .ok (.invokestatic 60, 3) := by decide +kernel
theorem dX4_live_61 : decode cX4_live 61 = .ok (.ior, 1) := by decide +kernel
theorem dX4_live_62 : decode cX4_live 62 = .ok (.ior, 1) := by decide +kernel
theorem dX4_live_63 : decode cX4_live 63 = .ok (.putfield 67, 3) := by decide +kernel
theorem dX4_live_66 : decode cX4_live 66 = .ok (.aload_n 0, 1) := by decide +kernel
theorem dX4_live_67 : decode cX4_live 67 = .ok (.iload_n 2, 1) := by decide +kernel
theorem dX4_live_68 : decode cX4_live 68 = .ok (.invokevirtual 70, 3) := by decide +kernel
theorem dX4_live_71 : decode cX4_live 71 = .ok (.iload_n 1, 1) := by decide +kernel
theorem dX4_live_72 : decode cX4_live 72 = .ok (.aload_n 0, 1) := by decide +kernel
theorem dX4_live_73 : decode cX4_live 73 = .ok (.getfield 13, 3) := by decide +kernel
theorem dX4_live_76 : decode cX4_live 76 = .ok (.iload_n 2, 1) := by decide +kernel
theorem dX4_live_77 : decode cX4_live 77 = .ok (.iaload, 1) := by decide +kernel
theorem dX4_live_78 : decode cX4_live 78 = .ok (.invokestatic 60, 3) := by decide +kernel
theorem dX4_live_81 : decode cX4_live 81 = .ok (.iconst (-1), 1) := by decide +kernel
theorem dX4_live_82 : decode cX4_live 82 = .ok (.ixor, 1) := by decide +kernel
theorem dX4_live_83 : decode cX4_live 83 = .ok (.iand, 1) := by decide +kernel
theorem dX4_live_84 : decode cX4_live 84 = .ok (.ior, 1) := by decide +kernel
theorem dX4_live_85 : decode cX4_live 85 = .ok (.istore_n 1, 1) := by decide +kernel
theorem dX4_live_86 : decode cX4_live 86 = .ok (.iinc 2 (-1), 3) := by decide +kernel
theorem dX4_live_89 : decode cX4_live 89 = .ok (.goto (-69), 3) := by decide +kernel
theorem dX4_live_92 : decode cX4_live 92 = .ok (.aload_n 0, 1) := by decide +kernel
theorem dX4_live_93 : decode cX4_live 93 = .ok (.iload_n 1, 1) := by decide +kernel
theorem dX4_live_94 : decode cX4_live 94 = .ok (.putfield 73, 3) := by decide +kernel
theorem dX4_live_97 : decode cX4_live 97 = .ok (.return_, 1) := by decide +kernel
theorem dX4_clashAll_0 : decode cX4_clashAll 0 = .ok (.iconst 0, 1) := by decide +kernel
theorem dX4_clashAll_1 : decode cX4_clashAll 1 = .ok (.istore_n 3, 1) := by decide +kernel
theorem dX4_clashAll_2 : decode cX4_clashAll 2 = .ok (.iload_n 3, 1) := by decide +kernel
theorem dX4_clashAll_3 : decode cX4_clashAll 3 = .ok (.bipush 16, 2) := by decide +kernel
theorem dX4_clashAll_5 : decode cX4_clashAll 5 = .ok (.if_icmp .ge 51, 3) := by decide +kernel
theorem dX4_clashAll_8 : decode cX4_clashAll 8 = .ok (.iload_n 3, 1) := by decide +kernel
theorem dX4_clashAll_9 : decode cX4_clashAll 9 = .ok (.iload_n 1, 1) := by decide +kernel
theorem dX4_clashAll_10 : decode cX4_clashAll 10 = .ok (.if_icmp .eq 40, 3) := by decide +kernel
theorem dX4_clashAll_13 : decode cX4_clashAll 13 = .ok (.iload_n 2, 1) := by decide +kernel
theorem dX4_clashAll_14 : decode cX4_clashAll 14 = .ok (.iload_n 3, 1) := by decide +kernel
theorem dX4_clashAll_15 : decode cX4_clashAll 15 = .ok (.invokestatic 76, 3) := by decide +kernel
theorem dX4_clashAll_18 : decode cX4_clashAll 18 = .ok (.ifCond .ne 6, 3) := by decide +kernel
theorem dX4_clashAll_21 : decode cX4_clashAll 21 = .ok (.goto 29, 3) := by decide +kernel
theorem dX4_clashAll_24 : decode cX4_clashAll 24 = .ok (.aload_n 0, 1) := by decide +kernel
theorem dX4_clashAll_25 : decode cX4_clashAll 25 = .ok (.getfield 35, 3) := by decide +kernel
theorem dX4_clashAll_28 : decode cX4_clashAll 28 = .ok (.iload_n 1, 1) := by decide +kernel
theorem dX4_clashAll_29 : decode cX4_clashAll 29 = .ok (.dup2, 1) := by decide +kernel
theorem dX4_clashAll_30 : decode cX4_clashAll 30 = .ok (.iaload, 1) := by decide +kernel
theorem dX4_clashAll_31 : decode cX4_clashAll 31 = .ok (.iload_n 3, 1) := by decide +kernel
theorem dX4_clashAll_32 : decode cX4_clashAll 32 = .ok (.invokestatic 60, 3) := by decide +kernel
theorem dX4_clashAll_35 : decode cX4_clashAll 35 = .ok (.ior, 1) := by decide +kernel
theorem dX4_clashAll_36 : decode cX4_clashAll 36 = .ok (.iastore, 1) := by decide +kernel
theorem dX4_clashAll_37 : decode cX4_clashAll 37 = .ok (.aload_n 0, 1) := by decide +kernel
theorem dX4_clashAll_38 : decode cX4_clashAll 38 = .ok (.getfield 35, 3) := by decide +kernel
theorem dX4_clashAll_41 : decode cX4_clashAll 41 = .ok (.iload_n 3, 1) := by decide +kernel
theorem dX4_clashAll_42 : decode cX4_clashAll 42 = .ok (.dup2, 1) := by decide +kernel
theorem dX4_clashAll_43 : decode cX4_clashAll 43 = .ok (.iaload, 1) := by decide +kernel
theorem dX4_clashAll_44 : decode cX4_clashAll 44 = .ok (.iload_n 1, 1) := by decide +kernel
theorem dX4_clashAll_45 : decode cX4_clashAll 45 = .ok (.invokestatic 60, 3) := by decide +kernel
theorem dX4_clashAll_48 : decode cX4_clashAll 48 = .ok (.ior, 1) := by decide +kernel
theorem dX4_clashAll_49 : decode cX4_clashAll 49 = .ok (.iastore, 1) := by decide +kernel
theorem dX4_clashAll_50 : decode cX4_clashAll 50 = .ok (.iinc 3 1, 3) := by decide +kernel
theorem dX4_clashAll_53 : decode cX4_clashAll 53 = .ok (.goto (-51), 3) := by decide +kernel
theorem dX4_clashAll_56 : decode cX4_clashAll 56 = .ok (.return_, 1) := by decide +kernel
theorem dX4_add_0 : decode cX4_add 0 = .ok (.iload_n 1, 1) := by decide +kernel
theorem dX4_add_1 : decode cX4_add 1 = .ok (.iconst (-1), 1) := by decide +kernel
theorem dX4_add_2 : decode cX4_add 2 = .ok (.if_icmp .eq 13, 3) := by decide +kernel
theorem dX4_add_5 : decode cX4_add 5 = .ok (.aload_n 0, 1) := by decide +kernel
theorem dX4_add_6 : decode cX4_add 6 = .ok (.getfield 38, 3) := by decide +kernel
theorem dX4_add_9 : decode cX4_add 9 = .ok (.iload_n 1, 1) := by decide +kernel
theorem dX4_add_10 : decode cX4_add 10 = .ok (.dup2, 1) := by decide +kernel
theorem dX4_add_11 : decode cX4_add 11 = .ok (.iaload, 1) := by decide +kernel
theorem dX4_add_12 : decode cX4_add 12 = .ok (.iload_n 2, 1) := by decide +kernel
theorem dX4_add_13 : decode cX4_add 13 = .ok (.iadd, 1) := by decide +kernel
theorem dX4_add_14 : decode cX4_add 14 = .ok (.iastore, 1) := by decide +kernel
theorem dX4_add_15 : decode cX4_add 15 = .ok (.return_, 1) := by decide +kernel
theorem dX4_look_0 : decode cX4_look 0 = .ok (.aload_n 0, 1) := by decide +kernel
theorem dX4_look_1 : decode cX4_look 1 = .ok (.invokevirtual 80, 3) := by decide +kernel
theorem dX4_look_4 : decode cX4_look 4 = .ok (.iconst 0, 1) := by decide +kernel
theorem dX4_look_5 : decode cX4_look 5 = .ok (.istore_n 1, 1) := by decide +kernel
theorem dX4_look_6 : decode cX4_look 6 = .ok (.iload_n 1, 1) := by decide +kernel
theorem dX4_look_7 : decode cX4_look 7 = .ok (.bipush 16, 2) := by decide +kernel
theorem dX4_look_9 : decode cX4_look 9 = .ok (.if_icmp .ge 23, 3) := by decide +kernel
theorem dX4_look_12 : decode cX4_look 12 = .ok (.aload_n 0, 1) := by decide +kernel
theorem dX4_look_13 : decode cX4_look 13 = .ok (.getfield 35, 3) := by decide +kernel
theorem dX4_look_16 : decode cX4_look 16 = .ok (.iload_n 1, 1) := by decide +kernel
theorem dX4_look_17 : decode cX4_look 17 = .ok (.iconst 0, 1) := by decide +kernel
theorem dX4_look_18 : decode cX4_look 18 = .ok (.iastore, 1) := by decide +kernel
theorem dX4_look_19 : decode cX4_look 19 = .ok (.aload_n 0, 1) := by decide +kernel
theorem dX4_look_20 : decode cX4_look 20 = .ok (.getfield 38, 3) := by decide +kernel
theorem dX4_look_23 : decode cX4_look 23 = .ok (.iload_n 1, 1) := by decide +kernel
theorem dX4_look_24 : decode cX4_look 24 = .ok (.iconst 0, 1) := by decide +kernel
theorem dX4_look_25 : decode cX4_look 25 = .ok (.iastore, 1) := by decide +kernel
theorem dX4_look_26 : decode cX4_look 26 = .ok (.iinc 1 1, 3) := by decide +kernel
theorem dX4_look_29 : decode cX4_look 29 = .ok (.goto (-23), 3) := by decide +kernel
theorem dX4_look_32 : decode cX4_look 32 = .ok (.iconst 0, 1) := by decide +kernel
theorem dX4_look_33 : decode cX4_look 33 = .ok (.istore_n 1, 1) := by decide +kernel
theorem dX4_look_34 : decode cX4_look 34 = .ok (.iload_n 1, 1) := by decide +kernel
theorem dX4_look_35 : decode cX4_look 35 = .ok (.aload_n 0, 1) := by decide +kernel
theorem dX4_look_36 : decode cX4_look 36 = .ok (.getfield 57, 3) := by decide +kernel
theorem dX4_look_39 : decode cX4_look 39 = .ok (.if_icmp .ge 115, 3) := by decide +kernel
theorem dX4_look_42 : decode cX4_look 42 = .ok (.iload_n 1, 1) := by decide +kernel
theorem dX4_look_43 : decode cX4_look 43 = .ok (.aload_n 0, 1) := by decide +kernel
theorem dX4_look_44 : decode cX4_look 44 = .ok (.getfield 29, 3) := by decide +kernel
theorem dX4_look_47 : decode cX4_look 47 = .ok (.if_icmp .ne 6, 3) := by decide +kernel
theorem dX4_look_50 : decode cX4_look 50 = .ok (.goto 98, 3) := by decide +kernel
theorem dX4_look_53 : decode cX4_look 53 = .ok (.aload_n 0, 1) := by decide +kernel
theorem dX4_look_54 : decode cX4_look 54 = .ok (.aload_n 0, 1) := by decide +kernel
theorem dX4_look_55 : decode cX4_look 55 = .ok (.getfield 13, 3) := by decide +kernel
theorem dX4_look_58 : decode cX4_look 58 = .ok (.iload_n 1, 1) := by decide +kernel
theorem dX4_look_59 : decode cX4_look 59 = .ok (.iaload, 1) := by decide +kernel
theorem dX4_look_60 : decode cX4_look 60 = .ok (.aload_n 0, 1) := by decide +kernel
theorem dX4_look_61 : decode cX4_look 61 = .ok (.getfield 26, 3) := by decide +kernel
theorem dX4_look_64 : decode cX4_look 64 = .ok (.iload_n 1, 1) := by decide +kernel
theorem dX4_look_65 : decode cX4_look 65 = .ok (.iaload, 1) := by decide +kernel
theorem dX4_look_66 : decode cX4_look 66 = .ok (.iconst 1, 1) := by decide +kernel
theorem dX4_look_67 : decode cX4_look 67 = .ok (.if_icmp .ne 24, 3) := by decide +kernel
theorem dX4_look_70 : decode cX4_look 70 = .ok (.aload_n 0, 1) := by decide +kernel
theorem dX4_look_71 : decode cX4_look 71 = .ok (.getfield 32, 3) := by decide +kernel
theorem dX4_look_74 : decode cX4_look 74 = .ok (.iload_n 1, 1) := by decide +kernel
theorem dX4_look_75 : decode cX4_look 75 = .ok (.iaload, 1) := by decide +kernel
theorem dX4_look_76 : decode cX4_look 76 = .ok (.aload_n 0, 1) := by decide +kernel
theorem dX4_look_77 : decode cX4_look 77 = .ok (.getfield 17, 3) := by decide +kernel
theorem dX4_look_80 : decode cX4_look 80 = .ok (.iload_n 1, 1) := by decide +kernel
theorem dX4_look_81 : decode cX4_look 81 = .ok (.iaload, 1) := by decide +kernel
theorem dX4_look_82 : decode cX4_look 82 = .ok (.invokestatic 60, 3) := by decide +kernel
theorem dX4_look_85 : decode cX4_look 85 = .ok (.iconst (-1), 1) := by decide +kernel
theorem dX4_look_86 : decode cX4_look 86 = .ok (.ixor, 1) := by decide +kernel
theorem dX4_look_87 : decode cX4_look 87 = .ok (.iand, 1) := by decide +kernel
theorem dX4_look_88 : decode cX4_look 88 = .ok (.goto 9, 3) := by decide +kernel
theorem dX4_look_91 : decode cX4_look 91 = .ok (.aload_n 0, 1) := by decide +kernel
theorem dX4_look_92 : decode cX4_look 92 = .ok (.getfield 32, 3) := by decide +kernel
theorem dX4_look_95 : decode cX4_look 95 = .ok (.iload_n 1, 1) := by decide +kernel
theorem dX4_look_96 : decode cX4_look 96 = .ok (.iaload, 1) := by decide +kernel
theorem dX4_look_97 : decode cX4_look 97 = .ok (.invokevirtual 83, 3) := by decide +kernel
theorem dX4_look_100 : decode cX4_look 100 = .ok (.aload_n 0, 1) := by decide +kernel
theorem dX4_look_101 : decode cX4_look 101 = .ok (.aload_n 0, 1) := by decide +kernel
theorem dX4_look_102 : decode cX4_look 102 = .ok (.getfield 13, 3) := by decide +kernel
theorem dX4_look_105 : decode cX4_look 105 = .ok (.iload_n 1, 1) := by decide +kernel
theorem dX4_look_106 : decode cX4_look 106 = .ok (.iaload, 1) := by decide +kernel
theorem dX4_look_107 : decode cX4_look 107 = .ok (.aload_n 0, 1) := by decide +kernel
theorem dX4_look_108 : decode cX4_look 108 = .ok (.getfield 23, 3) := by decide +kernel
theorem dX4_look_111 : decode cX4_look 111 = .ok (.iload_n 1, 1) := by decide +kernel
theorem dX4_look_112 : decode cX4_look 112 = .ok (.iaload, 1) := by decide +kernel
theorem dX4_look_113 : decode cX4_look 113 = .ok (.invokevirtual 87, 3) := by decide +kernel
theorem dX4_look_116 : decode cX4_look 116 = .ok (.aload_n 0, 1) := by decide +kernel
theorem dX4_look_117 : decode cX4_look 117 = .ok (.aload_n 0, 1) := by decide +kernel
theorem dX4_look_118 : decode cX4_look 118 = .ok (.getfield 17, 3) := by decide +kernel
theorem dX4_look_121 : decode cX4_look 121 = .ok (.iload_n 1, 1) := by decide +kernel
theorem dX4_look_122 : decode cX4_look 122 = .ok (.iaload, 1) := by decide +kernel
theorem dX4_look_123 : decode cX4_look 123 = .ok (.aload_n 0, 1) := by decide +kernel
theorem dX4_look_124 : decode cX4_look 124 = .ok (.getfield 23, 3) := by decide +kernel
theorem dX4_look_127 : decode cX4_look 127 = .ok (.iload_n 1, 1) := by decide +kernel
theorem dX4_look_128 : decode cX4_look 128 = .ok (.iaload, 1) := by decide +kernel
theorem dX4_look_129 : decode cX4_look 129 = .ok (.invokevirtual 87, 3) := by decide +kernel
theorem dX4_look_132 : decode cX4_look 132 = .ok (.aload_n 0, 1) := by decide +kernel
theorem dX4_look_133 : decode cX4_look 133 = .ok (.aload_n 0, 1) := by decide +kernel
theorem dX4_look_134 : decode cX4_look 134 = .ok (.getfield 20, 3) := by decide +kernel
theorem dX4_look_137 : decode cX4_look 137 = .ok (.iload_n 1, 1) := by decide +kernel
theorem dX4_look_138 : decode cX4_look 138 = .ok (.iaload, 1) := by decide +kernel
theorem dX4_look_139 : decode cX4_look 139 = .ok (.aload_n 0, 1) := by decide +kernel
theorem dX4_look_140 : decode cX4_look 140 = .ok (.getfield 23, 3) := by decide +kernel
theorem dX4_look_143 : decode cX4_look 143 = .ok (.iload_n 1, 1) := by decide +kernel
theorem dX4_look_144 : decode cX4_look 144 = .ok (.iaload, 1) := by decide +kernel
theorem dX4_look_145 : decode cX4_look 145 = .ok (.invokevirtual 87, 3) := by decide +kernel
theorem dX4_look_148 : decode cX4_look 148 = .ok (.iinc 1 1, 3) := by decide +kernel
theorem dX4_look_151 : decode cX4_look 151 = .ok (.goto (-117), 3) := by decide +kernel
theorem dX4_look_154 : decode cX4_look 154 = .ok (.iconst 0, 1) := by decide +kernel
theorem dX4_look_155 : decode cX4_look 155 = .ok (.istore_n 1, 1) := by decide +kernel
theorem dX4_look_156 : decode cX4_look 156 = .ok (.iload_n 1, 1) := by decide +kernel
theorem dX4_look_157 : decode cX4_look 157 = .ok (.bipush 16, 2) := by decide +kernel
theorem dX4_look_159 : decode cX4_look 159 = .ok (.if_icmp .ge 29, 3) := by decide +kernel
theorem dX4_look_162 : decode cX4_look 162 = .ok (.aload_n 0, 1) := by decide +kernel
theorem dX4_look_163 : decode cX4_look 163 = .ok (.getfield 73, 3) := by decide +kernel
theorem dX4_look_166 : decode cX4_look 166 = .ok (.iload_n 1, 1) := by decide +kernel
theorem dX4_look_167 : decode cX4_look 167 = .ok (.invokestatic 76, 3) := by decide +kernel
theorem dX4_look_170 : decode cX4_look 170 = .ok (.ifCond .eq 12, 3) := by decide +kernel
theorem dX4_look_173 : decode cX4_look 173 = .ok (.aload_n 0, 1) := by decide +kernel
theorem dX4_look_174 : decode cX4_look 174 = .ok (.iload_n 1, 1) := by decide +kernel
theorem dX4_look_175 : decode cX4_look 175 = .ok (.aload_n 0, 1) := by decide +kernel
theorem dX4_look_176 : decode cX4_look 176 = .ok (.getfield 73, 3) := by decide +kernel
theorem dX4_look_179 : decode cX4_look 179 = .ok (.invokevirtual 83, 3) := by decide +kernel
theorem dX4_look_182 : decode cX4_look 182 = .ok (.iinc 1 1, 3) := by decide +kernel
theorem dX4_look_185 : decode cX4_look 185 = .ok (.goto (-29), 3) := by decide +kernel
theorem dX4_look_188 : decode cX4_look 188 = .ok (.return_, 1) := by decide +kernel
theorem dX4_next_0 : decode cX4_next 0 = .ok (.iconst (-1), 1) := by decide +kernel
theorem dX4_next_1 : decode cX4_next 1 = .ok (.istore_n 3, 1) := by decide +kernel
theorem dX4_next_2 : decode cX4_next 2 = .ok (.bipush 15, 2) := by decide +kernel
theorem dX4_next_4 : decode cX4_next 4 = .ok (.istore 4, 2) := by decide +kernel
theorem dX4_next_6 : decode cX4_next 6 = .ok (.iload 4, 2) := by decide +kernel
theorem dX4_next_8 : decode cX4_next 8 = .ok (.ifCond .lt 37, 3) := by decide +kernel
theorem dX4_next_11 : decode cX4_next 11 = .ok (.iload_n 1, 1) := by decide +kernel
theorem dX4_next_12 : decode cX4_next 12 = .ok (.iload 4, 2) := by decide +kernel
theorem dX4_next_14 : decode cX4_next 14 = .ok (.invokestatic 76, 3) := by decide +kernel
theorem dX4_next_17 : decode cX4_next 17 = .ok (.ifCond .eq 22, 3) := by decide +kernel
theorem dX4_next_20 : decode cX4_next 20 = .ok (.aload_n 0, 1) := by decide +kernel
theorem dX4_next_21 : decode cX4_next 21 = .ok (.getfield 35, 3) := by decide +kernel
theorem dX4_next_24 : decode cX4_next 24 = .ok (.iload 4, 2) := by decide +kernel
theorem dX4_next_26 : decode cX4_next 26 = .ok (.iaload, 1) := by decide +kernel
theorem dX4_next_27 : decode cX4_next 27 = .ok (.iload_n 1, 1) := by decide +kernel
theorem dX4_next_28 : decode cX4_next 28 = .ok (.iand, 1) := by decide +kernel
theorem dX4_next_29 : decode cX4_next 29 = .ok (.invokestatic 90, 3) := by decide +kernel
theorem dX4_next_32 : decode cX4_next 32 = .ok (.iload_n 2, 1) := by decide +kernel
theorem dX4_next_33 : decode cX4_next 33 = .ok (.if_icmp .ge 6, 3) := by decide +kernel
theorem dX4_next_36 : decode cX4_next 36 = .ok (.iload 4, 2) := by decide +kernel
theorem dX4_next_38 : decode cX4_next 38 = .ok (.istore_n 3, 1) := by decide +kernel
theorem dX4_next_39 : decode cX4_next 39 = .ok (.iinc 4 (-1), 3) := by decide +kernel
theorem dX4_next_42 : decode cX4_next 42 = .ok (.goto (-36), 3) := by decide +kernel
theorem dX4_next_45 : decode cX4_next 45 = .ok (.iload_n 3, 1) := by decide +kernel
theorem dX4_next_46 : decode cX4_next 46 = .ok (.iconst (-1), 1) := by decide +kernel
theorem dX4_next_47 : decode cX4_next 47 = .ok (.if_icmp .eq 5, 3) := by decide +kernel
theorem dX4_next_50 : decode cX4_next 50 = .ok (.iload_n 3, 1) := by decide +kernel
theorem dX4_next_51 : decode cX4_next 51 = .ok (.ireturn, 1) := by decide +kernel
theorem dX4_next_52 : decode cX4_next 52 = .ok (.bipush 15, 2) := by decide +kernel
theorem dX4_next_54 : decode cX4_next 54 = .ok (.istore 4, 2) := by decide +kernel
theorem dX4_next_56 : decode cX4_next 56 = .ok (.iload 4, 2) := by decide +kernel
theorem dX4_next_58 : decode cX4_next 58 = .ok (.ifCond .lt 70, 3) := by decide +kernel
theorem dX4_next_61 : decode cX4_next 61 = .ok (.iload_n 1, 1) := by decide +kernel
theorem dX4_next_62 : decode cX4_next 62 = .ok (.iload 4, 2) := by decide +kernel
theorem dX4_next_64 : decode cX4_next 64 = .ok (.invokestatic 76, 3) := by decide +kernel
theorem dX4_next_67 : decode cX4_next 67 = .ok (.ifCond .ne 6, 3) := by decide +kernel
theorem dX4_next_70 : decode cX4_next 70 = .ok (.goto 52, 3) := by decide +kernel
theorem dX4_next_73 : decode cX4_next 73 = .ok (.iload_n 3, 1) := by decide +kernel
theorem dX4_next_74 : decode cX4_next 74 = .ok (.iconst (-1), 1) := by decide +kernel
theorem dX4_next_75 : decode cX4_next 75 = .ok (.if_icmp .eq 44, 3) := by decide +kernel
theorem dX4_next_78 : decode cX4_next 78 = .ok (.aload_n 0, 1) := by decide +kernel
theorem dX4_next_79 : decode cX4_next 79 = .ok (.getfield 38, 3) := by decide +kernel
theorem dX4_next_82 : decode cX4_next 82 = .ok (.iload 4, 2) := by decide +kernel
theorem dX4_next_84 : decode cX4_next 84 = .ok (.iaload, 1) := by decide +kernel
theorem dX4_next_85 : decode cX4_next 85 = .ok (.aload_n 0, 1) := by decide +kernel
theorem dX4_next_86 : decode cX4_next 86 = .ok (.getfield 35, 3) := by decide +kernel
theorem dX4_next_89 : decode cX4_next 89 = .ok (.iload_n 3, 1) := by decide +kernel
theorem dX4_next_90 : decode cX4_next 90 = .ok (.iaload, 1) := by decide +kernel
theorem dX4_next_91 : decode cX4_next 91 = .ok (.iload_n 1, 1) := by decide +kernel
theorem dX4_next_92 : decode cX4_next 92 = .ok (.iand, 1) := by decide +kernel
theorem dX4_next_93 : decode cX4_next 93 = .ok (.invokestatic 90, 3) := by decide +kernel
theorem dX4_next_96 : decode cX4_next 96 = .ok (.imul, 1) := by decide +kernel
theorem dX4_next_97 : decode cX4_next 97 = .ok (.aload_n 0, 1) := by decide +kernel
theorem dX4_next_98 : decode cX4_next 98 = .ok (.getfield 38, 3) := by decide +kernel
theorem dX4_next_101 : decode cX4_next 101 = .ok (.iload_n 3, 1) := by decide +kernel
theorem dX4_next_102 : decode cX4_next 102 = .ok (.iaload, 1) := by decide +kernel
theorem dX4_next_103 : decode cX4_next 103 = .ok (.aload_n 0, 1) := by decide +kernel
theorem dX4_next_104 : decode cX4_next 104 = .ok (.getfield 35, 3) := by decide +kernel
theorem dX4_next_107 : decode cX4_next 107 = .ok (.iload 4, 2) := by decide +kernel
theorem dX4_next_109 : decode cX4_next 109 = .ok (.iaload, 1) := by decide +kernel
theorem dX4_next_110 : decode cX4_next 110 = .ok (.iload_n 1, 1) := by decide +kernel
theorem dX4_next_111 : decode cX4_next 111 = .ok (.iand, 1) := by decide +kernel
theorem dX4_next_112 : decode cX4_next 112 = .ok (.invokestatic 90, 3) := by decide +kernel
theorem dX4_next_115 : decode cX4_next 115 = .ok (.imul, 1) := by decide +kernel
theorem dX4_next_116 : decode cX4_next 116 = .ok (.if_icmp .gt 6, 3) := by decide +kernel
theorem dX4_next_119 : decode cX4_next 119 = .ok (.iload 4, 2) := by decide +kernel
theorem dX4_next_121 : decode cX4_next 121 = .ok (.istore_n 3, 1) := by decide +kernel
theorem dX4_next_122 : decode cX4_next 122 = .ok (.iinc 4 (-1), 3) := by decide +kernel
theorem dX4_next_125 : decode cX4_next 125 = .ok (.goto (-69), 3) := by decide +kernel
theorem dX4_next_128 : decode cX4_next 128 = .ok (.iload_n 3, 1) := by decide +kernel
theorem dX4_next_129 : decode cX4_next 129 = .ok (.ireturn, 1) := by decide +kernel
theorem dX4_isFree_0 : decode cX4_isFree 0 = .ok (.iconst 0, 1) := by decide +kernel
theorem dX4_isFree_1 : decode cX4_isFree 1 = .ok (.istore_n 3, 1) := by decide +kernel
theorem dX4_isFree_2 : decode cX4_isFree 2 = .ok (.iload_n 3, 1) := by decide +kernel
theorem dX4_isFree_3 : decode cX4_isFree 3 = .ok (.bipush 16, 2) := by decide +kernel
theorem dX4_isFree_5 : decode cX4_isFree 5 = .ok (.if_icmp .ge 34, 3) := by decide +kernel
theorem dX4_isFree_8 : decode cX4_isFree 8 = .ok (.aload_n 0, 1) := by decide +kernel
theorem dX4_isFree_9 : decode cX4_isFree 9 = .ok (.getfield 35, 3) := by decide +kernel
theorem dX4_isFree_12 : decode cX4_isFree 12 = .ok (.iload_n 1, 1) := by decide +kernel
theorem dX4_isFree_13 : decode cX4_isFree 13 = .ok (.iaload, 1) := by decide +kernel
theorem dX4_isFree_14 : decode cX4_isFree 14 = .ok (.iload_n 3, 1) := by decide +kernel
theorem dX4_isFree_15 : decode cX4_isFree 15 = .ok (.invokestatic 76, 3) := by decide +kernel
theorem dX4_isFree_18 : decode cX4_isFree 18 = .ok (.ifCond .eq 15, 3) := by decide +kernel
theorem dX4_isFree_21 : decode cX4_isFree 21 = .ok (.aload_n 0, 1) := by decide +kernel
theorem dX4_isFree_22 : decode cX4_isFree 22 = .ok (.getfield 47, 3) := by decide +kernel
theorem dX4_isFree_25 : decode cX4_isFree 25 = .ok (.iload_n 3, 1) := by decide +kernel
theorem dX4_isFree_26 : decode cX4_isFree 26 = .ok (.iaload, 1) := by decide +kernel
theorem dX4_isFree_27 : decode cX4_isFree 27 = .ok (.iload_n 2, 1) := by decide +kernel
theorem dX4_isFree_28 : decode cX4_isFree 28 = .ok (.if_icmp .ne 5, 3) := by decide +kernel
theorem dX4_isFree_31 : decode cX4_isFree 31 = .ok (.iconst 0, 1) := by decide +kernel
theorem dX4_isFree_32 : decode cX4_isFree 32 = .ok (.ireturn, 1) := by decide +kernel
theorem dX4_isFree_33 : decode cX4_isFree 33 = .ok (.iinc 3 1, 3) := by decide +kernel
theorem dX4_isFree_36 : decode cX4_isFree 36 = .ok (.goto (-34), 3) := by decide +kernel
theorem dX4_isFree_39 : decode cX4_isFree 39 = .ok (.iconst 1, 1) := by decide +kernel
theorem dX4_isFree_40 : decode cX4_isFree 40 = .ok (.ireturn, 1) := by decide +kernel
theorem dX4_isPoured_0 : decode cX4_isPoured 0 = .ok (.iconst 0, 1) := by decide +kernel
theorem dX4_isPoured_1 : decode cX4_isPoured 1 = .ok (.istore_n 3, 1) := by decide +kernel
theorem dX4_isPoured_2 : decode cX4_isPoured 2 = .ok (.iload_n 3, 1) := by decide +kernel
theorem dX4_isPoured_3 : decode cX4_isPoured 3 = .ok (.aload_n 0, 1) := by decide +kernel
theorem dX4_isPoured_4 : decode cX4_isPoured 4 = .ok (.getfield 57, 3) := by decide +kernel
theorem dX4_isPoured_7 : decode cX4_isPoured 7 = .ok (.if_icmp .ge 69, 3) := by decide +kernel
theorem dX4_isPoured_10 : decode cX4_isPoured 10 = .ok (.iload_n 3, 1) := by decide +kernel
theorem dX4_isPoured_11 : decode cX4_isPoured 11 = .ok (.aload_n 0, 1) := by decide +kernel
theorem dX4_isPoured_12 : decode cX4_isPoured 12 = .ok (.getfield 29, 3) := by decide +kernel
theorem dX4_isPoured_15 : decode cX4_isPoured 15 = .ok (.if_icmp .eq 55, 3) := by decide +kernel
theorem dX4_isPoured_18 : decode cX4_isPoured 18 = .ok (.aload_n 0, 1) := by decide +kernel
theorem dX4_isPoured_19 : decode cX4_isPoured 19 = .ok (.getfield 26, 3) := by decide +kernel
theorem dX4_isPoured_22 : decode cX4_isPoured 22 = .ok (.iload_n 3, 1) := by decide +kernel
theorem dX4_isPoured_23 : decode cX4_isPoured 23 = .ok (.iaload, 1) := by decide +kernel
theorem dX4_isPoured_24 : decode cX4_isPoured 24 = .ok (.iconst 1, 1) := by decide +kernel
theorem dX4_isPoured_25 : decode cX4_isPoured 25 = .ok (.if_icmp .ne 45, 3) := by decide +kernel
theorem dX4_isPoured_28 : decode cX4_isPoured 28 = .ok (.aload_n 0, 1) := by decide +kernel
theorem dX4_isPoured_29 : decode cX4_isPoured 29 = .ok (.getfield 13, 3) := by decide +kernel
theorem dX4_isPoured_32 : decode cX4_isPoured 32 = .ok (.iload_n 3, 1) := by decide +kernel
theorem dX4_isPoured_33 : decode cX4_isPoured 33 = .ok (.iaload, 1) := by decide +kernel
theorem dX4_isPoured_34 : decode cX4_isPoured 34 = .ok (.iload_n 1, 1) := by decide +kernel
theorem dX4_isPoured_35 : decode cX4_isPoured 35 = .ok (.if_icmp .ne 13, 3) := by decide +kernel
theorem dX4_isPoured_38 : decode cX4_isPoured 38 = .ok (.aload_n 0, 1) := by decide +kernel
theorem dX4_isPoured_39 : decode cX4_isPoured 39 = .ok (.getfield 17, 3) := by decide +kernel
theorem dX4_isPoured_42 : decode cX4_isPoured 42 = .ok (.iload_n 3, 1) := by decide +kernel
theorem dX4_isPoured_43 : decode cX4_isPoured 43 = .ok (.iaload, 1) := by decide +kernel
theorem dX4_isPoured_44 : decode cX4_isPoured 44 = .ok (.iload_n 2, 1) := by decide +kernel
theorem dX4_isPoured_45 : decode cX4_isPoured 45 = .ok (.if_icmp .eq 23, 3) := by decide +kernel
theorem dX4_isPoured_48 : decode cX4_isPoured 48 = .ok (.aload_n 0, 1) := by decide +kernel
theorem dX4_isPoured_49 : decode cX4_isPoured 49 = .ok (.getfield 13, 3) := by decide +kernel
theorem dX4_isPoured_52 : decode cX4_isPoured 52 = .ok (.iload_n 3, 1) := by decide +kernel
theorem dX4_isPoured_53 : decode cX4_isPoured 53 = .ok (.iaload, 1) := by decide +kernel
theorem dX4_isPoured_54 : decode cX4_isPoured 54 = .ok (.iload_n 2, 1) := by decide +kernel
theorem dX4_isPoured_55 : decode cX4_isPoured 55 = .ok (.if_icmp .ne 15, 3) := by decide +kernel
theorem dX4_isPoured_58 : decode cX4_isPoured 58 = .ok (.aload_n 0, 1) := by decide +kernel
theorem dX4_isPoured_59 : decode cX4_isPoured 59 = .ok (.getfield 17, 3) := by decide +kernel
theorem dX4_isPoured_62 : decode cX4_isPoured 62 = .ok (.iload_n 3, 1) := by decide +kernel
theorem dX4_isPoured_63 : decode cX4_isPoured 63 = .ok (.iaload, 1) := by decide +kernel
theorem dX4_isPoured_64 : decode cX4_isPoured 64 = .ok (.iload_n 1, 1) := by decide +kernel
theorem dX4_isPoured_65 : decode cX4_isPoured 65 = .ok (.if_icmp .ne 5, 3) := by decide +kernel
theorem dX4_isPoured_68 : decode cX4_isPoured 68 = .ok (.iconst 1, 1) := by decide +kernel
theorem dX4_isPoured_69 : decode cX4_isPoured 69 = .ok (.ireturn, 1) := by decide +kernel
theorem dX4_isPoured_70 : decode cX4_isPoured 70 = .ok (.iinc 3 1, 3) := by decide +kernel
theorem dX4_isPoured_73 : decode cX4_isPoured 73 = .ok (.goto (-71), 3) := by decide +kernel
theorem dX4_isPoured_76 : decode cX4_isPoured 76 = .ok (.iconst 0, 1) := by decide +kernel
theorem dX4_isPoured_77 : decode cX4_isPoured 77 = .ok (.ireturn, 1) := by decide +kernel
theorem dX4_hookFor_0 : decode cX4_hookFor 0 = .ok (.iconst 0, 1) := by decide +kernel
theorem dX4_hookFor_1 : decode cX4_hookFor 1 = .ok (.istore_n 3, 1) := by decide +kernel
theorem dX4_hookFor_2 : decode cX4_hookFor 2 = .ok (.iload_n 3, 1) := by decide +kernel
theorem dX4_hookFor_3 : decode cX4_hookFor 3 = .ok (.bipush 16, 2) := by decide +kernel
theorem dX4_hookFor_5 : decode cX4_hookFor 5 = .ok (.if_icmp .ge 54, 3) := by decide +kernel
theorem dX4_hookFor_8 : decode cX4_hookFor 8 = .ok (.iload_n 3, 1) := by decide +kernel
theorem dX4_hookFor_9 : decode cX4_hookFor 9 = .ok (.iload_n 1, 1) := by decide +kernel
theorem dX4_hookFor_10 : decode cX4_hookFor 10 = .ok (.if_icmp .eq 43, 3) := by decide +kernel
theorem dX4_hookFor_13 : decode cX4_hookFor 13 = .ok (.aload_n 0, 1) := by decide +kernel
theorem dX4_hookFor_14 : decode cX4_hookFor 14 = .ok (.getfield 47, 3) := by decide +kernel
theorem dX4_hookFor_17 : decode cX4_hookFor 17 = .ok (.iload_n 3, 1) := by decide +kernel
theorem dX4_hookFor_18 : decode cX4_hookFor 18 = .ok (.iaload, 1) := by decide +kernel
theorem dX4_hookFor_19 : decode cX4_hookFor 19 = .ok (.iconst (-1), 1) := by decide +kernel
theorem dX4_hookFor_20 : decode cX4_hookFor 20 = .ok (.if_icmp .eq 33, 3) := by decide +kernel
theorem dX4_hookFor_23 : decode cX4_hookFor 23 = .ok (.aload_n 0, 1) := by decide +kernel
theorem dX4_hookFor_24 : decode cX4_hookFor 24 = .ok (.iload_n 1, 1) := by decide +kernel
theorem dX4_hookFor_25 : decode cX4_hookFor 25 = .ok (.iload_n 3, 1) := by decide +kernel
theorem dX4_hookFor_26 : decode cX4_hookFor 26 = .ok (.invokevirtual 95, 3) := by decide +kernel
theorem dX4_hookFor_29 : decode cX4_hookFor 29 = .ok (.ifCond .eq 24, 3) := by decide +kernel
theorem dX4_hookFor_32 : decode cX4_hookFor 32 = .ok (.aload_n 0, 1) := by decide +kernel
theorem dX4_hookFor_33 : decode cX4_hookFor 33 = .ok (.iload_n 1, 1) := by decide +kernel
theorem dX4_hookFor_34 : decode cX4_hookFor 34 = .ok (.aload_n 0, 1) := by decide +kernel
theorem dX4_hookFor_35 : decode cX4_hookFor 35 = .ok (.getfield 47, 3) := by decide +kernel
theorem dX4_hookFor_38 : decode cX4_hookFor 38 = .ok (.iload_n 3, 1) := by decide +kernel
theorem dX4_hookFor_39 : decode cX4_hookFor 39 = .ok (.iaload, 1) := by decide +kernel
theorem dX4_hookFor_40 : decode cX4_hookFor 40 = .ok (.invokevirtual 98, 3) := by decide +kernel
theorem dX4_hookFor_43 : decode cX4_hookFor 43 = .ok (.ifCond .eq 10, 3) := by decide +kernel
theorem dX4_hookFor_46 : decode cX4_hookFor 46 = .ok (.aload_n 0, 1) := by decide +kernel
theorem dX4_hookFor_47 : decode cX4_hookFor 47 = .ok (.getfield 47, 3) := by decide +kernel
theorem dX4_hookFor_50 : decode cX4_hookFor 50 = .ok (.iload_n 3, 1) := by decide +kernel
theorem dX4_hookFor_51 : decode cX4_hookFor 51 = .ok (.iaload, 1) := by decide +kernel
theorem dX4_hookFor_52 : decode cX4_hookFor 52 = .ok (.ireturn, 1) := by decide +kernel
theorem dX4_hookFor_53 : decode cX4_hookFor 53 = .ok (.iinc 3 1, 3) := by decide +kernel
theorem dX4_hookFor_56 : decode cX4_hookFor 56 = .ok (.goto (-54), 3) := by decide +kernel
theorem dX4_hookFor_59 : decode cX4_hookFor 59 = .ok (.iconst 0, 1) := by decide +kernel
theorem dX4_hookFor_60 : decode cX4_hookFor 60 = .ok (.istore_n 3, 1) := by decide +kernel
theorem dX4_hookFor_61 : decode cX4_hookFor 61 = .ok (.iload_n 3, 1) := by decide +kernel
theorem dX4_hookFor_62 : decode cX4_hookFor 62 = .ok (.iload_n 2, 1) := by decide +kernel
theorem dX4_hookFor_63 : decode cX4_hookFor 63 = .ok (.if_icmp .ge 20, 3) := by decide +kernel
theorem dX4_hookFor_66 : decode cX4_hookFor 66 = .ok (.aload_n 0, 1) := by decide +kernel
theorem dX4_hookFor_67 : decode cX4_hookFor 67 = .ok (.iload_n 1, 1) := by decide +kernel
theorem dX4_hookFor_68 : decode cX4_hookFor 68 = .ok (.iload_n 3, 1) := by decide +kernel
theorem dX4_hookFor_69 : decode cX4_hookFor 69 = .ok (.invokevirtual 98, 3) := by decide +kernel
theorem dX4_hookFor_72 : decode cX4_hookFor 72 = .ok (.ifCond .eq 5, 3) := by decide +kernel
theorem dX4_hookFor_75 : decode cX4_hookFor 75 = .ok (.iload_n 3, 1) := by decide +kernel
theorem dX4_hookFor_76 : decode cX4_hookFor 76 = .ok (.ireturn, 1) := by decide +kernel
theorem dX4_hookFor_77 : decode cX4_hookFor 77 = .ok (.iinc 3 1, 3) := by decide +kernel
theorem dX4_hookFor_80 : decode cX4_hookFor 80 = .ok (.goto (-19), 3) := by decide +kernel
theorem dX4_hookFor_83 : decode cX4_hookFor 83 = .ok (.iconst (-1), 1) := by decide +kernel
theorem dX4_hookFor_84 : decode cX4_hookFor 84 = .ok (.ireturn, 1) := by decide +kernel
theorem dX4_hang_0 : decode cX4_hang 0 = .ok (.aload_n 0, 1) := by decide +kernel
theorem dX4_hang_1 : decode cX4_hang 1 = .ok (.getfield 67, 3) := by decide +kernel
theorem dX4_hang_4 : decode cX4_hang 4 = .ok (.istore_n 2, 1) := by decide +kernel
theorem dX4_hang_5 : decode cX4_hang 5 = .ok (.iconst 0, 1) := by decide +kernel
theorem dX4_hang_6 : decode cX4_hang 6 = .ok (.istore_n 3, 1) := by decide +kernel
theorem dX4_hang_7 : decode cX4_hang 7 = .ok (.iconst 0, 1) := by decide +kernel
theorem dX4_hang_8 : decode cX4_hang 8 = .ok (.istore 4, 2) := by decide +kernel
theorem dX4_hang_10 : decode cX4_hang 10 = .ok (.iload 4, 2) := by decide +kernel
theorem dX4_hang_12 : decode cX4_hang 12 = .ok (.bipush 16, 2) := by decide +kernel
theorem dX4_hang_14 : decode cX4_hang 14 = .ok (.if_icmp .ge 25, 3) := by decide +kernel
theorem dX4_hang_17 : decode cX4_hang 17 = .ok (.aload_n 0, 1) := by decide +kernel
theorem dX4_hang_18 : decode cX4_hang 18 = .ok (.getfield 41, 3) := by decide +kernel
theorem dX4_hang_21 : decode cX4_hang 21 = .ok (.iload 4, 2) := by decide +kernel
theorem dX4_hang_23 : decode cX4_hang 23 = .ok (.iconst (-1), 1) := by decide +kernel
theorem dX4_hang_24 : decode cX4_hang 24 = .ok (.iastore, 1) := by decide +kernel
theorem dX4_hang_25 : decode cX4_hang 25 = .ok (.aload_n 0, 1) := by decide +kernel
theorem dX4_hang_26 : decode cX4_hang 26 = .ok (.getfield 47, 3) := by decide +kernel
theorem dX4_hang_29 : decode cX4_hang 29 = .ok (.iload 4, 2) := by decide +kernel
theorem dX4_hang_31 : decode cX4_hang 31 = .ok (.iconst (-1), 1) := by decide +kernel
theorem dX4_hang_32 : decode cX4_hang 32 = .ok (.iastore, 1) := by decide +kernel
theorem dX4_hang_33 : decode cX4_hang 33 = .ok (.iinc 4 1, 3) := by decide +kernel
theorem dX4_hang_36 : decode cX4_hang 36 = .ok (.goto (-26), 3) := by decide +kernel
theorem dX4_hang_39 : decode cX4_hang 39 = .ok (.iload_n 2, 1) := by decide +kernel
theorem dX4_hang_40 : decode cX4_hang 40 = .ok (.ifCond .eq 43, 3) := by decide +kernel
theorem dX4_hang_43 : decode cX4_hang 43 = .ok (.aload_n 0, 1) := by decide +kernel
theorem dX4_hang_44 : decode cX4_hang 44 = .ok (.iload_n 2, 1) := by decide +kernel
theorem dX4_hang_45 : decode cX4_hang 45 = .ok (.iload_n 1, 1) := by decide +kernel
theorem dX4_hang_46 : decode cX4_hang 46 = .ok (.invokevirtual 101, 3) := by decide +kernel
theorem dX4_hang_49 : decode cX4_hang 49 = .ok (.istore 4, 2) := by decide +kernel
theorem dX4_hang_51 : decode cX4_hang 51 = .ok (.aload_n 0, 1) := by decide +kernel
theorem dX4_hang_52 : decode cX4_hang 52 = .ok (.getfield 44, 3) := by decide +kernel
theorem dX4_hang_55 : decode cX4_hang 55 = .ok (.iload_n 3, 1) := by decide +kernel
theorem dX4_hang_56 : decode cX4_hang 56 = .ok (.iload 4, 2) := by decide +kernel
theorem dX4_hang_58 : decode cX4_hang 58 = .ok (.iastore, 1) := by decide +kernel
theorem dX4_hang_59 : decode cX4_hang 59 = .ok (.aload_n 0, 1) := by decide +kernel
theorem dX4_hang_60 : decode cX4_hang 60 = .ok (.getfield 41, 3) := by decide +kernel
theorem dX4_hang_63 : decode cX4_hang 63 = .ok (.iload 4, 2) := by decide +kernel
theorem dX4_hang_65 : decode cX4_hang 65 = .ok (.iload_n 3, 1) := by decide +kernel
theorem dX4_hang_66 : decode cX4_hang 66 = .ok (.iastore, 1) := by decide +kernel
theorem dX4_hang_67 : decode cX4_hang 67 = .ok (.iinc 3 1, 3) := by decide +kernel
theorem dX4_hang_70 : decode cX4_hang 70 = .ok (.iload_n 2, 1) := by decide +kernel
theorem dX4_hang_71 : decode cX4_hang 71 = .ok (.iload 4, 2) := by decide +kernel
theorem dX4_hang_73 : decode cX4_hang 73 = .ok (.invokestatic 60, 3) := by decide +kernel
theorem dX4_hang_76 : decode cX4_hang 76 = .ok (.iconst (-1), 1) := by decide +kernel
theorem dX4_hang_77 : decode cX4_hang 77 = .ok (.ixor, 1) := by decide +kernel
theorem dX4_hang_78 : decode cX4_hang 78 = .ok (.iand, 1) := by decide +kernel
theorem dX4_hang_79 : decode cX4_hang 79 = .ok (.istore_n 2, 1) := by decide +kernel
theorem dX4_hang_80 : decode cX4_hang 80 = .ok (.goto (-41), 3) := by decide +kernel
theorem dX4_hang_83 : decode cX4_hang 83 = .ok (.iload_n 3, 1) := by decide +kernel
theorem dX4_hang_84 : decode cX4_hang 84 = .ok (.iconst 1, 1) := by decide +kernel
theorem dX4_hang_85 : decode cX4_hang 85 = .ok (.isub, 1) := by decide +kernel
theorem dX4_hang_86 : decode cX4_hang 86 = .ok (.istore 4, 2) := by decide +kernel
theorem dX4_hang_88 : decode cX4_hang 88 = .ok (.iload 4, 2) := by decide +kernel
theorem dX4_hang_90 : decode cX4_hang 90 = .ok (.ifCond .lt 33, 3) := by decide +kernel
theorem dX4_hang_93 : decode cX4_hang 93 = .ok (.aload_n 0, 1) := by decide +kernel
theorem dX4_hang_94 : decode cX4_hang 94 = .ok (.getfield 47, 3) := by decide +kernel
theorem dX4_hang_97 : decode cX4_hang 97 = .ok (.aload_n 0, 1) := by decide +kernel
theorem dX4_hang_98 : decode cX4_hang 98 = .ok (.getfield 44, 3) := by decide +kernel
theorem dX4_hang_101 : decode cX4_hang 101 = .ok (.iload 4, 2) := by decide +kernel
theorem dX4_hang_103 : decode cX4_hang 103 = .ok (.iaload, 1) := by decide +kernel
theorem dX4_hang_104 : decode cX4_hang 104 = .ok (.aload_n 0, 1) := by decide +kernel
theorem dX4_hang_105 : decode cX4_hang 105 = .ok (.aload_n 0, 1) := by decide +kernel
theorem dX4_hang_106 : decode cX4_hang 106 = .ok (.getfield 44, 3) := by decide +kernel
theorem dX4_hang_109 : decode cX4_hang 109 = .ok (.iload 4, 2) := by decide +kernel
theorem dX4_hang_111 : decode cX4_hang 111 = .ok (.iaload, 1) := by decide +kernel
theorem dX4_hang_112 : decode cX4_hang 112 = .ok (.iload_n 1, 1) := by decide +kernel
theorem dX4_hang_113 : decode cX4_hang 113 = .ok (.invokevirtual 105, 3) := by decide +kernel
theorem dX4_hang_116 : decode cX4_hang 116 = .ok (.iastore, 1) := by decide +kernel
theorem dX4_hang_117 : decode cX4_hang 117 = .ok (.iinc 4 (-1), 3) := by decide +kernel
theorem dX4_hang_120 : decode cX4_hang 120 = .ok (.goto (-32), 3) := by decide +kernel
theorem dX4_hang_123 : decode cX4_hang 123 = .ok (.return_, 1) := by decide +kernel
theorem dX4_lookAll_0 : decode cX4_lookAll 0 = .ok (.aload_n 0, 1) := by decide +kernel
theorem dX4_lookAll_1 : decode cX4_lookAll 1 = .ok (.invokevirtual 108, 3) := by decide +kernel
theorem dX4_lookAll_4 : decode cX4_lookAll 4 = .ok (.aload_n 0, 1) := by decide +kernel
theorem dX4_lookAll_5 : decode cX4_lookAll 5 = .ok (.aload_n 0, 1) := by decide +kernel
theorem dX4_lookAll_6 : decode cX4_lookAll 6 = .ok (.getfield 7, 3) := by decide +kernel
theorem dX4_lookAll_9 : decode cX4_lookAll 9 = .ok (.invokevirtual 111, 3) := by decide +kernel
theorem dX4_lookAll_12 : decode cX4_lookAll 12 = .ok (.return_, 1) := by decide +kernel
theorem dX4_isFloor_0 : decode cX4_isFloor 0 = .ok (.aload_n 0, 1) := by decide +kernel
theorem dX4_isFloor_1 : decode cX4_isFloor 1 = .ok (.getfield 67, 3) := by decide +kernel
theorem dX4_isFloor_4 : decode cX4_isFloor 4 = .ok (.iload_n 1, 1) := by decide +kernel
theorem dX4_isFloor_5 : decode cX4_isFloor 5 = .ok (.invokestatic 76, 3) := by decide +kernel
theorem dX4_isFloor_8 : decode cX4_isFloor 8 = .ok (.ifCond .eq 17, 3) := by decide +kernel
theorem dX4_isFloor_11 : decode cX4_isFloor 11 = .ok (.aload_n 0, 1) := by decide +kernel
theorem dX4_isFloor_12 : decode cX4_isFloor 12 = .ok (.getfield 47, 3) := by decide +kernel
theorem dX4_isFloor_15 : decode cX4_isFloor 15 = .ok (.iload_n 1, 1) := by decide +kernel
theorem dX4_isFloor_16 : decode cX4_isFloor 16 = .ok (.iaload, 1) := by decide +kernel
theorem dX4_isFloor_17 : decode cX4_isFloor 17 = .ok (.iconst (-1), 1) := by decide +kernel
theorem dX4_isFloor_18 : decode cX4_isFloor 18 = .ok (.if_icmp .ne 7, 3) := by decide +kernel
theorem dX4_isFloor_21 : decode cX4_isFloor 21 = .ok (.iconst 1, 1) := by decide +kernel
theorem dX4_isFloor_22 : decode cX4_isFloor 22 = .ok (.goto 4, 3) := by decide +kernel
theorem dX4_isFloor_25 : decode cX4_isFloor 25 = .ok (.iconst 0, 1) := by decide +kernel
theorem dX4_isFloor_26 : decode cX4_isFloor 26 = .ok (.ireturn, 1) := by decide +kernel
theorem dX4_floor_0 : decode cX4_floor 0 = .ok (.iconst 0, 1) := by decide +kernel
theorem dX4_floor_1 : decode cX4_floor 1 = .ok (.istore_n 1, 1) := by decide +kernel
theorem dX4_floor_2 : decode cX4_floor 2 = .ok (.iconst 0, 1) := by decide +kernel
theorem dX4_floor_3 : decode cX4_floor 3 = .ok (.istore_n 2, 1) := by decide +kernel
theorem dX4_floor_4 : decode cX4_floor 4 = .ok (.iload_n 2, 1) := by decide +kernel
theorem dX4_floor_5 : decode cX4_floor 5 = .ok (.bipush 16, 2) := by decide +kernel
theorem dX4_floor_7 : decode cX4_floor 7 = .ok (.if_icmp .ge 25, 3) := by decide +kernel
theorem dX4_floor_10 : decode cX4_floor 10 = .ok (.iload_n 1, 1) := by decide +kernel
theorem dX4_floor_11 : decode cX4_floor 11 = .ok (.aload_n 0, 1) := by decide +kernel
theorem dX4_floor_12 : decode cX4_floor 12 = .ok (.iload_n 2, 1) := by decide +kernel
theorem dX4_floor_13 : decode cX4_floor 13 = .ok (.invokevirtual 115, 3) := by decide +kernel
theorem dX4_floor_16 : decode cX4_floor 16 = .ok (.ifCond .eq 7, 3) := by decide +kernel
theorem dX4_floor_19 : decode cX4_floor 19 = .ok (.iconst 1, 1) := by decide +kernel
theorem dX4_floor_20 : decode cX4_floor 20 = .ok (.goto 4, 3) := by decide +kernel
theorem dX4_floor_23 : decode cX4_floor 23 = .ok (.iconst 0, 1) := by decide +kernel
theorem dX4_floor_24 : decode cX4_floor 24 = .ok (.iadd, 1) := by decide +kernel
theorem dX4_floor_25 : decode cX4_floor 25 = .ok (.istore_n 1, 1) := by decide +kernel
theorem dX4_floor_26 : decode cX4_floor 26 = .ok (.iinc 2 1, 3) := by decide +kernel
theorem dX4_floor_29 : decode cX4_floor 29 = .ok (.goto (-25), 3) := by decide +kernel
theorem dX4_floor_32 : decode cX4_floor 32 = .ok (.iload_n 1, 1) := by decide +kernel
theorem dX4_floor_33 : decode cX4_floor 33 = .ok (.ireturn, 1) := by decide +kernel
theorem dX4_floorCost_0 : decode cX4_floorCost 0 = .ok (.iconst 0, 1) := by decide +kernel
theorem dX4_floorCost_1 : decode cX4_floorCost 1 = .ok (.istore_n 1, 1) := by decide +kernel
theorem dX4_floorCost_2 : decode cX4_floorCost 2 = .ok (.iconst 0, 1) := by decide +kernel
theorem dX4_floorCost_3 : decode cX4_floorCost 3 = .ok (.istore_n 2, 1) := by decide +kernel
theorem dX4_floorCost_4 : decode cX4_floorCost 4 = .ok (.iload_n 2, 1) := by decide +kernel
theorem dX4_floorCost_5 : decode cX4_floorCost 5 = .ok (.bipush 16, 2) := by decide +kernel
theorem dX4_floorCost_7 : decode cX4_floorCost 7 = .ok (.if_icmp .ge 30, 3) := by decide +kernel
theorem dX4_floorCost_10 : decode cX4_floorCost 10 = .ok (.iload_n 1, 1) := by decide +kernel
theorem dX4_floorCost_11 : decode cX4_floorCost 11 = .ok (.aload_n 0, 1) := by decide +kernel
theorem dX4_floorCost_12 : decode cX4_floorCost 12 = .ok (.iload_n 2, 1) := by decide +kernel
theorem dX4_floorCost_13 : decode cX4_floorCost 13 = .ok (.invokevirtual 115, 3) := by decide +kernel
theorem dX4_floorCost_16 : decode cX4_floorCost 16 = .ok (.ifCond .eq 12, 3) := by decide +kernel
theorem dX4_floorCost_19 : decode cX4_floorCost 19 = .ok (.aload_n 0, 1) := by decide +kernel
theorem dX4_floorCost_20 : decode cX4_floorCost 20 = .ok (.getfield 38, 3) := by decide +kernel
theorem dX4_floorCost_23 : decode cX4_floorCost 23 = .ok (.iload_n 2, 1) := by decide +kernel
theorem dX4_floorCost_24 : decode cX4_floorCost 24 = .ok (.iaload, 1) := by decide +kernel
theorem dX4_floorCost_25 : decode cX4_floorCost 25 = .ok (.goto 4, 3) := by decide +kernel
theorem dX4_floorCost_28 : decode cX4_floorCost 28 = .ok (.iconst 0, 1) := by decide +kernel
theorem dX4_floorCost_29 : decode cX4_floorCost 29 = .ok (.iadd, 1) := by decide +kernel
theorem dX4_floorCost_30 : decode cX4_floorCost 30 = .ok (.istore_n 1, 1) := by decide +kernel
theorem dX4_floorCost_31 : decode cX4_floorCost 31 = .ok (.iinc 2 1, 3) := by decide +kernel
theorem dX4_floorCost_34 : decode cX4_floorCost 34 = .ok (.goto (-30), 3) := by decide +kernel
theorem dX4_floorCost_37 : decode cX4_floorCost 37 = .ok (.iload_n 1, 1) := by decide +kernel
theorem dX4_floorCost_38 : decode cX4_floorCost 38 = .ok (.ireturn, 1) := by decide +kernel
theorem dX4_isSpared_0 : decode cX4_isSpared 0 = .ok (.aload_n 0, 1) := by decide +kernel
theorem dX4_isSpared_1 : decode cX4_isSpared 1 = .ok (.getfield 26, 3) := by decide +kernel
theorem dX4_isSpared_4 : decode cX4_isSpared 4 = .ok (.iload_n 1, 1) := by decide +kernel
theorem dX4_isSpared_5 : decode cX4_isSpared 5 = .ok (.iaload, 1) := by decide +kernel
theorem dX4_isSpared_6 : decode cX4_isSpared 6 = .ok (.iconst 1, 1) := by decide +kernel
theorem dX4_isSpared_7 : decode cX4_isSpared 7 = .ok (.if_icmp .ne 47, 3) := by decide +kernel
theorem dX4_isSpared_10 : decode cX4_isSpared 10 = .ok (.aload_n 0, 1) := by decide +kernel
theorem dX4_isSpared_11 : decode cX4_isSpared 11 = .ok (.getfield 47, 3) := by decide +kernel
theorem dX4_isSpared_14 : decode cX4_isSpared 14 = .ok (.aload_n 0, 1) := by decide +kernel
theorem dX4_isSpared_15 : decode cX4_isSpared 15 = .ok (.getfield 13, 3) := by decide +kernel
theorem dX4_isSpared_18 : decode cX4_isSpared 18 = .ok (.iload_n 1, 1) := by decide +kernel
theorem dX4_isSpared_19 : decode cX4_isSpared 19 = .ok (.iaload, 1) := by decide +kernel
theorem dX4_isSpared_20 : decode cX4_isSpared 20 = .ok (.iaload, 1) := by decide +kernel
theorem dX4_isSpared_21 : decode cX4_isSpared 21 = .ok (.iconst (-1), 1) := by decide +kernel
theorem dX4_isSpared_22 : decode cX4_isSpared 22 = .ok (.if_icmp .eq 32, 3) := by decide +kernel
theorem dX4_isSpared_25 : decode cX4_isSpared 25 = .ok (.aload_n 0, 1) := by decide +kernel
theorem dX4_isSpared_26 : decode cX4_isSpared 26 = .ok (.getfield 47, 3) := by decide +kernel
theorem dX4_isSpared_29 : decode cX4_isSpared 29 = .ok (.aload_n 0, 1) := by decide +kernel
theorem dX4_isSpared_30 : decode cX4_isSpared 30 = .ok (.getfield 13, 3) := by decide +kernel
theorem dX4_isSpared_33 : decode cX4_isSpared 33 = .ok (.iload_n 1, 1) := by decide +kernel
theorem dX4_isSpared_34 : decode cX4_isSpared 34 = .ok (.iaload, 1) := by decide +kernel
theorem dX4_isSpared_35 : decode cX4_isSpared 35 = .ok (.iaload, 1) := by decide +kernel
theorem dX4_isSpared_36 : decode cX4_isSpared 36 = .ok (.aload_n 0, 1) := by decide +kernel
theorem dX4_isSpared_37 : decode cX4_isSpared 37 = .ok (.getfield 47, 3) := by decide +kernel
theorem dX4_isSpared_40 : decode cX4_isSpared 40 = .ok (.aload_n 0, 1) := by decide +kernel
theorem dX4_isSpared_41 : decode cX4_isSpared 41 = .ok (.getfield 17, 3) := by decide +kernel
theorem dX4_isSpared_44 : decode cX4_isSpared 44 = .ok (.iload_n 1, 1) := by decide +kernel
theorem dX4_isSpared_45 : decode cX4_isSpared 45 = .ok (.iaload, 1) := by decide +kernel
theorem dX4_isSpared_46 : decode cX4_isSpared 46 = .ok (.iaload, 1) := by decide +kernel
theorem dX4_isSpared_47 : decode cX4_isSpared 47 = .ok (.if_icmp .ne 7, 3) := by decide +kernel
theorem dX4_isSpared_50 : decode cX4_isSpared 50 = .ok (.iconst 1, 1) := by decide +kernel
theorem dX4_isSpared_51 : decode cX4_isSpared 51 = .ok (.goto 4, 3) := by decide +kernel
theorem dX4_isSpared_54 : decode cX4_isSpared 54 = .ok (.iconst 0, 1) := by decide +kernel
theorem dX4_isSpared_55 : decode cX4_isSpared 55 = .ok (.ireturn, 1) := by decide +kernel
theorem dX4_isPotOrNone_0 : decode cX4_isPotOrNone 0 = .ok (.iload_n 0, 1) := by decide +kernel
theorem dX4_isPotOrNone_1 : decode cX4_isPotOrNone 1 = .ok (.iconst (-1), 1) := by decide +kernel
theorem dX4_isPotOrNone_2 : decode cX4_isPotOrNone 2 = .ok (.bipush 15, 2) := by decide +kernel
theorem dX4_isPotOrNone_4 : decode cX4_isPotOrNone 4 = .ok (.invokestatic 53, 3) := by decide +kernel
theorem dX4_isPotOrNone_7 : decode cX4_isPotOrNone 7 = .ok (.ireturn, 1) := by decide +kernel
theorem dX4_add__0 : decode cX4_add_ 0 = .ok (.iload 4, 2) := by decide +kernel
theorem dX4_add__2 : decode cX4_add_ 2 = .ok (.iconst 1, 1) := by decide +kernel
theorem dX4_add__3 : decode cX4_add_ 3 = .ok (.bipush 9, 2) := by decide +kernel
theorem dX4_add__5 : decode cX4_add_ 5 = .ok (.invokestatic 53, 3) := by decide +kernel
theorem dX4_add__8 : decode cX4_add_ 8 = .ok (.ifCond .ne 9, 3) := by decide +kernel
theorem dX4_add__11 : decode cX4_add_ 11 = .ok (.aload_n 0, 1) := by decide +kernel
theorem dX4_add__12 : decode cX4_add_ 12 = .ok (.iconst 2, 1) := by decide +kernel
theorem dX4_add__13 : decode cX4_add_ 13 = .ok (.invokevirtual 119, 3) := by decide +kernel
theorem dX4_add__16 : decode cX4_add_ 16 = .ok (.ireturn, 1) := by decide +kernel
theorem dX4_add__17 : decode cX4_add_ 17 = .ok (.aload_n 0, 1) := by decide +kernel
theorem dX4_add__18 : decode cX4_add_ 18 = .ok (.getfield 57, 3) := by decide +kernel
theorem dX4_add__21 : decode cX4_add_ 21 = .ok (.bipush 30, 2) := by decide +kernel
theorem dX4_add__23 : decode cX4_add_ 23 = .ok (.if_icmp .ne 9, 3) := by decide +kernel
theorem dX4_add__26 : decode cX4_add_ 26 = .ok (.aload_n 0, 1) := by decide +kernel
theorem dX4_add__27 : decode cX4_add_ 27 = .ok (.iconst 3, 1) := by decide +kernel
theorem dX4_add__28 : decode cX4_add_ 28 = .ok (.invokevirtual 119, 3) := by decide +kernel
theorem dX4_add__31 : decode cX4_add_ 31 = .ok (.ireturn, 1) := by decide +kernel
theorem dX4_add__32 : decode cX4_add_ 32 = .ok (.aload_n 0, 1) := by decide +kernel
theorem dX4_add__33 : decode cX4_add_ 33 = .ok (.getfield 13, 3) := by decide +kernel
theorem dX4_add__36 : decode cX4_add_ 36 = .ok (.aload_n 0, 1) := by decide +kernel
theorem dX4_add__37 : decode cX4_add_ 37 = .ok (.getfield 57, 3) := by decide +kernel
theorem dX4_add__40 : decode cX4_add_ 40 = .ok (.iload_n 1, 1) := by decide +kernel
theorem dX4_add__41 : decode cX4_add_ 41 = .ok (.iastore, 1) := by decide +kernel
theorem dX4_add__42 : decode cX4_add_ 42 = .ok (.aload_n 0, 1) := by decide +kernel
theorem dX4_add__43 : decode cX4_add_ 43 = .ok (.getfield 17, 3) := by decide +kernel
theorem dX4_add__46 : decode cX4_add_ 46 = .ok (.aload_n 0, 1) := by decide +kernel
theorem dX4_add__47 : decode cX4_add_ 47 = .ok (.getfield 57, 3) := by decide +kernel
theorem dX4_add__50 : decode cX4_add_ 50 = .ok (.iload_n 2, 1) := by decide +kernel
theorem dX4_add__51 : decode cX4_add_ 51 = .ok (.iastore, 1) := by decide +kernel
theorem dX4_add__52 : decode cX4_add_ 52 = .ok (.aload_n 0, 1) := by decide +kernel
theorem dX4_add__53 : decode cX4_add_ 53 = .ok (.getfield 20, 3) := by decide +kernel
theorem dX4_add__56 : decode cX4_add_ 56 = .ok (.aload_n 0, 1) := by decide +kernel
theorem dX4_add__57 : decode cX4_add_ 57 = .ok (.getfield 57, 3) := by decide +kernel
theorem dX4_add__60 : decode cX4_add_ 60 = .ok (.iload_n 3, 1) := by decide +kernel
theorem dX4_add__61 : decode cX4_add_ 61 = .ok (.iastore, 1) := by decide +kernel
theorem dX4_add__62 : decode cX4_add_ 62 = .ok (.aload_n 0, 1) := by decide +kernel
theorem dX4_add__63 : decode cX4_add_ 63 = .ok (.getfield 23, 3) := by decide +kernel
theorem dX4_add__66 : decode cX4_add_ 66 = .ok (.aload_n 0, 1) := by decide +kernel
theorem dX4_add__67 : decode cX4_add_ 67 = .ok (.getfield 57, 3) := by decide +kernel
theorem dX4_add__70 : decode cX4_add_ 70 = .ok (.iload 4, 2) := by decide +kernel
theorem dX4_add__72 : decode cX4_add_ 72 = .ok (.iastore, 1) := by decide +kernel
theorem dX4_add__73 : decode cX4_add_ 73 = .ok (.aload_n 0, 1) := by decide +kernel
theorem dX4_add__74 : decode cX4_add_ 74 = .ok (.getfield 26, 3) := by decide +kernel
theorem dX4_add__77 : decode cX4_add_ 77 = .ok (.aload_n 0, 1) := by decide +kernel
theorem dX4_add__78 : decode cX4_add_ 78 = .ok (.getfield 57, 3) := by decide +kernel
theorem dX4_add__81 : decode cX4_add_ 81 = .ok (.iload 5, 2) := by decide +kernel
theorem dX4_add__83 : decode cX4_add_ 83 = .ok (.iastore, 1) := by decide +kernel
theorem dX4_add__84 : decode cX4_add_ 84 = .ok (.aload_n 0, 1) := by decide +kernel
theorem dX4_add__85 : decode cX4_add_ 85 = .ok (.dup, 1) := by decide +kernel
theorem dX4_add__86 : decode cX4_add_ 86 = .ok (.getfield 57, 3) := by decide +kernel
theorem dX4_add__89 : decode cX4_add_ 89 = .ok (.iconst 1, 1) := by decide +kernel
theorem dX4_add__90 : decode cX4_add_ 90 = .ok (.iadd, 1) := by decide +kernel
theorem dX4_add__91 : decode cX4_add_ 91 = .ok (.putfield 57, 3) := by decide +kernel
theorem dX4_add__94 : decode cX4_add_ 94 = .ok (.aload_n 0, 1) := by decide +kernel
theorem dX4_add__95 : decode cX4_add_ 95 = .ok (.getfield 57, 3) := by decide +kernel
theorem dX4_add__98 : decode cX4_add_ 98 = .ok (.iconst 1, 1) := by decide +kernel
theorem dX4_add__99 : decode cX4_add_ 99 = .ok (.isub, 1) := by decide +kernel
theorem dX4_add__100 : decode cX4_add_ 100 = .ok (.ireturn, 1) := by decide +kernel
theorem dX4_cook_0 : decode cX4_cook 0 = .ok (.aload_n 0, 1) := by decide +kernel
theorem dX4_cook_1 : decode cX4_cook 1 = .ok (.iconst 0, 1) := by decide +kernel
theorem dX4_cook_2 : decode cX4_cook 2 = .ok (.putfield 50, 3) := by decide +kernel
theorem dX4_cook_5 : decode cX4_cook 5 = .ok (.iload_n 1, 1) := by decide +kernel
theorem dX4_cook_6 : decode cX4_cook 6 = .ok (.invokestatic 122, 3) := by decide +kernel
theorem dX4_cook_9 : decode cX4_cook 9 = .ok (.ifCond .eq 30, 3) := by decide +kernel
theorem dX4_cook_12 : decode cX4_cook 12 = .ok (.iload_n 2, 1) := by decide +kernel
theorem dX4_cook_13 : decode cX4_cook 13 = .ok (.invokestatic 125, 3) := by decide +kernel
theorem dX4_cook_16 : decode cX4_cook 16 = .ok (.ifCond .eq 23, 3) := by decide +kernel
theorem dX4_cook_19 : decode cX4_cook 19 = .ok (.iload_n 3, 1) := by decide +kernel
theorem dX4_cook_20 : decode cX4_cook 20 = .ok (.invokestatic 125, 3) := by decide +kernel
theorem dX4_cook_23 : decode cX4_cook 23 = .ok (.ifCond .eq 16, 3) := by decide +kernel
theorem dX4_cook_26 : decode cX4_cook 26 = .ok (.aload_n 0, 1) := by decide +kernel
theorem dX4_cook_27 : decode cX4_cook 27 = .ok (.iload_n 1, 1) := by decide +kernel
theorem dX4_cook_28 : decode cX4_cook 28 = .ok (.iload_n 2, 1) := by decide +kernel
theorem dX4_cook_29 : decode cX4_cook 29 = .ok (.iload_n 3, 1) := by decide +kernel
theorem dX4_cook_30 : decode cX4_cook 30 = .ok (.iload 4, 2) := by decide +kernel
theorem dX4_cook_32 : decode cX4_cook 32 = .ok (.iconst 0, 1) := by decide +kernel
theorem dX4_cook_33 : decode cX4_cook 33 = .ok (.invokevirtual 128, 3) := by decide +kernel
theorem dX4_cook_36 : decode cX4_cook 36 = .ok (.goto 8, 3) := by decide +kernel
theorem dX4_cook_39 : decode cX4_cook 39 = .ok (.aload_n 0, 1) := by decide +kernel
theorem dX4_cook_40 : decode cX4_cook 40 = .ok (.iconst 1, 1) := by decide +kernel
theorem dX4_cook_41 : decode cX4_cook 41 = .ok (.invokevirtual 119, 3) := by decide +kernel
theorem dX4_cook_44 : decode cX4_cook 44 = .ok (.ireturn, 1) := by decide +kernel
theorem dX4_pour_0 : decode cX4_pour 0 = .ok (.aload_n 0, 1) := by decide +kernel
theorem dX4_pour_1 : decode cX4_pour 1 = .ok (.iconst 0, 1) := by decide +kernel
theorem dX4_pour_2 : decode cX4_pour 2 = .ok (.putfield 50, 3) := by decide +kernel
theorem dX4_pour_5 : decode cX4_pour 5 = .ok (.iload_n 1, 1) := by decide +kernel
theorem dX4_pour_6 : decode cX4_pour 6 = .ok (.invokestatic 122, 3) := by decide +kernel
theorem dX4_pour_9 : decode cX4_pour 9 = .ok (.ifCond .eq 22, 3) := by decide +kernel
theorem dX4_pour_12 : decode cX4_pour 12 = .ok (.iload_n 2, 1) := by decide +kernel
theorem dX4_pour_13 : decode cX4_pour 13 = .ok (.invokestatic 122, 3) := by decide +kernel
theorem dX4_pour_16 : decode cX4_pour 16 = .ok (.ifCond .eq 15, 3) := by decide +kernel
theorem dX4_pour_19 : decode cX4_pour 19 = .ok (.aload_n 0, 1) := by decide +kernel
theorem dX4_pour_20 : decode cX4_pour 20 = .ok (.iload_n 1, 1) := by decide +kernel
theorem dX4_pour_21 : decode cX4_pour 21 = .ok (.iload_n 2, 1) := by decide +kernel
theorem dX4_pour_22 : decode cX4_pour 22 = .ok (.iconst (-1), 1) := by decide +kernel
theorem dX4_pour_23 : decode cX4_pour 23 = .ok (.iload_n 3, 1) := by decide +kernel
theorem dX4_pour_24 : decode cX4_pour 24 = .ok (.iconst 1, 1) := by decide +kernel
theorem dX4_pour_25 : decode cX4_pour 25 = .ok (.invokevirtual 128, 3) := by decide +kernel
theorem dX4_pour_28 : decode cX4_pour 28 = .ok (.goto 8, 3) := by decide +kernel
theorem dX4_pour_31 : decode cX4_pour 31 = .ok (.aload_n 0, 1) := by decide +kernel
theorem dX4_pour_32 : decode cX4_pour 32 = .ok (.iconst 1, 1) := by decide +kernel
theorem dX4_pour_33 : decode cX4_pour 33 = .ok (.invokevirtual 119, 3) := by decide +kernel
theorem dX4_pour_36 : decode cX4_pour 36 = .ok (.ireturn, 1) := by decide +kernel
theorem dX4_moveUp_0 : decode cX4_moveUp 0 = .ok (.iload_n 1, 1) := by decide +kernel
theorem dX4_moveUp_1 : decode cX4_moveUp 1 = .ok (.istore_n 3, 1) := by decide +kernel
theorem dX4_moveUp_2 : decode cX4_moveUp 2 = .ok (.iload_n 3, 1) := by decide +kernel
theorem dX4_moveUp_3 : decode cX4_moveUp 3 = .ok (.iload_n 2, 1) := by decide +kernel
theorem dX4_moveUp_4 : decode cX4_moveUp 4 = .ok (.if_icmp .ge 17, 3) := by decide +kernel
theorem dX4_moveUp_7 : decode cX4_moveUp 7 = .ok (.aload_n 0, 1) := by decide +kernel
theorem dX4_moveUp_8 : decode cX4_moveUp 8 = .ok (.iload_n 3, 1) := by decide +kernel
theorem dX4_moveUp_9 : decode cX4_moveUp 9 = .ok (.aload_n 0, 1) := by decide +kernel
theorem dX4_moveUp_10 : decode cX4_moveUp 10 = .ok (.iload_n 3, 1) := by decide +kernel
theorem dX4_moveUp_11 : decode cX4_moveUp 11 = .ok (.iconst 1, 1) := by decide +kernel
theorem dX4_moveUp_12 : decode cX4_moveUp 12 = .ok (.iadd, 1) := by decide +kernel
theorem dX4_moveUp_13 : decode cX4_moveUp 13 = .ok (.iaload, 1) := by decide +kernel
theorem dX4_moveUp_14 : decode cX4_moveUp 14 = .ok (.iastore, 1) := by decide +kernel
theorem dX4_moveUp_15 : decode cX4_moveUp 15 = .ok (.iinc 3 1, 3) := by decide +kernel
theorem dX4_moveUp_18 : decode cX4_moveUp 18 = .ok (.goto (-16), 3) := by decide +kernel
theorem dX4_moveUp_21 : decode cX4_moveUp 21 = .ok (.return_, 1) := by decide +kernel
theorem dX4_drop_0 : decode cX4_drop 0 = .ok (.aload_n 0, 1) := by decide +kernel
theorem dX4_drop_1 : decode cX4_drop 1 = .ok (.iconst 0, 1) := by decide +kernel
theorem dX4_drop_2 : decode cX4_drop 2 = .ok (.putfield 50, 3) := by decide +kernel
theorem dX4_drop_5 : decode cX4_drop 5 = .ok (.aload_n 0, 1) := by decide +kernel
theorem dX4_drop_6 : decode cX4_drop 6 = .ok (.iload_n 1, 1) := by decide +kernel
theorem dX4_drop_7 : decode cX4_drop 7 = .ok (.invokevirtual 131, 3) := by decide +kernel
theorem dX4_drop_10 : decode cX4_drop 10 = .ok (.ifCond .ne 9, 3) := by decide +kernel
theorem dX4_drop_13 : decode cX4_drop 13 = .ok (.aload_n 0, 1) := by decide +kernel
theorem dX4_drop_14 : decode cX4_drop 14 = .ok (.iconst 1, 1) := by decide +kernel
theorem dX4_drop_15 : decode cX4_drop 15 = .ok (.invokevirtual 119, 3) := by decide +kernel
theorem dX4_drop_18 : decode cX4_drop 18 = .ok (.ireturn, 1) := by decide +kernel
theorem dX4_drop_19 : decode cX4_drop 19 = .ok (.aload_n 0, 1) := by decide +kernel
theorem dX4_drop_20 : decode cX4_drop 20 = .ok (.dup, 1) := by decide +kernel
theorem dX4_drop_21 : decode cX4_drop 21 = .ok (.getfield 57, 3) := by decide +kernel
theorem dX4_drop_24 : decode cX4_drop 24 = .ok (.iconst 1, 1) := by decide +kernel
theorem dX4_drop_25 : decode cX4_drop 25 = .ok (.isub, 1) := by decide +kernel
theorem dX4_drop_26 : decode cX4_drop 26 = .ok (.putfield 57, 3) := by decide +kernel
theorem dX4_drop_29 : decode cX4_drop 29 = .ok (.aload_n 0, 1) := by decide +kernel
theorem dX4_drop_30 : decode cX4_drop 30 = .ok (.getfield 13, 3) := by decide +kernel
theorem dX4_drop_33 : decode cX4_drop 33 = .ok (.iload_n 1, 1) := by decide +kernel
theorem dX4_drop_34 : decode cX4_drop 34 = .ok (.aload_n 0, 1) := by decide +kernel
theorem dX4_drop_35 : decode cX4_drop 35 = .ok (.getfield 57, 3) := by decide +kernel
theorem dX4_drop_38 : decode cX4_drop 38 = .ok (.invokestatic 134, 3) := by decide +kernel
theorem dX4_drop_41 : decode cX4_drop 41 = .ok (.aload_n 0, 1) := by decide +kernel
theorem dX4_drop_42 : decode cX4_drop 42 = .ok (.getfield 17, 3) := by decide +kernel
theorem dX4_drop_45 : decode cX4_drop 45 = .ok (.iload_n 1, 1) := by decide +kernel
theorem dX4_drop_46 : decode cX4_drop 46 = .ok (.aload_n 0, 1) := by decide +kernel
theorem dX4_drop_47 : decode cX4_drop 47 = .ok (.getfield 57, 3) := by decide +kernel
theorem dX4_drop_50 : decode cX4_drop 50 = .ok (.invokestatic 134, 3) := by decide +kernel
theorem dX4_drop_53 : decode cX4_drop 53 = .ok (.aload_n 0, 1) := by decide +kernel
theorem dX4_drop_54 : decode cX4_drop 54 = .ok (.getfield 20, 3) := by decide +kernel
theorem dX4_drop_57 : decode cX4_drop 57 = .ok (.iload_n 1, 1) := by decide +kernel
theorem dX4_drop_58 : decode cX4_drop 58 = .ok (.aload_n 0, 1) := by decide +kernel
theorem dX4_drop_59 : decode cX4_drop 59 = .ok (.getfield 57, 3) := by decide +kernel
theorem dX4_drop_62 : decode cX4_drop 62 = .ok (.invokestatic 134, 3) := by decide +kernel
theorem dX4_drop_65 : decode cX4_drop 65 = .ok (.aload_n 0, 1) := by decide +kernel
theorem dX4_drop_66 : decode cX4_drop 66 = .ok (.getfield 23, 3) := by decide +kernel
theorem dX4_drop_69 : decode cX4_drop 69 = .ok (.iload_n 1, 1) := by decide +kernel
theorem dX4_drop_70 : decode cX4_drop 70 = .ok (.aload_n 0, 1) := by decide +kernel
theorem dX4_drop_71 : decode cX4_drop 71 = .ok (.getfield 57, 3) := by decide +kernel
theorem dX4_drop_74 : decode cX4_drop 74 = .ok (.invokestatic 134, 3) := by decide +kernel
theorem dX4_drop_77 : decode cX4_drop 77 = .ok (.aload_n 0, 1) := by decide +kernel
theorem dX4_drop_78 : decode cX4_drop 78 = .ok (.getfield 26, 3) := by decide +kernel
theorem dX4_drop_81 : decode cX4_drop 81 = .ok (.iload_n 1, 1) := by decide +kernel
theorem dX4_drop_82 : decode cX4_drop 82 = .ok (.aload_n 0, 1) := by decide +kernel
theorem dX4_drop_83 : decode cX4_drop 83 = .ok (.getfield 57, 3) := by decide +kernel
theorem dX4_drop_86 : decode cX4_drop 86 = .ok (.invokestatic 134, 3) := by decide +kernel
theorem dX4_drop_89 : decode cX4_drop 89 = .ok (.aload_n 0, 1) := by decide +kernel
theorem dX4_drop_90 : decode cX4_drop 90 = .ok (.getfield 57, 3) := by decide +kernel
theorem dX4_drop_93 : decode cX4_drop 93 = .ok (.ireturn, 1) := by decide +kernel
theorem dX4_want_0 : decode cX4_want 0 = .ok (.aload_n 0, 1) := by decide +kernel
theorem dX4_want_1 : decode cX4_want 1 = .ok (.iload_n 1, 1) := by decide +kernel
theorem dX4_want_2 : decode cX4_want 2 = .ok (.invokestatic 122, 3) := by decide +kernel
theorem dX4_want_5 : decode cX4_want 5 = .ok (.ifCond .eq 7, 3) := by decide +kernel
theorem dX4_want_8 : decode cX4_want 8 = .ok (.iconst 0, 1) := by decide +kernel
theorem dX4_want_9 : decode cX4_want 9 = .ok (.goto 4, 3) := by decide +kernel
theorem dX4_want_12 : decode cX4_want 12 = .ok (.iconst 1, 1) := by decide +kernel
theorem dX4_want_13 : decode cX4_want 13 = .ok (.putfield 50, 3) := by decide +kernel
theorem dX4_want_16 : decode cX4_want 16 = .ok (.aload_n 0, 1) := by decide +kernel
theorem dX4_want_17 : decode cX4_want 17 = .ok (.getfield 50, 3) := by decide +kernel
theorem dX4_want_20 : decode cX4_want 20 = .ok (.ifCond .eq 5, 3) := by decide +kernel
theorem dX4_want_23 : decode cX4_want 23 = .ok (.iconst 0, 1) := by decide +kernel
theorem dX4_want_24 : decode cX4_want 24 = .ok (.ireturn, 1) := by decide +kernel
theorem dX4_want_25 : decode cX4_want 25 = .ok (.aload_n 0, 1) := by decide +kernel
theorem dX4_want_26 : decode cX4_want 26 = .ok (.getfield 64, 3) := by decide +kernel
theorem dX4_want_29 : decode cX4_want 29 = .ok (.iload_n 1, 1) := by decide +kernel
theorem dX4_want_30 : decode cX4_want 30 = .ok (.invokestatic 76, 3) := by decide +kernel
theorem dX4_want_33 : decode cX4_want 33 = .ok (.istore_n 3, 1) := by decide +kernel
theorem dX4_want_34 : decode cX4_want 34 = .ok (.iload_n 3, 1) := by decide +kernel
theorem dX4_want_35 : decode cX4_want 35 = .ok (.iload_n 2, 1) := by decide +kernel
theorem dX4_want_36 : decode cX4_want 36 = .ok (.if_icmp .eq 16, 3) := by decide +kernel
theorem dX4_want_39 : decode cX4_want 39 = .ok (.aload_n 0, 1) := by decide +kernel
theorem dX4_want_40 : decode cX4_want 40 = .ok (.dup, 1) := by decide +kernel
theorem dX4_want_41 : decode cX4_want 41 = .ok (.getfield 64, 3) := by decide +kernel
theorem dX4_want_44 : decode cX4_want 44 = .ok (.iload_n 1, 1) := by decide +kernel
theorem dX4_want_45 : decode cX4_want 45 = .ok (.invokestatic 60, 3) := by decide +kernel
theorem dX4_want_48 : decode cX4_want 48 = .ok (.ixor, 1) := by decide +kernel
theorem dX4_want_49 : decode cX4_want 49 = .ok (.putfield 64, 3) := by decide +kernel
theorem dX4_want_52 : decode cX4_want 52 = .ok (.iload_n 3, 1) := by decide +kernel
theorem dX4_want_53 : decode cX4_want 53 = .ok (.ireturn, 1) := by decide +kernel
theorem dX4_setHooks_0 : decode cX4_setHooks 0 = .ok (.aload_n 0, 1) := by decide +kernel
theorem dX4_setHooks_1 : decode cX4_setHooks 1 = .ok (.iconst 0, 1) := by decide +kernel
theorem dX4_setHooks_2 : decode cX4_setHooks 2 = .ok (.putfield 50, 3) := by decide +kernel
theorem dX4_setHooks_5 : decode cX4_setHooks 5 = .ok (.iload_n 1, 1) := by decide +kernel
theorem dX4_setHooks_6 : decode cX4_setHooks 6 = .ok (.iconst 1, 1) := by decide +kernel
theorem dX4_setHooks_7 : decode cX4_setHooks 7 = .ok (.bipush 8, 2) := by decide +kernel
theorem dX4_setHooks_9 : decode cX4_setHooks 9 = .ok (.invokestatic 53, 3) := by decide +kernel
theorem dX4_setHooks_12 : decode cX4_setHooks 12 = .ok (.ifCond .ne 9, 3) := by decide +kernel
theorem dX4_setHooks_15 : decode cX4_setHooks 15 = .ok (.aload_n 0, 1) := by decide +kernel
theorem dX4_setHooks_16 : decode cX4_setHooks 16 = .ok (.iconst 1, 1) := by decide +kernel
theorem dX4_setHooks_17 : decode cX4_setHooks 17 = .ok (.invokevirtual 119, 3) := by decide +kernel
theorem dX4_setHooks_20 : decode cX4_setHooks 20 = .ok (.ireturn, 1) := by decide +kernel
theorem dX4_setHooks_21 : decode cX4_setHooks 21 = .ok (.aload_n 0, 1) := by decide +kernel
theorem dX4_setHooks_22 : decode cX4_setHooks 22 = .ok (.getfield 7, 3) := by decide +kernel
theorem dX4_setHooks_25 : decode cX4_setHooks 25 = .ok (.istore_n 2, 1) := by decide +kernel
theorem dX4_setHooks_26 : decode cX4_setHooks 26 = .ok (.aload_n 0, 1) := by decide +kernel
theorem dX4_setHooks_27 : decode cX4_setHooks 27 = .ok (.iload_n 1, 1) := by decide +kernel
theorem dX4_setHooks_28 : decode cX4_setHooks 28 = .ok (.putfield 7, 3) := by decide +kernel
theorem dX4_setHooks_31 : decode cX4_setHooks 31 = .ok (.iload_n 2, 1) := by decide +kernel
theorem dX4_setHooks_32 : decode cX4_setHooks 32 = .ok (.ireturn, 1) := by decide +kernel
theorem dX4_aheadOf_0 : decode cX4_aheadOf 0 = .ok (.iload_n 1, 1) := by decide +kernel
theorem dX4_aheadOf_1 : decode cX4_aheadOf 1 = .ok (.ifCond .ne 10, 3) := by decide +kernel
theorem dX4_aheadOf_4 : decode cX4_aheadOf 4 = .ok (.aload_n 0, 1) := by decide +kernel
theorem dX4_aheadOf_5 : decode cX4_aheadOf 5 = .ok (.getfield 73, 3) := by decide +kernel
theorem dX4_aheadOf_8 : decode cX4_aheadOf 8 = .ok (.goto 11, 3) := by decide +kernel
theorem dX4_aheadOf_11 : decode cX4_aheadOf 11 = .ok (.aload_n 0, 1) := by decide +kernel
theorem dX4_aheadOf_12 : decode cX4_aheadOf 12 = .ok (.getfield 32, 3) := by decide +kernel
theorem dX4_aheadOf_15 : decode cX4_aheadOf 15 = .ok (.iload_n 1, 1) := by decide +kernel
theorem dX4_aheadOf_16 : decode cX4_aheadOf 16 = .ok (.iconst 1, 1) := by decide +kernel
theorem dX4_aheadOf_17 : decode cX4_aheadOf 17 = .ok (.isub, 1) := by decide +kernel
theorem dX4_aheadOf_18 : decode cX4_aheadOf 18 = .ok (.iaload, 1) := by decide +kernel
theorem dX4_aheadOf_19 : decode cX4_aheadOf 19 = .ok (.ireturn, 1) := by decide +kernel
theorem dX4_deedTold_0 : decode cX4_deedTold 0 = .ok (.iload_n 2, 1) := by decide +kernel
theorem dX4_deedTold_1 : decode cX4_deedTold 1 = .ok (.tableswitch 84 0 5 #[39, 46, 53, 60, 67, 74], 39) := by decide +kernel
theorem dX4_deedTold_40 : decode cX4_deedTold 40 = .ok (.aload_n 0, 1) := by decide +kernel
theorem dX4_deedTold_41 : decode cX4_deedTold 41 = .ok (.getfield 13, 3) := by decide +kernel
theorem dX4_deedTold_44 : decode cX4_deedTold 44 = .ok (.iload_n 1, 1) := by decide +kernel
theorem dX4_deedTold_45 : decode cX4_deedTold 45 = .ok (.iaload, 1) := by decide +kernel
theorem dX4_deedTold_46 : decode cX4_deedTold 46 = .ok (.ireturn, 1) := by decide +kernel
theorem dX4_deedTold_47 : decode cX4_deedTold 47 = .ok (.aload_n 0, 1) := by decide +kernel
theorem dX4_deedTold_48 : decode cX4_deedTold 48 = .ok (.getfield 17, 3) := by decide +kernel
theorem dX4_deedTold_51 : decode cX4_deedTold 51 = .ok (.iload_n 1, 1) := by decide +kernel
theorem dX4_deedTold_52 : decode cX4_deedTold 52 = .ok (.iaload, 1) := by decide +kernel
theorem dX4_deedTold_53 : decode cX4_deedTold 53 = .ok (.ireturn, 1) := by decide +kernel
theorem dX4_deedTold_54 : decode cX4_deedTold 54 = .ok (.aload_n 0, 1) := by decide +kernel
theorem dX4_deedTold_55 : decode cX4_deedTold 55 = .ok (.getfield 20, 3) := by decide +kernel
theorem dX4_deedTold_58 : decode cX4_deedTold 58 = .ok (.iload_n 1, 1) := by decide +kernel
theorem dX4_deedTold_59 : decode cX4_deedTold 59 = .ok (.iaload, 1) := by decide +kernel
theorem dX4_deedTold_60 : decode cX4_deedTold 60 = .ok (.ireturn, 1) := by decide +kernel
theorem dX4_deedTold_61 : decode cX4_deedTold 61 = .ok (.aload_n 0, 1) := by decide +kernel
theorem dX4_deedTold_62 : decode cX4_deedTold 62 = .ok (.getfield 23, 3) := by decide +kernel
theorem dX4_deedTold_65 : decode cX4_deedTold 65 = .ok (.iload_n 1, 1) := by decide +kernel
theorem dX4_deedTold_66 : decode cX4_deedTold 66 = .ok (.iaload, 1) := by decide +kernel
theorem dX4_deedTold_67 : decode cX4_deedTold 67 = .ok (.ireturn, 1) := by decide +kernel
theorem dX4_deedTold_68 : decode cX4_deedTold 68 = .ok (.aload_n 0, 1) := by decide +kernel
theorem dX4_deedTold_69 : decode cX4_deedTold 69 = .ok (.getfield 26, 3) := by decide +kernel
theorem dX4_deedTold_72 : decode cX4_deedTold 72 = .ok (.iload_n 1, 1) := by decide +kernel
theorem dX4_deedTold_73 : decode cX4_deedTold 73 = .ok (.iaload, 1) := by decide +kernel
theorem dX4_deedTold_74 : decode cX4_deedTold 74 = .ok (.ireturn, 1) := by decide +kernel
theorem dX4_deedTold_75 : decode cX4_deedTold 75 = .ok (.aload_n 0, 1) := by decide +kernel
theorem dX4_deedTold_76 : decode cX4_deedTold 76 = .ok (.getfield 32, 3) := by decide +kernel
theorem dX4_deedTold_79 : decode cX4_deedTold 79 = .ok (.iload_n 1, 1) := by decide +kernel
theorem dX4_deedTold_80 : decode cX4_deedTold 80 = .ok (.iaload, 1) := by decide +kernel
theorem dX4_deedTold_81 : decode cX4_deedTold 81 = .ok (.invokestatic 90, 3) := by decide +kernel
theorem dX4_deedTold_84 : decode cX4_deedTold 84 = .ok (.ireturn, 1) := by decide +kernel
theorem dX4_deedTold_85 : decode cX4_deedTold 85 = .ok (.aload_n 0, 1) := by decide +kernel
theorem dX4_deedTold_86 : decode cX4_deedTold 86 = .ok (.iload_n 1, 1) := by decide +kernel
theorem dX4_deedTold_87 : decode cX4_deedTold 87 = .ok (.invokevirtual 138, 3) := by decide +kernel
theorem dX4_deedTold_90 : decode cX4_deedTold 90 = .ok (.invokestatic 90, 3) := by decide +kernel
theorem dX4_deedTold_93 : decode cX4_deedTold 93 = .ok (.ireturn, 1) := by decide +kernel
theorem dX4_deed_0 : decode cX4_deed 0 = .ok (.aload_n 0, 1) := by decide +kernel
theorem dX4_deed_1 : decode cX4_deed 1 = .ok (.iconst 0, 1) := by decide +kernel
theorem dX4_deed_2 : decode cX4_deed 2 = .ok (.putfield 50, 3) := by decide +kernel
theorem dX4_deed_5 : decode cX4_deed 5 = .ok (.aload_n 0, 1) := by decide +kernel
theorem dX4_deed_6 : decode cX4_deed 6 = .ok (.iload_n 1, 1) := by decide +kernel
theorem dX4_deed_7 : decode cX4_deed 7 = .ok (.invokevirtual 131, 3) := by decide +kernel
theorem dX4_deed_10 : decode cX4_deed 10 = .ok (.ifCond .eq 13, 3) := by decide +kernel
theorem dX4_deed_13 : decode cX4_deed 13 = .ok (.iload_n 2, 1) := by decide +kernel
theorem dX4_deed_14 : decode cX4_deed 14 = .ok (.iconst 0, 1) := by decide +kernel
theorem dX4_deed_15 : decode cX4_deed 15 = .ok (.bipush 6, 2) := by decide +kernel
theorem dX4_deed_17 : decode cX4_deed 17 = .ok (.invokestatic 53, 3) := by decide +kernel
theorem dX4_deed_20 : decode cX4_deed 20 = .ok (.ifCond .ne 9, 3) := by decide +kernel
theorem dX4_deed_23 : decode cX4_deed 23 = .ok (.aload_n 0, 1) := by decide +kernel
theorem dX4_deed_24 : decode cX4_deed 24 = .ok (.iconst 1, 1) := by decide +kernel
theorem dX4_deed_25 : decode cX4_deed 25 = .ok (.invokevirtual 119, 3) := by decide +kernel
theorem dX4_deed_28 : decode cX4_deed 28 = .ok (.ireturn, 1) := by decide +kernel
theorem dX4_deed_29 : decode cX4_deed 29 = .ok (.aload_n 0, 1) := by decide +kernel
theorem dX4_deed_30 : decode cX4_deed 30 = .ok (.invokevirtual 80, 3) := by decide +kernel
theorem dX4_deed_33 : decode cX4_deed 33 = .ok (.aload_n 0, 1) := by decide +kernel
theorem dX4_deed_34 : decode cX4_deed 34 = .ok (.iload_n 1, 1) := by decide +kernel
theorem dX4_deed_35 : decode cX4_deed 35 = .ok (.iload_n 2, 1) := by decide +kernel
theorem dX4_deed_36 : decode cX4_deed 36 = .ok (.invokevirtual 141, 3) := by decide +kernel
theorem dX4_deed_39 : decode cX4_deed 39 = .ok (.ireturn, 1) := by decide +kernel
theorem dX4_lives_0 : decode cX4_lives 0 = .ok (.aload_n 0, 1) := by decide +kernel
theorem dX4_lives_1 : decode cX4_lives 1 = .ok (.iload_n 1, 1) := by decide +kernel
theorem dX4_lives_2 : decode cX4_lives 2 = .ok (.invokestatic 122, 3) := by decide +kernel
theorem dX4_lives_5 : decode cX4_lives 5 = .ok (.ifCond .eq 15, 3) := by decide +kernel
theorem dX4_lives_8 : decode cX4_lives 8 = .ok (.aload_n 0, 1) := by decide +kernel
theorem dX4_lives_9 : decode cX4_lives 9 = .ok (.iload_n 2, 1) := by decide +kernel
theorem dX4_lives_10 : decode cX4_lives 10 = .ok (.invokevirtual 131, 3) := by decide +kernel
theorem dX4_lives_13 : decode cX4_lives 13 = .ok (.ifCond .eq 7, 3) := by decide +kernel
theorem dX4_lives_16 : decode cX4_lives 16 = .ok (.iconst 0, 1) := by decide +kernel
theorem dX4_lives_17 : decode cX4_lives 17 = .ok (.goto 4, 3) := by decide +kernel
theorem dX4_lives_20 : decode cX4_lives 20 = .ok (.iconst 1, 1) := by decide +kernel
theorem dX4_lives_21 : decode cX4_lives 21 = .ok (.putfield 50, 3) := by decide +kernel
theorem dX4_lives_24 : decode cX4_lives 24 = .ok (.aload_n 0, 1) := by decide +kernel
theorem dX4_lives_25 : decode cX4_lives 25 = .ok (.getfield 50, 3) := by decide +kernel
theorem dX4_lives_28 : decode cX4_lives 28 = .ok (.ifCond .eq 5, 3) := by decide +kernel
theorem dX4_lives_31 : decode cX4_lives 31 = .ok (.iconst 0, 1) := by decide +kernel
theorem dX4_lives_32 : decode cX4_lives 32 = .ok (.ireturn, 1) := by decide +kernel
theorem dX4_lives_33 : decode cX4_lives 33 = .ok (.aload_n 0, 1) := by decide +kernel
theorem dX4_lives_34 : decode cX4_lives 34 = .ok (.invokevirtual 80, 3) := by decide +kernel
theorem dX4_lives_37 : decode cX4_lives 37 = .ok (.aload_n 0, 1) := by decide +kernel
theorem dX4_lives_38 : decode cX4_lives 38 = .ok (.getfield 32, 3) := by decide +kernel
theorem dX4_lives_41 : decode cX4_lives 41 = .ok (.iload_n 2, 1) := by decide +kernel
theorem dX4_lives_42 : decode cX4_lives 42 = .ok (.iaload, 1) := by decide +kernel
theorem dX4_lives_43 : decode cX4_lives 43 = .ok (.iload_n 1, 1) := by decide +kernel
theorem dX4_lives_44 : decode cX4_lives 44 = .ok (.invokestatic 76, 3) := by decide +kernel
theorem dX4_lives_47 : decode cX4_lives 47 = .ok (.ireturn, 1) := by decide +kernel
theorem dX4_clash_0 : decode cX4_clash 0 = .ok (.aload_n 0, 1) := by decide +kernel
theorem dX4_clash_1 : decode cX4_clash 1 = .ok (.iload_n 1, 1) := by decide +kernel
theorem dX4_clash_2 : decode cX4_clash 2 = .ok (.invokestatic 122, 3) := by decide +kernel
theorem dX4_clash_5 : decode cX4_clash 5 = .ok (.ifCond .eq 14, 3) := by decide +kernel
theorem dX4_clash_8 : decode cX4_clash 8 = .ok (.iload_n 2, 1) := by decide +kernel
theorem dX4_clash_9 : decode cX4_clash 9 = .ok (.invokestatic 122, 3) := by decide +kernel
theorem dX4_clash_12 : decode cX4_clash 12 = .ok (.ifCond .eq 7, 3) := by decide +kernel
theorem dX4_clash_15 : decode cX4_clash 15 = .ok (.iconst 0, 1) := by decide +kernel
theorem dX4_clash_16 : decode cX4_clash 16 = .ok (.goto 4, 3) := by decide +kernel
theorem dX4_clash_19 : decode cX4_clash 19 = .ok (.iconst 1, 1) := by decide +kernel
theorem dX4_clash_20 : decode cX4_clash 20 = .ok (.putfield 50, 3) := by decide +kernel
theorem dX4_clash_23 : decode cX4_clash 23 = .ok (.aload_n 0, 1) := by decide +kernel
theorem dX4_clash_24 : decode cX4_clash 24 = .ok (.getfield 50, 3) := by decide +kernel
theorem dX4_clash_27 : decode cX4_clash 27 = .ok (.ifCond .eq 5, 3) := by decide +kernel
theorem dX4_clash_30 : decode cX4_clash 30 = .ok (.iconst 0, 1) := by decide +kernel
theorem dX4_clash_31 : decode cX4_clash 31 = .ok (.ireturn, 1) := by decide +kernel
theorem dX4_clash_32 : decode cX4_clash 32 = .ok (.aload_n 0, 1) := by decide +kernel
theorem dX4_clash_33 : decode cX4_clash 33 = .ok (.invokevirtual 108, 3) := by decide +kernel
theorem dX4_clash_36 : decode cX4_clash 36 = .ok (.aload_n 0, 1) := by decide +kernel
theorem dX4_clash_37 : decode cX4_clash 37 = .ok (.getfield 35, 3) := by decide +kernel
theorem dX4_clash_40 : decode cX4_clash 40 = .ok (.iload_n 1, 1) := by decide +kernel
theorem dX4_clash_41 : decode cX4_clash 41 = .ok (.iaload, 1) := by decide +kernel
theorem dX4_clash_42 : decode cX4_clash 42 = .ok (.iload_n 2, 1) := by decide +kernel
theorem dX4_clash_43 : decode cX4_clash 43 = .ok (.invokestatic 76, 3) := by decide +kernel
theorem dX4_clash_46 : decode cX4_clash 46 = .ok (.ireturn, 1) := by decide +kernel
theorem dX4_potTold_0 : decode cX4_potTold 0 = .ok (.iload_n 2, 1) := by decide +kernel
theorem dX4_potTold_1 : decode cX4_potTold 1 = .ok (.tableswitch 83 0 4 #[35, 52, 59, 69, 76], 35) := by decide +kernel
theorem dX4_potTold_36 : decode cX4_potTold 36 = .ok (.aload_n 0, 1) := by decide +kernel
theorem dX4_potTold_37 : decode cX4_potTold 37 = .ok (.getfield 67, 3) := by decide +kernel
theorem dX4_potTold_40 : decode cX4_potTold 40 = .ok (.iload_n 1, 1) := by decide +kernel
theorem dX4_potTold_41 : decode cX4_potTold 41 = .ok (.invokestatic 76, 3) := by decide +kernel
theorem dX4_potTold_44 : decode cX4_potTold 44 = .ok (.ifCond .eq 7, 3) := by decide +kernel
theorem dX4_potTold_47 : decode cX4_potTold 47 = .ok (.iconst 1, 1) := by decide +kernel
theorem dX4_potTold_48 : decode cX4_potTold 48 = .ok (.goto 4, 3) := by decide +kernel
theorem dX4_potTold_51 : decode cX4_potTold 51 = .ok (.iconst 0, 1) := by decide +kernel
theorem dX4_potTold_52 : decode cX4_potTold 52 = .ok (.ireturn, 1) := by decide +kernel
theorem dX4_potTold_53 : decode cX4_potTold 53 = .ok (.aload_n 0, 1) := by decide +kernel
theorem dX4_potTold_54 : decode cX4_potTold 54 = .ok (.getfield 38, 3) := by decide +kernel
theorem dX4_potTold_57 : decode cX4_potTold 57 = .ok (.iload_n 1, 1) := by decide +kernel
theorem dX4_potTold_58 : decode cX4_potTold 58 = .ok (.iaload, 1) := by decide +kernel
theorem dX4_potTold_59 : decode cX4_potTold 59 = .ok (.ireturn, 1) := by decide +kernel
theorem dX4_potTold_60 : decode cX4_potTold 60 = .ok (.aload_n 0, 1) := by decide +kernel
theorem dX4_potTold_61 : decode cX4_potTold 61 = .ok (.getfield 35, 3) := by decide +kernel
theorem dX4_potTold_64 : decode cX4_potTold 64 = .ok (.iload_n 1, 1) := by decide +kernel
theorem dX4_potTold_65 : decode cX4_potTold 65 = .ok (.iaload, 1) := by decide +kernel
theorem dX4_potTold_66 : decode cX4_potTold 66 = .ok (.invokestatic 90, 3) := by decide +kernel
theorem dX4_potTold_69 : decode cX4_potTold 69 = .ok (.ireturn, 1) := by decide +kernel
theorem dX4_potTold_70 : decode cX4_potTold 70 = .ok (.aload_n 0, 1) := by decide +kernel
theorem dX4_potTold_71 : decode cX4_potTold 71 = .ok (.getfield 47, 3) := by decide +kernel
theorem dX4_potTold_74 : decode cX4_potTold 74 = .ok (.iload_n 1, 1) := by decide +kernel
theorem dX4_potTold_75 : decode cX4_potTold 75 = .ok (.iaload, 1) := by decide +kernel
theorem dX4_potTold_76 : decode cX4_potTold 76 = .ok (.ireturn, 1) := by decide +kernel
theorem dX4_potTold_77 : decode cX4_potTold 77 = .ok (.aload_n 0, 1) := by decide +kernel
theorem dX4_potTold_78 : decode cX4_potTold 78 = .ok (.getfield 41, 3) := by decide +kernel
theorem dX4_potTold_81 : decode cX4_potTold 81 = .ok (.iload_n 1, 1) := by decide +kernel
theorem dX4_potTold_82 : decode cX4_potTold 82 = .ok (.iaload, 1) := by decide +kernel
theorem dX4_potTold_83 : decode cX4_potTold 83 = .ok (.ireturn, 1) := by decide +kernel
theorem dX4_potTold_84 : decode cX4_potTold 84 = .ok (.aload_n 0, 1) := by decide +kernel
theorem dX4_potTold_85 : decode cX4_potTold 85 = .ok (.iload_n 1, 1) := by decide +kernel
theorem dX4_potTold_86 : decode cX4_potTold 86 = .ok (.invokevirtual 115, 3) := by decide +kernel
theorem dX4_potTold_89 : decode cX4_potTold 89 = .ok (.ifCond .eq 7, 3) := by decide +kernel
theorem dX4_potTold_92 : decode cX4_potTold 92 = .ok (.iconst 1, 1) := by decide +kernel
theorem dX4_potTold_93 : decode cX4_potTold 93 = .ok (.goto 4, 3) := by decide +kernel
theorem dX4_potTold_96 : decode cX4_potTold 96 = .ok (.iconst 0, 1) := by decide +kernel
theorem dX4_potTold_97 : decode cX4_potTold 97 = .ok (.ireturn, 1) := by decide +kernel
theorem dX4_pot_0 : decode cX4_pot 0 = .ok (.aload_n 0, 1) := by decide +kernel
theorem dX4_pot_1 : decode cX4_pot 1 = .ok (.iconst 0, 1) := by decide +kernel
theorem dX4_pot_2 : decode cX4_pot 2 = .ok (.putfield 50, 3) := by decide +kernel
theorem dX4_pot_5 : decode cX4_pot 5 = .ok (.iload_n 1, 1) := by decide +kernel
theorem dX4_pot_6 : decode cX4_pot 6 = .ok (.invokestatic 122, 3) := by decide +kernel
theorem dX4_pot_9 : decode cX4_pot 9 = .ok (.ifCond .eq 12, 3) := by decide +kernel
theorem dX4_pot_12 : decode cX4_pot 12 = .ok (.iload_n 2, 1) := by decide +kernel
theorem dX4_pot_13 : decode cX4_pot 13 = .ok (.iconst 0, 1) := by decide +kernel
theorem dX4_pot_14 : decode cX4_pot 14 = .ok (.iconst 5, 1) := by decide +kernel
theorem dX4_pot_15 : decode cX4_pot 15 = .ok (.invokestatic 53, 3) := by decide +kernel
theorem dX4_pot_18 : decode cX4_pot 18 = .ok (.ifCond .ne 9, 3) := by decide +kernel
theorem dX4_pot_21 : decode cX4_pot 21 = .ok (.aload_n 0, 1) := by decide +kernel
theorem dX4_pot_22 : decode cX4_pot 22 = .ok (.iconst 1, 1) := by decide +kernel
theorem dX4_pot_23 : decode cX4_pot 23 = .ok (.invokevirtual 119, 3) := by decide +kernel
theorem dX4_pot_26 : decode cX4_pot 26 = .ok (.ireturn, 1) := by decide +kernel
theorem dX4_pot_27 : decode cX4_pot 27 = .ok (.aload_n 0, 1) := by decide +kernel
theorem dX4_pot_28 : decode cX4_pot 28 = .ok (.invokevirtual 144, 3) := by decide +kernel
theorem dX4_pot_31 : decode cX4_pot 31 = .ok (.aload_n 0, 1) := by decide +kernel
theorem dX4_pot_32 : decode cX4_pot 32 = .ok (.iload_n 1, 1) := by decide +kernel
theorem dX4_pot_33 : decode cX4_pot 33 = .ok (.iload_n 2, 1) := by decide +kernel
theorem dX4_pot_34 : decode cX4_pot 34 = .ok (.invokevirtual 147, 3) := by decide +kernel
theorem dX4_pot_37 : decode cX4_pot 37 = .ok (.ireturn, 1) := by decide +kernel
theorem dX4_pairs_0 : decode cX4_pairs 0 = .ok (.iconst 0, 1) := by decide +kernel
theorem dX4_pairs_1 : decode cX4_pairs 1 = .ok (.istore_n 1, 1) := by decide +kernel
theorem dX4_pairs_2 : decode cX4_pairs 2 = .ok (.iconst 0, 1) := by decide +kernel
theorem dX4_pairs_3 : decode cX4_pairs 3 = .ok (.istore_n 2, 1) := by decide +kernel
theorem dX4_pairs_4 : decode cX4_pairs 4 = .ok (.iload_n 2, 1) := by decide +kernel
theorem dX4_pairs_5 : decode cX4_pairs 5 = .ok (.bipush 16, 2) := by decide +kernel
theorem dX4_pairs_7 : decode cX4_pairs 7 = .ok (.if_icmp .ge 21, 3) := by decide +kernel
theorem dX4_pairs_10 : decode cX4_pairs 10 = .ok (.iload_n 1, 1) := by decide +kernel
theorem dX4_pairs_11 : decode cX4_pairs 11 = .ok (.aload_n 0, 1) := by decide +kernel
theorem dX4_pairs_12 : decode cX4_pairs 12 = .ok (.getfield 35, 3) := by decide +kernel
theorem dX4_pairs_15 : decode cX4_pairs 15 = .ok (.iload_n 2, 1) := by decide +kernel
theorem dX4_pairs_16 : decode cX4_pairs 16 = .ok (.iaload, 1) := by decide +kernel
theorem dX4_pairs_17 : decode cX4_pairs 17 = .ok (.invokestatic 90, 3) := by decide +kernel
theorem dX4_pairs_20 : decode cX4_pairs 20 = .ok (.iadd, 1) := by decide +kernel
theorem dX4_pairs_21 : decode cX4_pairs 21 = .ok (.istore_n 1, 1) := by decide +kernel
theorem dX4_pairs_22 : decode cX4_pairs 22 = .ok (.iinc 2 1, 3) := by decide +kernel
theorem dX4_pairs_25 : decode cX4_pairs 25 = .ok (.goto (-21), 3) := by decide +kernel
theorem dX4_pairs_28 : decode cX4_pairs 28 = .ok (.iload_n 1, 1) := by decide +kernel
theorem dX4_pairs_29 : decode cX4_pairs 29 = .ok (.iconst 2, 1) := by decide +kernel
theorem dX4_pairs_30 : decode cX4_pairs 30 = .ok (.idiv, 1) := by decide +kernel
theorem dX4_pairs_31 : decode cX4_pairs 31 = .ok (.ireturn, 1) := by decide +kernel
theorem dX4_hangAt_0 : decode cX4_hangAt 0 = .ok (.iconst 0, 1) := by decide +kernel
theorem dX4_hangAt_1 : decode cX4_hangAt 1 = .ok (.istore_n 2, 1) := by decide +kernel
theorem dX4_hangAt_2 : decode cX4_hangAt 2 = .ok (.iconst 0, 1) := by decide +kernel
theorem dX4_hangAt_3 : decode cX4_hangAt 3 = .ok (.istore_n 3, 1) := by decide +kernel
theorem dX4_hangAt_4 : decode cX4_hangAt 4 = .ok (.iload_n 3, 1) := by decide +kernel
theorem dX4_hangAt_5 : decode cX4_hangAt 5 = .ok (.bipush 16, 2) := by decide +kernel
theorem dX4_hangAt_7 : decode cX4_hangAt 7 = .ok (.if_icmp .ge 27, 3) := by decide +kernel
theorem dX4_hangAt_10 : decode cX4_hangAt 10 = .ok (.iload_n 2, 1) := by decide +kernel
theorem dX4_hangAt_11 : decode cX4_hangAt 11 = .ok (.aload_n 0, 1) := by decide +kernel
theorem dX4_hangAt_12 : decode cX4_hangAt 12 = .ok (.getfield 47, 3) := by decide +kernel
theorem dX4_hangAt_15 : decode cX4_hangAt 15 = .ok (.iload_n 3, 1) := by decide +kernel
theorem dX4_hangAt_16 : decode cX4_hangAt 16 = .ok (.iaload, 1) := by decide +kernel
theorem dX4_hangAt_17 : decode cX4_hangAt 17 = .ok (.iload_n 1, 1) := by decide +kernel
theorem dX4_hangAt_18 : decode cX4_hangAt 18 = .ok (.if_icmp .ne 7, 3) := by decide +kernel
theorem dX4_hangAt_21 : decode cX4_hangAt 21 = .ok (.iconst 1, 1) := by decide +kernel
theorem dX4_hangAt_22 : decode cX4_hangAt 22 = .ok (.goto 4, 3) := by decide +kernel
theorem dX4_hangAt_25 : decode cX4_hangAt 25 = .ok (.iconst 0, 1) := by decide +kernel
theorem dX4_hangAt_26 : decode cX4_hangAt 26 = .ok (.iadd, 1) := by decide +kernel
theorem dX4_hangAt_27 : decode cX4_hangAt 27 = .ok (.istore_n 2, 1) := by decide +kernel
theorem dX4_hangAt_28 : decode cX4_hangAt 28 = .ok (.iinc 3 1, 3) := by decide +kernel
theorem dX4_hangAt_31 : decode cX4_hangAt 31 = .ok (.goto (-27), 3) := by decide +kernel
theorem dX4_hangAt_34 : decode cX4_hangAt 34 = .ok (.iload_n 2, 1) := by decide +kernel
theorem dX4_hangAt_35 : decode cX4_hangAt 35 = .ok (.ireturn, 1) := by decide +kernel
theorem dX4_usedHooks_0 : decode cX4_usedHooks 0 = .ok (.iconst 0, 1) := by decide +kernel
theorem dX4_usedHooks_1 : decode cX4_usedHooks 1 = .ok (.istore_n 1, 1) := by decide +kernel
theorem dX4_usedHooks_2 : decode cX4_usedHooks 2 = .ok (.iconst 0, 1) := by decide +kernel
theorem dX4_usedHooks_3 : decode cX4_usedHooks 3 = .ok (.istore_n 2, 1) := by decide +kernel
theorem dX4_usedHooks_4 : decode cX4_usedHooks 4 = .ok (.iload_n 2, 1) := by decide +kernel
theorem dX4_usedHooks_5 : decode cX4_usedHooks 5 = .ok (.aload_n 0, 1) := by decide +kernel
theorem dX4_usedHooks_6 : decode cX4_usedHooks 6 = .ok (.getfield 7, 3) := by decide +kernel
theorem dX4_usedHooks_9 : decode cX4_usedHooks 9 = .ok (.if_icmp .ge 25, 3) := by decide +kernel
theorem dX4_usedHooks_12 : decode cX4_usedHooks 12 = .ok (.iload_n 1, 1) := by decide +kernel
theorem dX4_usedHooks_13 : decode cX4_usedHooks 13 = .ok (.aload_n 0, 1) := by decide +kernel
theorem dX4_usedHooks_14 : decode cX4_usedHooks 14 = .ok (.iload_n 2, 1) := by decide +kernel
theorem dX4_usedHooks_15 : decode cX4_usedHooks 15 = .ok (.invokevirtual 150, 3) := by decide +kernel
theorem dX4_usedHooks_18 : decode cX4_usedHooks 18 = .ok (.ifCond .le 7, 3) := by decide +kernel
theorem dX4_usedHooks_21 : decode cX4_usedHooks 21 = .ok (.iconst 1, 1) := by decide +kernel
theorem dX4_usedHooks_22 : decode cX4_usedHooks 22 = .ok (.goto 4, 3) := by decide +kernel
theorem dX4_usedHooks_25 : decode cX4_usedHooks 25 = .ok (.iconst 0, 1) := by decide +kernel
theorem dX4_usedHooks_26 : decode cX4_usedHooks 26 = .ok (.iadd, 1) := by decide +kernel
theorem dX4_usedHooks_27 : decode cX4_usedHooks 27 = .ok (.istore_n 1, 1) := by decide +kernel
theorem dX4_usedHooks_28 : decode cX4_usedHooks 28 = .ok (.iinc 2 1, 3) := by decide +kernel
theorem dX4_usedHooks_31 : decode cX4_usedHooks 31 = .ok (.goto (-27), 3) := by decide +kernel
theorem dX4_usedHooks_34 : decode cX4_usedHooks 34 = .ok (.iload_n 1, 1) := by decide +kernel
theorem dX4_usedHooks_35 : decode cX4_usedHooks 35 = .ok (.ireturn, 1) := by decide +kernel
theorem dX4_pourings_0 : decode cX4_pourings 0 = .ok (.iconst 0, 1) := by decide +kernel
theorem dX4_pourings_1 : decode cX4_pourings 1 = .ok (.istore_n 2, 1) := by decide +kernel
theorem dX4_pourings_2 : decode cX4_pourings 2 = .ok (.iconst 0, 1) := by decide +kernel
theorem dX4_pourings_3 : decode cX4_pourings 3 = .ok (.istore_n 3, 1) := by decide +kernel
theorem dX4_pourings_4 : decode cX4_pourings 4 = .ok (.iload_n 3, 1) := by decide +kernel
theorem dX4_pourings_5 : decode cX4_pourings 5 = .ok (.aload_n 0, 1) := by decide +kernel
theorem dX4_pourings_6 : decode cX4_pourings 6 = .ok (.getfield 57, 3) := by decide +kernel
theorem dX4_pourings_9 : decode cX4_pourings 9 = .ok (.if_icmp .ge 39, 3) := by decide +kernel
theorem dX4_pourings_12 : decode cX4_pourings 12 = .ok (.iload_n 2, 1) := by decide +kernel
theorem dX4_pourings_13 : decode cX4_pourings 13 = .ok (.aload_n 0, 1) := by decide +kernel
theorem dX4_pourings_14 : decode cX4_pourings 14 = .ok (.getfield 26, 3) := by decide +kernel
theorem dX4_pourings_17 : decode cX4_pourings 17 = .ok (.iload_n 3, 1) := by decide +kernel
theorem dX4_pourings_18 : decode cX4_pourings 18 = .ok (.iaload, 1) := by decide +kernel
theorem dX4_pourings_19 : decode cX4_pourings 19 = .ok (.iconst 1, 1) := by decide +kernel
theorem dX4_pourings_20 : decode cX4_pourings 20 = .ok (.if_icmp .ne 19, 3) := by decide +kernel
theorem dX4_pourings_23 : decode cX4_pourings 23 = .ok (.iload_n 1, 1) := by decide +kernel
theorem dX4_pourings_24 : decode cX4_pourings 24 = .ok (.ifCond .eq 11, 3) := by decide +kernel
theorem dX4_pourings_27 : decode cX4_pourings 27 = .ok (.aload_n 0, 1) := by decide +kernel
theorem dX4_pourings_28 : decode cX4_pourings 28 = .ok (.iload_n 3, 1) := by decide +kernel
theorem dX4_pourings_29 : decode cX4_pourings 29 = .ok (.invokevirtual 153, 3) := by decide +kernel
theorem dX4_pourings_32 : decode cX4_pourings 32 = .ok (.ifCond .eq 7, 3) := by decide +kernel
theorem dX4_pourings_35 : decode cX4_pourings 35 = .ok (.iconst 1, 1) := by decide +kernel
theorem dX4_pourings_36 : decode cX4_pourings 36 = .ok (.goto 4, 3) := by decide +kernel
theorem dX4_pourings_39 : decode cX4_pourings 39 = .ok (.iconst 0, 1) := by decide +kernel
theorem dX4_pourings_40 : decode cX4_pourings 40 = .ok (.iadd, 1) := by decide +kernel
theorem dX4_pourings_41 : decode cX4_pourings 41 = .ok (.istore_n 2, 1) := by decide +kernel
theorem dX4_pourings_42 : decode cX4_pourings 42 = .ok (.iinc 3 1, 3) := by decide +kernel
theorem dX4_pourings_45 : decode cX4_pourings 45 = .ok (.goto (-41), 3) := by decide +kernel
theorem dX4_pourings_48 : decode cX4_pourings 48 = .ok (.iload_n 2, 1) := by decide +kernel
theorem dX4_pourings_49 : decode cX4_pourings 49 = .ok (.ireturn, 1) := by decide +kernel
theorem dX4_weights_0 : decode cX4_weights 0 = .ok (.iconst 0, 1) := by decide +kernel
theorem dX4_weights_1 : decode cX4_weights 1 = .ok (.istore_n 1, 1) := by decide +kernel
theorem dX4_weights_2 : decode cX4_weights 2 = .ok (.iconst 0, 1) := by decide +kernel
theorem dX4_weights_3 : decode cX4_weights 3 = .ok (.istore_n 2, 1) := by decide +kernel
theorem dX4_weights_4 : decode cX4_weights 4 = .ok (.iload_n 2, 1) := by decide +kernel
theorem dX4_weights_5 : decode cX4_weights 5 = .ok (.aload_n 0, 1) := by decide +kernel
theorem dX4_weights_6 : decode cX4_weights 6 = .ok (.getfield 57, 3) := by decide +kernel
theorem dX4_weights_9 : decode cX4_weights 9 = .ok (.if_icmp .ge 30, 3) := by decide +kernel
theorem dX4_weights_12 : decode cX4_weights 12 = .ok (.iload_n 1, 1) := by decide +kernel
theorem dX4_weights_13 : decode cX4_weights 13 = .ok (.aload_n 0, 1) := by decide +kernel
theorem dX4_weights_14 : decode cX4_weights 14 = .ok (.iload_n 2, 1) := by decide +kernel
theorem dX4_weights_15 : decode cX4_weights 15 = .ok (.invokevirtual 153, 3) := by decide +kernel
theorem dX4_weights_18 : decode cX4_weights 18 = .ok (.ifCond .eq 7, 3) := by decide +kernel
theorem dX4_weights_21 : decode cX4_weights 21 = .ok (.iconst 0, 1) := by decide +kernel
theorem dX4_weights_22 : decode cX4_weights 22 = .ok (.goto 9, 3) := by decide +kernel
theorem dX4_weights_25 : decode cX4_weights 25 = .ok (.aload_n 0, 1) := by decide +kernel
theorem dX4_weights_26 : decode cX4_weights 26 = .ok (.getfield 23, 3) := by decide +kernel
theorem dX4_weights_29 : decode cX4_weights 29 = .ok (.iload_n 2, 1) := by decide +kernel
theorem dX4_weights_30 : decode cX4_weights 30 = .ok (.iaload, 1) := by decide +kernel
theorem dX4_weights_31 : decode cX4_weights 31 = .ok (.iadd, 1) := by decide +kernel
theorem dX4_weights_32 : decode cX4_weights 32 = .ok (.istore_n 1, 1) := by decide +kernel
theorem dX4_weights_33 : decode cX4_weights 33 = .ok (.iinc 2 1, 3) := by decide +kernel
theorem dX4_weights_36 : decode cX4_weights 36 = .ok (.goto (-32), 3) := by decide +kernel
theorem dX4_weights_39 : decode cX4_weights 39 = .ok (.iload_n 1, 1) := by decide +kernel
theorem dX4_weights_40 : decode cX4_weights 40 = .ok (.ireturn, 1) := by decide +kernel
theorem dX4_counted_0 : decode cX4_counted 0 = .ok (.iload_n 1, 1) := by decide +kernel
theorem dX4_counted_1 : decode cX4_counted 1 = .ok (.tableswitch 101 0 8 #[51, 56, 61, 69, 74, 79, 84, 90, 96], 51) := by decide +kernel
theorem dX4_counted_52 : decode cX4_counted 52 = .ok (.aload_n 0, 1) := by decide +kernel
theorem dX4_counted_53 : decode cX4_counted 53 = .ok (.getfield 57, 3) := by decide +kernel
theorem dX4_counted_56 : decode cX4_counted 56 = .ok (.ireturn, 1) := by decide +kernel
theorem dX4_counted_57 : decode cX4_counted 57 = .ok (.aload_n 0, 1) := by decide +kernel
theorem dX4_counted_58 : decode cX4_counted 58 = .ok (.getfield 7, 3) := by decide +kernel
theorem dX4_counted_61 : decode cX4_counted 61 = .ok (.ireturn, 1) := by decide +kernel
theorem dX4_counted_62 : decode cX4_counted 62 = .ok (.aload_n 0, 1) := by decide +kernel
theorem dX4_counted_63 : decode cX4_counted 63 = .ok (.getfield 67, 3) := by decide +kernel
theorem dX4_counted_66 : decode cX4_counted 66 = .ok (.invokestatic 90, 3) := by decide +kernel
theorem dX4_counted_69 : decode cX4_counted 69 = .ok (.ireturn, 1) := by decide +kernel
theorem dX4_counted_70 : decode cX4_counted 70 = .ok (.aload_n 0, 1) := by decide +kernel
theorem dX4_counted_71 : decode cX4_counted 71 = .ok (.invokevirtual 156, 3) := by decide +kernel
theorem dX4_counted_74 : decode cX4_counted 74 = .ok (.ireturn, 1) := by decide +kernel
theorem dX4_counted_75 : decode cX4_counted 75 = .ok (.aload_n 0, 1) := by decide +kernel
theorem dX4_counted_76 : decode cX4_counted 76 = .ok (.invokevirtual 160, 3) := by decide +kernel
theorem dX4_counted_79 : decode cX4_counted 79 = .ok (.ireturn, 1) := by decide +kernel
theorem dX4_counted_80 : decode cX4_counted 80 = .ok (.aload_n 0, 1) := by decide +kernel
theorem dX4_counted_81 : decode cX4_counted 81 = .ok (.invokevirtual 163, 3) := by decide +kernel
theorem dX4_counted_84 : decode cX4_counted 84 = .ok (.ireturn, 1) := by decide +kernel
theorem dX4_counted_85 : decode cX4_counted 85 = .ok (.aload_n 0, 1) := by decide +kernel
theorem dX4_counted_86 : decode cX4_counted 86 = .ok (.iconst 0, 1) := by decide +kernel
theorem dX4_counted_87 : decode cX4_counted 87 = .ok (.invokevirtual 166, 3) := by decide +kernel
theorem dX4_counted_90 : decode cX4_counted 90 = .ok (.ireturn, 1) := by decide +kernel
theorem dX4_counted_91 : decode cX4_counted 91 = .ok (.aload_n 0, 1) := by decide +kernel
theorem dX4_counted_92 : decode cX4_counted 92 = .ok (.iconst 1, 1) := by decide +kernel
theorem dX4_counted_93 : decode cX4_counted 93 = .ok (.invokevirtual 166, 3) := by decide +kernel
theorem dX4_counted_96 : decode cX4_counted 96 = .ok (.ireturn, 1) := by decide +kernel
theorem dX4_counted_97 : decode cX4_counted 97 = .ok (.aload_n 0, 1) := by decide +kernel
theorem dX4_counted_98 : decode cX4_counted 98 = .ok (.invokevirtual 170, 3) := by decide +kernel
theorem dX4_counted_101 : decode cX4_counted 101 = .ok (.ireturn, 1) := by decide +kernel
theorem dX4_counted_102 : decode cX4_counted 102 = .ok (.aload_n 0, 1) := by decide +kernel
theorem dX4_counted_103 : decode cX4_counted 103 = .ok (.invokevirtual 173, 3) := by decide +kernel
theorem dX4_counted_106 : decode cX4_counted 106 = .ok (.ireturn, 1) := by decide +kernel
theorem dX4_count_0 : decode cX4_count 0 = .ok (.aload_n 0, 1) := by decide +kernel
theorem dX4_count_1 : decode cX4_count 1 = .ok (.iconst 0, 1) := by decide +kernel
theorem dX4_count_2 : decode cX4_count 2 = .ok (.putfield 50, 3) := by decide +kernel
theorem dX4_count_5 : decode cX4_count 5 = .ok (.iload_n 1, 1) := by decide +kernel
theorem dX4_count_6 : decode cX4_count 6 = .ok (.iconst 0, 1) := by decide +kernel
theorem dX4_count_7 : decode cX4_count 7 = .ok (.bipush 9, 2) := by decide +kernel
theorem dX4_count_9 : decode cX4_count 9 = .ok (.invokestatic 53, 3) := by decide +kernel
theorem dX4_count_12 : decode cX4_count 12 = .ok (.ifCond .ne 9, 3) := by decide +kernel
theorem dX4_count_15 : decode cX4_count 15 = .ok (.aload_n 0, 1) := by decide +kernel
theorem dX4_count_16 : decode cX4_count 16 = .ok (.iconst 1, 1) := by decide +kernel
theorem dX4_count_17 : decode cX4_count 17 = .ok (.invokevirtual 119, 3) := by decide +kernel
theorem dX4_count_20 : decode cX4_count 20 = .ok (.ireturn, 1) := by decide +kernel
theorem dX4_count_21 : decode cX4_count 21 = .ok (.aload_n 0, 1) := by decide +kernel
theorem dX4_count_22 : decode cX4_count 22 = .ok (.invokevirtual 144, 3) := by decide +kernel
theorem dX4_count_25 : decode cX4_count 25 = .ok (.aload_n 0, 1) := by decide +kernel
theorem dX4_count_26 : decode cX4_count 26 = .ok (.iload_n 1, 1) := by decide +kernel
theorem dX4_count_27 : decode cX4_count 27 = .ok (.invokevirtual 176, 3) := by decide +kernel
theorem dX4_count_30 : decode cX4_count 30 = .ok (.ireturn, 1) := by decide +kernel
theorem dX4_hangs_0 : decode cX4_hangs 0 = .ok (.aload_n 0, 1) := by decide +kernel
theorem dX4_hangs_1 : decode cX4_hangs 1 = .ok (.iconst 0, 1) := by decide +kernel
theorem dX4_hangs_2 : decode cX4_hangs 2 = .ok (.putfield 50, 3) := by decide +kernel
theorem dX4_hangs_5 : decode cX4_hangs 5 = .ok (.iload_n 1, 1) := by decide +kernel
theorem dX4_hangs_6 : decode cX4_hangs 6 = .ok (.iconst 0, 1) := by decide +kernel
theorem dX4_hangs_7 : decode cX4_hangs 7 = .ok (.aload_n 0, 1) := by decide +kernel
theorem dX4_hangs_8 : decode cX4_hangs 8 = .ok (.getfield 7, 3) := by decide +kernel
theorem dX4_hangs_11 : decode cX4_hangs 11 = .ok (.iconst 1, 1) := by decide +kernel
theorem dX4_hangs_12 : decode cX4_hangs 12 = .ok (.isub, 1) := by decide +kernel
theorem dX4_hangs_13 : decode cX4_hangs 13 = .ok (.invokestatic 53, 3) := by decide +kernel
theorem dX4_hangs_16 : decode cX4_hangs 16 = .ok (.ifCond .ne 9, 3) := by decide +kernel
theorem dX4_hangs_19 : decode cX4_hangs 19 = .ok (.aload_n 0, 1) := by decide +kernel
theorem dX4_hangs_20 : decode cX4_hangs 20 = .ok (.iconst 1, 1) := by decide +kernel
theorem dX4_hangs_21 : decode cX4_hangs 21 = .ok (.invokevirtual 119, 3) := by decide +kernel
theorem dX4_hangs_24 : decode cX4_hangs 24 = .ok (.ireturn, 1) := by decide +kernel
theorem dX4_hangs_25 : decode cX4_hangs 25 = .ok (.aload_n 0, 1) := by decide +kernel
theorem dX4_hangs_26 : decode cX4_hangs 26 = .ok (.invokevirtual 144, 3) := by decide +kernel
theorem dX4_hangs_29 : decode cX4_hangs 29 = .ok (.aload_n 0, 1) := by decide +kernel
theorem dX4_hangs_30 : decode cX4_hangs 30 = .ok (.iload_n 1, 1) := by decide +kernel
theorem dX4_hangs_31 : decode cX4_hangs 31 = .ok (.invokevirtual 150, 3) := by decide +kernel
theorem dX4_hangs_34 : decode cX4_hangs 34 = .ok (.ireturn, 1) := by decide +kernel
theorem dX4_crowd_0 : decode cX4_crowd 0 = .ok (.aload_n 0, 1) := by decide +kernel
theorem dX4_crowd_1 : decode cX4_crowd 1 = .ok (.iconst 0, 1) := by decide +kernel
theorem dX4_crowd_2 : decode cX4_crowd 2 = .ok (.putfield 50, 3) := by decide +kernel
theorem dX4_crowd_5 : decode cX4_crowd 5 = .ok (.aload_n 0, 1) := by decide +kernel
theorem dX4_crowd_6 : decode cX4_crowd 6 = .ok (.invokevirtual 80, 3) := by decide +kernel
theorem dX4_crowd_9 : decode cX4_crowd 9 = .ok (.aload_n 0, 1) := by decide +kernel
theorem dX4_crowd_10 : decode cX4_crowd 10 = .ok (.getfield 73, 3) := by decide +kernel
theorem dX4_crowd_13 : decode cX4_crowd 13 = .ok (.invokestatic 90, 3) := by decide +kernel
theorem dX4_crowd_16 : decode cX4_crowd 16 = .ok (.istore_n 1, 1) := by decide +kernel
theorem dX4_crowd_17 : decode cX4_crowd 17 = .ok (.iconst 0, 1) := by decide +kernel
theorem dX4_crowd_18 : decode cX4_crowd 18 = .ok (.istore_n 2, 1) := by decide +kernel
theorem dX4_crowd_19 : decode cX4_crowd 19 = .ok (.iload_n 2, 1) := by decide +kernel
theorem dX4_crowd_20 : decode cX4_crowd 20 = .ok (.aload_n 0, 1) := by decide +kernel
theorem dX4_crowd_21 : decode cX4_crowd 21 = .ok (.getfield 57, 3) := by decide +kernel
theorem dX4_crowd_24 : decode cX4_crowd 24 = .ok (.if_icmp .ge 23, 3) := by decide +kernel
theorem dX4_crowd_27 : decode cX4_crowd 27 = .ok (.iload_n 1, 1) := by decide +kernel
theorem dX4_crowd_28 : decode cX4_crowd 28 = .ok (.aload_n 0, 1) := by decide +kernel
theorem dX4_crowd_29 : decode cX4_crowd 29 = .ok (.getfield 32, 3) := by decide +kernel
theorem dX4_crowd_32 : decode cX4_crowd 32 = .ok (.iload_n 2, 1) := by decide +kernel
theorem dX4_crowd_33 : decode cX4_crowd 33 = .ok (.iaload, 1) := by decide +kernel
theorem dX4_crowd_34 : decode cX4_crowd 34 = .ok (.invokestatic 90, 3) := by decide +kernel
theorem dX4_crowd_37 : decode cX4_crowd 37 = .ok (.invokestatic 179, 3) := by decide +kernel
theorem dX4_crowd_40 : decode cX4_crowd 40 = .ok (.istore_n 1, 1) := by decide +kernel
theorem dX4_crowd_41 : decode cX4_crowd 41 = .ok (.iinc 2 1, 3) := by decide +kernel
theorem dX4_crowd_44 : decode cX4_crowd 44 = .ok (.goto (-25), 3) := by decide +kernel
theorem dX4_crowd_47 : decode cX4_crowd 47 = .ok (.iload_n 1, 1) := by decide +kernel
theorem dX4_crowd_48 : decode cX4_crowd 48 = .ok (.ireturn, 1) := by decide +kernel
theorem dX4_would_0 : decode cX4_would 0 = .ok (.aload_n 0, 1) := by decide +kernel
theorem dX4_would_1 : decode cX4_would 1 = .ok (.iconst 0, 1) := by decide +kernel
theorem dX4_would_2 : decode cX4_would 2 = .ok (.putfield 50, 3) := by decide +kernel
theorem dX4_would_5 : decode cX4_would 5 = .ok (.iload_n 1, 1) := by decide +kernel
theorem dX4_would_6 : decode cX4_would 6 = .ok (.iconst 1, 1) := by decide +kernel
theorem dX4_would_7 : decode cX4_would 7 = .ok (.bipush 16, 2) := by decide +kernel
theorem dX4_would_9 : decode cX4_would 9 = .ok (.invokestatic 53, 3) := by decide +kernel
theorem dX4_would_12 : decode cX4_would 12 = .ok (.ifCond .ne 9, 3) := by decide +kernel
theorem dX4_would_15 : decode cX4_would 15 = .ok (.aload_n 0, 1) := by decide +kernel
theorem dX4_would_16 : decode cX4_would 16 = .ok (.iconst 1, 1) := by decide +kernel
theorem dX4_would_17 : decode cX4_would 17 = .ok (.invokevirtual 119, 3) := by decide +kernel
theorem dX4_would_20 : decode cX4_would 20 = .ok (.ireturn, 1) := by decide +kernel
theorem dX4_would_21 : decode cX4_would 21 = .ok (.aload_n 0, 1) := by decide +kernel
theorem dX4_would_22 : decode cX4_would 22 = .ok (.invokevirtual 108, 3) := by decide +kernel
theorem dX4_would_25 : decode cX4_would 25 = .ok (.aload_n 0, 1) := by decide +kernel
theorem dX4_would_26 : decode cX4_would 26 = .ok (.iload_n 1, 1) := by decide +kernel
theorem dX4_would_27 : decode cX4_would 27 = .ok (.invokevirtual 111, 3) := by decide +kernel
theorem dX4_would_30 : decode cX4_would 30 = .ok (.aload_n 0, 1) := by decide +kernel
theorem dX4_would_31 : decode cX4_would 31 = .ok (.invokevirtual 160, 3) := by decide +kernel
theorem dX4_would_34 : decode cX4_would 34 = .ok (.ireturn, 1) := by decide +kernel
theorem dX4_fewest_0 : decode cX4_fewest 0 = .ok (.aload_n 0, 1) := by decide +kernel
theorem dX4_fewest_1 : decode cX4_fewest 1 = .ok (.iconst 0, 1) := by decide +kernel
theorem dX4_fewest_2 : decode cX4_fewest 2 = .ok (.putfield 50, 3) := by decide +kernel
theorem dX4_fewest_5 : decode cX4_fewest 5 = .ok (.aload_n 0, 1) := by decide +kernel
theorem dX4_fewest_6 : decode cX4_fewest 6 = .ok (.invokevirtual 108, 3) := by decide +kernel
theorem dX4_fewest_9 : decode cX4_fewest 9 = .ok (.aload_n 0, 1) := by decide +kernel
theorem dX4_fewest_10 : decode cX4_fewest 10 = .ok (.getfield 67, 3) := by decide +kernel
theorem dX4_fewest_13 : decode cX4_fewest 13 = .ok (.ifCond .ne 5, 3) := by decide +kernel
theorem dX4_fewest_16 : decode cX4_fewest 16 = .ok (.iconst 0, 1) := by decide +kernel
theorem dX4_fewest_17 : decode cX4_fewest 17 = .ok (.ireturn, 1) := by decide +kernel
theorem dX4_fewest_18 : decode cX4_fewest 18 = .ok (.iconst 0, 1) := by decide +kernel
theorem dX4_fewest_19 : decode cX4_fewest 19 = .ok (.istore_n 1, 1) := by decide +kernel
theorem dX4_fewest_20 : decode cX4_fewest 20 = .ok (.iinc 1 1, 3) := by decide +kernel
theorem dX4_fewest_23 : decode cX4_fewest 23 = .ok (.aload_n 0, 1) := by decide +kernel
theorem dX4_fewest_24 : decode cX4_fewest 24 = .ok (.iload_n 1, 1) := by decide +kernel
theorem dX4_fewest_25 : decode cX4_fewest 25 = .ok (.invokevirtual 111, 3) := by decide +kernel
theorem dX4_fewest_28 : decode cX4_fewest 28 = .ok (.aload_n 0, 1) := by decide +kernel
theorem dX4_fewest_29 : decode cX4_fewest 29 = .ok (.invokevirtual 160, 3) := by decide +kernel
theorem dX4_fewest_32 : decode cX4_fewest 32 = .ok (.ifCond .gt (-12), 3) := by decide +kernel
theorem dX4_fewest_35 : decode cX4_fewest 35 = .ok (.iload_n 1, 1) := by decide +kernel
theorem dX4_fewest_36 : decode cX4_fewest 36 = .ok (.ireturn, 1) := by decide +kernel
theorem dX4_advise_0 : decode cX4_advise 0 = .ok (.aload_n 0, 1) := by decide +kernel
theorem dX4_advise_1 : decode cX4_advise 1 = .ok (.iconst 0, 1) := by decide +kernel
theorem dX4_advise_2 : decode cX4_advise 2 = .ok (.putfield 50, 3) := by decide +kernel
theorem dX4_advise_5 : decode cX4_advise 5 = .ok (.iconst (-1), 1) := by decide +kernel
theorem dX4_advise_6 : decode cX4_advise 6 = .ok (.istore_n 1, 1) := by decide +kernel
theorem dX4_advise_7 : decode cX4_advise 7 = .ok (.iconst 0, 1) := by decide +kernel
theorem dX4_advise_8 : decode cX4_advise 8 = .ok (.istore_n 2, 1) := by decide +kernel
theorem dX4_advise_9 : decode cX4_advise 9 = .ok (.iconst 0, 1) := by decide +kernel
theorem dX4_advise_10 : decode cX4_advise 10 = .ok (.istore_n 3, 1) := by decide +kernel
theorem dX4_advise_11 : decode cX4_advise 11 = .ok (.iload_n 3, 1) := by decide +kernel
theorem dX4_advise_12 : decode cX4_advise 12 = .ok (.aload_n 0, 1) := by decide +kernel
theorem dX4_advise_13 : decode cX4_advise 13 = .ok (.getfield 57, 3) := by decide +kernel
theorem dX4_advise_16 : decode cX4_advise 16 = .ok (.if_icmp .ge 43, 3) := by decide +kernel
theorem dX4_advise_19 : decode cX4_advise 19 = .ok (.aload_n 0, 1) := by decide +kernel
theorem dX4_advise_20 : decode cX4_advise 20 = .ok (.iload_n 3, 1) := by decide +kernel
theorem dX4_advise_21 : decode cX4_advise 21 = .ok (.putfield 29, 3) := by decide +kernel
theorem dX4_advise_24 : decode cX4_advise 24 = .ok (.aload_n 0, 1) := by decide +kernel
theorem dX4_advise_25 : decode cX4_advise 25 = .ok (.invokevirtual 144, 3) := by decide +kernel
theorem dX4_advise_28 : decode cX4_advise 28 = .ok (.aload_n 0, 1) := by decide +kernel
theorem dX4_advise_29 : decode cX4_advise 29 = .ok (.invokevirtual 170, 3) := by decide +kernel
theorem dX4_advise_32 : decode cX4_advise 32 = .ok (.istore 4, 2) := by decide +kernel
theorem dX4_advise_34 : decode cX4_advise 34 = .ok (.iload_n 1, 1) := by decide +kernel
theorem dX4_advise_35 : decode cX4_advise 35 = .ok (.iconst (-1), 1) := by decide +kernel
theorem dX4_advise_36 : decode cX4_advise 36 = .ok (.if_icmp .eq 12, 3) := by decide +kernel
theorem dX4_advise_39 : decode cX4_advise 39 = .ok (.iload 4, 2) := by decide +kernel
theorem dX4_advise_41 : decode cX4_advise 41 = .ok (.iload_n 2, 1) := by decide +kernel
theorem dX4_advise_42 : decode cX4_advise 42 = .ok (.if_icmp .lt 6, 3) := by decide +kernel
theorem dX4_advise_45 : decode cX4_advise 45 = .ok (.goto 8, 3) := by decide +kernel
theorem dX4_advise_48 : decode cX4_advise 48 = .ok (.iload_n 3, 1) := by decide +kernel
theorem dX4_advise_49 : decode cX4_advise 49 = .ok (.istore_n 1, 1) := by decide +kernel
theorem dX4_advise_50 : decode cX4_advise 50 = .ok (.iload 4, 2) := by decide +kernel
theorem dX4_advise_52 : decode cX4_advise 52 = .ok (.istore_n 2, 1) := by decide +kernel
theorem dX4_advise_53 : decode cX4_advise 53 = .ok (.iinc 3 1, 3) := by decide +kernel
theorem dX4_advise_56 : decode cX4_advise 56 = .ok (.goto (-45), 3) := by decide +kernel
theorem dX4_advise_59 : decode cX4_advise 59 = .ok (.aload_n 0, 1) := by decide +kernel
theorem dX4_advise_60 : decode cX4_advise 60 = .ok (.iconst (-1), 1) := by decide +kernel
theorem dX4_advise_61 : decode cX4_advise 61 = .ok (.putfield 29, 3) := by decide +kernel
theorem dX4_advise_64 : decode cX4_advise 64 = .ok (.iload_n 1, 1) := by decide +kernel
theorem dX4_advise_65 : decode cX4_advise 65 = .ok (.ireturn, 1) := by decide +kernel
theorem dX4_mean_0 : decode cX4_mean 0 = .ok (.aload_n 0, 1) := by decide +kernel
theorem dX4_mean_1 : decode cX4_mean 1 = .ok (.iconst 0, 1) := by decide +kernel
theorem dX4_mean_2 : decode cX4_mean 2 = .ok (.putfield 50, 3) := by decide +kernel
theorem dX4_mean_5 : decode cX4_mean 5 = .ok (.aload_n 0, 1) := by decide +kernel
theorem dX4_mean_6 : decode cX4_mean 6 = .ok (.invokevirtual 80, 3) := by decide +kernel
theorem dX4_mean_9 : decode cX4_mean 9 = .ok (.iconst 0, 1) := by decide +kernel
theorem dX4_mean_10 : decode cX4_mean 10 = .ok (.istore_n 1, 1) := by decide +kernel
theorem dX4_mean_11 : decode cX4_mean 11 = .ok (.iconst 0, 1) := by decide +kernel
theorem dX4_mean_12 : decode cX4_mean 12 = .ok (.istore_n 2, 1) := by decide +kernel
theorem dX4_mean_13 : decode cX4_mean 13 = .ok (.iload_n 2, 1) := by decide +kernel
theorem dX4_mean_14 : decode cX4_mean 14 = .ok (.aload_n 0, 1) := by decide +kernel
theorem dX4_mean_15 : decode cX4_mean 15 = .ok (.getfield 57, 3) := by decide +kernel
theorem dX4_mean_18 : decode cX4_mean 18 = .ok (.if_icmp .ge 21, 3) := by decide +kernel
theorem dX4_mean_21 : decode cX4_mean 21 = .ok (.iload_n 1, 1) := by decide +kernel
theorem dX4_mean_22 : decode cX4_mean 22 = .ok (.aload_n 0, 1) := by decide +kernel
theorem dX4_mean_23 : decode cX4_mean 23 = .ok (.getfield 32, 3) := by decide +kernel
theorem dX4_mean_26 : decode cX4_mean 26 = .ok (.iload_n 2, 1) := by decide +kernel
theorem dX4_mean_27 : decode cX4_mean 27 = .ok (.iaload, 1) := by decide +kernel
theorem dX4_mean_28 : decode cX4_mean 28 = .ok (.invokestatic 90, 3) := by decide +kernel
theorem dX4_mean_31 : decode cX4_mean 31 = .ok (.iadd, 1) := by decide +kernel
theorem dX4_mean_32 : decode cX4_mean 32 = .ok (.istore_n 1, 1) := by decide +kernel
theorem dX4_mean_33 : decode cX4_mean 33 = .ok (.iinc 2 1, 3) := by decide +kernel
theorem dX4_mean_36 : decode cX4_mean 36 = .ok (.goto (-23), 3) := by decide +kernel
theorem dX4_mean_39 : decode cX4_mean 39 = .ok (.aload_n 0, 1) := by decide +kernel
theorem dX4_mean_40 : decode cX4_mean 40 = .ok (.getfield 57, 3) := by decide +kernel
theorem dX4_mean_43 : decode cX4_mean 43 = .ok (.ifCond .ne 7, 3) := by decide +kernel
theorem dX4_mean_46 : decode cX4_mean 46 = .ok (.dconst 0, 1) := by decide +kernel
theorem dX4_mean_47 : decode cX4_mean 47 = .ok (.goto 11, 3) := by decide +kernel
theorem dX4_mean_50 : decode cX4_mean 50 = .ok (.iload_n 1, 1) := by decide +kernel
theorem dX4_mean_51 : decode cX4_mean 51 = .ok (.i2d, 1) := by decide +kernel
theorem dX4_mean_52 : decode cX4_mean 52 = .ok (.aload_n 0, 1) := by decide +kernel
theorem dX4_mean_53 : decode cX4_mean 53 = .ok (.getfield 57, 3) := by decide +kernel
theorem dX4_mean_56 : decode cX4_mean 56 = .ok (.i2d, 1) := by decide +kernel
theorem dX4_mean_57 : decode cX4_mean 57 = .ok (.ddiv, 1) := by decide +kernel
theorem dX4_mean_58 : decode cX4_mean 58 = .ok (.dreturn, 1) := by decide +kernel
theorem dX4_digest_0 : decode cX4_digest 0 = .ok (.aload_n 0, 1) := by decide +kernel
theorem dX4_digest_1 : decode cX4_digest 1 = .ok (.iconst 0, 1) := by decide +kernel
theorem dX4_digest_2 : decode cX4_digest 2 = .ok (.putfield 50, 3) := by decide +kernel
theorem dX4_digest_5 : decode cX4_digest 5 = .ok (.aload_n 0, 1) := by decide +kernel
theorem dX4_digest_6 : decode cX4_digest 6 = .ok (.invokevirtual 144, 3) := by decide +kernel
theorem dX4_digest_9 : decode cX4_digest 9 = .ok (.ldc2_w 184, 3) := by decide +kernel
theorem dX4_digest_12 : decode cX4_digest 12 = .ok (.lstore_n 1, 1) := by decide +kernel
theorem dX4_digest_13 : decode cX4_digest 13 = .ok (.iconst 0, 1) := by decide +kernel
theorem dX4_digest_14 : decode cX4_digest 14 = .ok (.istore_n 3, 1) := by decide +kernel
theorem dX4_digest_15 : decode cX4_digest 15 = .ok (.iload_n 3, 1) := by decide +kernel
theorem dX4_digest_16 : decode cX4_digest 16 = .ok (.bipush 10, 2) := by decide +kernel
theorem dX4_digest_18 : decode cX4_digest 18 = .ok (.if_icmp .ge 22, 3) := by decide +kernel
theorem dX4_digest_21 : decode cX4_digest 21 = .ok (.lload_n 1, 1) := by decide +kernel
theorem dX4_digest_22 : decode cX4_digest 22 = .ok (.ldc2_w 186, 3) := by decide +kernel
theorem dX4_digest_25 : decode cX4_digest 25 = .ok (.lmul, 1) := by decide +kernel
theorem dX4_digest_26 : decode cX4_digest 26 = .ok (.aload_n 0, 1) := by decide +kernel
theorem dX4_digest_27 : decode cX4_digest 27 = .ok (.iload_n 3, 1) := by decide +kernel
theorem dX4_digest_28 : decode cX4_digest 28 = .ok (.invokevirtual 176, 3) := by decide +kernel
theorem dX4_digest_31 : decode cX4_digest 31 = .ok (.i2l, 1) := by decide +kernel
theorem dX4_digest_32 : decode cX4_digest 32 = .ok (.ladd, 1) := by decide +kernel
theorem dX4_digest_33 : decode cX4_digest 33 = .ok (.lstore_n 1, 1) := by decide +kernel
theorem dX4_digest_34 : decode cX4_digest 34 = .ok (.iinc 3 1, 3) := by decide +kernel
theorem dX4_digest_37 : decode cX4_digest 37 = .ok (.goto (-22), 3) := by decide +kernel
theorem dX4_digest_40 : decode cX4_digest 40 = .ok (.iconst 0, 1) := by decide +kernel
theorem dX4_digest_41 : decode cX4_digest 41 = .ok (.istore_n 3, 1) := by decide +kernel
theorem dX4_digest_42 : decode cX4_digest 42 = .ok (.iload_n 3, 1) := by decide +kernel
theorem dX4_digest_43 : decode cX4_digest 43 = .ok (.aload_n 0, 1) := by decide +kernel
theorem dX4_digest_44 : decode cX4_digest 44 = .ok (.getfield 57, 3) := by decide +kernel
theorem dX4_digest_47 : decode cX4_digest 47 = .ok (.if_icmp .ge 40, 3) := by decide +kernel
theorem dX4_digest_50 : decode cX4_digest 50 = .ok (.iconst 0, 1) := by decide +kernel
theorem dX4_digest_51 : decode cX4_digest 51 = .ok (.istore 4, 2) := by decide +kernel
theorem dX4_digest_53 : decode cX4_digest 53 = .ok (.iload 4, 2) := by decide +kernel
theorem dX4_digest_55 : decode cX4_digest 55 = .ok (.bipush 7, 2) := by decide +kernel
theorem dX4_digest_57 : decode cX4_digest 57 = .ok (.if_icmp .ge 24, 3) := by decide +kernel
theorem dX4_digest_60 : decode cX4_digest 60 = .ok (.lload_n 1, 1) := by decide +kernel
theorem dX4_digest_61 : decode cX4_digest 61 = .ok (.ldc2_w 186, 3) := by decide +kernel
theorem dX4_digest_64 : decode cX4_digest 64 = .ok (.lmul, 1) := by decide +kernel
theorem dX4_digest_65 : decode cX4_digest 65 = .ok (.aload_n 0, 1) := by decide +kernel
theorem dX4_digest_66 : decode cX4_digest 66 = .ok (.iload_n 3, 1) := by decide +kernel
theorem dX4_digest_67 : decode cX4_digest 67 = .ok (.iload 4, 2) := by decide +kernel
theorem dX4_digest_69 : decode cX4_digest 69 = .ok (.invokevirtual 141, 3) := by decide +kernel
theorem dX4_digest_72 : decode cX4_digest 72 = .ok (.i2l, 1) := by decide +kernel
theorem dX4_digest_73 : decode cX4_digest 73 = .ok (.ladd, 1) := by decide +kernel
theorem dX4_digest_74 : decode cX4_digest 74 = .ok (.lstore_n 1, 1) := by decide +kernel
theorem dX4_digest_75 : decode cX4_digest 75 = .ok (.iinc 4 1, 3) := by decide +kernel
theorem dX4_digest_78 : decode cX4_digest 78 = .ok (.goto (-25), 3) := by decide +kernel
theorem dX4_digest_81 : decode cX4_digest 81 = .ok (.iinc 3 1, 3) := by decide +kernel
theorem dX4_digest_84 : decode cX4_digest 84 = .ok (.goto (-42), 3) := by decide +kernel
theorem dX4_digest_87 : decode cX4_digest 87 = .ok (.iconst 0, 1) := by decide +kernel
theorem dX4_digest_88 : decode cX4_digest 88 = .ok (.istore_n 3, 1) := by decide +kernel
theorem dX4_digest_89 : decode cX4_digest 89 = .ok (.iload_n 3, 1) := by decide +kernel
theorem dX4_digest_90 : decode cX4_digest 90 = .ok (.bipush 16, 2) := by decide +kernel
theorem dX4_digest_92 : decode cX4_digest 92 = .ok (.if_icmp .ge 76, 3) := by decide +kernel
theorem dX4_digest_95 : decode cX4_digest 95 = .ok (.iconst 0, 1) := by decide +kernel
theorem dX4_digest_96 : decode cX4_digest 96 = .ok (.istore 4, 2) := by decide +kernel
theorem dX4_digest_98 : decode cX4_digest 98 = .ok (.iload 4, 2) := by decide +kernel
theorem dX4_digest_100 : decode cX4_digest 100 = .ok (.bipush 6, 2) := by decide +kernel
theorem dX4_digest_102 : decode cX4_digest 102 = .ok (.if_icmp .ge 24, 3) := by decide +kernel
theorem dX4_digest_105 : decode cX4_digest 105 = .ok (.lload_n 1, 1) := by decide +kernel
theorem dX4_digest_106 : decode cX4_digest 106 = .ok (.ldc2_w 186, 3) := by decide +kernel
theorem dX4_digest_109 : decode cX4_digest 109 = .ok (.lmul, 1) := by decide +kernel
theorem dX4_digest_110 : decode cX4_digest 110 = .ok (.aload_n 0, 1) := by decide +kernel
theorem dX4_digest_111 : decode cX4_digest 111 = .ok (.iload_n 3, 1) := by decide +kernel
theorem dX4_digest_112 : decode cX4_digest 112 = .ok (.iload 4, 2) := by decide +kernel
theorem dX4_digest_114 : decode cX4_digest 114 = .ok (.invokevirtual 147, 3) := by decide +kernel
theorem dX4_digest_117 : decode cX4_digest 117 = .ok (.i2l, 1) := by decide +kernel
theorem dX4_digest_118 : decode cX4_digest 118 = .ok (.ladd, 1) := by decide +kernel
theorem dX4_digest_119 : decode cX4_digest 119 = .ok (.lstore_n 1, 1) := by decide +kernel
theorem dX4_digest_120 : decode cX4_digest 120 = .ok (.iinc 4 1, 3) := by decide +kernel
theorem dX4_digest_123 : decode cX4_digest 123 = .ok (.goto (-25), 3) := by decide +kernel
theorem dX4_digest_126 : decode cX4_digest 126 = .ok (.lload_n 1, 1) := by decide +kernel
theorem dX4_digest_127 : decode cX4_digest 127 = .ok (.ldc2_w 186, 3) := by decide +kernel
theorem dX4_digest_130 : decode cX4_digest 130 = .ok (.lmul, 1) := by decide +kernel
theorem dX4_digest_131 : decode cX4_digest 131 = .ok (.aload_n 0, 1) := by decide +kernel
theorem dX4_digest_132 : decode cX4_digest 132 = .ok (.getfield 64, 3) := by decide +kernel
theorem dX4_digest_135 : decode cX4_digest 135 = .ok (.iload_n 3, 1) := by decide +kernel
theorem dX4_digest_136 : decode cX4_digest 136 = .ok (.invokestatic 76, 3) := by decide +kernel
theorem dX4_digest_139 : decode cX4_digest 139 = .ok (.ifCond .eq 7, 3) := by decide +kernel
theorem dX4_digest_142 : decode cX4_digest 142 = .ok (.iconst 1, 1) := by decide +kernel
theorem dX4_digest_143 : decode cX4_digest 143 = .ok (.goto 4, 3) := by decide +kernel
theorem dX4_digest_146 : decode cX4_digest 146 = .ok (.iconst 0, 1) := by decide +kernel
theorem dX4_digest_147 : decode cX4_digest 147 = .ok (.i2l, 1) := by decide +kernel
theorem dX4_digest_148 : decode cX4_digest 148 = .ok (.ladd, 1) := by decide +kernel
theorem dX4_digest_149 : decode cX4_digest 149 = .ok (.ldc2_w 186, 3) := by decide +kernel
theorem dX4_digest_152 : decode cX4_digest 152 = .ok (.lmul, 1) := by decide +kernel
theorem dX4_digest_153 : decode cX4_digest 153 = .ok (.aload_n 0, 1) := by decide +kernel
theorem dX4_digest_154 : decode cX4_digest 154 = .ok (.getfield 35, 3) := by decide +kernel
theorem dX4_digest_157 : decode cX4_digest 157 = .ok (.iload_n 3, 1) := by decide +kernel
theorem dX4_digest_158 : decode cX4_digest 158 = .ok (.iaload, 1) := by decide +kernel
theorem dX4_digest_159 : decode cX4_digest 159 = .ok (.i2l, 1) := by decide +kernel
theorem dX4_digest_160 : decode cX4_digest 160 = .ok (.ladd, 1) := by decide +kernel
theorem dX4_digest_161 : decode cX4_digest 161 = .ok (.lstore_n 1, 1) := by decide +kernel
theorem dX4_digest_162 : decode cX4_digest 162 = .ok (.iinc 3 1, 3) := by decide +kernel
theorem dX4_digest_165 : decode cX4_digest 165 = .ok (.goto (-76), 3) := by decide +kernel
theorem dX4_digest_168 : decode cX4_digest 168 = .ok (.lload_n 1, 1) := by decide +kernel
theorem dX4_digest_169 : decode cX4_digest 169 = .ok (.lreturn, 1) := by decide +kernel
