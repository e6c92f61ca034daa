theorem dX0_init_0 : decode cX0_init 0 = .ok (.aload_n 0, 1) := by decide +kernel
theorem dX0_init_1 : decode cX0_init 1 = .ok (.invokespecial 3, 3) := by decide +kernel
theorem dX0_init_4 : decode cX0_init 4 = .ok (.aload_n 0, 1) := by decide +kernel
theorem dX0_init_5 : decode cX0_init 5 = .ok (.bipush 16, 2) := by decide +kernel
theorem dX0_init_7 : decode cX0_init 7 = .ok (.newarray .int, 2) := by decide +kernel
theorem dX0_init_9 : decode cX0_init 9 = .ok (.putfield 9, 3) := by decide +kernel
theorem dX0_init_12 : decode cX0_init 12 = .ok (.aload_n 0, 1) := by decide +kernel
theorem dX0_init_13 : decode cX0_init 13 = .ok (.bipush 16, 2) := by decide +kernel
theorem dX0_init_15 : decode cX0_init 15 = .ok (.newarray .int, 2) := by decide +kernel
theorem dX0_init_17 : decode cX0_init 17 = .ok (.putfield 15, 3) := by decide +kernel
theorem dX0_init_20 : decode cX0_init 20 = .ok (.aload_n 0, 1) := by decide +kernel
theorem dX0_init_21 : decode cX0_init 21 = .ok (.bipush 16, 2) := by decide +kernel
theorem dX0_init_23 : decode cX0_init 23 = .ok (.newarray .int, 2) := by decide +kernel
theorem dX0_init_25 : decode cX0_init 25 = .ok (.putfield 18, 3) := by decide +kernel
theorem dX0_init_28 : decode cX0_init 28 = .ok (.aload_n 0, 1) := by decide +kernel
theorem dX0_init_29 : decode cX0_init 29 = .ok (.bipush 16, 2) := by decide +kernel
theorem dX0_init_31 : decode cX0_init 31 = .ok (.newarray .int, 2) := by decide +kernel
theorem dX0_init_33 : decode cX0_init 33 = .ok (.putfield 21, 3) := by decide +kernel
theorem dX0_init_36 : decode cX0_init 36 = .ok (.aload_n 0, 1) := by decide +kernel
theorem dX0_init_37 : decode cX0_init 37 = .ok (.iconst 0, 1) := by decide +kernel
theorem dX0_init_38 : decode cX0_init 38 = .ok (.putfield 24, 3) := by decide +kernel
theorem dX0_init_41 : decode cX0_init 41 = .ok (.return_, 1) := by decide +kernel
theorem dX0_make_0 : decode cX0_make 0 = .ok (.aload_n 0, 1) := by decide +kernel
theorem dX0_make_1 : decode cX0_make 1 = .ok (.aload_n 1, 1) := by decide +kernel
theorem dX0_make_2 : decode cX0_make 2 = .ok (.iload_n 2, 1) := by decide +kernel
theorem dX0_make_3 : decode cX0_make 3 = .ok (.invokevirtual 28, 3) := by decide +kernel
theorem dX0_make_6 : decode cX0_make 6 = .ok (.istore_n 3, 1) := by decide +kernel
theorem dX0_make_7 : decode cX0_make 7 = .ok (.aload_n 0, 1) := by decide +kernel
theorem dX0_make_8 : decode cX0_make 8 = .ok (.getfield 15, 3) := by decide +kernel
theorem dX0_make_11 : decode cX0_make 11 = .ok (.iconst (-1), 1) := by decide +kernel
theorem dX0_make_12 : decode cX0_make 12 = .ok (.invokestatic 32, 3) := by decide +kernel
theorem dX0_make_15 : decode cX0_make 15 = .ok (.aload_n 0, 1) := by decide +kernel
theorem dX0_make_16 : decode cX0_make 16 = .ok (.getfield 18, 3) := by decide +kernel
theorem dX0_make_19 : decode cX0_make 19 = .ok (.iconst 0, 1) := by decide +kernel
theorem dX0_make_20 : decode cX0_make 20 = .ok (.invokestatic 32, 3) := by decide +kernel
theorem dX0_make_23 : decode cX0_make 23 = .ok (.aload_n 0, 1) := by decide +kernel
theorem dX0_make_24 : decode cX0_make 24 = .ok (.iconst 0, 1) := by decide +kernel
theorem dX0_make_25 : decode cX0_make 25 = .ok (.putfield 24, 3) := by decide +kernel
theorem dX0_make_28 : decode cX0_make 28 = .ok (.iload_n 3, 1) := by decide +kernel
theorem dX0_make_29 : decode cX0_make 29 = .ok (.iconst 1, 1) := by decide +kernel
theorem dX0_make_30 : decode cX0_make 30 = .ok (.isub, 1) := by decide +kernel
theorem dX0_make_31 : decode cX0_make 31 = .ok (.istore 4, 2) := by decide +kernel
theorem dX0_make_33 : decode cX0_make 33 = .ok (.iload 4, 2) := by decide +kernel
theorem dX0_make_35 : decode cX0_make 35 = .ok (.ifCond .lt 22, 3) := by decide +kernel
theorem dX0_make_38 : decode cX0_make 38 = .ok (.aload_n 0, 1) := by decide +kernel
theorem dX0_make_39 : decode cX0_make 39 = .ok (.aload_n 1, 1) := by decide +kernel
theorem dX0_make_40 : decode cX0_make 40 = .ok (.aload_n 0, 1) := by decide +kernel
theorem dX0_make_41 : decode cX0_make 41 = .ok (.getfield 21, 3) := by decide +kernel
theorem dX0_make_44 : decode cX0_make 44 = .ok (.iload 4, 2) := by decide +kernel
theorem dX0_make_46 : decode cX0_make 46 = .ok (.iaload, 1) := by decide +kernel
theorem dX0_make_47 : decode cX0_make 47 = .ok (.iload_n 2, 1) := by decide +kernel
theorem dX0_make_48 : decode cX0_make 48 = .ok (.invokevirtual 38, 3) := by decide +kernel
theorem dX0_make_51 : decode cX0_make 51 = .ok (.iinc 4 (-1), 3) := by decide +kernel
theorem dX0_make_54 : decode cX0_make 54 = .ok (.goto (-21), 3) := by decide +kernel
theorem dX0_make_57 : decode cX0_make 57 = .ok (.return_, 1) := by decide +kernel
theorem dX0_hooksInUse_0 : decode cX0_hooksInUse 0 = .ok (.iconst 0, 1) := by decide +kernel
theorem dX0_hooksInUse_1 : decode cX0_hooksInUse 1 = .ok (.istore_n 1, 1) := by decide +kernel
theorem dX0_hooksInUse_2 : decode cX0_hooksInUse 2 = .ok (.iconst 0, 1) := by decide +kernel
theorem dX0_hooksInUse_3 : decode cX0_hooksInUse 3 = .ok (.istore_n 2, 1) := by decide +kernel
theorem dX0_hooksInUse_4 : decode cX0_hooksInUse 4 = .ok (.iload_n 2, 1) := by decide +kernel
theorem dX0_hooksInUse_5 : decode cX0_hooksInUse 5 = .ok (.bipush 16, 2) := by decide +kernel
theorem dX0_hooksInUse_7 : decode cX0_hooksInUse 7 = .ok (.if_icmp .ge 21, 3) := by decide +kernel
theorem dX0_hooksInUse_10 : decode cX0_hooksInUse 10 = .ok (.aload_n 0, 1) := by decide +kernel
theorem dX0_hooksInUse_11 : decode cX0_hooksInUse 11 = .ok (.getfield 18, 3) := by decide +kernel
theorem dX0_hooksInUse_14 : decode cX0_hooksInUse 14 = .ok (.iload_n 2, 1) := by decide +kernel
theorem dX0_hooksInUse_15 : decode cX0_hooksInUse 15 = .ok (.iaload, 1) := by decide +kernel
theorem dX0_hooksInUse_16 : decode cX0_hooksInUse 16 = .ok (.ifCond .eq 6, 3) := by decide +kernel
theorem dX0_hooksInUse_19 : decode cX0_hooksInUse 19 = .ok (.iinc 1 1, 3) := by decide +kernel
theorem dX0_hooksInUse_22 : decode cX0_hooksInUse 22 = .ok (.iinc 2 1, 3) := by decide +kernel
theorem dX0_hooksInUse_25 : decode cX0_hooksInUse 25 = .ok (.goto (-21), 3) := by decide +kernel
theorem dX0_hooksInUse_28 : decode cX0_hooksInUse 28 = .ok (.iload_n 1, 1) := by decide +kernel
theorem dX0_hooksInUse_29 : decode cX0_hooksInUse 29 = .ok (.ireturn, 1) := by decide +kernel
theorem dX0_share_0 : decode cX0_share 0 = .ok (.iload_n 1, 1) := by decide +kernel
theorem dX0_share_1 : decode cX0_share 1 = .ok (.invokestatic 42, 3) := by decide +kernel
theorem dX0_share_4 : decode cX0_share 4 = .ok (.ifCond .eq 39, 3) := by decide +kernel
theorem dX0_share_7 : decode cX0_share 7 = .ok (.iload_n 2, 1) := by decide +kernel
theorem dX0_share_8 : decode cX0_share 8 = .ok (.invokestatic 42, 3) := by decide +kernel
theorem dX0_share_11 : decode cX0_share 11 = .ok (.ifCond .eq 32, 3) := by decide +kernel
theorem dX0_share_14 : decode cX0_share 14 = .ok (.aload_n 0, 1) := by decide +kernel
theorem dX0_share_15 : decode cX0_share 15 = .ok (.getfield 15, 3) := by decide +kernel
theorem dX0_share_18 : decode cX0_share 18 = .ok (.iload_n 1, 1) := by decide +kernel
theorem dX0_share_19 : decode cX0_share 19 = .ok (.iaload, 1) := by decide +kernel
theorem dX0_share_20 : decode cX0_share 20 = .ok (.iconst (-1), 1) := by decide +kernel
theorem dX0_share_21 : decode cX0_share 21 = .ok (.if_icmp .eq 22, 3) := by decide +kernel
theorem dX0_share_24 : decode cX0_share 24 = .ok (.aload_n 0, 1) := by decide +kernel
theorem dX0_share_25 : decode cX0_share 25 = .ok (.getfield 15, 3) := by decide +kernel
theorem dX0_share_28 : decode cX0_share 28 = .ok (.iload_n 1, 1) := by decide +kernel
theorem dX0_share_29 : decode cX0_share 29 = .ok (.iaload, 1) := by decide +kernel
theorem dX0_share_30 : decode cX0_share 30 = .ok (.aload_n 0, 1) := by decide +kernel
theorem dX0_share_31 : decode cX0_share 31 = .ok (.getfield 15, 3) := by decide +kernel
theorem dX0_share_34 : decode cX0_share 34 = .ok (.iload_n 2, 1) := by decide +kernel
theorem dX0_share_35 : decode cX0_share 35 = .ok (.iaload, 1) := by decide +kernel
theorem dX0_share_36 : decode cX0_share 36 = .ok (.if_icmp .ne 7, 3) := by decide +kernel
theorem dX0_share_39 : decode cX0_share 39 = .ok (.iconst 1, 1) := by decide +kernel
theorem dX0_share_40 : decode cX0_share 40 = .ok (.goto 4, 3) := by decide +kernel
theorem dX0_share_43 : decode cX0_share 43 = .ok (.iconst 0, 1) := by decide +kernel
theorem dX0_share_44 : decode cX0_share 44 = .ok (.ireturn, 1) := by decide +kernel
theorem dX0_putAside_0 : decode cX0_putAside 0 = .ok (.aload_n 0, 1) := by decide +kernel
theorem dX0_putAside_1 : decode cX0_putAside 1 = .ok (.getfield 9, 3) := by decide +kernel
theorem dX0_putAside_4 : decode cX0_putAside 4 = .ok (.iconst (-1), 1) := by decide +kernel
theorem dX0_putAside_5 : decode cX0_putAside 5 = .ok (.invokestatic 32, 3) := by decide +kernel
theorem dX0_putAside_8 : decode cX0_putAside 8 = .ok (.aload_n 1, 1) := by decide +kernel
theorem dX0_putAside_9 : decode cX0_putAside 9 = .ok (.getfield 46, 3) := by decide +kernel
theorem dX0_putAside_12 : decode cX0_putAside 12 = .ok (.istore_n 3, 1) := by decide +kernel
theorem dX0_putAside_13 : decode cX0_putAside 13 = .ok (.iconst 0, 1) := by decide +kernel
theorem dX0_putAside_14 : decode cX0_putAside 14 = .ok (.istore 4, 2) := by decide +kernel
theorem dX0_putAside_16 : decode cX0_putAside 16 = .ok (.iload_n 3, 1) := by decide +kernel
theorem dX0_putAside_17 : decode cX0_putAside 17 = .ok (.ifCond .eq 73, 3) := by decide +kernel
theorem dX0_putAside_20 : decode cX0_putAside 20 = .ok (.iload 4, 2) := by decide +kernel
theorem dX0_putAside_22 : decode cX0_putAside 22 = .ok (.bipush 16, 2) := by decide +kernel
theorem dX0_putAside_24 : decode cX0_putAside 24 = .ok (.if_icmp .ge 66, 3) := by decide +kernel
theorem dX0_putAside_27 : decode cX0_putAside 27 = .ok (.aload_n 1, 1) := by decide +kernel
theorem dX0_putAside_28 : decode cX0_putAside 28 = .ok (.iload_n 3, 1) := by decide +kernel
theorem dX0_putAside_29 : decode cX0_putAside 29 = .ok (.iload_n 2, 1) := by decide +kernel
theorem dX0_putAside_30 : decode cX0_putAside 30 = .ok (.invokestatic 51, 3) := by decide +kernel
theorem dX0_putAside_33 : decode cX0_putAside 33 = .ok (.istore 5, 2) := by decide +kernel
theorem dX0_putAside_35 : decode cX0_putAside 35 = .ok (.iload 5, 2) := by decide +kernel
theorem dX0_putAside_37 : decode cX0_putAside 37 = .ok (.iconst (-1), 1) := by decide +kernel
theorem dX0_putAside_38 : decode cX0_putAside 38 = .ok (.if_icmp .ne 10, 3) := by decide +kernel
theorem dX0_putAside_41 : decode cX0_putAside 41 = .ok (.aload_n 1, 1) := by decide +kernel
theorem dX0_putAside_42 : decode cX0_putAside 42 = .ok (.iload_n 3, 1) := by decide +kernel
theorem dX0_putAside_43 : decode cX0_putAside 43 = .ok (.invokestatic 55, 3) := by decide +kernel
theorem dX0_putAside_46 : decode cX0_putAside 46 = .ok (.istore 5, 2) := by decide +kernel
theorem dX0_putAside_48 : decode cX0_putAside 48 = .ok (.iload 5, 2) := by decide +kernel
theorem dX0_putAside_50 : decode cX0_putAside 50 = .ok (.invokestatic 42, 3) := by decide +kernel
theorem dX0_putAside_53 : decode cX0_putAside 53 = .ok (.ifCond .eq 12, 3) := by decide +kernel
theorem dX0_putAside_56 : decode cX0_putAside 56 = .ok (.aload_n 0, 1) := by decide +kernel
theorem dX0_putAside_57 : decode cX0_putAside 57 = .ok (.getfield 9, 3) := by decide +kernel
theorem dX0_putAside_60 : decode cX0_putAside 60 = .ok (.iload 5, 2) := by decide +kernel
theorem dX0_putAside_62 : decode cX0_putAside 62 = .ok (.iload 4, 2) := by decide +kernel
theorem dX0_putAside_64 : decode cX0_putAside 64 = .ok (.iastore, 1) := by decide +kernel
theorem dX0_putAside_65 : decode cX0_putAside 65 = .ok (.aload_n 0, 1) := by decide +kernel
theorem dX0_putAside_66 : decode cX0_putAside 66 = .ok (.getfield 21, 3) := by decide +kernel
theorem dX0_putAside_69 : decode cX0_putAside 69 = .ok (.iload 4, 2) := by decide +kernel
theorem dX0_putAside_71 : decode cX0_putAside 71 = .ok (.iload 5, 2) := by decide +kernel
theorem dX0_putAside_73 : decode cX0_putAside 73 = .ok (.iastore, 1) := by decide +kernel
theorem dX0_putAside_74 : decode cX0_putAside 74 = .ok (.iload_n 3, 1) := by decide +kernel
theorem dX0_putAside_75 : decode cX0_putAside 75 = .ok (.iload 5, 2) := by decide +kernel
theorem dX0_putAside_77 : decode cX0_putAside 77 = .ok (.invokestatic 58, 3) := by decide +kernel
theorem dX0_putAside_80 : decode cX0_putAside 80 = .ok (.iconst (-1), 1) := by decide +kernel
theorem dX0_putAside_81 : decode cX0_putAside 81 = .ok (.ixor, 1) := by decide +kernel
theorem dX0_putAside_82 : decode cX0_putAside 82 = .ok (.iand, 1) := by decide +kernel
theorem dX0_putAside_83 : decode cX0_putAside 83 = .ok (.istore_n 3, 1) := by decide +kernel
theorem dX0_putAside_84 : decode cX0_putAside 84 = .ok (.iinc 4 1, 3) := by decide +kernel
theorem dX0_putAside_87 : decode cX0_putAside 87 = .ok (.goto (-71), 3) := by decide +kernel
theorem dX0_putAside_90 : decode cX0_putAside 90 = .ok (.iload 4, 2) := by decide +kernel
theorem dX0_putAside_92 : decode cX0_putAside 92 = .ok (.ireturn, 1) := by decide +kernel
theorem dX0_firstEasy_0 : decode cX0_firstEasy 0 = .ok (.iconst 0, 1) := by decide +kernel
theorem dX0_firstEasy_1 : decode cX0_firstEasy 1 = .ok (.istore_n 3, 1) := by decide +kernel
theorem dX0_firstEasy_2 : decode cX0_firstEasy 2 = .ok (.iload_n 3, 1) := by decide +kernel
theorem dX0_firstEasy_3 : decode cX0_firstEasy 3 = .ok (.bipush 16, 2) := by decide +kernel
theorem dX0_firstEasy_5 : decode cX0_firstEasy 5 = .ok (.if_icmp .ge 34, 3) := by decide +kernel
theorem dX0_firstEasy_8 : decode cX0_firstEasy 8 = .ok (.iload_n 1, 1) := by decide +kernel
theorem dX0_firstEasy_9 : decode cX0_firstEasy 9 = .ok (.iload_n 3, 1) := by decide +kernel
theorem dX0_firstEasy_10 : decode cX0_firstEasy 10 = .ok (.invokestatic 62, 3) := by decide +kernel
theorem dX0_firstEasy_13 : decode cX0_firstEasy 13 = .ok (.ifCond .eq 20, 3) := by decide +kernel
theorem dX0_firstEasy_16 : decode cX0_firstEasy 16 = .ok (.aload_n 0, 1) := by decide +kernel
theorem dX0_firstEasy_17 : decode cX0_firstEasy 17 = .ok (.getfield 66, 3) := by decide +kernel
theorem dX0_firstEasy_20 : decode cX0_firstEasy 20 = .ok (.iload_n 3, 1) := by decide +kernel
theorem dX0_firstEasy_21 : decode cX0_firstEasy 21 = .ok (.iaload, 1) := by decide +kernel
theorem dX0_firstEasy_22 : decode cX0_firstEasy 22 = .ok (.iload_n 1, 1) := by decide +kernel
theorem dX0_firstEasy_23 : decode cX0_firstEasy 23 = .ok (.iand, 1) := by decide +kernel
theorem dX0_firstEasy_24 : decode cX0_firstEasy 24 = .ok (.invokestatic 69, 3) := by decide +kernel
theorem dX0_firstEasy_27 : decode cX0_firstEasy 27 = .ok (.iload_n 2, 1) := by decide +kernel
theorem dX0_firstEasy_28 : decode cX0_firstEasy 28 = .ok (.if_icmp .ge 5, 3) := by decide +kernel
theorem dX0_firstEasy_31 : decode cX0_firstEasy 31 = .ok (.iload_n 3, 1) := by decide +kernel
theorem dX0_firstEasy_32 : decode cX0_firstEasy 32 = .ok (.ireturn, 1) := by decide +kernel
theorem dX0_firstEasy_33 : decode cX0_firstEasy 33 = .ok (.iinc 3 1, 3) := by decide +kernel
theorem dX0_firstEasy_36 : decode cX0_firstEasy 36 = .ok (.goto (-34), 3) := by decide +kernel
theorem dX0_firstEasy_39 : decode cX0_firstEasy 39 = .ok (.iconst (-1), 1) := by decide +kernel
theorem dX0_firstEasy_40 : decode cX0_firstEasy 40 = .ok (.ireturn, 1) := by decide +kernel
theorem dX0_cheapest_0 : decode cX0_cheapest 0 = .ok (.iconst (-1), 1) := by decide +kernel
theorem dX0_cheapest_1 : decode cX0_cheapest 1 = .ok (.istore_n 2, 1) := by decide +kernel
theorem dX0_cheapest_2 : decode cX0_cheapest 2 = .ok (.iconst 0, 1) := by decide +kernel
theorem dX0_cheapest_3 : decode cX0_cheapest 3 = .ok (.istore_n 3, 1) := by decide +kernel
theorem dX0_cheapest_4 : decode cX0_cheapest 4 = .ok (.iconst 0, 1) := by decide +kernel
theorem dX0_cheapest_5 : decode cX0_cheapest 5 = .ok (.istore 4, 2) := by decide +kernel
theorem dX0_cheapest_7 : decode cX0_cheapest 7 = .ok (.iconst 0, 1) := by decide +kernel
theorem dX0_cheapest_8 : decode cX0_cheapest 8 = .ok (.istore 5, 2) := by decide +kernel
theorem dX0_cheapest_10 : decode cX0_cheapest 10 = .ok (.iload 5, 2) := by decide +kernel
theorem dX0_cheapest_12 : decode cX0_cheapest 12 = .ok (.bipush 16, 2) := by decide +kernel
theorem dX0_cheapest_14 : decode cX0_cheapest 14 = .ok (.if_icmp .ge 69, 3) := by decide +kernel
theorem dX0_cheapest_17 : decode cX0_cheapest 17 = .ok (.aload_n 0, 1) := by decide +kernel
theorem dX0_cheapest_18 : decode cX0_cheapest 18 = .ok (.getfield 66, 3) := by decide +kernel
theorem dX0_cheapest_21 : decode cX0_cheapest 21 = .ok (.iload 5, 2) := by decide +kernel
theorem dX0_cheapest_23 : decode cX0_cheapest 23 = .ok (.iaload, 1) := by decide +kernel
theorem dX0_cheapest_24 : decode cX0_cheapest 24 = .ok (.iload_n 1, 1) := by decide +kernel
theorem dX0_cheapest_25 : decode cX0_cheapest 25 = .ok (.iand, 1) := by decide +kernel
theorem dX0_cheapest_26 : decode cX0_cheapest 26 = .ok (.invokestatic 69, 3) := by decide +kernel
theorem dX0_cheapest_29 : decode cX0_cheapest 29 = .ok (.istore 6, 2) := by decide +kernel
theorem dX0_cheapest_31 : decode cX0_cheapest 31 = .ok (.iload_n 1, 1) := by decide +kernel
theorem dX0_cheapest_32 : decode cX0_cheapest 32 = .ok (.iload 5, 2) := by decide +kernel
theorem dX0_cheapest_34 : decode cX0_cheapest 34 = .ok (.invokestatic 62, 3) := by decide +kernel
theorem dX0_cheapest_37 : decode cX0_cheapest 37 = .ok (.ifCond .eq 40, 3) := by decide +kernel
theorem dX0_cheapest_40 : decode cX0_cheapest 40 = .ok (.iload_n 2, 1) := by decide +kernel
theorem dX0_cheapest_41 : decode cX0_cheapest 41 = .ok (.iconst (-1), 1) := by decide +kernel
theorem dX0_cheapest_42 : decode cX0_cheapest 42 = .ok (.if_icmp .eq 20, 3) := by decide +kernel
theorem dX0_cheapest_45 : decode cX0_cheapest 45 = .ok (.aload_n 0, 1) := by decide +kernel
theorem dX0_cheapest_46 : decode cX0_cheapest 46 = .ok (.getfield 74, 3) := by decide +kernel
theorem dX0_cheapest_49 : decode cX0_cheapest 49 = .ok (.iload 5, 2) := by decide +kernel
theorem dX0_cheapest_51 : decode cX0_cheapest 51 = .ok (.iaload, 1) := by decide +kernel
theorem dX0_cheapest_52 : decode cX0_cheapest 52 = .ok (.iload 4, 2) := by decide +kernel
theorem dX0_cheapest_54 : decode cX0_cheapest 54 = .ok (.imul, 1) := by decide +kernel
theorem dX0_cheapest_55 : decode cX0_cheapest 55 = .ok (.iload_n 3, 1) := by decide +kernel
theorem dX0_cheapest_56 : decode cX0_cheapest 56 = .ok (.iload 6, 2) := by decide +kernel
theorem dX0_cheapest_58 : decode cX0_cheapest 58 = .ok (.imul, 1) := by decide +kernel
theorem dX0_cheapest_59 : decode cX0_cheapest 59 = .ok (.if_icmp .ge 18, 3) := by decide +kernel
theorem dX0_cheapest_62 : decode cX0_cheapest 62 = .ok (.iload 5, 2) := by decide +kernel
theorem dX0_cheapest_64 : decode cX0_cheapest 64 = .ok (.istore_n 2, 1) := by decide +kernel
theorem dX0_cheapest_65 : decode cX0_cheapest 65 = .ok (.aload_n 0, 1) := by decide +kernel
theorem dX0_cheapest_66 : decode cX0_cheapest 66 = .ok (.getfield 74, 3) := by decide +kernel
theorem dX0_cheapest_69 : decode cX0_cheapest 69 = .ok (.iload 5, 2) := by decide +kernel
theorem dX0_cheapest_71 : decode cX0_cheapest 71 = .ok (.iaload, 1) := by decide +kernel
theorem dX0_cheapest_72 : decode cX0_cheapest 72 = .ok (.istore_n 3, 1) := by decide +kernel
theorem dX0_cheapest_73 : decode cX0_cheapest 73 = .ok (.iload 6, 2) := by decide +kernel
theorem dX0_cheapest_75 : decode cX0_cheapest 75 = .ok (.istore 4, 2) := by decide +kernel
theorem dX0_cheapest_77 : decode cX0_cheapest 77 = .ok (.iinc 5 1, 3) := by decide +kernel
theorem dX0_cheapest_80 : decode cX0_cheapest 80 = .ok (.goto (-70), 3) := by decide +kernel
theorem dX0_cheapest_83 : decode cX0_cheapest 83 = .ok (.iload_n 2, 1) := by decide +kernel
theorem dX0_cheapest_84 : decode cX0_cheapest 84 = .ok (.ireturn, 1) := by decide +kernel
theorem dX0_hangUp_0 : decode cX0_hangUp 0 = .ok (.iload_n 2, 1) := by decide +kernel
theorem dX0_hangUp_1 : decode cX0_hangUp 1 = .ok (.invokestatic 42, 3) := by decide +kernel
theorem dX0_hangUp_4 : decode cX0_hangUp 4 = .ok (.ifCond .ne 4, 3) := by decide +kernel
theorem dX0_hangUp_7 : decode cX0_hangUp 7 = .ok (.return_, 1) := by decide +kernel
theorem dX0_hangUp_8 : decode cX0_hangUp 8 = .ok (.aload_n 0, 1) := by decide +kernel
theorem dX0_hangUp_9 : decode cX0_hangUp 9 = .ok (.aload_n 1, 1) := by decide +kernel
theorem dX0_hangUp_10 : decode cX0_hangUp 10 = .ok (.getfield 77, 3) := by decide +kernel
theorem dX0_hangUp_13 : decode cX0_hangUp 13 = .ok (.iload_n 2, 1) := by decide +kernel
theorem dX0_hangUp_14 : decode cX0_hangUp 14 = .ok (.iaload, 1) := by decide +kernel
theorem dX0_hangUp_15 : decode cX0_hangUp 15 = .ok (.aload_n 1, 1) := by decide +kernel
theorem dX0_hangUp_16 : decode cX0_hangUp 16 = .ok (.getfield 66, 3) := by decide +kernel
theorem dX0_hangUp_19 : decode cX0_hangUp 19 = .ok (.iload_n 2, 1) := by decide +kernel
theorem dX0_hangUp_20 : decode cX0_hangUp 20 = .ok (.iaload, 1) := by decide +kernel
theorem dX0_hangUp_21 : decode cX0_hangUp 21 = .ok (.invokevirtual 80, 3) := by decide +kernel
theorem dX0_hangUp_24 : decode cX0_hangUp 24 = .ok (.istore 4, 2) := by decide +kernel
theorem dX0_hangUp_26 : decode cX0_hangUp 26 = .ok (.iload 4, 2) := by decide +kernel
theorem dX0_hangUp_28 : decode cX0_hangUp 28 = .ok (.iconst (-1), 1) := by decide +kernel
theorem dX0_hangUp_29 : decode cX0_hangUp 29 = .ok (.if_icmp .ne 16, 3) := by decide +kernel
theorem dX0_hangUp_32 : decode cX0_hangUp 32 = .ok (.aload_n 0, 1) := by decide +kernel
theorem dX0_hangUp_33 : decode cX0_hangUp 33 = .ok (.aload_n 1, 1) := by decide +kernel
theorem dX0_hangUp_34 : decode cX0_hangUp 34 = .ok (.getfield 66, 3) := by decide +kernel
theorem dX0_hangUp_37 : decode cX0_hangUp 37 = .ok (.iload_n 2, 1) := by decide +kernel
theorem dX0_hangUp_38 : decode cX0_hangUp 38 = .ok (.iaload, 1) := by decide +kernel
theorem dX0_hangUp_39 : decode cX0_hangUp 39 = .ok (.iload_n 3, 1) := by decide +kernel
theorem dX0_hangUp_40 : decode cX0_hangUp 40 = .ok (.invokevirtual 84, 3) := by decide +kernel
theorem dX0_hangUp_43 : decode cX0_hangUp 43 = .ok (.istore 4, 2) := by decide +kernel
theorem dX0_hangUp_45 : decode cX0_hangUp 45 = .ok (.iload 4, 2) := by decide +kernel
theorem dX0_hangUp_47 : decode cX0_hangUp 47 = .ok (.ifCond .lt 10, 3) := by decide +kernel
theorem dX0_hangUp_50 : decode cX0_hangUp 50 = .ok (.iload 4, 2) := by decide +kernel
theorem dX0_hangUp_52 : decode cX0_hangUp 52 = .ok (.bipush 16, 2) := by decide +kernel
theorem dX0_hangUp_54 : decode cX0_hangUp 54 = .ok (.if_icmp .lt 17, 3) := by decide +kernel
theorem dX0_hangUp_57 : decode cX0_hangUp 57 = .ok (.aload_n 0, 1) := by decide +kernel
theorem dX0_hangUp_58 : decode cX0_hangUp 58 = .ok (.dup, 1) := by decide +kernel
theorem dX0_hangUp_59 : decode cX0_hangUp 59 = .ok (.getfield 24, 3) := by decide +kernel
theorem dX0_hangUp_62 : decode cX0_hangUp 62 = .ok (.iload_n 2, 1) := by decide +kernel
theorem dX0_hangUp_63 : decode cX0_hangUp 63 = .ok (.invokestatic 58, 3) := by decide +kernel
theorem dX0_hangUp_66 : decode cX0_hangUp 66 = .ok (.ior, 1) := by decide +kernel
theorem dX0_hangUp_67 : decode cX0_hangUp 67 = .ok (.putfield 24, 3) := by decide +kernel
theorem dX0_hangUp_70 : decode cX0_hangUp 70 = .ok (.return_, 1) := by decide +kernel
theorem dX0_hangUp_71 : decode cX0_hangUp 71 = .ok (.aload_n 0, 1) := by decide +kernel
theorem dX0_hangUp_72 : decode cX0_hangUp 72 = .ok (.getfield 15, 3) := by decide +kernel
theorem dX0_hangUp_75 : decode cX0_hangUp 75 = .ok (.iload_n 2, 1) := by decide +kernel
theorem dX0_hangUp_76 : decode cX0_hangUp 76 = .ok (.iload 4, 2) := by decide +kernel
theorem dX0_hangUp_78 : decode cX0_hangUp 78 = .ok (.iastore, 1) := by decide +kernel
theorem dX0_hangUp_79 : decode cX0_hangUp 79 = .ok (.aload_n 0, 1) := by decide +kernel
theorem dX0_hangUp_80 : decode cX0_hangUp 80 = .ok (.getfield 18, 3) := by decide +kernel
theorem dX0_hangUp_83 : decode cX0_hangUp 83 = .ok (.iload 4, 2) := by decide +kernel
theorem dX0_hangUp_85 : decode cX0_hangUp 85 = .ok (.dup2, 1) := by decide +kernel
theorem dX0_hangUp_86 : decode cX0_hangUp 86 = .ok (.iaload, 1) := by decide +kernel
theorem dX0_hangUp_87 : decode cX0_hangUp 87 = .ok (.iload_n 2, 1) := by decide +kernel
theorem dX0_hangUp_88 : decode cX0_hangUp 88 = .ok (.invokestatic 58, 3) := by decide +kernel
theorem dX0_hangUp_91 : decode cX0_hangUp 91 = .ok (.ior, 1) := by decide +kernel
theorem dX0_hangUp_92 : decode cX0_hangUp 92 = .ok (.iastore, 1) := by decide +kernel
theorem dX0_hangUp_93 : decode cX0_hangUp 93 = .ok (.return_, 1) := by decide +kernel
theorem dX0_hookOfPartner_0 : decode cX0_hookOfPartner 0 = .ok (.iconst 0, 1) := by decide +kernel
theorem dX0_hookOfPartner_1 : decode cX0_hookOfPartner 1 = .ok (.istore_n 3, 1) := by decide +kernel
theorem dX0_hookOfPartner_2 : decode cX0_hookOfPartner 2 = .ok (.iload_n 3, 1) := by decide +kernel
theorem dX0_hookOfPartner_3 : decode cX0_hookOfPartner 3 = .ok (.bipush 16, 2) := by decide +kernel
theorem dX0_hookOfPartner_5 : decode cX0_hookOfPartner 5 = .ok (.if_icmp .ge 38, 3) := by decide +kernel
theorem dX0_hookOfPartner_8 : decode cX0_hookOfPartner 8 = .ok (.iload_n 1, 1) := by decide +kernel
theorem dX0_hookOfPartner_9 : decode cX0_hookOfPartner 9 = .ok (.iload_n 3, 1) := by decide +kernel
theorem dX0_hookOfPartner_10 : decode cX0_hookOfPartner 10 = .ok (.invokestatic 62, 3) := by decide +kernel
theorem dX0_hookOfPartner_13 : decode cX0_hookOfPartner 13 = .ok (.ifCond .eq 24, 3) := by decide +kernel
theorem dX0_hookOfPartner_16 : decode cX0_hookOfPartner 16 = .ok (.aload_n 0, 1) := by decide +kernel
theorem dX0_hookOfPartner_17 : decode cX0_hookOfPartner 17 = .ok (.aload_n 0, 1) := by decide +kernel
theorem dX0_hookOfPartner_18 : decode cX0_hookOfPartner 18 = .ok (.getfield 15, 3) := by decide +kernel
theorem dX0_hookOfPartner_21 : decode cX0_hookOfPartner 21 = .ok (.iload_n 3, 1) := by decide +kernel
theorem dX0_hookOfPartner_22 : decode cX0_hookOfPartner 22 = .ok (.iaload, 1) := by decide +kernel
theorem dX0_hookOfPartner_23 : decode cX0_hookOfPartner 23 = .ok (.iload_n 2, 1) := by decide +kernel
theorem dX0_hookOfPartner_24 : decode cX0_hookOfPartner 24 = .ok (.invokevirtual 87, 3) := by decide +kernel
theorem dX0_hookOfPartner_27 : decode cX0_hookOfPartner 27 = .ok (.ifCond .eq 10, 3) := by decide +kernel
theorem dX0_hookOfPartner_30 : decode cX0_hookOfPartner 30 = .ok (.aload_n 0, 1) := by decide +kernel
theorem dX0_hookOfPartner_31 : decode cX0_hookOfPartner 31 = .ok (.getfield 15, 3) := by decide +kernel
theorem dX0_hookOfPartner_34 : decode cX0_hookOfPartner 34 = .ok (.iload_n 3, 1) := by decide +kernel
theorem dX0_hookOfPartner_35 : decode cX0_hookOfPartner 35 = .ok (.iaload, 1) := by decide +kernel
theorem dX0_hookOfPartner_36 : decode cX0_hookOfPartner 36 = .ok (.ireturn, 1) := by decide +kernel
theorem dX0_hookOfPartner_37 : decode cX0_hookOfPartner 37 = .ok (.iinc 3 1, 3) := by decide +kernel
theorem dX0_hookOfPartner_40 : decode cX0_hookOfPartner 40 = .ok (.goto (-38), 3) := by decide +kernel
theorem dX0_hookOfPartner_43 : decode cX0_hookOfPartner 43 = .ok (.iconst (-1), 1) := by decide +kernel
theorem dX0_hookOfPartner_44 : decode cX0_hookOfPartner 44 = .ok (.ireturn, 1) := by decide +kernel
theorem dX0_firstFree_0 : decode cX0_firstFree 0 = .ok (.iconst 0, 1) := by decide +kernel
theorem dX0_firstFree_1 : decode cX0_firstFree 1 = .ok (.istore_n 3, 1) := by decide +kernel
theorem dX0_firstFree_2 : decode cX0_firstFree 2 = .ok (.iload_n 3, 1) := by decide +kernel
theorem dX0_firstFree_3 : decode cX0_firstFree 3 = .ok (.iload_n 2, 1) := by decide +kernel
theorem dX0_firstFree_4 : decode cX0_firstFree 4 = .ok (.if_icmp .ge 20, 3) := by decide +kernel
theorem dX0_firstFree_7 : decode cX0_firstFree 7 = .ok (.aload_n 0, 1) := by decide +kernel
theorem dX0_firstFree_8 : decode cX0_firstFree 8 = .ok (.iload_n 3, 1) := by decide +kernel
theorem dX0_firstFree_9 : decode cX0_firstFree 9 = .ok (.iload_n 1, 1) := by decide +kernel
theorem dX0_firstFree_10 : decode cX0_firstFree 10 = .ok (.invokevirtual 87, 3) := by decide +kernel
theorem dX0_firstFree_13 : decode cX0_firstFree 13 = .ok (.ifCond .eq 5, 3) := by decide +kernel
theorem dX0_firstFree_16 : decode cX0_firstFree 16 = .ok (.iload_n 3, 1) := by decide +kernel
theorem dX0_firstFree_17 : decode cX0_firstFree 17 = .ok (.ireturn, 1) := by decide +kernel
theorem dX0_firstFree_18 : decode cX0_firstFree 18 = .ok (.iinc 3 1, 3) := by decide +kernel
theorem dX0_firstFree_21 : decode cX0_firstFree 21 = .ok (.goto (-19), 3) := by decide +kernel
theorem dX0_firstFree_24 : decode cX0_firstFree 24 = .ok (.iconst (-1), 1) := by decide +kernel
theorem dX0_firstFree_25 : decode cX0_firstFree 25 = .ok (.ireturn, 1) := by decide +kernel
theorem dX0_isFree_0 : decode cX0_isFree 0 = .ok (.iload_n 1, 1) := by decide +kernel
theorem dX0_isFree_1 : decode cX0_isFree 1 = .ok (.ifCond .lt 24, 3) := by decide +kernel
theorem dX0_isFree_4 : decode cX0_isFree 4 = .ok (.iload_n 1, 1) := by decide +kernel
theorem dX0_isFree_5 : decode cX0_isFree 5 = .ok (.bipush 16, 2) := by decide +kernel
theorem dX0_isFree_7 : decode cX0_isFree 7 = .ok (.if_icmp .ge 18, 3) := by decide +kernel
theorem dX0_isFree_10 : decode cX0_isFree 10 = .ok (.aload_n 0, 1) := by decide +kernel
theorem dX0_isFree_11 : decode cX0_isFree 11 = .ok (.getfield 18, 3) := by decide +kernel
theorem dX0_isFree_14 : decode cX0_isFree 14 = .ok (.iload_n 1, 1) := by decide +kernel
theorem dX0_isFree_15 : decode cX0_isFree 15 = .ok (.iaload, 1) := by decide +kernel
theorem dX0_isFree_16 : decode cX0_isFree 16 = .ok (.iload_n 2, 1) := by decide +kernel
theorem dX0_isFree_17 : decode cX0_isFree 17 = .ok (.iand, 1) := by decide +kernel
theorem dX0_isFree_18 : decode cX0_isFree 18 = .ok (.ifCond .ne 7, 3) := by decide +kernel
theorem dX0_isFree_21 : decode cX0_isFree 21 = .ok (.iconst 1, 1) := by decide +kernel
theorem dX0_isFree_22 : decode cX0_isFree 22 = .ok (.goto 4, 3) := by decide +kernel
theorem dX0_isFree_25 : decode cX0_isFree 25 = .ok (.iconst 0, 1) := by decide +kernel
theorem dX0_isFree_26 : decode cX0_isFree 26 = .ok (.ireturn, 1) := by decide +kernel
theorem dX1_init_0 : decode cX1_init 0 = .ok (.aload_n 0, 1) := by decide +kernel
theorem dX1_init_1 : decode cX1_init 1 = .ok (.invokespecial 3, 3) := by decide +kernel
theorem dX1_init_4 : decode cX1_init 4 = .ok (.aload_n 0, 1) := by decide +kernel
theorem dX1_init_5 : decode cX1_init 5 = .ok (.bipush 30, 2) := by decide +kernel
theorem dX1_init_7 : decode cX1_init 7 = .ok (.newarray .int, 2) := by decide +kernel
theorem dX1_init_9 : decode cX1_init 9 = .ok (.putfield 9, 3) := by decide +kernel
theorem dX1_init_12 : decode cX1_init 12 = .ok (.aload_n 0, 1) := by decide +kernel
theorem dX1_init_13 : decode cX1_init 13 = .ok (.bipush 30, 2) := by decide +kernel
theorem dX1_init_15 : decode cX1_init 15 = .ok (.newarray .int, 2) := by decide +kernel
theorem dX1_init_17 : decode cX1_init 17 = .ok (.putfield 15, 3) := by decide +kernel
theorem dX1_init_20 : decode cX1_init 20 = .ok (.aload_n 0, 1) := by decide +kernel
theorem dX1_init_21 : decode cX1_init 21 = .ok (.bipush 30, 2) := by decide +kernel
theorem dX1_init_23 : decode cX1_init 23 = .ok (.newarray .int, 2) := by decide +kernel
theorem dX1_init_25 : decode cX1_init 25 = .ok (.putfield 18, 3) := by decide +kernel
theorem dX1_init_28 : decode cX1_init 28 = .ok (.aload_n 0, 1) := by decide +kernel
theorem dX1_init_29 : decode cX1_init 29 = .ok (.bipush 30, 2) := by decide +kernel
theorem dX1_init_31 : decode cX1_init 31 = .ok (.newarray .int, 2) := by decide +kernel
theorem dX1_init_33 : decode cX1_init 33 = .ok (.putfield 21, 3) := by decide +kernel
theorem dX1_init_36 : decode cX1_init 36 = .ok (.aload_n 0, 1) := by decide +kernel
theorem dX1_init_37 : decode cX1_init 37 = .ok (.bipush 30, 2) := by decide +kernel
theorem dX1_init_39 : decode cX1_init 39 = .ok (.newarray .boolean, 2) := by decide +kernel
theorem dX1_init_41 : decode cX1_init 41 = .ok (.putfield 24, 3) := by decide +kernel
theorem dX1_init_44 : decode cX1_init 44 = .ok (.aload_n 0, 1) := by decide +kernel
theorem dX1_init_45 : decode cX1_init 45 = .ok (.iconst 0, 1) := by decide +kernel
theorem dX1_init_46 : decode cX1_init 46 = .ok (.putfield 28, 3) := by decide +kernel
theorem dX1_init_49 : decode cX1_init 49 = .ok (.return_, 1) := by decide +kernel
theorem dX1_add_0 : decode cX1_add 0 = .ok (.aload_n 0, 1) := by decide +kernel
theorem dX1_add_1 : decode cX1_add 1 = .ok (.getfield 28, 3) := by decide +kernel
theorem dX1_add_4 : decode cX1_add 4 = .ok (.bipush 30, 2) := by decide +kernel
theorem dX1_add_6 : decode cX1_add 6 = .ok (.if_icmp .lt 13, 3) := by decide +kernel
theorem dX1_add_9 : decode cX1_add 9 = .ok (.new 32, 3) := by decide +kernel
theorem dX1_add_12 : decode cX1_add 12 = .ok (.dup, 1) := by decide +kernel
theorem dX1_add_13 : decode cX1_add 13 = .ok (.ldc 34, 2) := by decide +kernel
theorem dX1_add_15 : decode cX1_add 15 = .ok (.invokespecial 36, 3) := by decide +kernel
theorem dX1_add_18 : decode cX1_add 18 = .ok (.athrow, 1) := by decide +kernel
theorem dX1_add_19 : decode cX1_add 19 = .ok (.aload_n 0, 1) := by decide +kernel
theorem dX1_add_20 : decode cX1_add 20 = .ok (.getfield 28, 3) := by decide +kernel
theorem dX1_add_23 : decode cX1_add 23 = .ok (.istore 6, 2) := by decide +kernel
theorem dX1_add_25 : decode cX1_add 25 = .ok (.aload_n 0, 1) := by decide +kernel
theorem dX1_add_26 : decode cX1_add 26 = .ok (.getfield 9, 3) := by decide +kernel
theorem dX1_add_29 : decode cX1_add 29 = .ok (.iload 6, 2) := by decide +kernel
theorem dX1_add_31 : decode cX1_add 31 = .ok (.iload_n 1, 1) := by decide +kernel
theorem dX1_add_32 : decode cX1_add 32 = .ok (.iastore, 1) := by decide +kernel
theorem dX1_add_33 : decode cX1_add 33 = .ok (.aload_n 0, 1) := by decide +kernel
theorem dX1_add_34 : decode cX1_add 34 = .ok (.getfield 15, 3) := by decide +kernel
theorem dX1_add_37 : decode cX1_add 37 = .ok (.iload 6, 2) := by decide +kernel
theorem dX1_add_39 : decode cX1_add 39 = .ok (.iload_n 2, 1) := by decide +kernel
theorem dX1_add_40 : decode cX1_add 40 = .ok (.iastore, 1) := by decide +kernel
theorem dX1_add_41 : decode cX1_add 41 = .ok (.aload_n 0, 1) := by decide +kernel
theorem dX1_add_42 : decode cX1_add 42 = .ok (.getfield 18, 3) := by decide +kernel
theorem dX1_add_45 : decode cX1_add 45 = .ok (.iload 6, 2) := by decide +kernel
theorem dX1_add_47 : decode cX1_add 47 = .ok (.iload_n 3, 1) := by decide +kernel
theorem dX1_add_48 : decode cX1_add 48 = .ok (.iastore, 1) := by decide +kernel
theorem dX1_add_49 : decode cX1_add 49 = .ok (.aload_n 0, 1) := by decide +kernel
theorem dX1_add_50 : decode cX1_add 50 = .ok (.getfield 21, 3) := by decide +kernel
theorem dX1_add_53 : decode cX1_add 53 = .ok (.iload 6, 2) := by decide +kernel
theorem dX1_add_55 : decode cX1_add 55 = .ok (.iload 4, 2) := by decide +kernel
theorem dX1_add_57 : decode cX1_add 57 = .ok (.iastore, 1) := by decide +kernel
theorem dX1_add_58 : decode cX1_add 58 = .ok (.aload_n 0, 1) := by decide +kernel
theorem dX1_add_59 : decode cX1_add 59 = .ok (.getfield 24, 3) := by decide +kernel
theorem dX1_add_62 : decode cX1_add 62 = .ok (.iload 6, 2) := by decide +kernel
theorem dX1_add_64 : decode cX1_add 64 = .ok (.iload 5, 2) := by decide +kernel
theorem dX1_add_66 : decode cX1_add 66 = .ok (.bastore, 1) := by decide +kernel
theorem dX1_add_67 : decode cX1_add 67 = .ok (.aload_n 0, 1) := by decide +kernel
theorem dX1_add_68 : decode cX1_add 68 = .ok (.iload 6, 2) := by decide +kernel
theorem dX1_add_70 : decode cX1_add 70 = .ok (.iconst 1, 1) := by decide +kernel
theorem dX1_add_71 : decode cX1_add 71 = .ok (.iadd, 1) := by decide +kernel
theorem dX1_add_72 : decode cX1_add 72 = .ok (.putfield 28, 3) := by decide +kernel
theorem dX1_add_75 : decode cX1_add 75 = .ok (.iload 6, 2) := by decide +kernel
theorem dX1_add_77 : decode cX1_add 77 = .ok (.ireturn, 1) := by decide +kernel
theorem dX1_remove_0 : decode cX1_remove 0 = .ok (.iload_n 1, 1) := by decide +kernel
theorem dX1_remove_1 : decode cX1_remove 1 = .ok (.ifCond .lt 11, 3) := by decide +kernel
theorem dX1_remove_4 : decode cX1_remove 4 = .ok (.iload_n 1, 1) := by decide +kernel
theorem dX1_remove_5 : decode cX1_remove 5 = .ok (.aload_n 0, 1) := by decide +kernel
theorem dX1_remove_6 : decode cX1_remove 6 = .ok (.getfield 28, 3) := by decide +kernel
theorem dX1_remove_9 : decode cX1_remove 9 = .ok (.if_icmp .lt 13, 3) := by decide +kernel
theorem dX1_remove_12 : decode cX1_remove 12 = .ok (.new 39, 3) := by decide +kernel
theorem dX1_remove_15 : decode cX1_remove 15 = .ok (.dup, 1) := by decide +kernel
theorem dX1_remove_16 : decode cX1_remove 16 = .ok (.ldc 41, 2) := by decide +kernel
theorem dX1_remove_18 : decode cX1_remove 18 = .ok (.invokespecial 43, 3) := by decide +kernel
theorem dX1_remove_21 : decode cX1_remove 21 = .ok (.athrow, 1) := by decide +kernel
theorem dX1_remove_22 : decode cX1_remove 22 = .ok (.iload_n 1, 1) := by decide +kernel
theorem dX1_remove_23 : decode cX1_remove 23 = .ok (.istore_n 2, 1) := by decide +kernel
theorem dX1_remove_24 : decode cX1_remove 24 = .ok (.iload_n 2, 1) := by decide +kernel
theorem dX1_remove_25 : decode cX1_remove 25 = .ok (.iconst 1, 1) := by decide +kernel
theorem dX1_remove_26 : decode cX1_remove 26 = .ok (.iadd, 1) := by decide +kernel
theorem dX1_remove_27 : decode cX1_remove 27 = .ok (.aload_n 0, 1) := by decide +kernel
theorem dX1_remove_28 : decode cX1_remove 28 = .ok (.getfield 28, 3) := by decide +kernel
theorem dX1_remove_31 : decode cX1_remove 31 = .ok (.if_icmp .ge 18, 3) := by decide +kernel
theorem dX1_remove_34 : decode cX1_remove 34 = .ok (.aload_n 0, 1) := by decide +kernel
theorem dX1_remove_35 : decode cX1_remove 35 = .ok (.aload_n 0, 1) := by decide +kernel
theorem dX1_remove_36 : decode cX1_remove 36 = .ok (.iload_n 2, 1) := by decide +kernel
theorem dX1_remove_37 : decode cX1_remove 37 = .ok (.iconst 1, 1) := by decide +kernel
theorem dX1_remove_38 : decode cX1_remove 38 = .ok (.iadd, 1) := by decide +kernel
theorem dX1_remove_39 : decode cX1_remove 39 = .ok (.iload_n 2, 1) := by decide +kernel
theorem dX1_remove_40 : decode cX1_remove 40 = .ok (.invokevirtual 44, 3) := by decide +kernel
theorem dX1_remove_43 : decode cX1_remove 43 = .ok (.iinc 2 1, 3) := by decide +kernel
theorem dX1_remove_46 : decode cX1_remove 46 = .ok (.goto (-22), 3) := by decide +kernel
theorem dX1_remove_49 : decode cX1_remove 49 = .ok (.aload_n 0, 1) := by decide +kernel
theorem dX1_remove_50 : decode cX1_remove 50 = .ok (.dup, 1) := by decide +kernel
theorem dX1_remove_51 : decode cX1_remove 51 = .ok (.getfield 28, 3) := by decide +kernel
theorem dX1_remove_54 : decode cX1_remove 54 = .ok (.iconst 1, 1) := by decide +kernel
theorem dX1_remove_55 : decode cX1_remove 55 = .ok (.isub, 1) := by decide +kernel
theorem dX1_remove_56 : decode cX1_remove 56 = .ok (.putfield 28, 3) := by decide +kernel
theorem dX1_remove_59 : decode cX1_remove 59 = .ok (.return_, 1) := by decide +kernel
theorem dX1_copy_0 : decode cX1_copy 0 = .ok (.iconst 0, 1) := by decide +kernel
theorem dX1_copy_1 : decode cX1_copy 1 = .ok (.istore_n 2, 1) := by decide +kernel
theorem dX1_copy_2 : decode cX1_copy 2 = .ok (.iload_n 2, 1) := by decide +kernel
theorem dX1_copy_3 : decode cX1_copy 3 = .ok (.aload_n 1, 1) := by decide +kernel
theorem dX1_copy_4 : decode cX1_copy 4 = .ok (.getfield 28, 3) := by decide +kernel
theorem dX1_copy_7 : decode cX1_copy 7 = .ok (.if_icmp .ge 16, 3) := by decide +kernel
theorem dX1_copy_10 : decode cX1_copy 10 = .ok (.aload_n 0, 1) := by decide +kernel
theorem dX1_copy_11 : decode cX1_copy 11 = .ok (.aload_n 1, 1) := by decide +kernel
theorem dX1_copy_12 : decode cX1_copy 12 = .ok (.iload_n 2, 1) := by decide +kernel
theorem dX1_copy_13 : decode cX1_copy 13 = .ok (.iload_n 2, 1) := by decide +kernel
theorem dX1_copy_14 : decode cX1_copy 14 = .ok (.invokevirtual 44, 3) := by decide +kernel
theorem dX1_copy_17 : decode cX1_copy 17 = .ok (.iinc 2 1, 3) := by decide +kernel
theorem dX1_copy_20 : decode cX1_copy 20 = .ok (.goto (-18), 3) := by decide +kernel
theorem dX1_copy_23 : decode cX1_copy 23 = .ok (.aload_n 0, 1) := by decide +kernel
theorem dX1_copy_24 : decode cX1_copy 24 = .ok (.aload_n 1, 1) := by decide +kernel
theorem dX1_copy_25 : decode cX1_copy 25 = .ok (.getfield 28, 3) := by decide +kernel
theorem dX1_copy_28 : decode cX1_copy 28 = .ok (.putfield 28, 3) := by decide +kernel
theorem dX1_copy_31 : decode cX1_copy 31 = .ok (.return_, 1) := by decide +kernel
theorem dX1_used_0 : decode cX1_used 0 = .ok (.aload_n 0, 1) := by decide +kernel
theorem dX1_used_1 : decode cX1_used 1 = .ok (.getfield 15, 3) := by decide +kernel
theorem dX1_used_4 : decode cX1_used 4 = .ok (.iload_n 1, 1) := by decide +kernel
theorem dX1_used_5 : decode cX1_used 5 = .ok (.iaload, 1) := by decide +kernel
theorem dX1_used_6 : decode cX1_used 6 = .ok (.invokestatic 48, 3) := by decide +kernel
theorem dX1_used_9 : decode cX1_used 9 = .ok (.aload_n 0, 1) := by decide +kernel
theorem dX1_used_10 : decode cX1_used 10 = .ok (.getfield 18, 3) := by decide +kernel
theorem dX1_used_13 : decode cX1_used 13 = .ok (.iload_n 1, 1) := by decide +kernel
theorem dX1_used_14 : decode cX1_used 14 = .ok (.iaload, 1) := by decide +kernel
theorem dX1_used_15 : decode cX1_used 15 = .ok (.invokestatic 48, 3) := by decide +kernel
theorem dX1_used_18 : decode cX1_used 18 = .ok (.ior, 1) := by decide +kernel
theorem dX1_used_19 : decode cX1_used 19 = .ok (.ireturn, 1) := by decide +kernel
theorem dX1_takeOver_0 : decode cX1_takeOver 0 = .ok (.aload_n 0, 1) := by decide +kernel
theorem dX1_takeOver_1 : decode cX1_takeOver 1 = .ok (.getfield 9, 3) := by decide +kernel
theorem dX1_takeOver_4 : decode cX1_takeOver 4 = .ok (.iload_n 3, 1) := by decide +kernel
theorem dX1_takeOver_5 : decode cX1_takeOver 5 = .ok (.aload_n 1, 1) := by decide +kernel
theorem dX1_takeOver_6 : decode cX1_takeOver 6 = .ok (.getfield 9, 3) := by decide +kernel
theorem dX1_takeOver_9 : decode cX1_takeOver 9 = .ok (.iload_n 2, 1) := by decide +kernel
theorem dX1_takeOver_10 : decode cX1_takeOver 10 = .ok (.iaload, 1) := by decide +kernel
theorem dX1_takeOver_11 : decode cX1_takeOver 11 = .ok (.iastore, 1) := by decide +kernel
theorem dX1_takeOver_12 : decode cX1_takeOver 12 = .ok (.aload_n 0, 1) := by decide +kernel
theorem dX1_takeOver_13 : decode cX1_takeOver 13 = .ok (.getfield 15, 3) := by decide +kernel
theorem dX1_takeOver_16 : decode cX1_takeOver 16 = .ok (.iload_n 3, 1) := by decide +kernel
theorem dX1_takeOver_17 : decode cX1_takeOver 17 = .ok (.aload_n 1, 1) := by decide +kernel
theorem dX1_takeOver_18 : decode cX1_takeOver 18 = .ok (.getfield 15, 3) := by decide +kernel
theorem dX1_takeOver_21 : decode cX1_takeOver 21 = .ok (.iload_n 2, 1) := by decide +kernel
theorem dX1_takeOver_22 : decode cX1_takeOver 22 = .ok (.iaload, 1) := by decide +kernel
theorem dX1_takeOver_23 : decode cX1_takeOver 23 = .ok (.iastore, 1) := by decide +kernel
theorem dX1_takeOver_24 : decode cX1_takeOver 24 = .ok (.aload_n 0, 1) := by decide +kernel
theorem dX1_takeOver_25 : decode cX1_takeOver 25 = .ok (.getfield 18, 3) := by decide +kernel
theorem dX1_takeOver_28 : decode cX1_takeOver 28 = .ok (.iload_n 3, 1) := by decide +kernel
theorem dX1_takeOver_29 : decode cX1_takeOver 29 = .ok (.aload_n 1, 1) := by decide +kernel
theorem dX1_takeOver_30 : decode cX1_takeOver 30 = .ok (.getfield 18, 3) := by decide +kernel
theorem dX1_takeOver_33 : decode cX1_takeOver 33 = .ok (.iload_n 2, 1) := by decide +kernel
theorem dX1_takeOver_34 : decode cX1_takeOver 34 = .ok (.iaload, 1) := by decide +kernel
theorem dX1_takeOver_35 : decode cX1_takeOver 35 = .ok (.iastore, 1) := by decide +kernel
theorem dX1_takeOver_36 : decode cX1_takeOver 36 = .ok (.aload_n 0, 1) := by decide +kernel
theorem dX1_takeOver_37 : decode cX1_takeOver 37 = .ok (.getfield 21, 3) := by decide +kernel
theorem dX1_takeOver_40 : decode cX1_takeOver 40 = .ok (.iload_n 3, 1) := by decide +kernel
theorem dX1_takeOver_41 : decode cX1_takeOver 41 = .ok (.aload_n 1, 1) := by decide +kernel
theorem dX1_takeOver_42 : decode cX1_takeOver 42 = .ok (.getfield 21, 3) := by decide +kernel
theorem dX1_takeOver_45 : decode cX1_takeOver 45 = .ok (.iload_n 2, 1) := by decide +kernel
theorem dX1_takeOver_46 : decode cX1_takeOver 46 = .ok (.iaload, 1) := by decide +kernel
theorem dX1_takeOver_47 : decode cX1_takeOver 47 = .ok (.iastore, 1) := by decide +kernel
theorem dX1_takeOver_48 : decode cX1_takeOver 48 = .ok (.aload_n 0, 1) := by decide +kernel
theorem dX1_takeOver_49 : decode cX1_takeOver 49 = .ok (.getfield 24, 3) := by decide +kernel
theorem dX1_takeOver_52 : decode cX1_takeOver 52 = .ok (.iload_n 3, 1) := by decide +kernel
theorem dX1_takeOver_53 : decode cX1_takeOver 53 = .ok (.aload_n 1, 1) := by decide +kernel
theorem dX1_takeOver_54 : decode cX1_takeOver 54 = .ok (.getfield 24, 3) := by decide +kernel
theorem dX1_takeOver_57 : decode cX1_takeOver 57 = .ok (.iload_n 2, 1) := by decide +kernel
theorem dX1_takeOver_58 : decode cX1_takeOver 58 = .ok (.baload, 1) := by decide +kernel
theorem dX1_takeOver_59 : decode cX1_takeOver 59 = .ok (.bastore, 1) := by decide +kernel
theorem dX1_takeOver_60 : decode cX1_takeOver 60 = .ok (.return_, 1) := by decide +kernel
theorem dX2_init_0 : decode cX2_init 0 = .ok (.aload_n 0, 1) := by decide +kernel
theorem dX2_init_1 : decode cX2_init 1 = .ok (.invokespecial 3, 3) := by decide +kernel
theorem dX2_init_4 : decode cX2_init 4 = .ok (.aload_n 0, 1) := by decide +kernel
theorem dX2_init_5 : decode cX2_init 5 = .ok (.bipush 30, 2) := by decide +kernel
theorem dX2_init_7 : decode cX2_init 7 = .ok (.newarray .int, 2) := by decide +kernel
theorem dX2_init_9 : decode cX2_init 9 = .ok (.putfield 9, 3) := by decide +kernel
theorem dX2_init_12 : decode cX2_init 12 = .ok (.aload_n 0, 1) := by decide +kernel
theorem dX2_init_13 : decode cX2_init 13 = .ok (.bipush 30, 2) := by decide +kernel
theorem dX2_init_15 : decode cX2_init 15 = .ok (.newarray .int, 2) := by decide +kernel
theorem dX2_init_17 : decode cX2_init 17 = .ok (.putfield 15, 3) := by decide +kernel
theorem dX2_init_20 : decode cX2_init 20 = .ok (.aload_n 0, 1) := by decide +kernel
theorem dX2_init_21 : decode cX2_init 21 = .ok (.bipush 16, 2) := by decide +kernel
theorem dX2_init_23 : decode cX2_init 23 = .ok (.newarray .int, 2) := by decide +kernel
theorem dX2_init_25 : decode cX2_init 25 = .ok (.putfield 18, 3) := by decide +kernel
theorem dX2_init_28 : decode cX2_init 28 = .ok (.aload_n 0, 1) := by decide +kernel
theorem dX2_init_29 : decode cX2_init 29 = .ok (.bipush 16, 2) := by decide +kernel
theorem dX2_init_31 : decode cX2_init 31 = .ok (.newarray .int, 2) := by decide +kernel
theorem dX2_init_33 : decode cX2_init 33 = .ok (.putfield 21, 3) := by decide +kernel
theorem dX2_init_36 : decode cX2_init 36 = .ok (.aload_n 0, 1) := by decide +kernel
theorem dX2_init_37 : decode cX2_init 37 = .ok (.bipush 16, 2) := by decide +kernel
theorem dX2_init_39 : decode cX2_init 39 = .ok (.newarray .int, 2) := by decide +kernel
theorem dX2_init_41 : decode cX2_init 41 = .ok (.putfield 24, 3) := by decide +kernel
theorem dX2_init_44 : decode cX2_init 44 = .ok (.aload_n 0, 1) := by decide +kernel
theorem dX2_init_45 : decode cX2_init 45 = .ok (.iconst 0, 1) := by decide +kernel
theorem dX2_init_46 : decode cX2_init 46 = .ok (.putfield 27, 3) := by decide +kernel
theorem dX2_init_49 : decode cX2_init 49 = .ok (.aload_n 0, 1) := by decide +kernel
theorem dX2_init_50 : decode cX2_init 50 = .ok (.iconst 0, 1) := by decide +kernel
theorem dX2_init_51 : decode cX2_init 51 = .ok (.putfield 31, 3) := by decide +kernel
theorem dX2_init_54 : decode cX2_init 54 = .ok (.return_, 1) := by decide +kernel
theorem dX2_make_0 : decode cX2_make 0 = .ok (.aload_n 0, 1) := by decide +kernel
theorem dX2_make_1 : decode cX2_make 1 = .ok (.getfield 18, 3) := by decide +kernel
theorem dX2_make_4 : decode cX2_make 4 = .ok (.iconst 0, 1) := by decide +kernel
theorem dX2_make_5 : decode cX2_make 5 = .ok (.invokestatic 34, 3) := by decide +kernel
theorem dX2_make_8 : decode cX2_make 8 = .ok (.aload_n 0, 1) := by decide +kernel
theorem dX2_make_9 : decode cX2_make 9 = .ok (.getfield 21, 3) := by decide +kernel
theorem dX2_make_12 : decode cX2_make 12 = .ok (.iconst 0, 1) := by decide +kernel
theorem dX2_make_13 : decode cX2_make 13 = .ok (.invokestatic 34, 3) := by decide +kernel
theorem dX2_make_16 : decode cX2_make 16 = .ok (.aload_n 0, 1) := by decide +kernel
theorem dX2_make_17 : decode cX2_make 17 = .ok (.getfield 24, 3) := by decide +kernel
theorem dX2_make_20 : decode cX2_make 20 = .ok (.iconst 0, 1) := by decide +kernel
theorem dX2_make_21 : decode cX2_make 21 = .ok (.invokestatic 34, 3) := by decide +kernel
theorem dX2_make_24 : decode cX2_make 24 = .ok (.aload_n 0, 1) := by decide +kernel
theorem dX2_make_25 : decode cX2_make 25 = .ok (.iload_n 2, 1) := by decide +kernel
theorem dX2_make_26 : decode cX2_make 26 = .ok (.putfield 31, 3) := by decide +kernel
theorem dX2_make_29 : decode cX2_make 29 = .ok (.aload_n 0, 1) := by decide +kernel
theorem dX2_make_30 : decode cX2_make 30 = .ok (.aload_n 1, 1) := by decide +kernel
theorem dX2_make_31 : decode cX2_make 31 = .ok (.iload_n 2, 1) := by decide +kernel
theorem dX2_make_32 : decode cX2_make 32 = .ok (.invokevirtual 40, 3) := by decide +kernel
theorem dX2_make_35 : decode cX2_make 35 = .ok (.iconst 0, 1) := by decide +kernel
theorem dX2_make_36 : decode cX2_make 36 = .ok (.istore_n 3, 1) := by decide +kernel
theorem dX2_make_37 : decode cX2_make 37 = .ok (.iload_n 3, 1) := by decide +kernel
theorem dX2_make_38 : decode cX2_make 38 = .ok (.bipush 16, 2) := by decide +kernel
theorem dX2_make_40 : decode cX2_make 40 = .ok (.if_icmp .ge 29, 3) := by decide +kernel
theorem dX2_make_43 : decode cX2_make 43 = .ok (.aload_n 0, 1) := by decide +kernel
theorem dX2_make_44 : decode cX2_make 44 = .ok (.getfield 27, 3) := by decide +kernel
theorem dX2_make_47 : decode cX2_make 47 = .ok (.iload_n 3, 1) := by decide +kernel
theorem dX2_make_48 : decode cX2_make 48 = .ok (.invokestatic 44, 3) := by decide +kernel
theorem dX2_make_51 : decode cX2_make 51 = .ok (.ifCond .eq 12, 3) := by decide +kernel
theorem dX2_make_54 : decode cX2_make 54 = .ok (.aload_n 0, 1) := by decide +kernel
theorem dX2_make_55 : decode cX2_make 55 = .ok (.iload_n 3, 1) := by decide +kernel
theorem dX2_make_56 : decode cX2_make 56 = .ok (.aload_n 0, 1) := by decide +kernel
theorem dX2_make_57 : decode cX2_make 57 = .ok (.getfield 27, 3) := by decide +kernel
theorem dX2_make_60 : decode cX2_make 60 = .ok (.invokevirtual 48, 3) := by decide +kernel
theorem dX2_make_63 : decode cX2_make 63 = .ok (.iinc 3 1, 3) := by decide +kernel
theorem dX2_make_66 : decode cX2_make 66 = .ok (.goto (-29), 3) := by decide +kernel
theorem dX2_make_69 : decode cX2_make 69 = .ok (.iconst 0, 1) := by decide +kernel
theorem dX2_make_70 : decode cX2_make 70 = .ok (.istore_n 3, 1) := by decide +kernel
theorem dX2_make_71 : decode cX2_make 71 = .ok (.iload_n 3, 1) := by decide +kernel
theorem dX2_make_72 : decode cX2_make 72 = .ok (.aload_n 1, 1) := by decide +kernel
theorem dX2_make_73 : decode cX2_make 73 = .ok (.getfield 52, 3) := by decide +kernel
theorem dX2_make_76 : decode cX2_make 76 = .ok (.if_icmp .ge 15, 3) := by decide +kernel
theorem dX2_make_79 : decode cX2_make 79 = .ok (.aload_n 0, 1) := by decide +kernel
theorem dX2_make_80 : decode cX2_make 80 = .ok (.aload_n 1, 1) := by decide +kernel
theorem dX2_make_81 : decode cX2_make 81 = .ok (.iload_n 3, 1) := by decide +kernel
theorem dX2_make_82 : decode cX2_make 82 = .ok (.invokevirtual 57, 3) := by decide +kernel
theorem dX2_make_85 : decode cX2_make 85 = .ok (.iinc 3 1, 3) := by decide +kernel
theorem dX2_make_88 : decode cX2_make 88 = .ok (.goto (-17), 3) := by decide +kernel
theorem dX2_make_91 : decode cX2_make 91 = .ok (.return_, 1) := by decide +kernel
theorem dX2_pairsOfClashes_0 : decode cX2_pairsOfClashes 0 = .ok (.iconst 0, 1) := by decide +kernel
theorem dX2_pairsOfClashes_1 : decode cX2_pairsOfClashes 1 = .ok (.istore_n 1, 1) := by decide +kernel
theorem dX2_pairsOfClashes_2 : decode cX2_pairsOfClashes 2 = .ok (.iconst 0, 1) := by decide +kernel
theorem dX2_pairsOfClashes_3 : decode cX2_pairsOfClashes 3 = .ok (.istore_n 2, 1) := by decide +kernel
theorem dX2_pairsOfClashes_4 : decode cX2_pairsOfClashes 4 = .ok (.iload_n 2, 1) := by decide +kernel
theorem dX2_pairsOfClashes_5 : decode cX2_pairsOfClashes 5 = .ok (.bipush 16, 2) := by decide +kernel
theorem dX2_pairsOfClashes_7 : decode cX2_pairsOfClashes 7 = .ok (.if_icmp .ge 21, 3) := by decide +kernel
theorem dX2_pairsOfClashes_10 : decode cX2_pairsOfClashes 10 = .ok (.iload_n 1, 1) := by decide +kernel
theorem dX2_pairsOfClashes_11 : decode cX2_pairsOfClashes 11 = .ok (.aload_n 0, 1) := by decide +kernel
theorem dX2_pairsOfClashes_12 : decode cX2_pairsOfClashes 12 = .ok (.getfield 18, 3) := by decide +kernel
theorem dX2_pairsOfClashes_15 : decode cX2_pairsOfClashes 15 = .ok (.iload_n 2, 1) := by decide +kernel
theorem dX2_pairsOfClashes_16 : decode cX2_pairsOfClashes 16 = .ok (.iaload, 1) := by decide +kernel
theorem dX2_pairsOfClashes_17 : decode cX2_pairsOfClashes 17 = .ok (.invokestatic 60, 3) := by decide +kernel
theorem dX2_pairsOfClashes_20 : decode cX2_pairsOfClashes 20 = .ok (.iadd, 1) := by decide +kernel
theorem dX2_pairsOfClashes_21 : decode cX2_pairsOfClashes 21 = .ok (.istore_n 1, 1) := by decide +kernel
theorem dX2_pairsOfClashes_22 : decode cX2_pairsOfClashes 22 = .ok (.iinc 2 1, 3) := by decide +kernel
theorem dX2_pairsOfClashes_25 : decode cX2_pairsOfClashes 25 = .ok (.goto (-21), 3) := by decide +kernel
theorem dX2_pairsOfClashes_28 : decode cX2_pairsOfClashes 28 = .ok (.iload_n 1, 1) := by decide +kernel
theorem dX2_pairsOfClashes_29 : decode cX2_pairsOfClashes 29 = .ok (.iconst 1, 1) := by decide +kernel
theorem dX2_pairsOfClashes_30 : decode cX2_pairsOfClashes 30 = .ok (.ishr, 1) := by decide +kernel
theorem dX2_pairsOfClashes_31 : decode cX2_pairsOfClashes 31 = .ok (.ireturn, 1) := by decide +kernel
theorem dX2_costOf_0 : decode cX2_costOf 0 = .ok (.iconst 0, 1) := by decide +kernel
theorem dX2_costOf_1 : decode cX2_costOf 1 = .ok (.istore_n 2, 1) := by decide +kernel
theorem dX2_costOf_2 : decode cX2_costOf 2 = .ok (.iconst 0, 1) := by decide +kernel
theorem dX2_costOf_3 : decode cX2_costOf 3 = .ok (.istore_n 3, 1) := by decide +kernel
theorem dX2_costOf_4 : decode cX2_costOf 4 = .ok (.iload_n 3, 1) := by decide +kernel
theorem dX2_costOf_5 : decode cX2_costOf 5 = .ok (.bipush 16, 2) := by decide +kernel
theorem dX2_costOf_7 : decode cX2_costOf 7 = .ok (.if_icmp .ge 26, 3) := by decide +kernel
theorem dX2_costOf_10 : decode cX2_costOf 10 = .ok (.iload_n 1, 1) := by decide +kernel
theorem dX2_costOf_11 : decode cX2_costOf 11 = .ok (.iload_n 3, 1) := by decide +kernel
theorem dX2_costOf_12 : decode cX2_costOf 12 = .ok (.invokestatic 44, 3) := by decide +kernel
theorem dX2_costOf_15 : decode cX2_costOf 15 = .ok (.ifCond .eq 12, 3) := by decide +kernel
theorem dX2_costOf_18 : decode cX2_costOf 18 = .ok (.iload_n 2, 1) := by decide +kernel
theorem dX2_costOf_19 : decode cX2_costOf 19 = .ok (.aload_n 0, 1) := by decide +kernel
theorem dX2_costOf_20 : decode cX2_costOf 20 = .ok (.getfield 24, 3) := by decide +kernel
theorem dX2_costOf_23 : decode cX2_costOf 23 = .ok (.iload_n 3, 1) := by decide +kernel
theorem dX2_costOf_24 : decode cX2_costOf 24 = .ok (.iaload, 1) := by decide +kernel
theorem dX2_costOf_25 : decode cX2_costOf 25 = .ok (.iadd, 1) := by decide +kernel
theorem dX2_costOf_26 : decode cX2_costOf 26 = .ok (.istore_n 2, 1) := by decide +kernel
theorem dX2_costOf_27 : decode cX2_costOf 27 = .ok (.iinc 3 1, 3) := by decide +kernel
theorem dX2_costOf_30 : decode cX2_costOf 30 = .ok (.goto (-26), 3) := by decide +kernel
theorem dX2_costOf_33 : decode cX2_costOf 33 = .ok (.iload_n 2, 1) := by decide +kernel
theorem dX2_costOf_34 : decode cX2_costOf 34 = .ok (.ireturn, 1) := by decide +kernel
theorem dX2_findLives_0 : decode cX2_findLives 0 = .ok (.iload_n 2, 1) := by decide +kernel
theorem dX2_findLives_1 : decode cX2_findLives 1 = .ok (.istore_n 3, 1) := by decide +kernel
theorem dX2_findLives_2 : decode cX2_findLives 2 = .ok (.aload_n 1, 1) := by decide +kernel
theorem dX2_findLives_3 : decode cX2_findLives 3 = .ok (.getfield 52, 3) := by decide +kernel
theorem dX2_findLives_6 : decode cX2_findLives 6 = .ok (.iconst 1, 1) := by decide +kernel
theorem dX2_findLives_7 : decode cX2_findLives 7 = .ok (.isub, 1) := by decide +kernel
theorem dX2_findLives_8 : decode cX2_findLives 8 = .ok (.istore 4, 2) := by decide +kernel
theorem dX2_findLives_10 : decode cX2_findLives 10 = .ok (.iload 4, 2) := by decide +kernel
theorem dX2_findLives_12 : decode cX2_findLives 12 = .ok (.ifCond .lt 47, 3) := by decide +kernel
theorem dX2_findLives_15 : decode cX2_findLives 15 = .ok (.aload_n 0, 1) := by decide +kernel
theorem dX2_findLives_16 : decode cX2_findLives 16 = .ok (.getfield 9, 3) := by decide +kernel
theorem dX2_findLives_19 : decode cX2_findLives 19 = .ok (.iload 4, 2) := by decide +kernel
theorem dX2_findLives_21 : decode cX2_findLives 21 = .ok (.iload_n 3, 1) := by decide +kernel
theorem dX2_findLives_22 : decode cX2_findLives 22 = .ok (.iastore, 1) := by decide +kernel
theorem dX2_findLives_23 : decode cX2_findLives 23 = .ok (.aload_n 1, 1) := by decide +kernel
theorem dX2_findLives_24 : decode cX2_findLives 24 = .ok (.iload 4, 2) := by decide +kernel
theorem dX2_findLives_26 : decode cX2_findLives 26 = .ok (.invokevirtual 66, 3) := by decide +kernel
theorem dX2_findLives_29 : decode cX2_findLives 29 = .ok (.iload_n 3, 1) := by decide +kernel
theorem dX2_findLives_30 : decode cX2_findLives 30 = .ok (.aload_n 1, 1) := by decide +kernel
theorem dX2_findLives_31 : decode cX2_findLives 31 = .ok (.getfield 69, 3) := by decide +kernel
theorem dX2_findLives_34 : decode cX2_findLives 34 = .ok (.iload 4, 2) := by decide +kernel
theorem dX2_findLives_36 : decode cX2_findLives 36 = .ok (.iaload, 1) := by decide +kernel
theorem dX2_findLives_37 : decode cX2_findLives 37 = .ok (.invokestatic 72, 3) := by decide +kernel
theorem dX2_findLives_40 : decode cX2_findLives 40 = .ok (.iconst (-1), 1) := by decide +kernel
theorem dX2_findLives_41 : decode cX2_findLives 41 = .ok (.ixor, 1) := by decide +kernel
theorem dX2_findLives_42 : decode cX2_findLives 42 = .ok (.iand, 1) := by decide +kernel
theorem dX2_findLives_43 : decode cX2_findLives 43 = .ok (.ior, 1) := by decide +kernel
theorem dX2_findLives_44 : decode cX2_findLives 44 = .ok (.istore_n 3, 1) := by decide +kernel
theorem dX2_findLives_45 : decode cX2_findLives 45 = .ok (.aload_n 0, 1) := by decide +kernel
theorem dX2_findLives_46 : decode cX2_findLives 46 = .ok (.getfield 15, 3) := by decide +kernel
theorem dX2_findLives_49 : decode cX2_findLives 49 = .ok (.iload 4, 2) := by decide +kernel
theorem dX2_findLives_51 : decode cX2_findLives 51 = .ok (.iload_n 3, 1) := by decide +kernel
theorem dX2_findLives_52 : decode cX2_findLives 52 = .ok (.iastore, 1) := by decide +kernel
theorem dX2_findLives_53 : decode cX2_findLives 53 = .ok (.iinc 4 (-1), 3) := by decide +kernel
theorem dX2_findLives_56 : decode cX2_findLives 56 = .ok (.goto (-46), 3) := by decide +kernel
theorem dX2_findLives_59 : decode cX2_findLives 59 = .ok (.aload_n 0, 1) := by decide +kernel
theorem dX2_findLives_60 : decode cX2_findLives 60 = .ok (.iload_n 3, 1) := by decide +kernel
theorem dX2_findLives_61 : decode cX2_findLives 61 = .ok (.putfield 27, 3) := by decide +kernel
theorem dX2_findLives_64 : decode cX2_findLives 64 = .ok (.return_, 1) := by decide +kernel
theorem dX2_takeIn_0 : decode cX2_takeIn 0 = .ok (.aload_n 1, 1) := by decide +kernel
theorem dX2_takeIn_1 : decode cX2_takeIn 1 = .ok (.getfield 69, 3) := by decide +kernel
theorem dX2_takeIn_4 : decode cX2_takeIn 4 = .ok (.iload_n 2, 1) := by decide +kernel
theorem dX2_takeIn_5 : decode cX2_takeIn 5 = .ok (.iaload, 1) := by decide +kernel
theorem dX2_takeIn_6 : decode cX2_takeIn 6 = .ok (.istore_n 3, 1) := by decide +kernel
theorem dX2_takeIn_7 : decode cX2_takeIn 7 = .ok (.aload_n 0, 1) := by decide +kernel
theorem dX2_takeIn_8 : decode cX2_takeIn 8 = .ok (.dup, 1) := by decide +kernel
theorem dX2_takeIn_9 : decode cX2_takeIn 9 = .ok (.getfield 31, 3) := by decide +kernel
theorem dX2_takeIn_12 : decode cX2_takeIn 12 = .ok (.iload_n 3, 1) := by decide +kernel
theorem dX2_takeIn_13 : decode cX2_takeIn 13 = .ok (.invokestatic 72, 3) := by decide +kernel
theorem dX2_takeIn_16 : decode cX2_takeIn 16 = .ok (.aload_n 1, 1) := by decide +kernel
theorem dX2_takeIn_17 : decode cX2_takeIn 17 = .ok (.iload_n 2, 1) := by decide +kernel
theorem dX2_takeIn_18 : decode cX2_takeIn 18 = .ok (.invokevirtual 66, 3) := by decide +kernel
theorem dX2_takeIn_21 : decode cX2_takeIn 21 = .ok (.ior, 1) := by decide +kernel
theorem dX2_takeIn_22 : decode cX2_takeIn 22 = .ok (.ior, 1) := by decide +kernel
theorem dX2_takeIn_23 : decode cX2_takeIn 23 = .ok (.putfield 31, 3) := by decide +kernel
theorem dX2_takeIn_26 : decode cX2_takeIn 26 = .ok (.aload_n 0, 1) := by decide +kernel
theorem dX2_takeIn_27 : decode cX2_takeIn 27 = .ok (.iload_n 3, 1) := by decide +kernel
theorem dX2_takeIn_28 : decode cX2_takeIn 28 = .ok (.aload_n 1, 1) := by decide +kernel
theorem dX2_takeIn_29 : decode cX2_takeIn 29 = .ok (.getfield 75, 3) := by decide +kernel
theorem dX2_takeIn_32 : decode cX2_takeIn 32 = .ok (.iload_n 2, 1) := by decide +kernel
theorem dX2_takeIn_33 : decode cX2_takeIn 33 = .ok (.iaload, 1) := by decide +kernel
theorem dX2_takeIn_34 : decode cX2_takeIn 34 = .ok (.invokevirtual 78, 3) := by decide +kernel
theorem dX2_takeIn_37 : decode cX2_takeIn 37 = .ok (.aload_n 0, 1) := by decide +kernel
theorem dX2_takeIn_38 : decode cX2_takeIn 38 = .ok (.aload_n 1, 1) := by decide +kernel
theorem dX2_takeIn_39 : decode cX2_takeIn 39 = .ok (.getfield 81, 3) := by decide +kernel
theorem dX2_takeIn_42 : decode cX2_takeIn 42 = .ok (.iload_n 2, 1) := by decide +kernel
theorem dX2_takeIn_43 : decode cX2_takeIn 43 = .ok (.iaload, 1) := by decide +kernel
theorem dX2_takeIn_44 : decode cX2_takeIn 44 = .ok (.aload_n 1, 1) := by decide +kernel
theorem dX2_takeIn_45 : decode cX2_takeIn 45 = .ok (.getfield 75, 3) := by decide +kernel
theorem dX2_takeIn_48 : decode cX2_takeIn 48 = .ok (.iload_n 2, 1) := by decide +kernel
theorem dX2_takeIn_49 : decode cX2_takeIn 49 = .ok (.iaload, 1) := by decide +kernel
theorem dX2_takeIn_50 : decode cX2_takeIn 50 = .ok (.invokevirtual 78, 3) := by decide +kernel
theorem dX2_takeIn_53 : decode cX2_takeIn 53 = .ok (.aload_n 0, 1) := by decide +kernel
theorem dX2_takeIn_54 : decode cX2_takeIn 54 = .ok (.aload_n 1, 1) := by decide +kernel
theorem dX2_takeIn_55 : decode cX2_takeIn 55 = .ok (.getfield 84, 3) := by decide +kernel
theorem dX2_takeIn_58 : decode cX2_takeIn 58 = .ok (.iload_n 2, 1) := by decide +kernel
theorem dX2_takeIn_59 : decode cX2_takeIn 59 = .ok (.iaload, 1) := by decide +kernel
theorem dX2_takeIn_60 : decode cX2_takeIn 60 = .ok (.aload_n 1, 1) := by decide +kernel
theorem dX2_takeIn_61 : decode cX2_takeIn 61 = .ok (.getfield 75, 3) := by decide +kernel
theorem dX2_takeIn_64 : decode cX2_takeIn 64 = .ok (.iload_n 2, 1) := by decide +kernel
theorem dX2_takeIn_65 : decode cX2_takeIn 65 = .ok (.iaload, 1) := by decide +kernel
theorem dX2_takeIn_66 : decode cX2_takeIn 66 = .ok (.invokevirtual 78, 3) := by decide +kernel
theorem dX2_takeIn_69 : decode cX2_takeIn 69 = .ok (.aload_n 1, 1) := by decide +kernel
theorem dX2_takeIn_70 : decode cX2_takeIn 70 = .ok (.getfield 87, 3) := by decide +kernel
theorem dX2_takeIn_73 : decode cX2_takeIn 73 = .ok (.iload_n 2, 1) := by decide +kernel
theorem dX2_takeIn_74 : decode cX2_takeIn 74 = .ok (.baload, 1) := by decide +kernel
theorem dX2_takeIn_75 : decode cX2_takeIn 75 = .ok (.ifCond .eq 40, 3) := by decide +kernel
theorem dX2_takeIn_78 : decode cX2_takeIn 78 = .ok (.aload_n 0, 1) := by decide +kernel
theorem dX2_takeIn_79 : decode cX2_takeIn 79 = .ok (.iload_n 3, 1) := by decide +kernel
theorem dX2_takeIn_80 : decode cX2_takeIn 80 = .ok (.aload_n 1, 1) := by decide +kernel
theorem dX2_takeIn_81 : decode cX2_takeIn 81 = .ok (.getfield 81, 3) := by decide +kernel
theorem dX2_takeIn_84 : decode cX2_takeIn 84 = .ok (.iload_n 2, 1) := by decide +kernel
theorem dX2_takeIn_85 : decode cX2_takeIn 85 = .ok (.iaload, 1) := by decide +kernel
theorem dX2_takeIn_86 : decode cX2_takeIn 86 = .ok (.invokevirtual 91, 3) := by decide +kernel
theorem dX2_takeIn_89 : decode cX2_takeIn 89 = .ok (.aload_n 0, 1) := by decide +kernel
theorem dX2_takeIn_90 : decode cX2_takeIn 90 = .ok (.iload_n 3, 1) := by decide +kernel
theorem dX2_takeIn_91 : decode cX2_takeIn 91 = .ok (.aload_n 0, 1) := by decide +kernel
theorem dX2_takeIn_92 : decode cX2_takeIn 92 = .ok (.getfield 9, 3) := by decide +kernel
theorem dX2_takeIn_95 : decode cX2_takeIn 95 = .ok (.iload_n 2, 1) := by decide +kernel
theorem dX2_takeIn_96 : decode cX2_takeIn 96 = .ok (.iaload, 1) := by decide +kernel
theorem dX2_takeIn_97 : decode cX2_takeIn 97 = .ok (.aload_n 1, 1) := by decide +kernel
theorem dX2_takeIn_98 : decode cX2_takeIn 98 = .ok (.getfield 81, 3) := by decide +kernel
theorem dX2_takeIn_101 : decode cX2_takeIn 101 = .ok (.iload_n 2, 1) := by decide +kernel
theorem dX2_takeIn_102 : decode cX2_takeIn 102 = .ok (.iaload, 1) := by decide +kernel
theorem dX2_takeIn_103 : decode cX2_takeIn 103 = .ok (.invokestatic 72, 3) := by decide +kernel
theorem dX2_takeIn_106 : decode cX2_takeIn 106 = .ok (.iconst (-1), 1) := by decide +kernel
theorem dX2_takeIn_107 : decode cX2_takeIn 107 = .ok (.ixor, 1) := by decide +kernel
theorem dX2_takeIn_108 : decode cX2_takeIn 108 = .ok (.iand, 1) := by decide +kernel
theorem dX2_takeIn_109 : decode cX2_takeIn 109 = .ok (.invokevirtual 48, 3) := by decide +kernel
theorem dX2_takeIn_112 : decode cX2_takeIn 112 = .ok (.goto 14, 3) := by decide +kernel
theorem dX2_takeIn_115 : decode cX2_takeIn 115 = .ok (.aload_n 0, 1) := by decide +kernel
theorem dX2_takeIn_116 : decode cX2_takeIn 116 = .ok (.iload_n 3, 1) := by decide +kernel
theorem dX2_takeIn_117 : decode cX2_takeIn 117 = .ok (.aload_n 0, 1) := by decide +kernel
theorem dX2_takeIn_118 : decode cX2_takeIn 118 = .ok (.getfield 9, 3) := by decide +kernel
theorem dX2_takeIn_121 : decode cX2_takeIn 121 = .ok (.iload_n 2, 1) := by decide +kernel
theorem dX2_takeIn_122 : decode cX2_takeIn 122 = .ok (.iaload, 1) := by decide +kernel
theorem dX2_takeIn_123 : decode cX2_takeIn 123 = .ok (.invokevirtual 48, 3) := by decide +kernel
theorem dX2_takeIn_126 : decode cX2_takeIn 126 = .ok (.return_, 1) := by decide +kernel
theorem dX2_addCost_0 : decode cX2_addCost 0 = .ok (.iload_n 1, 1) := by decide +kernel
theorem dX2_addCost_1 : decode cX2_addCost 1 = .ok (.invokestatic 94, 3) := by decide +kernel
theorem dX2_addCost_4 : decode cX2_addCost 4 = .ok (.ifCond .eq 13, 3) := by decide +kernel
theorem dX2_addCost_7 : decode cX2_addCost 7 = .ok (.aload_n 0, 1) := by decide +kernel
theorem dX2_addCost_8 : decode cX2_addCost 8 = .ok (.getfield 24, 3) := by decide +kernel
theorem dX2_addCost_11 : decode cX2_addCost 11 = .ok (.iload_n 1, 1) := by decide +kernel
theorem dX2_addCost_12 : decode cX2_addCost 12 = .ok (.dup2, 1) := by decide +kernel
theorem dX2_addCost_13 : decode cX2_addCost 13 = .ok (.iaload, 1) := by decide +kernel
theorem dX2_addCost_14 : decode cX2_addCost 14 = .ok (.iload_n 2, 1) := by decide +kernel
theorem dX2_addCost_15 : decode cX2_addCost 15 = .ok (.iadd, 1) := by decide +kernel
theorem dX2_addCost_16 : decode cX2_addCost 16 = .ok (.iastore, 1) := by decide +kernel
theorem dX2_addCost_17 : decode cX2_addCost 17 = .ok (.return_, 1) := by decide +kernel
theorem dX2_addPoured_0 : decode cX2_addPoured 0 = .ok (.iload_n 1, 1) := by decide +kernel
theorem dX2_addPoured_1 : decode cX2_addPoured 1 = .ok (.invokestatic 94, 3) := by decide +kernel
theorem dX2_addPoured_4 : decode cX2_addPoured 4 = .ok (.ifCond .eq 36, 3) := by decide +kernel
theorem dX2_addPoured_7 : decode cX2_addPoured 7 = .ok (.iload_n 2, 1) := by decide +kernel
theorem dX2_addPoured_8 : decode cX2_addPoured 8 = .ok (.invokestatic 94, 3) := by decide +kernel
theorem dX2_addPoured_11 : decode cX2_addPoured 11 = .ok (.ifCond .eq 29, 3) := by decide +kernel
theorem dX2_addPoured_14 : decode cX2_addPoured 14 = .ok (.aload_n 0, 1) := by decide +kernel
theorem dX2_addPoured_15 : decode cX2_addPoured 15 = .ok (.getfield 21, 3) := by decide +kernel
theorem dX2_addPoured_18 : decode cX2_addPoured 18 = .ok (.iload_n 1, 1) := by decide +kernel
theorem dX2_addPoured_19 : decode cX2_addPoured 19 = .ok (.dup2, 1) := by decide +kernel
theorem dX2_addPoured_20 : decode cX2_addPoured 20 = .ok (.iaload, 1) := by decide +kernel
theorem dX2_addPoured_21 : decode cX2_addPoured 21 = .ok (.iload_n 2, 1) := by decide +kernel
theorem dX2_addPoured_22 : decode cX2_addPoured 22 = .ok (.invokestatic 72, 3) := by decide +kernel
theorem dX2_addPoured_25 : decode cX2_addPoured 25 = .ok (.ior, 1) := by decide +kernel
theorem dX2_addPoured_26 : decode cX2_addPoured 26 = .ok (.iastore, 1) := by decide +kernel
theorem dX2_addPoured_27 : decode cX2_addPoured 27 = .ok (.aload_n 0, 1) := by decide +kernel
theorem dX2_addPoured_28 : decode cX2_addPoured 28 = .ok (.getfield 21, 3) := by decide +kernel
theorem dX2_addPoured_31 : decode cX2_addPoured 31 = .ok (.iload_n 2, 1) := by decide +kernel
theorem dX2_addPoured_32 : decode cX2_addPoured 32 = .ok (.dup2, 1) := by decide +kernel
theorem dX2_addPoured_33 : decode cX2_addPoured 33 = .ok (.iaload, 1) := by decide +kernel
theorem dX2_addPoured_34 : decode cX2_addPoured 34 = .ok (.iload_n 1, 1) := by decide +kernel
theorem dX2_addPoured_35 : decode cX2_addPoured 35 = .ok (.invokestatic 72, 3) := by decide +kernel
theorem dX2_addPoured_38 : decode cX2_addPoured 38 = .ok (.ior, 1) := by decide +kernel
theorem dX2_addPoured_39 : decode cX2_addPoured 39 = .ok (.iastore, 1) := by decide +kernel
theorem dX2_addPoured_40 : decode cX2_addPoured 40 = .ok (.return_, 1) := by decide +kernel
theorem dX2_addClashes_0 : decode cX2_addClashes 0 = .ok (.iload_n 1, 1) := by decide +kernel
theorem dX2_addClashes_1 : decode cX2_addClashes 1 = .ok (.invokestatic 94, 3) := by decide +kernel
theorem dX2_addClashes_4 : decode cX2_addClashes 4 = .ok (.ifCond .ne 4, 3) := by decide +kernel
theorem dX2_addClashes_7 : decode cX2_addClashes 7 = .ok (.return_, 1) := by decide +kernel
theorem dX2_addClashes_8 : decode cX2_addClashes 8 = .ok (.iload_n 2, 1) := by decide +kernel
theorem dX2_addClashes_9 : decode cX2_addClashes 9 = .ok (.iload_n 1, 1) := by decide +kernel
theorem dX2_addClashes_10 : decode cX2_addClashes 10 = .ok (.invokestatic 72, 3) := by decide +kernel
theorem dX2_addClashes_13 : decode cX2_addClashes 13 = .ok (.iconst (-1), 1) := by decide +kernel
theorem dX2_addClashes_14 : decode cX2_addClashes 14 = .ok (.ixor, 1) := by decide +kernel
theorem dX2_addClashes_15 : decode cX2_addClashes 15 = .ok (.iand, 1) := by decide +kernel
theorem dX2_addClashes_16 : decode cX2_addClashes 16 = .ok (.istore_n 3, 1) := by decide +kernel
theorem dX2_addClashes_17 : decode cX2_addClashes 17 = .ok (.aload_n 0, 1) := by decide +kernel
theorem dX2_addClashes_18 : decode cX2_addClashes 18 = .ok (.getfield 18, 3) := by decide +kernel
theorem dX2_addClashes_21 : decode cX2_addClashes 21 = .ok (.iload_n 1, 1) := by decide +kernel
theorem dX2_addClashes_22 : decode cX2_addClashes 22 = .ok (.dup2, 1) := by decide +kernel
theorem dX2_addClashes_23 : decode cX2_addClashes 23 = .ok (.iaload, 1) := by decide +kernel
theorem dX2_addClashes_24 : decode cX2_addClashes 24 = .ok (.iload_n 3, 1) := by decide +kernel
theorem dX2_addClashes_25 : decode cX2_addClashes 25 = .ok (.ior, 1) := by decide +kernel
theorem dX2_addClashes_26 : decode cX2_addClashes 26 = .ok (.iastore, 1) := by decide +kernel
theorem dX2_addClashes_27 : decode cX2_addClashes 27 = .ok (.iconst 0, 1) := by decide +kernel
theorem dX2_addClashes_28 : decode cX2_addClashes 28 = .ok (.istore 4, 2) := by decide +kernel
theorem dX2_addClashes_30 : decode cX2_addClashes 30 = .ok (.iload 4, 2) := by decide +kernel
theorem dX2_addClashes_32 : decode cX2_addClashes 32 = .ok (.bipush 16, 2) := by decide +kernel
theorem dX2_addClashes_34 : decode cX2_addClashes 34 = .ok (.if_icmp .ge 32, 3) := by decide +kernel
theorem dX2_addClashes_37 : decode cX2_addClashes 37 = .ok (.iload_n 3, 1) := by decide +kernel
theorem dX2_addClashes_38 : decode cX2_addClashes 38 = .ok (.iload 4, 2) := by decide +kernel
theorem dX2_addClashes_40 : decode cX2_addClashes 40 = .ok (.invokestatic 44, 3) := by decide +kernel
theorem dX2_addClashes_43 : decode cX2_addClashes 43 = .ok (.ifCond .eq 17, 3) := by decide +kernel
theorem dX2_addClashes_46 : decode cX2_addClashes 46 = .ok (.aload_n 0, 1) := by decide +kernel
theorem dX2_addClashes_47 : decode cX2_addClashes 47 = .ok (.getfield 18, 3) := by decide +kernel
theorem dX2_addClashes_50 : decode cX2_addClashes 50 = .ok (.iload 4, 2) := by decide +kernel
theorem dX2_addClashes_52 : decode cX2_addClashes 52 = .ok (.dup2, 1) := by decide +kernel
theorem dX2_addClashes_53 : decode cX2_addClashes 53 = .ok (.iaload, 1) := by decide +kernel
theorem dX2_addClashes_54 : decode cX2_addClashes 54 = .ok (.iload_n 1, 1) := by decide +kernel
theorem dX2_addClashes_55 : decode cX2_addClashes 55 = .ok (.invokestatic 72, 3) := by decide +kernel
theorem dX2_addClashes_58 : decode cX2_addClashes 58 = .ok (.ior, 1) := by decide +kernel
theorem dX2_addClashes_59 : decode cX2_addClashes 59 = .ok (.iastore, 1) := by decide +kernel
theorem dX2_addClashes_60 : decode cX2_addClashes 60 = .ok (.iinc 4 1, 3) := by decide +kernel
theorem dX2_addClashes_63 : decode cX2_addClashes 63 = .ok (.goto (-33), 3) := by decide +kernel
theorem dX2_addClashes_66 : decode cX2_addClashes 66 = .ok (.return_, 1) := by decide +kernel
theorem dX3_init_0 : decode cX3_init 0 = .ok (.aload_n 0, 1) := by decide +kernel
theorem dX3_init_1 : decode cX3_init 1 = .ok (.invokespecial 1, 3) := by decide +kernel
theorem dX3_init_4 : decode cX3_init 4 = .ok (.aload_n 0, 1) := by decide +kernel
theorem dX3_init_5 : decode cX3_init 5 = .ok (.new 7, 3) := by decide +kernel
theorem dX3_init_8 : decode cX3_init 8 = .ok (.dup, 1) := by decide +kernel
theorem dX3_init_9 : decode cX3_init 9 = .ok (.invokespecial 9, 3) := by decide +kernel
theorem dX3_init_12 : decode cX3_init 12 = .ok (.putfield 10, 3) := by decide +kernel
theorem dX3_init_15 : decode cX3_init 15 = .ok (.aload_n 0, 1) := by decide +kernel
theorem dX3_init_16 : decode cX3_init 16 = .ok (.new 16, 3) := by decide +kernel
theorem dX3_init_19 : decode cX3_init 19 = .ok (.dup, 1) := by decide +kernel
theorem dX3_init_20 : decode cX3_init 20 = .ok (.invokespecial 18, 3) := by decide +kernel
theorem dX3_init_23 : decode cX3_init 23 = .ok (.putfield 19, 3) := by decide +kernel
theorem dX3_init_26 : decode cX3_init 26 = .ok (.aload_n 0, 1) := by decide +kernel
theorem dX3_init_27 : decode cX3_init 27 = .ok (.new 23, 3) := by decide +kernel
theorem dX3_init_30 : decode cX3_init 30 = .ok (.dup, 1) := by decide +kernel
theorem dX3_init_31 : decode cX3_init 31 = .ok (.invokespecial 25, 3) := by decide +kernel
theorem dX3_init_34 : decode cX3_init 34 = .ok (.putfield 26, 3) := by decide +kernel
theorem dX3_init_37 : decode cX3_init 37 = .ok (.aload_n 0, 1) := by decide +kernel
theorem dX3_init_38 : decode cX3_init 38 = .ok (.new 7, 3) := by decide +kernel
theorem dX3_init_41 : decode cX3_init 41 = .ok (.dup, 1) := by decide +kernel
theorem dX3_init_42 : decode cX3_init 42 = .ok (.invokespecial 9, 3) := by decide +kernel
theorem dX3_init_45 : decode cX3_init 45 = .ok (.putfield 30, 3) := by decide +kernel
theorem dX3_init_48 : decode cX3_init 48 = .ok (.aload_n 0, 1) := by decide +kernel
theorem dX3_init_49 : decode cX3_init 49 = .ok (.new 16, 3) := by decide +kernel
theorem dX3_init_52 : decode cX3_init 52 = .ok (.dup, 1) := by decide +kernel
theorem dX3_init_53 : decode cX3_init 53 = .ok (.invokespecial 18, 3) := by decide +kernel
theorem dX3_init_56 : decode cX3_init 56 = .ok (.putfield 33, 3) := by decide +kernel
theorem dX3_init_59 : decode cX3_init 59 = .ok (.aload_n 0, 1) := by decide +kernel
theorem dX3_init_60 : decode cX3_init 60 = .ok (.new 23, 3) := by decide +kernel
theorem dX3_init_63 : decode cX3_init 63 = .ok (.dup, 1) := by decide +kernel
theorem dX3_init_64 : decode cX3_init 64 = .ok (.invokespecial 25, 3) := by decide +kernel
theorem dX3_init_67 : decode cX3_init 67 = .ok (.putfield 36, 3) := by decide +kernel
theorem dX3_init_70 : decode cX3_init 70 = .ok (.aload_n 0, 1) := by decide +kernel
theorem dX3_init_71 : decode cX3_init 71 = .ok (.iconst 0, 1) := by decide +kernel
theorem dX3_init_72 : decode cX3_init 72 = .ok (.putfield 39, 3) := by decide +kernel
theorem dX3_init_75 : decode cX3_init 75 = .ok (.aload_n 0, 1) := by decide +kernel
theorem dX3_init_76 : decode cX3_init 76 = .ok (.iconst 3, 1) := by decide +kernel
theorem dX3_init_77 : decode cX3_init 77 = .ok (.putfield 43, 3) := by decide +kernel
theorem dX3_init_80 : decode cX3_init 80 = .ok (.aload_n 0, 1) := by decide +kernel
theorem dX3_init_81 : decode cX3_init 81 = .ok (.invokevirtual 46, 3) := by decide +kernel
theorem dX3_init_84 : decode cX3_init 84 = .ok (.return_, 1) := by decide +kernel
theorem dX3_cook_0 : decode cX3_cook 0 = .ok (.iload_n 1, 1) := by decide +kernel
theorem dX3_cook_1 : decode cX3_cook 1 = .ok (.invokestatic 49, 3) := by decide +kernel
theorem dX3_cook_4 : decode cX3_cook 4 = .ok (.iload_n 2, 1) := by decide +kernel
theorem dX3_cook_5 : decode cX3_cook 5 = .ok (.invokestatic 53, 3) := by decide +kernel
theorem dX3_cook_8 : decode cX3_cook 8 = .ok (.iload_n 3, 1) := by decide +kernel
theorem dX3_cook_9 : decode cX3_cook 9 = .ok (.invokestatic 53, 3) := by decide +kernel
theorem dX3_cook_12 : decode cX3_cook 12 = .ok (.iload 4, 2) := by decide +kernel
theorem dX3_cook_14 : decode cX3_cook 14 = .ok (.invokestatic 56, 3) := by decide +kernel
theorem dX3_cook_17 : decode cX3_cook 17 = .ok (.aload_n 0, 1) := by decide +kernel
theorem dX3_cook_18 : decode cX3_cook 18 = .ok (.getfield 10, 3) := by decide +kernel
theorem dX3_cook_21 : decode cX3_cook 21 = .ok (.iload_n 1, 1) := by decide +kernel
theorem dX3_cook_22 : decode cX3_cook 22 = .ok (.iload_n 2, 1) := by decide +kernel
theorem dX3_cook_23 : decode cX3_cook 23 = .ok (.iload_n 3, 1) := by decide +kernel
theorem dX3_cook_24 : decode cX3_cook 24 = .ok (.iload 4, 2) := by decide +kernel
theorem dX3_cook_26 : decode cX3_cook 26 = .ok (.iconst 0, 1) := by decide +kernel
theorem dX3_cook_27 : decode cX3_cook 27 = .ok (.invokevirtual 59, 3) := by decide +kernel
theorem dX3_cook_30 : decode cX3_cook 30 = .ok (.istore 5, 2) := by decide +kernel
theorem dX3_cook_32 : decode cX3_cook 32 = .ok (.aload_n 0, 1) := by decide +kernel
theorem dX3_cook_33 : decode cX3_cook 33 = .ok (.invokevirtual 46, 3) := by decide +kernel
theorem dX3_cook_36 : decode cX3_cook 36 = .ok (.iload 5, 2) := by decide +kernel
theorem dX3_cook_38 : decode cX3_cook 38 = .ok (.ireturn, 1) := by decide +kernel
theorem dX3_pour_0 : decode cX3_pour 0 = .ok (.iload_n 1, 1) := by decide +kernel
theorem dX3_pour_1 : decode cX3_pour 1 = .ok (.invokestatic 49, 3) := by decide +kernel
theorem dX3_pour_4 : decode cX3_pour 4 = .ok (.iload_n 2, 1) := by decide +kernel
theorem dX3_pour_5 : decode cX3_pour 5 = .ok (.invokestatic 49, 3) := by decide +kernel
theorem dX3_pour_8 : decode cX3_pour 8 = .ok (.iload_n 3, 1) := by decide +kernel
theorem dX3_pour_9 : decode cX3_pour 9 = .ok (.invokestatic 56, 3) := by decide +kernel
theorem dX3_pour_12 : decode cX3_pour 12 = .ok (.aload_n 0, 1) := by decide +kernel
theorem dX3_pour_13 : decode cX3_pour 13 = .ok (.getfield 10, 3) := by decide +kernel
theorem dX3_pour_16 : decode cX3_pour 16 = .ok (.iload_n 1, 1) := by decide +kernel
theorem dX3_pour_17 : decode cX3_pour 17 = .ok (.iload_n 2, 1) := by decide +kernel
theorem dX3_pour_18 : decode cX3_pour 18 = .ok (.iconst (-1), 1) := by decide +kernel
theorem dX3_pour_19 : decode cX3_pour 19 = .ok (.iload_n 3, 1) := by decide +kernel
theorem dX3_pour_20 : decode cX3_pour 20 = .ok (.iconst 1, 1) := by decide +kernel
theorem dX3_pour_21 : decode cX3_pour 21 = .ok (.invokevirtual 59, 3) := by decide +kernel
theorem dX3_pour_24 : decode cX3_pour 24 = .ok (.istore 4, 2) := by decide +kernel
theorem dX3_pour_26 : decode cX3_pour 26 = .ok (.aload_n 0, 1) := by decide +kernel
theorem dX3_pour_27 : decode cX3_pour 27 = .ok (.invokevirtual 46, 3) := by decide +kernel
theorem dX3_pour_30 : decode cX3_pour 30 = .ok (.iload 4, 2) := by decide +kernel
theorem dX3_pour_32 : decode cX3_pour 32 = .ok (.ireturn, 1) := by decide +kernel
theorem dX3_drop_0 : decode cX3_drop 0 = .ok (.aload_n 0, 1) := by decide +kernel
theorem dX3_drop_1 : decode cX3_drop 1 = .ok (.getfield 10, 3) := by decide +kernel
theorem dX3_drop_4 : decode cX3_drop 4 = .ok (.iload_n 1, 1) := by decide +kernel
theorem dX3_drop_5 : decode cX3_drop 5 = .ok (.invokevirtual 63, 3) := by decide +kernel
theorem dX3_drop_8 : decode cX3_drop 8 = .ok (.aload_n 0, 1) := by decide +kernel
theorem dX3_drop_9 : decode cX3_drop 9 = .ok (.invokevirtual 46, 3) := by decide +kernel
theorem dX3_drop_12 : decode cX3_drop 12 = .ok (.aload_n 0, 1) := by decide +kernel
theorem dX3_drop_13 : decode cX3_drop 13 = .ok (.getfield 10, 3) := by decide +kernel
theorem dX3_drop_16 : decode cX3_drop 16 = .ok (.getfield 66, 3) := by decide +kernel
theorem dX3_drop_19 : decode cX3_drop 19 = .ok (.ireturn, 1) := by decide +kernel
theorem dX3_want_0 : decode cX3_want 0 = .ok (.iload_n 1, 1) := by decide +kernel
theorem dX3_want_1 : decode cX3_want 1 = .ok (.invokestatic 49, 3) := by decide +kernel
theorem dX3_want_4 : decode cX3_want 4 = .ok (.aload_n 0, 1) := by decide +kernel
theorem dX3_want_5 : decode cX3_want 5 = .ok (.getfield 39, 3) := by decide +kernel
theorem dX3_want_8 : decode cX3_want 8 = .ok (.iload_n 1, 1) := by decide +kernel
theorem dX3_want_9 : decode cX3_want 9 = .ok (.invokestatic 69, 3) := by decide +kernel
theorem dX3_want_12 : decode cX3_want 12 = .ok (.istore_n 3, 1) := by decide +kernel
theorem dX3_want_13 : decode cX3_want 13 = .ok (.aload_n 0, 1) := by decide +kernel
theorem dX3_want_14 : decode cX3_want 14 = .ok (.iload_n 2, 1) := by decide +kernel
theorem dX3_want_15 : decode cX3_want 15 = .ok (.ifCond .eq 15, 3) := by decide +kernel
theorem dX3_want_18 : decode cX3_want 18 = .ok (.aload_n 0, 1) := by decide +kernel
theorem dX3_want_19 : decode cX3_want 19 = .ok (.getfield 39, 3) := by decide +kernel
theorem dX3_want_22 : decode cX3_want 22 = .ok (.iload_n 1, 1) := by decide +kernel
theorem dX3_want_23 : decode cX3_want 23 = .ok (.invokestatic 73, 3) := by decide +kernel
theorem dX3_want_26 : decode cX3_want 26 = .ok (.ior, 1) := by decide +kernel
theorem dX3_want_27 : decode cX3_want 27 = .ok (.goto 14, 3) := by decide +kernel
theorem dX3_want_30 : decode cX3_want 30 = .ok (.aload_n 0, 1) := by decide +kernel
theorem dX3_want_31 : decode cX3_want 31 = .ok (.getfield 39, 3) := by decide +kernel
theorem dX3_want_34 : decode cX3_want 34 = .ok (.iload_n 1, 1) := by decide +kernel
theorem dX3_want_35 : decode cX3_want 35 = .ok (.invokestatic 73, 3) := by decide +kernel
theorem dX3_want_38 : decode cX3_want 38 = .ok (.iconst (-1), 1) := by decide +kernel
theorem dX3_want_39 : decode cX3_want 39 = .ok (.ixor, 1) := by decide +kernel
theorem dX3_want_40 : decode cX3_want 40 = .ok (.iand, 1) := by decide +kernel
theorem dX3_want_41 : decode cX3_want 41 = .ok (.putfield 39, 3) := by decide +kernel
theorem dX3_want_44 : decode cX3_want 44 = .ok (.aload_n 0, 1) := by decide +kernel
theorem dX3_want_45 : decode cX3_want 45 = .ok (.invokevirtual 46, 3) := by decide +kernel
theorem dX3_want_48 : decode cX3_want 48 = .ok (.iload_n 3, 1) := by decide +kernel
theorem dX3_want_49 : decode cX3_want 49 = .ok (.ireturn, 1) := by decide +kernel
theorem dX3_setHooks_0 : decode cX3_setHooks 0 = .ok (.iload_n 1, 1) := by decide +kernel
theorem dX3_setHooks_1 : decode cX3_setHooks 1 = .ok (.iconst 1, 1) := by decide +kernel
theorem dX3_setHooks_2 : decode cX3_setHooks 2 = .ok (.if_icmp .lt 9, 3) := by decide +kernel
theorem dX3_setHooks_5 : decode cX3_setHooks 5 = .ok (.iload_n 1, 1) := by decide +kernel
theorem dX3_setHooks_6 : decode cX3_setHooks 6 = .ok (.bipush 8, 2) := by decide +kernel
theorem dX3_setHooks_8 : decode cX3_setHooks 8 = .ok (.if_icmp .le 13, 3) := by decide +kernel
theorem dX3_setHooks_11 : decode cX3_setHooks 11 = .ok (.new 77, 3) := by decide +kernel
theorem dX3_setHooks_14 : decode cX3_setHooks 14 = .ok (.dup, 1) := by decide +kernel
theorem dX3_setHooks_15 : decode cX3_setHooks 15 = .ok (.ldc 79, 2) := by decide +kernel
theorem dX3_setHooks_17 : decode cX3_setHooks 17 = .ok (.invokespecial 81, 3) := by decide +kernel
theorem dX3_setHooks_20 : decode cX3_setHooks 20 = .ok (.athrow, 1) := by decide +kernel
theorem dX3_setHooks_21 : decode cX3_setHooks 21 = .ok (.aload_n 0, 1) := by decide +kernel
theorem dX3_setHooks_22 : decode cX3_setHooks 22 = .ok (.getfield 43, 3) := by decide +kernel
theorem dX3_setHooks_25 : decode cX3_setHooks 25 = .ok (.istore_n 2, 1) := by decide +kernel
theorem dX3_setHooks_26 : decode cX3_setHooks 26 = .ok (.aload_n 0, 1) := by decide +kernel
theorem dX3_setHooks_27 : decode cX3_setHooks 27 = .ok (.iload_n 1, 1) := by decide +kernel
theorem dX3_setHooks_28 : decode cX3_setHooks 28 = .ok (.putfield 43, 3) := by decide +kernel
theorem dX3_setHooks_31 : decode cX3_setHooks 31 = .ok (.aload_n 0, 1) := by decide +kernel
theorem dX3_setHooks_32 : decode cX3_setHooks 32 = .ok (.invokevirtual 46, 3) := by decide +kernel
theorem dX3_setHooks_35 : decode cX3_setHooks 35 = .ok (.iload_n 2, 1) := by decide +kernel
theorem dX3_setHooks_36 : decode cX3_setHooks 36 = .ok (.ireturn, 1) := by decide +kernel
theorem dX3_deed_0 : decode cX3_deed 0 = .ok (.aload_n 0, 1) := by decide +kernel
theorem dX3_deed_1 : decode cX3_deed 1 = .ok (.iload_n 1, 1) := by decide +kernel
theorem dX3_deed_2 : decode cX3_deed 2 = .ok (.invokevirtual 84, 3) := by decide +kernel
theorem dX3_deed_5 : decode cX3_deed 5 = .ok (.iload_n 2, 1) := by decide +kernel
theorem dX3_deed_6 : decode cX3_deed 6 = .ok (.tableswitch 126 0 6 #[42, 52, 62, 72, 82, 100, 113], 42) := by decide +kernel
theorem dX3_deed_48 : decode cX3_deed 48 = .ok (.aload_n 0, 1) := by decide +kernel
theorem dX3_deed_49 : decode cX3_deed 49 = .ok (.getfield 10, 3) := by decide +kernel
theorem dX3_deed_52 : decode cX3_deed 52 = .ok (.getfield 87, 3) := by decide +kernel
theorem dX3_deed_55 : decode cX3_deed 55 = .ok (.iload_n 1, 1) := by decide +kernel
theorem dX3_deed_56 : decode cX3_deed 56 = .ok (.iaload, 1) := by decide +kernel
theorem dX3_deed_57 : decode cX3_deed 57 = .ok (.ireturn, 1) := by decide +kernel
theorem dX3_deed_58 : decode cX3_deed 58 = .ok (.aload_n 0, 1) := by decide +kernel
theorem dX3_deed_59 : decode cX3_deed 59 = .ok (.getfield 10, 3) := by decide +kernel
theorem dX3_deed_62 : decode cX3_deed 62 = .ok (.getfield 91, 3) := by decide +kernel
theorem dX3_deed_65 : decode cX3_deed 65 = .ok (.iload_n 1, 1) := by decide +kernel
theorem dX3_deed_66 : decode cX3_deed 66 = .ok (.iaload, 1) := by decide +kernel
theorem dX3_deed_67 : decode cX3_deed 67 = .ok (.ireturn, 1) := by decide +kernel
theorem dX3_deed_68 : decode cX3_deed 68 = .ok (.aload_n 0, 1) := by decide +kernel
theorem dX3_deed_69 : decode cX3_deed 69 = .ok (.getfield 10, 3) := by decide +kernel
theorem dX3_deed_72 : decode cX3_deed 72 = .ok (.getfield 94, 3) := by decide +kernel
theorem dX3_deed_75 : decode cX3_deed 75 = .ok (.iload_n 1, 1) := by decide +kernel
theorem dX3_deed_76 : decode cX3_deed 76 = .ok (.iaload, 1) := by decide +kernel
theorem dX3_deed_77 : decode cX3_deed 77 = .ok (.ireturn, 1) := by decide +kernel
theorem dX3_deed_78 : decode cX3_deed 78 = .ok (.aload_n 0, 1) := by decide +kernel
theorem dX3_deed_79 : decode cX3_deed 79 = .ok (.getfield 10, 3) := by decide +kernel
theorem dX3_deed_82 : decode cX3_deed 82 = .ok (.getfield 97, 3) := by decide +kernel
theorem dX3_deed_85 : decode cX3_deed 85 = .ok (.iload_n 1, 1) := by decide +kernel
theorem dX3_deed_86 : decode cX3_deed 86 = .ok (.iaload, 1) := by decide +kernel
theorem dX3_deed_87 : decode cX3_deed 87 = .ok (.ireturn, 1) := by decide +kernel
theorem dX3_deed_88 : decode cX3_deed 88 = .ok (.aload_n 0, 1) := by decide +kernel
theorem dX3_deed_89 : decode cX3_deed 89 = .ok (.getfield 10, 3) := by decide +kernel
theorem dX3_deed_92 : decode cX3_deed 92 = .ok (.getfield 100, 3) := by decide +kernel
theorem dX3_deed_95 : decode cX3_deed 95 = .ok (.iload_n 1, 1) := by decide +kernel
theorem dX3_deed_96 : decode cX3_deed 96 = .ok (.baload, 1) := by decide +kernel
theorem dX3_deed_97 : decode cX3_deed 97 = .ok (.ifCond .eq 7, 3) := by decide +kernel
theorem dX3_deed_100 : decode cX3_deed 100 = .ok (.iconst 1, 1) := by decide +kernel
theorem dX3_deed_101 : decode cX3_deed 101 = .ok (.goto 4, 3) := by decide +kernel
theorem dX3_deed_104 : decode cX3_deed 104 = .ok (.iconst 0, 1) := by decide +kernel
theorem dX3_deed_105 : decode cX3_deed 105 = .ok (.ireturn, 1) := by decide +kernel
theorem dX3_deed_106 : decode cX3_deed 106 = .ok (.aload_n 0, 1) := by decide +kernel
theorem dX3_deed_107 : decode cX3_deed 107 = .ok (.getfield 19, 3) := by decide +kernel
theorem dX3_deed_110 : decode cX3_deed 110 = .ok (.getfield 104, 3) := by decide +kernel
theorem dX3_deed_113 : decode cX3_deed 113 = .ok (.iload_n 1, 1) := by decide +kernel
theorem dX3_deed_114 : decode cX3_deed 114 = .ok (.iaload, 1) := by decide +kernel
theorem dX3_deed_115 : decode cX3_deed 115 = .ok (.invokestatic 107, 3) := by decide +kernel
theorem dX3_deed_118 : decode cX3_deed 118 = .ok (.ireturn, 1) := by decide +kernel
theorem dX3_deed_119 : decode cX3_deed 119 = .ok (.aload_n 0, 1) := by decide +kernel
theorem dX3_deed_120 : decode cX3_deed 120 = .ok (.getfield 19, 3) := by decide +kernel
theorem dX3_deed_123 : decode cX3_deed 123 = .ok (.getfield 112, 3) := by decide +kernel
theorem dX3_deed_126 : decode cX3_deed 126 = .ok (.iload_n 1, 1) := by decide +kernel
theorem dX3_deed_127 : decode cX3_deed 127 = .ok (.iaload, 1) := by decide +kernel
theorem dX3_deed_128 : decode cX3_deed 128 = .ok (.invokestatic 107, 3) := by decide +kernel
theorem dX3_deed_131 : decode cX3_deed 131 = .ok (.ireturn, 1) := by decide +kernel
theorem dX3_deed_132 : decode cX3_deed 132 = .ok (.new 115, 3) := by decide +kernel
theorem dX3_deed_135 : decode cX3_deed 135 = .ok (.dup, 1) := by decide +kernel
theorem dX3_deed_136 : decode cX3_deed 136 = .ok (.ldc 117, 2) := by decide +kernel
theorem dX3_deed_138 : decode cX3_deed 138 = .ok (.invokespecial 119, 3) := by decide +kernel
theorem dX3_deed_141 : decode cX3_deed 141 = .ok (.athrow, 1) := by decide +kernel
theorem dX3_lives_0 : decode cX3_lives 0 = .ok (.iload_n 1, 1) := by decide +kernel
theorem dX3_lives_1 : decode cX3_lives 1 = .ok (.invokestatic 49, 3) := by decide +kernel
theorem dX3_lives_4 : decode cX3_lives 4 = .ok (.aload_n 0, 1) := by decide +kernel
theorem dX3_lives_5 : decode cX3_lives 5 = .ok (.iload_n 2, 1) := by decide +kernel
theorem dX3_lives_6 : decode cX3_lives 6 = .ok (.invokevirtual 84, 3) := by decide +kernel
theorem dX3_lives_9 : decode cX3_lives 9 = .ok (.aload_n 0, 1) := by decide +kernel
theorem dX3_lives_10 : decode cX3_lives 10 = .ok (.getfield 19, 3) := by decide +kernel
theorem dX3_lives_13 : decode cX3_lives 13 = .ok (.getfield 104, 3) := by decide +kernel
theorem dX3_lives_16 : decode cX3_lives 16 = .ok (.iload_n 2, 1) := by decide +kernel
theorem dX3_lives_17 : decode cX3_lives 17 = .ok (.iaload, 1) := by decide +kernel
theorem dX3_lives_18 : decode cX3_lives 18 = .ok (.iload_n 1, 1) := by decide +kernel
theorem dX3_lives_19 : decode cX3_lives 19 = .ok (.invokestatic 69, 3) := by decide +kernel
theorem dX3_lives_22 : decode cX3_lives 22 = .ok (.ireturn, 1) := by decide +kernel
theorem dX3_clash_0 : decode cX3_clash 0 = .ok (.iload_n 1, 1) := by decide +kernel
theorem dX3_clash_1 : decode cX3_clash 1 = .ok (.invokestatic 49, 3) := by decide +kernel
theorem dX3_clash_4 : decode cX3_clash 4 = .ok (.iload_n 2, 1) := by decide +kernel
theorem dX3_clash_5 : decode cX3_clash 5 = .ok (.invokestatic 49, 3) := by decide +kernel
theorem dX3_clash_8 : decode cX3_clash 8 = .ok (.aload_n 0, 1) := by decide +kernel
theorem dX3_clash_9 : decode cX3_clash 9 = .ok (.getfield 19, 3) := by decide +kernel
theorem dX3_clash_12 : decode cX3_clash 12 = .ok (.getfield 120, 3) := by decide +kernel
theorem dX3_clash_15 : decode cX3_clash 15 = .ok (.iload_n 1, 1) := by decide +kernel
theorem dX3_clash_16 : decode cX3_clash 16 = .ok (.iaload, 1) := by decide +kernel
theorem dX3_clash_17 : decode cX3_clash 17 = .ok (.iload_n 2, 1) := by decide +kernel
theorem dX3_clash_18 : decode cX3_clash 18 = .ok (.invokestatic 69, 3) := by decide +kernel
theorem dX3_clash_21 : decode cX3_clash 21 = .ok (.ireturn, 1) := by decide +kernel
theorem dX3_pot_0 : decode cX3_pot 0 = .ok (.iload_n 1, 1) := by decide +kernel
theorem dX3_pot_1 : decode cX3_pot 1 = .ok (.invokestatic 49, 3) := by decide +kernel
theorem dX3_pot_4 : decode cX3_pot 4 = .ok (.iload_n 2, 1) := by decide +kernel
theorem dX3_pot_5 : decode cX3_pot 5 = .ok (.tableswitch 122 0 5 #[39, 59, 69, 82, 92, 102], 39) := by decide +kernel
theorem dX3_pot_44 : decode cX3_pot 44 = .ok (.aload_n 0, 1) := by decide +kernel
theorem dX3_pot_45 : decode cX3_pot 45 = .ok (.getfield 19, 3) := by decide +kernel
theorem dX3_pot_48 : decode cX3_pot 48 = .ok (.getfield 123, 3) := by decide +kernel
theorem dX3_pot_51 : decode cX3_pot 51 = .ok (.iload_n 1, 1) := by decide +kernel
theorem dX3_pot_52 : decode cX3_pot 52 = .ok (.invokestatic 69, 3) := by decide +kernel
theorem dX3_pot_55 : decode cX3_pot 55 = .ok (.ifCond .eq 7, 3) := by decide +kernel
theorem dX3_pot_58 : decode cX3_pot 58 = .ok (.iconst 1, 1) := by decide +kernel
theorem dX3_pot_59 : decode cX3_pot 59 = .ok (.goto 4, 3) := by decide +kernel
theorem dX3_pot_62 : decode cX3_pot 62 = .ok (.iconst 0, 1) := by decide +kernel
theorem dX3_pot_63 : decode cX3_pot 63 = .ok (.ireturn, 1) := by decide +kernel
theorem dX3_pot_64 : decode cX3_pot 64 = .ok (.aload_n 0, 1) := by decide +kernel
theorem dX3_pot_65 : decode cX3_pot 65 = .ok (.getfield 19, 3) := by decide +kernel
theorem dX3_pot_68 : decode cX3_pot 68 = .ok (.getfield 126, 3) := by decide +kernel
theorem dX3_pot_71 : decode cX3_pot 71 = .ok (.iload_n 1, 1) := by decide +kernel
theorem dX3_pot_72 : decode cX3_pot 72 = .ok (.iaload, 1) := by decide +kernel
theorem dX3_pot_73 : decode cX3_pot 73 = .ok (.ireturn, 1) := by decide +kernel
theorem dX3_pot_74 : decode cX3_pot 74 = .ok (.aload_n 0, 1) := by decide +kernel
theorem dX3_pot_75 : decode cX3_pot 75 = .ok (.getfield 19, 3) := by decide +kernel
theorem dX3_pot_78 : decode cX3_pot 78 = .ok (.getfield 120, 3) := by decide +kernel
theorem dX3_pot_81 : decode cX3_pot 81 = .ok (.iload_n 1, 1) := by decide +kernel
theorem dX3_pot_82 : decode cX3_pot 82 = .ok (.iaload, 1) := by decide +kernel
theorem dX3_pot_83 : decode cX3_pot 83 = .ok (.invokestatic 107, 3) := by decide +kernel
theorem dX3_pot_86 : decode cX3_pot 86 = .ok (.ireturn, 1) := by decide +kernel
theorem dX3_pot_87 : decode cX3_pot 87 = .ok (.aload_n 0, 1) := by decide +kernel
theorem dX3_pot_88 : decode cX3_pot 88 = .ok (.getfield 26, 3) := by decide +kernel
theorem dX3_pot_91 : decode cX3_pot 91 = .ok (.getfield 129, 3) := by decide +kernel
theorem dX3_pot_94 : decode cX3_pot 94 = .ok (.iload_n 1, 1) := by decide +kernel
theorem dX3_pot_95 : decode cX3_pot 95 = .ok (.iaload, 1) := by decide +kernel
theorem dX3_pot_96 : decode cX3_pot 96 = .ok (.ireturn, 1) := by decide +kernel
theorem dX3_pot_97 : decode cX3_pot 97 = .ok (.aload_n 0, 1) := by decide +kernel
theorem dX3_pot_98 : decode cX3_pot 98 = .ok (.getfield 26, 3) := by decide +kernel
theorem dX3_pot_101 : decode cX3_pot 101 = .ok (.getfield 132, 3) := by decide +kernel
theorem dX3_pot_104 : decode cX3_pot 104 = .ok (.iload_n 1, 1) := by decide +kernel
theorem dX3_pot_105 : decode cX3_pot 105 = .ok (.iaload, 1) := by decide +kernel
theorem dX3_pot_106 : decode cX3_pot 106 = .ok (.ireturn, 1) := by decide +kernel
theorem dX3_pot_107 : decode cX3_pot 107 = .ok (.aload_n 0, 1) := by decide +kernel
theorem dX3_pot_108 : decode cX3_pot 108 = .ok (.getfield 26, 3) := by decide +kernel
theorem dX3_pot_111 : decode cX3_pot 111 = .ok (.getfield 135, 3) := by decide +kernel
theorem dX3_pot_114 : decode cX3_pot 114 = .ok (.iload_n 1, 1) := by decide +kernel
theorem dX3_pot_115 : decode cX3_pot 115 = .ok (.invokestatic 69, 3) := by decide +kernel
theorem dX3_pot_118 : decode cX3_pot 118 = .ok (.ifCond .eq 7, 3) := by decide +kernel
theorem dX3_pot_121 : decode cX3_pot 121 = .ok (.iconst 1, 1) := by decide +kernel
theorem dX3_pot_122 : decode cX3_pot 122 = .ok (.goto 4, 3) := by decide +kernel
theorem dX3_pot_125 : decode cX3_pot 125 = .ok (.iconst 0, 1) := by decide +kernel
theorem dX3_pot_126 : decode cX3_pot 126 = .ok (.ireturn, 1) := by decide +kernel
theorem dX3_pot_127 : decode cX3_pot 127 = .ok (.new 115, 3) := by decide +kernel
theorem dX3_pot_130 : decode cX3_pot 130 = .ok (.dup, 1) := by decide +kernel
theorem dX3_pot_131 : decode cX3_pot 131 = .ok (.ldc 138, 2) := by decide +kernel
theorem dX3_pot_133 : decode cX3_pot 133 = .ok (.invokespecial 119, 3) := by decide +kernel
theorem dX3_pot_136 : decode cX3_pot 136 = .ok (.athrow, 1) := by decide +kernel
theorem dX3_count_0 : decode cX3_count 0 = .ok (.iload_n 1, 1) := by decide +kernel
theorem dX3_count_1 : decode cX3_count 1 = .ok (.tableswitch 136 0 9 #[55, 63, 68, 79, 87, 98, 106, 111, 116, 131], 55) := by decide +kernel
theorem dX3_count_56 : decode cX3_count 56 = .ok (.aload_n 0, 1) := by decide +kernel
theorem dX3_count_57 : decode cX3_count 57 = .ok (.getfield 10, 3) := by decide +kernel
theorem dX3_count_60 : decode cX3_count 60 = .ok (.getfield 66, 3) := by decide +kernel
theorem dX3_count_63 : decode cX3_count 63 = .ok (.ireturn, 1) := by decide +kernel
theorem dX3_count_64 : decode cX3_count 64 = .ok (.aload_n 0, 1) := by decide +kernel
theorem dX3_count_65 : decode cX3_count 65 = .ok (.getfield 43, 3) := by decide +kernel
theorem dX3_count_68 : decode cX3_count 68 = .ok (.ireturn, 1) := by decide +kernel
theorem dX3_count_69 : decode cX3_count 69 = .ok (.aload_n 0, 1) := by decide +kernel
theorem dX3_count_70 : decode cX3_count 70 = .ok (.getfield 19, 3) := by decide +kernel
theorem dX3_count_73 : decode cX3_count 73 = .ok (.getfield 123, 3) := by decide +kernel
theorem dX3_count_76 : decode cX3_count 76 = .ok (.invokestatic 107, 3) := by decide +kernel
theorem dX3_count_79 : decode cX3_count 79 = .ok (.ireturn, 1) := by decide +kernel
theorem dX3_count_80 : decode cX3_count 80 = .ok (.aload_n 0, 1) := by decide +kernel
theorem dX3_count_81 : decode cX3_count 81 = .ok (.getfield 19, 3) := by decide +kernel
theorem dX3_count_84 : decode cX3_count 84 = .ok (.invokevirtual 140, 3) := by decide +kernel
theorem dX3_count_87 : decode cX3_count 87 = .ok (.ireturn, 1) := by decide +kernel
theorem dX3_count_88 : decode cX3_count 88 = .ok (.aload_n 0, 1) := by decide +kernel
theorem dX3_count_89 : decode cX3_count 89 = .ok (.getfield 26, 3) := by decide +kernel
theorem dX3_count_92 : decode cX3_count 92 = .ok (.getfield 135, 3) := by decide +kernel
theorem dX3_count_95 : decode cX3_count 95 = .ok (.invokestatic 107, 3) := by decide +kernel
theorem dX3_count_98 : decode cX3_count 98 = .ok (.ireturn, 1) := by decide +kernel
theorem dX3_count_99 : decode cX3_count 99 = .ok (.aload_n 0, 1) := by decide +kernel
theorem dX3_count_100 : decode cX3_count 100 = .ok (.getfield 26, 3) := by decide +kernel
theorem dX3_count_103 : decode cX3_count 103 = .ok (.invokevirtual 144, 3) := by decide +kernel
theorem dX3_count_106 : decode cX3_count 106 = .ok (.ireturn, 1) := by decide +kernel
theorem dX3_count_107 : decode cX3_count 107 = .ok (.aload_n 0, 1) := by decide +kernel
theorem dX3_count_108 : decode cX3_count 108 = .ok (.invokevirtual 147, 3) := by decide +kernel
theorem dX3_count_111 : decode cX3_count 111 = .ok (.ireturn, 1) := by decide +kernel
theorem dX3_count_112 : decode cX3_count 112 = .ok (.aload_n 0, 1) := by decide +kernel
theorem dX3_count_113 : decode cX3_count 113 = .ok (.invokevirtual 150, 3) := by decide +kernel
theorem dX3_count_116 : decode cX3_count 116 = .ok (.ireturn, 1) := by decide +kernel
theorem dX3_count_117 : decode cX3_count 117 = .ok (.aload_n 0, 1) := by decide +kernel
theorem dX3_count_118 : decode cX3_count 118 = .ok (.getfield 19, 3) := by decide +kernel
theorem dX3_count_121 : decode cX3_count 121 = .ok (.aload_n 0, 1) := by decide +kernel
theorem dX3_count_122 : decode cX3_count 122 = .ok (.getfield 26, 3) := by decide +kernel
theorem dX3_count_125 : decode cX3_count 125 = .ok (.getfield 135, 3) := by decide +kernel
theorem dX3_count_128 : decode cX3_count 128 = .ok (.invokevirtual 153, 3) := by decide +kernel
theorem dX3_count_131 : decode cX3_count 131 = .ok (.ireturn, 1) := by decide +kernel
theorem dX3_count_132 : decode cX3_count 132 = .ok (.aload_n 0, 1) := by decide +kernel
theorem dX3_count_133 : decode cX3_count 133 = .ok (.invokevirtual 156, 3) := by decide +kernel
theorem dX3_count_136 : decode cX3_count 136 = .ok (.ireturn, 1) := by decide +kernel
theorem dX3_count_137 : decode cX3_count 137 = .ok (.new 115, 3) := by decide +kernel
theorem dX3_count_140 : decode cX3_count 140 = .ok (.dup, 1) := by decide +kernel
theorem dX3_count_141 : decode cX3_count 141 = .ok (.ldc 159, 2) := by decide +kernel
theorem dX3_count_143 : decode cX3_count 143 = .ok (.invokespecial 119, 3) := by decide +kernel
theorem dX3_count_146 : decode cX3_count 146 = .ok (.athrow, 1) := by decide +kernel
theorem dX3_hangs_0 : decode cX3_hangs 0 = .ok (.iload_n 1, 1) := by decide +kernel
theorem dX3_hangs_1 : decode cX3_hangs 1 = .ok (.ifCond .lt 11, 3) := by decide +kernel
theorem dX3_hangs_4 : decode cX3_hangs 4 = .ok (.iload_n 1, 1) := by decide +kernel
theorem dX3_hangs_5 : decode cX3_hangs 5 = .ok (.aload_n 0, 1) := by decide +kernel
theorem dX3_hangs_6 : decode cX3_hangs 6 = .ok (.getfield 43, 3) := by decide +kernel
theorem dX3_hangs_9 : decode cX3_hangs 9 = .ok (.if_icmp .lt 13, 3) := by decide +kernel
theorem dX3_hangs_12 : decode cX3_hangs 12 = .ok (.new 115, 3) := by decide +kernel
theorem dX3_hangs_15 : decode cX3_hangs 15 = .ok (.dup, 1) := by decide +kernel
theorem dX3_hangs_16 : decode cX3_hangs 16 = .ok (.ldc 161, 2) := by decide +kernel
theorem dX3_hangs_18 : decode cX3_hangs 18 = .ok (.invokespecial 119, 3) := by decide +kernel
theorem dX3_hangs_21 : decode cX3_hangs 21 = .ok (.athrow, 1) := by decide +kernel
theorem dX3_hangs_22 : decode cX3_hangs 22 = .ok (.aload_n 0, 1) := by decide +kernel
theorem dX3_hangs_23 : decode cX3_hangs 23 = .ok (.getfield 26, 3) := by decide +kernel
theorem dX3_hangs_26 : decode cX3_hangs 26 = .ok (.getfield 163, 3) := by decide +kernel
theorem dX3_hangs_29 : decode cX3_hangs 29 = .ok (.iload_n 1, 1) := by decide +kernel
theorem dX3_hangs_30 : decode cX3_hangs 30 = .ok (.iaload, 1) := by decide +kernel
theorem dX3_hangs_31 : decode cX3_hangs 31 = .ok (.invokestatic 107, 3) := by decide +kernel
theorem dX3_hangs_34 : decode cX3_hangs 34 = .ok (.ireturn, 1) := by decide +kernel
theorem dX3_crowd_0 : decode cX3_crowd 0 = .ok (.aload_n 0, 1) := by decide +kernel
theorem dX3_crowd_1 : decode cX3_crowd 1 = .ok (.getfield 19, 3) := by decide +kernel
theorem dX3_crowd_4 : decode cX3_crowd 4 = .ok (.getfield 166, 3) := by decide +kernel
theorem dX3_crowd_7 : decode cX3_crowd 7 = .ok (.invokestatic 107, 3) := by decide +kernel
theorem dX3_crowd_10 : decode cX3_crowd 10 = .ok (.istore_n 1, 1) := by decide +kernel
theorem dX3_crowd_11 : decode cX3_crowd 11 = .ok (.iconst 0, 1) := by decide +kernel
theorem dX3_crowd_12 : decode cX3_crowd 12 = .ok (.istore_n 2, 1) := by decide +kernel
theorem dX3_crowd_13 : decode cX3_crowd 13 = .ok (.iload_n 2, 1) := by decide +kernel
theorem dX3_crowd_14 : decode cX3_crowd 14 = .ok (.aload_n 0, 1) := by decide +kernel
theorem dX3_crowd_15 : decode cX3_crowd 15 = .ok (.getfield 10, 3) := by decide +kernel
theorem dX3_crowd_18 : decode cX3_crowd 18 = .ok (.getfield 66, 3) := by decide +kernel
theorem dX3_crowd_21 : decode cX3_crowd 21 = .ok (.if_icmp .ge 26, 3) := by decide +kernel
theorem dX3_crowd_24 : decode cX3_crowd 24 = .ok (.iload_n 1, 1) := by decide +kernel
theorem dX3_crowd_25 : decode cX3_crowd 25 = .ok (.aload_n 0, 1) := by decide +kernel
theorem dX3_crowd_26 : decode cX3_crowd 26 = .ok (.getfield 19, 3) := by decide +kernel
theorem dX3_crowd_29 : decode cX3_crowd 29 = .ok (.getfield 104, 3) := by decide +kernel
theorem dX3_crowd_32 : decode cX3_crowd 32 = .ok (.iload_n 2, 1) := by decide +kernel
theorem dX3_crowd_33 : decode cX3_crowd 33 = .ok (.iaload, 1) := by decide +kernel
theorem dX3_crowd_34 : decode cX3_crowd 34 = .ok (.invokestatic 107, 3) := by decide +kernel
theorem dX3_crowd_37 : decode cX3_crowd 37 = .ok (.invokestatic 169, 3) := by decide +kernel
theorem dX3_crowd_40 : decode cX3_crowd 40 = .ok (.istore_n 1, 1) := by decide +kernel
theorem dX3_crowd_41 : decode cX3_crowd 41 = .ok (.iinc 2 1, 3) := by decide +kernel
theorem dX3_crowd_44 : decode cX3_crowd 44 = .ok (.goto (-31), 3) := by decide +kernel
theorem dX3_crowd_47 : decode cX3_crowd 47 = .ok (.iload_n 1, 1) := by decide +kernel
theorem dX3_crowd_48 : decode cX3_crowd 48 = .ok (.ireturn, 1) := by decide +kernel
theorem dX3_would_0 : decode cX3_would 0 = .ok (.iload_n 1, 1) := by decide +kernel
theorem dX3_would_1 : decode cX3_would 1 = .ok (.iconst 1, 1) := by decide +kernel
theorem dX3_would_2 : decode cX3_would 2 = .ok (.if_icmp .lt 9, 3) := by decide +kernel
theorem dX3_would_5 : decode cX3_would 5 = .ok (.iload_n 1, 1) := by decide +kernel
theorem dX3_would_6 : decode cX3_would 6 = .ok (.bipush 16, 2) := by decide +kernel
theorem dX3_would_8 : decode cX3_would 8 = .ok (.if_icmp .le 13, 3) := by decide +kernel
theorem dX3_would_11 : decode cX3_would 11 = .ok (.new 77, 3) := by decide +kernel
theorem dX3_would_14 : decode cX3_would 14 = .ok (.dup, 1) := by decide +kernel
theorem dX3_would_15 : decode cX3_would 15 = .ok (.ldc 175, 2) := by decide +kernel
theorem dX3_would_17 : decode cX3_would 17 = .ok (.invokespecial 81, 3) := by decide +kernel
theorem dX3_would_20 : decode cX3_would 20 = .ok (.athrow, 1) := by decide +kernel
theorem dX3_would_21 : decode cX3_would 21 = .ok (.aload_n 0, 1) := by decide +kernel
theorem dX3_would_22 : decode cX3_would 22 = .ok (.iload_n 1, 1) := by decide +kernel
theorem dX3_would_23 : decode cX3_would 23 = .ok (.invokevirtual 177, 3) := by decide +kernel
theorem dX3_would_26 : decode cX3_would 26 = .ok (.ireturn, 1) := by decide +kernel
theorem dX3_fewest_0 : decode cX3_fewest 0 = .ok (.aload_n 0, 1) := by decide +kernel
theorem dX3_fewest_1 : decode cX3_fewest 1 = .ok (.getfield 19, 3) := by decide +kernel
theorem dX3_fewest_4 : decode cX3_fewest 4 = .ok (.getfield 123, 3) := by decide +kernel
theorem dX3_fewest_7 : decode cX3_fewest 7 = .ok (.ifCond .ne 5, 3) := by decide +kernel
theorem dX3_fewest_10 : decode cX3_fewest 10 = .ok (.iconst 0, 1) := by decide +kernel
theorem dX3_fewest_11 : decode cX3_fewest 11 = .ok (.ireturn, 1) := by decide +kernel
theorem dX3_fewest_12 : decode cX3_fewest 12 = .ok (.iconst 1, 1) := by decide +kernel
theorem dX3_fewest_13 : decode cX3_fewest 13 = .ok (.istore_n 1, 1) := by decide +kernel
theorem dX3_fewest_14 : decode cX3_fewest 14 = .ok (.iload_n 1, 1) := by decide +kernel
theorem dX3_fewest_15 : decode cX3_fewest 15 = .ok (.bipush 16, 2) := by decide +kernel
theorem dX3_fewest_17 : decode cX3_fewest 17 = .ok (.if_icmp .ge 19, 3) := by decide +kernel
theorem dX3_fewest_20 : decode cX3_fewest 20 = .ok (.aload_n 0, 1) := by decide +kernel
theorem dX3_fewest_21 : decode cX3_fewest 21 = .ok (.iload_n 1, 1) := by decide +kernel
theorem dX3_fewest_22 : decode cX3_fewest 22 = .ok (.invokevirtual 177, 3) := by decide +kernel
theorem dX3_fewest_25 : decode cX3_fewest 25 = .ok (.ifCond .ne 5, 3) := by decide +kernel
theorem dX3_fewest_28 : decode cX3_fewest 28 = .ok (.iload_n 1, 1) := by decide +kernel
theorem dX3_fewest_29 : decode cX3_fewest 29 = .ok (.ireturn, 1) := by decide +kernel
theorem dX3_fewest_30 : decode cX3_fewest 30 = .ok (.iinc 1 1, 3) := by decide +kernel
theorem dX3_fewest_33 : decode cX3_fewest 33 = .ok (.goto (-19), 3) := by decide +kernel
theorem dX3_fewest_36 : decode cX3_fewest 36 = .ok (.bipush 16, 2) := by decide +kernel
theorem dX3_fewest_38 : decode cX3_fewest 38 = .ok (.ireturn, 1) := by decide +kernel
theorem dX3_advise_0 : decode cX3_advise 0 = .ok (.iconst (-1), 1) := by decide +kernel
theorem dX3_advise_1 : decode cX3_advise 1 = .ok (.istore_n 1, 1) := by decide +kernel
theorem dX3_advise_2 : decode cX3_advise 2 = .ok (.iconst 0, 1) := by decide +kernel
theorem dX3_advise_3 : decode cX3_advise 3 = .ok (.istore_n 2, 1) := by decide +kernel
theorem dX3_advise_4 : decode cX3_advise 4 = .ok (.iconst 0, 1) := by decide +kernel
theorem dX3_advise_5 : decode cX3_advise 5 = .ok (.istore_n 3, 1) := by decide +kernel
theorem dX3_advise_6 : decode cX3_advise 6 = .ok (.iload_n 3, 1) := by decide +kernel
theorem dX3_advise_7 : decode cX3_advise 7 = .ok (.aload_n 0, 1) := by decide +kernel
theorem dX3_advise_8 : decode cX3_advise 8 = .ok (.getfield 10, 3) := by decide +kernel
theorem dX3_advise_11 : decode cX3_advise 11 = .ok (.getfield 66, 3) := by decide +kernel
theorem dX3_advise_14 : decode cX3_advise 14 = .ok (.if_icmp .ge 32, 3) := by decide +kernel
theorem dX3_advise_17 : decode cX3_advise 17 = .ok (.aload_n 0, 1) := by decide +kernel
theorem dX3_advise_18 : decode cX3_advise 18 = .ok (.iload_n 3, 1) := by decide +kernel
theorem dX3_advise_19 : decode cX3_advise 19 = .ok (.invokevirtual 180, 3) := by decide +kernel
theorem dX3_advise_22 : decode cX3_advise 22 = .ok (.istore 4, 2) := by decide +kernel
theorem dX3_advise_24 : decode cX3_advise 24 = .ok (.iload_n 1, 1) := by decide +kernel
theorem dX3_advise_25 : decode cX3_advise 25 = .ok (.iconst (-1), 1) := by decide +kernel
theorem dX3_advise_26 : decode cX3_advise 26 = .ok (.if_icmp .eq 9, 3) := by decide +kernel
theorem dX3_advise_29 : decode cX3_advise 29 = .ok (.iload 4, 2) := by decide +kernel
theorem dX3_advise_31 : decode cX3_advise 31 = .ok (.iload_n 2, 1) := by decide +kernel
theorem dX3_advise_32 : decode cX3_advise 32 = .ok (.if_icmp .ge 8, 3) := by decide +kernel
theorem dX3_advise_35 : decode cX3_advise 35 = .ok (.iload_n 3, 1) := by decide +kernel
theorem dX3_advise_36 : decode cX3_advise 36 = .ok (.istore_n 1, 1) := by decide +kernel
theorem dX3_advise_37 : decode cX3_advise 37 = .ok (.iload 4, 2) := by decide +kernel
theorem dX3_advise_39 : decode cX3_advise 39 = .ok (.istore_n 2, 1) := by decide +kernel
theorem dX3_advise_40 : decode cX3_advise 40 = .ok (.iinc 3 1, 3) := by decide +kernel
theorem dX3_advise_43 : decode cX3_advise 43 = .ok (.goto (-37), 3) := by decide +kernel
theorem dX3_advise_46 : decode cX3_advise 46 = .ok (.iload_n 1, 1) := by decide +kernel
theorem dX3_advise_47 : decode cX3_advise 47 = .ok (.ireturn, 1) := by decide +kernel
theorem dX3_mean_0 : decode cX3_mean 0 = .ok (.aload_n 0, 1) := by decide +kernel
theorem dX3_mean_1 : decode cX3_mean 1 = .ok (.getfield 10, 3) := by decide +kernel
theorem dX3_mean_4 : decode cX3_mean 4 = .ok (.getfield 66, 3) := by decide +kernel
theorem dX3_mean_7 : decode cX3_mean 7 = .ok (.ifCond .ne 5, 3) := by decide +kernel
theorem dX3_mean_10 : decode cX3_mean 10 = .ok (.dconst 0, 1) := by decide +kernel
theorem dX3_mean_11 : decode cX3_mean 11 = .ok (.dreturn, 1) := by decide +kernel
theorem dX3_mean_12 : decode cX3_mean 12 = .ok (.iconst 0, 1) := by decide +kernel
theorem dX3_mean_13 : decode cX3_mean 13 = .ok (.istore_n 1, 1) := by decide +kernel
theorem dX3_mean_14 : decode cX3_mean 14 = .ok (.iconst 0, 1) := by decide +kernel
theorem dX3_mean_15 : decode cX3_mean 15 = .ok (.istore_n 2, 1) := by decide +kernel
theorem dX3_mean_16 : decode cX3_mean 16 = .ok (.iload_n 2, 1) := by decide +kernel
theorem dX3_mean_17 : decode cX3_mean 17 = .ok (.aload_n 0, 1) := by decide +kernel
theorem dX3_mean_18 : decode cX3_mean 18 = .ok (.getfield 10, 3) := by decide +kernel
theorem dX3_mean_21 : decode cX3_mean 21 = .ok (.getfield 66, 3) := by decide +kernel
theorem dX3_mean_24 : decode cX3_mean 24 = .ok (.if_icmp .ge 24, 3) := by decide +kernel
theorem dX3_mean_27 : decode cX3_mean 27 = .ok (.iload_n 1, 1) := by decide +kernel
theorem dX3_mean_28 : decode cX3_mean 28 = .ok (.aload_n 0, 1) := by decide +kernel
theorem dX3_mean_29 : decode cX3_mean 29 = .ok (.getfield 19, 3) := by decide +kernel
theorem dX3_mean_32 : decode cX3_mean 32 = .ok (.getfield 104, 3) := by decide +kernel
theorem dX3_mean_35 : decode cX3_mean 35 = .ok (.iload_n 2, 1) := by decide +kernel
theorem dX3_mean_36 : decode cX3_mean 36 = .ok (.iaload, 1) := by decide +kernel
theorem dX3_mean_37 : decode cX3_mean 37 = .ok (.invokestatic 107, 3) := by decide +kernel
theorem dX3_mean_40 : decode cX3_mean 40 = .ok (.iadd, 1) := by decide +kernel
theorem dX3_mean_41 : decode cX3_mean 41 = .ok (.istore_n 1, 1) := by decide +kernel
theorem dX3_mean_42 : decode cX3_mean 42 = .ok (.iinc 2 1, 3) := by decide +kernel
theorem dX3_mean_45 : decode cX3_mean 45 = .ok (.goto (-29), 3) := by decide +kernel
theorem dX3_mean_48 : decode cX3_mean 48 = .ok (.iload_n 1, 1) := by decide +kernel
theorem dX3_mean_49 : decode cX3_mean 49 = .ok (.i2d, 1) := by decide +kernel
theorem dX3_mean_50 : decode cX3_mean 50 = .ok (.aload_n 0, 1) := by decide +kernel
theorem dX3_mean_51 : decode cX3_mean 51 = .ok (.getfield 10, 3) := by decide +kernel
theorem dX3_mean_54 : decode cX3_mean 54 = .ok (.getfield 66, 3) := by decide +kernel
theorem dX3_mean_57 : decode cX3_mean 57 = .ok (.i2d, 1) := by decide +kernel
theorem dX3_mean_58 : decode cX3_mean 58 = .ok (.ddiv, 1) := by decide +kernel
theorem dX3_mean_59 : decode cX3_mean 59 = .ok (.dreturn, 1) := by decide +kernel
theorem dX3_digest_0 : decode cX3_digest 0 = .ok (.ldc2_w 183, 3) := by decide +kernel
theorem dX3_digest_3 : decode cX3_digest 3 = .ok (.lstore_n 1, 1) := by decide +kernel
theorem dX3_digest_4 : decode cX3_digest 4 = .ok (.iconst 0, 1) := by decide +kernel
theorem dX3_digest_5 : decode cX3_digest 5 = .ok (.istore_n 3, 1) := by decide +kernel
theorem dX3_digest_6 : decode cX3_digest 6 = .ok (.iload_n 3, 1) := by decide +kernel
theorem dX3_digest_7 : decode cX3_digest 7 = .ok (.bipush 10, 2) := by decide +kernel
theorem dX3_digest_9 : decode cX3_digest 9 = .ok (.if_icmp .ge 20, 3) := by decide +kernel
theorem dX3_digest_12 : decode cX3_digest 12 = .ok (.lload_n 1, 1) := by decide +kernel
theorem dX3_digest_13 : decode cX3_digest 13 = .ok (.aload_n 0, 1) := by decide +kernel
theorem dX3_digest_14 : decode cX3_digest 14 = .ok (.iload_n 3, 1) := by decide +kernel
theorem dX3_digest_15 : decode cX3_digest 15 = .ok (.invokevirtual 185, 3) := by decide +kernel
theorem dX3_digest_18 : decode cX3_digest 18 = .ok (.i2l, 1) := by decide +kernel
theorem dX3_digest_19 : decode cX3_digest 19 = .ok (.invokestatic 188, 3) := by decide +kernel
theorem dX3_digest_22 : decode cX3_digest 22 = .ok (.lstore_n 1, 1) := by decide +kernel
theorem dX3_digest_23 : decode cX3_digest 23 = .ok (.iinc 3 1, 3) := by decide +kernel
theorem dX3_digest_26 : decode cX3_digest 26 = .ok (.goto (-20), 3) := by decide +kernel
theorem dX3_digest_29 : decode cX3_digest 29 = .ok (.iconst 0, 1) := by decide +kernel
theorem dX3_digest_30 : decode cX3_digest 30 = .ok (.istore_n 3, 1) := by decide +kernel
theorem dX3_digest_31 : decode cX3_digest 31 = .ok (.iload_n 3, 1) := by decide +kernel
theorem dX3_digest_32 : decode cX3_digest 32 = .ok (.aload_n 0, 1) := by decide +kernel
theorem dX3_digest_33 : decode cX3_digest 33 = .ok (.getfield 10, 3) := by decide +kernel
theorem dX3_digest_36 : decode cX3_digest 36 = .ok (.getfield 66, 3) := by decide +kernel
theorem dX3_digest_39 : decode cX3_digest 39 = .ok (.if_icmp .ge 38, 3) := by decide +kernel
theorem dX3_digest_42 : decode cX3_digest 42 = .ok (.iconst 0, 1) := by decide +kernel
theorem dX3_digest_43 : decode cX3_digest 43 = .ok (.istore 4, 2) := by decide +kernel
theorem dX3_digest_45 : decode cX3_digest 45 = .ok (.iload 4, 2) := by decide +kernel
theorem dX3_digest_47 : decode cX3_digest 47 = .ok (.bipush 7, 2) := by decide +kernel
theorem dX3_digest_49 : decode cX3_digest 49 = .ok (.if_icmp .ge 22, 3) := by decide +kernel
theorem dX3_digest_52 : decode cX3_digest 52 = .ok (.lload_n 1, 1) := by decide +kernel
theorem dX3_digest_53 : decode cX3_digest 53 = .ok (.aload_n 0, 1) := by decide +kernel
theorem dX3_digest_54 : decode cX3_digest 54 = .ok (.iload_n 3, 1) := by decide +kernel
theorem dX3_digest_55 : decode cX3_digest 55 = .ok (.iload 4, 2) := by decide +kernel
theorem dX3_digest_57 : decode cX3_digest 57 = .ok (.invokevirtual 192, 3) := by decide +kernel
theorem dX3_digest_60 : decode cX3_digest 60 = .ok (.i2l, 1) := by decide +kernel
theorem dX3_digest_61 : decode cX3_digest 61 = .ok (.invokestatic 188, 3) := by decide +kernel
theorem dX3_digest_64 : decode cX3_digest 64 = .ok (.lstore_n 1, 1) := by decide +kernel
theorem dX3_digest_65 : decode cX3_digest 65 = .ok (.iinc 4 1, 3) := by decide +kernel
theorem dX3_digest_68 : decode cX3_digest 68 = .ok (.goto (-23), 3) := by decide +kernel
theorem dX3_digest_71 : decode cX3_digest 71 = .ok (.iinc 3 1, 3) := by decide +kernel
theorem dX3_digest_74 : decode cX3_digest 74 = .ok (.goto (-43), 3) := by decide +kernel
theorem dX3_digest_77 : decode cX3_digest 77 = .ok (.iconst 0, 1) := by decide +kernel
theorem dX3_digest_78 : decode cX3_digest 78 = .ok (.istore_n 3, 1) := by decide +kernel
theorem dX3_digest_79 : decode cX3_digest 79 = .ok (.iload_n 3, 1) := by decide +kernel
theorem dX3_digest_80 : decode cX3_digest 80 = .ok (.bipush 16, 2) := by decide +kernel
theorem dX3_digest_82 : decode cX3_digest 82 = .ok (.if_icmp .ge 74, 3) := by decide +kernel
theorem dX3_digest_85 : decode cX3_digest 85 = .ok (.iconst 0, 1) := by decide +kernel
theorem dX3_digest_86 : decode cX3_digest 86 = .ok (.istore 4, 2) := by decide +kernel
theorem dX3_digest_88 : decode cX3_digest 88 = .ok (.iload 4, 2) := by decide +kernel
theorem dX3_digest_90 : decode cX3_digest 90 = .ok (.bipush 6, 2) := by decide +kernel
theorem dX3_digest_92 : decode cX3_digest 92 = .ok (.if_icmp .ge 22, 3) := by decide +kernel
theorem dX3_digest_95 : decode cX3_digest 95 = .ok (.lload_n 1, 1) := by decide +kernel
theorem dX3_digest_96 : decode cX3_digest 96 = .ok (.aload_n 0, 1) := by decide +kernel
theorem dX3_digest_97 : decode cX3_digest 97 = .ok (.iload_n 3, 1) := by decide +kernel
theorem dX3_digest_98 : decode cX3_digest 98 = .ok (.iload 4, 2) := by decide +kernel
theorem dX3_digest_100 : decode cX3_digest 100 = .ok (.invokevirtual 195, 3) := by decide +kernel
theorem dX3_digest_103 : decode cX3_digest 103 = .ok (.i2l, 1) := by decide +kernel
theorem dX3_digest_104 : decode cX3_digest 104 = .ok (.invokestatic 188, 3) := by decide +kernel
theorem dX3_digest_107 : decode cX3_digest 107 = .ok (.lstore_n 1, 1) := by decide +kernel
theorem dX3_digest_108 : decode cX3_digest 108 = .ok (.iinc 4 1, 3) := by decide +kernel
theorem dX3_digest_111 : decode cX3_digest 111 = .ok (.goto (-23), 3) := by decide +kernel
theorem dX3_digest_114 : decode cX3_digest 114 = .ok (.lload_n 1, 1) := by decide +kernel
theorem dX3_digest_115 : decode cX3_digest 115 = .ok (.aload_n 0, 1) := by decide +kernel
theorem dX3_digest_116 : decode cX3_digest 116 = .ok (.getfield 39, 3) := by decide +kernel
theorem dX3_digest_119 : decode cX3_digest 119 = .ok (.iload_n 3, 1) := by decide +kernel
theorem dX3_digest_120 : decode cX3_digest 120 = .ok (.invokestatic 69, 3) := by decide +kernel
theorem dX3_digest_123 : decode cX3_digest 123 = .ok (.ifCond .eq 7, 3) := by decide +kernel
theorem dX3_digest_126 : decode cX3_digest 126 = .ok (.lconst 1, 1) := by decide +kernel
theorem dX3_digest_127 : decode cX3_digest 127 = .ok (.goto 4, 3) := by decide +kernel
theorem dX3_digest_130 : decode cX3_digest 130 = .ok (.lconst 0, 1) := by decide +kernel
theorem dX3_digest_131 : decode cX3_digest 131 = .ok (.invokestatic 188, 3) := by decide +kernel
theorem dX3_digest_134 : decode cX3_digest 134 = .ok (.lstore_n 1, 1) := by decide +kernel
theorem dX3_digest_135 : decode cX3_digest 135 = .ok (.lload_n 1, 1) := by decide +kernel
theorem dX3_digest_136 : decode cX3_digest 136 = .ok (.aload_n 0, 1) := by decide +kernel
theorem dX3_digest_137 : decode cX3_digest 137 = .ok (.getfield 19, 3) := by decide +kernel
theorem dX3_digest_140 : decode cX3_digest 140 = .ok (.getfield 120, 3) := by decide +kernel
theorem dX3_digest_143 : decode cX3_digest 143 = .ok (.iload_n 3, 1) := by decide +kernel
theorem dX3_digest_144 : decode cX3_digest 144 = .ok (.iaload, 1) := by decide +kernel
theorem dX3_digest_145 : decode cX3_digest 145 = .ok (.i2l, 1) := by decide +kernel
theorem dX3_digest_146 : decode cX3_digest 146 = .ok (.invokestatic 188, 3) := by decide +kernel
theorem dX3_digest_149 : decode cX3_digest 149 = .ok (.lstore_n 1, 1) := by decide +kernel
theorem dX3_digest_150 : decode cX3_digest 150 = .ok (.iinc 3 1, 3) := by decide +kernel
theorem dX3_digest_153 : decode cX3_digest 153 = .ok (.goto (-74), 3) := by decide +kernel
theorem dX3_digest_156 : decode cX3_digest 156 = .ok (.lload_n 1, 1) := by decide +kernel
theorem dX3_digest_157 : decode cX3_digest 157 = .ok (.lreturn, 1) := by decide +kernel
theorem dX3_digested_0 : decode cX3_digested 0 = .ok (.lload_n 0, 1) := by decide +kernel
theorem dX3_digested_1 : decode cX3_digested 1 = .ok (.ldc2_w 198, 3) := by decide +kernel
theorem dX3_digested_4 : decode cX3_digested 4 = .ok (.lmul, 1) := by decide +kernel
theorem dX3_digested_5 : decode cX3_digested 5 = .ok (.lload_n 2, 1) := by decide +kernel
theorem dX3_digested_6 : decode cX3_digested 6 = .ok (.ladd, 1) := by decide +kernel
theorem dX3_digested_7 : decode cX3_digested 7 = .ok (.lreturn, 1) := by decide +kernel
theorem dX3_settle_0 : decode cX3_settle 0 = .ok (.aload_n 0, 1) := by decide +kernel
theorem dX3_settle_1 : decode cX3_settle 1 = .ok (.getfield 19, 3) := by decide +kernel
theorem dX3_settle_4 : decode cX3_settle 4 = .ok (.aload_n 0, 1) := by decide +kernel
theorem dX3_settle_5 : decode cX3_settle 5 = .ok (.getfield 10, 3) := by decide +kernel
theorem dX3_settle_8 : decode cX3_settle 8 = .ok (.aload_n 0, 1) := by decide +kernel
theorem dX3_settle_9 : decode cX3_settle 9 = .ok (.getfield 39, 3) := by decide +kernel
theorem dX3_settle_12 : decode cX3_settle 12 = .ok (.invokevirtual 200, 3) := by decide +kernel
theorem dX3_settle_15 : decode cX3_settle 15 = .ok (.aload_n 0, 1) := by decide +kernel
theorem dX3_settle_16 : decode cX3_settle 16 = .ok (.getfield 26, 3) := by decide +kernel
theorem dX3_settle_19 : decode cX3_settle 19 = .ok (.aload_n 0, 1) := by decide +kernel
theorem dX3_settle_20 : decode cX3_settle 20 = .ok (.getfield 19, 3) := by decide +kernel
theorem dX3_settle_23 : decode cX3_settle 23 = .ok (.aload_n 0, 1) := by decide +kernel
theorem dX3_settle_24 : decode cX3_settle 24 = .ok (.getfield 43, 3) := by decide +kernel
theorem dX3_settle_27 : decode cX3_settle 27 = .ok (.invokevirtual 204, 3) := by decide +kernel
theorem dX3_settle_30 : decode cX3_settle 30 = .ok (.return_, 1) := by decide +kernel
theorem dX3_floorWith_0 : decode cX3_floorWith 0 = .ok (.aload_n 0, 1) := by decide +kernel
theorem dX3_floorWith_1 : decode cX3_floorWith 1 = .ok (.getfield 36, 3) := by decide +kernel
theorem dX3_floorWith_4 : decode cX3_floorWith 4 = .ok (.aload_n 0, 1) := by decide +kernel
theorem dX3_floorWith_5 : decode cX3_floorWith 5 = .ok (.getfield 19, 3) := by decide +kernel
theorem dX3_floorWith_8 : decode cX3_floorWith 8 = .ok (.iload_n 1, 1) := by decide +kernel
theorem dX3_floorWith_9 : decode cX3_floorWith 9 = .ok (.invokevirtual 204, 3) := by decide +kernel
theorem dX3_floorWith_12 : decode cX3_floorWith 12 = .ok (.aload_n 0, 1) := by decide +kernel
theorem dX3_floorWith_13 : decode cX3_floorWith 13 = .ok (.getfield 36, 3) := by decide +kernel
theorem dX3_floorWith_16 : decode cX3_floorWith 16 = .ok (.getfield 135, 3) := by decide +kernel
theorem dX3_floorWith_19 : decode cX3_floorWith 19 = .ok (.invokestatic 107, 3) := by decide +kernel
theorem dX3_floorWith_22 : decode cX3_floorWith 22 = .ok (.ireturn, 1) := by decide +kernel
theorem dX3_floorCostWithout_0 : decode cX3_floorCostWithout 0 = .ok (.aload_n 0, 1) := by decide +kernel
theorem dX3_floorCostWithout_1 : decode cX3_floorCostWithout 1 = .ok (.getfield 30, 3) := by decide +kernel
theorem dX3_floorCostWithout_4 : decode cX3_floorCostWithout 4 = .ok (.aload_n 0, 1) := by decide +kernel
theorem dX3_floorCostWithout_5 : decode cX3_floorCostWithout 5 = .ok (.getfield 10, 3) := by decide +kernel
theorem dX3_floorCostWithout_8 : decode cX3_floorCostWithout 8 = .ok (.invokevirtual 207, 3) := by decide +kernel
theorem dX3_floorCostWithout_11 : decode cX3_floorCostWithout 11 = .ok (.aload_n 0, 1) := by decide +kernel
theorem dX3_floorCostWithout_12 : decode cX3_floorCostWithout 12 = .ok (.getfield 30, 3) := by decide +kernel
theorem dX3_floorCostWithout_15 : decode cX3_floorCostWithout 15 = .ok (.iload_n 1, 1) := by decide +kernel
theorem dX3_floorCostWithout_16 : decode cX3_floorCostWithout 16 = .ok (.invokevirtual 63, 3) := by decide +kernel
theorem dX3_floorCostWithout_19 : decode cX3_floorCostWithout 19 = .ok (.aload_n 0, 1) := by decide +kernel
theorem dX3_floorCostWithout_20 : decode cX3_floorCostWithout 20 = .ok (.getfield 33, 3) := by decide +kernel
theorem dX3_floorCostWithout_23 : decode cX3_floorCostWithout 23 = .ok (.aload_n 0, 1) := by decide +kernel
theorem dX3_floorCostWithout_24 : decode cX3_floorCostWithout 24 = .ok (.getfield 30, 3) := by decide +kernel
theorem dX3_floorCostWithout_27 : decode cX3_floorCostWithout 27 = .ok (.aload_n 0, 1) := by decide +kernel
theorem dX3_floorCostWithout_28 : decode cX3_floorCostWithout 28 = .ok (.getfield 39, 3) := by decide +kernel
theorem dX3_floorCostWithout_31 : decode cX3_floorCostWithout 31 = .ok (.invokevirtual 200, 3) := by decide +kernel
theorem dX3_floorCostWithout_34 : decode cX3_floorCostWithout 34 = .ok (.aload_n 0, 1) := by decide +kernel
theorem dX3_floorCostWithout_35 : decode cX3_floorCostWithout 35 = .ok (.getfield 36, 3) := by decide +kernel
theorem dX3_floorCostWithout_38 : decode cX3_floorCostWithout 38 = .ok (.aload_n 0, 1) := by decide +kernel
theorem dX3_floorCostWithout_39 : decode cX3_floorCostWithout 39 = .ok (.getfield 33, 3) := by decide +kernel
theorem dX3_floorCostWithout_42 : decode cX3_floorCostWithout 42 = .ok (.aload_n 0, 1) := by decide +kernel
theorem dX3_floorCostWithout_43 : decode cX3_floorCostWithout 43 = .ok (.getfield 43, 3) := by decide +kernel
theorem dX3_floorCostWithout_46 : decode cX3_floorCostWithout 46 = .ok (.invokevirtual 204, 3) := by decide +kernel
theorem dX3_floorCostWithout_49 : decode cX3_floorCostWithout 49 = .ok (.aload_n 0, 1) := by decide +kernel
theorem dX3_floorCostWithout_50 : decode cX3_floorCostWithout 50 = .ok (.getfield 33, 3) := by decide +kernel
theorem dX3_floorCostWithout_53 : decode cX3_floorCostWithout 53 = .ok (.aload_n 0, 1) := by decide +kernel
theorem dX3_floorCostWithout_54 : decode cX3_floorCostWithout 54 = .ok (.getfield 36, 3) := by decide +kernel
theorem dX3_floorCostWithout_57 : decode cX3_floorCostWithout 57 = .ok (.getfield 135, 3) := by decide +kernel
theorem dX3_floorCostWithout_60 : decode cX3_floorCostWithout 60 = .ok (.invokevirtual 153, 3) := by decide +kernel
theorem dX3_floorCostWithout_63 : decode cX3_floorCostWithout 63 = .ok (.ireturn, 1) := by decide +kernel
theorem dX3_pourings_0 : decode cX3_pourings 0 = .ok (.iconst 0, 1) := by decide +kernel
theorem dX3_pourings_1 : decode cX3_pourings 1 = .ok (.istore_n 1, 1) := by decide +kernel
theorem dX3_pourings_2 : decode cX3_pourings 2 = .ok (.iconst 0, 1) := by decide +kernel
theorem dX3_pourings_3 : decode cX3_pourings 3 = .ok (.istore_n 2, 1) := by decide +kernel
theorem dX3_pourings_4 : decode cX3_pourings 4 = .ok (.iload_n 2, 1) := by decide +kernel
theorem dX3_pourings_5 : decode cX3_pourings 5 = .ok (.aload_n 0, 1) := by decide +kernel
theorem dX3_pourings_6 : decode cX3_pourings 6 = .ok (.getfield 10, 3) := by decide +kernel
theorem dX3_pourings_9 : decode cX3_pourings 9 = .ok (.getfield 66, 3) := by decide +kernel
theorem dX3_pourings_12 : decode cX3_pourings 12 = .ok (.if_icmp .ge 24, 3) := by decide +kernel
theorem dX3_pourings_15 : decode cX3_pourings 15 = .ok (.aload_n 0, 1) := by decide +kernel
theorem dX3_pourings_16 : decode cX3_pourings 16 = .ok (.getfield 10, 3) := by decide +kernel
theorem dX3_pourings_19 : decode cX3_pourings 19 = .ok (.getfield 100, 3) := by decide +kernel
theorem dX3_pourings_22 : decode cX3_pourings 22 = .ok (.iload_n 2, 1) := by decide +kernel
theorem dX3_pourings_23 : decode cX3_pourings 23 = .ok (.baload, 1) := by decide +kernel
theorem dX3_pourings_24 : decode cX3_pourings 24 = .ok (.ifCond .eq 6, 3) := by decide +kernel
theorem dX3_pourings_27 : decode cX3_pourings 27 = .ok (.iinc 1 1, 3) := by decide +kernel
theorem dX3_pourings_30 : decode cX3_pourings 30 = .ok (.iinc 2 1, 3) := by decide +kernel
theorem dX3_pourings_33 : decode cX3_pourings 33 = .ok (.goto (-29), 3) := by decide +kernel
theorem dX3_pourings_36 : decode cX3_pourings 36 = .ok (.iload_n 1, 1) := by decide +kernel
theorem dX3_pourings_37 : decode cX3_pourings 37 = .ok (.ireturn, 1) := by decide +kernel
theorem dX3_pouringsSpared_0 : decode cX3_pouringsSpared 0 = .ok (.iconst 0, 1) := by decide +kernel
theorem dX3_pouringsSpared_1 : decode cX3_pouringsSpared 1 = .ok (.istore_n 1, 1) := by decide +kernel
theorem dX3_pouringsSpared_2 : decode cX3_pouringsSpared 2 = .ok (.iconst 0, 1) := by decide +kernel
theorem dX3_pouringsSpared_3 : decode cX3_pouringsSpared 3 = .ok (.istore_n 2, 1) := by decide +kernel
theorem dX3_pouringsSpared_4 : decode cX3_pouringsSpared 4 = .ok (.iload_n 2, 1) := by decide +kernel
theorem dX3_pouringsSpared_5 : decode cX3_pouringsSpared 5 = .ok (.aload_n 0, 1) := by decide +kernel
theorem dX3_pouringsSpared_6 : decode cX3_pouringsSpared 6 = .ok (.getfield 10, 3) := by decide +kernel
theorem dX3_pouringsSpared_9 : decode cX3_pouringsSpared 9 = .ok (.getfield 66, 3) := by decide +kernel
theorem dX3_pouringsSpared_12 : decode cX3_pouringsSpared 12 = .ok (.if_icmp .ge 20, 3) := by decide +kernel
theorem dX3_pouringsSpared_15 : decode cX3_pouringsSpared 15 = .ok (.aload_n 0, 1) := by decide +kernel
theorem dX3_pouringsSpared_16 : decode cX3_pouringsSpared 16 = .ok (.iload_n 2, 1) := by decide +kernel
theorem dX3_pouringsSpared_17 : decode cX3_pouringsSpared 17 = .ok (.invokevirtual 211, 3) := by decide +kernel
theorem dX3_pouringsSpared_20 : decode cX3_pouringsSpared 20 = .ok (.ifCond .eq 6, 3) := by decide +kernel
theorem dX3_pouringsSpared_23 : decode cX3_pouringsSpared 23 = .ok (.iinc 1 1, 3) := by decide +kernel
theorem dX3_pouringsSpared_26 : decode cX3_pouringsSpared 26 = .ok (.iinc 2 1, 3) := by decide +kernel
theorem dX3_pouringsSpared_29 : decode cX3_pouringsSpared 29 = .ok (.goto (-25), 3) := by decide +kernel
theorem dX3_pouringsSpared_32 : decode cX3_pouringsSpared 32 = .ok (.iload_n 1, 1) := by decide +kernel
theorem dX3_pouringsSpared_33 : decode cX3_pouringsSpared 33 = .ok (.ireturn, 1) := by decide +kernel
theorem dX3_weightsNotSpared_0 : decode cX3_weightsNotSpared 0 = .ok (.iconst 0, 1) := by decide +kernel
theorem dX3_weightsNotSpared_1 : decode cX3_weightsNotSpared 1 = .ok (.istore_n 1, 1) := by decide +kernel
theorem dX3_weightsNotSpared_2 : decode cX3_weightsNotSpared 2 = .ok (.iconst 0, 1) := by decide +kernel
theorem dX3_weightsNotSpared_3 : decode cX3_weightsNotSpared 3 = .ok (.istore_n 2, 1) := by decide +kernel
theorem dX3_weightsNotSpared_4 : decode cX3_weightsNotSpared 4 = .ok (.iload_n 2, 1) := by decide +kernel
theorem dX3_weightsNotSpared_5 : decode cX3_weightsNotSpared 5 = .ok (.aload_n 0, 1) := by decide +kernel
theorem dX3_weightsNotSpared_6 : decode cX3_weightsNotSpared 6 = .ok (.getfield 10, 3) := by decide +kernel
theorem dX3_weightsNotSpared_9 : decode cX3_weightsNotSpared 9 = .ok (.getfield 66, 3) := by decide +kernel
theorem dX3_weightsNotSpared_12 : decode cX3_weightsNotSpared 12 = .ok (.if_icmp .ge 29, 3) := by decide +kernel
theorem dX3_weightsNotSpared_15 : decode cX3_weightsNotSpared 15 = .ok (.aload_n 0, 1) := by decide +kernel
theorem dX3_weightsNotSpared_16 : decode cX3_weightsNotSpared 16 = .ok (.iload_n 2, 1) := by decide +kernel
theorem dX3_weightsNotSpared_17 : decode cX3_weightsNotSpared 17 = .ok (.invokevirtual 211, 3) := by decide +kernel
theorem dX3_weightsNotSpared_20 : decode cX3_weightsNotSpared 20 = .ok (.ifCond .ne 15, 3) := by decide +kernel
theorem dX3_weightsNotSpared_23 : decode cX3_weightsNotSpared 23 = .ok (.iload_n 1, 1) := by decide +kernel
theorem dX3_weightsNotSpared_24 : decode cX3_weightsNotSpared 24 = .ok (.aload_n 0, 1) := by decide +kernel
theorem dX3_weightsNotSpared_25 : decode cX3_weightsNotSpared 25 = .ok (.getfield 10, 3) := by decide +kernel
theorem dX3_weightsNotSpared_28 : decode cX3_weightsNotSpared 28 = .ok (.getfield 97, 3) := by decide +kernel
theorem dX3_weightsNotSpared_31 : decode cX3_weightsNotSpared 31 = .ok (.iload_n 2, 1) := by decide +kernel
theorem dX3_weightsNotSpared_32 : decode cX3_weightsNotSpared 32 = .ok (.iaload, 1) := by decide +kernel
theorem dX3_weightsNotSpared_33 : decode cX3_weightsNotSpared 33 = .ok (.iadd, 1) := by decide +kernel
theorem dX3_weightsNotSpared_34 : decode cX3_weightsNotSpared 34 = .ok (.istore_n 1, 1) := by decide +kernel
theorem dX3_weightsNotSpared_35 : decode cX3_weightsNotSpared 35 = .ok (.iinc 2 1, 3) := by decide +kernel
theorem dX3_weightsNotSpared_38 : decode cX3_weightsNotSpared 38 = .ok (.goto (-34), 3) := by decide +kernel
theorem dX3_weightsNotSpared_41 : decode cX3_weightsNotSpared 41 = .ok (.iload_n 1, 1) := by decide +kernel
theorem dX3_weightsNotSpared_42 : decode cX3_weightsNotSpared 42 = .ok (.ireturn, 1) := by decide +kernel
theorem dX3_isSpared_0 : decode cX3_isSpared 0 = .ok (.aload_n 0, 1) := by decide +kernel
theorem dX3_isSpared_1 : decode cX3_isSpared 1 = .ok (.getfield 10, 3) := by decide +kernel
theorem dX3_isSpared_4 : decode cX3_isSpared 4 = .ok (.getfield 100, 3) := by decide +kernel
theorem dX3_isSpared_7 : decode cX3_isSpared 7 = .ok (.iload_n 1, 1) := by decide +kernel
theorem dX3_isSpared_8 : decode cX3_isSpared 8 = .ok (.baload, 1) := by decide +kernel
theorem dX3_isSpared_9 : decode cX3_isSpared 9 = .ok (.ifCond .eq 35, 3) := by decide +kernel
theorem dX3_isSpared_12 : decode cX3_isSpared 12 = .ok (.aload_n 0, 1) := by decide +kernel
theorem dX3_isSpared_13 : decode cX3_isSpared 13 = .ok (.getfield 26, 3) := by decide +kernel
theorem dX3_isSpared_16 : decode cX3_isSpared 16 = .ok (.aload_n 0, 1) := by decide +kernel
theorem dX3_isSpared_17 : decode cX3_isSpared 17 = .ok (.getfield 10, 3) := by decide +kernel
theorem dX3_isSpared_20 : decode cX3_isSpared 20 = .ok (.getfield 87, 3) := by decide +kernel
theorem dX3_isSpared_23 : decode cX3_isSpared 23 = .ok (.iload_n 1, 1) := by decide +kernel
theorem dX3_isSpared_24 : decode cX3_isSpared 24 = .ok (.iaload, 1) := by decide +kernel
theorem dX3_isSpared_25 : decode cX3_isSpared 25 = .ok (.aload_n 0, 1) := by decide +kernel
theorem dX3_isSpared_26 : decode cX3_isSpared 26 = .ok (.getfield 10, 3) := by decide +kernel
theorem dX3_isSpared_29 : decode cX3_isSpared 29 = .ok (.getfield 91, 3) := by decide +kernel
theorem dX3_isSpared_32 : decode cX3_isSpared 32 = .ok (.iload_n 1, 1) := by decide +kernel
theorem dX3_isSpared_33 : decode cX3_isSpared 33 = .ok (.iaload, 1) := by decide +kernel
theorem dX3_isSpared_34 : decode cX3_isSpared 34 = .ok (.invokevirtual 215, 3) := by decide +kernel
theorem dX3_isSpared_37 : decode cX3_isSpared 37 = .ok (.ifCond .eq 7, 3) := by decide +kernel
theorem dX3_isSpared_40 : decode cX3_isSpared 40 = .ok (.iconst 1, 1) := by decide +kernel
theorem dX3_isSpared_41 : decode cX3_isSpared 41 = .ok (.goto 4, 3) := by decide +kernel
theorem dX3_isSpared_44 : decode cX3_isSpared 44 = .ok (.iconst 0, 1) := by decide +kernel
theorem dX3_isSpared_45 : decode cX3_isSpared 45 = .ok (.ireturn, 1) := by decide +kernel
theorem dX3_requireDeed_0 : decode cX3_requireDeed 0 = .ok (.iload_n 1, 1) := by decide +kernel
theorem dX3_requireDeed_1 : decode cX3_requireDeed 1 = .ok (.ifCond .lt 14, 3) := by decide +kernel
theorem dX3_requireDeed_4 : decode cX3_requireDeed 4 = .ok (.iload_n 1, 1) := by decide +kernel
theorem dX3_requireDeed_5 : decode cX3_requireDeed 5 = .ok (.aload_n 0, 1) := by decide +kernel
theorem dX3_requireDeed_6 : decode cX3_requireDeed 6 = .ok (.getfield 10, 3) := by decide +kernel
theorem dX3_requireDeed_9 : decode cX3_requireDeed 9 = .ok (.getfield 66, 3) := by decide +kernel
theorem dX3_requireDeed_12 : decode cX3_requireDeed 12 = .ok (.if_icmp .lt 13, 3) := by decide +kernel
theorem dX3_requireDeed_15 : decode cX3_requireDeed 15 = .ok (.new 115, 3) := by decide +kernel
theorem dX3_requireDeed_18 : decode cX3_requireDeed 18 = .ok (.dup, 1) := by decide +kernel
theorem dX3_requireDeed_19 : decode cX3_requireDeed 19 = .ok (.ldc 218, 2) := by decide +kernel
theorem dX3_requireDeed_21 : decode cX3_requireDeed 21 = .ok (.invokespecial 119, 3) := by decide +kernel
theorem dX3_requireDeed_24 : decode cX3_requireDeed 24 = .ok (.athrow, 1) := by decide +kernel
theorem dX3_requireDeed_25 : decode cX3_requireDeed 25 = .ok (.return_, 1) := by decide +kernel
theorem dX3_requirePot_0 : decode cX3_requirePot 0 = .ok (.iload_n 0, 1) := by decide +kernel
theorem dX3_requirePot_1 : decode cX3_requirePot 1 = .ok (.invokestatic 220, 3) := by decide +kernel
theorem dX3_requirePot_4 : decode cX3_requirePot 4 = .ok (.ifCond .ne 13, 3) := by decide +kernel
theorem dX3_requirePot_7 : decode cX3_requirePot 7 = .ok (.new 115, 3) := by decide +kernel
theorem dX3_requirePot_10 : decode cX3_requirePot 10 = .ok (.dup, 1) := by decide +kernel
theorem dX3_requirePot_11 : decode cX3_requirePot 11 = .ok (.ldc 223, 2) := by decide +kernel
theorem dX3_requirePot_13 : decode cX3_requirePot 13 = .ok (.invokespecial 119, 3) := by decide +kernel
theorem dX3_requirePot_16 : decode cX3_requirePot 16 = .ok (.athrow, 1) := by decide +kernel
theorem dX3_requirePot_17 : decode cX3_requirePot 17 = .ok (.return_, 1) := by decide +kernel
theorem dX3_requirePotOrNone_0 : decode cX3_requirePotOrNone 0 = .ok (.iload_n 0, 1) := by decide +kernel
theorem dX3_requirePotOrNone_1 : decode cX3_requirePotOrNone 1 = .ok (.iconst (-1), 1) := by decide +kernel
theorem dX3_requirePotOrNone_2 : decode cX3_requirePotOrNone 2 = .ok (.if_icmp .eq 20, 3) := by decide +kernel
theorem dX3_requirePotOrNone_5 : decode cX3_requirePotOrNone 5 = .ok (.iload_n 0, 1) := by decide +kernel
theorem dX3_requirePotOrNone_6 : decode cX3_requirePotOrNone 6 = .ok (.invokestatic 220, 3) := by decide +kernel
theorem dX3_requirePotOrNone_9 : decode cX3_requirePotOrNone 9 = .ok (.ifCond .ne 13, 3) := by decide +kernel
theorem dX3_requirePotOrNone_12 : decode cX3_requirePotOrNone 12 = .ok (.new 115, 3) := by decide +kernel
theorem dX3_requirePotOrNone_15 : decode cX3_requirePotOrNone 15 = .ok (.dup, 1) := by decide +kernel
theorem dX3_requirePotOrNone_16 : decode cX3_requirePotOrNone 16 = .ok (.ldc 225, 2) := by decide +kernel
theorem dX3_requirePotOrNone_18 : decode cX3_requirePotOrNone 18 = .ok (.invokespecial 119, 3) := by decide +kernel
theorem dX3_requirePotOrNone_21 : decode cX3_requirePotOrNone 21 = .ok (.athrow, 1) := by decide +kernel
theorem dX3_requirePotOrNone_22 : decode cX3_requirePotOrNone 22 = .ok (.return_, 1) := by decide +kernel
theorem dX3_requireWeight_0 : decode cX3_requireWeight 0 = .ok (.iload_n 0, 1) := by decide +kernel
theorem dX3_requireWeight_1 : decode cX3_requireWeight 1 = .ok (.iconst 1, 1) := by decide +kernel
theorem dX3_requireWeight_2 : decode cX3_requireWeight 2 = .ok (.if_icmp .lt 9, 3) := by decide +kernel
theorem dX3_requireWeight_5 : decode cX3_requireWeight 5 = .ok (.iload_n 0, 1) := by decide +kernel
theorem dX3_requireWeight_6 : decode cX3_requireWeight 6 = .ok (.bipush 9, 2) := by decide +kernel
theorem dX3_requireWeight_8 : decode cX3_requireWeight 8 = .ok (.if_icmp .le 13, 3) := by decide +kernel
theorem dX3_requireWeight_11 : decode cX3_requireWeight 11 = .ok (.new 77, 3) := by decide +kernel
theorem dX3_requireWeight_14 : decode cX3_requireWeight 14 = .ok (.dup, 1) := by decide +kernel
theorem dX3_requireWeight_15 : decode cX3_requireWeight 15 = .ok (.ldc 227, 2) := by decide +kernel
theorem dX3_requireWeight_17 : decode cX3_requireWeight 17 = .ok (.invokespecial 81, 3) := by decide +kernel
theorem dX3_requireWeight_20 : decode cX3_requireWeight 20 = .ok (.athrow, 1) := by decide +kernel
theorem dX3_requireWeight_21 : decode cX3_requireWeight 21 = .ok (.return_, 1) := by decide +kernel
theorem dX3_isPot_0 : decode cX3_isPot 0 = .ok (.iload_n 0, 1) := by decide +kernel
theorem dX3_isPot_1 : decode cX3_isPot 1 = .ok (.ifCond .lt 13, 3) := by decide +kernel
theorem dX3_isPot_4 : decode cX3_isPot 4 = .ok (.iload_n 0, 1) := by decide +kernel
theorem dX3_isPot_5 : decode cX3_isPot 5 = .ok (.bipush 16, 2) := by decide +kernel
theorem dX3_isPot_7 : decode cX3_isPot 7 = .ok (.if_icmp .ge 7, 3) := by decide +kernel
theorem dX3_isPot_10 : decode cX3_isPot 10 = .ok (.iconst 1, 1) := by decide +kernel
theorem dX3_isPot_11 : decode cX3_isPot 11 = .ok (.goto 4, 3) := by decide +kernel
theorem dX3_isPot_14 : decode cX3_isPot 14 = .ok (.iconst 0, 1) := by decide +kernel
theorem dX3_isPot_15 : decode cX3_isPot 15 = .ok (.ireturn, 1) := by decide +kernel
theorem dX3_bit_0 : decode cX3_bit 0 = .ok (.iload_n 0, 1) := by decide +kernel
theorem dX3_bit_1 : decode cX3_bit 1 = .ok (.invokestatic 220, 3) := by decide +kernel
theorem dX3_bit_4 : decode cX3_bit 4 = .ok (.ifCond .eq 9, 3) := by decide +kernel
theorem dX3_bit_7 : decode cX3_bit 7 = .ok (.iconst 1, 1) := by decide +kernel
theorem dX3_bit_8 : decode cX3_bit 8 = .ok (.iload_n 0, 1) := by decide +kernel
theorem dX3_bit_9 : decode cX3_bit 9 = .ok (.ishl, 1) := by decide +kernel
theorem dX3_bit_10 : decode cX3_bit 10 = .ok (.goto 4, 3) := by decide +kernel
theorem dX3_bit_13 : decode cX3_bit 13 = .ok (.iconst 0, 1) := by decide +kernel
theorem dX3_bit_14 : decode cX3_bit 14 = .ok (.ireturn, 1) := by decide +kernel
theorem dX3_has_0 : decode cX3_has 0 = .ok (.iload_n 1, 1) := by decide +kernel
theorem dX3_has_1 : decode cX3_has 1 = .ok (.invokestatic 220, 3) := by decide +kernel
theorem dX3_has_4 : decode cX3_has 4 = .ok (.ifCond .eq 15, 3) := by decide +kernel
theorem dX3_has_7 : decode cX3_has 7 = .ok (.iload_n 0, 1) := by decide +kernel
theorem dX3_has_8 : decode cX3_has 8 = .ok (.iload_n 1, 1) := by decide +kernel
theorem dX3_has_9 : decode cX3_has 9 = .ok (.ishr, 1) := by decide +kernel
theorem dX3_has_10 : decode cX3_has 10 = .ok (.iconst 1, 1) := by decide +kernel
theorem dX3_has_11 : decode cX3_has 11 = .ok (.iand, 1) := by decide +kernel
theorem dX3_has_12 : decode cX3_has 12 = .ok (.ifCond .eq 7, 3) := by decide +kernel
theorem dX3_has_15 : decode cX3_has 15 = .ok (.iconst 1, 1) := by decide +kernel
theorem dX3_has_16 : decode cX3_has 16 = .ok (.goto 4, 3) := by decide +kernel
theorem dX3_has_19 : decode cX3_has 19 = .ok (.iconst 0, 1) := by decide +kernel
theorem dX3_has_20 : decode cX3_has 20 = .ok (.ireturn, 1) := by decide +kernel
