/-! decode rows (out of the printed names) -/
theorem dX12_no_0 : decode cX12_no 0 = .ok (.aload_n 0, 1) := by decide +kernel
theorem dX12_no_1 : decode cX12_no 1 = .ok (.getfield 19, 3) := by decide +kernel
theorem dX12_no_4 : decode cX12_no 4 = .ok (.iload_n 1, 1) := by decide +kernel
theorem dX12_no_5 : decode cX12_no 5 = .ok (.dup2, 1) := by decide +kernel
theorem dX12_no_6 : decode cX12_no 6 = .ok (.iaload, 1) := by decide +kernel
theorem dX12_no_7 : decode cX12_no 7 = .ok (.iconst 1, 1) := by decide +kernel
theorem dX12_no_8 : decode cX12_no 8 = .ok (.iadd, 1) := by decide +kernel
theorem dX12_no_9 : decode cX12_no 9 = .ok (.iastore, 1) := by decide +kernel
theorem dX12_no_10 : decode cX12_no 10 = .ok (.ldc 51, 2) := by decide +kernel
theorem dX12_no_12 : decode cX12_no 12 = .ok (.iload_n 1, 1) := by decide +kernel
theorem dX12_no_13 : decode cX12_no 13 = .ok (.isub, 1) := by decide +kernel
theorem dX12_no_14 : decode cX12_no 14 = .ok (.ireturn, 1) := by decide +kernel
theorem dX12_in1_0 : decode cX12_in1 0 = .ok (.iload_n 0, 1) := by decide +kernel
theorem dX12_in1_1 : decode cX12_in1 1 = .ok (.iload_n 1, 1) := by decide +kernel
theorem dX12_in1_2 : decode cX12_in1 2 = .ok (.if_icmp .lt 12, 3) := by decide +kernel
theorem dX12_in1_5 : decode cX12_in1 5 = .ok (.iload_n 0, 1) := by decide +kernel
theorem dX12_in1_6 : decode cX12_in1 6 = .ok (.iload_n 2, 1) := by decide +kernel
theorem dX12_in1_7 : decode cX12_in1 7 = .ok (.if_icmp .gt 7, 3) := by decide +kernel
theorem dX12_in1_10 : decode cX12_in1 10 = .ok (.iconst 1, 1) := by decide +kernel
theorem dX12_in1_11 : decode cX12_in1 11 = .ok (.goto 4, 3) := by decide +kernel
theorem dX12_in1_14 : decode cX12_in1 14 = .ok (.iconst 0, 1) := by decide +kernel
theorem dX12_in1_15 : decode cX12_in1 15 = .ok (.ireturn, 1) := by decide +kernel
theorem dX12_isPerson_0 : decode cX12_isPerson 0 = .ok (.iload_n 1, 1) := by decide +kernel
theorem dX12_isPerson_1 : decode cX12_isPerson 1 = .ok (.iconst 0, 1) := by decide +kernel
theorem dX12_isPerson_2 : decode cX12_isPerson 2 = .ok (.aload_n 0, 1) := by decide +kernel
theorem dX12_isPerson_3 : decode cX12_isPerson 3 = .ok (.getfield 9, 3) := by decide +kernel
theorem dX12_isPerson_6 : decode cX12_isPerson 6 = .ok (.iconst 4, 1) := by decide +kernel
theorem dX12_isPerson_7 : decode cX12_isPerson 7 = .ok (.iaload, 1) := by decide +kernel
theorem dX12_isPerson_8 : decode cX12_isPerson 8 = .ok (.iconst 1, 1) := by decide +kernel
theorem dX12_isPerson_9 : decode cX12_isPerson 9 = .ok (.isub, 1) := by decide +kernel
theorem dX12_isPerson_10 : decode cX12_isPerson 10 = .ok (.invokestatic 52, 3) := by decide +kernel
theorem dX12_isPerson_13 : decode cX12_isPerson 13 = .ok (.ireturn, 1) := by decide +kernel
theorem dX12_isSide_0 : decode cX12_isSide 0 = .ok (.iload_n 0, 1) := by decide +kernel
theorem dX12_isSide_1 : decode cX12_isSide 1 = .ok (.iconst 0, 1) := by decide +kernel
theorem dX12_isSide_2 : decode cX12_isSide 2 = .ok (.iconst 1, 1) := by decide +kernel
theorem dX12_isSide_3 : decode cX12_isSide 3 = .ok (.invokestatic 52, 3) := by decide +kernel
theorem dX12_isSide_6 : decode cX12_isSide 6 = .ok (.ireturn, 1) := by decide +kernel
theorem dX12_get_0 : decode cX12_get 0 = .ok (.aload_n 0, 1) := by decide +kernel
theorem dX12_get_1 : decode cX12_get 1 = .ok (.getfield 9, 3) := by decide +kernel
theorem dX12_get_4 : decode cX12_get 4 = .ok (.iconst 5, 1) := by decide +kernel
theorem dX12_get_5 : decode cX12_get 5 = .ok (.iconst 5, 1) := by decide +kernel
theorem dX12_get_6 : decode cX12_get 6 = .ok (.iload_n 1, 1) := by decide +kernel
theorem dX12_get_7 : decode cX12_get 7 = .ok (.imul, 1) := by decide +kernel
theorem dX12_get_8 : decode cX12_get 8 = .ok (.iadd, 1) := by decide +kernel
theorem dX12_get_9 : decode cX12_get 9 = .ok (.iload_n 2, 1) := by decide +kernel
theorem dX12_get_10 : decode cX12_get 10 = .ok (.iadd, 1) := by decide +kernel
theorem dX12_get_11 : decode cX12_get 11 = .ok (.iaload, 1) := by decide +kernel
theorem dX12_get_12 : decode cX12_get 12 = .ok (.ireturn, 1) := by decide +kernel
theorem dX12_puts_0 : decode cX12_puts 0 = .ok (.aload_n 0, 1) := by decide +kernel
theorem dX12_puts_1 : decode cX12_puts 1 = .ok (.getfield 9, 3) := by decide +kernel
theorem dX12_puts_4 : decode cX12_puts 4 = .ok (.iconst 5, 1) := by decide +kernel
theorem dX12_puts_5 : decode cX12_puts 5 = .ok (.iconst 5, 1) := by decide +kernel
theorem dX12_puts_6 : decode cX12_puts 6 = .ok (.iload_n 1, 1) := by decide +kernel
theorem dX12_puts_7 : decode cX12_puts 7 = .ok (.imul, 1) := by decide +kernel
theorem dX12_puts_8 : decode cX12_puts 8 = .ok (.iadd, 1) := by decide +kernel
theorem dX12_puts_9 : decode cX12_puts 9 = .ok (.iload_n 2, 1) := by decide +kernel
theorem dX12_puts_10 : decode cX12_puts 10 = .ok (.iadd, 1) := by decide +kernel
theorem dX12_puts_11 : decode cX12_puts 11 = .ok (.iload_n 3, 1) := by decide +kernel
theorem dX12_puts_12 : decode cX12_puts 12 = .ok (.iastore, 1) := by decide +kernel
theorem dX12_puts_13 : decode cX12_puts 13 = .ok (.return_, 1) := by decide +kernel
theorem dX12_setsAside_0 : decode cX12_setsAside 0 = .ok (.iconst 0, 1) := by decide +kernel
theorem dX12_setsAside_1 : decode cX12_setsAside 1 = .ok (.istore_n 1, 1) := by decide +kernel
theorem dX12_setsAside_2 : decode cX12_setsAside 2 = .ok (.iload_n 1, 1) := by decide +kernel
theorem dX12_setsAside_3 : decode cX12_setsAside 3 = .ok (.bipush 55, 2) := by decide +kernel
theorem dX12_setsAside_5 : decode cX12_setsAside 5 = .ok (.if_icmp .ge 21, 3) := by decide +kernel
theorem dX12_setsAside_8 : decode cX12_setsAside 8 = .ok (.aload_n 0, 1) := by decide +kernel
theorem dX12_setsAside_9 : decode cX12_setsAside 9 = .ok (.getfield 16, 3) := by decide +kernel
theorem dX12_setsAside_12 : decode cX12_setsAside 12 = .ok (.iload_n 1, 1) := by decide +kernel
theorem dX12_setsAside_13 : decode cX12_setsAside 13 = .ok (.aload_n 0, 1) := by decide +kernel
theorem dX12_setsAside_14 : decode cX12_setsAside 14 = .ok (.getfield 9, 3) := by decide +kernel
theorem dX12_setsAside_17 : decode cX12_setsAside 17 = .ok (.iload_n 1, 1) := by decide +kernel
theorem dX12_setsAside_18 : decode cX12_setsAside 18 = .ok (.iaload, 1) := by decide +kernel
theorem dX12_setsAside_19 : decode cX12_setsAside 19 = .ok (.iastore, 1) := by decide +kernel
theorem dX12_setsAside_20 : decode cX12_setsAside 20 = .ok (.iinc 1 1, 3) := by decide +kernel
theorem dX12_setsAside_23 : decode cX12_setsAside 23 = .ok (.goto (-21), 3) := by decide +kernel
theorem dX12_setsAside_26 : decode cX12_setsAside 26 = .ok (.return_, 1) := by decide +kernel
theorem dX12_laysBack_0 : decode cX12_laysBack 0 = .ok (.iconst 0, 1) := by decide +kernel
theorem dX12_laysBack_1 : decode cX12_laysBack 1 = .ok (.istore_n 1, 1) := by decide +kernel
theorem dX12_laysBack_2 : decode cX12_laysBack 2 = .ok (.iload_n 1, 1) := by decide +kernel
theorem dX12_laysBack_3 : decode cX12_laysBack 3 = .ok (.bipush 55, 2) := by decide +kernel
theorem dX12_laysBack_5 : decode cX12_laysBack 5 = .ok (.if_icmp .ge 21, 3) := by decide +kernel
theorem dX12_laysBack_8 : decode cX12_laysBack 8 = .ok (.aload_n 0, 1) := by decide +kernel
theorem dX12_laysBack_9 : decode cX12_laysBack 9 = .ok (.getfield 9, 3) := by decide +kernel
theorem dX12_laysBack_12 : decode cX12_laysBack 12 = .ok (.iload_n 1, 1) := by decide +kernel
theorem dX12_laysBack_13 : decode cX12_laysBack 13 = .ok (.aload_n 0, 1) := by decide +kernel
theorem dX12_laysBack_14 : decode cX12_laysBack 14 = .ok (.getfield 16, 3) := by decide +kernel
theorem dX12_laysBack_17 : decode cX12_laysBack 17 = .ok (.iload_n 1, 1) := by decide +kernel
theorem dX12_laysBack_18 : decode cX12_laysBack 18 = .ok (.iaload, 1) := by decide +kernel
theorem dX12_laysBack_19 : decode cX12_laysBack 19 = .ok (.iastore, 1) := by decide +kernel
theorem dX12_laysBack_20 : decode cX12_laysBack 20 = .ok (.iinc 1 1, 3) := by decide +kernel
theorem dX12_laysBack_23 : decode cX12_laysBack 23 = .ok (.goto (-21), 3) := by decide +kernel
theorem dX12_laysBack_26 : decode cX12_laysBack 26 = .ok (.return_, 1) := by decide +kernel
theorem dX12_isSunday_0 : decode cX12_isSunday 0 = .ok (.aload_n 0, 1) := by decide +kernel
theorem dX12_isSunday_1 : decode cX12_isSunday 1 = .ok (.getfield 9, 3) := by decide +kernel
theorem dX12_isSunday_4 : decode cX12_isSunday 4 = .ok (.iconst 0, 1) := by decide +kernel
theorem dX12_isSunday_5 : decode cX12_isSunday 5 = .ok (.iaload, 1) := by decide +kernel
theorem dX12_isSunday_6 : decode cX12_isSunday 6 = .ok (.bipush 7, 2) := by decide +kernel
theorem dX12_isSunday_8 : decode cX12_isSunday 8 = .ok (.irem, 1) := by decide +kernel
theorem dX12_isSunday_9 : decode cX12_isSunday 9 = .ok (.bipush 6, 2) := by decide +kernel
theorem dX12_isSunday_11 : decode cX12_isSunday 11 = .ok (.if_icmp .ne 7, 3) := by decide +kernel
theorem dX12_isSunday_14 : decode cX12_isSunday 14 = .ok (.iconst 1, 1) := by decide +kernel
theorem dX12_isSunday_15 : decode cX12_isSunday 15 = .ok (.goto 4, 3) := by decide +kernel
theorem dX12_isSunday_18 : decode cX12_isSunday 18 = .ok (.iconst 0, 1) := by decide +kernel
theorem dX12_isSunday_19 : decode cX12_isSunday 19 = .ok (.ireturn, 1) := by decide +kernel
theorem dX12_weekNow_0 : decode cX12_weekNow 0 = .ok (.aload_n 0, 1) := by decide +kernel
theorem dX12_weekNow_1 : decode cX12_weekNow 1 = .ok (.getfield 9, 3) := by decide +kernel
theorem dX12_weekNow_4 : decode cX12_weekNow 4 = .ok (.iconst 0, 1) := by decide +kernel
theorem dX12_weekNow_5 : decode cX12_weekNow 5 = .ok (.iaload, 1) := by decide +kernel
theorem dX12_weekNow_6 : decode cX12_weekNow 6 = .ok (.bipush 7, 2) := by decide +kernel
theorem dX12_weekNow_8 : decode cX12_weekNow 8 = .ok (.idiv, 1) := by decide +kernel
theorem dX12_weekNow_9 : decode cX12_weekNow 9 = .ok (.bipush 8, 2) := by decide +kernel
theorem dX12_weekNow_11 : decode cX12_weekNow 11 = .ok (.irem, 1) := by decide +kernel
theorem dX12_weekNow_12 : decode cX12_weekNow 12 = .ok (.ireturn, 1) := by decide +kernel
theorem dX12_isHarvest_0 : decode cX12_isHarvest 0 = .ok (.aload_n 0, 1) := by decide +kernel
theorem dX12_isHarvest_1 : decode cX12_isHarvest 1 = .ok (.getfield 9, 3) := by decide +kernel
theorem dX12_isHarvest_4 : decode cX12_isHarvest 4 = .ok (.iconst 3, 1) := by decide +kernel
theorem dX12_isHarvest_5 : decode cX12_isHarvest 5 = .ok (.iaload, 1) := by decide +kernel
theorem dX12_isHarvest_6 : decode cX12_isHarvest 6 = .ok (.aload_n 0, 1) := by decide +kernel
theorem dX12_isHarvest_7 : decode cX12_isHarvest 7 = .ok (.invokevirtual 56, 3) := by decide +kernel
theorem dX12_isHarvest_10 : decode cX12_isHarvest 10 = .ok (.ishr, 1) := by decide +kernel
theorem dX12_isHarvest_11 : decode cX12_isHarvest 11 = .ok (.iconst 1, 1) := by decide +kernel
theorem dX12_isHarvest_12 : decode cX12_isHarvest 12 = .ok (.iand, 1) := by decide +kernel
theorem dX12_isHarvest_13 : decode cX12_isHarvest 13 = .ok (.iconst 1, 1) := by decide +kernel
theorem dX12_isHarvest_14 : decode cX12_isHarvest 14 = .ok (.if_icmp .ne 7, 3) := by decide +kernel
theorem dX12_isHarvest_17 : decode cX12_isHarvest 17 = .ok (.iconst 1, 1) := by decide +kernel
theorem dX12_isHarvest_18 : decode cX12_isHarvest 18 = .ok (.goto 4, 3) := by decide +kernel
theorem dX12_isHarvest_21 : decode cX12_isHarvest 21 = .ok (.iconst 0, 1) := by decide +kernel
theorem dX12_isHarvest_22 : decode cX12_isHarvest 22 = .ok (.ireturn, 1) := by decide +kernel
theorem dX12_aheadNow_0 : decode cX12_aheadNow 0 = .ok (.aload_n 0, 1) := by decide +kernel
theorem dX12_aheadNow_1 : decode cX12_aheadNow 1 = .ok (.getfield 9, 3) := by decide +kernel
theorem dX12_aheadNow_4 : decode cX12_aheadNow 4 = .ok (.iconst 1, 1) := by decide +kernel
theorem dX12_aheadNow_5 : decode cX12_aheadNow 5 = .ok (.iaload, 1) := by decide +kernel
theorem dX12_aheadNow_6 : decode cX12_aheadNow 6 = .ok (.ifCond .ge 7, 3) := by decide +kernel
theorem dX12_aheadNow_9 : decode cX12_aheadNow 9 = .ok (.iconst 0, 1) := by decide +kernel
theorem dX12_aheadNow_10 : decode cX12_aheadNow 10 = .ok (.goto 17, 3) := by decide +kernel
theorem dX12_aheadNow_13 : decode cX12_aheadNow 13 = .ok (.aload_n 0, 1) := by decide +kernel
theorem dX12_aheadNow_14 : decode cX12_aheadNow 14 = .ok (.getfield 9, 3) := by decide +kernel
theorem dX12_aheadNow_17 : decode cX12_aheadNow 17 = .ok (.iconst 1, 1) := by decide +kernel
theorem dX12_aheadNow_18 : decode cX12_aheadNow 18 = .ok (.iaload, 1) := by decide +kernel
theorem dX12_aheadNow_19 : decode cX12_aheadNow 19 = .ok (.ifCond .le 7, 3) := by decide +kernel
theorem dX12_aheadNow_22 : decode cX12_aheadNow 22 = .ok (.iconst 1, 1) := by decide +kernel
theorem dX12_aheadNow_23 : decode cX12_aheadNow 23 = .ok (.goto 4, 3) := by decide +kernel
theorem dX12_aheadNow_26 : decode cX12_aheadNow 26 = .ok (.iconst (-1), 1) := by decide +kernel
theorem dX12_aheadNow_27 : decode cX12_aheadNow 27 = .ok (.ireturn, 1) := by decide +kernel
theorem dX12_pullsOf_0 : decode cX12_pullsOf 0 = .ok (.aload_n 0, 1) := by decide +kernel
theorem dX12_pullsOf_1 : decode cX12_pullsOf 1 = .ok (.iload_n 1, 1) := by decide +kernel
theorem dX12_pullsOf_2 : decode cX12_pullsOf 2 = .ok (.iconst 0, 1) := by decide +kernel
theorem dX12_pullsOf_3 : decode cX12_pullsOf 3 = .ok (.invokevirtual 60, 3) := by decide +kernel
theorem dX12_pullsOf_6 : decode cX12_pullsOf 6 = .ok (.istore_n 2, 1) := by decide +kernel
theorem dX12_pullsOf_7 : decode cX12_pullsOf 7 = .ok (.aload_n 0, 1) := by decide +kernel
theorem dX12_pullsOf_8 : decode cX12_pullsOf 8 = .ok (.iload_n 1, 1) := by decide +kernel
theorem dX12_pullsOf_9 : decode cX12_pullsOf 9 = .ok (.iconst 4, 1) := by decide +kernel
theorem dX12_pullsOf_10 : decode cX12_pullsOf 10 = .ok (.invokevirtual 60, 3) := by decide +kernel
theorem dX12_pullsOf_13 : decode cX12_pullsOf 13 = .ok (.aload_n 0, 1) := by decide +kernel
theorem dX12_pullsOf_14 : decode cX12_pullsOf 14 = .ok (.iload_n 1, 1) := by decide +kernel
theorem dX12_pullsOf_15 : decode cX12_pullsOf 15 = .ok (.iconst 3, 1) := by decide +kernel
theorem dX12_pullsOf_16 : decode cX12_pullsOf 16 = .ok (.invokevirtual 60, 3) := by decide +kernel
theorem dX12_pullsOf_19 : decode cX12_pullsOf 19 = .ok (.bipush 10, 2) := by decide +kernel
theorem dX12_pullsOf_21 : decode cX12_pullsOf 21 = .ok (.idiv, 1) := by decide +kernel
theorem dX12_pullsOf_22 : decode cX12_pullsOf 22 = .ok (.isub, 1) := by decide +kernel
theorem dX12_pullsOf_23 : decode cX12_pullsOf 23 = .ok (.istore_n 3, 1) := by decide +kernel
theorem dX12_pullsOf_24 : decode cX12_pullsOf 24 = .ok (.iload_n 3, 1) := by decide +kernel
theorem dX12_pullsOf_25 : decode cX12_pullsOf 25 = .ok (.ifCond .ge 7, 3) := by decide +kernel
theorem dX12_pullsOf_28 : decode cX12_pullsOf 28 = .ok (.iconst 0, 1) := by decide +kernel
theorem dX12_pullsOf_29 : decode cX12_pullsOf 29 = .ok (.goto 4, 3) := by decide +kernel
theorem dX12_pullsOf_32 : decode cX12_pullsOf 32 = .ok (.iload_n 3, 1) := by decide +kernel
theorem dX12_pullsOf_33 : decode cX12_pullsOf 33 = .ok (.istore_n 3, 1) := by decide +kernel
theorem dX12_pullsOf_34 : decode cX12_pullsOf 34 = .ok (.iload_n 2, 1) := by decide +kernel
theorem dX12_pullsOf_35 : decode cX12_pullsOf 35 = .ok (.tableswitch 114 1 5 #[33, 37, 50, 65, 84], 33) := by decide +kernel
theorem dX12_pullsOf_68 : decode cX12_pullsOf 68 = .ok (.iload_n 3, 1) := by decide +kernel
theorem dX12_pullsOf_69 : decode cX12_pullsOf 69 = .ok (.iconst 2, 1) := by decide +kernel
theorem dX12_pullsOf_70 : decode cX12_pullsOf 70 = .ok (.iadd, 1) := by decide +kernel
theorem dX12_pullsOf_71 : decode cX12_pullsOf 71 = .ok (.ireturn, 1) := by decide +kernel
theorem dX12_pullsOf_72 : decode cX12_pullsOf 72 = .ok (.aload_n 0, 1) := by decide +kernel
theorem dX12_pullsOf_73 : decode cX12_pullsOf 73 = .ok (.invokevirtual 64, 3) := by decide +kernel
theorem dX12_pullsOf_76 : decode cX12_pullsOf 76 = .ok (.ifCond .eq 7, 3) := by decide +kernel
theorem dX12_pullsOf_79 : decode cX12_pullsOf 79 = .ok (.iconst 1, 1) := by decide +kernel
theorem dX12_pullsOf_80 : decode cX12_pullsOf 80 = .ok (.goto 4, 3) := by decide +kernel
theorem dX12_pullsOf_83 : decode cX12_pullsOf 83 = .ok (.iload_n 3, 1) := by decide +kernel
theorem dX12_pullsOf_84 : decode cX12_pullsOf 84 = .ok (.ireturn, 1) := by decide +kernel
theorem dX12_pullsOf_85 : decode cX12_pullsOf 85 = .ok (.iload_n 3, 1) := by decide +kernel
theorem dX12_pullsOf_86 : decode cX12_pullsOf 86 = .ok (.aload_n 0, 1) := by decide +kernel
theorem dX12_pullsOf_87 : decode cX12_pullsOf 87 = .ok (.invokevirtual 68, 3) := by decide +kernel
theorem dX12_pullsOf_90 : decode cX12_pullsOf 90 = .ok (.ifCond .eq 7, 3) := by decide +kernel
theorem dX12_pullsOf_93 : decode cX12_pullsOf 93 = .ok (.iconst 4, 1) := by decide +kernel
theorem dX12_pullsOf_94 : decode cX12_pullsOf 94 = .ok (.goto 4, 3) := by decide +kernel
theorem dX12_pullsOf_97 : decode cX12_pullsOf 97 = .ok (.iconst 0, 1) := by decide +kernel
theorem dX12_pullsOf_98 : decode cX12_pullsOf 98 = .ok (.iadd, 1) := by decide +kernel
theorem dX12_pullsOf_99 : decode cX12_pullsOf 99 = .ok (.ireturn, 1) := by decide +kernel
theorem dX12_pullsOf_100 : decode cX12_pullsOf 100 = .ok (.aload_n 0, 1) := by decide +kernel
theorem dX12_pullsOf_101 : decode cX12_pullsOf 101 = .ok (.invokevirtual 64, 3) := by decide +kernel
theorem dX12_pullsOf_104 : decode cX12_pullsOf 104 = .ok (.ifCond .eq 11, 3) := by decide +kernel
theorem dX12_pullsOf_107 : decode cX12_pullsOf 107 = .ok (.iconst 2, 1) := by decide +kernel
theorem dX12_pullsOf_108 : decode cX12_pullsOf 108 = .ok (.iload_n 3, 1) := by decide +kernel
theorem dX12_pullsOf_109 : decode cX12_pullsOf 109 = .ok (.iconst 2, 1) := by decide +kernel
theorem dX12_pullsOf_110 : decode cX12_pullsOf 110 = .ok (.iadd, 1) := by decide +kernel
theorem dX12_pullsOf_111 : decode cX12_pullsOf 111 = .ok (.imul, 1) := by decide +kernel
theorem dX12_pullsOf_112 : decode cX12_pullsOf 112 = .ok (.goto 6, 3) := by decide +kernel
theorem dX12_pullsOf_115 : decode cX12_pullsOf 115 = .ok (.iload_n 3, 1) := by decide +kernel
theorem dX12_pullsOf_116 : decode cX12_pullsOf 116 = .ok (.iconst 2, 1) := by decide +kernel
theorem dX12_pullsOf_117 : decode cX12_pullsOf 117 = .ok (.iadd, 1) := by decide +kernel
theorem dX12_pullsOf_118 : decode cX12_pullsOf 118 = .ok (.ireturn, 1) := by decide +kernel
theorem dX12_pullsOf_119 : decode cX12_pullsOf 119 = .ok (.aload_n 0, 1) := by decide +kernel
theorem dX12_pullsOf_120 : decode cX12_pullsOf 120 = .ok (.invokevirtual 71, 3) := by decide +kernel
theorem dX12_pullsOf_123 : decode cX12_pullsOf 123 = .ok (.aload_n 0, 1) := by decide +kernel
theorem dX12_pullsOf_124 : decode cX12_pullsOf 124 = .ok (.iload_n 1, 1) := by decide +kernel
theorem dX12_pullsOf_125 : decode cX12_pullsOf 125 = .ok (.iconst 1, 1) := by decide +kernel
theorem dX12_pullsOf_126 : decode cX12_pullsOf 126 = .ok (.invokevirtual 60, 3) := by decide +kernel
theorem dX12_pullsOf_129 : decode cX12_pullsOf 129 = .ok (.if_icmp .ne 7, 3) := by decide +kernel
theorem dX12_pullsOf_132 : decode cX12_pullsOf 132 = .ok (.iconst 0, 1) := by decide +kernel
theorem dX12_pullsOf_133 : decode cX12_pullsOf 133 = .ok (.goto 15, 3) := by decide +kernel
theorem dX12_pullsOf_136 : decode cX12_pullsOf 136 = .ok (.aload_n 0, 1) := by decide +kernel
theorem dX12_pullsOf_137 : decode cX12_pullsOf 137 = .ok (.invokevirtual 64, 3) := by decide +kernel
theorem dX12_pullsOf_140 : decode cX12_pullsOf 140 = .ok (.ifCond .eq 7, 3) := by decide +kernel
theorem dX12_pullsOf_143 : decode cX12_pullsOf 143 = .ok (.iconst 1, 1) := by decide +kernel
theorem dX12_pullsOf_144 : decode cX12_pullsOf 144 = .ok (.goto 4, 3) := by decide +kernel
theorem dX12_pullsOf_147 : decode cX12_pullsOf 147 = .ok (.iload_n 3, 1) := by decide +kernel
theorem dX12_pullsOf_148 : decode cX12_pullsOf 148 = .ok (.ireturn, 1) := by decide +kernel
theorem dX12_pullsOf_149 : decode cX12_pullsOf 149 = .ok (.iload_n 3, 1) := by decide +kernel
theorem dX12_pullsOf_150 : decode cX12_pullsOf 150 = .ok (.ireturn, 1) := by decide +kernel
theorem dX12_tiresOf_0 : decode cX12_tiresOf 0 = .ok (.aload_n 0, 1) := by decide +kernel
theorem dX12_tiresOf_1 : decode cX12_tiresOf 1 = .ok (.invokevirtual 64, 3) := by decide +kernel
theorem dX12_tiresOf_4 : decode cX12_tiresOf 4 = .ok (.ifCond .eq 7, 3) := by decide +kernel
theorem dX12_tiresOf_7 : decode cX12_tiresOf 7 = .ok (.iconst 3, 1) := by decide +kernel
theorem dX12_tiresOf_8 : decode cX12_tiresOf 8 = .ok (.goto 4, 3) := by decide +kernel
theorem dX12_tiresOf_11 : decode cX12_tiresOf 11 = .ok (.iconst 0, 1) := by decide +kernel
theorem dX12_tiresOf_12 : decode cX12_tiresOf 12 = .ok (.istore_n 2, 1) := by decide +kernel
theorem dX12_tiresOf_13 : decode cX12_tiresOf 13 = .ok (.aload_n 0, 1) := by decide +kernel
theorem dX12_tiresOf_14 : decode cX12_tiresOf 14 = .ok (.iload_n 1, 1) := by decide +kernel
theorem dX12_tiresOf_15 : decode cX12_tiresOf 15 = .ok (.iconst 0, 1) := by decide +kernel
theorem dX12_tiresOf_16 : decode cX12_tiresOf 16 = .ok (.invokevirtual 60, 3) := by decide +kernel
theorem dX12_tiresOf_19 : decode cX12_tiresOf 19 = .ok (.tableswitch 58 1 5 #[33, 35, 39, 41, 54], 33) := by decide +kernel
theorem dX12_tiresOf_52 : decode cX12_tiresOf 52 = .ok (.iconst 3, 1) := by decide +kernel
theorem dX12_tiresOf_53 : decode cX12_tiresOf 53 = .ok (.ireturn, 1) := by decide +kernel
theorem dX12_tiresOf_54 : decode cX12_tiresOf 54 = .ok (.iconst 4, 1) := by decide +kernel
theorem dX12_tiresOf_55 : decode cX12_tiresOf 55 = .ok (.iload_n 2, 1) := by decide +kernel
theorem dX12_tiresOf_56 : decode cX12_tiresOf 56 = .ok (.iadd, 1) := by decide +kernel
theorem dX12_tiresOf_57 : decode cX12_tiresOf 57 = .ok (.ireturn, 1) := by decide +kernel
theorem dX12_tiresOf_58 : decode cX12_tiresOf 58 = .ok (.iconst 2, 1) := by decide +kernel
theorem dX12_tiresOf_59 : decode cX12_tiresOf 59 = .ok (.ireturn, 1) := by decide +kernel
theorem dX12_tiresOf_60 : decode cX12_tiresOf 60 = .ok (.aload_n 0, 1) := by decide +kernel
theorem dX12_tiresOf_61 : decode cX12_tiresOf 61 = .ok (.invokevirtual 64, 3) := by decide +kernel
theorem dX12_tiresOf_64 : decode cX12_tiresOf 64 = .ok (.ifCond .eq 7, 3) := by decide +kernel
theorem dX12_tiresOf_67 : decode cX12_tiresOf 67 = .ok (.iconst 0, 1) := by decide +kernel
theorem dX12_tiresOf_68 : decode cX12_tiresOf 68 = .ok (.goto 4, 3) := by decide +kernel
theorem dX12_tiresOf_71 : decode cX12_tiresOf 71 = .ok (.iconst 3, 1) := by decide +kernel
theorem dX12_tiresOf_72 : decode cX12_tiresOf 72 = .ok (.ireturn, 1) := by decide +kernel
theorem dX12_tiresOf_73 : decode cX12_tiresOf 73 = .ok (.iconst 2, 1) := by decide +kernel
theorem dX12_tiresOf_74 : decode cX12_tiresOf 74 = .ok (.iload_n 2, 1) := by decide +kernel
theorem dX12_tiresOf_75 : decode cX12_tiresOf 75 = .ok (.iadd, 1) := by decide +kernel
theorem dX12_tiresOf_76 : decode cX12_tiresOf 76 = .ok (.ireturn, 1) := by decide +kernel
theorem dX12_tiresOf_77 : decode cX12_tiresOf 77 = .ok (.iconst 4, 1) := by decide +kernel
theorem dX12_tiresOf_78 : decode cX12_tiresOf 78 = .ok (.ireturn, 1) := by decide +kernel
theorem dX12_letsGo_0 : decode cX12_letsGo 0 = .ok (.aload_n 0, 1) := by decide +kernel
theorem dX12_letsGo_1 : decode cX12_letsGo 1 = .ok (.iload_n 1, 1) := by decide +kernel
theorem dX12_letsGo_2 : decode cX12_letsGo 2 = .ok (.iconst 3, 1) := by decide +kernel
theorem dX12_letsGo_3 : decode cX12_letsGo 3 = .ok (.invokevirtual 60, 3) := by decide +kernel
theorem dX12_letsGo_6 : decode cX12_letsGo 6 = .ok (.istore_n 2, 1) := by decide +kernel
theorem dX12_letsGo_7 : decode cX12_letsGo 7 = .ok (.aload_n 0, 1) := by decide +kernel
theorem dX12_letsGo_8 : decode cX12_letsGo 8 = .ok (.iload_n 1, 1) := by decide +kernel
theorem dX12_letsGo_9 : decode cX12_letsGo 9 = .ok (.iconst 0, 1) := by decide +kernel
theorem dX12_letsGo_10 : decode cX12_letsGo 10 = .ok (.invokevirtual 60, 3) := by decide +kernel
theorem dX12_letsGo_13 : decode cX12_letsGo 13 = .ok (.tableswitch 129 1 5 #[35, 47, 66, 35, 91], 35) := by decide +kernel
theorem dX12_letsGo_48 : decode cX12_letsGo 48 = .ok (.iload_n 2, 1) := by decide +kernel
theorem dX12_letsGo_49 : decode cX12_letsGo 49 = .ok (.bipush 95, 2) := by decide +kernel
theorem dX12_letsGo_51 : decode cX12_letsGo 51 = .ok (.if_icmp .lt 7, 3) := by decide +kernel
theorem dX12_letsGo_54 : decode cX12_letsGo 54 = .ok (.iconst 1, 1) := by decide +kernel
theorem dX12_letsGo_55 : decode cX12_letsGo 55 = .ok (.goto 4, 3) := by decide +kernel
theorem dX12_letsGo_58 : decode cX12_letsGo 58 = .ok (.iconst 0, 1) := by decide +kernel
theorem dX12_letsGo_59 : decode cX12_letsGo 59 = .ok (.ireturn, 1) := by decide +kernel
theorem dX12_letsGo_60 : decode cX12_letsGo 60 = .ok (.iload_n 2, 1) := by decide +kernel
theorem dX12_letsGo_61 : decode cX12_letsGo 61 = .ok (.bipush 90, 2) := by decide +kernel
theorem dX12_letsGo_63 : decode cX12_letsGo 63 = .ok (.if_icmp .ge 10, 3) := by decide +kernel
theorem dX12_letsGo_66 : decode cX12_letsGo 66 = .ok (.aload_n 0, 1) := by decide +kernel
theorem dX12_letsGo_67 : decode cX12_letsGo 67 = .ok (.invokevirtual 64, 3) := by decide +kernel
theorem dX12_letsGo_70 : decode cX12_letsGo 70 = .ok (.ifCond .eq 7, 3) := by decide +kernel
theorem dX12_letsGo_73 : decode cX12_letsGo 73 = .ok (.iconst 1, 1) := by decide +kernel
theorem dX12_letsGo_74 : decode cX12_letsGo 74 = .ok (.goto 4, 3) := by decide +kernel
theorem dX12_letsGo_77 : decode cX12_letsGo 77 = .ok (.iconst 0, 1) := by decide +kernel
theorem dX12_letsGo_78 : decode cX12_letsGo 78 = .ok (.ireturn, 1) := by decide +kernel
theorem dX12_letsGo_79 : decode cX12_letsGo 79 = .ok (.iload_n 2, 1) := by decide +kernel
theorem dX12_letsGo_80 : decode cX12_letsGo 80 = .ok (.bipush 90, 2) := by decide +kernel
theorem dX12_letsGo_82 : decode cX12_letsGo 82 = .ok (.if_icmp .ge 16, 3) := by decide +kernel
theorem dX12_letsGo_85 : decode cX12_letsGo 85 = .ok (.aload_n 0, 1) := by decide +kernel
theorem dX12_letsGo_86 : decode cX12_letsGo 86 = .ok (.invokevirtual 68, 3) := by decide +kernel
theorem dX12_letsGo_89 : decode cX12_letsGo 89 = .ok (.ifCond .ne 13, 3) := by decide +kernel
theorem dX12_letsGo_92 : decode cX12_letsGo 92 = .ok (.iload_n 2, 1) := by decide +kernel
theorem dX12_letsGo_93 : decode cX12_letsGo 93 = .ok (.bipush 30, 2) := by decide +kernel
theorem dX12_letsGo_95 : decode cX12_letsGo 95 = .ok (.if_icmp .lt 7, 3) := by decide +kernel
theorem dX12_letsGo_98 : decode cX12_letsGo 98 = .ok (.iconst 1, 1) := by decide +kernel
theorem dX12_letsGo_99 : decode cX12_letsGo 99 = .ok (.goto 4, 3) := by decide +kernel
theorem dX12_letsGo_102 : decode cX12_letsGo 102 = .ok (.iconst 0, 1) := by decide +kernel
theorem dX12_letsGo_103 : decode cX12_letsGo 103 = .ok (.ireturn, 1) := by decide +kernel
theorem dX12_letsGo_104 : decode cX12_letsGo 104 = .ok (.iload_n 2, 1) := by decide +kernel
theorem dX12_letsGo_105 : decode cX12_letsGo 105 = .ok (.bipush 90, 2) := by decide +kernel
theorem dX12_letsGo_107 : decode cX12_letsGo 107 = .ok (.if_icmp .ge 29, 3) := by decide +kernel
theorem dX12_letsGo_110 : decode cX12_letsGo 110 = .ok (.aload_n 0, 1) := by decide +kernel
theorem dX12_letsGo_111 : decode cX12_letsGo 111 = .ok (.invokevirtual 64, 3) := by decide +kernel
theorem dX12_letsGo_114 : decode cX12_letsGo 114 = .ok (.ifCond .ne 22, 3) := by decide +kernel
theorem dX12_letsGo_117 : decode cX12_letsGo 117 = .ok (.aload_n 0, 1) := by decide +kernel
theorem dX12_letsGo_118 : decode cX12_letsGo 118 = .ok (.invokevirtual 71, 3) := by decide +kernel
theorem dX12_letsGo_121 : decode cX12_letsGo 121 = .ok (.aload_n 0, 1) := by decide +kernel
theorem dX12_letsGo_122 : decode cX12_letsGo 122 = .ok (.iload_n 1, 1) := by decide +kernel
theorem dX12_letsGo_123 : decode cX12_letsGo 123 = .ok (.iconst 1, 1) := by decide +kernel
theorem dX12_letsGo_124 : decode cX12_letsGo 124 = .ok (.invokevirtual 60, 3) := by decide +kernel
theorem dX12_letsGo_127 : decode cX12_letsGo 127 = .ok (.if_icmp .eq 13, 3) := by decide +kernel
theorem dX12_letsGo_130 : decode cX12_letsGo 130 = .ok (.iload_n 2, 1) := by decide +kernel
theorem dX12_letsGo_131 : decode cX12_letsGo 131 = .ok (.bipush 20, 2) := by decide +kernel
theorem dX12_letsGo_133 : decode cX12_letsGo 133 = .ok (.if_icmp .lt 7, 3) := by decide +kernel
theorem dX12_letsGo_136 : decode cX12_letsGo 136 = .ok (.iconst 1, 1) := by decide +kernel
theorem dX12_letsGo_137 : decode cX12_letsGo 137 = .ok (.goto 4, 3) := by decide +kernel
theorem dX12_letsGo_140 : decode cX12_letsGo 140 = .ok (.iconst 0, 1) := by decide +kernel
theorem dX12_letsGo_141 : decode cX12_letsGo 141 = .ok (.ireturn, 1) := by decide +kernel
theorem dX12_letsGo_142 : decode cX12_letsGo 142 = .ok (.iload_n 2, 1) := by decide +kernel
theorem dX12_letsGo_143 : decode cX12_letsGo 143 = .ok (.bipush 90, 2) := by decide +kernel
theorem dX12_letsGo_145 : decode cX12_letsGo 145 = .ok (.if_icmp .lt 7, 3) := by decide +kernel
theorem dX12_letsGo_148 : decode cX12_letsGo 148 = .ok (.iconst 1, 1) := by decide +kernel
theorem dX12_letsGo_149 : decode cX12_letsGo 149 = .ok (.goto 4, 3) := by decide +kernel
theorem dX12_letsGo_152 : decode cX12_letsGo 152 = .ok (.iconst 0, 1) := by decide +kernel
theorem dX12_letsGo_153 : decode cX12_letsGo 153 = .ok (.ireturn, 1) := by decide +kernel
theorem dX12_sidePulls_0 : decode cX12_sidePulls 0 = .ok (.iconst 0, 1) := by decide +kernel
theorem dX12_sidePulls_1 : decode cX12_sidePulls 1 = .ok (.istore_n 2, 1) := by decide +kernel
theorem dX12_sidePulls_2 : decode cX12_sidePulls 2 = .ok (.iconst 0, 1) := by decide +kernel
theorem dX12_sidePulls_3 : decode cX12_sidePulls 3 = .ok (.istore_n 3, 1) := by decide +kernel
theorem dX12_sidePulls_4 : decode cX12_sidePulls 4 = .ok (.iload_n 3, 1) := by decide +kernel
theorem dX12_sidePulls_5 : decode cX12_sidePulls 5 = .ok (.aload_n 0, 1) := by decide +kernel
theorem dX12_sidePulls_6 : decode cX12_sidePulls 6 = .ok (.getfield 9, 3) := by decide +kernel
theorem dX12_sidePulls_9 : decode cX12_sidePulls 9 = .ok (.iconst 4, 1) := by decide +kernel
theorem dX12_sidePulls_10 : decode cX12_sidePulls 10 = .ok (.iaload, 1) := by decide +kernel
theorem dX12_sidePulls_11 : decode cX12_sidePulls 11 = .ok (.if_icmp .ge 41, 3) := by decide +kernel
theorem dX12_sidePulls_14 : decode cX12_sidePulls 14 = .ok (.iload_n 2, 1) := by decide +kernel
theorem dX12_sidePulls_15 : decode cX12_sidePulls 15 = .ok (.aload_n 0, 1) := by decide +kernel
theorem dX12_sidePulls_16 : decode cX12_sidePulls 16 = .ok (.iload_n 3, 1) := by decide +kernel
theorem dX12_sidePulls_17 : decode cX12_sidePulls 17 = .ok (.iconst 1, 1) := by decide +kernel
theorem dX12_sidePulls_18 : decode cX12_sidePulls 18 = .ok (.invokevirtual 60, 3) := by decide +kernel
theorem dX12_sidePulls_21 : decode cX12_sidePulls 21 = .ok (.iload_n 1, 1) := by decide +kernel
theorem dX12_sidePulls_22 : decode cX12_sidePulls 22 = .ok (.if_icmp .ne 21, 3) := by decide +kernel
theorem dX12_sidePulls_25 : decode cX12_sidePulls 25 = .ok (.aload_n 0, 1) := by decide +kernel
theorem dX12_sidePulls_26 : decode cX12_sidePulls 26 = .ok (.iload_n 3, 1) := by decide +kernel
theorem dX12_sidePulls_27 : decode cX12_sidePulls 27 = .ok (.iconst 2, 1) := by decide +kernel
theorem dX12_sidePulls_28 : decode cX12_sidePulls 28 = .ok (.invokevirtual 60, 3) := by decide +kernel
theorem dX12_sidePulls_31 : decode cX12_sidePulls 31 = .ok (.iconst 1, 1) := by decide +kernel
theorem dX12_sidePulls_32 : decode cX12_sidePulls 32 = .ok (.if_icmp .ne 11, 3) := by decide +kernel
theorem dX12_sidePulls_35 : decode cX12_sidePulls 35 = .ok (.aload_n 0, 1) := by decide +kernel
theorem dX12_sidePulls_36 : decode cX12_sidePulls 36 = .ok (.iload_n 3, 1) := by decide +kernel
theorem dX12_sidePulls_37 : decode cX12_sidePulls 37 = .ok (.invokevirtual 74, 3) := by decide +kernel
theorem dX12_sidePulls_40 : decode cX12_sidePulls 40 = .ok (.goto 4, 3) := by decide +kernel
theorem dX12_sidePulls_43 : decode cX12_sidePulls 43 = .ok (.iconst 0, 1) := by decide +kernel
theorem dX12_sidePulls_44 : decode cX12_sidePulls 44 = .ok (.iadd, 1) := by decide +kernel
theorem dX12_sidePulls_45 : decode cX12_sidePulls 45 = .ok (.istore_n 2, 1) := by decide +kernel
theorem dX12_sidePulls_46 : decode cX12_sidePulls 46 = .ok (.iinc 3 1, 3) := by decide +kernel
theorem dX12_sidePulls_49 : decode cX12_sidePulls 49 = .ok (.goto (-45), 3) := by decide +kernel
theorem dX12_sidePulls_52 : decode cX12_sidePulls 52 = .ok (.iload_n 2, 1) := by decide +kernel
theorem dX12_sidePulls_53 : decode cX12_sidePulls 53 = .ok (.ireturn, 1) := by decide +kernel
theorem dX12_held_0 : decode cX12_held 0 = .ok (.iload_n 0, 1) := by decide +kernel
theorem dX12_held_1 : decode cX12_held 1 = .ok (.iload_n 1, 1) := by decide +kernel
theorem dX12_held_2 : decode cX12_held 2 = .ok (.if_icmp .ge 7, 3) := by decide +kernel
theorem dX12_held_5 : decode cX12_held 5 = .ok (.iload_n 1, 1) := by decide +kernel
theorem dX12_held_6 : decode cX12_held 6 = .ok (.goto 13, 3) := by decide +kernel
theorem dX12_held_9 : decode cX12_held 9 = .ok (.iload_n 0, 1) := by decide +kernel
theorem dX12_held_10 : decode cX12_held 10 = .ok (.iload_n 2, 1) := by decide +kernel
theorem dX12_held_11 : decode cX12_held 11 = .ok (.if_icmp .le 7, 3) := by decide +kernel
theorem dX12_held_14 : decode cX12_held 14 = .ok (.iload_n 2, 1) := by decide +kernel
theorem dX12_held_15 : decode cX12_held 15 = .ok (.goto 4, 3) := by decide +kernel
theorem dX12_held_18 : decode cX12_held 18 = .ok (.iload_n 0, 1) := by decide +kernel
theorem dX12_held_19 : decode cX12_held 19 = .ok (.ireturn, 1) := by decide +kernel
theorem dX12_knotGoes_0 : decode cX12_knotGoes 0 = .ok (.aload_n 0, 1) := by decide +kernel
theorem dX12_knotGoes_1 : decode cX12_knotGoes 1 = .ok (.iconst 1, 1) := by decide +kernel
theorem dX12_knotGoes_2 : decode cX12_knotGoes 2 = .ok (.invokevirtual 78, 3) := by decide +kernel
theorem dX12_knotGoes_5 : decode cX12_knotGoes 5 = .ok (.aload_n 0, 1) := by decide +kernel
theorem dX12_knotGoes_6 : decode cX12_knotGoes 6 = .ok (.iconst 0, 1) := by decide +kernel
theorem dX12_knotGoes_7 : decode cX12_knotGoes 7 = .ok (.invokevirtual 78, 3) := by decide +kernel
theorem dX12_knotGoes_10 : decode cX12_knotGoes 10 = .ok (.isub, 1) := by decide +kernel
theorem dX12_knotGoes_11 : decode cX12_knotGoes 11 = .ok (.istore_n 1, 1) := by decide +kernel
theorem dX12_knotGoes_12 : decode cX12_knotGoes 12 = .ok (.iload_n 1, 1) := by decide +kernel
theorem dX12_knotGoes_13 : decode cX12_knotGoes 13 = .ok (.ifCond .ge 15, 3) := by decide +kernel
theorem dX12_knotGoes_16 : decode cX12_knotGoes 16 = .ok (.iload_n 1, 1) := by decide +kernel
theorem dX12_knotGoes_17 : decode cX12_knotGoes 17 = .ok (.ineg, 1) := by decide +kernel
theorem dX12_knotGoes_18 : decode cX12_knotGoes 18 = .ok (.aload_n 0, 1) := by decide +kernel
theorem dX12_knotGoes_19 : decode cX12_knotGoes 19 = .ok (.getfield 9, 3) := by decide +kernel
theorem dX12_knotGoes_22 : decode cX12_knotGoes 22 = .ok (.iconst 2, 1) := by decide +kernel
theorem dX12_knotGoes_23 : decode cX12_knotGoes 23 = .ok (.iaload, 1) := by decide +kernel
theorem dX12_knotGoes_24 : decode cX12_knotGoes 24 = .ok (.isub, 1) := by decide +kernel
theorem dX12_knotGoes_25 : decode cX12_knotGoes 25 = .ok (.goto 11, 3) := by decide +kernel
theorem dX12_knotGoes_28 : decode cX12_knotGoes 28 = .ok (.iload_n 1, 1) := by decide +kernel
theorem dX12_knotGoes_29 : decode cX12_knotGoes 29 = .ok (.aload_n 0, 1) := by decide +kernel
theorem dX12_knotGoes_30 : decode cX12_knotGoes 30 = .ok (.getfield 9, 3) := by decide +kernel
theorem dX12_knotGoes_33 : decode cX12_knotGoes 33 = .ok (.iconst 2, 1) := by decide +kernel
theorem dX12_knotGoes_34 : decode cX12_knotGoes 34 = .ok (.iaload, 1) := by decide +kernel
theorem dX12_knotGoes_35 : decode cX12_knotGoes 35 = .ok (.isub, 1) := by decide +kernel
theorem dX12_knotGoes_36 : decode cX12_knotGoes 36 = .ok (.istore_n 2, 1) := by decide +kernel
theorem dX12_knotGoes_37 : decode cX12_knotGoes 37 = .ok (.iload_n 2, 1) := by decide +kernel
theorem dX12_knotGoes_38 : decode cX12_knotGoes 38 = .ok (.ifCond .ge 7, 3) := by decide +kernel
theorem dX12_knotGoes_41 : decode cX12_knotGoes 41 = .ok (.iconst 0, 1) := by decide +kernel
theorem dX12_knotGoes_42 : decode cX12_knotGoes 42 = .ok (.goto 4, 3) := by decide +kernel
theorem dX12_knotGoes_45 : decode cX12_knotGoes 45 = .ok (.iload_n 2, 1) := by decide +kernel
theorem dX12_knotGoes_46 : decode cX12_knotGoes 46 = .ok (.istore_n 3, 1) := by decide +kernel
theorem dX12_knotGoes_47 : decode cX12_knotGoes 47 = .ok (.aload_n 0, 1) := by decide +kernel
theorem dX12_knotGoes_48 : decode cX12_knotGoes 48 = .ok (.getfield 9, 3) := by decide +kernel
theorem dX12_knotGoes_51 : decode cX12_knotGoes 51 = .ok (.iconst 1, 1) := by decide +kernel
theorem dX12_knotGoes_52 : decode cX12_knotGoes 52 = .ok (.aload_n 0, 1) := by decide +kernel
theorem dX12_knotGoes_53 : decode cX12_knotGoes 53 = .ok (.getfield 9, 3) := by decide +kernel
theorem dX12_knotGoes_56 : decode cX12_knotGoes 56 = .ok (.iconst 1, 1) := by decide +kernel
theorem dX12_knotGoes_57 : decode cX12_knotGoes 57 = .ok (.iaload, 1) := by decide +kernel
theorem dX12_knotGoes_58 : decode cX12_knotGoes 58 = .ok (.iload_n 1, 1) := by decide +kernel
theorem dX12_knotGoes_59 : decode cX12_knotGoes 59 = .ok (.ifCond .ge 8, 3) := by decide +kernel
theorem dX12_knotGoes_62 : decode cX12_knotGoes 62 = .ok (.iload_n 3, 1) := by decide +kernel
theorem dX12_knotGoes_63 : decode cX12_knotGoes 63 = .ok (.ineg, 1) := by decide +kernel
theorem dX12_knotGoes_64 : decode cX12_knotGoes 64 = .ok (.goto 4, 3) := by decide +kernel
theorem dX12_knotGoes_67 : decode cX12_knotGoes 67 = .ok (.iload_n 3, 1) := by decide +kernel
theorem dX12_knotGoes_68 : decode cX12_knotGoes 68 = .ok (.iadd, 1) := by decide +kernel
theorem dX12_knotGoes_69 : decode cX12_knotGoes 69 = .ok (.sipush (-9999), 3) := by decide +kernel
theorem dX12_knotGoes_72 : decode cX12_knotGoes 72 = .ok (.sipush 9999, 3) := by decide +kernel
theorem dX12_knotGoes_75 : decode cX12_knotGoes 75 = .ok (.invokestatic 81, 3) := by decide +kernel
theorem dX12_knotGoes_78 : decode cX12_knotGoes 78 = .ok (.iastore, 1) := by decide +kernel
theorem dX12_knotGoes_79 : decode cX12_knotGoes 79 = .ok (.return_, 1) := by decide +kernel
theorem dX12_livesOn_0 : decode cX12_livesOn 0 = .ok (.aload_n 0, 1) := by decide +kernel
theorem dX12_livesOn_1 : decode cX12_livesOn 1 = .ok (.iload_n 1, 1) := by decide +kernel
theorem dX12_livesOn_2 : decode cX12_livesOn 2 = .ok (.iconst 2, 1) := by decide +kernel
theorem dX12_livesOn_3 : decode cX12_livesOn 3 = .ok (.invokevirtual 60, 3) := by decide +kernel
theorem dX12_livesOn_6 : decode cX12_livesOn 6 = .ok (.iconst 1, 1) := by decide +kernel
theorem dX12_livesOn_7 : decode cX12_livesOn 7 = .ok (.if_icmp .ne 49, 3) := by decide +kernel
theorem dX12_livesOn_10 : decode cX12_livesOn 10 = .ok (.aload_n 0, 1) := by decide +kernel
theorem dX12_livesOn_11 : decode cX12_livesOn 11 = .ok (.iload_n 1, 1) := by decide +kernel
theorem dX12_livesOn_12 : decode cX12_livesOn 12 = .ok (.iconst 3, 1) := by decide +kernel
theorem dX12_livesOn_13 : decode cX12_livesOn 13 = .ok (.aload_n 0, 1) := by decide +kernel
theorem dX12_livesOn_14 : decode cX12_livesOn 14 = .ok (.iload_n 1, 1) := by decide +kernel
theorem dX12_livesOn_15 : decode cX12_livesOn 15 = .ok (.iconst 3, 1) := by decide +kernel
theorem dX12_livesOn_16 : decode cX12_livesOn 16 = .ok (.invokevirtual 60, 3) := by decide +kernel
theorem dX12_livesOn_19 : decode cX12_livesOn 19 = .ok (.aload_n 0, 1) := by decide +kernel
theorem dX12_livesOn_20 : decode cX12_livesOn 20 = .ok (.iload_n 1, 1) := by decide +kernel
theorem dX12_livesOn_21 : decode cX12_livesOn 21 = .ok (.invokevirtual 85, 3) := by decide +kernel
theorem dX12_livesOn_24 : decode cX12_livesOn 24 = .ok (.iadd, 1) := by decide +kernel
theorem dX12_livesOn_25 : decode cX12_livesOn 25 = .ok (.iconst 0, 1) := by decide +kernel
theorem dX12_livesOn_26 : decode cX12_livesOn 26 = .ok (.bipush 99, 2) := by decide +kernel
theorem dX12_livesOn_28 : decode cX12_livesOn 28 = .ok (.invokestatic 81, 3) := by decide +kernel
theorem dX12_livesOn_31 : decode cX12_livesOn 31 = .ok (.invokevirtual 88, 3) := by decide +kernel
theorem dX12_livesOn_34 : decode cX12_livesOn 34 = .ok (.aload_n 0, 1) := by decide +kernel
theorem dX12_livesOn_35 : decode cX12_livesOn 35 = .ok (.iload_n 1, 1) := by decide +kernel
theorem dX12_livesOn_36 : decode cX12_livesOn 36 = .ok (.iconst 2, 1) := by decide +kernel
theorem dX12_livesOn_37 : decode cX12_livesOn 37 = .ok (.aload_n 0, 1) := by decide +kernel
theorem dX12_livesOn_38 : decode cX12_livesOn 38 = .ok (.iload_n 1, 1) := by decide +kernel
theorem dX12_livesOn_39 : decode cX12_livesOn 39 = .ok (.invokevirtual 92, 3) := by decide +kernel
theorem dX12_livesOn_42 : decode cX12_livesOn 42 = .ok (.ifCond .eq 7, 3) := by decide +kernel
theorem dX12_livesOn_45 : decode cX12_livesOn 45 = .ok (.iconst 0, 1) := by decide +kernel
theorem dX12_livesOn_46 : decode cX12_livesOn 46 = .ok (.goto 4, 3) := by decide +kernel
theorem dX12_livesOn_49 : decode cX12_livesOn 49 = .ok (.iconst 1, 1) := by decide +kernel
theorem dX12_livesOn_50 : decode cX12_livesOn 50 = .ok (.invokevirtual 88, 3) := by decide +kernel
theorem dX12_livesOn_53 : decode cX12_livesOn 53 = .ok (.goto 24, 3) := by decide +kernel
theorem dX12_livesOn_56 : decode cX12_livesOn 56 = .ok (.aload_n 0, 1) := by decide +kernel
theorem dX12_livesOn_57 : decode cX12_livesOn 57 = .ok (.iload_n 1, 1) := by decide +kernel
theorem dX12_livesOn_58 : decode cX12_livesOn 58 = .ok (.iconst 3, 1) := by decide +kernel
theorem dX12_livesOn_59 : decode cX12_livesOn 59 = .ok (.aload_n 0, 1) := by decide +kernel
theorem dX12_livesOn_60 : decode cX12_livesOn 60 = .ok (.iload_n 1, 1) := by decide +kernel
theorem dX12_livesOn_61 : decode cX12_livesOn 61 = .ok (.iconst 3, 1) := by decide +kernel
theorem dX12_livesOn_62 : decode cX12_livesOn 62 = .ok (.invokevirtual 60, 3) := by decide +kernel
theorem dX12_livesOn_65 : decode cX12_livesOn 65 = .ok (.bipush 10, 2) := by decide +kernel
theorem dX12_livesOn_67 : decode cX12_livesOn 67 = .ok (.isub, 1) := by decide +kernel
theorem dX12_livesOn_68 : decode cX12_livesOn 68 = .ok (.iconst 0, 1) := by decide +kernel
theorem dX12_livesOn_69 : decode cX12_livesOn 69 = .ok (.bipush 99, 2) := by decide +kernel
theorem dX12_livesOn_71 : decode cX12_livesOn 71 = .ok (.invokestatic 81, 3) := by decide +kernel
theorem dX12_livesOn_74 : decode cX12_livesOn 74 = .ok (.invokevirtual 88, 3) := by decide +kernel
theorem dX12_livesOn_77 : decode cX12_livesOn 77 = .ok (.return_, 1) := by decide +kernel
theorem dX12_someComes_0 : decode cX12_someComes 0 = .ok (.iconst (-1), 1) := by decide +kernel
theorem dX12_someComes_1 : decode cX12_someComes 1 = .ok (.istore_n 2, 1) := by decide +kernel
theorem dX12_someComes_2 : decode cX12_someComes 2 = .ok (.iconst 0, 1) := by decide +kernel
theorem dX12_someComes_3 : decode cX12_someComes 3 = .ok (.istore_n 3, 1) := by decide +kernel
theorem dX12_someComes_4 : decode cX12_someComes 4 = .ok (.iload_n 3, 1) := by decide +kernel
theorem dX12_someComes_5 : decode cX12_someComes 5 = .ok (.aload_n 0, 1) := by decide +kernel
theorem dX12_someComes_6 : decode cX12_someComes 6 = .ok (.getfield 9, 3) := by decide +kernel
theorem dX12_someComes_9 : decode cX12_someComes 9 = .ok (.iconst 4, 1) := by decide +kernel
theorem dX12_someComes_10 : decode cX12_someComes 10 = .ok (.iaload, 1) := by decide +kernel
theorem dX12_someComes_11 : decode cX12_someComes 11 = .ok (.if_icmp .ge 55, 3) := by decide +kernel
theorem dX12_someComes_14 : decode cX12_someComes 14 = .ok (.aload_n 0, 1) := by decide +kernel
theorem dX12_someComes_15 : decode cX12_someComes 15 = .ok (.iload_n 3, 1) := by decide +kernel
theorem dX12_someComes_16 : decode cX12_someComes 16 = .ok (.iconst 1, 1) := by decide +kernel
theorem dX12_someComes_17 : decode cX12_someComes 17 = .ok (.invokevirtual 60, 3) := by decide +kernel
theorem dX12_someComes_20 : decode cX12_someComes 20 = .ok (.iload_n 1, 1) := by decide +kernel
theorem dX12_someComes_21 : decode cX12_someComes 21 = .ok (.if_icmp .ne 39, 3) := by decide +kernel
theorem dX12_someComes_24 : decode cX12_someComes 24 = .ok (.aload_n 0, 1) := by decide +kernel
theorem dX12_someComes_25 : decode cX12_someComes 25 = .ok (.iload_n 3, 1) := by decide +kernel
theorem dX12_someComes_26 : decode cX12_someComes 26 = .ok (.iconst 2, 1) := by decide +kernel
theorem dX12_someComes_27 : decode cX12_someComes 27 = .ok (.invokevirtual 60, 3) := by decide +kernel
theorem dX12_someComes_30 : decode cX12_someComes 30 = .ok (.iconst 1, 1) := by decide +kernel
theorem dX12_someComes_31 : decode cX12_someComes 31 = .ok (.if_icmp .ne 4, 3) := by decide +kernel
theorem dX12_someComes_34 : decode cX12_someComes 34 = .ok (.return_, 1) := by decide +kernel
theorem dX12_someComes_35 : decode cX12_someComes 35 = .ok (.iload_n 2, 1) := by decide +kernel
theorem dX12_someComes_36 : decode cX12_someComes 36 = .ok (.ifCond .lt 18, 3) := by decide +kernel
theorem dX12_someComes_39 : decode cX12_someComes 39 = .ok (.aload_n 0, 1) := by decide +kernel
theorem dX12_someComes_40 : decode cX12_someComes 40 = .ok (.iload_n 3, 1) := by decide +kernel
theorem dX12_someComes_41 : decode cX12_someComes 41 = .ok (.iconst 3, 1) := by decide +kernel
theorem dX12_someComes_42 : decode cX12_someComes 42 = .ok (.invokevirtual 60, 3) := by decide +kernel
theorem dX12_someComes_45 : decode cX12_someComes 45 = .ok (.aload_n 0, 1) := by decide +kernel
theorem dX12_someComes_46 : decode cX12_someComes 46 = .ok (.iload_n 2, 1) := by decide +kernel
theorem dX12_someComes_47 : decode cX12_someComes 47 = .ok (.iconst 3, 1) := by decide +kernel
theorem dX12_someComes_48 : decode cX12_someComes 48 = .ok (.invokevirtual 60, 3) := by decide +kernel
theorem dX12_someComes_51 : decode cX12_someComes 51 = .ok (.if_icmp .ge 7, 3) := by decide +kernel
theorem dX12_someComes_54 : decode cX12_someComes 54 = .ok (.iload_n 3, 1) := by decide +kernel
theorem dX12_someComes_55 : decode cX12_someComes 55 = .ok (.goto 4, 3) := by decide +kernel
theorem dX12_someComes_58 : decode cX12_someComes 58 = .ok (.iload_n 2, 1) := by decide +kernel
theorem dX12_someComes_59 : decode cX12_someComes 59 = .ok (.istore_n 2, 1) := by decide +kernel
theorem dX12_someComes_60 : decode cX12_someComes 60 = .ok (.iinc 3 1, 3) := by decide +kernel
theorem dX12_someComes_63 : decode cX12_someComes 63 = .ok (.goto (-59), 3) := by decide +kernel
theorem dX12_someComes_66 : decode cX12_someComes 66 = .ok (.iload_n 2, 1) := by decide +kernel
theorem dX12_someComes_67 : decode cX12_someComes 67 = .ok (.ifCond .lt 10, 3) := by decide +kernel
theorem dX12_someComes_70 : decode cX12_someComes 70 = .ok (.aload_n 0, 1) := by decide +kernel
theorem dX12_someComes_71 : decode cX12_someComes 71 = .ok (.iload_n 2, 1) := by decide +kernel
theorem dX12_someComes_72 : decode cX12_someComes 72 = .ok (.iconst 2, 1) := by decide +kernel
theorem dX12_someComes_73 : decode cX12_someComes 73 = .ok (.iconst 1, 1) := by decide +kernel
theorem dX12_someComes_74 : decode cX12_someComes 74 = .ok (.invokevirtual 88, 3) := by decide +kernel
theorem dX12_someComes_77 : decode cX12_someComes 77 = .ok (.return_, 1) := by decide +kernel
theorem dX12_goes_0 : decode cX12_goes 0 = .ok (.iconst 0, 1) := by decide +kernel
theorem dX12_goes_1 : decode cX12_goes 1 = .ok (.istore_n 2, 1) := by decide +kernel
theorem dX12_goes_2 : decode cX12_goes 2 = .ok (.iload_n 2, 1) := by decide +kernel
theorem dX12_goes_3 : decode cX12_goes 3 = .ok (.iload_n 1, 1) := by decide +kernel
theorem dX12_goes_4 : decode cX12_goes 4 = .ok (.if_icmp .ge 56, 3) := by decide +kernel
theorem dX12_goes_7 : decode cX12_goes 7 = .ok (.aload_n 0, 1) := by decide +kernel
theorem dX12_goes_8 : decode cX12_goes 8 = .ok (.invokevirtual 96, 3) := by decide +kernel
theorem dX12_goes_11 : decode cX12_goes 11 = .ok (.iconst 0, 1) := by decide +kernel
theorem dX12_goes_12 : decode cX12_goes 12 = .ok (.istore_n 3, 1) := by decide +kernel
theorem dX12_goes_13 : decode cX12_goes 13 = .ok (.iload_n 3, 1) := by decide +kernel
theorem dX12_goes_14 : decode cX12_goes 14 = .ok (.aload_n 0, 1) := by decide +kernel
theorem dX12_goes_15 : decode cX12_goes 15 = .ok (.getfield 9, 3) := by decide +kernel
theorem dX12_goes_18 : decode cX12_goes 18 = .ok (.iconst 4, 1) := by decide +kernel
theorem dX12_goes_19 : decode cX12_goes 19 = .ok (.iaload, 1) := by decide +kernel
theorem dX12_goes_20 : decode cX12_goes 20 = .ok (.if_icmp .ge 14, 3) := by decide +kernel
theorem dX12_goes_23 : decode cX12_goes 23 = .ok (.aload_n 0, 1) := by decide +kernel
theorem dX12_goes_24 : decode cX12_goes 24 = .ok (.iload_n 3, 1) := by decide +kernel
theorem dX12_goes_25 : decode cX12_goes 25 = .ok (.invokevirtual 99, 3) := by decide +kernel
theorem dX12_goes_28 : decode cX12_goes 28 = .ok (.iinc 3 1, 3) := by decide +kernel
theorem dX12_goes_31 : decode cX12_goes 31 = .ok (.goto (-18), 3) := by decide +kernel
theorem dX12_goes_34 : decode cX12_goes 34 = .ok (.aload_n 0, 1) := by decide +kernel
theorem dX12_goes_35 : decode cX12_goes 35 = .ok (.iconst 0, 1) := by decide +kernel
theorem dX12_goes_36 : decode cX12_goes 36 = .ok (.invokevirtual 103, 3) := by decide +kernel
theorem dX12_goes_39 : decode cX12_goes 39 = .ok (.aload_n 0, 1) := by decide +kernel
theorem dX12_goes_40 : decode cX12_goes 40 = .ok (.iconst 1, 1) := by decide +kernel
theorem dX12_goes_41 : decode cX12_goes 41 = .ok (.invokevirtual 103, 3) := by decide +kernel
theorem dX12_goes_44 : decode cX12_goes 44 = .ok (.aload_n 0, 1) := by decide +kernel
theorem dX12_goes_45 : decode cX12_goes 45 = .ok (.getfield 9, 3) := by decide +kernel
theorem dX12_goes_48 : decode cX12_goes 48 = .ok (.iconst 0, 1) := by decide +kernel
theorem dX12_goes_49 : decode cX12_goes 49 = .ok (.dup2, 1) := by decide +kernel
theorem dX12_goes_50 : decode cX12_goes 50 = .ok (.iaload, 1) := by decide +kernel
theorem dX12_goes_51 : decode cX12_goes 51 = .ok (.iconst 1, 1) := by decide +kernel
theorem dX12_goes_52 : decode cX12_goes 52 = .ok (.iadd, 1) := by decide +kernel
theorem dX12_goes_53 : decode cX12_goes 53 = .ok (.iastore, 1) := by decide +kernel
theorem dX12_goes_54 : decode cX12_goes 54 = .ok (.iinc 2 1, 3) := by decide +kernel
theorem dX12_goes_57 : decode cX12_goes 57 = .ok (.goto (-55), 3) := by decide +kernel
theorem dX12_goes_60 : decode cX12_goes 60 = .ok (.return_, 1) := by decide +kernel
theorem dX12_towards_0 : decode cX12_towards 0 = .ok (.iload_n 1, 1) := by decide +kernel
theorem dX12_towards_1 : decode cX12_towards 1 = .ok (.iconst 1, 1) := by decide +kernel
theorem dX12_towards_2 : decode cX12_towards 2 = .ok (.if_icmp .ne 12, 3) := by decide +kernel
theorem dX12_towards_5 : decode cX12_towards 5 = .ok (.aload_n 0, 1) := by decide +kernel
theorem dX12_towards_6 : decode cX12_towards 6 = .ok (.getfield 9, 3) := by decide +kernel
theorem dX12_towards_9 : decode cX12_towards 9 = .ok (.iconst 1, 1) := by decide +kernel
theorem dX12_towards_10 : decode cX12_towards 10 = .ok (.iaload, 1) := by decide +kernel
theorem dX12_towards_11 : decode cX12_towards 11 = .ok (.goto 10, 3) := by decide +kernel
theorem dX12_towards_14 : decode cX12_towards 14 = .ok (.aload_n 0, 1) := by decide +kernel
theorem dX12_towards_15 : decode cX12_towards 15 = .ok (.getfield 9, 3) := by decide +kernel
theorem dX12_towards_18 : decode cX12_towards 18 = .ok (.iconst 1, 1) := by decide +kernel
theorem dX12_towards_19 : decode cX12_towards 19 = .ok (.iaload, 1) := by decide +kernel
theorem dX12_towards_20 : decode cX12_towards 20 = .ok (.ineg, 1) := by decide +kernel
theorem dX12_towards_21 : decode cX12_towards 21 = .ok (.ireturn, 1) := by decide +kernel
theorem dX12_towardsBy_0 : decode cX12_towardsBy 0 = .ok (.aload_n 0, 1) := by decide +kernel
theorem dX12_towardsBy_1 : decode cX12_towardsBy 1 = .ok (.iload_n 2, 1) := by decide +kernel
theorem dX12_towardsBy_2 : decode cX12_towardsBy 2 = .ok (.invokevirtual 106, 3) := by decide +kernel
theorem dX12_towardsBy_5 : decode cX12_towardsBy 5 = .ok (.aload_n 0, 1) := by decide +kernel
theorem dX12_towardsBy_6 : decode cX12_towardsBy 6 = .ok (.iload_n 1, 1) := by decide +kernel
theorem dX12_towardsBy_7 : decode cX12_towardsBy 7 = .ok (.invokevirtual 109, 3) := by decide +kernel
theorem dX12_towardsBy_10 : decode cX12_towardsBy 10 = .ok (.istore_n 3, 1) := by decide +kernel
theorem dX12_towardsBy_11 : decode cX12_towardsBy 11 = .ok (.aload_n 0, 1) := by decide +kernel
theorem dX12_towardsBy_12 : decode cX12_towardsBy 12 = .ok (.invokevirtual 112, 3) := by decide +kernel
theorem dX12_towardsBy_15 : decode cX12_towardsBy 15 = .ok (.iload_n 3, 1) := by decide +kernel
theorem dX12_towardsBy_16 : decode cX12_towardsBy 16 = .ok (.ireturn, 1) := by decide +kernel
theorem dX12_becomes_0 : decode cX12_becomes 0 = .ok (.aload_n 0, 1) := by decide +kernel
theorem dX12_becomes_1 : decode cX12_becomes 1 = .ok (.getfield 9, 3) := by decide +kernel
theorem dX12_becomes_4 : decode cX12_becomes 4 = .ok (.iload_n 1, 1) := by decide +kernel
theorem dX12_becomes_5 : decode cX12_becomes 5 = .ok (.iaload, 1) := by decide +kernel
theorem dX12_becomes_6 : decode cX12_becomes 6 = .ok (.istore_n 3, 1) := by decide +kernel
theorem dX12_becomes_7 : decode cX12_becomes 7 = .ok (.aload_n 0, 1) := by decide +kernel
theorem dX12_becomes_8 : decode cX12_becomes 8 = .ok (.getfield 9, 3) := by decide +kernel
theorem dX12_becomes_11 : decode cX12_becomes 11 = .ok (.iload_n 1, 1) := by decide +kernel
theorem dX12_becomes_12 : decode cX12_becomes 12 = .ok (.iload_n 2, 1) := by decide +kernel
theorem dX12_becomes_13 : decode cX12_becomes 13 = .ok (.iastore, 1) := by decide +kernel
theorem dX12_becomes_14 : decode cX12_becomes 14 = .ok (.iload_n 3, 1) := by decide +kernel
theorem dX12_becomes_15 : decode cX12_becomes 15 = .ok (.ireturn, 1) := by decide +kernel
theorem dX12_slack_0 : decode cX12_slack 0 = .ok (.iload_n 1, 1) := by decide +kernel
theorem dX12_slack_1 : decode cX12_slack 1 = .ok (.iconst 0, 1) := by decide +kernel
theorem dX12_slack_2 : decode cX12_slack 2 = .ok (.bipush 99, 2) := by decide +kernel
theorem dX12_slack_4 : decode cX12_slack 4 = .ok (.invokestatic 52, 3) := by decide +kernel
theorem dX12_slack_7 : decode cX12_slack 7 = .ok (.ifCond .eq 12, 3) := by decide +kernel
theorem dX12_slack_10 : decode cX12_slack 10 = .ok (.aload_n 0, 1) := by decide +kernel
theorem dX12_slack_11 : decode cX12_slack 11 = .ok (.iconst 2, 1) := by decide +kernel
theorem dX12_slack_12 : decode cX12_slack 12 = .ok (.iload_n 1, 1) := by decide +kernel
theorem dX12_slack_13 : decode cX12_slack 13 = .ok (.invokevirtual 115, 3) := by decide +kernel
theorem dX12_slack_16 : decode cX12_slack 16 = .ok (.goto 8, 3) := by decide +kernel
theorem dX12_slack_19 : decode cX12_slack 19 = .ok (.aload_n 0, 1) := by decide +kernel
theorem dX12_slack_20 : decode cX12_slack 20 = .ok (.iconst 0, 1) := by decide +kernel
theorem dX12_slack_21 : decode cX12_slack 21 = .ok (.invokevirtual 118, 3) := by decide +kernel
theorem dX12_slack_24 : decode cX12_slack 24 = .ok (.ireturn, 1) := by decide +kernel
theorem dX12_harvest_0 : decode cX12_harvest 0 = .ok (.iload_n 1, 1) := by decide +kernel
theorem dX12_harvest_1 : decode cX12_harvest 1 = .ok (.iconst 0, 1) := by decide +kernel
theorem dX12_harvest_2 : decode cX12_harvest 2 = .ok (.sipush 255, 3) := by decide +kernel
theorem dX12_harvest_5 : decode cX12_harvest 5 = .ok (.invokestatic 52, 3) := by decide +kernel
theorem dX12_harvest_8 : decode cX12_harvest 8 = .ok (.ifCond .eq 12, 3) := by decide +kernel
theorem dX12_harvest_11 : decode cX12_harvest 11 = .ok (.aload_n 0, 1) := by decide +kernel
theorem dX12_harvest_12 : decode cX12_harvest 12 = .ok (.iconst 3, 1) := by decide +kernel
theorem dX12_harvest_13 : decode cX12_harvest 13 = .ok (.iload_n 1, 1) := by decide +kernel
theorem dX12_harvest_14 : decode cX12_harvest 14 = .ok (.invokevirtual 115, 3) := by decide +kernel
theorem dX12_harvest_17 : decode cX12_harvest 17 = .ok (.goto 8, 3) := by decide +kernel
theorem dX12_harvest_20 : decode cX12_harvest 20 = .ok (.aload_n 0, 1) := by decide +kernel
theorem dX12_harvest_21 : decode cX12_harvest 21 = .ok (.iconst 0, 1) := by decide +kernel
theorem dX12_harvest_22 : decode cX12_harvest 22 = .ok (.invokevirtual 118, 3) := by decide +kernel
theorem dX12_harvest_25 : decode cX12_harvest 25 = .ok (.ireturn, 1) := by decide +kernel
theorem dX12_isKnot_0 : decode cX12_isKnot 0 = .ok (.iload_n 0, 1) := by decide +kernel
theorem dX12_isKnot_1 : decode cX12_isKnot 1 = .ok (.sipush (-9999), 3) := by decide +kernel
theorem dX12_isKnot_4 : decode cX12_isKnot 4 = .ok (.sipush 9999, 3) := by decide +kernel
theorem dX12_isKnot_7 : decode cX12_isKnot 7 = .ok (.invokestatic 52, 3) := by decide +kernel
theorem dX12_isKnot_10 : decode cX12_isKnot 10 = .ok (.ireturn, 1) := by decide +kernel
theorem dX12_knot_0 : decode cX12_knot 0 = .ok (.iload_n 1, 1) := by decide +kernel
theorem dX12_knot_1 : decode cX12_knot 1 = .ok (.invokestatic 121, 3) := by decide +kernel
theorem dX12_knot_4 : decode cX12_knot 4 = .ok (.ifCond .eq 12, 3) := by decide +kernel
theorem dX12_knot_7 : decode cX12_knot 7 = .ok (.aload_n 0, 1) := by decide +kernel
theorem dX12_knot_8 : decode cX12_knot 8 = .ok (.iconst 1, 1) := by decide +kernel
theorem dX12_knot_9 : decode cX12_knot 9 = .ok (.iload_n 1, 1) := by decide +kernel
theorem dX12_knot_10 : decode cX12_knot 10 = .ok (.invokevirtual 115, 3) := by decide +kernel
theorem dX12_knot_13 : decode cX12_knot 13 = .ok (.goto 8, 3) := by decide +kernel
theorem dX12_knot_16 : decode cX12_knot 16 = .ok (.aload_n 0, 1) := by decide +kernel
theorem dX12_knot_17 : decode cX12_knot 17 = .ok (.iconst 0, 1) := by decide +kernel
theorem dX12_knot_18 : decode cX12_knot 18 = .ok (.invokevirtual 118, 3) := by decide +kernel
theorem dX12_knot_21 : decode cX12_knot 21 = .ok (.ireturn, 1) := by decide +kernel
theorem dX12_onRope_0 : decode cX12_onRope 0 = .ok (.iconst 0, 1) := by decide +kernel
theorem dX12_onRope_1 : decode cX12_onRope 1 = .ok (.istore_n 1, 1) := by decide +kernel
theorem dX12_onRope_2 : decode cX12_onRope 2 = .ok (.iconst 0, 1) := by decide +kernel
theorem dX12_onRope_3 : decode cX12_onRope 3 = .ok (.istore_n 2, 1) := by decide +kernel
theorem dX12_onRope_4 : decode cX12_onRope 4 = .ok (.iload_n 2, 1) := by decide +kernel
theorem dX12_onRope_5 : decode cX12_onRope 5 = .ok (.aload_n 0, 1) := by decide +kernel
theorem dX12_onRope_6 : decode cX12_onRope 6 = .ok (.getfield 9, 3) := by decide +kernel
theorem dX12_onRope_9 : decode cX12_onRope 9 = .ok (.iconst 4, 1) := by decide +kernel
theorem dX12_onRope_10 : decode cX12_onRope 10 = .ok (.iaload, 1) := by decide +kernel
theorem dX12_onRope_11 : decode cX12_onRope 11 = .ok (.if_icmp .ge 20, 3) := by decide +kernel
theorem dX12_onRope_14 : decode cX12_onRope 14 = .ok (.iload_n 1, 1) := by decide +kernel
theorem dX12_onRope_15 : decode cX12_onRope 15 = .ok (.aload_n 0, 1) := by decide +kernel
theorem dX12_onRope_16 : decode cX12_onRope 16 = .ok (.iload_n 2, 1) := by decide +kernel
theorem dX12_onRope_17 : decode cX12_onRope 17 = .ok (.iconst 2, 1) := by decide +kernel
theorem dX12_onRope_18 : decode cX12_onRope 18 = .ok (.invokevirtual 60, 3) := by decide +kernel
theorem dX12_onRope_21 : decode cX12_onRope 21 = .ok (.iload_n 2, 1) := by decide +kernel
theorem dX12_onRope_22 : decode cX12_onRope 22 = .ok (.ishl, 1) := by decide +kernel
theorem dX12_onRope_23 : decode cX12_onRope 23 = .ok (.ior, 1) := by decide +kernel
theorem dX12_onRope_24 : decode cX12_onRope 24 = .ok (.istore_n 1, 1) := by decide +kernel
theorem dX12_onRope_25 : decode cX12_onRope 25 = .ok (.iinc 2 1, 3) := by decide +kernel
theorem dX12_onRope_28 : decode cX12_onRope 28 = .ok (.goto (-24), 3) := by decide +kernel
theorem dX12_onRope_31 : decode cX12_onRope 31 = .ok (.iload_n 1, 1) := by decide +kernel
theorem dX12_onRope_32 : decode cX12_onRope 32 = .ok (.ireturn, 1) := by decide +kernel
theorem dX12_now_0 : decode cX12_now 0 = .ok (.iload_n 1, 1) := by decide +kernel
theorem dX12_now_1 : decode cX12_now 1 = .ok (.tableswitch 126 0 9 #[55, 62, 67, 80, 93, 100, 107, 112, 117, 117], 55) := by decide +kernel
theorem dX12_now_56 : decode cX12_now 56 = .ok (.aload_n 0, 1) := by decide +kernel
theorem dX12_now_57 : decode cX12_now 57 = .ok (.getfield 9, 3) := by decide +kernel
theorem dX12_now_60 : decode cX12_now 60 = .ok (.iconst 0, 1) := by decide +kernel
theorem dX12_now_61 : decode cX12_now 61 = .ok (.iaload, 1) := by decide +kernel
theorem dX12_now_62 : decode cX12_now 62 = .ok (.ireturn, 1) := by decide +kernel
theorem dX12_now_63 : decode cX12_now 63 = .ok (.aload_n 0, 1) := by decide +kernel
theorem dX12_now_64 : decode cX12_now 64 = .ok (.invokevirtual 56, 3) := by decide +kernel
theorem dX12_now_67 : decode cX12_now 67 = .ok (.ireturn, 1) := by decide +kernel
theorem dX12_now_68 : decode cX12_now 68 = .ok (.aload_n 0, 1) := by decide +kernel
theorem dX12_now_69 : decode cX12_now 69 = .ok (.invokevirtual 68, 3) := by decide +kernel
theorem dX12_now_72 : decode cX12_now 72 = .ok (.ifCond .eq 7, 3) := by decide +kernel
theorem dX12_now_75 : decode cX12_now 75 = .ok (.iconst 1, 1) := by decide +kernel
theorem dX12_now_76 : decode cX12_now 76 = .ok (.goto 4, 3) := by decide +kernel
theorem dX12_now_79 : decode cX12_now 79 = .ok (.iconst 0, 1) := by decide +kernel
theorem dX12_now_80 : decode cX12_now 80 = .ok (.ireturn, 1) := by decide +kernel
theorem dX12_now_81 : decode cX12_now 81 = .ok (.aload_n 0, 1) := by decide +kernel
theorem dX12_now_82 : decode cX12_now 82 = .ok (.invokevirtual 64, 3) := by decide +kernel
theorem dX12_now_85 : decode cX12_now 85 = .ok (.ifCond .eq 7, 3) := by decide +kernel
theorem dX12_now_88 : decode cX12_now 88 = .ok (.iconst 1, 1) := by decide +kernel
theorem dX12_now_89 : decode cX12_now 89 = .ok (.goto 4, 3) := by decide +kernel
theorem dX12_now_92 : decode cX12_now 92 = .ok (.iconst 0, 1) := by decide +kernel
theorem dX12_now_93 : decode cX12_now 93 = .ok (.ireturn, 1) := by decide +kernel
theorem dX12_now_94 : decode cX12_now 94 = .ok (.aload_n 0, 1) := by decide +kernel
theorem dX12_now_95 : decode cX12_now 95 = .ok (.getfield 9, 3) := by decide +kernel
theorem dX12_now_98 : decode cX12_now 98 = .ok (.iconst 1, 1) := by decide +kernel
theorem dX12_now_99 : decode cX12_now 99 = .ok (.iaload, 1) := by decide +kernel
theorem dX12_now_100 : decode cX12_now 100 = .ok (.ireturn, 1) := by decide +kernel
theorem dX12_now_101 : decode cX12_now 101 = .ok (.aload_n 0, 1) := by decide +kernel
theorem dX12_now_102 : decode cX12_now 102 = .ok (.getfield 9, 3) := by decide +kernel
theorem dX12_now_105 : decode cX12_now 105 = .ok (.iconst 2, 1) := by decide +kernel
theorem dX12_now_106 : decode cX12_now 106 = .ok (.iaload, 1) := by decide +kernel
theorem dX12_now_107 : decode cX12_now 107 = .ok (.ireturn, 1) := by decide +kernel
theorem dX12_now_108 : decode cX12_now 108 = .ok (.aload_n 0, 1) := by decide +kernel
theorem dX12_now_109 : decode cX12_now 109 = .ok (.invokevirtual 71, 3) := by decide +kernel
theorem dX12_now_112 : decode cX12_now 112 = .ok (.ireturn, 1) := by decide +kernel
theorem dX12_now_113 : decode cX12_now 113 = .ok (.aload_n 0, 1) := by decide +kernel
theorem dX12_now_114 : decode cX12_now 114 = .ok (.invokevirtual 124, 3) := by decide +kernel
theorem dX12_now_117 : decode cX12_now 117 = .ok (.ireturn, 1) := by decide +kernel
theorem dX12_now_118 : decode cX12_now 118 = .ok (.aload_n 0, 1) := by decide +kernel
theorem dX12_now_119 : decode cX12_now 119 = .ok (.iload_n 1, 1) := by decide +kernel
theorem dX12_now_120 : decode cX12_now 120 = .ok (.bipush 8, 2) := by decide +kernel
theorem dX12_now_122 : decode cX12_now 122 = .ok (.isub, 1) := by decide +kernel
theorem dX12_now_123 : decode cX12_now 123 = .ok (.invokevirtual 78, 3) := by decide +kernel
theorem dX12_now_126 : decode cX12_now 126 = .ok (.ireturn, 1) := by decide +kernel
theorem dX12_now_127 : decode cX12_now 127 = .ok (.aload_n 0, 1) := by decide +kernel
theorem dX12_now_128 : decode cX12_now 128 = .ok (.iconst 0, 1) := by decide +kernel
theorem dX12_now_129 : decode cX12_now 129 = .ok (.invokevirtual 118, 3) := by decide +kernel
theorem dX12_now_132 : decode cX12_now 132 = .ok (.ireturn, 1) := by decide +kernel
theorem dX12_addsPerson_0 : decode cX12_addsPerson 0 = .ok (.aload_n 0, 1) := by decide +kernel
theorem dX12_addsPerson_1 : decode cX12_addsPerson 1 = .ok (.getfield 9, 3) := by decide +kernel
theorem dX12_addsPerson_4 : decode cX12_addsPerson 4 = .ok (.iconst 4, 1) := by decide +kernel
theorem dX12_addsPerson_5 : decode cX12_addsPerson 5 = .ok (.iaload, 1) := by decide +kernel
theorem dX12_addsPerson_6 : decode cX12_addsPerson 6 = .ok (.istore_n 3, 1) := by decide +kernel
theorem dX12_addsPerson_7 : decode cX12_addsPerson 7 = .ok (.aload_n 0, 1) := by decide +kernel
theorem dX12_addsPerson_8 : decode cX12_addsPerson 8 = .ok (.iload_n 3, 1) := by decide +kernel
theorem dX12_addsPerson_9 : decode cX12_addsPerson 9 = .ok (.iconst 0, 1) := by decide +kernel
theorem dX12_addsPerson_10 : decode cX12_addsPerson 10 = .ok (.iload_n 1, 1) := by decide +kernel
theorem dX12_addsPerson_11 : decode cX12_addsPerson 11 = .ok (.invokevirtual 88, 3) := by decide +kernel
theorem dX12_addsPerson_14 : decode cX12_addsPerson 14 = .ok (.aload_n 0, 1) := by decide +kernel
theorem dX12_addsPerson_15 : decode cX12_addsPerson 15 = .ok (.iload_n 3, 1) := by decide +kernel
theorem dX12_addsPerson_16 : decode cX12_addsPerson 16 = .ok (.iconst 1, 1) := by decide +kernel
theorem dX12_addsPerson_17 : decode cX12_addsPerson 17 = .ok (.iload_n 2, 1) := by decide +kernel
theorem dX12_addsPerson_18 : decode cX12_addsPerson 18 = .ok (.invokevirtual 88, 3) := by decide +kernel
theorem dX12_addsPerson_21 : decode cX12_addsPerson 21 = .ok (.aload_n 0, 1) := by decide +kernel
theorem dX12_addsPerson_22 : decode cX12_addsPerson 22 = .ok (.iload_n 3, 1) := by decide +kernel
theorem dX12_addsPerson_23 : decode cX12_addsPerson 23 = .ok (.iconst 2, 1) := by decide +kernel
theorem dX12_addsPerson_24 : decode cX12_addsPerson 24 = .ok (.iconst 0, 1) := by decide +kernel
theorem dX12_addsPerson_25 : decode cX12_addsPerson 25 = .ok (.invokevirtual 88, 3) := by decide +kernel
theorem dX12_addsPerson_28 : decode cX12_addsPerson 28 = .ok (.aload_n 0, 1) := by decide +kernel
theorem dX12_addsPerson_29 : decode cX12_addsPerson 29 = .ok (.iload_n 3, 1) := by decide +kernel
theorem dX12_addsPerson_30 : decode cX12_addsPerson 30 = .ok (.iconst 3, 1) := by decide +kernel
theorem dX12_addsPerson_31 : decode cX12_addsPerson 31 = .ok (.iconst 0, 1) := by decide +kernel
theorem dX12_addsPerson_32 : decode cX12_addsPerson 32 = .ok (.invokevirtual 88, 3) := by decide +kernel
theorem dX12_addsPerson_35 : decode cX12_addsPerson 35 = .ok (.aload_n 0, 1) := by decide +kernel
theorem dX12_addsPerson_36 : decode cX12_addsPerson 36 = .ok (.iload_n 3, 1) := by decide +kernel
theorem dX12_addsPerson_37 : decode cX12_addsPerson 37 = .ok (.iconst 4, 1) := by decide +kernel
theorem dX12_addsPerson_38 : decode cX12_addsPerson 38 = .ok (.bipush 8, 2) := by decide +kernel
theorem dX12_addsPerson_40 : decode cX12_addsPerson 40 = .ok (.invokevirtual 88, 3) := by decide +kernel
theorem dX12_addsPerson_43 : decode cX12_addsPerson 43 = .ok (.aload_n 0, 1) := by decide +kernel
theorem dX12_addsPerson_44 : decode cX12_addsPerson 44 = .ok (.getfield 9, 3) := by decide +kernel
theorem dX12_addsPerson_47 : decode cX12_addsPerson 47 = .ok (.iconst 4, 1) := by decide +kernel
theorem dX12_addsPerson_48 : decode cX12_addsPerson 48 = .ok (.dup2, 1) := by decide +kernel
theorem dX12_addsPerson_49 : decode cX12_addsPerson 49 = .ok (.iaload, 1) := by decide +kernel
theorem dX12_addsPerson_50 : decode cX12_addsPerson 50 = .ok (.iconst 1, 1) := by decide +kernel
theorem dX12_addsPerson_51 : decode cX12_addsPerson 51 = .ok (.iadd, 1) := by decide +kernel
theorem dX12_addsPerson_52 : decode cX12_addsPerson 52 = .ok (.iastore, 1) := by decide +kernel
theorem dX12_addsPerson_53 : decode cX12_addsPerson 53 = .ok (.return_, 1) := by decide +kernel
theorem dX12_person_0 : decode cX12_person 0 = .ok (.iload_n 1, 1) := by decide +kernel
theorem dX12_person_1 : decode cX12_person 1 = .ok (.iconst 0, 1) := by decide +kernel
theorem dX12_person_2 : decode cX12_person 2 = .ok (.iconst 5, 1) := by decide +kernel
theorem dX12_person_3 : decode cX12_person 3 = .ok (.invokestatic 52, 3) := by decide +kernel
theorem dX12_person_6 : decode cX12_person 6 = .ok (.ifCond .eq 10, 3) := by decide +kernel
theorem dX12_person_9 : decode cX12_person 9 = .ok (.iload_n 2, 1) := by decide +kernel
theorem dX12_person_10 : decode cX12_person 10 = .ok (.invokestatic 127, 3) := by decide +kernel
theorem dX12_person_13 : decode cX12_person 13 = .ok (.ifCond .ne 9, 3) := by decide +kernel
theorem dX12_person_16 : decode cX12_person 16 = .ok (.aload_n 0, 1) := by decide +kernel
theorem dX12_person_17 : decode cX12_person 17 = .ok (.iconst 0, 1) := by decide +kernel
theorem dX12_person_18 : decode cX12_person 18 = .ok (.invokevirtual 118, 3) := by decide +kernel
theorem dX12_person_21 : decode cX12_person 21 = .ok (.ireturn, 1) := by decide +kernel
theorem dX12_person_22 : decode cX12_person 22 = .ok (.aload_n 0, 1) := by decide +kernel
theorem dX12_person_23 : decode cX12_person 23 = .ok (.getfield 9, 3) := by decide +kernel
theorem dX12_person_26 : decode cX12_person 26 = .ok (.iconst 4, 1) := by decide +kernel
theorem dX12_person_27 : decode cX12_person 27 = .ok (.iaload, 1) := by decide +kernel
theorem dX12_person_28 : decode cX12_person 28 = .ok (.bipush 10, 2) := by decide +kernel
theorem dX12_person_30 : decode cX12_person 30 = .ok (.if_icmp .ne 9, 3) := by decide +kernel
theorem dX12_person_33 : decode cX12_person 33 = .ok (.aload_n 0, 1) := by decide +kernel
theorem dX12_person_34 : decode cX12_person 34 = .ok (.iconst 1, 1) := by decide +kernel
theorem dX12_person_35 : decode cX12_person 35 = .ok (.invokevirtual 118, 3) := by decide +kernel
theorem dX12_person_38 : decode cX12_person 38 = .ok (.ireturn, 1) := by decide +kernel
theorem dX12_person_39 : decode cX12_person 39 = .ok (.aload_n 0, 1) := by decide +kernel
theorem dX12_person_40 : decode cX12_person 40 = .ok (.iload_n 1, 1) := by decide +kernel
theorem dX12_person_41 : decode cX12_person 41 = .ok (.iload_n 2, 1) := by decide +kernel
theorem dX12_person_42 : decode cX12_person 42 = .ok (.invokevirtual 130, 3) := by decide +kernel
theorem dX12_person_45 : decode cX12_person 45 = .ok (.aload_n 0, 1) := by decide +kernel
theorem dX12_person_46 : decode cX12_person 46 = .ok (.getfield 9, 3) := by decide +kernel
theorem dX12_person_49 : decode cX12_person 49 = .ok (.iconst 4, 1) := by decide +kernel
theorem dX12_person_50 : decode cX12_person 50 = .ok (.iaload, 1) := by decide +kernel
theorem dX12_person_51 : decode cX12_person 51 = .ok (.iconst 1, 1) := by decide +kernel
theorem dX12_person_52 : decode cX12_person 52 = .ok (.isub, 1) := by decide +kernel
theorem dX12_person_53 : decode cX12_person 53 = .ok (.ireturn, 1) := by decide +kernel
theorem dX12_of_0 : decode cX12_of 0 = .ok (.aload_n 0, 1) := by decide +kernel
theorem dX12_of_1 : decode cX12_of 1 = .ok (.iload_n 1, 1) := by decide +kernel
theorem dX12_of_2 : decode cX12_of 2 = .ok (.invokevirtual 134, 3) := by decide +kernel
theorem dX12_of_5 : decode cX12_of 5 = .ok (.ifCond .eq 13, 3) := by decide +kernel
theorem dX12_of_8 : decode cX12_of 8 = .ok (.iload_n 2, 1) := by decide +kernel
theorem dX12_of_9 : decode cX12_of 9 = .ok (.iconst 0, 1) := by decide +kernel
theorem dX12_of_10 : decode cX12_of 10 = .ok (.bipush 7, 2) := by decide +kernel
theorem dX12_of_12 : decode cX12_of 12 = .ok (.invokestatic 52, 3) := by decide +kernel
theorem dX12_of_15 : decode cX12_of 15 = .ok (.ifCond .ne 9, 3) := by decide +kernel
theorem dX12_of_18 : decode cX12_of 18 = .ok (.aload_n 0, 1) := by decide +kernel
theorem dX12_of_19 : decode cX12_of 19 = .ok (.iconst 0, 1) := by decide +kernel
theorem dX12_of_20 : decode cX12_of 20 = .ok (.invokevirtual 118, 3) := by decide +kernel
theorem dX12_of_23 : decode cX12_of 23 = .ok (.ireturn, 1) := by decide +kernel
theorem dX12_of_24 : decode cX12_of 24 = .ok (.iload_n 2, 1) := by decide +kernel
theorem dX12_of_25 : decode cX12_of 25 = .ok (.tableswitch 53 5 7 #[27, 33, 39], 27) := by decide +kernel
theorem dX12_of_52 : decode cX12_of 52 = .ok (.aload_n 0, 1) := by decide +kernel
theorem dX12_of_53 : decode cX12_of 53 = .ok (.iload_n 1, 1) := by decide +kernel
theorem dX12_of_54 : decode cX12_of 54 = .ok (.invokevirtual 74, 3) := by decide +kernel
theorem dX12_of_57 : decode cX12_of 57 = .ok (.ireturn, 1) := by decide +kernel
theorem dX12_of_58 : decode cX12_of 58 = .ok (.aload_n 0, 1) := by decide +kernel
theorem dX12_of_59 : decode cX12_of 59 = .ok (.iload_n 1, 1) := by decide +kernel
theorem dX12_of_60 : decode cX12_of 60 = .ok (.invokevirtual 85, 3) := by decide +kernel
theorem dX12_of_63 : decode cX12_of 63 = .ok (.ireturn, 1) := by decide +kernel
theorem dX12_of_64 : decode cX12_of 64 = .ok (.aload_n 0, 1) := by decide +kernel
theorem dX12_of_65 : decode cX12_of 65 = .ok (.iload_n 1, 1) := by decide +kernel
theorem dX12_of_66 : decode cX12_of 66 = .ok (.invokevirtual 92, 3) := by decide +kernel
theorem dX12_of_69 : decode cX12_of 69 = .ok (.ifCond .eq 7, 3) := by decide +kernel
theorem dX12_of_72 : decode cX12_of 72 = .ok (.iconst 1, 1) := by decide +kernel
theorem dX12_of_73 : decode cX12_of 73 = .ok (.goto 4, 3) := by decide +kernel
theorem dX12_of_76 : decode cX12_of 76 = .ok (.iconst 0, 1) := by decide +kernel
theorem dX12_of_77 : decode cX12_of 77 = .ok (.ireturn, 1) := by decide +kernel
theorem dX12_of_78 : decode cX12_of 78 = .ok (.aload_n 0, 1) := by decide +kernel
theorem dX12_of_79 : decode cX12_of 79 = .ok (.iload_n 1, 1) := by decide +kernel
theorem dX12_of_80 : decode cX12_of 80 = .ok (.iload_n 2, 1) := by decide +kernel
theorem dX12_of_81 : decode cX12_of 81 = .ok (.invokevirtual 60, 3) := by decide +kernel
theorem dX12_of_84 : decode cX12_of 84 = .ok (.ireturn, 1) := by decide +kernel
theorem dX12_set_0 : decode cX12_set 0 = .ok (.iload_n 2, 1) := by decide +kernel
theorem dX12_set_1 : decode cX12_set 1 = .ok (.iconst 3, 1) := by decide +kernel
theorem dX12_set_2 : decode cX12_set 2 = .ok (.if_icmp .ne 8, 3) := by decide +kernel
theorem dX12_set_5 : decode cX12_set 5 = .ok (.bipush 99, 2) := by decide +kernel
theorem dX12_set_7 : decode cX12_set 7 = .ok (.goto 14, 3) := by decide +kernel
theorem dX12_set_10 : decode cX12_set 10 = .ok (.iload_n 2, 1) := by decide +kernel
theorem dX12_set_11 : decode cX12_set 11 = .ok (.iconst 4, 1) := by decide +kernel
theorem dX12_set_12 : decode cX12_set 12 = .ok (.if_icmp .ne 8, 3) := by decide +kernel
theorem dX12_set_15 : decode cX12_set 15 = .ok (.bipush 20, 2) := by decide +kernel
theorem dX12_set_17 : decode cX12_set 17 = .ok (.goto 4, 3) := by decide +kernel
theorem dX12_set_20 : decode cX12_set 20 = .ok (.iconst 1, 1) := by decide +kernel
theorem dX12_set_21 : decode cX12_set 21 = .ok (.istore 4, 2) := by decide +kernel
theorem dX12_set_23 : decode cX12_set 23 = .ok (.aload_n 0, 1) := by decide +kernel
theorem dX12_set_24 : decode cX12_set 24 = .ok (.iload_n 1, 1) := by decide +kernel
theorem dX12_set_25 : decode cX12_set 25 = .ok (.invokevirtual 134, 3) := by decide +kernel
theorem dX12_set_28 : decode cX12_set 28 = .ok (.ifCond .eq 31, 3) := by decide +kernel
theorem dX12_set_31 : decode cX12_set 31 = .ok (.iload_n 2, 1) := by decide +kernel
theorem dX12_set_32 : decode cX12_set 32 = .ok (.iconst 1, 1) := by decide +kernel
theorem dX12_set_33 : decode cX12_set 33 = .ok (.iconst 4, 1) := by decide +kernel
theorem dX12_set_34 : decode cX12_set 34 = .ok (.invokestatic 52, 3) := by decide +kernel
theorem dX12_set_37 : decode cX12_set 37 = .ok (.ifCond .eq 22, 3) := by decide +kernel
theorem dX12_set_40 : decode cX12_set 40 = .ok (.iload_n 3, 1) := by decide +kernel
theorem dX12_set_41 : decode cX12_set 41 = .ok (.iload_n 2, 1) := by decide +kernel
theorem dX12_set_42 : decode cX12_set 42 = .ok (.iconst 4, 1) := by decide +kernel
theorem dX12_set_43 : decode cX12_set 43 = .ok (.if_icmp .ne 7, 3) := by decide +kernel
theorem dX12_set_46 : decode cX12_set 46 = .ok (.iconst 1, 1) := by decide +kernel
theorem dX12_set_47 : decode cX12_set 47 = .ok (.goto 4, 3) := by decide +kernel
theorem dX12_set_50 : decode cX12_set 50 = .ok (.iconst 0, 1) := by decide +kernel
theorem dX12_set_51 : decode cX12_set 51 = .ok (.iload 4, 2) := by decide +kernel
theorem dX12_set_53 : decode cX12_set 53 = .ok (.invokestatic 52, 3) := by decide +kernel
theorem dX12_set_56 : decode cX12_set 56 = .ok (.ifCond .ne 9, 3) := by decide +kernel
theorem dX12_set_59 : decode cX12_set 59 = .ok (.aload_n 0, 1) := by decide +kernel
theorem dX12_set_60 : decode cX12_set 60 = .ok (.iconst 0, 1) := by decide +kernel
theorem dX12_set_61 : decode cX12_set 61 = .ok (.invokevirtual 118, 3) := by decide +kernel
theorem dX12_set_64 : decode cX12_set 64 = .ok (.ireturn, 1) := by decide +kernel
theorem dX12_set_65 : decode cX12_set 65 = .ok (.aload_n 0, 1) := by decide +kernel
theorem dX12_set_66 : decode cX12_set 66 = .ok (.iload_n 1, 1) := by decide +kernel
theorem dX12_set_67 : decode cX12_set 67 = .ok (.iload_n 2, 1) := by decide +kernel
theorem dX12_set_68 : decode cX12_set 68 = .ok (.invokevirtual 60, 3) := by decide +kernel
theorem dX12_set_71 : decode cX12_set 71 = .ok (.istore 5, 2) := by decide +kernel
theorem dX12_set_73 : decode cX12_set 73 = .ok (.aload_n 0, 1) := by decide +kernel
theorem dX12_set_74 : decode cX12_set 74 = .ok (.iload_n 1, 1) := by decide +kernel
theorem dX12_set_75 : decode cX12_set 75 = .ok (.iload_n 2, 1) := by decide +kernel
theorem dX12_set_76 : decode cX12_set 76 = .ok (.iload_n 3, 1) := by decide +kernel
theorem dX12_set_77 : decode cX12_set 77 = .ok (.invokevirtual 88, 3) := by decide +kernel
theorem dX12_set_80 : decode cX12_set 80 = .ok (.iload 5, 2) := by decide +kernel
theorem dX12_set_82 : decode cX12_set 82 = .ok (.ireturn, 1) := by decide +kernel
theorem dX12_turn_0 : decode cX12_turn 0 = .ok (.aload_n 0, 1) := by decide +kernel
theorem dX12_turn_1 : decode cX12_turn 1 = .ok (.iload_n 1, 1) := by decide +kernel
theorem dX12_turn_2 : decode cX12_turn 2 = .ok (.invokevirtual 134, 3) := by decide +kernel
theorem dX12_turn_5 : decode cX12_turn 5 = .ok (.ifCond .eq 12, 3) := by decide +kernel
theorem dX12_turn_8 : decode cX12_turn 8 = .ok (.iload_n 2, 1) := by decide +kernel
theorem dX12_turn_9 : decode cX12_turn 9 = .ok (.iconst 0, 1) := by decide +kernel
theorem dX12_turn_10 : decode cX12_turn 10 = .ok (.iconst 5, 1) := by decide +kernel
theorem dX12_turn_11 : decode cX12_turn 11 = .ok (.invokestatic 52, 3) := by decide +kernel
theorem dX12_turn_14 : decode cX12_turn 14 = .ok (.ifCond .ne 9, 3) := by decide +kernel
theorem dX12_turn_17 : decode cX12_turn 17 = .ok (.aload_n 0, 1) := by decide +kernel
theorem dX12_turn_18 : decode cX12_turn 18 = .ok (.iconst 0, 1) := by decide +kernel
theorem dX12_turn_19 : decode cX12_turn 19 = .ok (.invokevirtual 118, 3) := by decide +kernel
theorem dX12_turn_22 : decode cX12_turn 22 = .ok (.ireturn, 1) := by decide +kernel
theorem dX12_turn_23 : decode cX12_turn 23 = .ok (.aload_n 0, 1) := by decide +kernel
theorem dX12_turn_24 : decode cX12_turn 24 = .ok (.iload_n 1, 1) := by decide +kernel
theorem dX12_turn_25 : decode cX12_turn 25 = .ok (.iconst 0, 1) := by decide +kernel
theorem dX12_turn_26 : decode cX12_turn 26 = .ok (.invokevirtual 60, 3) := by decide +kernel
theorem dX12_turn_29 : decode cX12_turn 29 = .ok (.istore_n 3, 1) := by decide +kernel
theorem dX12_turn_30 : decode cX12_turn 30 = .ok (.aload_n 0, 1) := by decide +kernel
theorem dX12_turn_31 : decode cX12_turn 31 = .ok (.iload_n 1, 1) := by decide +kernel
theorem dX12_turn_32 : decode cX12_turn 32 = .ok (.iconst 0, 1) := by decide +kernel
theorem dX12_turn_33 : decode cX12_turn 33 = .ok (.iload_n 2, 1) := by decide +kernel
theorem dX12_turn_34 : decode cX12_turn 34 = .ok (.invokevirtual 88, 3) := by decide +kernel
theorem dX12_turn_37 : decode cX12_turn 37 = .ok (.iload_n 3, 1) := by decide +kernel
theorem dX12_turn_38 : decode cX12_turn 38 = .ok (.ireturn, 1) := by decide +kernel
theorem dX12_as_0 : decode cX12_as 0 = .ok (.aload_n 0, 1) := by decide +kernel
theorem dX12_as_1 : decode cX12_as 1 = .ok (.iload_n 1, 1) := by decide +kernel
theorem dX12_as_2 : decode cX12_as 2 = .ok (.invokevirtual 134, 3) := by decide +kernel
theorem dX12_as_5 : decode cX12_as 5 = .ok (.ifCond .eq 12, 3) := by decide +kernel
theorem dX12_as_8 : decode cX12_as 8 = .ok (.iload_n 2, 1) := by decide +kernel
theorem dX12_as_9 : decode cX12_as 9 = .ok (.iconst 0, 1) := by decide +kernel
theorem dX12_as_10 : decode cX12_as 10 = .ok (.iconst 5, 1) := by decide +kernel
theorem dX12_as_11 : decode cX12_as 11 = .ok (.invokestatic 52, 3) := by decide +kernel
theorem dX12_as_14 : decode cX12_as 14 = .ok (.ifCond .ne 9, 3) := by decide +kernel
theorem dX12_as_17 : decode cX12_as 17 = .ok (.aload_n 0, 1) := by decide +kernel
theorem dX12_as_18 : decode cX12_as 18 = .ok (.iconst 0, 1) := by decide +kernel
theorem dX12_as_19 : decode cX12_as 19 = .ok (.invokevirtual 118, 3) := by decide +kernel
theorem dX12_as_22 : decode cX12_as 22 = .ok (.ireturn, 1) := by decide +kernel
theorem dX12_as_23 : decode cX12_as 23 = .ok (.aload_n 0, 1) := by decide +kernel
theorem dX12_as_24 : decode cX12_as 24 = .ok (.iload_n 1, 1) := by decide +kernel
theorem dX12_as_25 : decode cX12_as 25 = .ok (.iconst 0, 1) := by decide +kernel
theorem dX12_as_26 : decode cX12_as 26 = .ok (.invokevirtual 60, 3) := by decide +kernel
theorem dX12_as_29 : decode cX12_as 29 = .ok (.istore_n 3, 1) := by decide +kernel
theorem dX12_as_30 : decode cX12_as 30 = .ok (.iload_n 3, 1) := by decide +kernel
theorem dX12_as_31 : decode cX12_as 31 = .ok (.iload_n 2, 1) := by decide +kernel
theorem dX12_as_32 : decode cX12_as 32 = .ok (.if_icmp .eq 30, 3) := by decide +kernel
theorem dX12_as_35 : decode cX12_as 35 = .ok (.iload_n 3, 1) := by decide +kernel
theorem dX12_as_36 : decode cX12_as 36 = .ok (.ifCond .eq 26, 3) := by decide +kernel
theorem dX12_as_39 : decode cX12_as 39 = .ok (.iload_n 3, 1) := by decide +kernel
theorem dX12_as_40 : decode cX12_as 40 = .ok (.iconst 4, 1) := by decide +kernel
theorem dX12_as_41 : decode cX12_as 41 = .ok (.if_icmp .ne 7, 3) := by decide +kernel
theorem dX12_as_44 : decode cX12_as 44 = .ok (.iconst 1, 1) := by decide +kernel
theorem dX12_as_45 : decode cX12_as 45 = .ok (.goto 13, 3) := by decide +kernel
theorem dX12_as_48 : decode cX12_as 48 = .ok (.iload_n 3, 1) := by decide +kernel
theorem dX12_as_49 : decode cX12_as 49 = .ok (.iconst 5, 1) := by decide +kernel
theorem dX12_as_50 : decode cX12_as 50 = .ok (.if_icmp .ne 7, 3) := by decide +kernel
theorem dX12_as_53 : decode cX12_as 53 = .ok (.iconst 2, 1) := by decide +kernel
theorem dX12_as_54 : decode cX12_as 54 = .ok (.goto 4, 3) := by decide +kernel
theorem dX12_as_57 : decode cX12_as 57 = .ok (.iconst 0, 1) := by decide +kernel
theorem dX12_as_58 : decode cX12_as 58 = .ok (.istore_n 3, 1) := by decide +kernel
theorem dX12_as_59 : decode cX12_as 59 = .ok (.goto (-29), 3) := by decide +kernel
theorem dX12_as_62 : decode cX12_as 62 = .ok (.iload_n 3, 1) := by decide +kernel
theorem dX12_as_63 : decode cX12_as 63 = .ok (.iload_n 2, 1) := by decide +kernel
theorem dX12_as_64 : decode cX12_as 64 = .ok (.if_icmp .ne 12, 3) := by decide +kernel
theorem dX12_as_67 : decode cX12_as 67 = .ok (.aload_n 0, 1) := by decide +kernel
theorem dX12_as_68 : decode cX12_as 68 = .ok (.iload_n 1, 1) := by decide +kernel
theorem dX12_as_69 : decode cX12_as 69 = .ok (.iconst 4, 1) := by decide +kernel
theorem dX12_as_70 : decode cX12_as 70 = .ok (.invokevirtual 60, 3) := by decide +kernel
theorem dX12_as_73 : decode cX12_as 73 = .ok (.goto 8, 3) := by decide +kernel
theorem dX12_as_76 : decode cX12_as 76 = .ok (.aload_n 0, 1) := by decide +kernel
theorem dX12_as_77 : decode cX12_as 77 = .ok (.iconst 2, 1) := by decide +kernel
theorem dX12_as_78 : decode cX12_as 78 = .ok (.invokevirtual 118, 3) := by decide +kernel
theorem dX12_as_81 : decode cX12_as 81 = .ok (.ireturn, 1) := by decide +kernel
theorem dX12_mayRelieve_0 : decode cX12_mayRelieve 0 = .ok (.aload_n 0, 1) := by decide +kernel
theorem dX12_mayRelieve_1 : decode cX12_mayRelieve 1 = .ok (.iload_n 1, 1) := by decide +kernel
theorem dX12_mayRelieve_2 : decode cX12_mayRelieve 2 = .ok (.iconst 2, 1) := by decide +kernel
theorem dX12_mayRelieve_3 : decode cX12_mayRelieve 3 = .ok (.invokevirtual 60, 3) := by decide +kernel
theorem dX12_mayRelieve_6 : decode cX12_mayRelieve 6 = .ok (.ifCond .ne 32, 3) := by decide +kernel
theorem dX12_mayRelieve_9 : decode cX12_mayRelieve 9 = .ok (.aload_n 0, 1) := by decide +kernel
theorem dX12_mayRelieve_10 : decode cX12_mayRelieve 10 = .ok (.iload_n 2, 1) := by decide +kernel
theorem dX12_mayRelieve_11 : decode cX12_mayRelieve 11 = .ok (.iconst 2, 1) := by decide +kernel
theorem dX12_mayRelieve_12 : decode cX12_mayRelieve 12 = .ok (.invokevirtual 60, 3) := by decide +kernel
theorem dX12_mayRelieve_15 : decode cX12_mayRelieve 15 = .ok (.iconst 1, 1) := by decide +kernel
theorem dX12_mayRelieve_16 : decode cX12_mayRelieve 16 = .ok (.if_icmp .ne 22, 3) := by decide +kernel
theorem dX12_mayRelieve_19 : decode cX12_mayRelieve 19 = .ok (.aload_n 0, 1) := by decide +kernel
theorem dX12_mayRelieve_20 : decode cX12_mayRelieve 20 = .ok (.iload_n 1, 1) := by decide +kernel
theorem dX12_mayRelieve_21 : decode cX12_mayRelieve 21 = .ok (.iconst 1, 1) := by decide +kernel
theorem dX12_mayRelieve_22 : decode cX12_mayRelieve 22 = .ok (.invokevirtual 60, 3) := by decide +kernel
theorem dX12_mayRelieve_25 : decode cX12_mayRelieve 25 = .ok (.aload_n 0, 1) := by decide +kernel
theorem dX12_mayRelieve_26 : decode cX12_mayRelieve 26 = .ok (.iload_n 2, 1) := by decide +kernel
theorem dX12_mayRelieve_27 : decode cX12_mayRelieve 27 = .ok (.iconst 1, 1) := by decide +kernel
theorem dX12_mayRelieve_28 : decode cX12_mayRelieve 28 = .ok (.invokevirtual 60, 3) := by decide +kernel
theorem dX12_mayRelieve_31 : decode cX12_mayRelieve 31 = .ok (.if_icmp .ne 7, 3) := by decide +kernel
theorem dX12_mayRelieve_34 : decode cX12_mayRelieve 34 = .ok (.iconst 1, 1) := by decide +kernel
theorem dX12_mayRelieve_35 : decode cX12_mayRelieve 35 = .ok (.goto 4, 3) := by decide +kernel
theorem dX12_mayRelieve_38 : decode cX12_mayRelieve 38 = .ok (.iconst 0, 1) := by decide +kernel
theorem dX12_mayRelieve_39 : decode cX12_mayRelieve 39 = .ok (.ireturn, 1) := by decide +kernel
theorem dX12_relieves_0 : decode cX12_relieves 0 = .ok (.aload_n 0, 1) := by decide +kernel
theorem dX12_relieves_1 : decode cX12_relieves 1 = .ok (.iload_n 1, 1) := by decide +kernel
theorem dX12_relieves_2 : decode cX12_relieves 2 = .ok (.iconst 2, 1) := by decide +kernel
theorem dX12_relieves_3 : decode cX12_relieves 3 = .ok (.iconst 1, 1) := by decide +kernel
theorem dX12_relieves_4 : decode cX12_relieves 4 = .ok (.invokevirtual 88, 3) := by decide +kernel
theorem dX12_relieves_7 : decode cX12_relieves 7 = .ok (.aload_n 0, 1) := by decide +kernel
theorem dX12_relieves_8 : decode cX12_relieves 8 = .ok (.iload_n 2, 1) := by decide +kernel
theorem dX12_relieves_9 : decode cX12_relieves 9 = .ok (.iconst 2, 1) := by decide +kernel
theorem dX12_relieves_10 : decode cX12_relieves 10 = .ok (.iconst 0, 1) := by decide +kernel
theorem dX12_relieves_11 : decode cX12_relieves 11 = .ok (.invokevirtual 88, 3) := by decide +kernel
theorem dX12_relieves_14 : decode cX12_relieves 14 = .ok (.return_, 1) := by decide +kernel
theorem dX12_relieve_0 : decode cX12_relieve 0 = .ok (.aload_n 0, 1) := by decide +kernel
theorem dX12_relieve_1 : decode cX12_relieve 1 = .ok (.iload_n 1, 1) := by decide +kernel
theorem dX12_relieve_2 : decode cX12_relieve 2 = .ok (.invokevirtual 134, 3) := by decide +kernel
theorem dX12_relieve_5 : decode cX12_relieve 5 = .ok (.ifCond .eq 11, 3) := by decide +kernel
theorem dX12_relieve_8 : decode cX12_relieve 8 = .ok (.aload_n 0, 1) := by decide +kernel
theorem dX12_relieve_9 : decode cX12_relieve 9 = .ok (.iload_n 2, 1) := by decide +kernel
theorem dX12_relieve_10 : decode cX12_relieve 10 = .ok (.invokevirtual 134, 3) := by decide +kernel
theorem dX12_relieve_13 : decode cX12_relieve 13 = .ok (.ifCond .ne 9, 3) := by decide +kernel
theorem dX12_relieve_16 : decode cX12_relieve 16 = .ok (.aload_n 0, 1) := by decide +kernel
theorem dX12_relieve_17 : decode cX12_relieve 17 = .ok (.iconst 0, 1) := by decide +kernel
theorem dX12_relieve_18 : decode cX12_relieve 18 = .ok (.invokevirtual 118, 3) := by decide +kernel
theorem dX12_relieve_21 : decode cX12_relieve 21 = .ok (.ireturn, 1) := by decide +kernel
theorem dX12_relieve_22 : decode cX12_relieve 22 = .ok (.aload_n 0, 1) := by decide +kernel
theorem dX12_relieve_23 : decode cX12_relieve 23 = .ok (.iload_n 1, 1) := by decide +kernel
theorem dX12_relieve_24 : decode cX12_relieve 24 = .ok (.iload_n 2, 1) := by decide +kernel
theorem dX12_relieve_25 : decode cX12_relieve 25 = .ok (.invokevirtual 137, 3) := by decide +kernel
theorem dX12_relieve_28 : decode cX12_relieve 28 = .ok (.ifCond .ne 9, 3) := by decide +kernel
theorem dX12_relieve_31 : decode cX12_relieve 31 = .ok (.aload_n 0, 1) := by decide +kernel
theorem dX12_relieve_32 : decode cX12_relieve 32 = .ok (.iconst 4, 1) := by decide +kernel
theorem dX12_relieve_33 : decode cX12_relieve 33 = .ok (.invokevirtual 118, 3) := by decide +kernel
theorem dX12_relieve_36 : decode cX12_relieve 36 = .ok (.ireturn, 1) := by decide +kernel
theorem dX12_relieve_37 : decode cX12_relieve 37 = .ok (.aload_n 0, 1) := by decide +kernel
theorem dX12_relieve_38 : decode cX12_relieve 38 = .ok (.iload_n 1, 1) := by decide +kernel
theorem dX12_relieve_39 : decode cX12_relieve 39 = .ok (.iload_n 2, 1) := by decide +kernel
theorem dX12_relieve_40 : decode cX12_relieve 40 = .ok (.invokevirtual 141, 3) := by decide +kernel
theorem dX12_relieve_43 : decode cX12_relieve 43 = .ok (.iconst 1, 1) := by decide +kernel
theorem dX12_relieve_44 : decode cX12_relieve 44 = .ok (.ireturn, 1) := by decide +kernel
theorem dX12_days_0 : decode cX12_days 0 = .ok (.iload_n 1, 1) := by decide +kernel
theorem dX12_days_1 : decode cX12_days 1 = .ok (.iconst 1, 1) := by decide +kernel
theorem dX12_days_2 : decode cX12_days 2 = .ok (.bipush 100, 2) := by decide +kernel
theorem dX12_days_4 : decode cX12_days 4 = .ok (.invokestatic 52, 3) := by decide +kernel
theorem dX12_days_7 : decode cX12_days 7 = .ok (.ifCond .ne 9, 3) := by decide +kernel
theorem dX12_days_10 : decode cX12_days 10 = .ok (.aload_n 0, 1) := by decide +kernel
theorem dX12_days_11 : decode cX12_days 11 = .ok (.iconst 0, 1) := by decide +kernel
theorem dX12_days_12 : decode cX12_days 12 = .ok (.invokevirtual 118, 3) := by decide +kernel
theorem dX12_days_15 : decode cX12_days 15 = .ok (.ireturn, 1) := by decide +kernel
theorem dX12_days_16 : decode cX12_days 16 = .ok (.aload_n 0, 1) := by decide +kernel
theorem dX12_days_17 : decode cX12_days 17 = .ok (.getfield 9, 3) := by decide +kernel
theorem dX12_days_20 : decode cX12_days 20 = .ok (.iconst 0, 1) := by decide +kernel
theorem dX12_days_21 : decode cX12_days 21 = .ok (.iaload, 1) := by decide +kernel
theorem dX12_days_22 : decode cX12_days 22 = .ok (.iload_n 1, 1) := by decide +kernel
theorem dX12_days_23 : decode cX12_days 23 = .ok (.iadd, 1) := by decide +kernel
theorem dX12_days_24 : decode cX12_days 24 = .ok (.ldc 144, 2) := by decide +kernel
theorem dX12_days_26 : decode cX12_days 26 = .ok (.if_icmp .le 9, 3) := by decide +kernel
theorem dX12_days_29 : decode cX12_days 29 = .ok (.aload_n 0, 1) := by decide +kernel
theorem dX12_days_30 : decode cX12_days 30 = .ok (.iconst 4, 1) := by decide +kernel
theorem dX12_days_31 : decode cX12_days 31 = .ok (.invokevirtual 118, 3) := by decide +kernel
theorem dX12_days_34 : decode cX12_days 34 = .ok (.ireturn, 1) := by decide +kernel
theorem dX12_days_35 : decode cX12_days 35 = .ok (.aload_n 0, 1) := by decide +kernel
theorem dX12_days_36 : decode cX12_days 36 = .ok (.iload_n 1, 1) := by decide +kernel
theorem dX12_days_37 : decode cX12_days 37 = .ok (.invokevirtual 106, 3) := by decide +kernel
theorem dX12_days_40 : decode cX12_days 40 = .ok (.aload_n 0, 1) := by decide +kernel
theorem dX12_days_41 : decode cX12_days 41 = .ok (.getfield 9, 3) := by decide +kernel
theorem dX12_days_44 : decode cX12_days 44 = .ok (.iconst 1, 1) := by decide +kernel
theorem dX12_days_45 : decode cX12_days 45 = .ok (.iaload, 1) := by decide +kernel
theorem dX12_days_46 : decode cX12_days 46 = .ok (.ireturn, 1) := by decide +kernel
theorem dX12_on_0 : decode cX12_on 0 = .ok (.iload_n 1, 1) := by decide +kernel
theorem dX12_on_1 : decode cX12_on 1 = .ok (.iconst 0, 1) := by decide +kernel
theorem dX12_on_2 : decode cX12_on 2 = .ok (.sipush 400, 3) := by decide +kernel
theorem dX12_on_5 : decode cX12_on 5 = .ok (.invokestatic 52, 3) := by decide +kernel
theorem dX12_on_8 : decode cX12_on 8 = .ok (.ifCond .eq 12, 3) := by decide +kernel
theorem dX12_on_11 : decode cX12_on 11 = .ok (.iload_n 2, 1) := by decide +kernel
theorem dX12_on_12 : decode cX12_on 12 = .ok (.iconst 0, 1) := by decide +kernel
theorem dX12_on_13 : decode cX12_on 13 = .ok (.iconst 1, 1) := by decide +kernel
theorem dX12_on_14 : decode cX12_on 14 = .ok (.invokestatic 52, 3) := by decide +kernel
theorem dX12_on_17 : decode cX12_on 17 = .ok (.ifCond .ne 9, 3) := by decide +kernel
theorem dX12_on_20 : decode cX12_on 20 = .ok (.aload_n 0, 1) := by decide +kernel
theorem dX12_on_21 : decode cX12_on 21 = .ok (.iconst 0, 1) := by decide +kernel
theorem dX12_on_22 : decode cX12_on 22 = .ok (.invokevirtual 118, 3) := by decide +kernel
theorem dX12_on_25 : decode cX12_on 25 = .ok (.ireturn, 1) := by decide +kernel
theorem dX12_on_26 : decode cX12_on 26 = .ok (.aload_n 0, 1) := by decide +kernel
theorem dX12_on_27 : decode cX12_on 27 = .ok (.invokevirtual 145, 3) := by decide +kernel
theorem dX12_on_30 : decode cX12_on 30 = .ok (.aload_n 0, 1) := by decide +kernel
theorem dX12_on_31 : decode cX12_on 31 = .ok (.iload_n 1, 1) := by decide +kernel
theorem dX12_on_32 : decode cX12_on 32 = .ok (.invokevirtual 106, 3) := by decide +kernel
theorem dX12_on_35 : decode cX12_on 35 = .ok (.iload_n 2, 1) := by decide +kernel
theorem dX12_on_36 : decode cX12_on 36 = .ok (.ifCond .ne 12, 3) := by decide +kernel
theorem dX12_on_39 : decode cX12_on 39 = .ok (.aload_n 0, 1) := by decide +kernel
theorem dX12_on_40 : decode cX12_on 40 = .ok (.getfield 9, 3) := by decide +kernel
theorem dX12_on_43 : decode cX12_on 43 = .ok (.iconst 1, 1) := by decide +kernel
theorem dX12_on_44 : decode cX12_on 44 = .ok (.iaload, 1) := by decide +kernel
theorem dX12_on_45 : decode cX12_on 45 = .ok (.goto 7, 3) := by decide +kernel
theorem dX12_on_48 : decode cX12_on 48 = .ok (.aload_n 0, 1) := by decide +kernel
theorem dX12_on_49 : decode cX12_on 49 = .ok (.invokevirtual 124, 3) := by decide +kernel
theorem dX12_on_52 : decode cX12_on 52 = .ok (.istore_n 3, 1) := by decide +kernel
theorem dX12_on_53 : decode cX12_on 53 = .ok (.aload_n 0, 1) := by decide +kernel
theorem dX12_on_54 : decode cX12_on 54 = .ok (.invokevirtual 112, 3) := by decide +kernel
theorem dX12_on_57 : decode cX12_on 57 = .ok (.iload_n 3, 1) := by decide +kernel
theorem dX12_on_58 : decode cX12_on 58 = .ok (.ireturn, 1) := by decide +kernel
theorem dX12_then_0 : decode cX12_then 0 = .ok (.aload_n 0, 1) := by decide +kernel
theorem dX12_then_1 : decode cX12_then 1 = .ok (.iload_n 1, 1) := by decide +kernel
theorem dX12_then_2 : decode cX12_then 2 = .ok (.invokevirtual 134, 3) := by decide +kernel
theorem dX12_then_5 : decode cX12_then 5 = .ok (.ifCond .eq 23, 3) := by decide +kernel
theorem dX12_then_8 : decode cX12_then 8 = .ok (.iload_n 2, 1) := by decide +kernel
theorem dX12_then_9 : decode cX12_then 9 = .ok (.iconst 0, 1) := by decide +kernel
theorem dX12_then_10 : decode cX12_then 10 = .ok (.sipush 400, 3) := by decide +kernel
theorem dX12_then_13 : decode cX12_then 13 = .ok (.invokestatic 52, 3) := by decide +kernel
theorem dX12_then_16 : decode cX12_then 16 = .ok (.ifCond .eq 12, 3) := by decide +kernel
theorem dX12_then_19 : decode cX12_then 19 = .ok (.iload_n 3, 1) := by decide +kernel
theorem dX12_then_20 : decode cX12_then 20 = .ok (.iconst 0, 1) := by decide +kernel
theorem dX12_then_21 : decode cX12_then 21 = .ok (.iconst 1, 1) := by decide +kernel
theorem dX12_then_22 : decode cX12_then 22 = .ok (.invokestatic 52, 3) := by decide +kernel
theorem dX12_then_25 : decode cX12_then 25 = .ok (.ifCond .ne 9, 3) := by decide +kernel
theorem dX12_then_28 : decode cX12_then 28 = .ok (.aload_n 0, 1) := by decide +kernel
theorem dX12_then_29 : decode cX12_then 29 = .ok (.iconst 0, 1) := by decide +kernel
theorem dX12_then_30 : decode cX12_then 30 = .ok (.invokevirtual 118, 3) := by decide +kernel
theorem dX12_then_33 : decode cX12_then 33 = .ok (.ireturn, 1) := by decide +kernel
theorem dX12_then_34 : decode cX12_then 34 = .ok (.aload_n 0, 1) := by decide +kernel
theorem dX12_then_35 : decode cX12_then 35 = .ok (.invokevirtual 145, 3) := by decide +kernel
theorem dX12_then_38 : decode cX12_then 38 = .ok (.aload_n 0, 1) := by decide +kernel
theorem dX12_then_39 : decode cX12_then 39 = .ok (.iload_n 2, 1) := by decide +kernel
theorem dX12_then_40 : decode cX12_then 40 = .ok (.invokevirtual 106, 3) := by decide +kernel
theorem dX12_then_43 : decode cX12_then 43 = .ok (.aload_n 0, 1) := by decide +kernel
theorem dX12_then_44 : decode cX12_then 44 = .ok (.iload_n 1, 1) := by decide +kernel
theorem dX12_then_45 : decode cX12_then 45 = .ok (.iload_n 3, 1) := by decide +kernel
theorem dX12_then_46 : decode cX12_then 46 = .ok (.ifCond .ne 7, 3) := by decide +kernel
theorem dX12_then_49 : decode cX12_then 49 = .ok (.iconst 2, 1) := by decide +kernel
theorem dX12_then_50 : decode cX12_then 50 = .ok (.goto 4, 3) := by decide +kernel
theorem dX12_then_53 : decode cX12_then 53 = .ok (.iconst 3, 1) := by decide +kernel
theorem dX12_then_54 : decode cX12_then 54 = .ok (.invokevirtual 60, 3) := by decide +kernel
theorem dX12_then_57 : decode cX12_then 57 = .ok (.istore 4, 2) := by decide +kernel
theorem dX12_then_59 : decode cX12_then 59 = .ok (.aload_n 0, 1) := by decide +kernel
theorem dX12_then_60 : decode cX12_then 60 = .ok (.invokevirtual 112, 3) := by decide +kernel
theorem dX12_then_63 : decode cX12_then 63 = .ok (.iload 4, 2) := by decide +kernel
theorem dX12_then_65 : decode cX12_then 65 = .ok (.ireturn, 1) := by decide +kernel
theorem dX12_wins_0 : decode cX12_wins 0 = .ok (.iload_n 1, 1) := by decide +kernel
theorem dX12_wins_1 : decode cX12_wins 1 = .ok (.invokestatic 127, 3) := by decide +kernel
theorem dX12_wins_4 : decode cX12_wins 4 = .ok (.ifCond .eq 14, 3) := by decide +kernel
theorem dX12_wins_7 : decode cX12_wins 7 = .ok (.iload_n 2, 1) := by decide +kernel
theorem dX12_wins_8 : decode cX12_wins 8 = .ok (.iconst 1, 1) := by decide +kernel
theorem dX12_wins_9 : decode cX12_wins 9 = .ok (.sipush 9999, 3) := by decide +kernel
theorem dX12_wins_12 : decode cX12_wins 12 = .ok (.invokestatic 52, 3) := by decide +kernel
theorem dX12_wins_15 : decode cX12_wins 15 = .ok (.ifCond .ne 9, 3) := by decide +kernel
theorem dX12_wins_18 : decode cX12_wins 18 = .ok (.aload_n 0, 1) := by decide +kernel
theorem dX12_wins_19 : decode cX12_wins 19 = .ok (.iconst 0, 1) := by decide +kernel
theorem dX12_wins_20 : decode cX12_wins 20 = .ok (.invokevirtual 118, 3) := by decide +kernel
theorem dX12_wins_23 : decode cX12_wins 23 = .ok (.ireturn, 1) := by decide +kernel
theorem dX12_wins_24 : decode cX12_wins 24 = .ok (.aload_n 0, 1) := by decide +kernel
theorem dX12_wins_25 : decode cX12_wins 25 = .ok (.invokevirtual 145, 3) := by decide +kernel
theorem dX12_wins_28 : decode cX12_wins 28 = .ok (.iconst 0, 1) := by decide +kernel
theorem dX12_wins_29 : decode cX12_wins 29 = .ok (.istore_n 3, 1) := by decide +kernel
theorem dX12_wins_30 : decode cX12_wins 30 = .ok (.iload_n 3, 1) := by decide +kernel
theorem dX12_wins_31 : decode cX12_wins 31 = .ok (.sipush 400, 3) := by decide +kernel
theorem dX12_wins_34 : decode cX12_wins 34 = .ok (.if_icmp .gt 23, 3) := by decide +kernel
theorem dX12_wins_37 : decode cX12_wins 37 = .ok (.aload_n 0, 1) := by decide +kernel
theorem dX12_wins_38 : decode cX12_wins 38 = .ok (.iload_n 1, 1) := by decide +kernel
theorem dX12_wins_39 : decode cX12_wins 39 = .ok (.invokevirtual 109, 3) := by decide +kernel
theorem dX12_wins_42 : decode cX12_wins 42 = .ok (.iload_n 2, 1) := by decide +kernel
theorem dX12_wins_43 : decode cX12_wins 43 = .ok (.if_icmp .ge 14, 3) := by decide +kernel
theorem dX12_wins_46 : decode cX12_wins 46 = .ok (.aload_n 0, 1) := by decide +kernel
theorem dX12_wins_47 : decode cX12_wins 47 = .ok (.iconst 1, 1) := by decide +kernel
theorem dX12_wins_48 : decode cX12_wins 48 = .ok (.invokevirtual 106, 3) := by decide +kernel
theorem dX12_wins_51 : decode cX12_wins 51 = .ok (.iinc 3 1, 3) := by decide +kernel
theorem dX12_wins_54 : decode cX12_wins 54 = .ok (.goto (-24), 3) := by decide +kernel
theorem dX12_wins_57 : decode cX12_wins 57 = .ok (.aload_n 0, 1) := by decide +kernel
theorem dX12_wins_58 : decode cX12_wins 58 = .ok (.invokevirtual 112, 3) := by decide +kernel
theorem dX12_wins_61 : decode cX12_wins 61 = .ok (.iload_n 3, 1) := by decide +kernel
theorem dX12_wins_62 : decode cX12_wins 62 = .ok (.sipush 400, 3) := by decide +kernel
theorem dX12_wins_65 : decode cX12_wins 65 = .ok (.if_icmp .le 11, 3) := by decide +kernel
theorem dX12_wins_68 : decode cX12_wins 68 = .ok (.aload_n 0, 1) := by decide +kernel
theorem dX12_wins_69 : decode cX12_wins 69 = .ok (.iconst 3, 1) := by decide +kernel
theorem dX12_wins_70 : decode cX12_wins 70 = .ok (.invokevirtual 118, 3) := by decide +kernel
theorem dX12_wins_73 : decode cX12_wins 73 = .ok (.goto 4, 3) := by decide +kernel
theorem dX12_wins_76 : decode cX12_wins 76 = .ok (.iload_n 3, 1) := by decide +kernel
theorem dX12_wins_77 : decode cX12_wins 77 = .ok (.ireturn, 1) := by decide +kernel
theorem dX12_off_0 : decode cX12_off 0 = .ok (.aload_n 0, 1) := by decide +kernel
theorem dX12_off_1 : decode cX12_off 1 = .ok (.iload_n 1, 1) := by decide +kernel
theorem dX12_off_2 : decode cX12_off 2 = .ok (.invokevirtual 134, 3) := by decide +kernel
theorem dX12_off_5 : decode cX12_off 5 = .ok (.ifCond .ne 9, 3) := by decide +kernel
theorem dX12_off_8 : decode cX12_off 8 = .ok (.aload_n 0, 1) := by decide +kernel
theorem dX12_off_9 : decode cX12_off 9 = .ok (.iconst 0, 1) := by decide +kernel
theorem dX12_off_10 : decode cX12_off 10 = .ok (.invokevirtual 118, 3) := by decide +kernel
theorem dX12_off_13 : decode cX12_off 13 = .ok (.ireturn, 1) := by decide +kernel
theorem dX12_off_14 : decode cX12_off 14 = .ok (.aload_n 0, 1) := by decide +kernel
theorem dX12_off_15 : decode cX12_off 15 = .ok (.invokevirtual 145, 3) := by decide +kernel
theorem dX12_off_18 : decode cX12_off 18 = .ok (.iconst 0, 1) := by decide +kernel
theorem dX12_off_19 : decode cX12_off 19 = .ok (.istore_n 2, 1) := by decide +kernel
theorem dX12_off_20 : decode cX12_off 20 = .ok (.iload_n 2, 1) := by decide +kernel
theorem dX12_off_21 : decode cX12_off 21 = .ok (.sipush 400, 3) := by decide +kernel
theorem dX12_off_24 : decode cX12_off 24 = .ok (.if_icmp .gt 24, 3) := by decide +kernel
theorem dX12_off_27 : decode cX12_off 27 = .ok (.aload_n 0, 1) := by decide +kernel
theorem dX12_off_28 : decode cX12_off 28 = .ok (.iload_n 1, 1) := by decide +kernel
theorem dX12_off_29 : decode cX12_off 29 = .ok (.iconst 2, 1) := by decide +kernel
theorem dX12_off_30 : decode cX12_off 30 = .ok (.invokevirtual 60, 3) := by decide +kernel
theorem dX12_off_33 : decode cX12_off 33 = .ok (.iconst 1, 1) := by decide +kernel
theorem dX12_off_34 : decode cX12_off 34 = .ok (.if_icmp .ne 14, 3) := by decide +kernel
theorem dX12_off_37 : decode cX12_off 37 = .ok (.aload_n 0, 1) := by decide +kernel
theorem dX12_off_38 : decode cX12_off 38 = .ok (.iconst 1, 1) := by decide +kernel
theorem dX12_off_39 : decode cX12_off 39 = .ok (.invokevirtual 106, 3) := by decide +kernel
theorem dX12_off_42 : decode cX12_off 42 = .ok (.iinc 2 1, 3) := by decide +kernel
theorem dX12_off_45 : decode cX12_off 45 = .ok (.goto (-25), 3) := by decide +kernel
theorem dX12_off_48 : decode cX12_off 48 = .ok (.aload_n 0, 1) := by decide +kernel
theorem dX12_off_49 : decode cX12_off 49 = .ok (.invokevirtual 112, 3) := by decide +kernel
theorem dX12_off_52 : decode cX12_off 52 = .ok (.iload_n 2, 1) := by decide +kernel
theorem dX12_off_53 : decode cX12_off 53 = .ok (.sipush 400, 3) := by decide +kernel
theorem dX12_off_56 : decode cX12_off 56 = .ok (.if_icmp .le 11, 3) := by decide +kernel
theorem dX12_off_59 : decode cX12_off 59 = .ok (.aload_n 0, 1) := by decide +kernel
theorem dX12_off_60 : decode cX12_off 60 = .ok (.iconst 3, 1) := by decide +kernel
theorem dX12_off_61 : decode cX12_off 61 = .ok (.invokevirtual 118, 3) := by decide +kernel
theorem dX12_off_64 : decode cX12_off 64 = .ok (.goto 4, 3) := by decide +kernel
theorem dX12_off_67 : decode cX12_off 67 = .ok (.iload_n 2, 1) := by decide +kernel
theorem dX12_off_68 : decode cX12_off 68 = .ok (.ireturn, 1) := by decide +kernel
theorem dX12_turns_0 : decode cX12_turns 0 = .ok (.aload_n 0, 1) := by decide +kernel
theorem dX12_turns_1 : decode cX12_turns 1 = .ok (.invokevirtual 145, 3) := by decide +kernel
theorem dX12_turns_4 : decode cX12_turns 4 = .ok (.aload_n 0, 1) := by decide +kernel
theorem dX12_turns_5 : decode cX12_turns 5 = .ok (.invokevirtual 71, 3) := by decide +kernel
theorem dX12_turns_8 : decode cX12_turns 8 = .ok (.istore_n 1, 1) := by decide +kernel
theorem dX12_turns_9 : decode cX12_turns 9 = .ok (.iconst 0, 1) := by decide +kernel
theorem dX12_turns_10 : decode cX12_turns 10 = .ok (.istore_n 2, 1) := by decide +kernel
theorem dX12_turns_11 : decode cX12_turns 11 = .ok (.iload_n 2, 1) := by decide +kernel
theorem dX12_turns_12 : decode cX12_turns 12 = .ok (.sipush 400, 3) := by decide +kernel
theorem dX12_turns_15 : decode cX12_turns 15 = .ok (.if_icmp .gt 22, 3) := by decide +kernel
theorem dX12_turns_18 : decode cX12_turns 18 = .ok (.aload_n 0, 1) := by decide +kernel
theorem dX12_turns_19 : decode cX12_turns 19 = .ok (.invokevirtual 71, 3) := by decide +kernel
theorem dX12_turns_22 : decode cX12_turns 22 = .ok (.iload_n 1, 1) := by decide +kernel
theorem dX12_turns_23 : decode cX12_turns 23 = .ok (.if_icmp .ne 14, 3) := by decide +kernel
theorem dX12_turns_26 : decode cX12_turns 26 = .ok (.aload_n 0, 1) := by decide +kernel
theorem dX12_turns_27 : decode cX12_turns 27 = .ok (.iconst 1, 1) := by decide +kernel
theorem dX12_turns_28 : decode cX12_turns 28 = .ok (.invokevirtual 106, 3) := by decide +kernel
theorem dX12_turns_31 : decode cX12_turns 31 = .ok (.iinc 2 1, 3) := by decide +kernel
theorem dX12_turns_34 : decode cX12_turns 34 = .ok (.goto (-23), 3) := by decide +kernel
theorem dX12_turns_37 : decode cX12_turns 37 = .ok (.aload_n 0, 1) := by decide +kernel
theorem dX12_turns_38 : decode cX12_turns 38 = .ok (.invokevirtual 112, 3) := by decide +kernel
theorem dX12_turns_41 : decode cX12_turns 41 = .ok (.iload_n 2, 1) := by decide +kernel
theorem dX12_turns_42 : decode cX12_turns 42 = .ok (.sipush 400, 3) := by decide +kernel
theorem dX12_turns_45 : decode cX12_turns 45 = .ok (.if_icmp .le 11, 3) := by decide +kernel
theorem dX12_turns_48 : decode cX12_turns 48 = .ok (.aload_n 0, 1) := by decide +kernel
theorem dX12_turns_49 : decode cX12_turns 49 = .ok (.iconst 3, 1) := by decide +kernel
theorem dX12_turns_50 : decode cX12_turns 50 = .ok (.invokevirtual 118, 3) := by decide +kernel
theorem dX12_turns_53 : decode cX12_turns 53 = .ok (.goto 4, 3) := by decide +kernel
theorem dX12_turns_56 : decode cX12_turns 56 = .ok (.iload_n 2, 1) := by decide +kernel
theorem dX12_turns_57 : decode cX12_turns 57 = .ok (.ireturn, 1) := by decide +kernel
theorem dX12_spell_0 : decode cX12_spell 0 = .ok (.aload_n 0, 1) := by decide +kernel
theorem dX12_spell_1 : decode cX12_spell 1 = .ok (.iload_n 1, 1) := by decide +kernel
theorem dX12_spell_2 : decode cX12_spell 2 = .ok (.invokevirtual 134, 3) := by decide +kernel
theorem dX12_spell_5 : decode cX12_spell 5 = .ok (.ifCond .eq 13, 3) := by decide +kernel
theorem dX12_spell_8 : decode cX12_spell 8 = .ok (.iload_n 2, 1) := by decide +kernel
theorem dX12_spell_9 : decode cX12_spell 9 = .ok (.iconst 1, 1) := by decide +kernel
theorem dX12_spell_10 : decode cX12_spell 10 = .ok (.bipush 60, 2) := by decide +kernel
theorem dX12_spell_12 : decode cX12_spell 12 = .ok (.invokestatic 52, 3) := by decide +kernel
theorem dX12_spell_15 : decode cX12_spell 15 = .ok (.ifCond .ne 9, 3) := by decide +kernel
theorem dX12_spell_18 : decode cX12_spell 18 = .ok (.aload_n 0, 1) := by decide +kernel
theorem dX12_spell_19 : decode cX12_spell 19 = .ok (.iconst 0, 1) := by decide +kernel
theorem dX12_spell_20 : decode cX12_spell 20 = .ok (.invokevirtual 118, 3) := by decide +kernel
theorem dX12_spell_23 : decode cX12_spell 23 = .ok (.ireturn, 1) := by decide +kernel
theorem dX12_spell_24 : decode cX12_spell 24 = .ok (.aload_n 0, 1) := by decide +kernel
theorem dX12_spell_25 : decode cX12_spell 25 = .ok (.iload_n 1, 1) := by decide +kernel
theorem dX12_spell_26 : decode cX12_spell 26 = .ok (.iconst 2, 1) := by decide +kernel
theorem dX12_spell_27 : decode cX12_spell 27 = .ok (.invokevirtual 60, 3) := by decide +kernel
theorem dX12_spell_30 : decode cX12_spell 30 = .ok (.ifCond .ne 9, 3) := by decide +kernel
theorem dX12_spell_33 : decode cX12_spell 33 = .ok (.aload_n 0, 1) := by decide +kernel
theorem dX12_spell_34 : decode cX12_spell 34 = .ok (.iconst 4, 1) := by decide +kernel
theorem dX12_spell_35 : decode cX12_spell 35 = .ok (.invokevirtual 118, 3) := by decide +kernel
theorem dX12_spell_38 : decode cX12_spell 38 = .ok (.ireturn, 1) := by decide +kernel
theorem dX12_spell_39 : decode cX12_spell 39 = .ok (.iconst (-1), 1) := by decide +kernel
theorem dX12_spell_40 : decode cX12_spell 40 = .ok (.istore_n 3, 1) := by decide +kernel
theorem dX12_spell_41 : decode cX12_spell 41 = .ok (.iconst 0, 1) := by decide +kernel
theorem dX12_spell_42 : decode cX12_spell 42 = .ok (.istore 4, 2) := by decide +kernel
theorem dX12_spell_44 : decode cX12_spell 44 = .ok (.iconst 0, 1) := by decide +kernel
theorem dX12_spell_45 : decode cX12_spell 45 = .ok (.istore 5, 2) := by decide +kernel
theorem dX12_spell_47 : decode cX12_spell 47 = .ok (.iload 5, 2) := by decide +kernel
theorem dX12_spell_49 : decode cX12_spell 49 = .ok (.aload_n 0, 1) := by decide +kernel
theorem dX12_spell_50 : decode cX12_spell 50 = .ok (.getfield 9, 3) := by decide +kernel
theorem dX12_spell_53 : decode cX12_spell 53 = .ok (.iconst 4, 1) := by decide +kernel
theorem dX12_spell_54 : decode cX12_spell 54 = .ok (.iaload, 1) := by decide +kernel
theorem dX12_spell_55 : decode cX12_spell 55 = .ok (.if_icmp .ge 87, 3) := by decide +kernel
theorem dX12_spell_58 : decode cX12_spell 58 = .ok (.aload_n 0, 1) := by decide +kernel
theorem dX12_spell_59 : decode cX12_spell 59 = .ok (.iload 5, 2) := by decide +kernel
theorem dX12_spell_61 : decode cX12_spell 61 = .ok (.iload_n 1, 1) := by decide +kernel
theorem dX12_spell_62 : decode cX12_spell 62 = .ok (.invokevirtual 137, 3) := by decide +kernel
theorem dX12_spell_65 : decode cX12_spell 65 = .ok (.ifCond .eq 71, 3) := by decide +kernel
theorem dX12_spell_68 : decode cX12_spell 68 = .ok (.aload_n 0, 1) := by decide +kernel
theorem dX12_spell_69 : decode cX12_spell 69 = .ok (.invokevirtual 145, 3) := by decide +kernel
theorem dX12_spell_72 : decode cX12_spell 72 = .ok (.aload_n 0, 1) := by decide +kernel
theorem dX12_spell_73 : decode cX12_spell 73 = .ok (.iload 5, 2) := by decide +kernel
theorem dX12_spell_75 : decode cX12_spell 75 = .ok (.iload_n 1, 1) := by decide +kernel
theorem dX12_spell_76 : decode cX12_spell 76 = .ok (.invokevirtual 141, 3) := by decide +kernel
theorem dX12_spell_79 : decode cX12_spell 79 = .ok (.aload_n 0, 1) := by decide +kernel
theorem dX12_spell_80 : decode cX12_spell 80 = .ok (.aload_n 0, 1) := by decide +kernel
theorem dX12_spell_81 : decode cX12_spell 81 = .ok (.iload_n 1, 1) := by decide +kernel
theorem dX12_spell_82 : decode cX12_spell 82 = .ok (.iconst 1, 1) := by decide +kernel
theorem dX12_spell_83 : decode cX12_spell 83 = .ok (.invokevirtual 60, 3) := by decide +kernel
theorem dX12_spell_86 : decode cX12_spell 86 = .ok (.iload_n 2, 1) := by decide +kernel
theorem dX12_spell_87 : decode cX12_spell 87 = .ok (.invokevirtual 148, 3) := by decide +kernel
theorem dX12_spell_90 : decode cX12_spell 90 = .ok (.istore 6, 2) := by decide +kernel
theorem dX12_spell_92 : decode cX12_spell 92 = .ok (.iload_n 3, 1) := by decide +kernel
theorem dX12_spell_93 : decode cX12_spell 93 = .ok (.ifCond .lt 10, 3) := by decide +kernel
theorem dX12_spell_96 : decode cX12_spell 96 = .ok (.iload 6, 2) := by decide +kernel
theorem dX12_spell_98 : decode cX12_spell 98 = .ok (.iload 4, 2) := by decide +kernel
theorem dX12_spell_100 : decode cX12_spell 100 = .ok (.if_icmp .le 7, 3) := by decide +kernel
theorem dX12_spell_103 : decode cX12_spell 103 = .ok (.iconst 1, 1) := by decide +kernel
theorem dX12_spell_104 : decode cX12_spell 104 = .ok (.goto 4, 3) := by decide +kernel
theorem dX12_spell_107 : decode cX12_spell 107 = .ok (.iconst 0, 1) := by decide +kernel
theorem dX12_spell_108 : decode cX12_spell 108 = .ok (.istore 7, 2) := by decide +kernel
theorem dX12_spell_110 : decode cX12_spell 110 = .ok (.iload 7, 2) := by decide +kernel
theorem dX12_spell_112 : decode cX12_spell 112 = .ok (.ifCond .eq 8, 3) := by decide +kernel
theorem dX12_spell_115 : decode cX12_spell 115 = .ok (.iload 5, 2) := by decide +kernel
theorem dX12_spell_117 : decode cX12_spell 117 = .ok (.goto 4, 3) := by decide +kernel
theorem dX12_spell_120 : decode cX12_spell 120 = .ok (.iload_n 3, 1) := by decide +kernel
theorem dX12_spell_121 : decode cX12_spell 121 = .ok (.istore_n 3, 1) := by decide +kernel
theorem dX12_spell_122 : decode cX12_spell 122 = .ok (.iload 7, 2) := by decide +kernel
theorem dX12_spell_124 : decode cX12_spell 124 = .ok (.ifCond .eq 8, 3) := by decide +kernel
theorem dX12_spell_127 : decode cX12_spell 127 = .ok (.iload 6, 2) := by decide +kernel
theorem dX12_spell_129 : decode cX12_spell 129 = .ok (.goto 5, 3) := by decide +kernel
theorem dX12_spell_132 : decode cX12_spell 132 = .ok (.iload 4, 2) := by decide +kernel
theorem dX12_spell_134 : decode cX12_spell 134 = .ok (.istore 4, 2) := by decide +kernel
theorem dX12_spell_136 : decode cX12_spell 136 = .ok (.iinc 5 1, 3) := by decide +kernel
theorem dX12_spell_139 : decode cX12_spell 139 = .ok (.goto (-92), 3) := by decide +kernel
theorem dX12_spell_142 : decode cX12_spell 142 = .ok (.iload_n 3, 1) := by decide +kernel
theorem dX12_spell_143 : decode cX12_spell 143 = .ok (.ifCond .ge 11, 3) := by decide +kernel
theorem dX12_spell_146 : decode cX12_spell 146 = .ok (.aload_n 0, 1) := by decide +kernel
theorem dX12_spell_147 : decode cX12_spell 147 = .ok (.iconst 3, 1) := by decide +kernel
theorem dX12_spell_148 : decode cX12_spell 148 = .ok (.invokevirtual 118, 3) := by decide +kernel
theorem dX12_spell_151 : decode cX12_spell 151 = .ok (.goto 4, 3) := by decide +kernel
theorem dX12_spell_154 : decode cX12_spell 154 = .ok (.iload_n 3, 1) := by decide +kernel
theorem dX12_spell_155 : decode cX12_spell 155 = .ok (.ireturn, 1) := by decide +kernel
theorem dX12_kind_0 : decode cX12_kind 0 = .ok (.aload_n 0, 1) := by decide +kernel
theorem dX12_kind_1 : decode cX12_kind 1 = .ok (.iload_n 1, 1) := by decide +kernel
theorem dX12_kind_2 : decode cX12_kind 2 = .ok (.invokevirtual 134, 3) := by decide +kernel
theorem dX12_kind_5 : decode cX12_kind 5 = .ok (.ifCond .eq 13, 3) := by decide +kernel
theorem dX12_kind_8 : decode cX12_kind 8 = .ok (.iload_n 2, 1) := by decide +kernel
theorem dX12_kind_9 : decode cX12_kind 9 = .ok (.iconst 1, 1) := by decide +kernel
theorem dX12_kind_10 : decode cX12_kind 10 = .ok (.bipush 60, 2) := by decide +kernel
theorem dX12_kind_12 : decode cX12_kind 12 = .ok (.invokestatic 52, 3) := by decide +kernel
theorem dX12_kind_15 : decode cX12_kind 15 = .ok (.ifCond .ne 9, 3) := by decide +kernel
theorem dX12_kind_18 : decode cX12_kind 18 = .ok (.aload_n 0, 1) := by decide +kernel
theorem dX12_kind_19 : decode cX12_kind 19 = .ok (.iconst 0, 1) := by decide +kernel
theorem dX12_kind_20 : decode cX12_kind 20 = .ok (.invokevirtual 118, 3) := by decide +kernel
theorem dX12_kind_23 : decode cX12_kind 23 = .ok (.ireturn, 1) := by decide +kernel
theorem dX12_kind_24 : decode cX12_kind 24 = .ok (.iconst (-1), 1) := by decide +kernel
theorem dX12_kind_25 : decode cX12_kind 25 = .ok (.istore_n 3, 1) := by decide +kernel
theorem dX12_kind_26 : decode cX12_kind 26 = .ok (.iconst 0, 1) := by decide +kernel
theorem dX12_kind_27 : decode cX12_kind 27 = .ok (.istore 4, 2) := by decide +kernel
theorem dX12_kind_29 : decode cX12_kind 29 = .ok (.iconst 0, 1) := by decide +kernel
theorem dX12_kind_30 : decode cX12_kind 30 = .ok (.istore 5, 2) := by decide +kernel
theorem dX12_kind_32 : decode cX12_kind 32 = .ok (.iload 5, 2) := by decide +kernel
theorem dX12_kind_34 : decode cX12_kind 34 = .ok (.bipush 6, 2) := by decide +kernel
theorem dX12_kind_36 : decode cX12_kind 36 = .ok (.if_icmp .ge 78, 3) := by decide +kernel
theorem dX12_kind_39 : decode cX12_kind 39 = .ok (.aload_n 0, 1) := by decide +kernel
theorem dX12_kind_40 : decode cX12_kind 40 = .ok (.invokevirtual 145, 3) := by decide +kernel
theorem dX12_kind_43 : decode cX12_kind 43 = .ok (.aload_n 0, 1) := by decide +kernel
theorem dX12_kind_44 : decode cX12_kind 44 = .ok (.iload_n 1, 1) := by decide +kernel
theorem dX12_kind_45 : decode cX12_kind 45 = .ok (.iconst 0, 1) := by decide +kernel
theorem dX12_kind_46 : decode cX12_kind 46 = .ok (.iload 5, 2) := by decide +kernel
theorem dX12_kind_48 : decode cX12_kind 48 = .ok (.invokevirtual 88, 3) := by decide +kernel
theorem dX12_kind_51 : decode cX12_kind 51 = .ok (.aload_n 0, 1) := by decide +kernel
theorem dX12_kind_52 : decode cX12_kind 52 = .ok (.aload_n 0, 1) := by decide +kernel
theorem dX12_kind_53 : decode cX12_kind 53 = .ok (.iload_n 1, 1) := by decide +kernel
theorem dX12_kind_54 : decode cX12_kind 54 = .ok (.iconst 1, 1) := by decide +kernel
theorem dX12_kind_55 : decode cX12_kind 55 = .ok (.invokevirtual 60, 3) := by decide +kernel
theorem dX12_kind_58 : decode cX12_kind 58 = .ok (.iload_n 2, 1) := by decide +kernel
theorem dX12_kind_59 : decode cX12_kind 59 = .ok (.invokevirtual 148, 3) := by decide +kernel
theorem dX12_kind_62 : decode cX12_kind 62 = .ok (.istore 6, 2) := by decide +kernel
theorem dX12_kind_64 : decode cX12_kind 64 = .ok (.iload_n 3, 1) := by decide +kernel
theorem dX12_kind_65 : decode cX12_kind 65 = .ok (.ifCond .lt 10, 3) := by decide +kernel
theorem dX12_kind_68 : decode cX12_kind 68 = .ok (.iload 6, 2) := by decide +kernel
theorem dX12_kind_70 : decode cX12_kind 70 = .ok (.iload 4, 2) := by decide +kernel
theorem dX12_kind_72 : decode cX12_kind 72 = .ok (.if_icmp .le 7, 3) := by decide +kernel
theorem dX12_kind_75 : decode cX12_kind 75 = .ok (.iconst 1, 1) := by decide +kernel
theorem dX12_kind_76 : decode cX12_kind 76 = .ok (.goto 4, 3) := by decide +kernel
theorem dX12_kind_79 : decode cX12_kind 79 = .ok (.iconst 0, 1) := by decide +kernel
theorem dX12_kind_80 : decode cX12_kind 80 = .ok (.istore 7, 2) := by decide +kernel
theorem dX12_kind_82 : decode cX12_kind 82 = .ok (.iload 7, 2) := by decide +kernel
theorem dX12_kind_84 : decode cX12_kind 84 = .ok (.ifCond .eq 8, 3) := by decide +kernel
theorem dX12_kind_87 : decode cX12_kind 87 = .ok (.iload 5, 2) := by decide +kernel
theorem dX12_kind_89 : decode cX12_kind 89 = .ok (.goto 4, 3) := by decide +kernel
theorem dX12_kind_92 : decode cX12_kind 92 = .ok (.iload_n 3, 1) := by decide +kernel
theorem dX12_kind_93 : decode cX12_kind 93 = .ok (.istore_n 3, 1) := by decide +kernel
theorem dX12_kind_94 : decode cX12_kind 94 = .ok (.iload 7, 2) := by decide +kernel
theorem dX12_kind_96 : decode cX12_kind 96 = .ok (.ifCond .eq 8, 3) := by decide +kernel
theorem dX12_kind_99 : decode cX12_kind 99 = .ok (.iload 6, 2) := by decide +kernel
theorem dX12_kind_101 : decode cX12_kind 101 = .ok (.goto 5, 3) := by decide +kernel
theorem dX12_kind_104 : decode cX12_kind 104 = .ok (.iload 4, 2) := by decide +kernel
theorem dX12_kind_106 : decode cX12_kind 106 = .ok (.istore 4, 2) := by decide +kernel
theorem dX12_kind_108 : decode cX12_kind 108 = .ok (.iinc 5 1, 3) := by decide +kernel
theorem dX12_kind_111 : decode cX12_kind 111 = .ok (.goto (-79), 3) := by decide +kernel
theorem dX12_kind_114 : decode cX12_kind 114 = .ok (.iload_n 3, 1) := by decide +kernel
theorem dX12_kind_115 : decode cX12_kind 115 = .ok (.ireturn, 1) := by decide +kernel
theorem dX12_week_0 : decode cX12_week 0 = .ok (.iload_n 1, 1) := by decide +kernel
theorem dX12_week_1 : decode cX12_week 1 = .ok (.invokestatic 127, 3) := by decide +kernel
theorem dX12_week_4 : decode cX12_week 4 = .ok (.ifCond .eq 13, 3) := by decide +kernel
theorem dX12_week_7 : decode cX12_week 7 = .ok (.iload_n 2, 1) := by decide +kernel
theorem dX12_week_8 : decode cX12_week 8 = .ok (.iconst 1, 1) := by decide +kernel
theorem dX12_week_9 : decode cX12_week 9 = .ok (.bipush 100, 2) := by decide +kernel
theorem dX12_week_11 : decode cX12_week 11 = .ok (.invokestatic 52, 3) := by decide +kernel
theorem dX12_week_14 : decode cX12_week 14 = .ok (.ifCond .ne 9, 3) := by decide +kernel
theorem dX12_week_17 : decode cX12_week 17 = .ok (.aload_n 0, 1) := by decide +kernel
theorem dX12_week_18 : decode cX12_week 18 = .ok (.iconst 0, 1) := by decide +kernel
theorem dX12_week_19 : decode cX12_week 19 = .ok (.invokevirtual 118, 3) := by decide +kernel
theorem dX12_week_22 : decode cX12_week 22 = .ok (.ireturn, 1) := by decide +kernel
theorem dX12_week_23 : decode cX12_week 23 = .ok (.iconst (-1), 1) := by decide +kernel
theorem dX12_week_24 : decode cX12_week 24 = .ok (.istore_n 3, 1) := by decide +kernel
theorem dX12_week_25 : decode cX12_week 25 = .ok (.iconst 0, 1) := by decide +kernel
theorem dX12_week_26 : decode cX12_week 26 = .ok (.istore 4, 2) := by decide +kernel
theorem dX12_week_28 : decode cX12_week 28 = .ok (.iconst 0, 1) := by decide +kernel
theorem dX12_week_29 : decode cX12_week 29 = .ok (.istore 5, 2) := by decide +kernel
theorem dX12_week_31 : decode cX12_week 31 = .ok (.iload 5, 2) := by decide +kernel
theorem dX12_week_33 : decode cX12_week 33 = .ok (.bipush 8, 2) := by decide +kernel
theorem dX12_week_35 : decode cX12_week 35 = .ok (.if_icmp .ge 78, 3) := by decide +kernel
theorem dX12_week_38 : decode cX12_week 38 = .ok (.aload_n 0, 1) := by decide +kernel
theorem dX12_week_39 : decode cX12_week 39 = .ok (.invokevirtual 145, 3) := by decide +kernel
theorem dX12_week_42 : decode cX12_week 42 = .ok (.aload_n 0, 1) := by decide +kernel
theorem dX12_week_43 : decode cX12_week 43 = .ok (.getfield 9, 3) := by decide +kernel
theorem dX12_week_46 : decode cX12_week 46 = .ok (.iconst 3, 1) := by decide +kernel
theorem dX12_week_47 : decode cX12_week 47 = .ok (.dup2, 1) := by decide +kernel
theorem dX12_week_48 : decode cX12_week 48 = .ok (.iaload, 1) := by decide +kernel
theorem dX12_week_49 : decode cX12_week 49 = .ok (.iconst 1, 1) := by decide +kernel
theorem dX12_week_50 : decode cX12_week 50 = .ok (.iload 5, 2) := by decide +kernel
theorem dX12_week_52 : decode cX12_week 52 = .ok (.ishl, 1) := by decide +kernel
theorem dX12_week_53 : decode cX12_week 53 = .ok (.ixor, 1) := by decide +kernel
theorem dX12_week_54 : decode cX12_week 54 = .ok (.iastore, 1) := by decide +kernel
theorem dX12_week_55 : decode cX12_week 55 = .ok (.aload_n 0, 1) := by decide +kernel
theorem dX12_week_56 : decode cX12_week 56 = .ok (.iload_n 1, 1) := by decide +kernel
theorem dX12_week_57 : decode cX12_week 57 = .ok (.iload_n 2, 1) := by decide +kernel
theorem dX12_week_58 : decode cX12_week 58 = .ok (.invokevirtual 148, 3) := by decide +kernel
theorem dX12_week_61 : decode cX12_week 61 = .ok (.istore 6, 2) := by decide +kernel
theorem dX12_week_63 : decode cX12_week 63 = .ok (.iload_n 3, 1) := by decide +kernel
theorem dX12_week_64 : decode cX12_week 64 = .ok (.ifCond .lt 10, 3) := by decide +kernel
theorem dX12_week_67 : decode cX12_week 67 = .ok (.iload 6, 2) := by decide +kernel
theorem dX12_week_69 : decode cX12_week 69 = .ok (.iload 4, 2) := by decide +kernel
theorem dX12_week_71 : decode cX12_week 71 = .ok (.if_icmp .le 7, 3) := by decide +kernel
theorem dX12_week_74 : decode cX12_week 74 = .ok (.iconst 1, 1) := by decide +kernel
theorem dX12_week_75 : decode cX12_week 75 = .ok (.goto 4, 3) := by decide +kernel
theorem dX12_week_78 : decode cX12_week 78 = .ok (.iconst 0, 1) := by decide +kernel
theorem dX12_week_79 : decode cX12_week 79 = .ok (.istore 7, 2) := by decide +kernel
theorem dX12_week_81 : decode cX12_week 81 = .ok (.iload 7, 2) := by decide +kernel
theorem dX12_week_83 : decode cX12_week 83 = .ok (.ifCond .eq 8, 3) := by decide +kernel
theorem dX12_week_86 : decode cX12_week 86 = .ok (.iload 5, 2) := by decide +kernel
theorem dX12_week_88 : decode cX12_week 88 = .ok (.goto 4, 3) := by decide +kernel
theorem dX12_week_91 : decode cX12_week 91 = .ok (.iload_n 3, 1) := by decide +kernel
theorem dX12_week_92 : decode cX12_week 92 = .ok (.istore_n 3, 1) := by decide +kernel
theorem dX12_week_93 : decode cX12_week 93 = .ok (.iload 7, 2) := by decide +kernel
theorem dX12_week_95 : decode cX12_week 95 = .ok (.ifCond .eq 8, 3) := by decide +kernel
theorem dX12_week_98 : decode cX12_week 98 = .ok (.iload 6, 2) := by decide +kernel
theorem dX12_week_100 : decode cX12_week 100 = .ok (.goto 5, 3) := by decide +kernel
theorem dX12_week_103 : decode cX12_week 103 = .ok (.iload 4, 2) := by decide +kernel
theorem dX12_week_105 : decode cX12_week 105 = .ok (.istore 4, 2) := by decide +kernel
theorem dX12_week_107 : decode cX12_week 107 = .ok (.iinc 5 1, 3) := by decide +kernel
theorem dX12_week_110 : decode cX12_week 110 = .ok (.goto (-79), 3) := by decide +kernel
theorem dX12_week_113 : decode cX12_week 113 = .ok (.iload_n 3, 1) := by decide +kernel
theorem dX12_week_114 : decode cX12_week 114 = .ok (.ireturn, 1) := by decide +kernel
theorem dX12_strong_0 : decode cX12_strong 0 = .ok (.aload_n 0, 1) := by decide +kernel
theorem dX12_strong_1 : decode cX12_strong 1 = .ok (.iload_n 1, 1) := by decide +kernel
theorem dX12_strong_2 : decode cX12_strong 2 = .ok (.invokevirtual 134, 3) := by decide +kernel
theorem dX12_strong_5 : decode cX12_strong 5 = .ok (.ifCond .eq 20, 3) := by decide +kernel
theorem dX12_strong_8 : decode cX12_strong 8 = .ok (.iload_n 2, 1) := by decide +kernel
theorem dX12_strong_9 : decode cX12_strong 9 = .ok (.iconst 1, 1) := by decide +kernel
theorem dX12_strong_10 : decode cX12_strong 10 = .ok (.bipush 60, 2) := by decide +kernel
theorem dX12_strong_12 : decode cX12_strong 12 = .ok (.invokestatic 52, 3) := by decide +kernel
theorem dX12_strong_15 : decode cX12_strong 15 = .ok (.ifCond .eq 10, 3) := by decide +kernel
theorem dX12_strong_18 : decode cX12_strong 18 = .ok (.iload_n 3, 1) := by decide +kernel
theorem dX12_strong_19 : decode cX12_strong 19 = .ok (.invokestatic 121, 3) := by decide +kernel
theorem dX12_strong_22 : decode cX12_strong 22 = .ok (.ifCond .ne 9, 3) := by decide +kernel
theorem dX12_strong_25 : decode cX12_strong 25 = .ok (.aload_n 0, 1) := by decide +kernel
theorem dX12_strong_26 : decode cX12_strong 26 = .ok (.iconst 0, 1) := by decide +kernel
theorem dX12_strong_27 : decode cX12_strong 27 = .ok (.invokevirtual 118, 3) := by decide +kernel
theorem dX12_strong_30 : decode cX12_strong 30 = .ok (.ireturn, 1) := by decide +kernel
theorem dX12_strong_31 : decode cX12_strong 31 = .ok (.iconst 1, 1) := by decide +kernel
theorem dX12_strong_32 : decode cX12_strong 32 = .ok (.istore 4, 2) := by decide +kernel
theorem dX12_strong_34 : decode cX12_strong 34 = .ok (.iload 4, 2) := by decide +kernel
theorem dX12_strong_36 : decode cX12_strong 36 = .ok (.bipush 20, 2) := by decide +kernel
theorem dX12_strong_38 : decode cX12_strong 38 = .ok (.if_icmp .gt 39, 3) := by decide +kernel
theorem dX12_strong_41 : decode cX12_strong 41 = .ok (.aload_n 0, 1) := by decide +kernel
theorem dX12_strong_42 : decode cX12_strong 42 = .ok (.invokevirtual 145, 3) := by decide +kernel
theorem dX12_strong_45 : decode cX12_strong 45 = .ok (.aload_n 0, 1) := by decide +kernel
theorem dX12_strong_46 : decode cX12_strong 46 = .ok (.iload_n 1, 1) := by decide +kernel
theorem dX12_strong_47 : decode cX12_strong 47 = .ok (.iconst 4, 1) := by decide +kernel
theorem dX12_strong_48 : decode cX12_strong 48 = .ok (.iload 4, 2) := by decide +kernel
theorem dX12_strong_50 : decode cX12_strong 50 = .ok (.invokevirtual 88, 3) := by decide +kernel
theorem dX12_strong_53 : decode cX12_strong 53 = .ok (.aload_n 0, 1) := by decide +kernel
theorem dX12_strong_54 : decode cX12_strong 54 = .ok (.aload_n 0, 1) := by decide +kernel
theorem dX12_strong_55 : decode cX12_strong 55 = .ok (.iload_n 1, 1) := by decide +kernel
theorem dX12_strong_56 : decode cX12_strong 56 = .ok (.iconst 1, 1) := by decide +kernel
theorem dX12_strong_57 : decode cX12_strong 57 = .ok (.invokevirtual 60, 3) := by decide +kernel
theorem dX12_strong_60 : decode cX12_strong 60 = .ok (.iload_n 2, 1) := by decide +kernel
theorem dX12_strong_61 : decode cX12_strong 61 = .ok (.invokevirtual 148, 3) := by decide +kernel
theorem dX12_strong_64 : decode cX12_strong 64 = .ok (.iload_n 3, 1) := by decide +kernel
theorem dX12_strong_65 : decode cX12_strong 65 = .ok (.if_icmp .lt 6, 3) := by decide +kernel
theorem dX12_strong_68 : decode cX12_strong 68 = .ok (.iload 4, 2) := by decide +kernel
theorem dX12_strong_70 : decode cX12_strong 70 = .ok (.ireturn, 1) := by decide +kernel
theorem dX12_strong_71 : decode cX12_strong 71 = .ok (.iinc 4 1, 3) := by decide +kernel
theorem dX12_strong_74 : decode cX12_strong 74 = .ok (.goto (-40), 3) := by decide +kernel
theorem dX12_strong_77 : decode cX12_strong 77 = .ok (.aload_n 0, 1) := by decide +kernel
theorem dX12_strong_78 : decode cX12_strong 78 = .ok (.iconst 3, 1) := by decide +kernel
theorem dX12_strong_79 : decode cX12_strong 79 = .ok (.invokevirtual 118, 3) := by decide +kernel
theorem dX12_strong_82 : decode cX12_strong 82 = .ok (.ireturn, 1) := by decide +kernel
theorem dX12_bears_0 : decode cX12_bears 0 = .ok (.aload_n 0, 1) := by decide +kernel
theorem dX12_bears_1 : decode cX12_bears 1 = .ok (.iload_n 1, 1) := by decide +kernel
theorem dX12_bears_2 : decode cX12_bears 2 = .ok (.invokevirtual 134, 3) := by decide +kernel
theorem dX12_bears_5 : decode cX12_bears 5 = .ok (.ifCond .eq 13, 3) := by decide +kernel
theorem dX12_bears_8 : decode cX12_bears 8 = .ok (.iload_n 2, 1) := by decide +kernel
theorem dX12_bears_9 : decode cX12_bears 9 = .ok (.iconst 1, 1) := by decide +kernel
theorem dX12_bears_10 : decode cX12_bears 10 = .ok (.bipush 60, 2) := by decide +kernel
theorem dX12_bears_12 : decode cX12_bears 12 = .ok (.invokestatic 52, 3) := by decide +kernel
theorem dX12_bears_15 : decode cX12_bears 15 = .ok (.ifCond .ne 9, 3) := by decide +kernel
theorem dX12_bears_18 : decode cX12_bears 18 = .ok (.aload_n 0, 1) := by decide +kernel
theorem dX12_bears_19 : decode cX12_bears 19 = .ok (.iconst 0, 1) := by decide +kernel
theorem dX12_bears_20 : decode cX12_bears 20 = .ok (.invokevirtual 118, 3) := by decide +kernel
theorem dX12_bears_23 : decode cX12_bears 23 = .ok (.ireturn, 1) := by decide +kernel
theorem dX12_bears_24 : decode cX12_bears 24 = .ok (.bipush 99, 2) := by decide +kernel
theorem dX12_bears_26 : decode cX12_bears 26 = .ok (.istore_n 3, 1) := by decide +kernel
theorem dX12_bears_27 : decode cX12_bears 27 = .ok (.iload_n 3, 1) := by decide +kernel
theorem dX12_bears_28 : decode cX12_bears 28 = .ok (.ifCond .lt 53, 3) := by decide +kernel
theorem dX12_bears_31 : decode cX12_bears 31 = .ok (.aload_n 0, 1) := by decide +kernel
theorem dX12_bears_32 : decode cX12_bears 32 = .ok (.invokevirtual 145, 3) := by decide +kernel
theorem dX12_bears_35 : decode cX12_bears 35 = .ok (.aload_n 0, 1) := by decide +kernel
theorem dX12_bears_36 : decode cX12_bears 36 = .ok (.iload_n 1, 1) := by decide +kernel
theorem dX12_bears_37 : decode cX12_bears 37 = .ok (.iconst 3, 1) := by decide +kernel
theorem dX12_bears_38 : decode cX12_bears 38 = .ok (.iload_n 3, 1) := by decide +kernel
theorem dX12_bears_39 : decode cX12_bears 39 = .ok (.invokevirtual 88, 3) := by decide +kernel
theorem dX12_bears_42 : decode cX12_bears 42 = .ok (.aload_n 0, 1) := by decide +kernel
theorem dX12_bears_43 : decode cX12_bears 43 = .ok (.iload_n 2, 1) := by decide +kernel
theorem dX12_bears_44 : decode cX12_bears 44 = .ok (.invokevirtual 106, 3) := by decide +kernel
theorem dX12_bears_47 : decode cX12_bears 47 = .ok (.aload_n 0, 1) := by decide +kernel
theorem dX12_bears_48 : decode cX12_bears 48 = .ok (.iload_n 1, 1) := by decide +kernel
theorem dX12_bears_49 : decode cX12_bears 49 = .ok (.iconst 2, 1) := by decide +kernel
theorem dX12_bears_50 : decode cX12_bears 50 = .ok (.invokevirtual 60, 3) := by decide +kernel
theorem dX12_bears_53 : decode cX12_bears 53 = .ok (.iconst 1, 1) := by decide +kernel
theorem dX12_bears_54 : decode cX12_bears 54 = .ok (.if_icmp .ne 7, 3) := by decide +kernel
theorem dX12_bears_57 : decode cX12_bears 57 = .ok (.iconst 1, 1) := by decide +kernel
theorem dX12_bears_58 : decode cX12_bears 58 = .ok (.goto 4, 3) := by decide +kernel
theorem dX12_bears_61 : decode cX12_bears 61 = .ok (.iconst 0, 1) := by decide +kernel
theorem dX12_bears_62 : decode cX12_bears 62 = .ok (.istore 4, 2) := by decide +kernel
theorem dX12_bears_64 : decode cX12_bears 64 = .ok (.aload_n 0, 1) := by decide +kernel
theorem dX12_bears_65 : decode cX12_bears 65 = .ok (.invokevirtual 112, 3) := by decide +kernel
theorem dX12_bears_68 : decode cX12_bears 68 = .ok (.iload 4, 2) := by decide +kernel
theorem dX12_bears_70 : decode cX12_bears 70 = .ok (.ifCond .eq 5, 3) := by decide +kernel
theorem dX12_bears_73 : decode cX12_bears 73 = .ok (.iload_n 3, 1) := by decide +kernel
theorem dX12_bears_74 : decode cX12_bears 74 = .ok (.ireturn, 1) := by decide +kernel
theorem dX12_bears_75 : decode cX12_bears 75 = .ok (.iinc 3 (-1), 3) := by decide +kernel
theorem dX12_bears_78 : decode cX12_bears 78 = .ok (.goto (-51), 3) := by decide +kernel
theorem dX12_bears_81 : decode cX12_bears 81 = .ok (.aload_n 0, 1) := by decide +kernel
theorem dX12_bears_82 : decode cX12_bears 82 = .ok (.iconst 3, 1) := by decide +kernel
theorem dX12_bears_83 : decode cX12_bears 83 = .ok (.invokevirtual 118, 3) := by decide +kernel
theorem dX12_bears_86 : decode cX12_bears 86 = .ok (.ireturn, 1) := by decide +kernel
theorem dX12_ones_0 : decode cX12_ones 0 = .ok (.iconst 0, 1) := by decide +kernel
theorem dX12_ones_1 : decode cX12_ones 1 = .ok (.istore_n 1, 1) := by decide +kernel
theorem dX12_ones_2 : decode cX12_ones 2 = .ok (.iload_n 0, 1) := by decide +kernel
theorem dX12_ones_3 : decode cX12_ones 3 = .ok (.istore_n 2, 1) := by decide +kernel
theorem dX12_ones_4 : decode cX12_ones 4 = .ok (.iload_n 2, 1) := by decide +kernel
theorem dX12_ones_5 : decode cX12_ones 5 = .ok (.ifCond .eq 15, 3) := by decide +kernel
theorem dX12_ones_8 : decode cX12_ones 8 = .ok (.iinc 1 1, 3) := by decide +kernel
theorem dX12_ones_11 : decode cX12_ones 11 = .ok (.iload_n 2, 1) := by decide +kernel
theorem dX12_ones_12 : decode cX12_ones 12 = .ok (.iload_n 2, 1) := by decide +kernel
theorem dX12_ones_13 : decode cX12_ones 13 = .ok (.iconst 1, 1) := by decide +kernel
theorem dX12_ones_14 : decode cX12_ones 14 = .ok (.isub, 1) := by decide +kernel
theorem dX12_ones_15 : decode cX12_ones 15 = .ok (.iand, 1) := by decide +kernel
theorem dX12_ones_16 : decode cX12_ones 16 = .ok (.istore_n 2, 1) := by decide +kernel
theorem dX12_ones_17 : decode cX12_ones 17 = .ok (.goto (-13), 3) := by decide +kernel
theorem dX12_ones_20 : decode cX12_ones 20 = .ok (.iload_n 1, 1) := by decide +kernel
theorem dX12_ones_21 : decode cX12_ones 21 = .ok (.ireturn, 1) := by decide +kernel
theorem dX12_fewest_0 : decode cX12_fewest 0 = .ok (.iload_n 1, 1) := by decide +kernel
theorem dX12_fewest_1 : decode cX12_fewest 1 = .ok (.invokestatic 127, 3) := by decide +kernel
theorem dX12_fewest_4 : decode cX12_fewest 4 = .ok (.ifCond .ne 9, 3) := by decide +kernel
theorem dX12_fewest_7 : decode cX12_fewest 7 = .ok (.aload_n 0, 1) := by decide +kernel
theorem dX12_fewest_8 : decode cX12_fewest 8 = .ok (.iconst 0, 1) := by decide +kernel
theorem dX12_fewest_9 : decode cX12_fewest 9 = .ok (.invokevirtual 118, 3) := by decide +kernel
theorem dX12_fewest_12 : decode cX12_fewest 12 = .ok (.ireturn, 1) := by decide +kernel
theorem dX12_fewest_13 : decode cX12_fewest 13 = .ok (.iconst 0, 1) := by decide +kernel
theorem dX12_fewest_14 : decode cX12_fewest 14 = .ok (.istore_n 2, 1) := by decide +kernel
theorem dX12_fewest_15 : decode cX12_fewest 15 = .ok (.iconst 0, 1) := by decide +kernel
theorem dX12_fewest_16 : decode cX12_fewest 16 = .ok (.istore_n 3, 1) := by decide +kernel
theorem dX12_fewest_17 : decode cX12_fewest 17 = .ok (.iload_n 3, 1) := by decide +kernel
theorem dX12_fewest_18 : decode cX12_fewest 18 = .ok (.aload_n 0, 1) := by decide +kernel
theorem dX12_fewest_19 : decode cX12_fewest 19 = .ok (.getfield 9, 3) := by decide +kernel
theorem dX12_fewest_22 : decode cX12_fewest 22 = .ok (.iconst 4, 1) := by decide +kernel
theorem dX12_fewest_23 : decode cX12_fewest 23 = .ok (.iaload, 1) := by decide +kernel
theorem dX12_fewest_24 : decode cX12_fewest 24 = .ok (.if_icmp .ge 38, 3) := by decide +kernel
theorem dX12_fewest_27 : decode cX12_fewest 27 = .ok (.iload_n 2, 1) := by decide +kernel
theorem dX12_fewest_28 : decode cX12_fewest 28 = .ok (.aload_n 0, 1) := by decide +kernel
theorem dX12_fewest_29 : decode cX12_fewest 29 = .ok (.iload_n 3, 1) := by decide +kernel
theorem dX12_fewest_30 : decode cX12_fewest 30 = .ok (.iconst 1, 1) := by decide +kernel
theorem dX12_fewest_31 : decode cX12_fewest 31 = .ok (.invokevirtual 60, 3) := by decide +kernel
theorem dX12_fewest_34 : decode cX12_fewest 34 = .ok (.iload_n 1, 1) := by decide +kernel
theorem dX12_fewest_35 : decode cX12_fewest 35 = .ok (.if_icmp .ne 18, 3) := by decide +kernel
theorem dX12_fewest_38 : decode cX12_fewest 38 = .ok (.aload_n 0, 1) := by decide +kernel
theorem dX12_fewest_39 : decode cX12_fewest 39 = .ok (.iload_n 3, 1) := by decide +kernel
theorem dX12_fewest_40 : decode cX12_fewest 40 = .ok (.iconst 2, 1) := by decide +kernel
theorem dX12_fewest_41 : decode cX12_fewest 41 = .ok (.invokevirtual 60, 3) := by decide +kernel
theorem dX12_fewest_44 : decode cX12_fewest 44 = .ok (.ifCond .ne 9, 3) := by decide +kernel
theorem dX12_fewest_47 : decode cX12_fewest 47 = .ok (.iconst 1, 1) := by decide +kernel
theorem dX12_fewest_48 : decode cX12_fewest 48 = .ok (.iload_n 3, 1) := by decide +kernel
theorem dX12_fewest_49 : decode cX12_fewest 49 = .ok (.ishl, 1) := by decide +kernel
theorem dX12_fewest_50 : decode cX12_fewest 50 = .ok (.goto 4, 3) := by decide +kernel
theorem dX12_fewest_53 : decode cX12_fewest 53 = .ok (.iconst 0, 1) := by decide +kernel
theorem dX12_fewest_54 : decode cX12_fewest 54 = .ok (.ior, 1) := by decide +kernel
theorem dX12_fewest_55 : decode cX12_fewest 55 = .ok (.istore_n 2, 1) := by decide +kernel
theorem dX12_fewest_56 : decode cX12_fewest 56 = .ok (.iinc 3 1, 3) := by decide +kernel
theorem dX12_fewest_59 : decode cX12_fewest 59 = .ok (.goto (-42), 3) := by decide +kernel
theorem dX12_fewest_62 : decode cX12_fewest 62 = .ok (.aload_n 0, 1) := by decide +kernel
theorem dX12_fewest_63 : decode cX12_fewest 63 = .ok (.iload_n 1, 1) := by decide +kernel
theorem dX12_fewest_64 : decode cX12_fewest 64 = .ok (.invokevirtual 78, 3) := by decide +kernel
theorem dX12_fewest_67 : decode cX12_fewest 67 = .ok (.istore_n 3, 1) := by decide +kernel
theorem dX12_fewest_68 : decode cX12_fewest 68 = .ok (.aload_n 0, 1) := by decide +kernel
theorem dX12_fewest_69 : decode cX12_fewest 69 = .ok (.iconst 1, 1) := by decide +kernel
theorem dX12_fewest_70 : decode cX12_fewest 70 = .ok (.iload_n 1, 1) := by decide +kernel
theorem dX12_fewest_71 : decode cX12_fewest 71 = .ok (.isub, 1) := by decide +kernel
theorem dX12_fewest_72 : decode cX12_fewest 72 = .ok (.invokevirtual 78, 3) := by decide +kernel
theorem dX12_fewest_75 : decode cX12_fewest 75 = .ok (.istore 4, 2) := by decide +kernel
theorem dX12_fewest_77 : decode cX12_fewest 77 = .ok (.iconst (-1), 1) := by decide +kernel
theorem dX12_fewest_78 : decode cX12_fewest 78 = .ok (.istore 5, 2) := by decide +kernel
theorem dX12_fewest_80 : decode cX12_fewest 80 = .ok (.iconst 0, 1) := by decide +kernel
theorem dX12_fewest_81 : decode cX12_fewest 81 = .ok (.istore 6, 2) := by decide +kernel
theorem dX12_fewest_83 : decode cX12_fewest 83 = .ok (.iload 6, 2) := by decide +kernel
theorem dX12_fewest_85 : decode cX12_fewest 85 = .ok (.iconst 1, 1) := by decide +kernel
theorem dX12_fewest_86 : decode cX12_fewest 86 = .ok (.aload_n 0, 1) := by decide +kernel
theorem dX12_fewest_87 : decode cX12_fewest 87 = .ok (.getfield 9, 3) := by decide +kernel
theorem dX12_fewest_90 : decode cX12_fewest 90 = .ok (.iconst 4, 1) := by decide +kernel
theorem dX12_fewest_91 : decode cX12_fewest 91 = .ok (.iaload, 1) := by decide +kernel
theorem dX12_fewest_92 : decode cX12_fewest 92 = .ok (.ishl, 1) := by decide +kernel
theorem dX12_fewest_93 : decode cX12_fewest 93 = .ok (.if_icmp .ge 101, 3) := by decide +kernel
theorem dX12_fewest_96 : decode cX12_fewest 96 = .ok (.iload 6, 2) := by decide +kernel
theorem dX12_fewest_98 : decode cX12_fewest 98 = .ok (.iload_n 2, 1) := by decide +kernel
theorem dX12_fewest_99 : decode cX12_fewest 99 = .ok (.iconst (-1), 1) := by decide +kernel
theorem dX12_fewest_100 : decode cX12_fewest 100 = .ok (.ixor, 1) := by decide +kernel
theorem dX12_fewest_101 : decode cX12_fewest 101 = .ok (.iand, 1) := by decide +kernel
theorem dX12_fewest_102 : decode cX12_fewest 102 = .ok (.ifCond .ne 86, 3) := by decide +kernel
theorem dX12_fewest_105 : decode cX12_fewest 105 = .ok (.iload 5, 2) := by decide +kernel
theorem dX12_fewest_107 : decode cX12_fewest 107 = .ok (.ifCond .lt 16, 3) := by decide +kernel
theorem dX12_fewest_110 : decode cX12_fewest 110 = .ok (.iload 6, 2) := by decide +kernel
theorem dX12_fewest_112 : decode cX12_fewest 112 = .ok (.invokestatic 151, 3) := by decide +kernel
theorem dX12_fewest_115 : decode cX12_fewest 115 = .ok (.iload 5, 2) := by decide +kernel
theorem dX12_fewest_117 : decode cX12_fewest 117 = .ok (.invokestatic 151, 3) := by decide +kernel
theorem dX12_fewest_120 : decode cX12_fewest 120 = .ok (.if_icmp .ge 68, 3) := by decide +kernel
theorem dX12_fewest_123 : decode cX12_fewest 123 = .ok (.iload_n 3, 1) := by decide +kernel
theorem dX12_fewest_124 : decode cX12_fewest 124 = .ok (.istore 7, 2) := by decide +kernel
theorem dX12_fewest_126 : decode cX12_fewest 126 = .ok (.iconst 0, 1) := by decide +kernel
theorem dX12_fewest_127 : decode cX12_fewest 127 = .ok (.istore 8, 2) := by decide +kernel
theorem dX12_fewest_129 : decode cX12_fewest 129 = .ok (.iload 8, 2) := by decide +kernel
theorem dX12_fewest_131 : decode cX12_fewest 131 = .ok (.aload_n 0, 1) := by decide +kernel
theorem dX12_fewest_132 : decode cX12_fewest 132 = .ok (.getfield 9, 3) := by decide +kernel
theorem dX12_fewest_135 : decode cX12_fewest 135 = .ok (.iconst 4, 1) := by decide +kernel
theorem dX12_fewest_136 : decode cX12_fewest 136 = .ok (.iaload, 1) := by decide +kernel
theorem dX12_fewest_137 : decode cX12_fewest 137 = .ok (.if_icmp .ge 35, 3) := by decide +kernel
theorem dX12_fewest_140 : decode cX12_fewest 140 = .ok (.iload 7, 2) := by decide +kernel
theorem dX12_fewest_142 : decode cX12_fewest 142 = .ok (.iload 6, 2) := by decide +kernel
theorem dX12_fewest_144 : decode cX12_fewest 144 = .ok (.iload 8, 2) := by decide +kernel
theorem dX12_fewest_146 : decode cX12_fewest 146 = .ok (.ishr, 1) := by decide +kernel
theorem dX12_fewest_147 : decode cX12_fewest 147 = .ok (.iconst 1, 1) := by decide +kernel
theorem dX12_fewest_148 : decode cX12_fewest 148 = .ok (.iand, 1) := by decide +kernel
theorem dX12_fewest_149 : decode cX12_fewest 149 = .ok (.iconst 1, 1) := by decide +kernel
theorem dX12_fewest_150 : decode cX12_fewest 150 = .ok (.if_icmp .ne 12, 3) := by decide +kernel
theorem dX12_fewest_153 : decode cX12_fewest 153 = .ok (.aload_n 0, 1) := by decide +kernel
theorem dX12_fewest_154 : decode cX12_fewest 154 = .ok (.iload 8, 2) := by decide +kernel
theorem dX12_fewest_156 : decode cX12_fewest 156 = .ok (.invokevirtual 74, 3) := by decide +kernel
theorem dX12_fewest_159 : decode cX12_fewest 159 = .ok (.goto 4, 3) := by decide +kernel
theorem dX12_fewest_162 : decode cX12_fewest 162 = .ok (.iconst 0, 1) := by decide +kernel
theorem dX12_fewest_163 : decode cX12_fewest 163 = .ok (.iadd, 1) := by decide +kernel
theorem dX12_fewest_164 : decode cX12_fewest 164 = .ok (.istore 7, 2) := by decide +kernel
theorem dX12_fewest_166 : decode cX12_fewest 166 = .ok (.iinc 8 1, 3) := by decide +kernel
theorem dX12_fewest_169 : decode cX12_fewest 169 = .ok (.goto (-40), 3) := by decide +kernel
theorem dX12_fewest_172 : decode cX12_fewest 172 = .ok (.iload 7, 2) := by decide +kernel
theorem dX12_fewest_174 : decode cX12_fewest 174 = .ok (.iload 4, 2) := by decide +kernel
theorem dX12_fewest_176 : decode cX12_fewest 176 = .ok (.if_icmp .le 8, 3) := by decide +kernel
theorem dX12_fewest_179 : decode cX12_fewest 179 = .ok (.iload 6, 2) := by decide +kernel
theorem dX12_fewest_181 : decode cX12_fewest 181 = .ok (.goto 5, 3) := by decide +kernel
theorem dX12_fewest_184 : decode cX12_fewest 184 = .ok (.iload 5, 2) := by decide +kernel
theorem dX12_fewest_186 : decode cX12_fewest 186 = .ok (.istore 5, 2) := by decide +kernel
theorem dX12_fewest_188 : decode cX12_fewest 188 = .ok (.iinc 6 1, 3) := by decide +kernel
theorem dX12_fewest_191 : decode cX12_fewest 191 = .ok (.goto (-108), 3) := by decide +kernel
theorem dX12_fewest_194 : decode cX12_fewest 194 = .ok (.iload 5, 2) := by decide +kernel
theorem dX12_fewest_196 : decode cX12_fewest 196 = .ok (.ifCond .ge 11, 3) := by decide +kernel
theorem dX12_fewest_199 : decode cX12_fewest 199 = .ok (.aload_n 0, 1) := by decide +kernel
theorem dX12_fewest_200 : decode cX12_fewest 200 = .ok (.iconst 3, 1) := by decide +kernel
theorem dX12_fewest_201 : decode cX12_fewest 201 = .ok (.invokevirtual 118, 3) := by decide +kernel
theorem dX12_fewest_204 : decode cX12_fewest 204 = .ok (.goto 5, 3) := by decide +kernel
theorem dX12_fewest_207 : decode cX12_fewest 207 = .ok (.iload 5, 2) := by decide +kernel
theorem dX12_fewest_209 : decode cX12_fewest 209 = .ok (.ireturn, 1) := by decide +kernel
theorem dX12_traitor_0 : decode cX12_traitor 0 = .ok (.iload_n 1, 1) := by decide +kernel
theorem dX12_traitor_1 : decode cX12_traitor 1 = .ok (.iconst 1, 1) := by decide +kernel
theorem dX12_traitor_2 : decode cX12_traitor 2 = .ok (.bipush 60, 2) := by decide +kernel
theorem dX12_traitor_4 : decode cX12_traitor 4 = .ok (.invokestatic 52, 3) := by decide +kernel
theorem dX12_traitor_7 : decode cX12_traitor 7 = .ok (.ifCond .ne 9, 3) := by decide +kernel
theorem dX12_traitor_10 : decode cX12_traitor 10 = .ok (.aload_n 0, 1) := by decide +kernel
theorem dX12_traitor_11 : decode cX12_traitor 11 = .ok (.iconst 0, 1) := by decide +kernel
theorem dX12_traitor_12 : decode cX12_traitor 12 = .ok (.invokevirtual 118, 3) := by decide +kernel
theorem dX12_traitor_15 : decode cX12_traitor 15 = .ok (.ireturn, 1) := by decide +kernel
theorem dX12_traitor_16 : decode cX12_traitor 16 = .ok (.aload_n 0, 1) := by decide +kernel
theorem dX12_traitor_17 : decode cX12_traitor 17 = .ok (.invokevirtual 145, 3) := by decide +kernel
theorem dX12_traitor_20 : decode cX12_traitor 20 = .ok (.aload_n 0, 1) := by decide +kernel
theorem dX12_traitor_21 : decode cX12_traitor 21 = .ok (.iconst 1, 1) := by decide +kernel
theorem dX12_traitor_22 : decode cX12_traitor 22 = .ok (.iload_n 1, 1) := by decide +kernel
theorem dX12_traitor_23 : decode cX12_traitor 23 = .ok (.invokevirtual 148, 3) := by decide +kernel
theorem dX12_traitor_26 : decode cX12_traitor 26 = .ok (.istore_n 2, 1) := by decide +kernel
theorem dX12_traitor_27 : decode cX12_traitor 27 = .ok (.iconst (-1), 1) := by decide +kernel
theorem dX12_traitor_28 : decode cX12_traitor 28 = .ok (.istore_n 3, 1) := by decide +kernel
theorem dX12_traitor_29 : decode cX12_traitor 29 = .ok (.iconst (-1), 1) := by decide +kernel
theorem dX12_traitor_30 : decode cX12_traitor 30 = .ok (.istore 4, 2) := by decide +kernel
theorem dX12_traitor_32 : decode cX12_traitor 32 = .ok (.iconst 0, 1) := by decide +kernel
theorem dX12_traitor_33 : decode cX12_traitor 33 = .ok (.istore 5, 2) := by decide +kernel
theorem dX12_traitor_35 : decode cX12_traitor 35 = .ok (.iload 5, 2) := by decide +kernel
theorem dX12_traitor_37 : decode cX12_traitor 37 = .ok (.aload_n 0, 1) := by decide +kernel
theorem dX12_traitor_38 : decode cX12_traitor 38 = .ok (.getfield 9, 3) := by decide +kernel
theorem dX12_traitor_41 : decode cX12_traitor 41 = .ok (.iconst 4, 1) := by decide +kernel
theorem dX12_traitor_42 : decode cX12_traitor 42 = .ok (.iaload, 1) := by decide +kernel
theorem dX12_traitor_43 : decode cX12_traitor 43 = .ok (.if_icmp .ge 84, 3) := by decide +kernel
theorem dX12_traitor_46 : decode cX12_traitor 46 = .ok (.aload_n 0, 1) := by decide +kernel
theorem dX12_traitor_47 : decode cX12_traitor 47 = .ok (.invokevirtual 145, 3) := by decide +kernel
theorem dX12_traitor_50 : decode cX12_traitor 50 = .ok (.aload_n 0, 1) := by decide +kernel
theorem dX12_traitor_51 : decode cX12_traitor 51 = .ok (.iload 5, 2) := by decide +kernel
theorem dX12_traitor_53 : decode cX12_traitor 53 = .ok (.iconst 1, 1) := by decide +kernel
theorem dX12_traitor_54 : decode cX12_traitor 54 = .ok (.iconst 1, 1) := by decide +kernel
theorem dX12_traitor_55 : decode cX12_traitor 55 = .ok (.aload_n 0, 1) := by decide +kernel
theorem dX12_traitor_56 : decode cX12_traitor 56 = .ok (.iload 5, 2) := by decide +kernel
theorem dX12_traitor_58 : decode cX12_traitor 58 = .ok (.iconst 1, 1) := by decide +kernel
theorem dX12_traitor_59 : decode cX12_traitor 59 = .ok (.invokevirtual 60, 3) := by decide +kernel
theorem dX12_traitor_62 : decode cX12_traitor 62 = .ok (.isub, 1) := by decide +kernel
theorem dX12_traitor_63 : decode cX12_traitor 63 = .ok (.invokevirtual 88, 3) := by decide +kernel
theorem dX12_traitor_66 : decode cX12_traitor 66 = .ok (.aload_n 0, 1) := by decide +kernel
theorem dX12_traitor_67 : decode cX12_traitor 67 = .ok (.iconst 1, 1) := by decide +kernel
theorem dX12_traitor_68 : decode cX12_traitor 68 = .ok (.iload_n 1, 1) := by decide +kernel
theorem dX12_traitor_69 : decode cX12_traitor 69 = .ok (.invokevirtual 148, 3) := by decide +kernel
theorem dX12_traitor_72 : decode cX12_traitor 72 = .ok (.iload_n 2, 1) := by decide +kernel
theorem dX12_traitor_73 : decode cX12_traitor 73 = .ok (.isub, 1) := by decide +kernel
theorem dX12_traitor_74 : decode cX12_traitor 74 = .ok (.istore 6, 2) := by decide +kernel
theorem dX12_traitor_76 : decode cX12_traitor 76 = .ok (.iload 6, 2) := by decide +kernel
theorem dX12_traitor_78 : decode cX12_traitor 78 = .ok (.ifCond .ge 9, 3) := by decide +kernel
theorem dX12_traitor_81 : decode cX12_traitor 81 = .ok (.iload 6, 2) := by decide +kernel
theorem dX12_traitor_83 : decode cX12_traitor 83 = .ok (.ineg, 1) := by decide +kernel
theorem dX12_traitor_84 : decode cX12_traitor 84 = .ok (.goto 5, 3) := by decide +kernel
theorem dX12_traitor_87 : decode cX12_traitor 87 = .ok (.iload 6, 2) := by decide +kernel
theorem dX12_traitor_89 : decode cX12_traitor 89 = .ok (.istore 6, 2) := by decide +kernel
theorem dX12_traitor_91 : decode cX12_traitor 91 = .ok (.iload 6, 2) := by decide +kernel
theorem dX12_traitor_93 : decode cX12_traitor 93 = .ok (.iload 4, 2) := by decide +kernel
theorem dX12_traitor_95 : decode cX12_traitor 95 = .ok (.if_icmp .le 8, 3) := by decide +kernel
theorem dX12_traitor_98 : decode cX12_traitor 98 = .ok (.iload 5, 2) := by decide +kernel
theorem dX12_traitor_100 : decode cX12_traitor 100 = .ok (.goto 4, 3) := by decide +kernel
theorem dX12_traitor_103 : decode cX12_traitor 103 = .ok (.iload_n 3, 1) := by decide +kernel
theorem dX12_traitor_104 : decode cX12_traitor 104 = .ok (.istore_n 3, 1) := by decide +kernel
theorem dX12_traitor_105 : decode cX12_traitor 105 = .ok (.iload 6, 2) := by decide +kernel
theorem dX12_traitor_107 : decode cX12_traitor 107 = .ok (.iload 4, 2) := by decide +kernel
theorem dX12_traitor_109 : decode cX12_traitor 109 = .ok (.if_icmp .le 8, 3) := by decide +kernel
theorem dX12_traitor_112 : decode cX12_traitor 112 = .ok (.iload 6, 2) := by decide +kernel
theorem dX12_traitor_114 : decode cX12_traitor 114 = .ok (.goto 5, 3) := by decide +kernel
theorem dX12_traitor_117 : decode cX12_traitor 117 = .ok (.iload 4, 2) := by decide +kernel
theorem dX12_traitor_119 : decode cX12_traitor 119 = .ok (.istore 4, 2) := by decide +kernel
theorem dX12_traitor_121 : decode cX12_traitor 121 = .ok (.iinc 5 1, 3) := by decide +kernel
theorem dX12_traitor_124 : decode cX12_traitor 124 = .ok (.goto (-89), 3) := by decide +kernel
theorem dX12_traitor_127 : decode cX12_traitor 127 = .ok (.iload_n 3, 1) := by decide +kernel
theorem dX12_traitor_128 : decode cX12_traitor 128 = .ok (.ifCond .ge 11, 3) := by decide +kernel
theorem dX12_traitor_131 : decode cX12_traitor 131 = .ok (.aload_n 0, 1) := by decide +kernel
theorem dX12_traitor_132 : decode cX12_traitor 132 = .ok (.iconst 3, 1) := by decide +kernel
theorem dX12_traitor_133 : decode cX12_traitor 133 = .ok (.invokevirtual 118, 3) := by decide +kernel
theorem dX12_traitor_136 : decode cX12_traitor 136 = .ok (.goto 4, 3) := by decide +kernel
theorem dX12_traitor_139 : decode cX12_traitor 139 = .ok (.iload_n 3, 1) := by decide +kernel
theorem dX12_traitor_140 : decode cX12_traitor 140 = .ok (.ireturn, 1) := by decide +kernel
theorem dX12_feed_0 : decode cX12_feed 0 = .ok (.iload_n 2, 1) := by decide +kernel
theorem dX12_feed_1 : decode cX12_feed 1 = .ok (.iconst 1, 1) := by decide +kernel
theorem dX12_feed_2 : decode cX12_feed 2 = .ok (.iconst 4, 1) := by decide +kernel
theorem dX12_feed_3 : decode cX12_feed 3 = .ok (.invokestatic 52, 3) := by decide +kernel
theorem dX12_feed_6 : decode cX12_feed 6 = .ok (.ifCond .ne 9, 3) := by decide +kernel
theorem dX12_feed_9 : decode cX12_feed 9 = .ok (.aload_n 0, 1) := by decide +kernel
theorem dX12_feed_10 : decode cX12_feed 10 = .ok (.iconst 0, 1) := by decide +kernel
theorem dX12_feed_11 : decode cX12_feed 11 = .ok (.invokevirtual 118, 3) := by decide +kernel
theorem dX12_feed_14 : decode cX12_feed 14 = .ok (.ireturn, 1) := by decide +kernel
theorem dX12_feed_15 : decode cX12_feed 15 = .ok (.aload_n 0, 1) := by decide +kernel
theorem dX12_feed_16 : decode cX12_feed 16 = .ok (.getfield 154, 3) := by decide +kernel
theorem dX12_feed_19 : decode cX12_feed 19 = .ok (.iload_n 2, 1) := by decide +kernel
theorem dX12_feed_20 : decode cX12_feed 20 = .ok (.iadd, 1) := by decide +kernel
theorem dX12_feed_21 : decode cX12_feed 21 = .ok (.bipush 120, 2) := by decide +kernel
theorem dX12_feed_23 : decode cX12_feed 23 = .ok (.if_icmp .le 9, 3) := by decide +kernel
theorem dX12_feed_26 : decode cX12_feed 26 = .ok (.aload_n 0, 1) := by decide +kernel
theorem dX12_feed_27 : decode cX12_feed 27 = .ok (.iconst 1, 1) := by decide +kernel
theorem dX12_feed_28 : decode cX12_feed 28 = .ok (.invokevirtual 118, 3) := by decide +kernel
theorem dX12_feed_31 : decode cX12_feed 31 = .ok (.ireturn, 1) := by decide +kernel
theorem dX12_feed_32 : decode cX12_feed 32 = .ok (.iload_n 2, 1) := by decide +kernel
theorem dX12_feed_33 : decode cX12_feed 33 = .ok (.iconst 1, 1) := by decide +kernel
theorem dX12_feed_34 : decode cX12_feed 34 = .ok (.isub, 1) := by decide +kernel
theorem dX12_feed_35 : decode cX12_feed 35 = .ok (.istore_n 3, 1) := by decide +kernel
theorem dX12_feed_36 : decode cX12_feed 36 = .ok (.iload_n 3, 1) := by decide +kernel
theorem dX12_feed_37 : decode cX12_feed 37 = .ok (.ifCond .lt 38, 3) := by decide +kernel
theorem dX12_feed_40 : decode cX12_feed 40 = .ok (.aload_n 0, 1) := by decide +kernel
theorem dX12_feed_41 : decode cX12_feed 41 = .ok (.getfield 22, 3) := by decide +kernel
theorem dX12_feed_44 : decode cX12_feed 44 = .ok (.aload_n 0, 1) := by decide +kernel
theorem dX12_feed_45 : decode cX12_feed 45 = .ok (.getfield 154, 3) := by decide +kernel
theorem dX12_feed_48 : decode cX12_feed 48 = .ok (.iload_n 1, 1) := by decide +kernel
theorem dX12_feed_49 : decode cX12_feed 49 = .ok (.bipush 8, 2) := by decide +kernel
theorem dX12_feed_51 : decode cX12_feed 51 = .ok (.iload_n 3, 1) := by decide +kernel
theorem dX12_feed_52 : decode cX12_feed 52 = .ok (.imul, 1) := by decide +kernel
theorem dX12_feed_53 : decode cX12_feed 53 = .ok (.ishr, 1) := by decide +kernel
theorem dX12_feed_54 : decode cX12_feed 54 = .ok (.sipush 255, 3) := by decide +kernel
theorem dX12_feed_57 : decode cX12_feed 57 = .ok (.iand, 1) := by decide +kernel
theorem dX12_feed_58 : decode cX12_feed 58 = .ok (.iastore, 1) := by decide +kernel
theorem dX12_feed_59 : decode cX12_feed 59 = .ok (.aload_n 0, 1) := by decide +kernel
theorem dX12_feed_60 : decode cX12_feed 60 = .ok (.dup, 1) := by decide +kernel
theorem dX12_feed_61 : decode cX12_feed 61 = .ok (.getfield 154, 3) := by decide +kernel
theorem dX12_feed_64 : decode cX12_feed 64 = .ok (.iconst 1, 1) := by decide +kernel
theorem dX12_feed_65 : decode cX12_feed 65 = .ok (.iadd, 1) := by decide +kernel
theorem dX12_feed_66 : decode cX12_feed 66 = .ok (.putfield 154, 3) := by decide +kernel
theorem dX12_feed_69 : decode cX12_feed 69 = .ok (.iinc 3 (-1), 3) := by decide +kernel
theorem dX12_feed_72 : decode cX12_feed 72 = .ok (.goto (-36), 3) := by decide +kernel
theorem dX12_feed_75 : decode cX12_feed 75 = .ok (.aload_n 0, 1) := by decide +kernel
theorem dX12_feed_76 : decode cX12_feed 76 = .ok (.getfield 154, 3) := by decide +kernel
theorem dX12_feed_79 : decode cX12_feed 79 = .ok (.ireturn, 1) := by decide +kernel
theorem dX12_wipe_0 : decode cX12_wipe 0 = .ok (.aload_n 0, 1) := by decide +kernel
theorem dX12_wipe_1 : decode cX12_wipe 1 = .ok (.getfield 154, 3) := by decide +kernel
theorem dX12_wipe_4 : decode cX12_wipe 4 = .ok (.istore_n 1, 1) := by decide +kernel
theorem dX12_wipe_5 : decode cX12_wipe 5 = .ok (.aload_n 0, 1) := by decide +kernel
theorem dX12_wipe_6 : decode cX12_wipe 6 = .ok (.iconst 0, 1) := by decide +kernel
theorem dX12_wipe_7 : decode cX12_wipe 7 = .ok (.putfield 154, 3) := by decide +kernel
theorem dX12_wipe_10 : decode cX12_wipe 10 = .ok (.iload_n 1, 1) := by decide +kernel
theorem dX12_wipe_11 : decode cX12_wipe 11 = .ok (.ireturn, 1) := by decide +kernel
theorem dX12_isLetter_0 : decode cX12_isLetter 0 = .ok (.iload_n 0, 1) := by decide +kernel
theorem dX12_isLetter_1 : decode cX12_isLetter 1 = .ok (.bipush 97, 2) := by decide +kernel
theorem dX12_isLetter_3 : decode cX12_isLetter 3 = .ok (.bipush 122, 2) := by decide +kernel
theorem dX12_isLetter_5 : decode cX12_isLetter 5 = .ok (.invokestatic 52, 3) := by decide +kernel
theorem dX12_isLetter_8 : decode cX12_isLetter 8 = .ok (.ireturn, 1) := by decide +kernel
theorem dX12_isDigit_0 : decode cX12_isDigit 0 = .ok (.iload_n 0, 1) := by decide +kernel
theorem dX12_isDigit_1 : decode cX12_isDigit 1 = .ok (.bipush 48, 2) := by decide +kernel
theorem dX12_isDigit_3 : decode cX12_isDigit 3 = .ok (.bipush 57, 2) := by decide +kernel
theorem dX12_isDigit_5 : decode cX12_isDigit 5 = .ok (.invokestatic 52, 3) := by decide +kernel
theorem dX12_isDigit_8 : decode cX12_isDigit 8 = .ok (.ireturn, 1) := by decide +kernel
theorem dX12_nextToken_0 : decode cX12_nextToken 0 = .ok (.aload_n 0, 1) := by decide +kernel
theorem dX12_nextToken_1 : decode cX12_nextToken 1 = .ok (.aload_n 0, 1) := by decide +kernel
theorem dX12_nextToken_2 : decode cX12_nextToken 2 = .ok (.getfield 158, 3) := by decide +kernel
theorem dX12_nextToken_5 : decode cX12_nextToken 5 = .ok (.putfield 161, 3) := by decide +kernel
theorem dX12_nextToken_8 : decode cX12_nextToken 8 = .ok (.aload_n 0, 1) := by decide +kernel
theorem dX12_nextToken_9 : decode cX12_nextToken 9 = .ok (.getfield 161, 3) := by decide +kernel
theorem dX12_nextToken_12 : decode cX12_nextToken 12 = .ok (.aload_n 0, 1) := by decide +kernel
theorem dX12_nextToken_13 : decode cX12_nextToken 13 = .ok (.getfield 154, 3) := by decide +kernel
theorem dX12_nextToken_16 : decode cX12_nextToken 16 = .ok (.if_icmp .ge 30, 3) := by decide +kernel
theorem dX12_nextToken_19 : decode cX12_nextToken 19 = .ok (.aload_n 0, 1) := by decide +kernel
theorem dX12_nextToken_20 : decode cX12_nextToken 20 = .ok (.getfield 22, 3) := by decide +kernel
theorem dX12_nextToken_23 : decode cX12_nextToken 23 = .ok (.aload_n 0, 1) := by decide +kernel
theorem dX12_nextToken_24 : decode cX12_nextToken 24 = .ok (.getfield 161, 3) := by decide +kernel
theorem dX12_nextToken_27 : decode cX12_nextToken 27 = .ok (.iaload, 1) := by decide +kernel
theorem dX12_nextToken_28 : decode cX12_nextToken 28 = .ok (.bipush 32, 2) := by decide +kernel
theorem dX12_nextToken_30 : decode cX12_nextToken 30 = .ok (.if_icmp .ne 16, 3) := by decide +kernel
theorem dX12_nextToken_33 : decode cX12_nextToken 33 = .ok (.aload_n 0, 1) := by decide +kernel
theorem dX12_nextToken_34 : decode cX12_nextToken 34 = .ok (.dup, 1) := by decide +kernel
theorem dX12_nextToken_35 : decode cX12_nextToken 35 = .ok (.getfield 161, 3) := by decide +kernel
theorem dX12_nextToken_38 : decode cX12_nextToken 38 = .ok (.iconst 1, 1) := by decide +kernel
theorem dX12_nextToken_39 : decode cX12_nextToken 39 = .ok (.iadd, 1) := by decide +kernel
theorem dX12_nextToken_40 : decode cX12_nextToken 40 = .ok (.putfield 161, 3) := by decide +kernel
theorem dX12_nextToken_43 : decode cX12_nextToken 43 = .ok (.goto (-35), 3) := by decide +kernel
theorem dX12_nextToken_46 : decode cX12_nextToken 46 = .ok (.aload_n 0, 1) := by decide +kernel
theorem dX12_nextToken_47 : decode cX12_nextToken 47 = .ok (.aload_n 0, 1) := by decide +kernel
theorem dX12_nextToken_48 : decode cX12_nextToken 48 = .ok (.getfield 161, 3) := by decide +kernel
theorem dX12_nextToken_51 : decode cX12_nextToken 51 = .ok (.putfield 158, 3) := by decide +kernel
theorem dX12_nextToken_54 : decode cX12_nextToken 54 = .ok (.aload_n 0, 1) := by decide +kernel
theorem dX12_nextToken_55 : decode cX12_nextToken 55 = .ok (.lconst 0, 1) := by decide +kernel
theorem dX12_nextToken_56 : decode cX12_nextToken 56 = .ok (.putfield 164, 3) := by decide +kernel
theorem dX12_nextToken_59 : decode cX12_nextToken 59 = .ok (.aload_n 0, 1) := by decide +kernel
theorem dX12_nextToken_60 : decode cX12_nextToken 60 = .ok (.getfield 161, 3) := by decide +kernel
theorem dX12_nextToken_63 : decode cX12_nextToken 63 = .ok (.aload_n 0, 1) := by decide +kernel
theorem dX12_nextToken_64 : decode cX12_nextToken 64 = .ok (.getfield 154, 3) := by decide +kernel
theorem dX12_nextToken_67 : decode cX12_nextToken 67 = .ok (.if_icmp .ne 11, 3) := by decide +kernel
theorem dX12_nextToken_70 : decode cX12_nextToken 70 = .ok (.aload_n 0, 1) := by decide +kernel
theorem dX12_nextToken_71 : decode cX12_nextToken 71 = .ok (.iconst 0, 1) := by decide +kernel
theorem dX12_nextToken_72 : decode cX12_nextToken 72 = .ok (.putfield 168, 3) := by decide +kernel
theorem dX12_nextToken_75 : decode cX12_nextToken 75 = .ok (.goto 262, 3) := by decide +kernel
theorem dX12_nextToken_78 : decode cX12_nextToken 78 = .ok (.aload_n 0, 1) := by decide +kernel
theorem dX12_nextToken_79 : decode cX12_nextToken 79 = .ok (.getfield 22, 3) := by decide +kernel
theorem dX12_nextToken_82 : decode cX12_nextToken 82 = .ok (.aload_n 0, 1) := by decide +kernel
theorem dX12_nextToken_83 : decode cX12_nextToken 83 = .ok (.getfield 161, 3) := by decide +kernel
theorem dX12_nextToken_86 : decode cX12_nextToken 86 = .ok (.iaload, 1) := by decide +kernel
theorem dX12_nextToken_87 : decode cX12_nextToken 87 = .ok (.invokestatic 171, 3) := by decide +kernel
theorem dX12_nextToken_90 : decode cX12_nextToken 90 = .ok (.ifCond .eq 92, 3) := by decide +kernel
theorem dX12_nextToken_93 : decode cX12_nextToken 93 = .ok (.aload_n 0, 1) := by decide +kernel
theorem dX12_nextToken_94 : decode cX12_nextToken 94 = .ok (.iconst 1, 1) := by decide +kernel
theorem dX12_nextToken_95 : decode cX12_nextToken 95 = .ok (.putfield 168, 3) := by decide +kernel
theorem dX12_nextToken_98 : decode cX12_nextToken 98 = .ok (.aload_n 0, 1) := by decide +kernel
theorem dX12_nextToken_99 : decode cX12_nextToken 99 = .ok (.getfield 158, 3) := by decide +kernel
theorem dX12_nextToken_102 : decode cX12_nextToken 102 = .ok (.aload_n 0, 1) := by decide +kernel
theorem dX12_nextToken_103 : decode cX12_nextToken 103 = .ok (.getfield 154, 3) := by decide +kernel
theorem dX12_nextToken_106 : decode cX12_nextToken 106 = .ok (.if_icmp .ge 231, 3) := by decide +kernel
theorem dX12_nextToken_109 : decode cX12_nextToken 109 = .ok (.aload_n 0, 1) := by decide +kernel
theorem dX12_nextToken_110 : decode cX12_nextToken 110 = .ok (.getfield 22, 3) := by decide +kernel
theorem dX12_nextToken_113 : decode cX12_nextToken 113 = .ok (.aload_n 0, 1) := by decide +kernel
theorem dX12_nextToken_114 : decode cX12_nextToken 114 = .ok (.getfield 158, 3) := by decide +kernel
theorem dX12_nextToken_117 : decode cX12_nextToken 117 = .ok (.iaload, 1) := by decide +kernel
theorem dX12_nextToken_118 : decode cX12_nextToken 118 = .ok (.invokestatic 171, 3) := by decide +kernel
theorem dX12_nextToken_121 : decode cX12_nextToken 121 = .ok (.ifCond .eq 216, 3) := by decide +kernel
theorem dX12_nextToken_124 : decode cX12_nextToken 124 = .ok (.aload_n 0, 1) := by decide +kernel
theorem dX12_nextToken_125 : decode cX12_nextToken 125 = .ok (.aload_n 0, 1) := by decide +kernel
theorem dX12_nextToken_126 : decode cX12_nextToken 126 = .ok (.getfield 164, 3) := by decide +kernel
theorem dX12_nextToken_129 : decode cX12_nextToken 129 = .ok (.ldc2_w 174, 3) := by decide +kernel
theorem dX12_nextToken_132 : decode cX12_nextToken 132 = .ok (.lcmp, 1) := by decide +kernel
theorem dX12_nextToken_133 : decode cX12_nextToken 133 = .ok (.ifCond .le 10, 3) := by decide +kernel
theorem dX12_nextToken_136 : decode cX12_nextToken 136 = .ok (.aload_n 0, 1) := by decide +kernel
theorem dX12_nextToken_137 : decode cX12_nextToken 137 = .ok (.getfield 164, 3) := by decide +kernel
theorem dX12_nextToken_140 : decode cX12_nextToken 140 = .ok (.goto 26, 3) := by decide +kernel
theorem dX12_nextToken_143 : decode cX12_nextToken 143 = .ok (.aload_n 0, 1) := by decide +kernel
theorem dX12_nextToken_144 : decode cX12_nextToken 144 = .ok (.getfield 164, 3) := by decide +kernel
theorem dX12_nextToken_147 : decode cX12_nextToken 147 = .ok (.ldc2_w 176, 3) := by decide +kernel
theorem dX12_nextToken_150 : decode cX12_nextToken 150 = .ok (.lmul, 1) := by decide +kernel
theorem dX12_nextToken_151 : decode cX12_nextToken 151 = .ok (.aload_n 0, 1) := by decide +kernel
theorem dX12_nextToken_152 : decode cX12_nextToken 152 = .ok (.getfield 22, 3) := by decide +kernel
theorem dX12_nextToken_155 : decode cX12_nextToken 155 = .ok (.aload_n 0, 1) := by decide +kernel
theorem dX12_nextToken_156 : decode cX12_nextToken 156 = .ok (.getfield 158, 3) := by decide +kernel
theorem dX12_nextToken_159 : decode cX12_nextToken 159 = .ok (.iaload, 1) := by decide +kernel
theorem dX12_nextToken_160 : decode cX12_nextToken 160 = .ok (.i2l, 1) := by decide +kernel
theorem dX12_nextToken_161 : decode cX12_nextToken 161 = .ok (.ladd, 1) := by decide +kernel
theorem dX12_nextToken_162 : decode cX12_nextToken 162 = .ok (.ldc2_w 178, 3) := by decide +kernel
theorem dX12_nextToken_165 : decode cX12_nextToken 165 = .ok (.lsub, 1) := by decide +kernel
theorem dX12_nextToken_166 : decode cX12_nextToken 166 = .ok (.putfield 164, 3) := by decide +kernel
theorem dX12_nextToken_169 : decode cX12_nextToken 169 = .ok (.aload_n 0, 1) := by decide +kernel
theorem dX12_nextToken_170 : decode cX12_nextToken 170 = .ok (.dup, 1) := by decide +kernel
theorem dX12_nextToken_171 : decode cX12_nextToken 171 = .ok (.getfield 158, 3) := by decide +kernel
theorem dX12_nextToken_174 : decode cX12_nextToken 174 = .ok (.iconst 1, 1) := by decide +kernel
theorem dX12_nextToken_175 : decode cX12_nextToken 175 = .ok (.iadd, 1) := by decide +kernel
theorem dX12_nextToken_176 : decode cX12_nextToken 176 = .ok (.putfield 158, 3) := by decide +kernel
theorem dX12_nextToken_179 : decode cX12_nextToken 179 = .ok (.goto (-81), 3) := by decide +kernel
theorem dX12_nextToken_182 : decode cX12_nextToken 182 = .ok (.aload_n 0, 1) := by decide +kernel
theorem dX12_nextToken_183 : decode cX12_nextToken 183 = .ok (.getfield 22, 3) := by decide +kernel
theorem dX12_nextToken_186 : decode cX12_nextToken 186 = .ok (.aload_n 0, 1) := by decide +kernel
theorem dX12_nextToken_187 : decode cX12_nextToken 187 = .ok (.getfield 161, 3) := by decide +kernel
theorem dX12_nextToken_190 : decode cX12_nextToken 190 = .ok (.iaload, 1) := by decide +kernel
theorem dX12_nextToken_191 : decode cX12_nextToken 191 = .ok (.invokestatic 180, 3) := by decide +kernel
theorem dX12_nextToken_194 : decode cX12_nextToken 194 = .ok (.ifCond .eq 110, 3) := by decide +kernel
theorem dX12_nextToken_197 : decode cX12_nextToken 197 = .ok (.aload_n 0, 1) := by decide +kernel
theorem dX12_nextToken_198 : decode cX12_nextToken 198 = .ok (.getfield 158, 3) := by decide +kernel
theorem dX12_nextToken_201 : decode cX12_nextToken 201 = .ok (.aload_n 0, 1) := by decide +kernel
theorem dX12_nextToken_202 : decode cX12_nextToken 202 = .ok (.getfield 154, 3) := by decide +kernel
theorem dX12_nextToken_205 : decode cX12_nextToken 205 = .ok (.if_icmp .ge 76, 3) := by decide +kernel
theorem dX12_nextToken_208 : decode cX12_nextToken 208 = .ok (.aload_n 0, 1) := by decide +kernel
theorem dX12_nextToken_209 : decode cX12_nextToken 209 = .ok (.getfield 22, 3) := by decide +kernel
theorem dX12_nextToken_212 : decode cX12_nextToken 212 = .ok (.aload_n 0, 1) := by decide +kernel
theorem dX12_nextToken_213 : decode cX12_nextToken 213 = .ok (.getfield 158, 3) := by decide +kernel
theorem dX12_nextToken_216 : decode cX12_nextToken 216 = .ok (.iaload, 1) := by decide +kernel
theorem dX12_nextToken_217 : decode cX12_nextToken 217 = .ok (.invokestatic 180, 3) := by decide +kernel
theorem dX12_nextToken_220 : decode cX12_nextToken 220 = .ok (.ifCond .eq 61, 3) := by decide +kernel
theorem dX12_nextToken_223 : decode cX12_nextToken 223 = .ok (.aload_n 0, 1) := by decide +kernel
theorem dX12_nextToken_224 : decode cX12_nextToken 224 = .ok (.aload_n 0, 1) := by decide +kernel
theorem dX12_nextToken_225 : decode cX12_nextToken 225 = .ok (.getfield 164, 3) := by decide +kernel
theorem dX12_nextToken_228 : decode cX12_nextToken 228 = .ok (.ldc2_w 183, 3) := by decide +kernel
theorem dX12_nextToken_231 : decode cX12_nextToken 231 = .ok (.lcmp, 1) := by decide +kernel
theorem dX12_nextToken_232 : decode cX12_nextToken 232 = .ok (.ifCond .le 10, 3) := by decide +kernel
theorem dX12_nextToken_235 : decode cX12_nextToken 235 = .ok (.aload_n 0, 1) := by decide +kernel
theorem dX12_nextToken_236 : decode cX12_nextToken 236 = .ok (.getfield 164, 3) := by decide +kernel
theorem dX12_nextToken_239 : decode cX12_nextToken 239 = .ok (.goto 26, 3) := by decide +kernel
theorem dX12_nextToken_242 : decode cX12_nextToken 242 = .ok (.aload_n 0, 1) := by decide +kernel
theorem dX12_nextToken_243 : decode cX12_nextToken 243 = .ok (.getfield 164, 3) := by decide +kernel
theorem dX12_nextToken_246 : decode cX12_nextToken 246 = .ok (.ldc2_w 185, 3) := by decide +kernel
theorem dX12_nextToken_249 : decode cX12_nextToken 249 = .ok (.lmul, 1) := by decide +kernel
theorem dX12_nextToken_250 : decode cX12_nextToken 250 = .ok (.aload_n 0, 1) := by decide +kernel
theorem dX12_nextToken_251 : decode cX12_nextToken 251 = .ok (.getfield 22, 3) := by decide +kernel
theorem dX12_nextToken_254 : decode cX12_nextToken 254 = .ok (.aload_n 0, 1) := by decide +kernel
theorem dX12_nextToken_255 : decode cX12_nextToken 255 = .ok (.getfield 158, 3) := by decide +kernel
theorem dX12_nextToken_258 : decode cX12_nextToken 258 = .ok (.iaload, 1) := by decide +kernel
theorem dX12_nextToken_259 : decode cX12_nextToken 259 = .ok (.i2l, 1) := by decide +kernel
theorem dX12_nextToken_260 : decode cX12_nextToken 260 = .ok (.ladd, 1) := by decide +kernel
theorem dX12_nextToken_261 : decode cX12_nextToken 261 = .ok (.ldc2_w 187, 3) := by decide +kernel
theorem dX12_nextToken_264 : decode cX12_nextToken 264 = .ok (.lsub, 1) := by decide +kernel
theorem dX12_nextToken_265 : decode cX12_nextToken 265 = .ok (.putfield 164, 3) := by decide +kernel
theorem dX12_nextToken_268 : decode cX12_nextToken 268 = .ok (.aload_n 0, 1) := by decide +kernel
theorem dX12_nextToken_269 : decode cX12_nextToken 269 = .ok (.dup, 1) := by decide +kernel
theorem dX12_nextToken_270 : decode cX12_nextToken 270 = .ok (.getfield 158, 3) := by decide +kernel
theorem dX12_nextToken_273 : decode cX12_nextToken 273 = .ok (.iconst 1, 1) := by decide +kernel
theorem dX12_nextToken_274 : decode cX12_nextToken 274 = .ok (.iadd, 1) := by decide +kernel
theorem dX12_nextToken_275 : decode cX12_nextToken 275 = .ok (.putfield 158, 3) := by decide +kernel
theorem dX12_nextToken_278 : decode cX12_nextToken 278 = .ok (.goto (-81), 3) := by decide +kernel
theorem dX12_nextToken_281 : decode cX12_nextToken 281 = .ok (.aload_n 0, 1) := by decide +kernel
theorem dX12_nextToken_282 : decode cX12_nextToken 282 = .ok (.aload_n 0, 1) := by decide +kernel
theorem dX12_nextToken_283 : decode cX12_nextToken 283 = .ok (.getfield 164, 3) := by decide +kernel
theorem dX12_nextToken_286 : decode cX12_nextToken 286 = .ok (.ldc2_w 183, 3) := by decide +kernel
theorem dX12_nextToken_289 : decode cX12_nextToken 289 = .ok (.lcmp, 1) := by decide +kernel
theorem dX12_nextToken_290 : decode cX12_nextToken 290 = .ok (.ifCond .le 7, 3) := by decide +kernel
theorem dX12_nextToken_293 : decode cX12_nextToken 293 = .ok (.iconst 4, 1) := by decide +kernel
theorem dX12_nextToken_294 : decode cX12_nextToken 294 = .ok (.goto 4, 3) := by decide +kernel
theorem dX12_nextToken_297 : decode cX12_nextToken 297 = .ok (.iconst 2, 1) := by decide +kernel
theorem dX12_nextToken_298 : decode cX12_nextToken 298 = .ok (.putfield 168, 3) := by decide +kernel
theorem dX12_nextToken_301 : decode cX12_nextToken 301 = .ok (.goto 36, 3) := by decide +kernel
theorem dX12_nextToken_304 : decode cX12_nextToken 304 = .ok (.aload_n 0, 1) := by decide +kernel
theorem dX12_nextToken_305 : decode cX12_nextToken 305 = .ok (.aload_n 0, 1) := by decide +kernel
theorem dX12_nextToken_306 : decode cX12_nextToken 306 = .ok (.getfield 22, 3) := by decide +kernel
theorem dX12_nextToken_309 : decode cX12_nextToken 309 = .ok (.aload_n 0, 1) := by decide +kernel
theorem dX12_nextToken_310 : decode cX12_nextToken 310 = .ok (.getfield 161, 3) := by decide +kernel
theorem dX12_nextToken_313 : decode cX12_nextToken 313 = .ok (.iaload, 1) := by decide +kernel
theorem dX12_nextToken_314 : decode cX12_nextToken 314 = .ok (.bipush 59, 2) := by decide +kernel
theorem dX12_nextToken_316 : decode cX12_nextToken 316 = .ok (.if_icmp .ne 7, 3) := by decide +kernel
theorem dX12_nextToken_319 : decode cX12_nextToken 319 = .ok (.iconst 3, 1) := by decide +kernel
theorem dX12_nextToken_320 : decode cX12_nextToken 320 = .ok (.goto 4, 3) := by decide +kernel
theorem dX12_nextToken_323 : decode cX12_nextToken 323 = .ok (.iconst 4, 1) := by decide +kernel
theorem dX12_nextToken_324 : decode cX12_nextToken 324 = .ok (.putfield 168, 3) := by decide +kernel
theorem dX12_nextToken_327 : decode cX12_nextToken 327 = .ok (.aload_n 0, 1) := by decide +kernel
theorem dX12_nextToken_328 : decode cX12_nextToken 328 = .ok (.dup, 1) := by decide +kernel
theorem dX12_nextToken_329 : decode cX12_nextToken 329 = .ok (.getfield 158, 3) := by decide +kernel
theorem dX12_nextToken_332 : decode cX12_nextToken 332 = .ok (.iconst 1, 1) := by decide +kernel
theorem dX12_nextToken_333 : decode cX12_nextToken 333 = .ok (.iadd, 1) := by decide +kernel
theorem dX12_nextToken_334 : decode cX12_nextToken 334 = .ok (.putfield 158, 3) := by decide +kernel
theorem dX12_nextToken_337 : decode cX12_nextToken 337 = .ok (.return_, 1) := by decide +kernel
theorem dX12_wordOf_0 : decode cX12_wordOf 0 = .ok (.iconst (-1), 1) := by decide +kernel
theorem dX12_wordOf_1 : decode cX12_wordOf 1 = .ok (.istore_n 2, 1) := by decide +kernel
theorem dX12_wordOf_2 : decode cX12_wordOf 2 = .ok (.iconst 0, 1) := by decide +kernel
theorem dX12_wordOf_3 : decode cX12_wordOf 3 = .ok (.istore_n 3, 1) := by decide +kernel
theorem dX12_wordOf_4 : decode cX12_wordOf 4 = .ok (.iload_n 3, 1) := by decide +kernel
theorem dX12_wordOf_5 : decode cX12_wordOf 5 = .ok (.aload_n 1, 1) := by decide +kernel
theorem dX12_wordOf_6 : decode cX12_wordOf 6 = .ok (.arraylength, 1) := by decide +kernel
theorem dX12_wordOf_7 : decode cX12_wordOf 7 = .ok (.bipush 8, 2) := by decide +kernel
theorem dX12_wordOf_9 : decode cX12_wordOf 9 = .ok (.idiv, 1) := by decide +kernel
theorem dX12_wordOf_10 : decode cX12_wordOf 10 = .ok (.if_icmp .ge 94, 3) := by decide +kernel
theorem dX12_wordOf_13 : decode cX12_wordOf 13 = .ok (.aload_n 0, 1) := by decide +kernel
theorem dX12_wordOf_14 : decode cX12_wordOf 14 = .ok (.getfield 168, 3) := by decide +kernel
theorem dX12_wordOf_17 : decode cX12_wordOf 17 = .ok (.iconst 1, 1) := by decide +kernel
theorem dX12_wordOf_18 : decode cX12_wordOf 18 = .ok (.if_icmp .ne 86, 3) := by decide +kernel
theorem dX12_wordOf_21 : decode cX12_wordOf 21 = .ok (.lconst 0, 1) := by decide +kernel
theorem dX12_wordOf_22 : decode cX12_wordOf 22 = .ok (.lstore 4, 2) := by decide +kernel
theorem dX12_wordOf_24 : decode cX12_wordOf 24 = .ok (.iconst 0, 1) := by decide +kernel
theorem dX12_wordOf_25 : decode cX12_wordOf 25 = .ok (.istore 6, 2) := by decide +kernel
theorem dX12_wordOf_27 : decode cX12_wordOf 27 = .ok (.iload 6, 2) := by decide +kernel
theorem dX12_wordOf_29 : decode cX12_wordOf 29 = .ok (.bipush 8, 2) := by decide +kernel
theorem dX12_wordOf_31 : decode cX12_wordOf 31 = .ok (.if_icmp .ge 51, 3) := by decide +kernel
theorem dX12_wordOf_34 : decode cX12_wordOf 34 = .ok (.aload_n 1, 1) := by decide +kernel
theorem dX12_wordOf_35 : decode cX12_wordOf 35 = .ok (.bipush 8, 2) := by decide +kernel
theorem dX12_wordOf_37 : decode cX12_wordOf 37 = .ok (.iload_n 3, 1) := by decide +kernel
theorem dX12_wordOf_38 : decode cX12_wordOf 38 = .ok (.imul, 1) := by decide +kernel
theorem dX12_wordOf_39 : decode cX12_wordOf 39 = .ok (.iload 6, 2) := by decide +kernel
theorem dX12_wordOf_41 : decode cX12_wordOf 41 = .ok (.iadd, 1) := by decide +kernel
theorem dX12_wordOf_42 : decode cX12_wordOf 42 = .ok (.caload, 1) := by decide +kernel
theorem dX12_wordOf_43 : decode cX12_wordOf 43 = .ok (.bipush 32, 2) := by decide +kernel
theorem dX12_wordOf_45 : decode cX12_wordOf 45 = .ok (.if_icmp .ne 8, 3) := by decide +kernel
theorem dX12_wordOf_48 : decode cX12_wordOf 48 = .ok (.lload 4, 2) := by decide +kernel
theorem dX12_wordOf_50 : decode cX12_wordOf 50 = .ok (.goto 24, 3) := by decide +kernel
theorem dX12_wordOf_53 : decode cX12_wordOf 53 = .ok (.lload 4, 2) := by decide +kernel
theorem dX12_wordOf_55 : decode cX12_wordOf 55 = .ok (.ldc2_w 176, 3) := by decide +kernel
theorem dX12_wordOf_58 : decode cX12_wordOf 58 = .ok (.lmul, 1) := by decide +kernel
theorem dX12_wordOf_59 : decode cX12_wordOf 59 = .ok (.aload_n 1, 1) := by decide +kernel
theorem dX12_wordOf_60 : decode cX12_wordOf 60 = .ok (.bipush 8, 2) := by decide +kernel
theorem dX12_wordOf_62 : decode cX12_wordOf 62 = .ok (.iload_n 3, 1) := by decide +kernel
theorem dX12_wordOf_63 : decode cX12_wordOf 63 = .ok (.imul, 1) := by decide +kernel
theorem dX12_wordOf_64 : decode cX12_wordOf 64 = .ok (.iload 6, 2) := by decide +kernel
theorem dX12_wordOf_66 : decode cX12_wordOf 66 = .ok (.iadd, 1) := by decide +kernel
theorem dX12_wordOf_67 : decode cX12_wordOf 67 = .ok (.caload, 1) := by decide +kernel
theorem dX12_wordOf_68 : decode cX12_wordOf 68 = .ok (.i2l, 1) := by decide +kernel
theorem dX12_wordOf_69 : decode cX12_wordOf 69 = .ok (.ladd, 1) := by decide +kernel
theorem dX12_wordOf_70 : decode cX12_wordOf 70 = .ok (.ldc2_w 178, 3) := by decide +kernel
theorem dX12_wordOf_73 : decode cX12_wordOf 73 = .ok (.lsub, 1) := by decide +kernel
theorem dX12_wordOf_74 : decode cX12_wordOf 74 = .ok (.lstore 4, 2) := by decide +kernel
theorem dX12_wordOf_76 : decode cX12_wordOf 76 = .ok (.iinc 6 1, 3) := by decide +kernel
theorem dX12_wordOf_79 : decode cX12_wordOf 79 = .ok (.goto (-52), 3) := by decide +kernel
theorem dX12_wordOf_82 : decode cX12_wordOf 82 = .ok (.lload 4, 2) := by decide +kernel
theorem dX12_wordOf_84 : decode cX12_wordOf 84 = .ok (.aload_n 0, 1) := by decide +kernel
theorem dX12_wordOf_85 : decode cX12_wordOf 85 = .ok (.getfield 164, 3) := by decide +kernel
theorem dX12_wordOf_88 : decode cX12_wordOf 88 = .ok (.lcmp, 1) := by decide +kernel
theorem dX12_wordOf_89 : decode cX12_wordOf 89 = .ok (.ifCond .ne 7, 3) := by decide +kernel
theorem dX12_wordOf_92 : decode cX12_wordOf 92 = .ok (.iload_n 3, 1) := by decide +kernel
theorem dX12_wordOf_93 : decode cX12_wordOf 93 = .ok (.goto 4, 3) := by decide +kernel
theorem dX12_wordOf_96 : decode cX12_wordOf 96 = .ok (.iload_n 2, 1) := by decide +kernel
theorem dX12_wordOf_97 : decode cX12_wordOf 97 = .ok (.istore_n 2, 1) := by decide +kernel
theorem dX12_wordOf_98 : decode cX12_wordOf 98 = .ok (.iinc 3 1, 3) := by decide +kernel
theorem dX12_wordOf_101 : decode cX12_wordOf 101 = .ok (.goto (-97), 3) := by decide +kernel
theorem dX12_wordOf_104 : decode cX12_wordOf 104 = .ok (.iload_n 2, 1) := by decide +kernel
theorem dX12_wordOf_105 : decode cX12_wordOf 105 = .ok (.ireturn, 1) := by decide +kernel
theorem dX12_takesNumber_0 : decode cX12_takesNumber 0 = .ok (.aload_n 0, 1) := by decide +kernel
theorem dX12_takesNumber_1 : decode cX12_takesNumber 1 = .ok (.getfield 168, 3) := by decide +kernel
theorem dX12_takesNumber_4 : decode cX12_takesNumber 4 = .ok (.iconst 2, 1) := by decide +kernel
theorem dX12_takesNumber_5 : decode cX12_takesNumber 5 = .ok (.if_icmp .ne 24, 3) := by decide +kernel
theorem dX12_takesNumber_8 : decode cX12_takesNumber 8 = .ok (.aload_n 0, 1) := by decide +kernel
theorem dX12_takesNumber_9 : decode cX12_takesNumber 9 = .ok (.getfield 164, 3) := by decide +kernel
theorem dX12_takesNumber_12 : decode cX12_takesNumber 12 = .ok (.l2i, 1) := by decide +kernel
theorem dX12_takesNumber_13 : decode cX12_takesNumber 13 = .ok (.iload_n 1, 1) := by decide +kernel
theorem dX12_takesNumber_14 : decode cX12_takesNumber 14 = .ok (.iload_n 2, 1) := by decide +kernel
theorem dX12_takesNumber_15 : decode cX12_takesNumber 15 = .ok (.invokestatic 52, 3) := by decide +kernel
theorem dX12_takesNumber_18 : decode cX12_takesNumber 18 = .ok (.ifCond .eq 11, 3) := by decide +kernel
theorem dX12_takesNumber_21 : decode cX12_takesNumber 21 = .ok (.aload_n 0, 1) := by decide +kernel
theorem dX12_takesNumber_22 : decode cX12_takesNumber 22 = .ok (.getfield 164, 3) := by decide +kernel
theorem dX12_takesNumber_25 : decode cX12_takesNumber 25 = .ok (.l2i, 1) := by decide +kernel
theorem dX12_takesNumber_26 : decode cX12_takesNumber 26 = .ok (.goto 4, 3) := by decide +kernel
theorem dX12_takesNumber_29 : decode cX12_takesNumber 29 = .ok (.iconst (-1), 1) := by decide +kernel
theorem dX12_takesNumber_30 : decode cX12_takesNumber 30 = .ok (.istore_n 3, 1) := by decide +kernel
theorem dX12_takesNumber_31 : decode cX12_takesNumber 31 = .ok (.iload_n 3, 1) := by decide +kernel
theorem dX12_takesNumber_32 : decode cX12_takesNumber 32 = .ok (.ifCond .lt 7, 3) := by decide +kernel
theorem dX12_takesNumber_35 : decode cX12_takesNumber 35 = .ok (.aload_n 0, 1) := by decide +kernel
theorem dX12_takesNumber_36 : decode cX12_takesNumber 36 = .ok (.invokevirtual 189, 3) := by decide +kernel
theorem dX12_takesNumber_39 : decode cX12_takesNumber 39 = .ok (.iload_n 3, 1) := by decide +kernel
theorem dX12_takesNumber_40 : decode cX12_takesNumber 40 = .ok (.ireturn, 1) := by decide +kernel
theorem dX12_readsPerson_0 : decode cX12_readsPerson 0 = .ok (.aload_n 0, 1) := by decide +kernel
theorem dX12_readsPerson_1 : decode cX12_readsPerson 1 = .ok (.getfield 9, 3) := by decide +kernel
theorem dX12_readsPerson_4 : decode cX12_readsPerson 4 = .ok (.iconst 4, 1) := by decide +kernel
theorem dX12_readsPerson_5 : decode cX12_readsPerson 5 = .ok (.iaload, 1) := by decide +kernel
theorem dX12_readsPerson_6 : decode cX12_readsPerson 6 = .ok (.bipush 10, 2) := by decide +kernel
theorem dX12_readsPerson_8 : decode cX12_readsPerson 8 = .ok (.if_icmp .ne 5, 3) := by decide +kernel
theorem dX12_readsPerson_11 : decode cX12_readsPerson 11 = .ok (.iconst 0, 1) := by decide +kernel
theorem dX12_readsPerson_12 : decode cX12_readsPerson 12 = .ok (.ireturn, 1) := by decide +kernel
theorem dX12_readsPerson_13 : decode cX12_readsPerson 13 = .ok (.aload_n 0, 1) := by decide +kernel
theorem dX12_readsPerson_14 : decode cX12_readsPerson 14 = .ok (.invokevirtual 189, 3) := by decide +kernel
theorem dX12_readsPerson_17 : decode cX12_readsPerson 17 = .ok (.aload_n 0, 1) := by decide +kernel
theorem dX12_readsPerson_18 : decode cX12_readsPerson 18 = .ok (.aload_n 0, 1) := by decide +kernel
theorem dX12_readsPerson_19 : decode cX12_readsPerson 19 = .ok (.getfield 29, 3) := by decide +kernel
theorem dX12_readsPerson_22 : decode cX12_readsPerson 22 = .ok (.invokevirtual 192, 3) := by decide +kernel
theorem dX12_readsPerson_25 : decode cX12_readsPerson 25 = .ok (.istore_n 2, 1) := by decide +kernel
theorem dX12_readsPerson_26 : decode cX12_readsPerson 26 = .ok (.iload_n 2, 1) := by decide +kernel
theorem dX12_readsPerson_27 : decode cX12_readsPerson 27 = .ok (.ifCond .ge 5, 3) := by decide +kernel
theorem dX12_readsPerson_30 : decode cX12_readsPerson 30 = .ok (.iconst 0, 1) := by decide +kernel
theorem dX12_readsPerson_31 : decode cX12_readsPerson 31 = .ok (.ireturn, 1) := by decide +kernel
theorem dX12_readsPerson_32 : decode cX12_readsPerson 32 = .ok (.aload_n 0, 1) := by decide +kernel
theorem dX12_readsPerson_33 : decode cX12_readsPerson 33 = .ok (.invokevirtual 189, 3) := by decide +kernel
theorem dX12_readsPerson_36 : decode cX12_readsPerson 36 = .ok (.aload_n 0, 1) := by decide +kernel
theorem dX12_readsPerson_37 : decode cX12_readsPerson 37 = .ok (.getfield 9, 3) := by decide +kernel
theorem dX12_readsPerson_40 : decode cX12_readsPerson 40 = .ok (.iconst 4, 1) := by decide +kernel
theorem dX12_readsPerson_41 : decode cX12_readsPerson 41 = .ok (.iaload, 1) := by decide +kernel
theorem dX12_readsPerson_42 : decode cX12_readsPerson 42 = .ok (.istore_n 3, 1) := by decide +kernel
theorem dX12_readsPerson_43 : decode cX12_readsPerson 43 = .ok (.aload_n 0, 1) := by decide +kernel
theorem dX12_readsPerson_44 : decode cX12_readsPerson 44 = .ok (.iload_n 1, 1) := by decide +kernel
theorem dX12_readsPerson_45 : decode cX12_readsPerson 45 = .ok (.iload_n 2, 1) := by decide +kernel
theorem dX12_readsPerson_46 : decode cX12_readsPerson 46 = .ok (.invokevirtual 130, 3) := by decide +kernel
theorem dX12_readsPerson_49 : decode cX12_readsPerson 49 = .ok (.aload_n 0, 1) := by decide +kernel
theorem dX12_readsPerson_50 : decode cX12_readsPerson 50 = .ok (.aload_n 0, 1) := by decide +kernel
theorem dX12_readsPerson_51 : decode cX12_readsPerson 51 = .ok (.getfield 32, 3) := by decide +kernel
theorem dX12_readsPerson_54 : decode cX12_readsPerson 54 = .ok (.invokevirtual 192, 3) := by decide +kernel
theorem dX12_readsPerson_57 : decode cX12_readsPerson 57 = .ok (.iconst 1, 1) := by decide +kernel
theorem dX12_readsPerson_58 : decode cX12_readsPerson 58 = .ok (.if_icmp .ne 31, 3) := by decide +kernel
theorem dX12_readsPerson_61 : decode cX12_readsPerson 61 = .ok (.aload_n 0, 1) := by decide +kernel
theorem dX12_readsPerson_62 : decode cX12_readsPerson 62 = .ok (.invokevirtual 189, 3) := by decide +kernel
theorem dX12_readsPerson_65 : decode cX12_readsPerson 65 = .ok (.aload_n 0, 1) := by decide +kernel
theorem dX12_readsPerson_66 : decode cX12_readsPerson 66 = .ok (.iconst 1, 1) := by decide +kernel
theorem dX12_readsPerson_67 : decode cX12_readsPerson 67 = .ok (.bipush 20, 2) := by decide +kernel
theorem dX12_readsPerson_69 : decode cX12_readsPerson 69 = .ok (.invokevirtual 196, 3) := by decide +kernel
theorem dX12_readsPerson_72 : decode cX12_readsPerson 72 = .ok (.istore 4, 2) := by decide +kernel
theorem dX12_readsPerson_74 : decode cX12_readsPerson 74 = .ok (.iload 4, 2) := by decide +kernel
theorem dX12_readsPerson_76 : decode cX12_readsPerson 76 = .ok (.ifCond .ge 5, 3) := by decide +kernel
theorem dX12_readsPerson_79 : decode cX12_readsPerson 79 = .ok (.iconst 0, 1) := by decide +kernel
theorem dX12_readsPerson_80 : decode cX12_readsPerson 80 = .ok (.ireturn, 1) := by decide +kernel
theorem dX12_readsPerson_81 : decode cX12_readsPerson 81 = .ok (.aload_n 0, 1) := by decide +kernel
theorem dX12_readsPerson_82 : decode cX12_readsPerson 82 = .ok (.iload_n 3, 1) := by decide +kernel
theorem dX12_readsPerson_83 : decode cX12_readsPerson 83 = .ok (.iconst 4, 1) := by decide +kernel
theorem dX12_readsPerson_84 : decode cX12_readsPerson 84 = .ok (.iload 4, 2) := by decide +kernel
theorem dX12_readsPerson_86 : decode cX12_readsPerson 86 = .ok (.invokevirtual 88, 3) := by decide +kernel
theorem dX12_readsPerson_89 : decode cX12_readsPerson 89 = .ok (.aload_n 0, 1) := by decide +kernel
theorem dX12_readsPerson_90 : decode cX12_readsPerson 90 = .ok (.aload_n 0, 1) := by decide +kernel
theorem dX12_readsPerson_91 : decode cX12_readsPerson 91 = .ok (.getfield 32, 3) := by decide +kernel
theorem dX12_readsPerson_94 : decode cX12_readsPerson 94 = .ok (.invokevirtual 192, 3) := by decide +kernel
theorem dX12_readsPerson_97 : decode cX12_readsPerson 97 = .ok (.ifCond .ne 31, 3) := by decide +kernel
theorem dX12_readsPerson_100 : decode cX12_readsPerson 100 = .ok (.aload_n 0, 1) := by decide +kernel
theorem dX12_readsPerson_101 : decode cX12_readsPerson 101 = .ok (.invokevirtual 189, 3) := by decide +kernel
theorem dX12_readsPerson_104 : decode cX12_readsPerson 104 = .ok (.aload_n 0, 1) := by decide +kernel
theorem dX12_readsPerson_105 : decode cX12_readsPerson 105 = .ok (.iconst 0, 1) := by decide +kernel
theorem dX12_readsPerson_106 : decode cX12_readsPerson 106 = .ok (.bipush 99, 2) := by decide +kernel
theorem dX12_readsPerson_108 : decode cX12_readsPerson 108 = .ok (.invokevirtual 196, 3) := by decide +kernel
theorem dX12_readsPerson_111 : decode cX12_readsPerson 111 = .ok (.istore 4, 2) := by decide +kernel
theorem dX12_readsPerson_113 : decode cX12_readsPerson 113 = .ok (.iload 4, 2) := by decide +kernel
theorem dX12_readsPerson_115 : decode cX12_readsPerson 115 = .ok (.ifCond .ge 5, 3) := by decide +kernel
theorem dX12_readsPerson_118 : decode cX12_readsPerson 118 = .ok (.iconst 0, 1) := by decide +kernel
theorem dX12_readsPerson_119 : decode cX12_readsPerson 119 = .ok (.ireturn, 1) := by decide +kernel
theorem dX12_readsPerson_120 : decode cX12_readsPerson 120 = .ok (.aload_n 0, 1) := by decide +kernel
theorem dX12_readsPerson_121 : decode cX12_readsPerson 121 = .ok (.iload_n 3, 1) := by decide +kernel
theorem dX12_readsPerson_122 : decode cX12_readsPerson 122 = .ok (.iconst 3, 1) := by decide +kernel
theorem dX12_readsPerson_123 : decode cX12_readsPerson 123 = .ok (.iload 4, 2) := by decide +kernel
theorem dX12_readsPerson_125 : decode cX12_readsPerson 125 = .ok (.invokevirtual 88, 3) := by decide +kernel
theorem dX12_readsPerson_128 : decode cX12_readsPerson 128 = .ok (.aload_n 0, 1) := by decide +kernel
theorem dX12_readsPerson_129 : decode cX12_readsPerson 129 = .ok (.aload_n 0, 1) := by decide +kernel
theorem dX12_readsPerson_130 : decode cX12_readsPerson 130 = .ok (.getfield 32, 3) := by decide +kernel
theorem dX12_readsPerson_133 : decode cX12_readsPerson 133 = .ok (.invokevirtual 192, 3) := by decide +kernel
theorem dX12_readsPerson_136 : decode cX12_readsPerson 136 = .ok (.iconst 2, 1) := by decide +kernel
theorem dX12_readsPerson_137 : decode cX12_readsPerson 137 = .ok (.if_icmp .ne 14, 3) := by decide +kernel
theorem dX12_readsPerson_140 : decode cX12_readsPerson 140 = .ok (.aload_n 0, 1) := by decide +kernel
theorem dX12_readsPerson_141 : decode cX12_readsPerson 141 = .ok (.invokevirtual 189, 3) := by decide +kernel
theorem dX12_readsPerson_144 : decode cX12_readsPerson 144 = .ok (.aload_n 0, 1) := by decide +kernel
theorem dX12_readsPerson_145 : decode cX12_readsPerson 145 = .ok (.iload_n 3, 1) := by decide +kernel
theorem dX12_readsPerson_146 : decode cX12_readsPerson 146 = .ok (.iconst 2, 1) := by decide +kernel
theorem dX12_readsPerson_147 : decode cX12_readsPerson 147 = .ok (.iconst 1, 1) := by decide +kernel
theorem dX12_readsPerson_148 : decode cX12_readsPerson 148 = .ok (.invokevirtual 88, 3) := by decide +kernel
theorem dX12_readsPerson_151 : decode cX12_readsPerson 151 = .ok (.iconst 1, 1) := by decide +kernel
theorem dX12_readsPerson_152 : decode cX12_readsPerson 152 = .ok (.ireturn, 1) := by decide +kernel
theorem dX12_readsWeek_0 : decode cX12_readsWeek 0 = .ok (.aload_n 0, 1) := by decide +kernel
theorem dX12_readsWeek_1 : decode cX12_readsWeek 1 = .ok (.iconst 0, 1) := by decide +kernel
theorem dX12_readsWeek_2 : decode cX12_readsWeek 2 = .ok (.bipush 7, 2) := by decide +kernel
theorem dX12_readsWeek_4 : decode cX12_readsWeek 4 = .ok (.invokevirtual 196, 3) := by decide +kernel
theorem dX12_readsWeek_7 : decode cX12_readsWeek 7 = .ok (.istore_n 2, 1) := by decide +kernel
theorem dX12_readsWeek_8 : decode cX12_readsWeek 8 = .ok (.iload_n 2, 1) := by decide +kernel
theorem dX12_readsWeek_9 : decode cX12_readsWeek 9 = .ok (.ifCond .lt 38, 3) := by decide +kernel
theorem dX12_readsWeek_12 : decode cX12_readsWeek 12 = .ok (.aload_n 0, 1) := by decide +kernel
theorem dX12_readsWeek_13 : decode cX12_readsWeek 13 = .ok (.getfield 9, 3) := by decide +kernel
theorem dX12_readsWeek_16 : decode cX12_readsWeek 16 = .ok (.iconst 3, 1) := by decide +kernel
theorem dX12_readsWeek_17 : decode cX12_readsWeek 17 = .ok (.iload_n 1, 1) := by decide +kernel
theorem dX12_readsWeek_18 : decode cX12_readsWeek 18 = .ok (.ifCond .eq 16, 3) := by decide +kernel
theorem dX12_readsWeek_21 : decode cX12_readsWeek 21 = .ok (.aload_n 0, 1) := by decide +kernel
theorem dX12_readsWeek_22 : decode cX12_readsWeek 22 = .ok (.getfield 9, 3) := by decide +kernel
theorem dX12_readsWeek_25 : decode cX12_readsWeek 25 = .ok (.iconst 3, 1) := by decide +kernel
theorem dX12_readsWeek_26 : decode cX12_readsWeek 26 = .ok (.iaload, 1) := by decide +kernel
theorem dX12_readsWeek_27 : decode cX12_readsWeek 27 = .ok (.iconst 1, 1) := by decide +kernel
theorem dX12_readsWeek_28 : decode cX12_readsWeek 28 = .ok (.iload_n 2, 1) := by decide +kernel
theorem dX12_readsWeek_29 : decode cX12_readsWeek 29 = .ok (.ishl, 1) := by decide +kernel
theorem dX12_readsWeek_30 : decode cX12_readsWeek 30 = .ok (.ior, 1) := by decide +kernel
theorem dX12_readsWeek_31 : decode cX12_readsWeek 31 = .ok (.goto 15, 3) := by decide +kernel
theorem dX12_readsWeek_34 : decode cX12_readsWeek 34 = .ok (.aload_n 0, 1) := by decide +kernel
theorem dX12_readsWeek_35 : decode cX12_readsWeek 35 = .ok (.getfield 9, 3) := by decide +kernel
theorem dX12_readsWeek_38 : decode cX12_readsWeek 38 = .ok (.iconst 3, 1) := by decide +kernel
theorem dX12_readsWeek_39 : decode cX12_readsWeek 39 = .ok (.iaload, 1) := by decide +kernel
theorem dX12_readsWeek_40 : decode cX12_readsWeek 40 = .ok (.iconst 1, 1) := by decide +kernel
theorem dX12_readsWeek_41 : decode cX12_readsWeek 41 = .ok (.iload_n 2, 1) := by decide +kernel
theorem dX12_readsWeek_42 : decode cX12_readsWeek 42 = .ok (.ishl, 1) := by decide +kernel
theorem dX12_readsWeek_43 : decode cX12_readsWeek 43 = .ok (.iconst (-1), 1) := by decide +kernel
theorem dX12_readsWeek_44 : decode cX12_readsWeek 44 = .ok (.ixor, 1) := by decide +kernel
theorem dX12_readsWeek_45 : decode cX12_readsWeek 45 = .ok (.iand, 1) := by decide +kernel
theorem dX12_readsWeek_46 : decode cX12_readsWeek 46 = .ok (.iastore, 1) := by decide +kernel
theorem dX12_readsWeek_47 : decode cX12_readsWeek 47 = .ok (.iload_n 2, 1) := by decide +kernel
theorem dX12_readsWeek_48 : decode cX12_readsWeek 48 = .ok (.ifCond .lt 7, 3) := by decide +kernel
theorem dX12_readsWeek_51 : decode cX12_readsWeek 51 = .ok (.iconst 1, 1) := by decide +kernel
theorem dX12_readsWeek_52 : decode cX12_readsWeek 52 = .ok (.goto 4, 3) := by decide +kernel
theorem dX12_readsWeek_55 : decode cX12_readsWeek 55 = .ok (.iconst 0, 1) := by decide +kernel
theorem dX12_readsWeek_56 : decode cX12_readsWeek 56 = .ok (.ireturn, 1) := by decide +kernel
theorem dX12_readsKnot_0 : decode cX12_readsKnot 0 = .ok (.aload_n 0, 1) := by decide +kernel
theorem dX12_readsKnot_1 : decode cX12_readsKnot 1 = .ok (.aload_n 0, 1) := by decide +kernel
theorem dX12_readsKnot_2 : decode cX12_readsKnot 2 = .ok (.getfield 29, 3) := by decide +kernel
theorem dX12_readsKnot_5 : decode cX12_readsKnot 5 = .ok (.invokevirtual 192, 3) := by decide +kernel
theorem dX12_readsKnot_8 : decode cX12_readsKnot 8 = .ok (.istore_n 1, 1) := by decide +kernel
theorem dX12_readsKnot_9 : decode cX12_readsKnot 9 = .ok (.iload_n 1, 1) := by decide +kernel
theorem dX12_readsKnot_10 : decode cX12_readsKnot 10 = .ok (.ifCond .ge 5, 3) := by decide +kernel
theorem dX12_readsKnot_13 : decode cX12_readsKnot 13 = .ok (.iconst 0, 1) := by decide +kernel
theorem dX12_readsKnot_14 : decode cX12_readsKnot 14 = .ok (.ireturn, 1) := by decide +kernel
theorem dX12_readsKnot_15 : decode cX12_readsKnot 15 = .ok (.aload_n 0, 1) := by decide +kernel
theorem dX12_readsKnot_16 : decode cX12_readsKnot 16 = .ok (.invokevirtual 189, 3) := by decide +kernel
theorem dX12_readsKnot_19 : decode cX12_readsKnot 19 = .ok (.aload_n 0, 1) := by decide +kernel
theorem dX12_readsKnot_20 : decode cX12_readsKnot 20 = .ok (.iconst 0, 1) := by decide +kernel
theorem dX12_readsKnot_21 : decode cX12_readsKnot 21 = .ok (.sipush 9999, 3) := by decide +kernel
theorem dX12_readsKnot_24 : decode cX12_readsKnot 24 = .ok (.invokevirtual 196, 3) := by decide +kernel
theorem dX12_readsKnot_27 : decode cX12_readsKnot 27 = .ok (.istore_n 2, 1) := by decide +kernel
theorem dX12_readsKnot_28 : decode cX12_readsKnot 28 = .ok (.aload_n 0, 1) := by decide +kernel
theorem dX12_readsKnot_29 : decode cX12_readsKnot 29 = .ok (.getfield 9, 3) := by decide +kernel
theorem dX12_readsKnot_32 : decode cX12_readsKnot 32 = .ok (.iconst 1, 1) := by decide +kernel
theorem dX12_readsKnot_33 : decode cX12_readsKnot 33 = .ok (.iload_n 2, 1) := by decide +kernel
theorem dX12_readsKnot_34 : decode cX12_readsKnot 34 = .ok (.ifCond .ge 12, 3) := by decide +kernel
theorem dX12_readsKnot_37 : decode cX12_readsKnot 37 = .ok (.aload_n 0, 1) := by decide +kernel
theorem dX12_readsKnot_38 : decode cX12_readsKnot 38 = .ok (.getfield 9, 3) := by decide +kernel
theorem dX12_readsKnot_41 : decode cX12_readsKnot 41 = .ok (.iconst 1, 1) := by decide +kernel
theorem dX12_readsKnot_42 : decode cX12_readsKnot 42 = .ok (.iaload, 1) := by decide +kernel
theorem dX12_readsKnot_43 : decode cX12_readsKnot 43 = .ok (.goto 13, 3) := by decide +kernel
theorem dX12_readsKnot_46 : decode cX12_readsKnot 46 = .ok (.iload_n 1, 1) := by decide +kernel
theorem dX12_readsKnot_47 : decode cX12_readsKnot 47 = .ok (.ifCond .ne 8, 3) := by decide +kernel
theorem dX12_readsKnot_50 : decode cX12_readsKnot 50 = .ok (.iload_n 2, 1) := by decide +kernel
theorem dX12_readsKnot_51 : decode cX12_readsKnot 51 = .ok (.ineg, 1) := by decide +kernel
theorem dX12_readsKnot_52 : decode cX12_readsKnot 52 = .ok (.goto 4, 3) := by decide +kernel
theorem dX12_readsKnot_55 : decode cX12_readsKnot 55 = .ok (.iload_n 2, 1) := by decide +kernel
theorem dX12_readsKnot_56 : decode cX12_readsKnot 56 = .ok (.iastore, 1) := by decide +kernel
theorem dX12_readsKnot_57 : decode cX12_readsKnot 57 = .ok (.iload_n 2, 1) := by decide +kernel
theorem dX12_readsKnot_58 : decode cX12_readsKnot 58 = .ok (.ifCond .lt 7, 3) := by decide +kernel
theorem dX12_readsKnot_61 : decode cX12_readsKnot 61 = .ok (.iconst 1, 1) := by decide +kernel
theorem dX12_readsKnot_62 : decode cX12_readsKnot 62 = .ok (.goto 4, 3) := by decide +kernel
theorem dX12_readsKnot_65 : decode cX12_readsKnot 65 = .ok (.iconst 0, 1) := by decide +kernel
theorem dX12_readsKnot_66 : decode cX12_readsKnot 66 = .ok (.ireturn, 1) := by decide +kernel
theorem dX12_readsItem_0 : decode cX12_readsItem 0 = .ok (.aload_n 0, 1) := by decide +kernel
theorem dX12_readsItem_1 : decode cX12_readsItem 1 = .ok (.aload_n 0, 1) := by decide +kernel
theorem dX12_readsItem_2 : decode cX12_readsItem 2 = .ok (.getfield 25, 3) := by decide +kernel
theorem dX12_readsItem_5 : decode cX12_readsItem 5 = .ok (.invokevirtual 192, 3) := by decide +kernel
theorem dX12_readsItem_8 : decode cX12_readsItem 8 = .ok (.istore_n 1, 1) := by decide +kernel
theorem dX12_readsItem_9 : decode cX12_readsItem 9 = .ok (.iload_n 1, 1) := by decide +kernel
theorem dX12_readsItem_10 : decode cX12_readsItem 10 = .ok (.ifCond .lt 9, 3) := by decide +kernel
theorem dX12_readsItem_13 : decode cX12_readsItem 13 = .ok (.aload_n 0, 1) := by decide +kernel
theorem dX12_readsItem_14 : decode cX12_readsItem 14 = .ok (.iload_n 1, 1) := by decide +kernel
theorem dX12_readsItem_15 : decode cX12_readsItem 15 = .ok (.invokevirtual 199, 3) := by decide +kernel
theorem dX12_readsItem_18 : decode cX12_readsItem 18 = .ok (.ireturn, 1) := by decide +kernel
theorem dX12_readsItem_19 : decode cX12_readsItem 19 = .ok (.aload_n 0, 1) := by decide +kernel
theorem dX12_readsItem_20 : decode cX12_readsItem 20 = .ok (.aload_n 0, 1) := by decide +kernel
theorem dX12_readsItem_21 : decode cX12_readsItem 21 = .ok (.getfield 35, 3) := by decide +kernel
theorem dX12_readsItem_24 : decode cX12_readsItem 24 = .ok (.invokevirtual 192, 3) := by decide +kernel
theorem dX12_readsItem_27 : decode cX12_readsItem 27 = .ok (.istore_n 2, 1) := by decide +kernel
theorem dX12_readsItem_28 : decode cX12_readsItem 28 = .ok (.iload_n 2, 1) := by decide +kernel
theorem dX12_readsItem_29 : decode cX12_readsItem 29 = .ok (.ifCond .ge 5, 3) := by decide +kernel
theorem dX12_readsItem_32 : decode cX12_readsItem 32 = .ok (.iconst 0, 1) := by decide +kernel
theorem dX12_readsItem_33 : decode cX12_readsItem 33 = .ok (.ireturn, 1) := by decide +kernel
theorem dX12_readsItem_34 : decode cX12_readsItem 34 = .ok (.aload_n 0, 1) := by decide +kernel
theorem dX12_readsItem_35 : decode cX12_readsItem 35 = .ok (.invokevirtual 189, 3) := by decide +kernel
theorem dX12_readsItem_38 : decode cX12_readsItem 38 = .ok (.iload_n 2, 1) := by decide +kernel
theorem dX12_readsItem_39 : decode cX12_readsItem 39 = .ok (.iconst 2, 1) := by decide +kernel
theorem dX12_readsItem_40 : decode cX12_readsItem 40 = .ok (.if_icmp .ge 18, 3) := by decide +kernel
theorem dX12_readsItem_43 : decode cX12_readsItem 43 = .ok (.aload_n 0, 1) := by decide +kernel
theorem dX12_readsItem_44 : decode cX12_readsItem 44 = .ok (.iload_n 2, 1) := by decide +kernel
theorem dX12_readsItem_45 : decode cX12_readsItem 45 = .ok (.iconst 1, 1) := by decide +kernel
theorem dX12_readsItem_46 : decode cX12_readsItem 46 = .ok (.if_icmp .ne 7, 3) := by decide +kernel
theorem dX12_readsItem_49 : decode cX12_readsItem 49 = .ok (.iconst 1, 1) := by decide +kernel
theorem dX12_readsItem_50 : decode cX12_readsItem 50 = .ok (.goto 4, 3) := by decide +kernel
theorem dX12_readsItem_53 : decode cX12_readsItem 53 = .ok (.iconst 0, 1) := by decide +kernel
theorem dX12_readsItem_54 : decode cX12_readsItem 54 = .ok (.invokevirtual 202, 3) := by decide +kernel
theorem dX12_readsItem_57 : decode cX12_readsItem 57 = .ok (.ireturn, 1) := by decide +kernel
theorem dX12_readsItem_58 : decode cX12_readsItem 58 = .ok (.iload_n 2, 1) := by decide +kernel
theorem dX12_readsItem_59 : decode cX12_readsItem 59 = .ok (.iconst 2, 1) := by decide +kernel
theorem dX12_readsItem_60 : decode cX12_readsItem 60 = .ok (.if_icmp .ne 8, 3) := by decide +kernel
theorem dX12_readsItem_63 : decode cX12_readsItem 63 = .ok (.aload_n 0, 1) := by decide +kernel
theorem dX12_readsItem_64 : decode cX12_readsItem 64 = .ok (.invokevirtual 206, 3) := by decide +kernel
theorem dX12_readsItem_67 : decode cX12_readsItem 67 = .ok (.ireturn, 1) := by decide +kernel
theorem dX12_readsItem_68 : decode cX12_readsItem 68 = .ok (.aload_n 0, 1) := by decide +kernel
theorem dX12_readsItem_69 : decode cX12_readsItem 69 = .ok (.iconst 0, 1) := by decide +kernel
theorem dX12_readsItem_70 : decode cX12_readsItem 70 = .ok (.bipush 99, 2) := by decide +kernel
theorem dX12_readsItem_72 : decode cX12_readsItem 72 = .ok (.invokevirtual 196, 3) := by decide +kernel
theorem dX12_readsItem_75 : decode cX12_readsItem 75 = .ok (.istore_n 3, 1) := by decide +kernel
theorem dX12_readsItem_76 : decode cX12_readsItem 76 = .ok (.aload_n 0, 1) := by decide +kernel
theorem dX12_readsItem_77 : decode cX12_readsItem 77 = .ok (.getfield 9, 3) := by decide +kernel
theorem dX12_readsItem_80 : decode cX12_readsItem 80 = .ok (.iconst 2, 1) := by decide +kernel
theorem dX12_readsItem_81 : decode cX12_readsItem 81 = .ok (.iload_n 3, 1) := by decide +kernel
theorem dX12_readsItem_82 : decode cX12_readsItem 82 = .ok (.ifCond .ge 12, 3) := by decide +kernel
theorem dX12_readsItem_85 : decode cX12_readsItem 85 = .ok (.aload_n 0, 1) := by decide +kernel
theorem dX12_readsItem_86 : decode cX12_readsItem 86 = .ok (.getfield 9, 3) := by decide +kernel
theorem dX12_readsItem_89 : decode cX12_readsItem 89 = .ok (.iconst 2, 1) := by decide +kernel
theorem dX12_readsItem_90 : decode cX12_readsItem 90 = .ok (.iaload, 1) := by decide +kernel
theorem dX12_readsItem_91 : decode cX12_readsItem 91 = .ok (.goto 4, 3) := by decide +kernel
theorem dX12_readsItem_94 : decode cX12_readsItem 94 = .ok (.iload_n 3, 1) := by decide +kernel
theorem dX12_readsItem_95 : decode cX12_readsItem 95 = .ok (.iastore, 1) := by decide +kernel
theorem dX12_readsItem_96 : decode cX12_readsItem 96 = .ok (.iload_n 3, 1) := by decide +kernel
theorem dX12_readsItem_97 : decode cX12_readsItem 97 = .ok (.ifCond .lt 7, 3) := by decide +kernel
theorem dX12_readsItem_100 : decode cX12_readsItem 100 = .ok (.iconst 1, 1) := by decide +kernel
theorem dX12_readsItem_101 : decode cX12_readsItem 101 = .ok (.goto 4, 3) := by decide +kernel
theorem dX12_readsItem_104 : decode cX12_readsItem 104 = .ok (.iconst 0, 1) := by decide +kernel
theorem dX12_readsItem_105 : decode cX12_readsItem 105 = .ok (.ireturn, 1) := by decide +kernel
theorem dX12_green_0 : decode cX12_green 0 = .ok (.aload_n 0, 1) := by decide +kernel
theorem dX12_green_1 : decode cX12_green 1 = .ok (.invokevirtual 145, 3) := by decide +kernel
theorem dX12_green_4 : decode cX12_green 4 = .ok (.aload_n 0, 1) := by decide +kernel
theorem dX12_green_5 : decode cX12_green 5 = .ok (.iconst 0, 1) := by decide +kernel
theorem dX12_green_6 : decode cX12_green 6 = .ok (.putfield 158, 3) := by decide +kernel
theorem dX12_green_9 : decode cX12_green 9 = .ok (.aload_n 0, 1) := by decide +kernel
theorem dX12_green_10 : decode cX12_green 10 = .ok (.invokevirtual 189, 3) := by decide +kernel
theorem dX12_green_13 : decode cX12_green 13 = .ok (.iconst 1, 1) := by decide +kernel
theorem dX12_green_14 : decode cX12_green 14 = .ok (.istore_n 1, 1) := by decide +kernel
theorem dX12_green_15 : decode cX12_green 15 = .ok (.aload_n 0, 1) := by decide +kernel
theorem dX12_green_16 : decode cX12_green 16 = .ok (.invokevirtual 209, 3) := by decide +kernel
theorem dX12_green_19 : decode cX12_green 19 = .ok (.istore_n 2, 1) := by decide +kernel
theorem dX12_green_20 : decode cX12_green 20 = .ok (.iload_n 2, 1) := by decide +kernel
theorem dX12_green_21 : decode cX12_green 21 = .ok (.ifCond .eq 26, 3) := by decide +kernel
theorem dX12_green_24 : decode cX12_green 24 = .ok (.aload_n 0, 1) := by decide +kernel
theorem dX12_green_25 : decode cX12_green 25 = .ok (.getfield 168, 3) := by decide +kernel
theorem dX12_green_28 : decode cX12_green 28 = .ok (.iconst 3, 1) := by decide +kernel
theorem dX12_green_29 : decode cX12_green 29 = .ok (.if_icmp .ne 18, 3) := by decide +kernel
theorem dX12_green_32 : decode cX12_green 32 = .ok (.aload_n 0, 1) := by decide +kernel
theorem dX12_green_33 : decode cX12_green 33 = .ok (.invokevirtual 189, 3) := by decide +kernel
theorem dX12_green_36 : decode cX12_green 36 = .ok (.aload_n 0, 1) := by decide +kernel
theorem dX12_green_37 : decode cX12_green 37 = .ok (.invokevirtual 209, 3) := by decide +kernel
theorem dX12_green_40 : decode cX12_green 40 = .ok (.istore_n 2, 1) := by decide +kernel
theorem dX12_green_41 : decode cX12_green 41 = .ok (.iinc 1 1, 3) := by decide +kernel
theorem dX12_green_44 : decode cX12_green 44 = .ok (.goto (-24), 3) := by decide +kernel
theorem dX12_green_47 : decode cX12_green 47 = .ok (.iload_n 2, 1) := by decide +kernel
theorem dX12_green_48 : decode cX12_green 48 = .ok (.ifCond .eq 14, 3) := by decide +kernel
theorem dX12_green_51 : decode cX12_green 51 = .ok (.aload_n 0, 1) := by decide +kernel
theorem dX12_green_52 : decode cX12_green 52 = .ok (.getfield 168, 3) := by decide +kernel
theorem dX12_green_55 : decode cX12_green 55 = .ok (.ifCond .ne 7, 3) := by decide +kernel
theorem dX12_green_58 : decode cX12_green 58 = .ok (.iconst 1, 1) := by decide +kernel
theorem dX12_green_59 : decode cX12_green 59 = .ok (.goto 4, 3) := by decide +kernel
theorem dX12_green_62 : decode cX12_green 62 = .ok (.iconst 0, 1) := by decide +kernel
theorem dX12_green_63 : decode cX12_green 63 = .ok (.istore_n 2, 1) := by decide +kernel
theorem dX12_green_64 : decode cX12_green 64 = .ok (.aload_n 0, 1) := by decide +kernel
theorem dX12_green_65 : decode cX12_green 65 = .ok (.iconst 0, 1) := by decide +kernel
theorem dX12_green_66 : decode cX12_green 66 = .ok (.putfield 154, 3) := by decide +kernel
theorem dX12_green_69 : decode cX12_green 69 = .ok (.iload_n 2, 1) := by decide +kernel
theorem dX12_green_70 : decode cX12_green 70 = .ok (.ifCond .ne 14, 3) := by decide +kernel
theorem dX12_green_73 : decode cX12_green 73 = .ok (.aload_n 0, 1) := by decide +kernel
theorem dX12_green_74 : decode cX12_green 74 = .ok (.invokevirtual 112, 3) := by decide +kernel
theorem dX12_green_77 : decode cX12_green 77 = .ok (.iconst (-1), 1) := by decide +kernel
theorem dX12_green_78 : decode cX12_green 78 = .ok (.aload_n 0, 1) := by decide +kernel
theorem dX12_green_79 : decode cX12_green 79 = .ok (.getfield 161, 3) := by decide +kernel
theorem dX12_green_82 : decode cX12_green 82 = .ok (.isub, 1) := by decide +kernel
theorem dX12_green_83 : decode cX12_green 83 = .ok (.ireturn, 1) := by decide +kernel
theorem dX12_green_84 : decode cX12_green 84 = .ok (.iload_n 1, 1) := by decide +kernel
theorem dX12_green_85 : decode cX12_green 85 = .ok (.ireturn, 1) := by decide +kernel
theorem dX12_isSheet_0 : decode cX12_isSheet 0 = .ok (.iload_n 0, 1) := by decide +kernel
theorem dX12_isSheet_1 : decode cX12_isSheet 1 = .ok (.iconst 0, 1) := by decide +kernel
theorem dX12_isSheet_2 : decode cX12_isSheet 2 = .ok (.iconst 3, 1) := by decide +kernel
theorem dX12_isSheet_3 : decode cX12_isSheet 3 = .ok (.invokestatic 52, 3) := by decide +kernel
theorem dX12_isSheet_6 : decode cX12_isSheet 6 = .ok (.ireturn, 1) := by decide +kernel
theorem dX12_wrongSheet_0 : decode cX12_wrongSheet 0 = .ok (.iload_n 1, 1) := by decide +kernel
theorem dX12_wrongSheet_1 : decode cX12_wrongSheet 1 = .ok (.invokestatic 212, 3) := by decide +kernel
theorem dX12_wrongSheet_4 : decode cX12_wrongSheet 4 = .ok (.ifCond .ne 7, 3) := by decide +kernel
theorem dX12_wrongSheet_7 : decode cX12_wrongSheet 7 = .ok (.iconst 0, 1) := by decide +kernel
theorem dX12_wrongSheet_8 : decode cX12_wrongSheet 8 = .ok (.goto 17, 3) := by decide +kernel
theorem dX12_wrongSheet_11 : decode cX12_wrongSheet 11 = .ok (.aload_n 0, 1) := by decide +kernel
theorem dX12_wrongSheet_12 : decode cX12_wrongSheet 12 = .ok (.getfield 38, 3) := by decide +kernel
theorem dX12_wrongSheet_15 : decode cX12_wrongSheet 15 = .ok (.iload_n 1, 1) := by decide +kernel
theorem dX12_wrongSheet_16 : decode cX12_wrongSheet 16 = .ok (.iaload, 1) := by decide +kernel
theorem dX12_wrongSheet_17 : decode cX12_wrongSheet 17 = .ok (.ifCond .ne 7, 3) := by decide +kernel
theorem dX12_wrongSheet_20 : decode cX12_wrongSheet 20 = .ok (.iconst 5, 1) := by decide +kernel
theorem dX12_wrongSheet_21 : decode cX12_wrongSheet 21 = .ok (.goto 4, 3) := by decide +kernel
theorem dX12_wrongSheet_24 : decode cX12_wrongSheet 24 = .ok (.iconst (-1), 1) := by decide +kernel
theorem dX12_wrongSheet_25 : decode cX12_wrongSheet 25 = .ok (.ireturn, 1) := by decide +kernel
theorem dX12_told_0 : decode cX12_told 0 = .ok (.aload_n 0, 1) := by decide +kernel
theorem dX12_told_1 : decode cX12_told 1 = .ok (.getfield 44, 3) := by decide +kernel
theorem dX12_told_4 : decode cX12_told 4 = .ok (.bipush 40, 2) := by decide +kernel
theorem dX12_told_6 : decode cX12_told 6 = .ok (.iload_n 1, 1) := by decide +kernel
theorem dX12_told_7 : decode cX12_told 7 = .ok (.imul, 1) := by decide +kernel
theorem dX12_told_8 : decode cX12_told 8 = .ok (.iload_n 2, 1) := by decide +kernel
theorem dX12_told_9 : decode cX12_told 9 = .ok (.iadd, 1) := by decide +kernel
theorem dX12_told_10 : decode cX12_told 10 = .ok (.laload, 1) := by decide +kernel
theorem dX12_told_11 : decode cX12_told 11 = .ok (.lreturn, 1) := by decide +kernel
theorem dX12_tells_0 : decode cX12_tells 0 = .ok (.aload_n 0, 1) := by decide +kernel
theorem dX12_tells_1 : decode cX12_tells 1 = .ok (.getfield 44, 3) := by decide +kernel
theorem dX12_tells_4 : decode cX12_tells 4 = .ok (.bipush 40, 2) := by decide +kernel
theorem dX12_tells_6 : decode cX12_tells 6 = .ok (.iload_n 1, 1) := by decide +kernel
theorem dX12_tells_7 : decode cX12_tells 7 = .ok (.imul, 1) := by decide +kernel
theorem dX12_tells_8 : decode cX12_tells 8 = .ok (.iload_n 2, 1) := by decide +kernel
theorem dX12_tells_9 : decode cX12_tells 9 = .ok (.iadd, 1) := by decide +kernel
theorem dX12_tells_10 : decode cX12_tells 10 = .ok (.aload_n 0, 1) := by decide +kernel
theorem dX12_tells_11 : decode cX12_tells 11 = .ok (.getfield 38, 3) := by decide +kernel
theorem dX12_tells_14 : decode cX12_tells 14 = .ok (.iload_n 1, 1) := by decide +kernel
theorem dX12_tells_15 : decode cX12_tells 15 = .ok (.iaload, 1) := by decide +kernel
theorem dX12_tells_16 : decode cX12_tells 16 = .ok (.bipush 8, 2) := by decide +kernel
theorem dX12_tells_18 : decode cX12_tells 18 = .ok (.if_icmp .ne 10, 3) := by decide +kernel
theorem dX12_tells_21 : decode cX12_tells 21 = .ok (.lload_n 3, 1) := by decide +kernel
theorem dX12_tells_22 : decode cX12_tells 22 = .ok (.l2i, 1) := by decide +kernel
theorem dX12_tells_23 : decode cX12_tells 23 = .ok (.i2b, 1) := by decide +kernel
theorem dX12_tells_24 : decode cX12_tells 24 = .ok (.i2l, 1) := by decide +kernel
theorem dX12_tells_25 : decode cX12_tells 25 = .ok (.goto 22, 3) := by decide +kernel
theorem dX12_tells_28 : decode cX12_tells 28 = .ok (.aload_n 0, 1) := by decide +kernel
theorem dX12_tells_29 : decode cX12_tells 29 = .ok (.getfield 38, 3) := by decide +kernel
theorem dX12_tells_32 : decode cX12_tells 32 = .ok (.iload_n 1, 1) := by decide +kernel
theorem dX12_tells_33 : decode cX12_tells 33 = .ok (.iaload, 1) := by decide +kernel
theorem dX12_tells_34 : decode cX12_tells 34 = .ok (.bipush 16, 2) := by decide +kernel
theorem dX12_tells_36 : decode cX12_tells 36 = .ok (.if_icmp .ne 10, 3) := by decide +kernel
theorem dX12_tells_39 : decode cX12_tells 39 = .ok (.lload_n 3, 1) := by decide +kernel
theorem dX12_tells_40 : decode cX12_tells 40 = .ok (.l2i, 1) := by decide +kernel
theorem dX12_tells_41 : decode cX12_tells 41 = .ok (.i2s, 1) := by decide +kernel
theorem dX12_tells_42 : decode cX12_tells 42 = .ok (.i2l, 1) := by decide +kernel
theorem dX12_tells_43 : decode cX12_tells 43 = .ok (.goto 4, 3) := by decide +kernel
theorem dX12_tells_46 : decode cX12_tells 46 = .ok (.lload_n 3, 1) := by decide +kernel
theorem dX12_tells_47 : decode cX12_tells 47 = .ok (.lastore, 1) := by decide +kernel
theorem dX12_tells_48 : decode cX12_tells 48 = .ok (.return_, 1) := by decide +kernel
theorem dX12_sheet_0 : decode cX12_sheet 0 = .ok (.iload_n 1, 1) := by decide +kernel
theorem dX12_sheet_1 : decode cX12_sheet 1 = .ok (.invokestatic 212, 3) := by decide +kernel
theorem dX12_sheet_4 : decode cX12_sheet 4 = .ok (.ifCond .eq 25, 3) := by decide +kernel
theorem dX12_sheet_7 : decode cX12_sheet 7 = .ok (.iload_n 2, 1) := by decide +kernel
theorem dX12_sheet_8 : decode cX12_sheet 8 = .ok (.ifCond .eq 27, 3) := by decide +kernel
theorem dX12_sheet_11 : decode cX12_sheet 11 = .ok (.iload_n 2, 1) := by decide +kernel
theorem dX12_sheet_12 : decode cX12_sheet 12 = .ok (.bipush 8, 2) := by decide +kernel
theorem dX12_sheet_14 : decode cX12_sheet 14 = .ok (.if_icmp .eq 21, 3) := by decide +kernel
theorem dX12_sheet_17 : decode cX12_sheet 17 = .ok (.iload_n 2, 1) := by decide +kernel
theorem dX12_sheet_18 : decode cX12_sheet 18 = .ok (.bipush 16, 2) := by decide +kernel
theorem dX12_sheet_20 : decode cX12_sheet 20 = .ok (.if_icmp .eq 15, 3) := by decide +kernel
theorem dX12_sheet_23 : decode cX12_sheet 23 = .ok (.iload_n 2, 1) := by decide +kernel
theorem dX12_sheet_24 : decode cX12_sheet 24 = .ok (.bipush 64, 2) := by decide +kernel
theorem dX12_sheet_26 : decode cX12_sheet 26 = .ok (.if_icmp .eq 9, 3) := by decide +kernel
theorem dX12_sheet_29 : decode cX12_sheet 29 = .ok (.aload_n 0, 1) := by decide +kernel
theorem dX12_sheet_30 : decode cX12_sheet 30 = .ok (.iconst 0, 1) := by decide +kernel
theorem dX12_sheet_31 : decode cX12_sheet 31 = .ok (.invokevirtual 118, 3) := by decide +kernel
theorem dX12_sheet_34 : decode cX12_sheet 34 = .ok (.ireturn, 1) := by decide +kernel
theorem dX12_sheet_35 : decode cX12_sheet 35 = .ok (.iload_n 3, 1) := by decide +kernel
theorem dX12_sheet_36 : decode cX12_sheet 36 = .ok (.ifCond .ge 10, 3) := by decide +kernel
theorem dX12_sheet_39 : decode cX12_sheet 39 = .ok (.aload_n 0, 1) := by decide +kernel
theorem dX12_sheet_40 : decode cX12_sheet 40 = .ok (.bipush 6, 2) := by decide +kernel
theorem dX12_sheet_42 : decode cX12_sheet 42 = .ok (.invokevirtual 118, 3) := by decide +kernel
theorem dX12_sheet_45 : decode cX12_sheet 45 = .ok (.ireturn, 1) := by decide +kernel
theorem dX12_sheet_46 : decode cX12_sheet 46 = .ok (.iload_n 3, 1) := by decide +kernel
theorem dX12_sheet_47 : decode cX12_sheet 47 = .ok (.bipush 40, 2) := by decide +kernel
theorem dX12_sheet_49 : decode cX12_sheet 49 = .ok (.if_icmp .le 9, 3) := by decide +kernel
theorem dX12_sheet_52 : decode cX12_sheet 52 = .ok (.aload_n 0, 1) := by decide +kernel
theorem dX12_sheet_53 : decode cX12_sheet 53 = .ok (.iconst 0, 1) := by decide +kernel
theorem dX12_sheet_54 : decode cX12_sheet 54 = .ok (.invokevirtual 118, 3) := by decide +kernel
theorem dX12_sheet_57 : decode cX12_sheet 57 = .ok (.ireturn, 1) := by decide +kernel
theorem dX12_sheet_58 : decode cX12_sheet 58 = .ok (.aload_n 0, 1) := by decide +kernel
theorem dX12_sheet_59 : decode cX12_sheet 59 = .ok (.getfield 38, 3) := by decide +kernel
theorem dX12_sheet_62 : decode cX12_sheet 62 = .ok (.iload_n 1, 1) := by decide +kernel
theorem dX12_sheet_63 : decode cX12_sheet 63 = .ok (.iload_n 2, 1) := by decide +kernel
theorem dX12_sheet_64 : decode cX12_sheet 64 = .ok (.iastore, 1) := by decide +kernel
theorem dX12_sheet_65 : decode cX12_sheet 65 = .ok (.aload_n 0, 1) := by decide +kernel
theorem dX12_sheet_66 : decode cX12_sheet 66 = .ok (.getfield 41, 3) := by decide +kernel
theorem dX12_sheet_69 : decode cX12_sheet 69 = .ok (.iload_n 1, 1) := by decide +kernel
theorem dX12_sheet_70 : decode cX12_sheet 70 = .ok (.iload_n 2, 1) := by decide +kernel
theorem dX12_sheet_71 : decode cX12_sheet 71 = .ok (.ifCond .ne 7, 3) := by decide +kernel
theorem dX12_sheet_74 : decode cX12_sheet 74 = .ok (.iconst 0, 1) := by decide +kernel
theorem dX12_sheet_75 : decode cX12_sheet 75 = .ok (.goto 4, 3) := by decide +kernel
theorem dX12_sheet_78 : decode cX12_sheet 78 = .ok (.iload_n 3, 1) := by decide +kernel
theorem dX12_sheet_79 : decode cX12_sheet 79 = .ok (.iastore, 1) := by decide +kernel
theorem dX12_sheet_80 : decode cX12_sheet 80 = .ok (.iconst 0, 1) := by decide +kernel
theorem dX12_sheet_81 : decode cX12_sheet 81 = .ok (.istore 4, 2) := by decide +kernel
theorem dX12_sheet_83 : decode cX12_sheet 83 = .ok (.iload 4, 2) := by decide +kernel
theorem dX12_sheet_85 : decode cX12_sheet 85 = .ok (.bipush 40, 2) := by decide +kernel
theorem dX12_sheet_87 : decode cX12_sheet 87 = .ok (.if_icmp .ge 22, 3) := by decide +kernel
theorem dX12_sheet_90 : decode cX12_sheet 90 = .ok (.aload_n 0, 1) := by decide +kernel
theorem dX12_sheet_91 : decode cX12_sheet 91 = .ok (.getfield 44, 3) := by decide +kernel
theorem dX12_sheet_94 : decode cX12_sheet 94 = .ok (.bipush 40, 2) := by decide +kernel
theorem dX12_sheet_96 : decode cX12_sheet 96 = .ok (.iload_n 1, 1) := by decide +kernel
theorem dX12_sheet_97 : decode cX12_sheet 97 = .ok (.imul, 1) := by decide +kernel
theorem dX12_sheet_98 : decode cX12_sheet 98 = .ok (.iload 4, 2) := by decide +kernel
theorem dX12_sheet_100 : decode cX12_sheet 100 = .ok (.iadd, 1) := by decide +kernel
theorem dX12_sheet_101 : decode cX12_sheet 101 = .ok (.lconst 0, 1) := by decide +kernel
theorem dX12_sheet_102 : decode cX12_sheet 102 = .ok (.lastore, 1) := by decide +kernel
theorem dX12_sheet_103 : decode cX12_sheet 103 = .ok (.iinc 4 1, 3) := by decide +kernel
theorem dX12_sheet_106 : decode cX12_sheet 106 = .ok (.goto (-23), 3) := by decide +kernel
theorem dX12_sheet_109 : decode cX12_sheet 109 = .ok (.aload_n 0, 1) := by decide +kernel
theorem dX12_sheet_110 : decode cX12_sheet 110 = .ok (.getfield 41, 3) := by decide +kernel
theorem dX12_sheet_113 : decode cX12_sheet 113 = .ok (.iload_n 1, 1) := by decide +kernel
theorem dX12_sheet_114 : decode cX12_sheet 114 = .ok (.iaload, 1) := by decide +kernel
theorem dX12_sheet_115 : decode cX12_sheet 115 = .ok (.ireturn, 1) := by decide +kernel
theorem dX12_write_0 : decode cX12_write 0 = .ok (.aload_n 0, 1) := by decide +kernel
theorem dX12_write_1 : decode cX12_write 1 = .ok (.iload_n 1, 1) := by decide +kernel
theorem dX12_write_2 : decode cX12_write 2 = .ok (.invokevirtual 215, 3) := by decide +kernel
theorem dX12_write_5 : decode cX12_write 5 = .ok (.istore 5, 2) := by decide +kernel
theorem dX12_write_7 : decode cX12_write 7 = .ok (.iload 5, 2) := by decide +kernel
theorem dX12_write_9 : decode cX12_write 9 = .ok (.ifCond .ge 22, 3) := by decide +kernel
theorem dX12_write_12 : decode cX12_write 12 = .ok (.iload_n 2, 1) := by decide +kernel
theorem dX12_write_13 : decode cX12_write 13 = .ok (.iconst 0, 1) := by decide +kernel
theorem dX12_write_14 : decode cX12_write 14 = .ok (.aload_n 0, 1) := by decide +kernel
theorem dX12_write_15 : decode cX12_write 15 = .ok (.getfield 41, 3) := by decide +kernel
theorem dX12_write_18 : decode cX12_write 18 = .ok (.iload_n 1, 1) := by decide +kernel
theorem dX12_write_19 : decode cX12_write 19 = .ok (.iaload, 1) := by decide +kernel
theorem dX12_write_20 : decode cX12_write 20 = .ok (.iconst 1, 1) := by decide +kernel
theorem dX12_write_21 : decode cX12_write 21 = .ok (.isub, 1) := by decide +kernel
theorem dX12_write_22 : decode cX12_write 22 = .ok (.invokestatic 52, 3) := by decide +kernel
theorem dX12_write_25 : decode cX12_write 25 = .ok (.ifCond .ne 6, 3) := by decide +kernel
theorem dX12_write_28 : decode cX12_write 28 = .ok (.iconst 0, 1) := by decide +kernel
theorem dX12_write_29 : decode cX12_write 29 = .ok (.istore 5, 2) := by decide +kernel
theorem dX12_write_31 : decode cX12_write 31 = .ok (.iload 5, 2) := by decide +kernel
theorem dX12_write_33 : decode cX12_write 33 = .ok (.ifCond .lt 11, 3) := by decide +kernel
theorem dX12_write_36 : decode cX12_write 36 = .ok (.aload_n 0, 1) := by decide +kernel
theorem dX12_write_37 : decode cX12_write 37 = .ok (.iload 5, 2) := by decide +kernel
theorem dX12_write_39 : decode cX12_write 39 = .ok (.invokevirtual 118, 3) := by decide +kernel
theorem dX12_write_42 : decode cX12_write 42 = .ok (.i2l, 1) := by decide +kernel
theorem dX12_write_43 : decode cX12_write 43 = .ok (.lreturn, 1) := by decide +kernel
theorem dX12_write_44 : decode cX12_write 44 = .ok (.aload_n 0, 1) := by decide +kernel
theorem dX12_write_45 : decode cX12_write 45 = .ok (.iload_n 1, 1) := by decide +kernel
theorem dX12_write_46 : decode cX12_write 46 = .ok (.iload_n 2, 1) := by decide +kernel
theorem dX12_write_47 : decode cX12_write 47 = .ok (.invokevirtual 218, 3) := by decide +kernel
theorem dX12_write_50 : decode cX12_write 50 = .ok (.lstore 6, 2) := by decide +kernel
theorem dX12_write_52 : decode cX12_write 52 = .ok (.aload_n 0, 1) := by decide +kernel
theorem dX12_write_53 : decode cX12_write 53 = .ok (.iload_n 1, 1) := by decide +kernel
theorem dX12_write_54 : decode cX12_write 54 = .ok (.iload_n 2, 1) := by decide +kernel
theorem dX12_write_55 : decode cX12_write 55 = .ok (.lload_n 3, 1) := by decide +kernel
theorem dX12_write_56 : decode cX12_write 56 = .ok (.invokevirtual 222, 3) := by decide +kernel
theorem dX12_write_59 : decode cX12_write 59 = .ok (.lload 6, 2) := by decide +kernel
theorem dX12_write_61 : decode cX12_write 61 = .ok (.lreturn, 1) := by decide +kernel
theorem dX12_copy_0 : decode cX12_copy 0 = .ok (.iload_n 1, 1) := by decide +kernel
theorem dX12_copy_1 : decode cX12_copy 1 = .ok (.invokestatic 212, 3) := by decide +kernel
theorem dX12_copy_4 : decode cX12_copy 4 = .ok (.ifCond .eq 10, 3) := by decide +kernel
theorem dX12_copy_7 : decode cX12_copy 7 = .ok (.iload_n 3, 1) := by decide +kernel
theorem dX12_copy_8 : decode cX12_copy 8 = .ok (.invokestatic 212, 3) := by decide +kernel
theorem dX12_copy_11 : decode cX12_copy 11 = .ok (.ifCond .ne 9, 3) := by decide +kernel
theorem dX12_copy_14 : decode cX12_copy 14 = .ok (.aload_n 0, 1) := by decide +kernel
theorem dX12_copy_15 : decode cX12_copy 15 = .ok (.iconst 0, 1) := by decide +kernel
theorem dX12_copy_16 : decode cX12_copy 16 = .ok (.invokevirtual 118, 3) := by decide +kernel
theorem dX12_copy_19 : decode cX12_copy 19 = .ok (.ireturn, 1) := by decide +kernel
theorem dX12_copy_20 : decode cX12_copy 20 = .ok (.aload_n 0, 1) := by decide +kernel
theorem dX12_copy_21 : decode cX12_copy 21 = .ok (.getfield 38, 3) := by decide +kernel
theorem dX12_copy_24 : decode cX12_copy 24 = .ok (.iload_n 1, 1) := by decide +kernel
theorem dX12_copy_25 : decode cX12_copy 25 = .ok (.iaload, 1) := by decide +kernel
theorem dX12_copy_26 : decode cX12_copy 26 = .ok (.ifCond .eq 12, 3) := by decide +kernel
theorem dX12_copy_29 : decode cX12_copy 29 = .ok (.aload_n 0, 1) := by decide +kernel
theorem dX12_copy_30 : decode cX12_copy 30 = .ok (.getfield 38, 3) := by decide +kernel
theorem dX12_copy_33 : decode cX12_copy 33 = .ok (.iload_n 3, 1) := by decide +kernel
theorem dX12_copy_34 : decode cX12_copy 34 = .ok (.iaload, 1) := by decide +kernel
theorem dX12_copy_35 : decode cX12_copy 35 = .ok (.ifCond .ne 9, 3) := by decide +kernel
theorem dX12_copy_38 : decode cX12_copy 38 = .ok (.aload_n 0, 1) := by decide +kernel
theorem dX12_copy_39 : decode cX12_copy 39 = .ok (.iconst 5, 1) := by decide +kernel
theorem dX12_copy_40 : decode cX12_copy 40 = .ok (.invokevirtual 118, 3) := by decide +kernel
theorem dX12_copy_43 : decode cX12_copy 43 = .ok (.ireturn, 1) := by decide +kernel
theorem dX12_copy_44 : decode cX12_copy 44 = .ok (.aload_n 0, 1) := by decide +kernel
theorem dX12_copy_45 : decode cX12_copy 45 = .ok (.getfield 38, 3) := by decide +kernel
theorem dX12_copy_48 : decode cX12_copy 48 = .ok (.iload_n 1, 1) := by decide +kernel
theorem dX12_copy_49 : decode cX12_copy 49 = .ok (.iaload, 1) := by decide +kernel
theorem dX12_copy_50 : decode cX12_copy 50 = .ok (.aload_n 0, 1) := by decide +kernel
theorem dX12_copy_51 : decode cX12_copy 51 = .ok (.getfield 38, 3) := by decide +kernel
theorem dX12_copy_54 : decode cX12_copy 54 = .ok (.iload_n 3, 1) := by decide +kernel
theorem dX12_copy_55 : decode cX12_copy 55 = .ok (.iaload, 1) := by decide +kernel
theorem dX12_copy_56 : decode cX12_copy 56 = .ok (.if_icmp .eq 9, 3) := by decide +kernel
theorem dX12_copy_59 : decode cX12_copy 59 = .ok (.aload_n 0, 1) := by decide +kernel
theorem dX12_copy_60 : decode cX12_copy 60 = .ok (.iconst 2, 1) := by decide +kernel
theorem dX12_copy_61 : decode cX12_copy 61 = .ok (.invokevirtual 118, 3) := by decide +kernel
theorem dX12_copy_64 : decode cX12_copy 64 = .ok (.ireturn, 1) := by decide +kernel
theorem dX12_copy_65 : decode cX12_copy 65 = .ok (.iload 5, 2) := by decide +kernel
theorem dX12_copy_67 : decode cX12_copy 67 = .ok (.ifCond .lt 39, 3) := by decide +kernel
theorem dX12_copy_70 : decode cX12_copy 70 = .ok (.iload_n 2, 1) := by decide +kernel
theorem dX12_copy_71 : decode cX12_copy 71 = .ok (.ifCond .lt 35, 3) := by decide +kernel
theorem dX12_copy_74 : decode cX12_copy 74 = .ok (.iload 4, 2) := by decide +kernel
theorem dX12_copy_76 : decode cX12_copy 76 = .ok (.ifCond .lt 30, 3) := by decide +kernel
theorem dX12_copy_79 : decode cX12_copy 79 = .ok (.iload_n 2, 1) := by decide +kernel
theorem dX12_copy_80 : decode cX12_copy 80 = .ok (.aload_n 0, 1) := by decide +kernel
theorem dX12_copy_81 : decode cX12_copy 81 = .ok (.getfield 41, 3) := by decide +kernel
theorem dX12_copy_84 : decode cX12_copy 84 = .ok (.iload_n 1, 1) := by decide +kernel
theorem dX12_copy_85 : decode cX12_copy 85 = .ok (.iaload, 1) := by decide +kernel
theorem dX12_copy_86 : decode cX12_copy 86 = .ok (.iload 5, 2) := by decide +kernel
theorem dX12_copy_88 : decode cX12_copy 88 = .ok (.isub, 1) := by decide +kernel
theorem dX12_copy_89 : decode cX12_copy 89 = .ok (.if_icmp .gt 17, 3) := by decide +kernel
theorem dX12_copy_92 : decode cX12_copy 92 = .ok (.iload 4, 2) := by decide +kernel
theorem dX12_copy_94 : decode cX12_copy 94 = .ok (.aload_n 0, 1) := by decide +kernel
theorem dX12_copy_95 : decode cX12_copy 95 = .ok (.getfield 41, 3) := by decide +kernel
theorem dX12_copy_98 : decode cX12_copy 98 = .ok (.iload_n 3, 1) := by decide +kernel
theorem dX12_copy_99 : decode cX12_copy 99 = .ok (.iaload, 1) := by decide +kernel
theorem dX12_copy_100 : decode cX12_copy 100 = .ok (.iload 5, 2) := by decide +kernel
theorem dX12_copy_102 : decode cX12_copy 102 = .ok (.isub, 1) := by decide +kernel
theorem dX12_copy_103 : decode cX12_copy 103 = .ok (.if_icmp .le 9, 3) := by decide +kernel
theorem dX12_copy_106 : decode cX12_copy 106 = .ok (.aload_n 0, 1) := by decide +kernel
theorem dX12_copy_107 : decode cX12_copy 107 = .ok (.iconst 0, 1) := by decide +kernel
theorem dX12_copy_108 : decode cX12_copy 108 = .ok (.invokevirtual 118, 3) := by decide +kernel
theorem dX12_copy_111 : decode cX12_copy 111 = .ok (.ireturn, 1) := by decide +kernel
theorem dX12_copy_112 : decode cX12_copy 112 = .ok (.iconst 0, 1) := by decide +kernel
theorem dX12_copy_113 : decode cX12_copy 113 = .ok (.istore 6, 2) := by decide +kernel
theorem dX12_copy_115 : decode cX12_copy 115 = .ok (.iload 6, 2) := by decide +kernel
theorem dX12_copy_117 : decode cX12_copy 117 = .ok (.iload 5, 2) := by decide +kernel
theorem dX12_copy_119 : decode cX12_copy 119 = .ok (.if_icmp .ge 25, 3) := by decide +kernel
theorem dX12_copy_122 : decode cX12_copy 122 = .ok (.aload_n 0, 1) := by decide +kernel
theorem dX12_copy_123 : decode cX12_copy 123 = .ok (.getfield 48, 3) := by decide +kernel
theorem dX12_copy_126 : decode cX12_copy 126 = .ok (.iload 6, 2) := by decide +kernel
theorem dX12_copy_128 : decode cX12_copy 128 = .ok (.aload_n 0, 1) := by decide +kernel
theorem dX12_copy_129 : decode cX12_copy 129 = .ok (.iload_n 1, 1) := by decide +kernel
theorem dX12_copy_130 : decode cX12_copy 130 = .ok (.iload_n 2, 1) := by decide +kernel
theorem dX12_copy_131 : decode cX12_copy 131 = .ok (.iload 6, 2) := by decide +kernel
theorem dX12_copy_133 : decode cX12_copy 133 = .ok (.iadd, 1) := by decide +kernel
theorem dX12_copy_134 : decode cX12_copy 134 = .ok (.invokevirtual 218, 3) := by decide +kernel
theorem dX12_copy_137 : decode cX12_copy 137 = .ok (.lastore, 1) := by decide +kernel
theorem dX12_copy_138 : decode cX12_copy 138 = .ok (.iinc 6 1, 3) := by decide +kernel
theorem dX12_copy_141 : decode cX12_copy 141 = .ok (.goto (-26), 3) := by decide +kernel
theorem dX12_copy_144 : decode cX12_copy 144 = .ok (.iconst 0, 1) := by decide +kernel
theorem dX12_copy_145 : decode cX12_copy 145 = .ok (.istore 6, 2) := by decide +kernel
theorem dX12_copy_147 : decode cX12_copy 147 = .ok (.iload 6, 2) := by decide +kernel
theorem dX12_copy_149 : decode cX12_copy 149 = .ok (.iload 5, 2) := by decide +kernel
theorem dX12_copy_151 : decode cX12_copy 151 = .ok (.if_icmp .ge 31, 3) := by decide +kernel
theorem dX12_copy_154 : decode cX12_copy 154 = .ok (.aload_n 0, 1) := by decide +kernel
theorem dX12_copy_155 : decode cX12_copy 155 = .ok (.getfield 44, 3) := by decide +kernel
theorem dX12_copy_158 : decode cX12_copy 158 = .ok (.bipush 40, 2) := by decide +kernel
theorem dX12_copy_160 : decode cX12_copy 160 = .ok (.iload_n 3, 1) := by decide +kernel
theorem dX12_copy_161 : decode cX12_copy 161 = .ok (.imul, 1) := by decide +kernel
theorem dX12_copy_162 : decode cX12_copy 162 = .ok (.iload 4, 2) := by decide +kernel
theorem dX12_copy_164 : decode cX12_copy 164 = .ok (.iadd, 1) := by decide +kernel
theorem dX12_copy_165 : decode cX12_copy 165 = .ok (.iload 6, 2) := by decide +kernel
theorem dX12_copy_167 : decode cX12_copy 167 = .ok (.iadd, 1) := by decide +kernel
theorem dX12_copy_168 : decode cX12_copy 168 = .ok (.aload_n 0, 1) := by decide +kernel
theorem dX12_copy_169 : decode cX12_copy 169 = .ok (.getfield 48, 3) := by decide +kernel
theorem dX12_copy_172 : decode cX12_copy 172 = .ok (.iload 6, 2) := by decide +kernel
theorem dX12_copy_174 : decode cX12_copy 174 = .ok (.laload, 1) := by decide +kernel
theorem dX12_copy_175 : decode cX12_copy 175 = .ok (.lastore, 1) := by decide +kernel
theorem dX12_copy_176 : decode cX12_copy 176 = .ok (.iinc 6 1, 3) := by decide +kernel
theorem dX12_copy_179 : decode cX12_copy 179 = .ok (.goto (-32), 3) := by decide +kernel
theorem dX12_copy_182 : decode cX12_copy 182 = .ok (.iload 5, 2) := by decide +kernel
theorem dX12_copy_184 : decode cX12_copy 184 = .ok (.ireturn, 1) := by decide +kernel
theorem dX12_lays_0 : decode cX12_lays 0 = .ok (.aload_n 0, 1) := by decide +kernel
theorem dX12_lays_1 : decode cX12_lays 1 = .ok (.iload_n 1, 1) := by decide +kernel
theorem dX12_lays_2 : decode cX12_lays 2 = .ok (.invokevirtual 215, 3) := by decide +kernel
theorem dX12_lays_5 : decode cX12_lays 5 = .ok (.istore_n 2, 1) := by decide +kernel
theorem dX12_lays_6 : decode cX12_lays 6 = .ok (.iload_n 2, 1) := by decide +kernel
theorem dX12_lays_7 : decode cX12_lays 7 = .ok (.ifCond .lt 9, 3) := by decide +kernel
theorem dX12_lays_10 : decode cX12_lays 10 = .ok (.aload_n 0, 1) := by decide +kernel
theorem dX12_lays_11 : decode cX12_lays 11 = .ok (.iload_n 2, 1) := by decide +kernel
theorem dX12_lays_12 : decode cX12_lays 12 = .ok (.invokevirtual 118, 3) := by decide +kernel
theorem dX12_lays_15 : decode cX12_lays 15 = .ok (.ireturn, 1) := by decide +kernel
theorem dX12_lays_16 : decode cX12_lays 16 = .ok (.iconst 0, 1) := by decide +kernel
theorem dX12_lays_17 : decode cX12_lays 17 = .ok (.istore_n 3, 1) := by decide +kernel
theorem dX12_lays_18 : decode cX12_lays 18 = .ok (.iconst 0, 1) := by decide +kernel
theorem dX12_lays_19 : decode cX12_lays 19 = .ok (.istore 4, 2) := by decide +kernel
theorem dX12_lays_21 : decode cX12_lays 21 = .ok (.iload 4, 2) := by decide +kernel
theorem dX12_lays_23 : decode cX12_lays 23 = .ok (.aload_n 0, 1) := by decide +kernel
theorem dX12_lays_24 : decode cX12_lays 24 = .ok (.getfield 41, 3) := by decide +kernel
theorem dX12_lays_27 : decode cX12_lays 27 = .ok (.iload_n 1, 1) := by decide +kernel
theorem dX12_lays_28 : decode cX12_lays 28 = .ok (.iaload, 1) := by decide +kernel
theorem dX12_lays_29 : decode cX12_lays 29 = .ok (.if_icmp .ge 64, 3) := by decide +kernel
theorem dX12_lays_32 : decode cX12_lays 32 = .ok (.iload 4, 2) := by decide +kernel
theorem dX12_lays_34 : decode cX12_lays 34 = .ok (.aload_n 0, 1) := by decide +kernel
theorem dX12_lays_35 : decode cX12_lays 35 = .ok (.getfield 9, 3) := by decide +kernel
theorem dX12_lays_38 : decode cX12_lays 38 = .ok (.iconst 4, 1) := by decide +kernel
theorem dX12_lays_39 : decode cX12_lays 39 = .ok (.iaload, 1) := by decide +kernel
theorem dX12_lays_40 : decode cX12_lays 40 = .ok (.if_icmp .ge 53, 3) := by decide +kernel
theorem dX12_lays_43 : decode cX12_lays 43 = .ok (.aload_n 0, 1) := by decide +kernel
theorem dX12_lays_44 : decode cX12_lays 44 = .ok (.iload_n 1, 1) := by decide +kernel
theorem dX12_lays_45 : decode cX12_lays 45 = .ok (.iload 4, 2) := by decide +kernel
theorem dX12_lays_47 : decode cX12_lays 47 = .ok (.invokevirtual 218, 3) := by decide +kernel
theorem dX12_lays_50 : decode cX12_lays 50 = .ok (.lconst 1, 1) := by decide +kernel
theorem dX12_lays_51 : decode cX12_lays 51 = .ok (.lcmp, 1) := by decide +kernel
theorem dX12_lays_52 : decode cX12_lays 52 = .ok (.ifCond .lt 35, 3) := by decide +kernel
theorem dX12_lays_55 : decode cX12_lays 55 = .ok (.aload_n 0, 1) := by decide +kernel
theorem dX12_lays_56 : decode cX12_lays 56 = .ok (.iload_n 1, 1) := by decide +kernel
theorem dX12_lays_57 : decode cX12_lays 57 = .ok (.iload 4, 2) := by decide +kernel
theorem dX12_lays_59 : decode cX12_lays 59 = .ok (.invokevirtual 218, 3) := by decide +kernel
theorem dX12_lays_62 : decode cX12_lays 62 = .ok (.ldc2_w 226, 3) := by decide +kernel
theorem dX12_lays_65 : decode cX12_lays 65 = .ok (.lcmp, 1) := by decide +kernel
theorem dX12_lays_66 : decode cX12_lays 66 = .ok (.ifCond .gt 21, 3) := by decide +kernel
theorem dX12_lays_69 : decode cX12_lays 69 = .ok (.aload_n 0, 1) := by decide +kernel
theorem dX12_lays_70 : decode cX12_lays 70 = .ok (.iload 4, 2) := by decide +kernel
theorem dX12_lays_72 : decode cX12_lays 72 = .ok (.iconst 4, 1) := by decide +kernel
theorem dX12_lays_73 : decode cX12_lays 73 = .ok (.aload_n 0, 1) := by decide +kernel
theorem dX12_lays_74 : decode cX12_lays 74 = .ok (.iload_n 1, 1) := by decide +kernel
theorem dX12_lays_75 : decode cX12_lays 75 = .ok (.iload 4, 2) := by decide +kernel
theorem dX12_lays_77 : decode cX12_lays 77 = .ok (.invokevirtual 218, 3) := by decide +kernel
theorem dX12_lays_80 : decode cX12_lays 80 = .ok (.l2i, 1) := by decide +kernel
theorem dX12_lays_81 : decode cX12_lays 81 = .ok (.invokevirtual 88, 3) := by decide +kernel
theorem dX12_lays_84 : decode cX12_lays 84 = .ok (.iinc 3 1, 3) := by decide +kernel
theorem dX12_lays_87 : decode cX12_lays 87 = .ok (.iinc 4 1, 3) := by decide +kernel
theorem dX12_lays_90 : decode cX12_lays 90 = .ok (.goto (-69), 3) := by decide +kernel
theorem dX12_lays_93 : decode cX12_lays 93 = .ok (.iload_n 3, 1) := by decide +kernel
theorem dX12_lays_94 : decode cX12_lays 94 = .ok (.ireturn, 1) := by decide +kernel
theorem dX12_book_0 : decode cX12_book 0 = .ok (.aload_n 0, 1) := by decide +kernel
theorem dX12_book_1 : decode cX12_book 1 = .ok (.iload_n 1, 1) := by decide +kernel
theorem dX12_book_2 : decode cX12_book 2 = .ok (.invokevirtual 215, 3) := by decide +kernel
theorem dX12_book_5 : decode cX12_book 5 = .ok (.istore_n 2, 1) := by decide +kernel
theorem dX12_book_6 : decode cX12_book 6 = .ok (.iload_n 2, 1) := by decide +kernel
theorem dX12_book_7 : decode cX12_book 7 = .ok (.ifCond .lt 9, 3) := by decide +kernel
theorem dX12_book_10 : decode cX12_book 10 = .ok (.aload_n 0, 1) := by decide +kernel
theorem dX12_book_11 : decode cX12_book 11 = .ok (.iload_n 2, 1) := by decide +kernel
theorem dX12_book_12 : decode cX12_book 12 = .ok (.invokevirtual 118, 3) := by decide +kernel
theorem dX12_book_15 : decode cX12_book 15 = .ok (.ireturn, 1) := by decide +kernel
theorem dX12_book_16 : decode cX12_book 16 = .ok (.aload_n 0, 1) := by decide +kernel
theorem dX12_book_17 : decode cX12_book 17 = .ok (.invokevirtual 145, 3) := by decide +kernel
theorem dX12_book_20 : decode cX12_book 20 = .ok (.iconst 0, 1) := by decide +kernel
theorem dX12_book_21 : decode cX12_book 21 = .ok (.istore_n 3, 1) := by decide +kernel
theorem dX12_book_22 : decode cX12_book 22 = .ok (.iload_n 3, 1) := by decide +kernel
theorem dX12_book_23 : decode cX12_book 23 = .ok (.aload_n 0, 1) := by decide +kernel
theorem dX12_book_24 : decode cX12_book 24 = .ok (.getfield 41, 3) := by decide +kernel
theorem dX12_book_27 : decode cX12_book 27 = .ok (.iload_n 1, 1) := by decide +kernel
theorem dX12_book_28 : decode cX12_book 28 = .ok (.iaload, 1) := by decide +kernel
theorem dX12_book_29 : decode cX12_book 29 = .ok (.if_icmp .ge 27, 3) := by decide +kernel
theorem dX12_book_32 : decode cX12_book 32 = .ok (.aload_n 0, 1) := by decide +kernel
theorem dX12_book_33 : decode cX12_book 33 = .ok (.iload_n 1, 1) := by decide +kernel
theorem dX12_book_34 : decode cX12_book 34 = .ok (.iload_n 3, 1) := by decide +kernel
theorem dX12_book_35 : decode cX12_book 35 = .ok (.aload_n 0, 1) := by decide +kernel
theorem dX12_book_36 : decode cX12_book 36 = .ok (.getfield 9, 3) := by decide +kernel
theorem dX12_book_39 : decode cX12_book 39 = .ok (.iconst 1, 1) := by decide +kernel
theorem dX12_book_40 : decode cX12_book 40 = .ok (.iaload, 1) := by decide +kernel
theorem dX12_book_41 : decode cX12_book 41 = .ok (.i2l, 1) := by decide +kernel
theorem dX12_book_42 : decode cX12_book 42 = .ok (.invokevirtual 222, 3) := by decide +kernel
theorem dX12_book_45 : decode cX12_book 45 = .ok (.aload_n 0, 1) := by decide +kernel
theorem dX12_book_46 : decode cX12_book 46 = .ok (.iconst 1, 1) := by decide +kernel
theorem dX12_book_47 : decode cX12_book 47 = .ok (.invokevirtual 106, 3) := by decide +kernel
theorem dX12_book_50 : decode cX12_book 50 = .ok (.iinc 3 1, 3) := by decide +kernel
theorem dX12_book_53 : decode cX12_book 53 = .ok (.goto (-31), 3) := by decide +kernel
theorem dX12_book_56 : decode cX12_book 56 = .ok (.aload_n 0, 1) := by decide +kernel
theorem dX12_book_57 : decode cX12_book 57 = .ok (.invokevirtual 112, 3) := by decide +kernel
theorem dX12_book_60 : decode cX12_book 60 = .ok (.aload_n 0, 1) := by decide +kernel
theorem dX12_book_61 : decode cX12_book 61 = .ok (.getfield 41, 3) := by decide +kernel
theorem dX12_book_64 : decode cX12_book 64 = .ok (.iload_n 1, 1) := by decide +kernel
theorem dX12_book_65 : decode cX12_book 65 = .ok (.iaload, 1) := by decide +kernel
theorem dX12_book_66 : decode cX12_book 66 = .ok (.ireturn, 1) := by decide +kernel
theorem dX12_isSo_0 : decode cX12_isSo 0 = .ok (.iconst 1, 1) := by decide +kernel
theorem dX12_isSo_1 : decode cX12_isSo 1 = .ok (.istore_n 2, 1) := by decide +kernel
theorem dX12_isSo_2 : decode cX12_isSo 2 = .ok (.iconst 0, 1) := by decide +kernel
theorem dX12_isSo_3 : decode cX12_isSo 3 = .ok (.istore_n 3, 1) := by decide +kernel
theorem dX12_isSo_4 : decode cX12_isSo 4 = .ok (.iload_n 3, 1) := by decide +kernel
theorem dX12_isSo_5 : decode cX12_isSo 5 = .ok (.aload_n 0, 1) := by decide +kernel
theorem dX12_isSo_6 : decode cX12_isSo 6 = .ok (.getfield 41, 3) := by decide +kernel
theorem dX12_isSo_9 : decode cX12_isSo 9 = .ok (.iload_n 1, 1) := by decide +kernel
theorem dX12_isSo_10 : decode cX12_isSo 10 = .ok (.iaload, 1) := by decide +kernel
theorem dX12_isSo_11 : decode cX12_isSo 11 = .ok (.if_icmp .ge 41, 3) := by decide +kernel
theorem dX12_isSo_14 : decode cX12_isSo 14 = .ok (.iload_n 2, 1) := by decide +kernel
theorem dX12_isSo_15 : decode cX12_isSo 15 = .ok (.ifCond .eq 37, 3) := by decide +kernel
theorem dX12_isSo_18 : decode cX12_isSo 18 = .ok (.aload_n 0, 1) := by decide +kernel
theorem dX12_isSo_19 : decode cX12_isSo 19 = .ok (.iload_n 1, 1) := by decide +kernel
theorem dX12_isSo_20 : decode cX12_isSo 20 = .ok (.iload_n 3, 1) := by decide +kernel
theorem dX12_isSo_21 : decode cX12_isSo 21 = .ok (.invokevirtual 218, 3) := by decide +kernel
theorem dX12_isSo_24 : decode cX12_isSo 24 = .ok (.aload_n 0, 1) := by decide +kernel
theorem dX12_isSo_25 : decode cX12_isSo 25 = .ok (.getfield 9, 3) := by decide +kernel
theorem dX12_isSo_28 : decode cX12_isSo 28 = .ok (.iconst 1, 1) := by decide +kernel
theorem dX12_isSo_29 : decode cX12_isSo 29 = .ok (.iaload, 1) := by decide +kernel
theorem dX12_isSo_30 : decode cX12_isSo 30 = .ok (.i2l, 1) := by decide +kernel
theorem dX12_isSo_31 : decode cX12_isSo 31 = .ok (.lcmp, 1) := by decide +kernel
theorem dX12_isSo_32 : decode cX12_isSo 32 = .ok (.ifCond .ne 7, 3) := by decide +kernel
theorem dX12_isSo_35 : decode cX12_isSo 35 = .ok (.iconst 1, 1) := by decide +kernel
theorem dX12_isSo_36 : decode cX12_isSo 36 = .ok (.goto 4, 3) := by decide +kernel
theorem dX12_isSo_39 : decode cX12_isSo 39 = .ok (.iconst 0, 1) := by decide +kernel
theorem dX12_isSo_40 : decode cX12_isSo 40 = .ok (.istore_n 2, 1) := by decide +kernel
theorem dX12_isSo_41 : decode cX12_isSo 41 = .ok (.aload_n 0, 1) := by decide +kernel
theorem dX12_isSo_42 : decode cX12_isSo 42 = .ok (.iconst 1, 1) := by decide +kernel
theorem dX12_isSo_43 : decode cX12_isSo 43 = .ok (.invokevirtual 106, 3) := by decide +kernel
theorem dX12_isSo_46 : decode cX12_isSo 46 = .ok (.iinc 3 1, 3) := by decide +kernel
theorem dX12_isSo_49 : decode cX12_isSo 49 = .ok (.goto (-45), 3) := by decide +kernel
theorem dX12_isSo_52 : decode cX12_isSo 52 = .ok (.aload_n 0, 1) := by decide +kernel
theorem dX12_isSo_53 : decode cX12_isSo 53 = .ok (.invokevirtual 112, 3) := by decide +kernel
theorem dX12_isSo_56 : decode cX12_isSo 56 = .ok (.iload_n 2, 1) := by decide +kernel
theorem dX12_isSo_57 : decode cX12_isSo 57 = .ok (.ireturn, 1) := by decide +kernel
theorem dX12_read_0 : decode cX12_read 0 = .ok (.aload_n 0, 1) := by decide +kernel
theorem dX12_read_1 : decode cX12_read 1 = .ok (.iload_n 1, 1) := by decide +kernel
theorem dX12_read_2 : decode cX12_read 2 = .ok (.invokevirtual 215, 3) := by decide +kernel
theorem dX12_read_5 : decode cX12_read 5 = .ok (.istore_n 3, 1) := by decide +kernel
theorem dX12_read_6 : decode cX12_read 6 = .ok (.iload_n 3, 1) := by decide +kernel
theorem dX12_read_7 : decode cX12_read 7 = .ok (.ifCond .lt 9, 3) := by decide +kernel
theorem dX12_read_10 : decode cX12_read 10 = .ok (.aload_n 0, 1) := by decide +kernel
theorem dX12_read_11 : decode cX12_read 11 = .ok (.iload_n 3, 1) := by decide +kernel
theorem dX12_read_12 : decode cX12_read 12 = .ok (.invokevirtual 118, 3) := by decide +kernel
theorem dX12_read_15 : decode cX12_read 15 = .ok (.ireturn, 1) := by decide +kernel
theorem dX12_read_16 : decode cX12_read 16 = .ok (.aload_n 0, 1) := by decide +kernel
theorem dX12_read_17 : decode cX12_read 17 = .ok (.iload_n 2, 1) := by decide +kernel
theorem dX12_read_18 : decode cX12_read 18 = .ok (.invokevirtual 134, 3) := by decide +kernel
theorem dX12_read_21 : decode cX12_read 21 = .ok (.ifCond .ne 9, 3) := by decide +kernel
theorem dX12_read_24 : decode cX12_read 24 = .ok (.aload_n 0, 1) := by decide +kernel
theorem dX12_read_25 : decode cX12_read 25 = .ok (.iconst 0, 1) := by decide +kernel
theorem dX12_read_26 : decode cX12_read 26 = .ok (.invokevirtual 118, 3) := by decide +kernel
theorem dX12_read_29 : decode cX12_read 29 = .ok (.ireturn, 1) := by decide +kernel
theorem dX12_read_30 : decode cX12_read 30 = .ok (.iconst 0, 1) := by decide +kernel
theorem dX12_read_31 : decode cX12_read 31 = .ok (.istore 4, 2) := by decide +kernel
theorem dX12_read_33 : decode cX12_read 33 = .ok (.iconst 0, 1) := by decide +kernel
theorem dX12_read_34 : decode cX12_read 34 = .ok (.istore 5, 2) := by decide +kernel
theorem dX12_read_36 : decode cX12_read 36 = .ok (.iload 5, 2) := by decide +kernel
theorem dX12_read_38 : decode cX12_read 38 = .ok (.bipush 6, 2) := by decide +kernel
theorem dX12_read_40 : decode cX12_read 40 = .ok (.if_icmp .ge 63, 3) := by decide +kernel
theorem dX12_read_43 : decode cX12_read 43 = .ok (.iconst 1, 1) := by decide +kernel
theorem dX12_read_44 : decode cX12_read 44 = .ok (.istore 6, 2) := by decide +kernel
theorem dX12_read_46 : decode cX12_read 46 = .ok (.iload 6, 2) := by decide +kernel
theorem dX12_read_48 : decode cX12_read 48 = .ok (.bipush 20, 2) := by decide +kernel
theorem dX12_read_50 : decode cX12_read 50 = .ok (.if_icmp .gt 47, 3) := by decide +kernel
theorem dX12_read_53 : decode cX12_read 53 = .ok (.aload_n 0, 1) := by decide +kernel
theorem dX12_read_54 : decode cX12_read 54 = .ok (.invokevirtual 145, 3) := by decide +kernel
theorem dX12_read_57 : decode cX12_read 57 = .ok (.aload_n 0, 1) := by decide +kernel
theorem dX12_read_58 : decode cX12_read 58 = .ok (.iload_n 2, 1) := by decide +kernel
theorem dX12_read_59 : decode cX12_read 59 = .ok (.iconst 0, 1) := by decide +kernel
theorem dX12_read_60 : decode cX12_read 60 = .ok (.iload 5, 2) := by decide +kernel
theorem dX12_read_62 : decode cX12_read 62 = .ok (.invokevirtual 88, 3) := by decide +kernel
theorem dX12_read_65 : decode cX12_read 65 = .ok (.aload_n 0, 1) := by decide +kernel
theorem dX12_read_66 : decode cX12_read 66 = .ok (.iload_n 2, 1) := by decide +kernel
theorem dX12_read_67 : decode cX12_read 67 = .ok (.iconst 4, 1) := by decide +kernel
theorem dX12_read_68 : decode cX12_read 68 = .ok (.iload 6, 2) := by decide +kernel
theorem dX12_read_70 : decode cX12_read 70 = .ok (.invokevirtual 88, 3) := by decide +kernel
theorem dX12_read_73 : decode cX12_read 73 = .ok (.iload 4, 2) := by decide +kernel
theorem dX12_read_75 : decode cX12_read 75 = .ok (.aload_n 0, 1) := by decide +kernel
theorem dX12_read_76 : decode cX12_read 76 = .ok (.iload_n 1, 1) := by decide +kernel
theorem dX12_read_77 : decode cX12_read 77 = .ok (.invokevirtual 228, 3) := by decide +kernel
theorem dX12_read_80 : decode cX12_read 80 = .ok (.ifCond .eq 7, 3) := by decide +kernel
theorem dX12_read_83 : decode cX12_read 83 = .ok (.iconst 1, 1) := by decide +kernel
theorem dX12_read_84 : decode cX12_read 84 = .ok (.goto 4, 3) := by decide +kernel
theorem dX12_read_87 : decode cX12_read 87 = .ok (.iconst 0, 1) := by decide +kernel
theorem dX12_read_88 : decode cX12_read 88 = .ok (.iadd, 1) := by decide +kernel
theorem dX12_read_89 : decode cX12_read 89 = .ok (.istore 4, 2) := by decide +kernel
theorem dX12_read_91 : decode cX12_read 91 = .ok (.iinc 6 1, 3) := by decide +kernel
theorem dX12_read_94 : decode cX12_read 94 = .ok (.goto (-48), 3) := by decide +kernel
theorem dX12_read_97 : decode cX12_read 97 = .ok (.iinc 5 1, 3) := by decide +kernel
theorem dX12_read_100 : decode cX12_read 100 = .ok (.goto (-64), 3) := by decide +kernel
theorem dX12_read_103 : decode cX12_read 103 = .ok (.iload 4, 2) := by decide +kernel
theorem dX12_read_105 : decode cX12_read 105 = .ok (.ireturn, 1) := by decide +kernel
theorem dX12_image_0 : decode cX12_image 0 = .ok (.iconst 0, 1) := by decide +kernel
theorem dX12_image_1 : decode cX12_image 1 = .ok (.istore_n 1, 1) := by decide +kernel
theorem dX12_image_2 : decode cX12_image 2 = .ok (.iload_n 1, 1) := by decide +kernel
theorem dX12_image_3 : decode cX12_image 3 = .ok (.bipush 55, 2) := by decide +kernel
theorem dX12_image_5 : decode cX12_image 5 = .ok (.if_icmp .ge 21, 3) := by decide +kernel
theorem dX12_image_8 : decode cX12_image 8 = .ok (.aload_n 0, 1) := by decide +kernel
theorem dX12_image_9 : decode cX12_image 9 = .ok (.getfield 13, 3) := by decide +kernel
theorem dX12_image_12 : decode cX12_image 12 = .ok (.iload_n 1, 1) := by decide +kernel
theorem dX12_image_13 : decode cX12_image 13 = .ok (.aload_n 0, 1) := by decide +kernel
theorem dX12_image_14 : decode cX12_image 14 = .ok (.getfield 9, 3) := by decide +kernel
theorem dX12_image_17 : decode cX12_image 17 = .ok (.iload_n 1, 1) := by decide +kernel
theorem dX12_image_18 : decode cX12_image 18 = .ok (.iaload, 1) := by decide +kernel
theorem dX12_image_19 : decode cX12_image 19 = .ok (.iastore, 1) := by decide +kernel
theorem dX12_image_20 : decode cX12_image 20 = .ok (.iinc 1 1, 3) := by decide +kernel
theorem dX12_image_23 : decode cX12_image 23 = .ok (.goto (-21), 3) := by decide +kernel
theorem dX12_image_26 : decode cX12_image 26 = .ok (.aload_n 0, 1) := by decide +kernel
theorem dX12_image_27 : decode cX12_image 27 = .ok (.iconst 1, 1) := by decide +kernel
theorem dX12_image_28 : decode cX12_image 28 = .ok (.putfield 231, 3) := by decide +kernel
theorem dX12_image_31 : decode cX12_image 31 = .ok (.iconst 1, 1) := by decide +kernel
theorem dX12_image_32 : decode cX12_image 32 = .ok (.ireturn, 1) := by decide +kernel
theorem dX12_undo_0 : decode cX12_undo 0 = .ok (.aload_n 0, 1) := by decide +kernel
theorem dX12_undo_1 : decode cX12_undo 1 = .ok (.getfield 231, 3) := by decide +kernel
theorem dX12_undo_4 : decode cX12_undo 4 = .ok (.ifCond .ne 9, 3) := by decide +kernel
theorem dX12_undo_7 : decode cX12_undo 7 = .ok (.aload_n 0, 1) := by decide +kernel
theorem dX12_undo_8 : decode cX12_undo 8 = .ok (.iconst 3, 1) := by decide +kernel
theorem dX12_undo_9 : decode cX12_undo 9 = .ok (.invokevirtual 118, 3) := by decide +kernel
theorem dX12_undo_12 : decode cX12_undo 12 = .ok (.ireturn, 1) := by decide +kernel
theorem dX12_undo_13 : decode cX12_undo 13 = .ok (.iconst 0, 1) := by decide +kernel
theorem dX12_undo_14 : decode cX12_undo 14 = .ok (.istore_n 1, 1) := by decide +kernel
theorem dX12_undo_15 : decode cX12_undo 15 = .ok (.iload_n 1, 1) := by decide +kernel
theorem dX12_undo_16 : decode cX12_undo 16 = .ok (.bipush 55, 2) := by decide +kernel
theorem dX12_undo_18 : decode cX12_undo 18 = .ok (.if_icmp .ge 21, 3) := by decide +kernel
theorem dX12_undo_21 : decode cX12_undo 21 = .ok (.aload_n 0, 1) := by decide +kernel
theorem dX12_undo_22 : decode cX12_undo 22 = .ok (.getfield 9, 3) := by decide +kernel
theorem dX12_undo_25 : decode cX12_undo 25 = .ok (.iload_n 1, 1) := by decide +kernel
theorem dX12_undo_26 : decode cX12_undo 26 = .ok (.aload_n 0, 1) := by decide +kernel
theorem dX12_undo_27 : decode cX12_undo 27 = .ok (.getfield 13, 3) := by decide +kernel
theorem dX12_undo_30 : decode cX12_undo 30 = .ok (.iload_n 1, 1) := by decide +kernel
theorem dX12_undo_31 : decode cX12_undo 31 = .ok (.iaload, 1) := by decide +kernel
theorem dX12_undo_32 : decode cX12_undo 32 = .ok (.iastore, 1) := by decide +kernel
theorem dX12_undo_33 : decode cX12_undo 33 = .ok (.iinc 1 1, 3) := by decide +kernel
theorem dX12_undo_36 : decode cX12_undo 36 = .ok (.goto (-21), 3) := by decide +kernel
theorem dX12_undo_39 : decode cX12_undo 39 = .ok (.aload_n 0, 1) := by decide +kernel
theorem dX12_undo_40 : decode cX12_undo 40 = .ok (.getfield 9, 3) := by decide +kernel
theorem dX12_undo_43 : decode cX12_undo 43 = .ok (.iconst 4, 1) := by decide +kernel
theorem dX12_undo_44 : decode cX12_undo 44 = .ok (.iaload, 1) := by decide +kernel
theorem dX12_undo_45 : decode cX12_undo 45 = .ok (.ireturn, 1) := by decide +kernel
theorem dX12_tear_0 : decode cX12_tear 0 = .ok (.aload_n 0, 1) := by decide +kernel
theorem dX12_tear_1 : decode cX12_tear 1 = .ok (.getfield 231, 3) := by decide +kernel
theorem dX12_tear_4 : decode cX12_tear 4 = .ok (.ifCond .eq 7, 3) := by decide +kernel
theorem dX12_tear_7 : decode cX12_tear 7 = .ok (.iconst 1, 1) := by decide +kernel
theorem dX12_tear_8 : decode cX12_tear 8 = .ok (.goto 4, 3) := by decide +kernel
theorem dX12_tear_11 : decode cX12_tear 11 = .ok (.iconst 0, 1) := by decide +kernel
theorem dX12_tear_12 : decode cX12_tear 12 = .ok (.istore_n 1, 1) := by decide +kernel
theorem dX12_tear_13 : decode cX12_tear 13 = .ok (.aload_n 0, 1) := by decide +kernel
theorem dX12_tear_14 : decode cX12_tear 14 = .ok (.iconst 0, 1) := by decide +kernel
theorem dX12_tear_15 : decode cX12_tear 15 = .ok (.putfield 231, 3) := by decide +kernel
theorem dX12_tear_18 : decode cX12_tear 18 = .ok (.iload_n 1, 1) := by decide +kernel
theorem dX12_tear_19 : decode cX12_tear 19 = .ok (.ireturn, 1) := by decide +kernel
theorem dX12_count_0 : decode cX12_count 0 = .ok (.iconst 0, 1) := by decide +kernel
theorem dX12_count_1 : decode cX12_count 1 = .ok (.istore_n 2, 1) := by decide +kernel
theorem dX12_count_2 : decode cX12_count 2 = .ok (.iconst 0, 1) := by decide +kernel
theorem dX12_count_3 : decode cX12_count 3 = .ok (.istore_n 3, 1) := by decide +kernel
theorem dX12_count_4 : decode cX12_count 4 = .ok (.iconst 0, 1) := by decide +kernel
theorem dX12_count_5 : decode cX12_count 5 = .ok (.istore 4, 2) := by decide +kernel
theorem dX12_count_7 : decode cX12_count 7 = .ok (.iload 4, 2) := by decide +kernel
theorem dX12_count_9 : decode cX12_count 9 = .ok (.aload_n 0, 1) := by decide +kernel
theorem dX12_count_10 : decode cX12_count 10 = .ok (.getfield 9, 3) := by decide +kernel
theorem dX12_count_13 : decode cX12_count 13 = .ok (.iconst 4, 1) := by decide +kernel
theorem dX12_count_14 : decode cX12_count 14 = .ok (.iaload, 1) := by decide +kernel
theorem dX12_count_15 : decode cX12_count 15 = .ok (.if_icmp .ge 37, 3) := by decide +kernel
theorem dX12_count_18 : decode cX12_count 18 = .ok (.iload_n 2, 1) := by decide +kernel
theorem dX12_count_19 : decode cX12_count 19 = .ok (.aload_n 0, 1) := by decide +kernel
theorem dX12_count_20 : decode cX12_count 20 = .ok (.iload 4, 2) := by decide +kernel
theorem dX12_count_22 : decode cX12_count 22 = .ok (.iconst 1, 1) := by decide +kernel
theorem dX12_count_23 : decode cX12_count 23 = .ok (.invokevirtual 60, 3) := by decide +kernel
theorem dX12_count_26 : decode cX12_count 26 = .ok (.ifCond .ne 7, 3) := by decide +kernel
theorem dX12_count_29 : decode cX12_count 29 = .ok (.iconst 1, 1) := by decide +kernel
theorem dX12_count_30 : decode cX12_count 30 = .ok (.goto 4, 3) := by decide +kernel
theorem dX12_count_33 : decode cX12_count 33 = .ok (.iconst 0, 1) := by decide +kernel
theorem dX12_count_34 : decode cX12_count 34 = .ok (.iadd, 1) := by decide +kernel
theorem dX12_count_35 : decode cX12_count 35 = .ok (.istore_n 2, 1) := by decide +kernel
theorem dX12_count_36 : decode cX12_count 36 = .ok (.iload_n 3, 1) := by decide +kernel
theorem dX12_count_37 : decode cX12_count 37 = .ok (.aload_n 0, 1) := by decide +kernel
theorem dX12_count_38 : decode cX12_count 38 = .ok (.iload 4, 2) := by decide +kernel
theorem dX12_count_40 : decode cX12_count 40 = .ok (.iconst 3, 1) := by decide +kernel
theorem dX12_count_41 : decode cX12_count 41 = .ok (.invokevirtual 60, 3) := by decide +kernel
theorem dX12_count_44 : decode cX12_count 44 = .ok (.iadd, 1) := by decide +kernel
theorem dX12_count_45 : decode cX12_count 45 = .ok (.istore_n 3, 1) := by decide +kernel
theorem dX12_count_46 : decode cX12_count 46 = .ok (.iinc 4 1, 3) := by decide +kernel
theorem dX12_count_49 : decode cX12_count 49 = .ok (.goto (-42), 3) := by decide +kernel
theorem dX12_count_52 : decode cX12_count 52 = .ok (.iload_n 1, 1) := by decide +kernel
theorem dX12_count_53 : decode cX12_count 53 = .ok (.tableswitch 47 0 3 #[31, 38, 43, 45], 31) := by decide +kernel
theorem dX12_count_84 : decode cX12_count 84 = .ok (.aload_n 0, 1) := by decide +kernel
theorem dX12_count_85 : decode cX12_count 85 = .ok (.getfield 9, 3) := by decide +kernel
theorem dX12_count_88 : decode cX12_count 88 = .ok (.iconst 4, 1) := by decide +kernel
theorem dX12_count_89 : decode cX12_count 89 = .ok (.iaload, 1) := by decide +kernel
theorem dX12_count_90 : decode cX12_count 90 = .ok (.ireturn, 1) := by decide +kernel
theorem dX12_count_91 : decode cX12_count 91 = .ok (.aload_n 0, 1) := by decide +kernel
theorem dX12_count_92 : decode cX12_count 92 = .ok (.getfield 154, 3) := by decide +kernel
theorem dX12_count_95 : decode cX12_count 95 = .ok (.ireturn, 1) := by decide +kernel
theorem dX12_count_96 : decode cX12_count 96 = .ok (.iload_n 2, 1) := by decide +kernel
theorem dX12_count_97 : decode cX12_count 97 = .ok (.ireturn, 1) := by decide +kernel
theorem dX12_count_98 : decode cX12_count 98 = .ok (.iload_n 3, 1) := by decide +kernel
theorem dX12_count_99 : decode cX12_count 99 = .ok (.ireturn, 1) := by decide +kernel
theorem dX12_count_100 : decode cX12_count 100 = .ok (.aload_n 0, 1) := by decide +kernel
theorem dX12_count_101 : decode cX12_count 101 = .ok (.iconst 0, 1) := by decide +kernel
theorem dX12_count_102 : decode cX12_count 102 = .ok (.invokevirtual 118, 3) := by decide +kernel
theorem dX12_count_105 : decode cX12_count 105 = .ok (.ireturn, 1) := by decide +kernel
theorem dX12_status_0 : decode cX12_status 0 = .ok (.iload_n 1, 1) := by decide +kernel
theorem dX12_status_1 : decode cX12_status 1 = .ok (.iconst (-1), 1) := by decide +kernel
theorem dX12_status_2 : decode cX12_status 2 = .ok (.bipush 6, 2) := by decide +kernel
theorem dX12_status_4 : decode cX12_status 4 = .ok (.invokestatic 52, 3) := by decide +kernel
theorem dX12_status_7 : decode cX12_status 7 = .ok (.ifCond .ne 9, 3) := by decide +kernel
theorem dX12_status_10 : decode cX12_status 10 = .ok (.aload_n 0, 1) := by decide +kernel
theorem dX12_status_11 : decode cX12_status 11 = .ok (.iconst 0, 1) := by decide +kernel
theorem dX12_status_12 : decode cX12_status 12 = .ok (.invokevirtual 118, 3) := by decide +kernel
theorem dX12_status_15 : decode cX12_status 15 = .ok (.ireturn, 1) := by decide +kernel
theorem dX12_status_16 : decode cX12_status 16 = .ok (.iconst 0, 1) := by decide +kernel
theorem dX12_status_17 : decode cX12_status 17 = .ok (.istore_n 2, 1) := by decide +kernel
theorem dX12_status_18 : decode cX12_status 18 = .ok (.iconst 0, 1) := by decide +kernel
theorem dX12_status_19 : decode cX12_status 19 = .ok (.istore_n 3, 1) := by decide +kernel
theorem dX12_status_20 : decode cX12_status 20 = .ok (.iload_n 3, 1) := by decide +kernel
theorem dX12_status_21 : decode cX12_status 21 = .ok (.bipush 7, 2) := by decide +kernel
theorem dX12_status_23 : decode cX12_status 23 = .ok (.if_icmp .ge 32, 3) := by decide +kernel
theorem dX12_status_26 : decode cX12_status 26 = .ok (.iload_n 2, 1) := by decide +kernel
theorem dX12_status_27 : decode cX12_status 27 = .ok (.iload_n 1, 1) := by decide +kernel
theorem dX12_status_28 : decode cX12_status 28 = .ok (.iconst (-1), 1) := by decide +kernel
theorem dX12_status_29 : decode cX12_status 29 = .ok (.if_icmp .eq 8, 3) := by decide +kernel
theorem dX12_status_32 : decode cX12_status 32 = .ok (.iload_n 1, 1) := by decide +kernel
theorem dX12_status_33 : decode cX12_status 33 = .ok (.iload_n 3, 1) := by decide +kernel
theorem dX12_status_34 : decode cX12_status 34 = .ok (.if_icmp .ne 12, 3) := by decide +kernel
theorem dX12_status_37 : decode cX12_status 37 = .ok (.aload_n 0, 1) := by decide +kernel
theorem dX12_status_38 : decode cX12_status 38 = .ok (.getfield 19, 3) := by decide +kernel
theorem dX12_status_41 : decode cX12_status 41 = .ok (.iload_n 3, 1) := by decide +kernel
theorem dX12_status_42 : decode cX12_status 42 = .ok (.iaload, 1) := by decide +kernel
theorem dX12_status_43 : decode cX12_status 43 = .ok (.goto 4, 3) := by decide +kernel
theorem dX12_status_46 : decode cX12_status 46 = .ok (.iconst 0, 1) := by decide +kernel
theorem dX12_status_47 : decode cX12_status 47 = .ok (.iadd, 1) := by decide +kernel
theorem dX12_status_48 : decode cX12_status 48 = .ok (.istore_n 2, 1) := by decide +kernel
theorem dX12_status_49 : decode cX12_status 49 = .ok (.iinc 3 1, 3) := by decide +kernel
theorem dX12_status_52 : decode cX12_status 52 = .ok (.goto (-32), 3) := by decide +kernel
theorem dX12_status_55 : decode cX12_status 55 = .ok (.iload_n 2, 1) := by decide +kernel
theorem dX12_status_56 : decode cX12_status 56 = .ok (.ireturn, 1) := by decide +kernel
