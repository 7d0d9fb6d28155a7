/-! decode rows (out of the printed names) -/
theorem dX0_init_0 : decode cX0_init 0 = .ok (.aload_n 0, 1) := by decide +kernel
theorem dX0_init_1 : decode cX0_init 1 = .ok (.invokespecial 1, 3) := by decide +kernel
theorem dX0_init_4 : decode cX0_init 4 = .ok (.return_, 1) := by decide +kernel
theorem dX0_clear_0 : decode cX0_clear 0 = .ok (.aload_n 0, 1) := by decide +kernel
theorem dX0_clear_1 : decode cX0_clear 1 = .ok (.iconst 0, 1) := by decide +kernel
theorem dX0_clear_2 : decode cX0_clear 2 = .ok (.putfield 7, 3) := by decide +kernel
theorem dX0_clear_5 : decode cX0_clear 5 = .ok (.aload_n 0, 1) := by decide +kernel
theorem dX0_clear_6 : decode cX0_clear 6 = .ok (.iconst 0, 1) := by decide +kernel
theorem dX0_clear_7 : decode cX0_clear 7 = .ok (.putfield 13, 3) := by decide +kernel
theorem dX0_clear_10 : decode cX0_clear 10 = .ok (.aload_n 0, 1) := by decide +kernel
theorem dX0_clear_11 : decode cX0_clear 11 = .ok (.iconst 0, 1) := by decide +kernel
theorem dX0_clear_12 : decode cX0_clear 12 = .ok (.putfield 17, 3) := by decide +kernel
theorem dX0_clear_15 : decode cX0_clear 15 = .ok (.return_, 1) := by decide +kernel
theorem dX0_offer_0 : decode cX0_offer 0 = .ok (.aload_n 0, 1) := by decide +kernel
theorem dX0_offer_1 : decode cX0_offer 1 = .ok (.getfield 7, 3) := by decide +kernel
theorem dX0_offer_4 : decode cX0_offer 4 = .ok (.ifCond .eq 11, 3) := by decide +kernel
theorem dX0_offer_7 : decode cX0_offer 7 = .ok (.iload_n 2, 1) := by decide +kernel
theorem dX0_offer_8 : decode cX0_offer 8 = .ok (.aload_n 0, 1) := by decide +kernel
theorem dX0_offer_9 : decode cX0_offer 9 = .ok (.getfield 17, 3) := by decide +kernel
theorem dX0_offer_12 : decode cX0_offer 12 = .ok (.if_icmp .le 18, 3) := by decide +kernel
theorem dX0_offer_15 : decode cX0_offer 15 = .ok (.aload_n 0, 1) := by decide +kernel
theorem dX0_offer_16 : decode cX0_offer 16 = .ok (.iconst 1, 1) := by decide +kernel
theorem dX0_offer_17 : decode cX0_offer 17 = .ok (.putfield 7, 3) := by decide +kernel
theorem dX0_offer_20 : decode cX0_offer 20 = .ok (.aload_n 0, 1) := by decide +kernel
theorem dX0_offer_21 : decode cX0_offer 21 = .ok (.iload_n 1, 1) := by decide +kernel
theorem dX0_offer_22 : decode cX0_offer 22 = .ok (.putfield 13, 3) := by decide +kernel
theorem dX0_offer_25 : decode cX0_offer 25 = .ok (.aload_n 0, 1) := by decide +kernel
theorem dX0_offer_26 : decode cX0_offer 26 = .ok (.iload_n 2, 1) := by decide +kernel
theorem dX0_offer_27 : decode cX0_offer 27 = .ok (.putfield 17, 3) := by decide +kernel
theorem dX0_offer_30 : decode cX0_offer 30 = .ok (.return_, 1) := by decide +kernel
theorem dX1_init_0 : decode cX1_init 0 = .ok (.aload_n 0, 1) := by decide +kernel
theorem dX1_init_1 : decode cX1_init 1 = .ok (.iload_n 1, 1) := by decide +kernel
theorem dX1_init_2 : decode cX1_init 2 = .ok (.invokespecial 3, 3) := by decide +kernel
theorem dX1_init_5 : decode cX1_init 5 = .ok (.return_, 1) := by decide +kernel
theorem dX1_isOf_0 : decode cX1_isOf 0 = .ok (.iload_n 1, 1) := by decide +kernel
theorem dX1_isOf_1 : decode cX1_isOf 1 = .ok (.iconst 2, 1) := by decide +kernel
theorem dX1_isOf_2 : decode cX1_isOf 2 = .ok (.if_icmp .eq 11, 3) := by decide +kernel
theorem dX1_isOf_5 : decode cX1_isOf 5 = .ok (.aload_n 0, 1) := by decide +kernel
theorem dX1_isOf_6 : decode cX1_isOf 6 = .ok (.iload_n 1, 1) := by decide +kernel
theorem dX1_isOf_7 : decode cX1_isOf 7 = .ok (.invokespecial 9, 3) := by decide +kernel
theorem dX1_isOf_10 : decode cX1_isOf 10 = .ok (.ifCond .eq 7, 3) := by decide +kernel
theorem dX1_isOf_13 : decode cX1_isOf 13 = .ok (.iconst 1, 1) := by decide +kernel
theorem dX1_isOf_14 : decode cX1_isOf 14 = .ok (.goto 4, 3) := by decide +kernel
theorem dX1_isOf_17 : decode cX1_isOf 17 = .ok (.iconst 0, 1) := by decide +kernel
theorem dX1_isOf_18 : decode cX1_isOf 18 = .ok (.ireturn, 1) := by decide +kernel
theorem dX1_pull_0 : decode cX1_pull 0 = .ok (.aload_n 2, 1) := by decide +kernel
theorem dX1_pull_1 : decode cX1_pull 1 = .ok (.invokevirtual 13, 3) := by decide +kernel
theorem dX1_pull_4 : decode cX1_pull 4 = .ok (.ifCond .eq 7, 3) := by decide +kernel
theorem dX1_pull_7 : decode cX1_pull 7 = .ok (.iconst 1, 1) := by decide +kernel
theorem dX1_pull_8 : decode cX1_pull 8 = .ok (.goto 9, 3) := by decide +kernel
theorem dX1_pull_11 : decode cX1_pull 11 = .ok (.aload_n 0, 1) := by decide +kernel
theorem dX1_pull_12 : decode cX1_pull 12 = .ok (.aload_n 1, 1) := by decide +kernel
theorem dX1_pull_13 : decode cX1_pull 13 = .ok (.aload_n 2, 1) := by decide +kernel
theorem dX1_pull_14 : decode cX1_pull 14 = .ok (.invokespecial 19, 3) := by decide +kernel
theorem dX1_pull_17 : decode cX1_pull 17 = .ok (.ireturn, 1) := by decide +kernel
theorem dX1_tire_0 : decode cX1_tire 0 = .ok (.aload_n 1, 1) := by decide +kernel
theorem dX1_tire_1 : decode cX1_tire 1 = .ok (.invokevirtual 13, 3) := by decide +kernel
theorem dX1_tire_4 : decode cX1_tire 4 = .ok (.ifCond .eq 13, 3) := by decide +kernel
theorem dX1_tire_7 : decode cX1_tire 7 = .ok (.aload_n 0, 1) := by decide +kernel
theorem dX1_tire_8 : decode cX1_tire 8 = .ok (.aload_n 1, 1) := by decide +kernel
theorem dX1_tire_9 : decode cX1_tire 9 = .ok (.invokespecial 23, 3) := by decide +kernel
theorem dX1_tire_12 : decode cX1_tire 12 = .ok (.iconst 3, 1) := by decide +kernel
theorem dX1_tire_13 : decode cX1_tire 13 = .ok (.iadd, 1) := by decide +kernel
theorem dX1_tire_14 : decode cX1_tire 14 = .ok (.goto 8, 3) := by decide +kernel
theorem dX1_tire_17 : decode cX1_tire 17 = .ok (.aload_n 0, 1) := by decide +kernel
theorem dX1_tire_18 : decode cX1_tire 18 = .ok (.aload_n 1, 1) := by decide +kernel
theorem dX1_tire_19 : decode cX1_tire 19 = .ok (.invokespecial 23, 3) := by decide +kernel
theorem dX1_tire_22 : decode cX1_tire 22 = .ok (.ireturn, 1) := by decide +kernel
theorem dX1_letsGo_0 : decode cX1_letsGo 0 = .ok (.aload_n 2, 1) := by decide +kernel
theorem dX1_letsGo_1 : decode cX1_letsGo 1 = .ok (.invokevirtual 13, 3) := by decide +kernel
theorem dX1_letsGo_4 : decode cX1_letsGo 4 = .ok (.ifCond .ne 12, 3) := by decide +kernel
theorem dX1_letsGo_7 : decode cX1_letsGo 7 = .ok (.aload_n 0, 1) := by decide +kernel
theorem dX1_letsGo_8 : decode cX1_letsGo 8 = .ok (.aload_n 1, 1) := by decide +kernel
theorem dX1_letsGo_9 : decode cX1_letsGo 9 = .ok (.aload_n 2, 1) := by decide +kernel
theorem dX1_letsGo_10 : decode cX1_letsGo 10 = .ok (.invokespecial 27, 3) := by decide +kernel
theorem dX1_letsGo_13 : decode cX1_letsGo 13 = .ok (.ifCond .eq 7, 3) := by decide +kernel
theorem dX1_letsGo_16 : decode cX1_letsGo 16 = .ok (.iconst 1, 1) := by decide +kernel
theorem dX1_letsGo_17 : decode cX1_letsGo 17 = .ok (.goto 4, 3) := by decide +kernel
theorem dX1_letsGo_20 : decode cX1_letsGo 20 = .ok (.iconst 0, 1) := by decide +kernel
theorem dX1_letsGo_21 : decode cX1_letsGo 21 = .ok (.ireturn, 1) := by decide +kernel
theorem dX2_init_0 : decode cX2_init 0 = .ok (.aload_n 0, 1) := by decide +kernel
theorem dX2_init_1 : decode cX2_init 1 = .ok (.invokespecial 3, 3) := by decide +kernel
theorem dX2_init_4 : decode cX2_init 4 = .ok (.aload_n 0, 1) := by decide +kernel
theorem dX2_init_5 : decode cX2_init 5 = .ok (.bipush 32, 2) := by decide +kernel
theorem dX2_init_7 : decode cX2_init 7 = .ok (.putfield 9, 3) := by decide +kernel
theorem dX2_init_10 : decode cX2_init 10 = .ok (.aload_n 0, 1) := by decide +kernel
theorem dX2_init_11 : decode cX2_init 11 = .ok (.iconst 3, 1) := by decide +kernel
theorem dX2_init_12 : decode cX2_init 12 = .ok (.putfield 15, 3) := by decide +kernel
theorem dX2_init_15 : decode cX2_init 15 = .ok (.aload_n 0, 1) := by decide +kernel
theorem dX2_init_16 : decode cX2_init 16 = .ok (.bipush 6, 2) := by decide +kernel
theorem dX2_init_18 : decode cX2_init 18 = .ok (.anewarray 18, 3) := by decide +kernel
theorem dX2_init_21 : decode cX2_init 21 = .ok (.putfield 20, 3) := by decide +kernel
theorem dX2_init_24 : decode cX2_init 24 = .ok (.aload_n 0, 1) := by decide +kernel
theorem dX2_init_25 : decode cX2_init 25 = .ok (.bipush 10, 2) := by decide +kernel
theorem dX2_init_27 : decode cX2_init 27 = .ok (.anewarray 24, 3) := by decide +kernel
theorem dX2_init_30 : decode cX2_init 30 = .ok (.putfield 26, 3) := by decide +kernel
theorem dX2_init_33 : decode cX2_init 33 = .ok (.new 18, 3) := by decide +kernel
theorem dX2_init_36 : decode cX2_init 36 = .ok (.dup, 1) := by decide +kernel
theorem dX2_init_37 : decode cX2_init 37 = .ok (.iconst 0, 1) := by decide +kernel
theorem dX2_init_38 : decode cX2_init 38 = .ok (.invokespecial 30, 3) := by decide +kernel
theorem dX2_init_41 : decode cX2_init 41 = .ok (.astore_n 1, 1) := by decide +kernel
theorem dX2_init_42 : decode cX2_init 42 = .ok (.aload_n 0, 1) := by decide +kernel
theorem dX2_init_43 : decode cX2_init 43 = .ok (.getfield 20, 3) := by decide +kernel
theorem dX2_init_46 : decode cX2_init 46 = .ok (.iconst 0, 1) := by decide +kernel
theorem dX2_init_47 : decode cX2_init 47 = .ok (.aload_n 1, 1) := by decide +kernel
theorem dX2_init_48 : decode cX2_init 48 = .ok (.aastore, 1) := by decide +kernel
theorem dX2_init_49 : decode cX2_init 49 = .ok (.aload_n 0, 1) := by decide +kernel
theorem dX2_init_50 : decode cX2_init 50 = .ok (.getfield 20, 3) := by decide +kernel
theorem dX2_init_53 : decode cX2_init 53 = .ok (.iconst 1, 1) := by decide +kernel
theorem dX2_init_54 : decode cX2_init 54 = .ok (.new 33, 3) := by decide +kernel
theorem dX2_init_57 : decode cX2_init 57 = .ok (.dup, 1) := by decide +kernel
theorem dX2_init_58 : decode cX2_init 58 = .ok (.iconst 1, 1) := by decide +kernel
theorem dX2_init_59 : decode cX2_init 59 = .ok (.invokespecial 35, 3) := by decide +kernel
theorem dX2_init_62 : decode cX2_init 62 = .ok (.aastore, 1) := by decide +kernel
theorem dX2_init_63 : decode cX2_init 63 = .ok (.aload_n 0, 1) := by decide +kernel
theorem dX2_init_64 : decode cX2_init 64 = .ok (.getfield 20, 3) := by decide +kernel
theorem dX2_init_67 : decode cX2_init 67 = .ok (.iconst 2, 1) := by decide +kernel
theorem dX2_init_68 : decode cX2_init 68 = .ok (.new 36, 3) := by decide +kernel
theorem dX2_init_71 : decode cX2_init 71 = .ok (.dup, 1) := by decide +kernel
theorem dX2_init_72 : decode cX2_init 72 = .ok (.iconst 2, 1) := by decide +kernel
theorem dX2_init_73 : decode cX2_init 73 = .ok (.invokespecial 38, 3) := by decide +kernel
theorem dX2_init_76 : decode cX2_init 76 = .ok (.aastore, 1) := by decide +kernel
theorem dX2_init_77 : decode cX2_init 77 = .ok (.aload_n 0, 1) := by decide +kernel
theorem dX2_init_78 : decode cX2_init 78 = .ok (.getfield 20, 3) := by decide +kernel
theorem dX2_init_81 : decode cX2_init 81 = .ok (.iconst 3, 1) := by decide +kernel
theorem dX2_init_82 : decode cX2_init 82 = .ok (.new 39, 3) := by decide +kernel
theorem dX2_init_85 : decode cX2_init 85 = .ok (.dup, 1) := by decide +kernel
theorem dX2_init_86 : decode cX2_init 86 = .ok (.iconst 3, 1) := by decide +kernel
theorem dX2_init_87 : decode cX2_init 87 = .ok (.invokespecial 41, 3) := by decide +kernel
theorem dX2_init_90 : decode cX2_init 90 = .ok (.aastore, 1) := by decide +kernel
theorem dX2_init_91 : decode cX2_init 91 = .ok (.aload_n 0, 1) := by decide +kernel
theorem dX2_init_92 : decode cX2_init 92 = .ok (.getfield 20, 3) := by decide +kernel
theorem dX2_init_95 : decode cX2_init 95 = .ok (.iconst 4, 1) := by decide +kernel
theorem dX2_init_96 : decode cX2_init 96 = .ok (.new 42, 3) := by decide +kernel
theorem dX2_init_99 : decode cX2_init 99 = .ok (.dup, 1) := by decide +kernel
theorem dX2_init_100 : decode cX2_init 100 = .ok (.iconst 4, 1) := by decide +kernel
theorem dX2_init_101 : decode cX2_init 101 = .ok (.invokespecial 44, 3) := by decide +kernel
theorem dX2_init_104 : decode cX2_init 104 = .ok (.aastore, 1) := by decide +kernel
theorem dX2_init_105 : decode cX2_init 105 = .ok (.aload_n 0, 1) := by decide +kernel
theorem dX2_init_106 : decode cX2_init 106 = .ok (.getfield 20, 3) := by decide +kernel
theorem dX2_init_109 : decode cX2_init 109 = .ok (.iconst 5, 1) := by decide +kernel
theorem dX2_init_110 : decode cX2_init 110 = .ok (.new 45, 3) := by decide +kernel
theorem dX2_init_113 : decode cX2_init 113 = .ok (.dup, 1) := by decide +kernel
theorem dX2_init_114 : decode cX2_init 114 = .ok (.iconst 5, 1) := by decide +kernel
theorem dX2_init_115 : decode cX2_init 115 = .ok (.invokespecial 47, 3) := by decide +kernel
theorem dX2_init_118 : decode cX2_init 118 = .ok (.aastore, 1) := by decide +kernel
theorem dX2_init_119 : decode cX2_init 119 = .ok (.iconst 0, 1) := by decide +kernel
theorem dX2_init_120 : decode cX2_init 120 = .ok (.istore_n 2, 1) := by decide +kernel
theorem dX2_init_121 : decode cX2_init 121 = .ok (.iload_n 2, 1) := by decide +kernel
theorem dX2_init_122 : decode cX2_init 122 = .ok (.bipush 10, 2) := by decide +kernel
theorem dX2_init_124 : decode cX2_init 124 = .ok (.if_icmp .ge 23, 3) := by decide +kernel
theorem dX2_init_127 : decode cX2_init 127 = .ok (.aload_n 0, 1) := by decide +kernel
theorem dX2_init_128 : decode cX2_init 128 = .ok (.getfield 26, 3) := by decide +kernel
theorem dX2_init_131 : decode cX2_init 131 = .ok (.iload_n 2, 1) := by decide +kernel
theorem dX2_init_132 : decode cX2_init 132 = .ok (.new 24, 3) := by decide +kernel
theorem dX2_init_135 : decode cX2_init 135 = .ok (.dup, 1) := by decide +kernel
theorem dX2_init_136 : decode cX2_init 136 = .ok (.aload_n 1, 1) := by decide +kernel
theorem dX2_init_137 : decode cX2_init 137 = .ok (.invokespecial 48, 3) := by decide +kernel
theorem dX2_init_140 : decode cX2_init 140 = .ok (.aastore, 1) := by decide +kernel
theorem dX2_init_141 : decode cX2_init 141 = .ok (.iinc 2 1, 3) := by decide +kernel
theorem dX2_init_144 : decode cX2_init 144 = .ok (.goto (-23), 3) := by decide +kernel
theorem dX2_init_147 : decode cX2_init 147 = .ok (.return_, 1) := by decide +kernel
theorem dX2_become_0 : decode cX2_become 0 = .ok (.aload_n 0, 1) := by decide +kernel
theorem dX2_become_1 : decode cX2_become 1 = .ok (.aload_n 1, 1) := by decide +kernel
theorem dX2_become_2 : decode cX2_become 2 = .ok (.getfield 51, 3) := by decide +kernel
theorem dX2_become_5 : decode cX2_become 5 = .ok (.putfield 51, 3) := by decide +kernel
theorem dX2_become_8 : decode cX2_become 8 = .ok (.aload_n 0, 1) := by decide +kernel
theorem dX2_become_9 : decode cX2_become 9 = .ok (.aload_n 1, 1) := by decide +kernel
theorem dX2_become_10 : decode cX2_become 10 = .ok (.getfield 9, 3) := by decide +kernel
theorem dX2_become_13 : decode cX2_become 13 = .ok (.putfield 9, 3) := by decide +kernel
theorem dX2_become_16 : decode cX2_become 16 = .ok (.aload_n 0, 1) := by decide +kernel
theorem dX2_become_17 : decode cX2_become 17 = .ok (.aload_n 1, 1) := by decide +kernel
theorem dX2_become_18 : decode cX2_become 18 = .ok (.getfield 54, 3) := by decide +kernel
theorem dX2_become_21 : decode cX2_become 21 = .ok (.putfield 54, 3) := by decide +kernel
theorem dX2_become_24 : decode cX2_become 24 = .ok (.aload_n 0, 1) := by decide +kernel
theorem dX2_become_25 : decode cX2_become 25 = .ok (.aload_n 1, 1) := by decide +kernel
theorem dX2_become_26 : decode cX2_become 26 = .ok (.getfield 15, 3) := by decide +kernel
theorem dX2_become_29 : decode cX2_become 29 = .ok (.putfield 15, 3) := by decide +kernel
theorem dX2_become_32 : decode cX2_become 32 = .ok (.aload_n 0, 1) := by decide +kernel
theorem dX2_become_33 : decode cX2_become 33 = .ok (.aload_n 1, 1) := by decide +kernel
theorem dX2_become_34 : decode cX2_become 34 = .ok (.getfield 57, 3) := by decide +kernel
theorem dX2_become_37 : decode cX2_become 37 = .ok (.putfield 57, 3) := by decide +kernel
theorem dX2_become_40 : decode cX2_become 40 = .ok (.iconst 0, 1) := by decide +kernel
theorem dX2_become_41 : decode cX2_become 41 = .ok (.istore_n 2, 1) := by decide +kernel
theorem dX2_become_42 : decode cX2_become 42 = .ok (.iload_n 2, 1) := by decide +kernel
theorem dX2_become_43 : decode cX2_become 43 = .ok (.aload_n 0, 1) := by decide +kernel
theorem dX2_become_44 : decode cX2_become 44 = .ok (.getfield 57, 3) := by decide +kernel
theorem dX2_become_47 : decode cX2_become 47 = .ok (.if_icmp .ge 24, 3) := by decide +kernel
theorem dX2_become_50 : decode cX2_become 50 = .ok (.aload_n 0, 1) := by decide +kernel
theorem dX2_become_51 : decode cX2_become 51 = .ok (.getfield 26, 3) := by decide +kernel
theorem dX2_become_54 : decode cX2_become 54 = .ok (.iload_n 2, 1) := by decide +kernel
theorem dX2_become_55 : decode cX2_become 55 = .ok (.aaload, 1) := by decide +kernel
theorem dX2_become_56 : decode cX2_become 56 = .ok (.aload_n 1, 1) := by decide +kernel
theorem dX2_become_57 : decode cX2_become 57 = .ok (.getfield 26, 3) := by decide +kernel
theorem dX2_become_60 : decode cX2_become 60 = .ok (.iload_n 2, 1) := by decide +kernel
theorem dX2_become_61 : decode cX2_become 61 = .ok (.aaload, 1) := by decide +kernel
theorem dX2_become_62 : decode cX2_become 62 = .ok (.invokevirtual 60, 3) := by decide +kernel
theorem dX2_become_65 : decode cX2_become 65 = .ok (.iinc 2 1, 3) := by decide +kernel
theorem dX2_become_68 : decode cX2_become 68 = .ok (.goto (-26), 3) := by decide +kernel
theorem dX2_become_71 : decode cX2_become 71 = .ok (.return_, 1) := by decide +kernel
theorem dX2_has_0 : decode cX2_has 0 = .ok (.iload_n 1, 1) := by decide +kernel
theorem dX2_has_1 : decode cX2_has 1 = .ok (.ifCond .lt 15, 3) := by decide +kernel
theorem dX2_has_4 : decode cX2_has 4 = .ok (.iload_n 1, 1) := by decide +kernel
theorem dX2_has_5 : decode cX2_has 5 = .ok (.aload_n 0, 1) := by decide +kernel
theorem dX2_has_6 : decode cX2_has 6 = .ok (.getfield 57, 3) := by decide +kernel
theorem dX2_has_9 : decode cX2_has 9 = .ok (.if_icmp .ge 7, 3) := by decide +kernel
theorem dX2_has_12 : decode cX2_has 12 = .ok (.iconst 1, 1) := by decide +kernel
theorem dX2_has_13 : decode cX2_has 13 = .ok (.goto 4, 3) := by decide +kernel
theorem dX2_has_16 : decode cX2_has 16 = .ok (.iconst 0, 1) := by decide +kernel
theorem dX2_has_17 : decode cX2_has 17 = .ok (.ireturn, 1) := by decide +kernel
theorem dX2_isFull_0 : decode cX2_isFull 0 = .ok (.aload_n 0, 1) := by decide +kernel
theorem dX2_isFull_1 : decode cX2_isFull 1 = .ok (.getfield 57, 3) := by decide +kernel
theorem dX2_isFull_4 : decode cX2_isFull 4 = .ok (.bipush 10, 2) := by decide +kernel
theorem dX2_isFull_6 : decode cX2_isFull 6 = .ok (.if_icmp .lt 7, 3) := by decide +kernel
theorem dX2_isFull_9 : decode cX2_isFull 9 = .ok (.iconst 1, 1) := by decide +kernel
theorem dX2_isFull_10 : decode cX2_isFull 10 = .ok (.goto 4, 3) := by decide +kernel
theorem dX2_isFull_13 : decode cX2_isFull 13 = .ok (.iconst 0, 1) := by decide +kernel
theorem dX2_isFull_14 : decode cX2_isFull 14 = .ok (.ireturn, 1) := by decide +kernel
theorem dX2_addOne_0 : decode cX2_addOne 0 = .ok (.aload_n 0, 1) := by decide +kernel
theorem dX2_addOne_1 : decode cX2_addOne 1 = .ok (.invokevirtual 64, 3) := by decide +kernel
theorem dX2_addOne_4 : decode cX2_addOne 4 = .ok (.ifCond .ne 10, 3) := by decide +kernel
theorem dX2_addOne_7 : decode cX2_addOne 7 = .ok (.iload_n 1, 1) := by decide +kernel
theorem dX2_addOne_8 : decode cX2_addOne 8 = .ok (.invokestatic 68, 3) := by decide +kernel
theorem dX2_addOne_11 : decode cX2_addOne 11 = .ok (.ifCond .ne 4, 3) := by decide +kernel
theorem dX2_addOne_14 : decode cX2_addOne 14 = .ok (.return_, 1) := by decide +kernel
theorem dX2_addOne_15 : decode cX2_addOne 15 = .ok (.aload_n 0, 1) := by decide +kernel
theorem dX2_addOne_16 : decode cX2_addOne 16 = .ok (.getfield 26, 3) := by decide +kernel
theorem dX2_addOne_19 : decode cX2_addOne 19 = .ok (.aload_n 0, 1) := by decide +kernel
theorem dX2_addOne_20 : decode cX2_addOne 20 = .ok (.getfield 57, 3) := by decide +kernel
theorem dX2_addOne_23 : decode cX2_addOne 23 = .ok (.aaload, 1) := by decide +kernel
theorem dX2_addOne_24 : decode cX2_addOne 24 = .ok (.astore_n 3, 1) := by decide +kernel
theorem dX2_addOne_25 : decode cX2_addOne 25 = .ok (.aload_n 3, 1) := by decide +kernel
theorem dX2_addOne_26 : decode cX2_addOne 26 = .ok (.aload_n 0, 1) := by decide +kernel
theorem dX2_addOne_27 : decode cX2_addOne 27 = .ok (.getfield 20, 3) := by decide +kernel
theorem dX2_addOne_30 : decode cX2_addOne 30 = .ok (.iload_n 1, 1) := by decide +kernel
theorem dX2_addOne_31 : decode cX2_addOne 31 = .ok (.aaload, 1) := by decide +kernel
theorem dX2_addOne_32 : decode cX2_addOne 32 = .ok (.putfield 72, 3) := by decide +kernel
theorem dX2_addOne_35 : decode cX2_addOne 35 = .ok (.aload_n 3, 1) := by decide +kernel
theorem dX2_addOne_36 : decode cX2_addOne 36 = .ok (.iload_n 2, 1) := by decide +kernel
theorem dX2_addOne_37 : decode cX2_addOne 37 = .ok (.putfield 76, 3) := by decide +kernel
theorem dX2_addOne_40 : decode cX2_addOne 40 = .ok (.aload_n 3, 1) := by decide +kernel
theorem dX2_addOne_41 : decode cX2_addOne 41 = .ok (.iconst 0, 1) := by decide +kernel
theorem dX2_addOne_42 : decode cX2_addOne 42 = .ok (.putfield 79, 3) := by decide +kernel
theorem dX2_addOne_45 : decode cX2_addOne 45 = .ok (.aload_n 3, 1) := by decide +kernel
theorem dX2_addOne_46 : decode cX2_addOne 46 = .ok (.iconst 0, 1) := by decide +kernel
theorem dX2_addOne_47 : decode cX2_addOne 47 = .ok (.putfield 82, 3) := by decide +kernel
theorem dX2_addOne_50 : decode cX2_addOne 50 = .ok (.aload_n 3, 1) := by decide +kernel
theorem dX2_addOne_51 : decode cX2_addOne 51 = .ok (.bipush 8, 2) := by decide +kernel
theorem dX2_addOne_53 : decode cX2_addOne 53 = .ok (.putfield 85, 3) := by decide +kernel
theorem dX2_addOne_56 : decode cX2_addOne 56 = .ok (.aload_n 0, 1) := by decide +kernel
theorem dX2_addOne_57 : decode cX2_addOne 57 = .ok (.dup, 1) := by decide +kernel
theorem dX2_addOne_58 : decode cX2_addOne 58 = .ok (.getfield 57, 3) := by decide +kernel
theorem dX2_addOne_61 : decode cX2_addOne 61 = .ok (.iconst 1, 1) := by decide +kernel
theorem dX2_addOne_62 : decode cX2_addOne 62 = .ok (.iadd, 1) := by decide +kernel
theorem dX2_addOne_63 : decode cX2_addOne 63 = .ok (.putfield 57, 3) := by decide +kernel
theorem dX2_addOne_66 : decode cX2_addOne 66 = .ok (.return_, 1) := by decide +kernel
theorem dX2_weekOfYear_0 : decode cX2_weekOfYear 0 = .ok (.aload_n 0, 1) := by decide +kernel
theorem dX2_weekOfYear_1 : decode cX2_weekOfYear 1 = .ok (.getfield 51, 3) := by decide +kernel
theorem dX2_weekOfYear_4 : decode cX2_weekOfYear 4 = .ok (.bipush 7, 2) := by decide +kernel
theorem dX2_weekOfYear_6 : decode cX2_weekOfYear 6 = .ok (.idiv, 1) := by decide +kernel
theorem dX2_weekOfYear_7 : decode cX2_weekOfYear 7 = .ok (.bipush 8, 2) := by decide +kernel
theorem dX2_weekOfYear_9 : decode cX2_weekOfYear 9 = .ok (.irem, 1) := by decide +kernel
theorem dX2_weekOfYear_10 : decode cX2_weekOfYear 10 = .ok (.ireturn, 1) := by decide +kernel
theorem dX2_isHarvest_0 : decode cX2_isHarvest 0 = .ok (.aload_n 0, 1) := by decide +kernel
theorem dX2_isHarvest_1 : decode cX2_isHarvest 1 = .ok (.getfield 9, 3) := by decide +kernel
theorem dX2_isHarvest_4 : decode cX2_isHarvest 4 = .ok (.aload_n 0, 1) := by decide +kernel
theorem dX2_isHarvest_5 : decode cX2_isHarvest 5 = .ok (.invokevirtual 88, 3) := by decide +kernel
theorem dX2_isHarvest_8 : decode cX2_isHarvest 8 = .ok (.ishr, 1) := by decide +kernel
theorem dX2_isHarvest_9 : decode cX2_isHarvest 9 = .ok (.iconst 1, 1) := by decide +kernel
theorem dX2_isHarvest_10 : decode cX2_isHarvest 10 = .ok (.iand, 1) := by decide +kernel
theorem dX2_isHarvest_11 : decode cX2_isHarvest 11 = .ok (.iconst 1, 1) := by decide +kernel
theorem dX2_isHarvest_12 : decode cX2_isHarvest 12 = .ok (.if_icmp .ne 7, 3) := by decide +kernel
theorem dX2_isHarvest_15 : decode cX2_isHarvest 15 = .ok (.iconst 1, 1) := by decide +kernel
theorem dX2_isHarvest_16 : decode cX2_isHarvest 16 = .ok (.goto 4, 3) := by decide +kernel
theorem dX2_isHarvest_19 : decode cX2_isHarvest 19 = .ok (.iconst 0, 1) := by decide +kernel
theorem dX2_isHarvest_20 : decode cX2_isHarvest 20 = .ok (.ireturn, 1) := by decide +kernel
theorem dX2_isSunday_0 : decode cX2_isSunday 0 = .ok (.aload_n 0, 1) := by decide +kernel
theorem dX2_isSunday_1 : decode cX2_isSunday 1 = .ok (.getfield 51, 3) := by decide +kernel
theorem dX2_isSunday_4 : decode cX2_isSunday 4 = .ok (.bipush 7, 2) := by decide +kernel
theorem dX2_isSunday_6 : decode cX2_isSunday 6 = .ok (.irem, 1) := by decide +kernel
theorem dX2_isSunday_7 : decode cX2_isSunday 7 = .ok (.bipush 6, 2) := by decide +kernel
theorem dX2_isSunday_9 : decode cX2_isSunday 9 = .ok (.if_icmp .ne 7, 3) := by decide +kernel
theorem dX2_isSunday_12 : decode cX2_isSunday 12 = .ok (.iconst 1, 1) := by decide +kernel
theorem dX2_isSunday_13 : decode cX2_isSunday 13 = .ok (.goto 4, 3) := by decide +kernel
theorem dX2_isSunday_16 : decode cX2_isSunday 16 = .ok (.iconst 0, 1) := by decide +kernel
theorem dX2_isSunday_17 : decode cX2_isSunday 17 = .ok (.ireturn, 1) := by decide +kernel
theorem dX2_towards_0 : decode cX2_towards 0 = .ok (.iload_n 1, 1) := by decide +kernel
theorem dX2_towards_1 : decode cX2_towards 1 = .ok (.iconst 1, 1) := by decide +kernel
theorem dX2_towards_2 : decode cX2_towards 2 = .ok (.if_icmp .ne 10, 3) := by decide +kernel
theorem dX2_towards_5 : decode cX2_towards 5 = .ok (.aload_n 0, 1) := by decide +kernel
theorem dX2_towards_6 : decode cX2_towards 6 = .ok (.getfield 54, 3) := by decide +kernel
theorem dX2_towards_9 : decode cX2_towards 9 = .ok (.goto 8, 3) := by decide +kernel
theorem dX2_towards_12 : decode cX2_towards 12 = .ok (.aload_n 0, 1) := by decide +kernel
theorem dX2_towards_13 : decode cX2_towards 13 = .ok (.getfield 54, 3) := by decide +kernel
theorem dX2_towards_16 : decode cX2_towards 16 = .ok (.ineg, 1) := by decide +kernel
theorem dX2_towards_17 : decode cX2_towards 17 = .ok (.ireturn, 1) := by decide +kernel
theorem dX2_sideAhead_0 : decode cX2_sideAhead 0 = .ok (.aload_n 0, 1) := by decide +kernel
theorem dX2_sideAhead_1 : decode cX2_sideAhead 1 = .ok (.getfield 54, 3) := by decide +kernel
theorem dX2_sideAhead_4 : decode cX2_sideAhead 4 = .ok (.ifCond .ne 5, 3) := by decide +kernel
theorem dX2_sideAhead_7 : decode cX2_sideAhead 7 = .ok (.iconst (-1), 1) := by decide +kernel
theorem dX2_sideAhead_8 : decode cX2_sideAhead 8 = .ok (.ireturn, 1) := by decide +kernel
theorem dX2_sideAhead_9 : decode cX2_sideAhead 9 = .ok (.aload_n 0, 1) := by decide +kernel
theorem dX2_sideAhead_10 : decode cX2_sideAhead 10 = .ok (.getfield 54, 3) := by decide +kernel
theorem dX2_sideAhead_13 : decode cX2_sideAhead 13 = .ok (.ifCond .ge 7, 3) := by decide +kernel
theorem dX2_sideAhead_16 : decode cX2_sideAhead 16 = .ok (.iconst 0, 1) := by decide +kernel
theorem dX2_sideAhead_17 : decode cX2_sideAhead 17 = .ok (.goto 4, 3) := by decide +kernel
theorem dX2_sideAhead_20 : decode cX2_sideAhead 20 = .ok (.iconst 1, 1) := by decide +kernel
theorem dX2_sideAhead_21 : decode cX2_sideAhead 21 = .ok (.ireturn, 1) := by decide +kernel
theorem dX2_setOn_0 : decode cX2_setOn 0 = .ok (.iconst 0, 1) := by decide +kernel
theorem dX2_setOn_1 : decode cX2_setOn 1 = .ok (.istore_n 1, 1) := by decide +kernel
theorem dX2_setOn_2 : decode cX2_setOn 2 = .ok (.iconst 0, 1) := by decide +kernel
theorem dX2_setOn_3 : decode cX2_setOn 3 = .ok (.istore_n 2, 1) := by decide +kernel
theorem dX2_setOn_4 : decode cX2_setOn 4 = .ok (.iload_n 2, 1) := by decide +kernel
theorem dX2_setOn_5 : decode cX2_setOn 5 = .ok (.aload_n 0, 1) := by decide +kernel
theorem dX2_setOn_6 : decode cX2_setOn 6 = .ok (.getfield 57, 3) := by decide +kernel
theorem dX2_setOn_9 : decode cX2_setOn 9 = .ok (.if_icmp .ge 23, 3) := by decide +kernel
theorem dX2_setOn_12 : decode cX2_setOn 12 = .ok (.iload_n 1, 1) := by decide +kernel
theorem dX2_setOn_13 : decode cX2_setOn 13 = .ok (.aload_n 0, 1) := by decide +kernel
theorem dX2_setOn_14 : decode cX2_setOn 14 = .ok (.getfield 26, 3) := by decide +kernel
theorem dX2_setOn_17 : decode cX2_setOn 17 = .ok (.iload_n 2, 1) := by decide +kernel
theorem dX2_setOn_18 : decode cX2_setOn 18 = .ok (.aaload, 1) := by decide +kernel
theorem dX2_setOn_19 : decode cX2_setOn 19 = .ok (.getfield 79, 3) := by decide +kernel
theorem dX2_setOn_22 : decode cX2_setOn 22 = .ok (.iload_n 2, 1) := by decide +kernel
theorem dX2_setOn_23 : decode cX2_setOn 23 = .ok (.ishl, 1) := by decide +kernel
theorem dX2_setOn_24 : decode cX2_setOn 24 = .ok (.ior, 1) := by decide +kernel
theorem dX2_setOn_25 : decode cX2_setOn 25 = .ok (.istore_n 1, 1) := by decide +kernel
theorem dX2_setOn_26 : decode cX2_setOn 26 = .ok (.iinc 2 1, 3) := by decide +kernel
theorem dX2_setOn_29 : decode cX2_setOn 29 = .ok (.goto (-25), 3) := by decide +kernel
theorem dX2_setOn_32 : decode cX2_setOn 32 = .ok (.iload_n 1, 1) := by decide +kernel
theorem dX2_setOn_33 : decode cX2_setOn 33 = .ok (.ireturn, 1) := by decide +kernel
theorem dX2_setOff_0 : decode cX2_setOff 0 = .ok (.iconst 0, 1) := by decide +kernel
theorem dX2_setOff_1 : decode cX2_setOff 1 = .ok (.istore_n 2, 1) := by decide +kernel
theorem dX2_setOff_2 : decode cX2_setOff 2 = .ok (.iconst 0, 1) := by decide +kernel
theorem dX2_setOff_3 : decode cX2_setOff 3 = .ok (.istore_n 3, 1) := by decide +kernel
theorem dX2_setOff_4 : decode cX2_setOff 4 = .ok (.iload_n 3, 1) := by decide +kernel
theorem dX2_setOff_5 : decode cX2_setOff 5 = .ok (.aload_n 0, 1) := by decide +kernel
theorem dX2_setOff_6 : decode cX2_setOff 6 = .ok (.getfield 57, 3) := by decide +kernel
theorem dX2_setOff_9 : decode cX2_setOff 9 = .ok (.if_icmp .ge 40, 3) := by decide +kernel
theorem dX2_setOff_12 : decode cX2_setOff 12 = .ok (.aload_n 0, 1) := by decide +kernel
theorem dX2_setOff_13 : decode cX2_setOff 13 = .ok (.getfield 26, 3) := by decide +kernel
theorem dX2_setOff_16 : decode cX2_setOff 16 = .ok (.iload_n 3, 1) := by decide +kernel
theorem dX2_setOff_17 : decode cX2_setOff 17 = .ok (.aaload, 1) := by decide +kernel
theorem dX2_setOff_18 : decode cX2_setOff 18 = .ok (.getfield 76, 3) := by decide +kernel
theorem dX2_setOff_21 : decode cX2_setOff 21 = .ok (.iload_n 1, 1) := by decide +kernel
theorem dX2_setOff_22 : decode cX2_setOff 22 = .ok (.if_icmp .ne 21, 3) := by decide +kernel
theorem dX2_setOff_25 : decode cX2_setOff 25 = .ok (.aload_n 0, 1) := by decide +kernel
theorem dX2_setOff_26 : decode cX2_setOff 26 = .ok (.getfield 26, 3) := by decide +kernel
theorem dX2_setOff_29 : decode cX2_setOff 29 = .ok (.iload_n 3, 1) := by decide +kernel
theorem dX2_setOff_30 : decode cX2_setOff 30 = .ok (.aaload, 1) := by decide +kernel
theorem dX2_setOff_31 : decode cX2_setOff 31 = .ok (.getfield 79, 3) := by decide +kernel
theorem dX2_setOff_34 : decode cX2_setOff 34 = .ok (.ifCond .ne 9, 3) := by decide +kernel
theorem dX2_setOff_37 : decode cX2_setOff 37 = .ok (.iload_n 2, 1) := by decide +kernel
theorem dX2_setOff_38 : decode cX2_setOff 38 = .ok (.iconst 1, 1) := by decide +kernel
theorem dX2_setOff_39 : decode cX2_setOff 39 = .ok (.iload_n 3, 1) := by decide +kernel
theorem dX2_setOff_40 : decode cX2_setOff 40 = .ok (.ishl, 1) := by decide +kernel
theorem dX2_setOff_41 : decode cX2_setOff 41 = .ok (.ior, 1) := by decide +kernel
theorem dX2_setOff_42 : decode cX2_setOff 42 = .ok (.istore_n 2, 1) := by decide +kernel
theorem dX2_setOff_43 : decode cX2_setOff 43 = .ok (.iinc 3 1, 3) := by decide +kernel
theorem dX2_setOff_46 : decode cX2_setOff 46 = .ok (.goto (-42), 3) := by decide +kernel
theorem dX2_setOff_49 : decode cX2_setOff 49 = .ok (.iload_n 2, 1) := by decide +kernel
theorem dX2_setOff_50 : decode cX2_setOff 50 = .ok (.ireturn, 1) := by decide +kernel
theorem dX2_pullOf_0 : decode cX2_pullOf 0 = .ok (.iconst 0, 1) := by decide +kernel
theorem dX2_pullOf_1 : decode cX2_pullOf 1 = .ok (.istore_n 2, 1) := by decide +kernel
theorem dX2_pullOf_2 : decode cX2_pullOf 2 = .ok (.iconst 0, 1) := by decide +kernel
theorem dX2_pullOf_3 : decode cX2_pullOf 3 = .ok (.istore_n 3, 1) := by decide +kernel
theorem dX2_pullOf_4 : decode cX2_pullOf 4 = .ok (.iload_n 3, 1) := by decide +kernel
theorem dX2_pullOf_5 : decode cX2_pullOf 5 = .ok (.aload_n 0, 1) := by decide +kernel
theorem dX2_pullOf_6 : decode cX2_pullOf 6 = .ok (.getfield 57, 3) := by decide +kernel
theorem dX2_pullOf_9 : decode cX2_pullOf 9 = .ok (.if_icmp .ge 49, 3) := by decide +kernel
theorem dX2_pullOf_12 : decode cX2_pullOf 12 = .ok (.aload_n 0, 1) := by decide +kernel
theorem dX2_pullOf_13 : decode cX2_pullOf 13 = .ok (.getfield 26, 3) := by decide +kernel
theorem dX2_pullOf_16 : decode cX2_pullOf 16 = .ok (.iload_n 3, 1) := by decide +kernel
theorem dX2_pullOf_17 : decode cX2_pullOf 17 = .ok (.aaload, 1) := by decide +kernel
theorem dX2_pullOf_18 : decode cX2_pullOf 18 = .ok (.astore 4, 2) := by decide +kernel
theorem dX2_pullOf_20 : decode cX2_pullOf 20 = .ok (.aload 4, 2) := by decide +kernel
theorem dX2_pullOf_22 : decode cX2_pullOf 22 = .ok (.getfield 79, 3) := by decide +kernel
theorem dX2_pullOf_25 : decode cX2_pullOf 25 = .ok (.iconst 1, 1) := by decide +kernel
theorem dX2_pullOf_26 : decode cX2_pullOf 26 = .ok (.if_icmp .ne 26, 3) := by decide +kernel
theorem dX2_pullOf_29 : decode cX2_pullOf 29 = .ok (.aload 4, 2) := by decide +kernel
theorem dX2_pullOf_31 : decode cX2_pullOf 31 = .ok (.getfield 76, 3) := by decide +kernel
theorem dX2_pullOf_34 : decode cX2_pullOf 34 = .ok (.iload_n 1, 1) := by decide +kernel
theorem dX2_pullOf_35 : decode cX2_pullOf 35 = .ok (.if_icmp .ne 17, 3) := by decide +kernel
theorem dX2_pullOf_38 : decode cX2_pullOf 38 = .ok (.iload_n 2, 1) := by decide +kernel
theorem dX2_pullOf_39 : decode cX2_pullOf 39 = .ok (.aload 4, 2) := by decide +kernel
theorem dX2_pullOf_41 : decode cX2_pullOf 41 = .ok (.getfield 72, 3) := by decide +kernel
theorem dX2_pullOf_44 : decode cX2_pullOf 44 = .ok (.aload 4, 2) := by decide +kernel
theorem dX2_pullOf_46 : decode cX2_pullOf 46 = .ok (.aload_n 0, 1) := by decide +kernel
theorem dX2_pullOf_47 : decode cX2_pullOf 47 = .ok (.invokevirtual 92, 3) := by decide +kernel
theorem dX2_pullOf_50 : decode cX2_pullOf 50 = .ok (.iadd, 1) := by decide +kernel
theorem dX2_pullOf_51 : decode cX2_pullOf 51 = .ok (.istore_n 2, 1) := by decide +kernel
theorem dX2_pullOf_52 : decode cX2_pullOf 52 = .ok (.iinc 3 1, 3) := by decide +kernel
theorem dX2_pullOf_55 : decode cX2_pullOf 55 = .ok (.goto (-51), 3) := by decide +kernel
theorem dX2_pullOf_58 : decode cX2_pullOf 58 = .ok (.iload_n 2, 1) := by decide +kernel
theorem dX2_pullOf_59 : decode cX2_pullOf 59 = .ok (.ireturn, 1) := by decide +kernel
theorem dX2_pullOfSet_0 : decode cX2_pullOfSet 0 = .ok (.iconst 0, 1) := by decide +kernel
theorem dX2_pullOfSet_1 : decode cX2_pullOfSet 1 = .ok (.istore_n 2, 1) := by decide +kernel
theorem dX2_pullOfSet_2 : decode cX2_pullOfSet 2 = .ok (.iconst 0, 1) := by decide +kernel
theorem dX2_pullOfSet_3 : decode cX2_pullOfSet 3 = .ok (.istore_n 3, 1) := by decide +kernel
theorem dX2_pullOfSet_4 : decode cX2_pullOfSet 4 = .ok (.iload_n 3, 1) := by decide +kernel
theorem dX2_pullOfSet_5 : decode cX2_pullOfSet 5 = .ok (.aload_n 0, 1) := by decide +kernel
theorem dX2_pullOfSet_6 : decode cX2_pullOfSet 6 = .ok (.getfield 57, 3) := by decide +kernel
theorem dX2_pullOfSet_9 : decode cX2_pullOfSet 9 = .ok (.if_icmp .ge 40, 3) := by decide +kernel
theorem dX2_pullOfSet_12 : decode cX2_pullOfSet 12 = .ok (.iload_n 1, 1) := by decide +kernel
theorem dX2_pullOfSet_13 : decode cX2_pullOfSet 13 = .ok (.iload_n 3, 1) := by decide +kernel
theorem dX2_pullOfSet_14 : decode cX2_pullOfSet 14 = .ok (.ishr, 1) := by decide +kernel
theorem dX2_pullOfSet_15 : decode cX2_pullOfSet 15 = .ok (.iconst 1, 1) := by decide +kernel
theorem dX2_pullOfSet_16 : decode cX2_pullOfSet 16 = .ok (.iand, 1) := by decide +kernel
theorem dX2_pullOfSet_17 : decode cX2_pullOfSet 17 = .ok (.iconst 1, 1) := by decide +kernel
theorem dX2_pullOfSet_18 : decode cX2_pullOfSet 18 = .ok (.if_icmp .ne 25, 3) := by decide +kernel
theorem dX2_pullOfSet_21 : decode cX2_pullOfSet 21 = .ok (.iload_n 2, 1) := by decide +kernel
theorem dX2_pullOfSet_22 : decode cX2_pullOfSet 22 = .ok (.aload_n 0, 1) := by decide +kernel
theorem dX2_pullOfSet_23 : decode cX2_pullOfSet 23 = .ok (.getfield 26, 3) := by decide +kernel
theorem dX2_pullOfSet_26 : decode cX2_pullOfSet 26 = .ok (.iload_n 3, 1) := by decide +kernel
theorem dX2_pullOfSet_27 : decode cX2_pullOfSet 27 = .ok (.aaload, 1) := by decide +kernel
theorem dX2_pullOfSet_28 : decode cX2_pullOfSet 28 = .ok (.getfield 72, 3) := by decide +kernel
theorem dX2_pullOfSet_31 : decode cX2_pullOfSet 31 = .ok (.aload_n 0, 1) := by decide +kernel
theorem dX2_pullOfSet_32 : decode cX2_pullOfSet 32 = .ok (.getfield 26, 3) := by decide +kernel
theorem dX2_pullOfSet_35 : decode cX2_pullOfSet 35 = .ok (.iload_n 3, 1) := by decide +kernel
theorem dX2_pullOfSet_36 : decode cX2_pullOfSet 36 = .ok (.aaload, 1) := by decide +kernel
theorem dX2_pullOfSet_37 : decode cX2_pullOfSet 37 = .ok (.aload_n 0, 1) := by decide +kernel
theorem dX2_pullOfSet_38 : decode cX2_pullOfSet 38 = .ok (.invokevirtual 92, 3) := by decide +kernel
theorem dX2_pullOfSet_41 : decode cX2_pullOfSet 41 = .ok (.iadd, 1) := by decide +kernel
theorem dX2_pullOfSet_42 : decode cX2_pullOfSet 42 = .ok (.istore_n 2, 1) := by decide +kernel
theorem dX2_pullOfSet_43 : decode cX2_pullOfSet 43 = .ok (.iinc 3 1, 3) := by decide +kernel
theorem dX2_pullOfSet_46 : decode cX2_pullOfSet 46 = .ok (.goto (-42), 3) := by decide +kernel
theorem dX2_pullOfSet_49 : decode cX2_pullOfSet 49 = .ok (.iload_n 2, 1) := by decide +kernel
theorem dX2_pullOfSet_50 : decode cX2_pullOfSet 50 = .ok (.ireturn, 1) := by decide +kernel
theorem dX2_sizeOf_0 : decode cX2_sizeOf 0 = .ok (.iconst 0, 1) := by decide +kernel
theorem dX2_sizeOf_1 : decode cX2_sizeOf 1 = .ok (.istore_n 2, 1) := by decide +kernel
theorem dX2_sizeOf_2 : decode cX2_sizeOf 2 = .ok (.iconst 0, 1) := by decide +kernel
theorem dX2_sizeOf_3 : decode cX2_sizeOf 3 = .ok (.istore_n 3, 1) := by decide +kernel
theorem dX2_sizeOf_4 : decode cX2_sizeOf 4 = .ok (.iload_n 3, 1) := by decide +kernel
theorem dX2_sizeOf_5 : decode cX2_sizeOf 5 = .ok (.aload_n 0, 1) := by decide +kernel
theorem dX2_sizeOf_6 : decode cX2_sizeOf 6 = .ok (.getfield 57, 3) := by decide +kernel
theorem dX2_sizeOf_9 : decode cX2_sizeOf 9 = .ok (.if_icmp .ge 25, 3) := by decide +kernel
theorem dX2_sizeOf_12 : decode cX2_sizeOf 12 = .ok (.aload_n 0, 1) := by decide +kernel
theorem dX2_sizeOf_13 : decode cX2_sizeOf 13 = .ok (.getfield 26, 3) := by decide +kernel
theorem dX2_sizeOf_16 : decode cX2_sizeOf 16 = .ok (.iload_n 3, 1) := by decide +kernel
theorem dX2_sizeOf_17 : decode cX2_sizeOf 17 = .ok (.aaload, 1) := by decide +kernel
theorem dX2_sizeOf_18 : decode cX2_sizeOf 18 = .ok (.getfield 76, 3) := by decide +kernel
theorem dX2_sizeOf_21 : decode cX2_sizeOf 21 = .ok (.iload_n 1, 1) := by decide +kernel
theorem dX2_sizeOf_22 : decode cX2_sizeOf 22 = .ok (.if_icmp .ne 6, 3) := by decide +kernel
theorem dX2_sizeOf_25 : decode cX2_sizeOf 25 = .ok (.iinc 2 1, 3) := by decide +kernel
theorem dX2_sizeOf_28 : decode cX2_sizeOf 28 = .ok (.iinc 3 1, 3) := by decide +kernel
theorem dX2_sizeOf_31 : decode cX2_sizeOf 31 = .ok (.goto (-27), 3) := by decide +kernel
theorem dX2_sizeOf_34 : decode cX2_sizeOf 34 = .ok (.iload_n 2, 1) := by decide +kernel
theorem dX2_sizeOf_35 : decode cX2_sizeOf 35 = .ok (.ireturn, 1) := by decide +kernel
theorem dX2_tiredTogether_0 : decode cX2_tiredTogether 0 = .ok (.iconst 0, 1) := by decide +kernel
theorem dX2_tiredTogether_1 : decode cX2_tiredTogether 1 = .ok (.istore_n 1, 1) := by decide +kernel
theorem dX2_tiredTogether_2 : decode cX2_tiredTogether 2 = .ok (.iconst 0, 1) := by decide +kernel
theorem dX2_tiredTogether_3 : decode cX2_tiredTogether 3 = .ok (.istore_n 2, 1) := by decide +kernel
theorem dX2_tiredTogether_4 : decode cX2_tiredTogether 4 = .ok (.iload_n 2, 1) := by decide +kernel
theorem dX2_tiredTogether_5 : decode cX2_tiredTogether 5 = .ok (.aload_n 0, 1) := by decide +kernel
theorem dX2_tiredTogether_6 : decode cX2_tiredTogether 6 = .ok (.getfield 57, 3) := by decide +kernel
theorem dX2_tiredTogether_9 : decode cX2_tiredTogether 9 = .ok (.if_icmp .ge 21, 3) := by decide +kernel
theorem dX2_tiredTogether_12 : decode cX2_tiredTogether 12 = .ok (.iload_n 1, 1) := by decide +kernel
theorem dX2_tiredTogether_13 : decode cX2_tiredTogether 13 = .ok (.aload_n 0, 1) := by decide +kernel
theorem dX2_tiredTogether_14 : decode cX2_tiredTogether 14 = .ok (.getfield 26, 3) := by decide +kernel
theorem dX2_tiredTogether_17 : decode cX2_tiredTogether 17 = .ok (.iload_n 2, 1) := by decide +kernel
theorem dX2_tiredTogether_18 : decode cX2_tiredTogether 18 = .ok (.aaload, 1) := by decide +kernel
theorem dX2_tiredTogether_19 : decode cX2_tiredTogether 19 = .ok (.getfield 82, 3) := by decide +kernel
theorem dX2_tiredTogether_22 : decode cX2_tiredTogether 22 = .ok (.iadd, 1) := by decide +kernel
theorem dX2_tiredTogether_23 : decode cX2_tiredTogether 23 = .ok (.istore_n 1, 1) := by decide +kernel
theorem dX2_tiredTogether_24 : decode cX2_tiredTogether 24 = .ok (.iinc 2 1, 3) := by decide +kernel
theorem dX2_tiredTogether_27 : decode cX2_tiredTogether 27 = .ok (.goto (-23), 3) := by decide +kernel
theorem dX2_tiredTogether_30 : decode cX2_tiredTogether 30 = .ok (.iload_n 1, 1) := by decide +kernel
theorem dX2_tiredTogether_31 : decode cX2_tiredTogether 31 = .ok (.ireturn, 1) := by decide +kernel
theorem dX2_canSwap_0 : decode cX2_canSwap 0 = .ok (.aload_n 0, 1) := by decide +kernel
theorem dX2_canSwap_1 : decode cX2_canSwap 1 = .ok (.iload_n 1, 1) := by decide +kernel
theorem dX2_canSwap_2 : decode cX2_canSwap 2 = .ok (.invokevirtual 96, 3) := by decide +kernel
theorem dX2_canSwap_5 : decode cX2_canSwap 5 = .ok (.ifCond .eq 11, 3) := by decide +kernel
theorem dX2_canSwap_8 : decode cX2_canSwap 8 = .ok (.aload_n 0, 1) := by decide +kernel
theorem dX2_canSwap_9 : decode cX2_canSwap 9 = .ok (.iload_n 2, 1) := by decide +kernel
theorem dX2_canSwap_10 : decode cX2_canSwap 10 = .ok (.invokevirtual 96, 3) := by decide +kernel
theorem dX2_canSwap_13 : decode cX2_canSwap 13 = .ok (.ifCond .ne 5, 3) := by decide +kernel
theorem dX2_canSwap_16 : decode cX2_canSwap 16 = .ok (.iconst 0, 1) := by decide +kernel
theorem dX2_canSwap_17 : decode cX2_canSwap 17 = .ok (.ireturn, 1) := by decide +kernel
theorem dX2_canSwap_18 : decode cX2_canSwap 18 = .ok (.aload_n 0, 1) := by decide +kernel
theorem dX2_canSwap_19 : decode cX2_canSwap 19 = .ok (.getfield 26, 3) := by decide +kernel
theorem dX2_canSwap_22 : decode cX2_canSwap 22 = .ok (.iload_n 1, 1) := by decide +kernel
theorem dX2_canSwap_23 : decode cX2_canSwap 23 = .ok (.aaload, 1) := by decide +kernel
theorem dX2_canSwap_24 : decode cX2_canSwap 24 = .ok (.astore_n 3, 1) := by decide +kernel
theorem dX2_canSwap_25 : decode cX2_canSwap 25 = .ok (.aload_n 0, 1) := by decide +kernel
theorem dX2_canSwap_26 : decode cX2_canSwap 26 = .ok (.getfield 26, 3) := by decide +kernel
theorem dX2_canSwap_29 : decode cX2_canSwap 29 = .ok (.iload_n 2, 1) := by decide +kernel
theorem dX2_canSwap_30 : decode cX2_canSwap 30 = .ok (.aaload, 1) := by decide +kernel
theorem dX2_canSwap_31 : decode cX2_canSwap 31 = .ok (.astore 4, 2) := by decide +kernel
theorem dX2_canSwap_33 : decode cX2_canSwap 33 = .ok (.aload_n 3, 1) := by decide +kernel
theorem dX2_canSwap_34 : decode cX2_canSwap 34 = .ok (.getfield 79, 3) := by decide +kernel
theorem dX2_canSwap_37 : decode cX2_canSwap 37 = .ok (.ifCond .ne 28, 3) := by decide +kernel
theorem dX2_canSwap_40 : decode cX2_canSwap 40 = .ok (.aload 4, 2) := by decide +kernel
theorem dX2_canSwap_42 : decode cX2_canSwap 42 = .ok (.getfield 79, 3) := by decide +kernel
theorem dX2_canSwap_45 : decode cX2_canSwap 45 = .ok (.iconst 1, 1) := by decide +kernel
theorem dX2_canSwap_46 : decode cX2_canSwap 46 = .ok (.if_icmp .ne 19, 3) := by decide +kernel
theorem dX2_canSwap_49 : decode cX2_canSwap 49 = .ok (.aload_n 3, 1) := by decide +kernel
theorem dX2_canSwap_50 : decode cX2_canSwap 50 = .ok (.getfield 76, 3) := by decide +kernel
theorem dX2_canSwap_53 : decode cX2_canSwap 53 = .ok (.aload 4, 2) := by decide +kernel
theorem dX2_canSwap_55 : decode cX2_canSwap 55 = .ok (.getfield 76, 3) := by decide +kernel
theorem dX2_canSwap_58 : decode cX2_canSwap 58 = .ok (.if_icmp .ne 7, 3) := by decide +kernel
theorem dX2_canSwap_61 : decode cX2_canSwap 61 = .ok (.iconst 1, 1) := by decide +kernel
theorem dX2_canSwap_62 : decode cX2_canSwap 62 = .ok (.goto 4, 3) := by decide +kernel
theorem dX2_canSwap_65 : decode cX2_canSwap 65 = .ok (.iconst 0, 1) := by decide +kernel
theorem dX2_canSwap_66 : decode cX2_canSwap 66 = .ok (.ireturn, 1) := by decide +kernel
theorem dX2_swap_0 : decode cX2_swap 0 = .ok (.aload_n 0, 1) := by decide +kernel
theorem dX2_swap_1 : decode cX2_swap 1 = .ok (.iload_n 1, 1) := by decide +kernel
theorem dX2_swap_2 : decode cX2_swap 2 = .ok (.iload_n 2, 1) := by decide +kernel
theorem dX2_swap_3 : decode cX2_swap 3 = .ok (.invokevirtual 99, 3) := by decide +kernel
theorem dX2_swap_6 : decode cX2_swap 6 = .ok (.ifCond .eq 23, 3) := by decide +kernel
theorem dX2_swap_9 : decode cX2_swap 9 = .ok (.aload_n 0, 1) := by decide +kernel
theorem dX2_swap_10 : decode cX2_swap 10 = .ok (.getfield 26, 3) := by decide +kernel
theorem dX2_swap_13 : decode cX2_swap 13 = .ok (.iload_n 1, 1) := by decide +kernel
theorem dX2_swap_14 : decode cX2_swap 14 = .ok (.aaload, 1) := by decide +kernel
theorem dX2_swap_15 : decode cX2_swap 15 = .ok (.iconst 1, 1) := by decide +kernel
theorem dX2_swap_16 : decode cX2_swap 16 = .ok (.putfield 79, 3) := by decide +kernel
theorem dX2_swap_19 : decode cX2_swap 19 = .ok (.aload_n 0, 1) := by decide +kernel
theorem dX2_swap_20 : decode cX2_swap 20 = .ok (.getfield 26, 3) := by decide +kernel
theorem dX2_swap_23 : decode cX2_swap 23 = .ok (.iload_n 2, 1) := by decide +kernel
theorem dX2_swap_24 : decode cX2_swap 24 = .ok (.aaload, 1) := by decide +kernel
theorem dX2_swap_25 : decode cX2_swap 25 = .ok (.iconst 0, 1) := by decide +kernel
theorem dX2_swap_26 : decode cX2_swap 26 = .ok (.putfield 79, 3) := by decide +kernel
theorem dX2_swap_29 : decode cX2_swap 29 = .ok (.return_, 1) := by decide +kernel
theorem dX2_go_0 : decode cX2_go 0 = .ok (.iconst 0, 1) := by decide +kernel
theorem dX2_go_1 : decode cX2_go 1 = .ok (.istore_n 2, 1) := by decide +kernel
theorem dX2_go_2 : decode cX2_go 2 = .ok (.iload_n 2, 1) := by decide +kernel
theorem dX2_go_3 : decode cX2_go 3 = .ok (.iload_n 1, 1) := by decide +kernel
theorem dX2_go_4 : decode cX2_go 4 = .ok (.if_icmp .ge 13, 3) := by decide +kernel
theorem dX2_go_7 : decode cX2_go 7 = .ok (.aload_n 0, 1) := by decide +kernel
theorem dX2_go_8 : decode cX2_go 8 = .ok (.invokevirtual 103, 3) := by decide +kernel
theorem dX2_go_11 : decode cX2_go 11 = .ok (.iinc 2 1, 3) := by decide +kernel
theorem dX2_go_14 : decode cX2_go 14 = .ok (.goto (-12), 3) := by decide +kernel
theorem dX2_go_17 : decode cX2_go 17 = .ok (.return_, 1) := by decide +kernel
theorem dX2_goDay_0 : decode cX2_goDay 0 = .ok (.aload_n 0, 1) := by decide +kernel
theorem dX2_goDay_1 : decode cX2_goDay 1 = .ok (.aload_n 0, 1) := by decide +kernel
theorem dX2_goDay_2 : decode cX2_goDay 2 = .ok (.invokevirtual 106, 3) := by decide +kernel
theorem dX2_goDay_5 : decode cX2_goDay 5 = .ok (.invokevirtual 109, 3) := by decide +kernel
theorem dX2_goDay_8 : decode cX2_goDay 8 = .ok (.iconst 0, 1) := by decide +kernel
theorem dX2_goDay_9 : decode cX2_goDay 9 = .ok (.istore_n 1, 1) := by decide +kernel
theorem dX2_goDay_10 : decode cX2_goDay 10 = .ok (.iconst 0, 1) := by decide +kernel
theorem dX2_goDay_11 : decode cX2_goDay 11 = .ok (.istore_n 2, 1) := by decide +kernel
theorem dX2_goDay_12 : decode cX2_goDay 12 = .ok (.iconst 0, 1) := by decide +kernel
theorem dX2_goDay_13 : decode cX2_goDay 13 = .ok (.istore_n 3, 1) := by decide +kernel
theorem dX2_goDay_14 : decode cX2_goDay 14 = .ok (.iload_n 3, 1) := by decide +kernel
theorem dX2_goDay_15 : decode cX2_goDay 15 = .ok (.aload_n 0, 1) := by decide +kernel
theorem dX2_goDay_16 : decode cX2_goDay 16 = .ok (.getfield 57, 3) := by decide +kernel
theorem dX2_goDay_19 : decode cX2_goDay 19 = .ok (.if_icmp .ge 56, 3) := by decide +kernel
theorem dX2_goDay_22 : decode cX2_goDay 22 = .ok (.aload_n 0, 1) := by decide +kernel
theorem dX2_goDay_23 : decode cX2_goDay 23 = .ok (.getfield 26, 3) := by decide +kernel
theorem dX2_goDay_26 : decode cX2_goDay 26 = .ok (.iload_n 3, 1) := by decide +kernel
theorem dX2_goDay_27 : decode cX2_goDay 27 = .ok (.aaload, 1) := by decide +kernel
theorem dX2_goDay_28 : decode cX2_goDay 28 = .ok (.astore 4, 2) := by decide +kernel
theorem dX2_goDay_30 : decode cX2_goDay 30 = .ok (.aload 4, 2) := by decide +kernel
theorem dX2_goDay_32 : decode cX2_goDay 32 = .ok (.aload_n 0, 1) := by decide +kernel
theorem dX2_goDay_33 : decode cX2_goDay 33 = .ok (.invokevirtual 112, 3) := by decide +kernel
theorem dX2_goDay_36 : decode cX2_goDay 36 = .ok (.aload 4, 2) := by decide +kernel
theorem dX2_goDay_38 : decode cX2_goDay 38 = .ok (.getfield 79, 3) := by decide +kernel
theorem dX2_goDay_41 : decode cX2_goDay 41 = .ok (.iconst 1, 1) := by decide +kernel
theorem dX2_goDay_42 : decode cX2_goDay 42 = .ok (.if_icmp .ne 16, 3) := by decide +kernel
theorem dX2_goDay_45 : decode cX2_goDay 45 = .ok (.aload 4, 2) := by decide +kernel
theorem dX2_goDay_47 : decode cX2_goDay 47 = .ok (.getfield 76, 3) := by decide +kernel
theorem dX2_goDay_50 : decode cX2_goDay 50 = .ok (.ifCond .ne 8, 3) := by decide +kernel
theorem dX2_goDay_53 : decode cX2_goDay 53 = .ok (.iconst 1, 1) := by decide +kernel
theorem dX2_goDay_54 : decode cX2_goDay 54 = .ok (.istore_n 1, 1) := by decide +kernel
theorem dX2_goDay_55 : decode cX2_goDay 55 = .ok (.goto 14, 3) := by decide +kernel
theorem dX2_goDay_58 : decode cX2_goDay 58 = .ok (.aload 4, 2) := by decide +kernel
theorem dX2_goDay_60 : decode cX2_goDay 60 = .ok (.getfield 79, 3) := by decide +kernel
theorem dX2_goDay_63 : decode cX2_goDay 63 = .ok (.iconst 1, 1) := by decide +kernel
theorem dX2_goDay_64 : decode cX2_goDay 64 = .ok (.if_icmp .ne 5, 3) := by decide +kernel
theorem dX2_goDay_67 : decode cX2_goDay 67 = .ok (.iconst 1, 1) := by decide +kernel
theorem dX2_goDay_68 : decode cX2_goDay 68 = .ok (.istore_n 2, 1) := by decide +kernel
theorem dX2_goDay_69 : decode cX2_goDay 69 = .ok (.iinc 3 1, 3) := by decide +kernel
theorem dX2_goDay_72 : decode cX2_goDay 72 = .ok (.goto (-58), 3) := by decide +kernel
theorem dX2_goDay_75 : decode cX2_goDay 75 = .ok (.iload_n 1, 1) := by decide +kernel
theorem dX2_goDay_76 : decode cX2_goDay 76 = .ok (.ifCond .ne 8, 3) := by decide +kernel
theorem dX2_goDay_79 : decode cX2_goDay 79 = .ok (.aload_n 0, 1) := by decide +kernel
theorem dX2_goDay_80 : decode cX2_goDay 80 = .ok (.iconst 0, 1) := by decide +kernel
theorem dX2_goDay_81 : decode cX2_goDay 81 = .ok (.invokevirtual 116, 3) := by decide +kernel
theorem dX2_goDay_84 : decode cX2_goDay 84 = .ok (.iload_n 2, 1) := by decide +kernel
theorem dX2_goDay_85 : decode cX2_goDay 85 = .ok (.ifCond .ne 8, 3) := by decide +kernel
theorem dX2_goDay_88 : decode cX2_goDay 88 = .ok (.aload_n 0, 1) := by decide +kernel
theorem dX2_goDay_89 : decode cX2_goDay 89 = .ok (.iconst 1, 1) := by decide +kernel
theorem dX2_goDay_90 : decode cX2_goDay 90 = .ok (.invokevirtual 116, 3) := by decide +kernel
theorem dX2_goDay_93 : decode cX2_goDay 93 = .ok (.aload_n 0, 1) := by decide +kernel
theorem dX2_goDay_94 : decode cX2_goDay 94 = .ok (.dup, 1) := by decide +kernel
theorem dX2_goDay_95 : decode cX2_goDay 95 = .ok (.getfield 51, 3) := by decide +kernel
theorem dX2_goDay_98 : decode cX2_goDay 98 = .ok (.iconst 1, 1) := by decide +kernel
theorem dX2_goDay_99 : decode cX2_goDay 99 = .ok (.iadd, 1) := by decide +kernel
theorem dX2_goDay_100 : decode cX2_goDay 100 = .ok (.putfield 51, 3) := by decide +kernel
theorem dX2_goDay_103 : decode cX2_goDay 103 = .ok (.return_, 1) := by decide +kernel
theorem dX2_leadOfChapel_0 : decode cX2_leadOfChapel 0 = .ok (.iconst 0, 1) := by decide +kernel
theorem dX2_leadOfChapel_1 : decode cX2_leadOfChapel 1 = .ok (.istore_n 1, 1) := by decide +kernel
theorem dX2_leadOfChapel_2 : decode cX2_leadOfChapel 2 = .ok (.iconst 0, 1) := by decide +kernel
theorem dX2_leadOfChapel_3 : decode cX2_leadOfChapel 3 = .ok (.istore_n 2, 1) := by decide +kernel
theorem dX2_leadOfChapel_4 : decode cX2_leadOfChapel 4 = .ok (.iload_n 2, 1) := by decide +kernel
theorem dX2_leadOfChapel_5 : decode cX2_leadOfChapel 5 = .ok (.aload_n 0, 1) := by decide +kernel
theorem dX2_leadOfChapel_6 : decode cX2_leadOfChapel 6 = .ok (.getfield 57, 3) := by decide +kernel
theorem dX2_leadOfChapel_9 : decode cX2_leadOfChapel 9 = .ok (.if_icmp .ge 54, 3) := by decide +kernel
theorem dX2_leadOfChapel_12 : decode cX2_leadOfChapel 12 = .ok (.aload_n 0, 1) := by decide +kernel
theorem dX2_leadOfChapel_13 : decode cX2_leadOfChapel 13 = .ok (.getfield 26, 3) := by decide +kernel
theorem dX2_leadOfChapel_16 : decode cX2_leadOfChapel 16 = .ok (.iload_n 2, 1) := by decide +kernel
theorem dX2_leadOfChapel_17 : decode cX2_leadOfChapel 17 = .ok (.aaload, 1) := by decide +kernel
theorem dX2_leadOfChapel_18 : decode cX2_leadOfChapel 18 = .ok (.astore_n 3, 1) := by decide +kernel
theorem dX2_leadOfChapel_19 : decode cX2_leadOfChapel 19 = .ok (.aload_n 3, 1) := by decide +kernel
theorem dX2_leadOfChapel_20 : decode cX2_leadOfChapel 20 = .ok (.getfield 79, 3) := by decide +kernel
theorem dX2_leadOfChapel_23 : decode cX2_leadOfChapel 23 = .ok (.iconst 1, 1) := by decide +kernel
theorem dX2_leadOfChapel_24 : decode cX2_leadOfChapel 24 = .ok (.if_icmp .ne 33, 3) := by decide +kernel
theorem dX2_leadOfChapel_27 : decode cX2_leadOfChapel 27 = .ok (.aload_n 3, 1) := by decide +kernel
theorem dX2_leadOfChapel_28 : decode cX2_leadOfChapel 28 = .ok (.getfield 72, 3) := by decide +kernel
theorem dX2_leadOfChapel_31 : decode cX2_leadOfChapel 31 = .ok (.aload_n 3, 1) := by decide +kernel
theorem dX2_leadOfChapel_32 : decode cX2_leadOfChapel 32 = .ok (.aload_n 0, 1) := by decide +kernel
theorem dX2_leadOfChapel_33 : decode cX2_leadOfChapel 33 = .ok (.invokevirtual 92, 3) := by decide +kernel
theorem dX2_leadOfChapel_36 : decode cX2_leadOfChapel 36 = .ok (.istore 4, 2) := by decide +kernel
theorem dX2_leadOfChapel_38 : decode cX2_leadOfChapel 38 = .ok (.iload_n 1, 1) := by decide +kernel
theorem dX2_leadOfChapel_39 : decode cX2_leadOfChapel 39 = .ok (.aload_n 3, 1) := by decide +kernel
theorem dX2_leadOfChapel_40 : decode cX2_leadOfChapel 40 = .ok (.getfield 76, 3) := by decide +kernel
theorem dX2_leadOfChapel_43 : decode cX2_leadOfChapel 43 = .ok (.iconst 1, 1) := by decide +kernel
theorem dX2_leadOfChapel_44 : decode cX2_leadOfChapel 44 = .ok (.if_icmp .ne 8, 3) := by decide +kernel
theorem dX2_leadOfChapel_47 : decode cX2_leadOfChapel 47 = .ok (.iload 4, 2) := by decide +kernel
theorem dX2_leadOfChapel_49 : decode cX2_leadOfChapel 49 = .ok (.goto 6, 3) := by decide +kernel
theorem dX2_leadOfChapel_52 : decode cX2_leadOfChapel 52 = .ok (.iload 4, 2) := by decide +kernel
theorem dX2_leadOfChapel_54 : decode cX2_leadOfChapel 54 = .ok (.ineg, 1) := by decide +kernel
theorem dX2_leadOfChapel_55 : decode cX2_leadOfChapel 55 = .ok (.iadd, 1) := by decide +kernel
theorem dX2_leadOfChapel_56 : decode cX2_leadOfChapel 56 = .ok (.istore_n 1, 1) := by decide +kernel
theorem dX2_leadOfChapel_57 : decode cX2_leadOfChapel 57 = .ok (.iinc 2 1, 3) := by decide +kernel
theorem dX2_leadOfChapel_60 : decode cX2_leadOfChapel 60 = .ok (.goto (-56), 3) := by decide +kernel
theorem dX2_leadOfChapel_63 : decode cX2_leadOfChapel 63 = .ok (.iload_n 1, 1) := by decide +kernel
theorem dX2_leadOfChapel_64 : decode cX2_leadOfChapel 64 = .ok (.ireturn, 1) := by decide +kernel
theorem dX2_moveKnot_0 : decode cX2_moveKnot 0 = .ok (.iload_n 1, 1) := by decide +kernel
theorem dX2_moveKnot_1 : decode cX2_moveKnot 1 = .ok (.aload_n 0, 1) := by decide +kernel
theorem dX2_moveKnot_2 : decode cX2_moveKnot 2 = .ok (.getfield 15, 3) := by decide +kernel
theorem dX2_moveKnot_5 : decode cX2_moveKnot 5 = .ok (.if_icmp .le 27, 3) := by decide +kernel
theorem dX2_moveKnot_8 : decode cX2_moveKnot 8 = .ok (.aload_n 0, 1) := by decide +kernel
theorem dX2_moveKnot_9 : decode cX2_moveKnot 9 = .ok (.sipush 9999, 3) := by decide +kernel
theorem dX2_moveKnot_12 : decode cX2_moveKnot 12 = .ok (.aload_n 0, 1) := by decide +kernel
theorem dX2_moveKnot_13 : decode cX2_moveKnot 13 = .ok (.getfield 54, 3) := by decide +kernel
theorem dX2_moveKnot_16 : decode cX2_moveKnot 16 = .ok (.iload_n 1, 1) := by decide +kernel
theorem dX2_moveKnot_17 : decode cX2_moveKnot 17 = .ok (.iadd, 1) := by decide +kernel
theorem dX2_moveKnot_18 : decode cX2_moveKnot 18 = .ok (.aload_n 0, 1) := by decide +kernel
theorem dX2_moveKnot_19 : decode cX2_moveKnot 19 = .ok (.getfield 15, 3) := by decide +kernel
theorem dX2_moveKnot_22 : decode cX2_moveKnot 22 = .ok (.isub, 1) := by decide +kernel
theorem dX2_moveKnot_23 : decode cX2_moveKnot 23 = .ok (.invokestatic 119, 3) := by decide +kernel
theorem dX2_moveKnot_26 : decode cX2_moveKnot 26 = .ok (.putfield 54, 3) := by decide +kernel
theorem dX2_moveKnot_29 : decode cX2_moveKnot 29 = .ok (.goto 33, 3) := by decide +kernel
theorem dX2_moveKnot_32 : decode cX2_moveKnot 32 = .ok (.iload_n 1, 1) := by decide +kernel
theorem dX2_moveKnot_33 : decode cX2_moveKnot 33 = .ok (.ineg, 1) := by decide +kernel
theorem dX2_moveKnot_34 : decode cX2_moveKnot 34 = .ok (.aload_n 0, 1) := by decide +kernel
theorem dX2_moveKnot_35 : decode cX2_moveKnot 35 = .ok (.getfield 15, 3) := by decide +kernel
theorem dX2_moveKnot_38 : decode cX2_moveKnot 38 = .ok (.if_icmp .le 24, 3) := by decide +kernel
theorem dX2_moveKnot_41 : decode cX2_moveKnot 41 = .ok (.aload_n 0, 1) := by decide +kernel
theorem dX2_moveKnot_42 : decode cX2_moveKnot 42 = .ok (.sipush (-9999), 3) := by decide +kernel
theorem dX2_moveKnot_45 : decode cX2_moveKnot 45 = .ok (.aload_n 0, 1) := by decide +kernel
theorem dX2_moveKnot_46 : decode cX2_moveKnot 46 = .ok (.getfield 54, 3) := by decide +kernel
theorem dX2_moveKnot_49 : decode cX2_moveKnot 49 = .ok (.iload_n 1, 1) := by decide +kernel
theorem dX2_moveKnot_50 : decode cX2_moveKnot 50 = .ok (.iadd, 1) := by decide +kernel
theorem dX2_moveKnot_51 : decode cX2_moveKnot 51 = .ok (.aload_n 0, 1) := by decide +kernel
theorem dX2_moveKnot_52 : decode cX2_moveKnot 52 = .ok (.getfield 15, 3) := by decide +kernel
theorem dX2_moveKnot_55 : decode cX2_moveKnot 55 = .ok (.iadd, 1) := by decide +kernel
theorem dX2_moveKnot_56 : decode cX2_moveKnot 56 = .ok (.invokestatic 125, 3) := by decide +kernel
theorem dX2_moveKnot_59 : decode cX2_moveKnot 59 = .ok (.putfield 54, 3) := by decide +kernel
theorem dX2_moveKnot_62 : decode cX2_moveKnot 62 = .ok (.return_, 1) := by decide +kernel
theorem dX2_callOut_0 : decode cX2_callOut 0 = .ok (.aconst_null, 1) := by decide +kernel
theorem dX2_callOut_1 : decode cX2_callOut 1 = .ok (.astore_n 2, 1) := by decide +kernel
theorem dX2_callOut_2 : decode cX2_callOut 2 = .ok (.iconst 0, 1) := by decide +kernel
theorem dX2_callOut_3 : decode cX2_callOut 3 = .ok (.istore_n 3, 1) := by decide +kernel
theorem dX2_callOut_4 : decode cX2_callOut 4 = .ok (.iload_n 3, 1) := by decide +kernel
theorem dX2_callOut_5 : decode cX2_callOut 5 = .ok (.aload_n 0, 1) := by decide +kernel
theorem dX2_callOut_6 : decode cX2_callOut 6 = .ok (.getfield 57, 3) := by decide +kernel
theorem dX2_callOut_9 : decode cX2_callOut 9 = .ok (.if_icmp .ge 45, 3) := by decide +kernel
theorem dX2_callOut_12 : decode cX2_callOut 12 = .ok (.aload_n 0, 1) := by decide +kernel
theorem dX2_callOut_13 : decode cX2_callOut 13 = .ok (.getfield 26, 3) := by decide +kernel
theorem dX2_callOut_16 : decode cX2_callOut 16 = .ok (.iload_n 3, 1) := by decide +kernel
theorem dX2_callOut_17 : decode cX2_callOut 17 = .ok (.aaload, 1) := by decide +kernel
theorem dX2_callOut_18 : decode cX2_callOut 18 = .ok (.astore 4, 2) := by decide +kernel
theorem dX2_callOut_20 : decode cX2_callOut 20 = .ok (.aload 4, 2) := by decide +kernel
theorem dX2_callOut_22 : decode cX2_callOut 22 = .ok (.getfield 76, 3) := by decide +kernel
theorem dX2_callOut_25 : decode cX2_callOut 25 = .ok (.iload_n 1, 1) := by decide +kernel
theorem dX2_callOut_26 : decode cX2_callOut 26 = .ok (.if_icmp .ne 22, 3) := by decide +kernel
theorem dX2_callOut_29 : decode cX2_callOut 29 = .ok (.aload_n 2, 1) := by decide +kernel
theorem dX2_callOut_30 : decode cX2_callOut 30 = .ok (.ifnull 15, 3) := by decide +kernel
theorem dX2_callOut_33 : decode cX2_callOut 33 = .ok (.aload 4, 2) := by decide +kernel
theorem dX2_callOut_35 : decode cX2_callOut 35 = .ok (.getfield 82, 3) := by decide +kernel
theorem dX2_callOut_38 : decode cX2_callOut 38 = .ok (.aload_n 2, 1) := by decide +kernel
theorem dX2_callOut_39 : decode cX2_callOut 39 = .ok (.getfield 82, 3) := by decide +kernel
theorem dX2_callOut_42 : decode cX2_callOut 42 = .ok (.if_icmp .ge 6, 3) := by decide +kernel
theorem dX2_callOut_45 : decode cX2_callOut 45 = .ok (.aload 4, 2) := by decide +kernel
theorem dX2_callOut_47 : decode cX2_callOut 47 = .ok (.astore_n 2, 1) := by decide +kernel
theorem dX2_callOut_48 : decode cX2_callOut 48 = .ok (.iinc 3 1, 3) := by decide +kernel
theorem dX2_callOut_51 : decode cX2_callOut 51 = .ok (.goto (-47), 3) := by decide +kernel
theorem dX2_callOut_54 : decode cX2_callOut 54 = .ok (.aload_n 2, 1) := by decide +kernel
theorem dX2_callOut_55 : decode cX2_callOut 55 = .ok (.ifnull 8, 3) := by decide +kernel
theorem dX2_callOut_58 : decode cX2_callOut 58 = .ok (.aload_n 2, 1) := by decide +kernel
theorem dX2_callOut_59 : decode cX2_callOut 59 = .ok (.iconst 1, 1) := by decide +kernel
theorem dX2_callOut_60 : decode cX2_callOut 60 = .ok (.putfield 79, 3) := by decide +kernel
theorem dX2_callOut_63 : decode cX2_callOut 63 = .ok (.return_, 1) := by decide +kernel
theorem dX2_goesAs_0 : decode cX2_goesAs 0 = .ok (.iconst 0, 1) := by decide +kernel
theorem dX2_goesAs_1 : decode cX2_goesAs 1 = .ok (.istore_n 2, 1) := by decide +kernel
theorem dX2_goesAs_2 : decode cX2_goesAs 2 = .ok (.iload_n 2, 1) := by decide +kernel
theorem dX2_goesAs_3 : decode cX2_goesAs 3 = .ok (.aload_n 1, 1) := by decide +kernel
theorem dX2_goesAs_4 : decode cX2_goesAs 4 = .ok (.getfield 128, 3) := by decide +kernel
theorem dX2_goesAs_7 : decode cX2_goesAs 7 = .ok (.if_icmp .ge 30, 3) := by decide +kernel
theorem dX2_goesAs_10 : decode cX2_goesAs 10 = .ok (.aload_n 1, 1) := by decide +kernel
theorem dX2_goesAs_11 : decode cX2_goesAs 11 = .ok (.getfield 131, 3) := by decide +kernel
theorem dX2_goesAs_14 : decode cX2_goesAs 14 = .ok (.iload_n 2, 1) := by decide +kernel
theorem dX2_goesAs_15 : decode cX2_goesAs 15 = .ok (.laload, 1) := by decide +kernel
theorem dX2_goesAs_16 : decode cX2_goesAs 16 = .ok (.aload_n 0, 1) := by decide +kernel
theorem dX2_goesAs_17 : decode cX2_goesAs 17 = .ok (.getfield 54, 3) := by decide +kernel
theorem dX2_goesAs_20 : decode cX2_goesAs 20 = .ok (.i2l, 1) := by decide +kernel
theorem dX2_goesAs_21 : decode cX2_goesAs 21 = .ok (.lcmp, 1) := by decide +kernel
theorem dX2_goesAs_22 : decode cX2_goesAs 22 = .ok (.ifCond .eq 5, 3) := by decide +kernel
theorem dX2_goesAs_25 : decode cX2_goesAs 25 = .ok (.iconst 0, 1) := by decide +kernel
theorem dX2_goesAs_26 : decode cX2_goesAs 26 = .ok (.ireturn, 1) := by decide +kernel
theorem dX2_goesAs_27 : decode cX2_goesAs 27 = .ok (.aload_n 0, 1) := by decide +kernel
theorem dX2_goesAs_28 : decode cX2_goesAs 28 = .ok (.invokevirtual 103, 3) := by decide +kernel
theorem dX2_goesAs_31 : decode cX2_goesAs 31 = .ok (.iinc 2 1, 3) := by decide +kernel
theorem dX2_goesAs_34 : decode cX2_goesAs 34 = .ok (.goto (-32), 3) := by decide +kernel
theorem dX2_goesAs_37 : decode cX2_goesAs 37 = .ok (.iconst 1, 1) := by decide +kernel
theorem dX2_goesAs_38 : decode cX2_goesAs 38 = .ok (.ireturn, 1) := by decide +kernel
theorem dX3_init_0 : decode cX3_init 0 = .ok (.aload_n 0, 1) := by decide +kernel
theorem dX3_init_1 : decode cX3_init 1 = .ok (.invokespecial 3, 3) := by decide +kernel
theorem dX3_init_4 : decode cX3_init 4 = .ok (.aload_n 0, 1) := by decide +kernel
theorem dX3_init_5 : decode cX3_init 5 = .ok (.iload_n 1, 1) := by decide +kernel
theorem dX3_init_6 : decode cX3_init 6 = .ok (.putfield 9, 3) := by decide +kernel
theorem dX3_init_9 : decode cX3_init 9 = .ok (.return_, 1) := by decide +kernel
theorem dX3_isOf_0 : decode cX3_isOf 0 = .ok (.iload_n 1, 1) := by decide +kernel
theorem dX3_isOf_1 : decode cX3_isOf 1 = .ok (.ifCond .ne 7, 3) := by decide +kernel
theorem dX3_isOf_4 : decode cX3_isOf 4 = .ok (.iconst 1, 1) := by decide +kernel
theorem dX3_isOf_5 : decode cX3_isOf 5 = .ok (.goto 4, 3) := by decide +kernel
theorem dX3_isOf_8 : decode cX3_isOf 8 = .ok (.iconst 0, 1) := by decide +kernel
theorem dX3_isOf_9 : decode cX3_isOf 9 = .ok (.ireturn, 1) := by decide +kernel
theorem dX3_pull_0 : decode cX3_pull 0 = .ok (.aload_n 1, 1) := by decide +kernel
theorem dX3_pull_1 : decode cX3_pull 1 = .ok (.getfield 15, 3) := by decide +kernel
theorem dX3_pull_4 : decode cX3_pull 4 = .ok (.aload_n 1, 1) := by decide +kernel
theorem dX3_pull_5 : decode cX3_pull 5 = .ok (.getfield 20, 3) := by decide +kernel
theorem dX3_pull_8 : decode cX3_pull 8 = .ok (.bipush 10, 2) := by decide +kernel
theorem dX3_pull_10 : decode cX3_pull 10 = .ok (.idiv, 1) := by decide +kernel
theorem dX3_pull_11 : decode cX3_pull 11 = .ok (.isub, 1) := by decide +kernel
theorem dX3_pull_12 : decode cX3_pull 12 = .ok (.istore_n 3, 1) := by decide +kernel
theorem dX3_pull_13 : decode cX3_pull 13 = .ok (.iload_n 3, 1) := by decide +kernel
theorem dX3_pull_14 : decode cX3_pull 14 = .ok (.ifCond .le 7, 3) := by decide +kernel
theorem dX3_pull_17 : decode cX3_pull 17 = .ok (.iload_n 3, 1) := by decide +kernel
theorem dX3_pull_18 : decode cX3_pull 18 = .ok (.goto 4, 3) := by decide +kernel
theorem dX3_pull_21 : decode cX3_pull 21 = .ok (.iconst 0, 1) := by decide +kernel
theorem dX3_pull_22 : decode cX3_pull 22 = .ok (.ireturn, 1) := by decide +kernel
theorem dX3_tire_0 : decode cX3_tire 0 = .ok (.iconst 4, 1) := by decide +kernel
theorem dX3_tire_1 : decode cX3_tire 1 = .ok (.ireturn, 1) := by decide +kernel
theorem dX3_letsGo_0 : decode cX3_letsGo 0 = .ok (.aload_n 1, 1) := by decide +kernel
theorem dX3_letsGo_1 : decode cX3_letsGo 1 = .ok (.getfield 20, 3) := by decide +kernel
theorem dX3_letsGo_4 : decode cX3_letsGo 4 = .ok (.bipush 90, 2) := by decide +kernel
theorem dX3_letsGo_6 : decode cX3_letsGo 6 = .ok (.if_icmp .lt 7, 3) := by decide +kernel
theorem dX3_letsGo_9 : decode cX3_letsGo 9 = .ok (.iconst 1, 1) := by decide +kernel
theorem dX3_letsGo_10 : decode cX3_letsGo 10 = .ok (.goto 4, 3) := by decide +kernel
theorem dX3_letsGo_13 : decode cX3_letsGo 13 = .ok (.iconst 0, 1) := by decide +kernel
theorem dX3_letsGo_14 : decode cX3_letsGo 14 = .ok (.ireturn, 1) := by decide +kernel
theorem dX4_init_0 : decode cX4_init 0 = .ok (.aload_n 0, 1) := by decide +kernel
theorem dX4_init_1 : decode cX4_init 1 = .ok (.invokespecial 3, 3) := by decide +kernel
theorem dX4_init_4 : decode cX4_init 4 = .ok (.aload_n 0, 1) := by decide +kernel
theorem dX4_init_5 : decode cX4_init 5 = .ok (.aload_n 1, 1) := by decide +kernel
theorem dX4_init_6 : decode cX4_init 6 = .ok (.putfield 9, 3) := by decide +kernel
theorem dX4_init_9 : decode cX4_init 9 = .ok (.return_, 1) := by decide +kernel
theorem dX4_become_0 : decode cX4_become 0 = .ok (.aload_n 0, 1) := by decide +kernel
theorem dX4_become_1 : decode cX4_become 1 = .ok (.aload_n 1, 1) := by decide +kernel
theorem dX4_become_2 : decode cX4_become 2 = .ok (.getfield 9, 3) := by decide +kernel
theorem dX4_become_5 : decode cX4_become 5 = .ok (.putfield 9, 3) := by decide +kernel
theorem dX4_become_8 : decode cX4_become 8 = .ok (.aload_n 0, 1) := by decide +kernel
theorem dX4_become_9 : decode cX4_become 9 = .ok (.aload_n 1, 1) := by decide +kernel
theorem dX4_become_10 : decode cX4_become 10 = .ok (.getfield 15, 3) := by decide +kernel
theorem dX4_become_13 : decode cX4_become 13 = .ok (.putfield 15, 3) := by decide +kernel
theorem dX4_become_16 : decode cX4_become 16 = .ok (.aload_n 0, 1) := by decide +kernel
theorem dX4_become_17 : decode cX4_become 17 = .ok (.aload_n 1, 1) := by decide +kernel
theorem dX4_become_18 : decode cX4_become 18 = .ok (.getfield 19, 3) := by decide +kernel
theorem dX4_become_21 : decode cX4_become 21 = .ok (.putfield 19, 3) := by decide +kernel
theorem dX4_become_24 : decode cX4_become 24 = .ok (.aload_n 0, 1) := by decide +kernel
theorem dX4_become_25 : decode cX4_become 25 = .ok (.aload_n 1, 1) := by decide +kernel
theorem dX4_become_26 : decode cX4_become 26 = .ok (.getfield 22, 3) := by decide +kernel
theorem dX4_become_29 : decode cX4_become 29 = .ok (.putfield 22, 3) := by decide +kernel
theorem dX4_become_32 : decode cX4_become 32 = .ok (.aload_n 0, 1) := by decide +kernel
theorem dX4_become_33 : decode cX4_become 33 = .ok (.aload_n 1, 1) := by decide +kernel
theorem dX4_become_34 : decode cX4_become 34 = .ok (.getfield 25, 3) := by decide +kernel
theorem dX4_become_37 : decode cX4_become 37 = .ok (.putfield 25, 3) := by decide +kernel
theorem dX4_become_40 : decode cX4_become 40 = .ok (.return_, 1) := by decide +kernel
theorem dX4_spendDay_0 : decode cX4_spendDay 0 = .ok (.aload_n 0, 1) := by decide +kernel
theorem dX4_spendDay_1 : decode cX4_spendDay 1 = .ok (.getfield 19, 3) := by decide +kernel
theorem dX4_spendDay_4 : decode cX4_spendDay 4 = .ok (.ifCond .ne 28, 3) := by decide +kernel
theorem dX4_spendDay_7 : decode cX4_spendDay 7 = .ok (.aload_n 0, 1) := by decide +kernel
theorem dX4_spendDay_8 : decode cX4_spendDay 8 = .ok (.aload_n 0, 1) := by decide +kernel
theorem dX4_spendDay_9 : decode cX4_spendDay 9 = .ok (.getfield 22, 3) := by decide +kernel
theorem dX4_spendDay_12 : decode cX4_spendDay 12 = .ok (.bipush 10, 2) := by decide +kernel
theorem dX4_spendDay_14 : decode cX4_spendDay 14 = .ok (.if_icmp .le 13, 3) := by decide +kernel
theorem dX4_spendDay_17 : decode cX4_spendDay 17 = .ok (.aload_n 0, 1) := by decide +kernel
theorem dX4_spendDay_18 : decode cX4_spendDay 18 = .ok (.getfield 22, 3) := by decide +kernel
theorem dX4_spendDay_21 : decode cX4_spendDay 21 = .ok (.bipush 10, 2) := by decide +kernel
theorem dX4_spendDay_23 : decode cX4_spendDay 23 = .ok (.isub, 1) := by decide +kernel
theorem dX4_spendDay_24 : decode cX4_spendDay 24 = .ok (.goto 4, 3) := by decide +kernel
theorem dX4_spendDay_27 : decode cX4_spendDay 27 = .ok (.iconst 0, 1) := by decide +kernel
theorem dX4_spendDay_28 : decode cX4_spendDay 28 = .ok (.putfield 22, 3) := by decide +kernel
theorem dX4_spendDay_31 : decode cX4_spendDay 31 = .ok (.return_, 1) := by decide +kernel
theorem dX4_spendDay_32 : decode cX4_spendDay 32 = .ok (.aload_n 0, 1) := by decide +kernel
theorem dX4_spendDay_33 : decode cX4_spendDay 33 = .ok (.getfield 22, 3) := by decide +kernel
theorem dX4_spendDay_36 : decode cX4_spendDay 36 = .ok (.aload_n 0, 1) := by decide +kernel
theorem dX4_spendDay_37 : decode cX4_spendDay 37 = .ok (.getfield 9, 3) := by decide +kernel
theorem dX4_spendDay_40 : decode cX4_spendDay 40 = .ok (.aload_n 1, 1) := by decide +kernel
theorem dX4_spendDay_41 : decode cX4_spendDay 41 = .ok (.invokevirtual 28, 3) := by decide +kernel
theorem dX4_spendDay_44 : decode cX4_spendDay 44 = .ok (.iadd, 1) := by decide +kernel
theorem dX4_spendDay_45 : decode cX4_spendDay 45 = .ok (.istore_n 2, 1) := by decide +kernel
theorem dX4_spendDay_46 : decode cX4_spendDay 46 = .ok (.aload_n 0, 1) := by decide +kernel
theorem dX4_spendDay_47 : decode cX4_spendDay 47 = .ok (.iload_n 2, 1) := by decide +kernel
theorem dX4_spendDay_48 : decode cX4_spendDay 48 = .ok (.bipush 99, 2) := by decide +kernel
theorem dX4_spendDay_50 : decode cX4_spendDay 50 = .ok (.if_icmp .ge 7, 3) := by decide +kernel
theorem dX4_spendDay_53 : decode cX4_spendDay 53 = .ok (.iload_n 2, 1) := by decide +kernel
theorem dX4_spendDay_54 : decode cX4_spendDay 54 = .ok (.goto 5, 3) := by decide +kernel
theorem dX4_spendDay_57 : decode cX4_spendDay 57 = .ok (.bipush 99, 2) := by decide +kernel
theorem dX4_spendDay_59 : decode cX4_spendDay 59 = .ok (.putfield 22, 3) := by decide +kernel
theorem dX4_spendDay_62 : decode cX4_spendDay 62 = .ok (.aload_n 0, 1) := by decide +kernel
theorem dX4_spendDay_63 : decode cX4_spendDay 63 = .ok (.getfield 9, 3) := by decide +kernel
theorem dX4_spendDay_66 : decode cX4_spendDay 66 = .ok (.aload_n 0, 1) := by decide +kernel
theorem dX4_spendDay_67 : decode cX4_spendDay 67 = .ok (.aload_n 1, 1) := by decide +kernel
theorem dX4_spendDay_68 : decode cX4_spendDay 68 = .ok (.invokevirtual 34, 3) := by decide +kernel
theorem dX4_spendDay_71 : decode cX4_spendDay 71 = .ok (.ifCond .eq 8, 3) := by decide +kernel
theorem dX4_spendDay_74 : decode cX4_spendDay 74 = .ok (.aload_n 0, 1) := by decide +kernel
theorem dX4_spendDay_75 : decode cX4_spendDay 75 = .ok (.iconst 0, 1) := by decide +kernel
theorem dX4_spendDay_76 : decode cX4_spendDay 76 = .ok (.putfield 19, 3) := by decide +kernel
theorem dX4_spendDay_79 : decode cX4_spendDay 79 = .ok (.return_, 1) := by decide +kernel
theorem dX5_init_0 : decode cX5_init 0 = .ok (.aload_n 0, 1) := by decide +kernel
theorem dX5_init_1 : decode cX5_init 1 = .ok (.iload_n 1, 1) := by decide +kernel
theorem dX5_init_2 : decode cX5_init 2 = .ok (.invokespecial 3, 3) := by decide +kernel
theorem dX5_init_5 : decode cX5_init 5 = .ok (.return_, 1) := by decide +kernel
theorem dX5_isOf_0 : decode cX5_isOf 0 = .ok (.iload_n 1, 1) := by decide +kernel
theorem dX5_isOf_1 : decode cX5_isOf 1 = .ok (.iconst 4, 1) := by decide +kernel
theorem dX5_isOf_2 : decode cX5_isOf 2 = .ok (.if_icmp .eq 11, 3) := by decide +kernel
theorem dX5_isOf_5 : decode cX5_isOf 5 = .ok (.aload_n 0, 1) := by decide +kernel
theorem dX5_isOf_6 : decode cX5_isOf 6 = .ok (.iload_n 1, 1) := by decide +kernel
theorem dX5_isOf_7 : decode cX5_isOf 7 = .ok (.invokespecial 9, 3) := by decide +kernel
theorem dX5_isOf_10 : decode cX5_isOf 10 = .ok (.ifCond .eq 7, 3) := by decide +kernel
theorem dX5_isOf_13 : decode cX5_isOf 13 = .ok (.iconst 1, 1) := by decide +kernel
theorem dX5_isOf_14 : decode cX5_isOf 14 = .ok (.goto 4, 3) := by decide +kernel
theorem dX5_isOf_17 : decode cX5_isOf 17 = .ok (.iconst 0, 1) := by decide +kernel
theorem dX5_isOf_18 : decode cX5_isOf 18 = .ok (.ireturn, 1) := by decide +kernel
theorem dX5_pull_0 : decode cX5_pull 0 = .ok (.aload_n 2, 1) := by decide +kernel
theorem dX5_pull_1 : decode cX5_pull 1 = .ok (.invokevirtual 13, 3) := by decide +kernel
theorem dX5_pull_4 : decode cX5_pull 4 = .ok (.ifCond .eq 14, 3) := by decide +kernel
theorem dX5_pull_7 : decode cX5_pull 7 = .ok (.iconst 2, 1) := by decide +kernel
theorem dX5_pull_8 : decode cX5_pull 8 = .ok (.aload_n 0, 1) := by decide +kernel
theorem dX5_pull_9 : decode cX5_pull 9 = .ok (.aload_n 1, 1) := by decide +kernel
theorem dX5_pull_10 : decode cX5_pull 10 = .ok (.aload_n 2, 1) := by decide +kernel
theorem dX5_pull_11 : decode cX5_pull 11 = .ok (.invokespecial 19, 3) := by decide +kernel
theorem dX5_pull_14 : decode cX5_pull 14 = .ok (.imul, 1) := by decide +kernel
theorem dX5_pull_15 : decode cX5_pull 15 = .ok (.goto 9, 3) := by decide +kernel
theorem dX5_pull_18 : decode cX5_pull 18 = .ok (.aload_n 0, 1) := by decide +kernel
theorem dX5_pull_19 : decode cX5_pull 19 = .ok (.aload_n 1, 1) := by decide +kernel
theorem dX5_pull_20 : decode cX5_pull 20 = .ok (.aload_n 2, 1) := by decide +kernel
theorem dX5_pull_21 : decode cX5_pull 21 = .ok (.invokespecial 19, 3) := by decide +kernel
theorem dX5_pull_24 : decode cX5_pull 24 = .ok (.ireturn, 1) := by decide +kernel
theorem dX5_tire_0 : decode cX5_tire 0 = .ok (.aload_n 1, 1) := by decide +kernel
theorem dX5_tire_1 : decode cX5_tire 1 = .ok (.invokevirtual 13, 3) := by decide +kernel
theorem dX5_tire_4 : decode cX5_tire 4 = .ok (.ifCond .eq 7, 3) := by decide +kernel
theorem dX5_tire_7 : decode cX5_tire 7 = .ok (.iconst 0, 1) := by decide +kernel
theorem dX5_tire_8 : decode cX5_tire 8 = .ok (.goto 8, 3) := by decide +kernel
theorem dX5_tire_11 : decode cX5_tire 11 = .ok (.aload_n 0, 1) := by decide +kernel
theorem dX5_tire_12 : decode cX5_tire 12 = .ok (.aload_n 1, 1) := by decide +kernel
theorem dX5_tire_13 : decode cX5_tire 13 = .ok (.invokespecial 23, 3) := by decide +kernel
theorem dX5_tire_16 : decode cX5_tire 16 = .ok (.ireturn, 1) := by decide +kernel
theorem dX6_init_0 : decode cX6_init 0 = .ok (.aload_n 0, 1) := by decide +kernel
theorem dX6_init_1 : decode cX6_init 1 = .ok (.invokespecial 3, 3) := by decide +kernel
theorem dX6_init_4 : decode cX6_init 4 = .ok (.aload_n 0, 1) := by decide +kernel
theorem dX6_init_5 : decode cX6_init 5 = .ok (.bipush 40, 2) := by decide +kernel
theorem dX6_init_7 : decode cX6_init 7 = .ok (.newarray .long, 2) := by decide +kernel
theorem dX6_init_9 : decode cX6_init 9 = .ok (.putfield 9, 3) := by decide +kernel
theorem dX6_init_12 : decode cX6_init 12 = .ok (.return_, 1) := by decide +kernel
theorem dX6_isMissing_0 : decode cX6_isMissing 0 = .ok (.aload_n 0, 1) := by decide +kernel
theorem dX6_isMissing_1 : decode cX6_isMissing 1 = .ok (.getfield 15, 3) := by decide +kernel
theorem dX6_isMissing_4 : decode cX6_isMissing 4 = .ok (.ifCond .ne 7, 3) := by decide +kernel
theorem dX6_isMissing_7 : decode cX6_isMissing 7 = .ok (.iconst 1, 1) := by decide +kernel
theorem dX6_isMissing_8 : decode cX6_isMissing 8 = .ok (.goto 4, 3) := by decide +kernel
theorem dX6_isMissing_11 : decode cX6_isMissing 11 = .ok (.iconst 0, 1) := by decide +kernel
theorem dX6_isMissing_12 : decode cX6_isMissing 12 = .ok (.ireturn, 1) := by decide +kernel
theorem dX6_begin_0 : decode cX6_begin 0 = .ok (.aload_n 0, 1) := by decide +kernel
theorem dX6_begin_1 : decode cX6_begin 1 = .ok (.iload_n 1, 1) := by decide +kernel
theorem dX6_begin_2 : decode cX6_begin 2 = .ok (.putfield 15, 3) := by decide +kernel
theorem dX6_begin_5 : decode cX6_begin 5 = .ok (.aload_n 0, 1) := by decide +kernel
theorem dX6_begin_6 : decode cX6_begin 6 = .ok (.iload_n 1, 1) := by decide +kernel
theorem dX6_begin_7 : decode cX6_begin 7 = .ok (.ifCond .ne 7, 3) := by decide +kernel
theorem dX6_begin_10 : decode cX6_begin 10 = .ok (.iconst 0, 1) := by decide +kernel
theorem dX6_begin_11 : decode cX6_begin 11 = .ok (.goto 4, 3) := by decide +kernel
theorem dX6_begin_14 : decode cX6_begin 14 = .ok (.iload_n 2, 1) := by decide +kernel
theorem dX6_begin_15 : decode cX6_begin 15 = .ok (.putfield 19, 3) := by decide +kernel
theorem dX6_begin_18 : decode cX6_begin 18 = .ok (.aload_n 0, 1) := by decide +kernel
theorem dX6_begin_19 : decode cX6_begin 19 = .ok (.getfield 9, 3) := by decide +kernel
theorem dX6_begin_22 : decode cX6_begin 22 = .ok (.lconst 0, 1) := by decide +kernel
theorem dX6_begin_23 : decode cX6_begin 23 = .ok (.invokestatic 22, 3) := by decide +kernel
theorem dX6_begin_26 : decode cX6_begin 26 = .ok (.return_, 1) := by decide +kernel
theorem dX6_holds_0 : decode cX6_holds 0 = .ok (.iload_n 1, 1) := by decide +kernel
theorem dX6_holds_1 : decode cX6_holds 1 = .ok (.ifCond .lt 29, 3) := by decide +kernel
theorem dX6_holds_4 : decode cX6_holds 4 = .ok (.iload_n 2, 1) := by decide +kernel
theorem dX6_holds_5 : decode cX6_holds 5 = .ok (.ifCond .lt 25, 3) := by decide +kernel
theorem dX6_holds_8 : decode cX6_holds 8 = .ok (.iload_n 2, 1) := by decide +kernel
theorem dX6_holds_9 : decode cX6_holds 9 = .ok (.aload_n 0, 1) := by decide +kernel
theorem dX6_holds_10 : decode cX6_holds 10 = .ok (.getfield 19, 3) := by decide +kernel
theorem dX6_holds_13 : decode cX6_holds 13 = .ok (.if_icmp .gt 17, 3) := by decide +kernel
theorem dX6_holds_16 : decode cX6_holds 16 = .ok (.iload_n 1, 1) := by decide +kernel
theorem dX6_holds_17 : decode cX6_holds 17 = .ok (.aload_n 0, 1) := by decide +kernel
theorem dX6_holds_18 : decode cX6_holds 18 = .ok (.getfield 19, 3) := by decide +kernel
theorem dX6_holds_21 : decode cX6_holds 21 = .ok (.iload_n 2, 1) := by decide +kernel
theorem dX6_holds_22 : decode cX6_holds 22 = .ok (.isub, 1) := by decide +kernel
theorem dX6_holds_23 : decode cX6_holds 23 = .ok (.if_icmp .gt 7, 3) := by decide +kernel
theorem dX6_holds_26 : decode cX6_holds 26 = .ok (.iconst 1, 1) := by decide +kernel
theorem dX6_holds_27 : decode cX6_holds 27 = .ok (.goto 4, 3) := by decide +kernel
theorem dX6_holds_30 : decode cX6_holds 30 = .ok (.iconst 0, 1) := by decide +kernel
theorem dX6_holds_31 : decode cX6_holds 31 = .ok (.ireturn, 1) := by decide +kernel
theorem dX6_put_0 : decode cX6_put 0 = .ok (.iload_n 1, 1) := by decide +kernel
theorem dX6_put_1 : decode cX6_put 1 = .ok (.ifCond .lt 11, 3) := by decide +kernel
theorem dX6_put_4 : decode cX6_put 4 = .ok (.iload_n 1, 1) := by decide +kernel
theorem dX6_put_5 : decode cX6_put 5 = .ok (.aload_n 0, 1) := by decide +kernel
theorem dX6_put_6 : decode cX6_put 6 = .ok (.getfield 19, 3) := by decide +kernel
theorem dX6_put_9 : decode cX6_put 9 = .ok (.if_icmp .lt 4, 3) := by decide +kernel
theorem dX6_put_12 : decode cX6_put 12 = .ok (.return_, 1) := by decide +kernel
theorem dX6_put_13 : decode cX6_put 13 = .ok (.aload_n 0, 1) := by decide +kernel
theorem dX6_put_14 : decode cX6_put 14 = .ok (.getfield 15, 3) := by decide +kernel
theorem dX6_put_17 : decode cX6_put 17 = .ok (.bipush 8, 2) := by decide +kernel
theorem dX6_put_19 : decode cX6_put 19 = .ok (.if_icmp .ne 16, 3) := by decide +kernel
theorem dX6_put_22 : decode cX6_put 22 = .ok (.aload_n 0, 1) := by decide +kernel
theorem dX6_put_23 : decode cX6_put 23 = .ok (.getfield 9, 3) := by decide +kernel
theorem dX6_put_26 : decode cX6_put 26 = .ok (.iload_n 1, 1) := by decide +kernel
theorem dX6_put_27 : decode cX6_put 27 = .ok (.lload_n 2, 1) := by decide +kernel
theorem dX6_put_28 : decode cX6_put 28 = .ok (.l2i, 1) := by decide +kernel
theorem dX6_put_29 : decode cX6_put 29 = .ok (.i2b, 1) := by decide +kernel
theorem dX6_put_30 : decode cX6_put 30 = .ok (.i2l, 1) := by decide +kernel
theorem dX6_put_31 : decode cX6_put 31 = .ok (.lastore, 1) := by decide +kernel
theorem dX6_put_32 : decode cX6_put 32 = .ok (.goto 32, 3) := by decide +kernel
theorem dX6_put_35 : decode cX6_put 35 = .ok (.aload_n 0, 1) := by decide +kernel
theorem dX6_put_36 : decode cX6_put 36 = .ok (.getfield 15, 3) := by decide +kernel
theorem dX6_put_39 : decode cX6_put 39 = .ok (.bipush 16, 2) := by decide +kernel
theorem dX6_put_41 : decode cX6_put 41 = .ok (.if_icmp .ne 16, 3) := by decide +kernel
theorem dX6_put_44 : decode cX6_put 44 = .ok (.aload_n 0, 1) := by decide +kernel
theorem dX6_put_45 : decode cX6_put 45 = .ok (.getfield 9, 3) := by decide +kernel
theorem dX6_put_48 : decode cX6_put 48 = .ok (.iload_n 1, 1) := by decide +kernel
theorem dX6_put_49 : decode cX6_put 49 = .ok (.lload_n 2, 1) := by decide +kernel
theorem dX6_put_50 : decode cX6_put 50 = .ok (.l2i, 1) := by decide +kernel
theorem dX6_put_51 : decode cX6_put 51 = .ok (.i2s, 1) := by decide +kernel
theorem dX6_put_52 : decode cX6_put 52 = .ok (.i2l, 1) := by decide +kernel
theorem dX6_put_53 : decode cX6_put 53 = .ok (.lastore, 1) := by decide +kernel
theorem dX6_put_54 : decode cX6_put 54 = .ok (.goto 10, 3) := by decide +kernel
theorem dX6_put_57 : decode cX6_put 57 = .ok (.aload_n 0, 1) := by decide +kernel
theorem dX6_put_58 : decode cX6_put 58 = .ok (.getfield 9, 3) := by decide +kernel
theorem dX6_put_61 : decode cX6_put 61 = .ok (.iload_n 1, 1) := by decide +kernel
theorem dX6_put_62 : decode cX6_put 62 = .ok (.lload_n 2, 1) := by decide +kernel
theorem dX6_put_63 : decode cX6_put 63 = .ok (.lastore, 1) := by decide +kernel
theorem dX6_put_64 : decode cX6_put 64 = .ok (.return_, 1) := by decide +kernel
theorem dX7_init_0 : decode cX7_init 0 = .ok (.aload_n 0, 1) := by decide +kernel
theorem dX7_init_1 : decode cX7_init 1 = .ok (.iload_n 1, 1) := by decide +kernel
theorem dX7_init_2 : decode cX7_init 2 = .ok (.invokespecial 3, 3) := by decide +kernel
theorem dX7_init_5 : decode cX7_init 5 = .ok (.return_, 1) := by decide +kernel
theorem dX7_isOf_0 : decode cX7_isOf 0 = .ok (.iload_n 1, 1) := by decide +kernel
theorem dX7_isOf_1 : decode cX7_isOf 1 = .ok (.iconst 1, 1) := by decide +kernel
theorem dX7_isOf_2 : decode cX7_isOf 2 = .ok (.if_icmp .eq 11, 3) := by decide +kernel
theorem dX7_isOf_5 : decode cX7_isOf 5 = .ok (.aload_n 0, 1) := by decide +kernel
theorem dX7_isOf_6 : decode cX7_isOf 6 = .ok (.iload_n 1, 1) := by decide +kernel
theorem dX7_isOf_7 : decode cX7_isOf 7 = .ok (.invokespecial 9, 3) := by decide +kernel
theorem dX7_isOf_10 : decode cX7_isOf 10 = .ok (.ifCond .eq 7, 3) := by decide +kernel
theorem dX7_isOf_13 : decode cX7_isOf 13 = .ok (.iconst 1, 1) := by decide +kernel
theorem dX7_isOf_14 : decode cX7_isOf 14 = .ok (.goto 4, 3) := by decide +kernel
theorem dX7_isOf_17 : decode cX7_isOf 17 = .ok (.iconst 0, 1) := by decide +kernel
theorem dX7_isOf_18 : decode cX7_isOf 18 = .ok (.ireturn, 1) := by decide +kernel
theorem dX7_pull_0 : decode cX7_pull 0 = .ok (.aload_n 0, 1) := by decide +kernel
theorem dX7_pull_1 : decode cX7_pull 1 = .ok (.aload_n 1, 1) := by decide +kernel
theorem dX7_pull_2 : decode cX7_pull 2 = .ok (.aload_n 2, 1) := by decide +kernel
theorem dX7_pull_3 : decode cX7_pull 3 = .ok (.invokespecial 13, 3) := by decide +kernel
theorem dX7_pull_6 : decode cX7_pull 6 = .ok (.iconst 2, 1) := by decide +kernel
theorem dX7_pull_7 : decode cX7_pull 7 = .ok (.iadd, 1) := by decide +kernel
theorem dX7_pull_8 : decode cX7_pull 8 = .ok (.ireturn, 1) := by decide +kernel
theorem dX7_tire_0 : decode cX7_tire 0 = .ok (.aload_n 0, 1) := by decide +kernel
theorem dX7_tire_1 : decode cX7_tire 1 = .ok (.aload_n 1, 1) := by decide +kernel
theorem dX7_tire_2 : decode cX7_tire 2 = .ok (.invokespecial 17, 3) := by decide +kernel
theorem dX7_tire_5 : decode cX7_tire 5 = .ok (.iconst 1, 1) := by decide +kernel
theorem dX7_tire_6 : decode cX7_tire 6 = .ok (.isub, 1) := by decide +kernel
theorem dX7_tire_7 : decode cX7_tire 7 = .ok (.ireturn, 1) := by decide +kernel
theorem dX7_letsGo_0 : decode cX7_letsGo 0 = .ok (.aload_n 1, 1) := by decide +kernel
theorem dX7_letsGo_1 : decode cX7_letsGo 1 = .ok (.getfield 21, 3) := by decide +kernel
theorem dX7_letsGo_4 : decode cX7_letsGo 4 = .ok (.bipush 95, 2) := by decide +kernel
theorem dX7_letsGo_6 : decode cX7_letsGo 6 = .ok (.if_icmp .lt 7, 3) := by decide +kernel
theorem dX7_letsGo_9 : decode cX7_letsGo 9 = .ok (.iconst 1, 1) := by decide +kernel
theorem dX7_letsGo_10 : decode cX7_letsGo 10 = .ok (.goto 4, 3) := by decide +kernel
theorem dX7_letsGo_13 : decode cX7_letsGo 13 = .ok (.iconst 0, 1) := by decide +kernel
theorem dX7_letsGo_14 : decode cX7_letsGo 14 = .ok (.ireturn, 1) := by decide +kernel
theorem dX8_init_0 : decode cX8_init 0 = .ok (.aload_n 0, 1) := by decide +kernel
theorem dX8_init_1 : decode cX8_init 1 = .ok (.iload_n 1, 1) := by decide +kernel
theorem dX8_init_2 : decode cX8_init 2 = .ok (.invokespecial 3, 3) := by decide +kernel
theorem dX8_init_5 : decode cX8_init 5 = .ok (.return_, 1) := by decide +kernel
theorem dX8_isOf_0 : decode cX8_isOf 0 = .ok (.iload_n 1, 1) := by decide +kernel
theorem dX8_isOf_1 : decode cX8_isOf 1 = .ok (.iconst 5, 1) := by decide +kernel
theorem dX8_isOf_2 : decode cX8_isOf 2 = .ok (.if_icmp .eq 11, 3) := by decide +kernel
theorem dX8_isOf_5 : decode cX8_isOf 5 = .ok (.aload_n 0, 1) := by decide +kernel
theorem dX8_isOf_6 : decode cX8_isOf 6 = .ok (.iload_n 1, 1) := by decide +kernel
theorem dX8_isOf_7 : decode cX8_isOf 7 = .ok (.invokespecial 9, 3) := by decide +kernel
theorem dX8_isOf_10 : decode cX8_isOf 10 = .ok (.ifCond .eq 7, 3) := by decide +kernel
theorem dX8_isOf_13 : decode cX8_isOf 13 = .ok (.iconst 1, 1) := by decide +kernel
theorem dX8_isOf_14 : decode cX8_isOf 14 = .ok (.goto 4, 3) := by decide +kernel
theorem dX8_isOf_17 : decode cX8_isOf 17 = .ok (.iconst 0, 1) := by decide +kernel
theorem dX8_isOf_18 : decode cX8_isOf 18 = .ok (.ireturn, 1) := by decide +kernel
theorem dX8_pull_0 : decode cX8_pull 0 = .ok (.aload_n 2, 1) := by decide +kernel
theorem dX8_pull_1 : decode cX8_pull 1 = .ok (.aload_n 1, 1) := by decide +kernel
theorem dX8_pull_2 : decode cX8_pull 2 = .ok (.getfield 13, 3) := by decide +kernel
theorem dX8_pull_5 : decode cX8_pull 5 = .ok (.invokevirtual 19, 3) := by decide +kernel
theorem dX8_pull_8 : decode cX8_pull 8 = .ok (.ifCond .le 7, 3) := by decide +kernel
theorem dX8_pull_11 : decode cX8_pull 11 = .ok (.iconst 0, 1) := by decide +kernel
theorem dX8_pull_12 : decode cX8_pull 12 = .ok (.goto 9, 3) := by decide +kernel
theorem dX8_pull_15 : decode cX8_pull 15 = .ok (.aload_n 0, 1) := by decide +kernel
theorem dX8_pull_16 : decode cX8_pull 16 = .ok (.aload_n 1, 1) := by decide +kernel
theorem dX8_pull_17 : decode cX8_pull 17 = .ok (.aload_n 2, 1) := by decide +kernel
theorem dX8_pull_18 : decode cX8_pull 18 = .ok (.invokespecial 25, 3) := by decide +kernel
theorem dX8_pull_21 : decode cX8_pull 21 = .ok (.ireturn, 1) := by decide +kernel
theorem dX8_tire_0 : decode cX8_tire 0 = .ok (.aload_n 0, 1) := by decide +kernel
theorem dX8_tire_1 : decode cX8_tire 1 = .ok (.aload_n 1, 1) := by decide +kernel
theorem dX8_tire_2 : decode cX8_tire 2 = .ok (.invokespecial 29, 3) := by decide +kernel
theorem dX8_tire_5 : decode cX8_tire 5 = .ok (.iconst 2, 1) := by decide +kernel
theorem dX8_tire_6 : decode cX8_tire 6 = .ok (.isub, 1) := by decide +kernel
theorem dX8_tire_7 : decode cX8_tire 7 = .ok (.ireturn, 1) := by decide +kernel
theorem dX8_letsGo_0 : decode cX8_letsGo 0 = .ok (.aload_n 1, 1) := by decide +kernel
theorem dX8_letsGo_1 : decode cX8_letsGo 1 = .ok (.getfield 33, 3) := by decide +kernel
theorem dX8_letsGo_4 : decode cX8_letsGo 4 = .ok (.bipush 20, 2) := by decide +kernel
theorem dX8_letsGo_6 : decode cX8_letsGo 6 = .ok (.if_icmp .lt 14, 3) := by decide +kernel
theorem dX8_letsGo_9 : decode cX8_letsGo 9 = .ok (.aload_n 2, 1) := by decide +kernel
theorem dX8_letsGo_10 : decode cX8_letsGo 10 = .ok (.aload_n 1, 1) := by decide +kernel
theorem dX8_letsGo_11 : decode cX8_letsGo 11 = .ok (.getfield 13, 3) := by decide +kernel
theorem dX8_letsGo_14 : decode cX8_letsGo 14 = .ok (.invokevirtual 19, 3) := by decide +kernel
theorem dX8_letsGo_17 : decode cX8_letsGo 17 = .ok (.ifCond .le 12, 3) := by decide +kernel
theorem dX8_letsGo_20 : decode cX8_letsGo 20 = .ok (.aload_n 0, 1) := by decide +kernel
theorem dX8_letsGo_21 : decode cX8_letsGo 21 = .ok (.aload_n 1, 1) := by decide +kernel
theorem dX8_letsGo_22 : decode cX8_letsGo 22 = .ok (.aload_n 2, 1) := by decide +kernel
theorem dX8_letsGo_23 : decode cX8_letsGo 23 = .ok (.invokespecial 36, 3) := by decide +kernel
theorem dX8_letsGo_26 : decode cX8_letsGo 26 = .ok (.ifCond .eq 7, 3) := by decide +kernel
theorem dX8_letsGo_29 : decode cX8_letsGo 29 = .ok (.iconst 1, 1) := by decide +kernel
theorem dX8_letsGo_30 : decode cX8_letsGo 30 = .ok (.goto 4, 3) := by decide +kernel
theorem dX8_letsGo_33 : decode cX8_letsGo 33 = .ok (.iconst 0, 1) := by decide +kernel
theorem dX8_letsGo_34 : decode cX8_letsGo 34 = .ok (.ireturn, 1) := by decide +kernel
theorem dX9_init_0 : decode cX9_init 0 = .ok (.aload_n 0, 1) := by decide +kernel
theorem dX9_init_1 : decode cX9_init 1 = .ok (.invokespecial 3, 3) := by decide +kernel
theorem dX9_init_4 : decode cX9_init 4 = .ok (.aload_n 0, 1) := by decide +kernel
theorem dX9_init_5 : decode cX9_init 5 = .ok (.bipush 120, 2) := by decide +kernel
theorem dX9_init_7 : decode cX9_init 7 = .ok (.newarray .int, 2) := by decide +kernel
theorem dX9_init_9 : decode cX9_init 9 = .ok (.putfield 9, 3) := by decide +kernel
theorem dX9_init_12 : decode cX9_init 12 = .ok (.return_, 1) := by decide +kernel
theorem dX9_add_0 : decode cX9_add 0 = .ok (.aload_n 0, 1) := by decide +kernel
theorem dX9_add_1 : decode cX9_add 1 = .ok (.getfield 15, 3) := by decide +kernel
theorem dX9_add_4 : decode cX9_add 4 = .ok (.bipush 120, 2) := by decide +kernel
theorem dX9_add_6 : decode cX9_add 6 = .ok (.if_icmp .ge 23, 3) := by decide +kernel
theorem dX9_add_9 : decode cX9_add 9 = .ok (.aload_n 0, 1) := by decide +kernel
theorem dX9_add_10 : decode cX9_add 10 = .ok (.getfield 9, 3) := by decide +kernel
theorem dX9_add_13 : decode cX9_add 13 = .ok (.aload_n 0, 1) := by decide +kernel
theorem dX9_add_14 : decode cX9_add 14 = .ok (.getfield 15, 3) := by decide +kernel
theorem dX9_add_17 : decode cX9_add 17 = .ok (.iload_n 1, 1) := by decide +kernel
theorem dX9_add_18 : decode cX9_add 18 = .ok (.iastore, 1) := by decide +kernel
theorem dX9_add_19 : decode cX9_add 19 = .ok (.aload_n 0, 1) := by decide +kernel
theorem dX9_add_20 : decode cX9_add 20 = .ok (.dup, 1) := by decide +kernel
theorem dX9_add_21 : decode cX9_add 21 = .ok (.getfield 15, 3) := by decide +kernel
theorem dX9_add_24 : decode cX9_add 24 = .ok (.iconst 1, 1) := by decide +kernel
theorem dX9_add_25 : decode cX9_add 25 = .ok (.iadd, 1) := by decide +kernel
theorem dX9_add_26 : decode cX9_add 26 = .ok (.putfield 15, 3) := by decide +kernel
theorem dX9_add_29 : decode cX9_add 29 = .ok (.return_, 1) := by decide +kernel
theorem dX9_tell_0 : decode cX9_tell 0 = .ok (.aload_n 0, 1) := by decide +kernel
theorem dX9_tell_1 : decode cX9_tell 1 = .ok (.iconst 0, 1) := by decide +kernel
theorem dX9_tell_2 : decode cX9_tell 2 = .ok (.putfield 19, 3) := by decide +kernel
theorem dX9_tell_5 : decode cX9_tell 5 = .ok (.aload_n 0, 1) := by decide +kernel
theorem dX9_tell_6 : decode cX9_tell 6 = .ok (.invokevirtual 22, 3) := by decide +kernel
theorem dX9_tell_9 : decode cX9_tell 9 = .ok (.iconst 1, 1) := by decide +kernel
theorem dX9_tell_10 : decode cX9_tell 10 = .ok (.istore_n 2, 1) := by decide +kernel
theorem dX9_tell_11 : decode cX9_tell 11 = .ok (.iload_n 2, 1) := by decide +kernel
theorem dX9_tell_12 : decode cX9_tell 12 = .ok (.bipush 120, 2) := by decide +kernel
theorem dX9_tell_14 : decode cX9_tell 14 = .ok (.if_icmp .gt 44, 3) := by decide +kernel
theorem dX9_tell_17 : decode cX9_tell 17 = .ok (.aload_n 0, 1) := by decide +kernel
theorem dX9_tell_18 : decode cX9_tell 18 = .ok (.aload_n 1, 1) := by decide +kernel
theorem dX9_tell_19 : decode cX9_tell 19 = .ok (.invokevirtual 25, 3) := by decide +kernel
theorem dX9_tell_22 : decode cX9_tell 22 = .ok (.ifCond .ne 6, 3) := by decide +kernel
theorem dX9_tell_25 : decode cX9_tell 25 = .ok (.goto 33, 3) := by decide +kernel
theorem dX9_tell_28 : decode cX9_tell 28 = .ok (.aload_n 0, 1) := by decide +kernel
theorem dX9_tell_29 : decode cX9_tell 29 = .ok (.getfield 29, 3) := by decide +kernel
theorem dX9_tell_32 : decode cX9_tell 32 = .ok (.ifCond .ne 5, 3) := by decide +kernel
theorem dX9_tell_35 : decode cX9_tell 35 = .ok (.iload_n 2, 1) := by decide +kernel
theorem dX9_tell_36 : decode cX9_tell 36 = .ok (.ireturn, 1) := by decide +kernel
theorem dX9_tell_37 : decode cX9_tell 37 = .ok (.aload_n 0, 1) := by decide +kernel
theorem dX9_tell_38 : decode cX9_tell 38 = .ok (.getfield 29, 3) := by decide +kernel
theorem dX9_tell_41 : decode cX9_tell 41 = .ok (.iconst 3, 1) := by decide +kernel
theorem dX9_tell_42 : decode cX9_tell 42 = .ok (.if_icmp .eq 6, 3) := by decide +kernel
theorem dX9_tell_45 : decode cX9_tell 45 = .ok (.goto 13, 3) := by decide +kernel
theorem dX9_tell_48 : decode cX9_tell 48 = .ok (.aload_n 0, 1) := by decide +kernel
theorem dX9_tell_49 : decode cX9_tell 49 = .ok (.invokevirtual 22, 3) := by decide +kernel
theorem dX9_tell_52 : decode cX9_tell 52 = .ok (.iinc 2 1, 3) := by decide +kernel
theorem dX9_tell_55 : decode cX9_tell 55 = .ok (.goto (-44), 3) := by decide +kernel
theorem dX9_tell_58 : decode cX9_tell 58 = .ok (.iconst (-1), 1) := by decide +kernel
theorem dX9_tell_59 : decode cX9_tell 59 = .ok (.aload_n 0, 1) := by decide +kernel
theorem dX9_tell_60 : decode cX9_tell 60 = .ok (.getfield 32, 3) := by decide +kernel
theorem dX9_tell_63 : decode cX9_tell 63 = .ok (.isub, 1) := by decide +kernel
theorem dX9_tell_64 : decode cX9_tell 64 = .ok (.ireturn, 1) := by decide +kernel
theorem dX9_takeItem_0 : decode cX9_takeItem 0 = .ok (.aload_n 0, 1) := by decide +kernel
theorem dX9_takeItem_1 : decode cX9_takeItem 1 = .ok (.invokevirtual 35, 3) := by decide +kernel
theorem dX9_takeItem_4 : decode cX9_takeItem 4 = .ok (.istore_n 2, 1) := by decide +kernel
theorem dX9_takeItem_5 : decode cX9_takeItem 5 = .ok (.iload_n 2, 1) := by decide +kernel
theorem dX9_takeItem_6 : decode cX9_takeItem 6 = .ok (.ifCond .lt 10, 3) := by decide +kernel
theorem dX9_takeItem_9 : decode cX9_takeItem 9 = .ok (.aload_n 0, 1) := by decide +kernel
theorem dX9_takeItem_10 : decode cX9_takeItem 10 = .ok (.aload_n 1, 1) := by decide +kernel
theorem dX9_takeItem_11 : decode cX9_takeItem 11 = .ok (.iload_n 2, 1) := by decide +kernel
theorem dX9_takeItem_12 : decode cX9_takeItem 12 = .ok (.invokevirtual 39, 3) := by decide +kernel
theorem dX9_takeItem_15 : decode cX9_takeItem 15 = .ok (.ireturn, 1) := by decide +kernel
theorem dX9_takeItem_16 : decode cX9_takeItem 16 = .ok (.aload_n 0, 1) := by decide +kernel
theorem dX9_takeItem_17 : decode cX9_takeItem 17 = .ok (.ldc 43, 2) := by decide +kernel
theorem dX9_takeItem_19 : decode cX9_takeItem 19 = .ok (.invokevirtual 45, 3) := by decide +kernel
theorem dX9_takeItem_22 : decode cX9_takeItem 22 = .ok (.ifCond .eq 10, 3) := by decide +kernel
theorem dX9_takeItem_25 : decode cX9_takeItem 25 = .ok (.aload_n 0, 1) := by decide +kernel
theorem dX9_takeItem_26 : decode cX9_takeItem 26 = .ok (.aload_n 1, 1) := by decide +kernel
theorem dX9_takeItem_27 : decode cX9_takeItem 27 = .ok (.iconst 1, 1) := by decide +kernel
theorem dX9_takeItem_28 : decode cX9_takeItem 28 = .ok (.invokevirtual 49, 3) := by decide +kernel
theorem dX9_takeItem_31 : decode cX9_takeItem 31 = .ok (.ireturn, 1) := by decide +kernel
theorem dX9_takeItem_32 : decode cX9_takeItem 32 = .ok (.aload_n 0, 1) := by decide +kernel
theorem dX9_takeItem_33 : decode cX9_takeItem 33 = .ok (.ldc 52, 2) := by decide +kernel
theorem dX9_takeItem_35 : decode cX9_takeItem 35 = .ok (.invokevirtual 45, 3) := by decide +kernel
theorem dX9_takeItem_38 : decode cX9_takeItem 38 = .ok (.ifCond .eq 10, 3) := by decide +kernel
theorem dX9_takeItem_41 : decode cX9_takeItem 41 = .ok (.aload_n 0, 1) := by decide +kernel
theorem dX9_takeItem_42 : decode cX9_takeItem 42 = .ok (.aload_n 1, 1) := by decide +kernel
theorem dX9_takeItem_43 : decode cX9_takeItem 43 = .ok (.iconst 0, 1) := by decide +kernel
theorem dX9_takeItem_44 : decode cX9_takeItem 44 = .ok (.invokevirtual 49, 3) := by decide +kernel
theorem dX9_takeItem_47 : decode cX9_takeItem 47 = .ok (.ireturn, 1) := by decide +kernel
theorem dX9_takeItem_48 : decode cX9_takeItem 48 = .ok (.aload_n 0, 1) := by decide +kernel
theorem dX9_takeItem_49 : decode cX9_takeItem 49 = .ok (.ldc 54, 2) := by decide +kernel
theorem dX9_takeItem_51 : decode cX9_takeItem 51 = .ok (.invokevirtual 45, 3) := by decide +kernel
theorem dX9_takeItem_54 : decode cX9_takeItem 54 = .ok (.ifCond .eq 9, 3) := by decide +kernel
theorem dX9_takeItem_57 : decode cX9_takeItem 57 = .ok (.aload_n 0, 1) := by decide +kernel
theorem dX9_takeItem_58 : decode cX9_takeItem 58 = .ok (.aload_n 1, 1) := by decide +kernel
theorem dX9_takeItem_59 : decode cX9_takeItem 59 = .ok (.invokevirtual 56, 3) := by decide +kernel
theorem dX9_takeItem_62 : decode cX9_takeItem 62 = .ok (.ireturn, 1) := by decide +kernel
theorem dX9_takeItem_63 : decode cX9_takeItem 63 = .ok (.aload_n 0, 1) := by decide +kernel
theorem dX9_takeItem_64 : decode cX9_takeItem 64 = .ok (.ldc 59, 2) := by decide +kernel
theorem dX9_takeItem_66 : decode cX9_takeItem 66 = .ok (.invokevirtual 45, 3) := by decide +kernel
theorem dX9_takeItem_69 : decode cX9_takeItem 69 = .ok (.ifCond .eq 15, 3) := by decide +kernel
theorem dX9_takeItem_72 : decode cX9_takeItem 72 = .ok (.aload_n 0, 1) := by decide +kernel
theorem dX9_takeItem_73 : decode cX9_takeItem 73 = .ok (.aload_n 1, 1) := by decide +kernel
theorem dX9_takeItem_74 : decode cX9_takeItem 74 = .ok (.invokevirtual 61, 3) := by decide +kernel
theorem dX9_takeItem_77 : decode cX9_takeItem 77 = .ok (.ifCond .eq 7, 3) := by decide +kernel
theorem dX9_takeItem_80 : decode cX9_takeItem 80 = .ok (.iconst 1, 1) := by decide +kernel
theorem dX9_takeItem_81 : decode cX9_takeItem 81 = .ok (.goto 4, 3) := by decide +kernel
theorem dX9_takeItem_84 : decode cX9_takeItem 84 = .ok (.iconst 0, 1) := by decide +kernel
theorem dX9_takeItem_85 : decode cX9_takeItem 85 = .ok (.ireturn, 1) := by decide +kernel
theorem dX9_takePerson_0 : decode cX9_takePerson 0 = .ok (.aload_n 1, 1) := by decide +kernel
theorem dX9_takePerson_1 : decode cX9_takePerson 1 = .ok (.invokevirtual 64, 3) := by decide +kernel
theorem dX9_takePerson_4 : decode cX9_takePerson 4 = .ok (.ifCond .eq 5, 3) := by decide +kernel
theorem dX9_takePerson_7 : decode cX9_takePerson 7 = .ok (.iconst 0, 1) := by decide +kernel
theorem dX9_takePerson_8 : decode cX9_takePerson 8 = .ok (.ireturn, 1) := by decide +kernel
theorem dX9_takePerson_9 : decode cX9_takePerson 9 = .ok (.aload_n 0, 1) := by decide +kernel
theorem dX9_takePerson_10 : decode cX9_takePerson 10 = .ok (.invokevirtual 22, 3) := by decide +kernel
theorem dX9_takePerson_13 : decode cX9_takePerson 13 = .ok (.aload_n 0, 1) := by decide +kernel
theorem dX9_takePerson_14 : decode cX9_takePerson 14 = .ok (.invokevirtual 70, 3) := by decide +kernel
theorem dX9_takePerson_17 : decode cX9_takePerson 17 = .ok (.istore_n 3, 1) := by decide +kernel
theorem dX9_takePerson_18 : decode cX9_takePerson 18 = .ok (.iload_n 3, 1) := by decide +kernel
theorem dX9_takePerson_19 : decode cX9_takePerson 19 = .ok (.ifCond .ge 5, 3) := by decide +kernel
theorem dX9_takePerson_22 : decode cX9_takePerson 22 = .ok (.iconst 0, 1) := by decide +kernel
theorem dX9_takePerson_23 : decode cX9_takePerson 23 = .ok (.ireturn, 1) := by decide +kernel
theorem dX9_takePerson_24 : decode cX9_takePerson 24 = .ok (.aload_n 1, 1) := by decide +kernel
theorem dX9_takePerson_25 : decode cX9_takePerson 25 = .ok (.getfield 73, 3) := by decide +kernel
theorem dX9_takePerson_28 : decode cX9_takePerson 28 = .ok (.aload_n 1, 1) := by decide +kernel
theorem dX9_takePerson_29 : decode cX9_takePerson 29 = .ok (.getfield 77, 3) := by decide +kernel
theorem dX9_takePerson_32 : decode cX9_takePerson 32 = .ok (.aaload, 1) := by decide +kernel
theorem dX9_takePerson_33 : decode cX9_takePerson 33 = .ok (.astore 4, 2) := by decide +kernel
theorem dX9_takePerson_35 : decode cX9_takePerson 35 = .ok (.aload_n 1, 1) := by decide +kernel
theorem dX9_takePerson_36 : decode cX9_takePerson 36 = .ok (.iload_n 2, 1) := by decide +kernel
theorem dX9_takePerson_37 : decode cX9_takePerson 37 = .ok (.iload_n 3, 1) := by decide +kernel
theorem dX9_takePerson_38 : decode cX9_takePerson 38 = .ok (.invokevirtual 78, 3) := by decide +kernel
theorem dX9_takePerson_41 : decode cX9_takePerson 41 = .ok (.aload_n 0, 1) := by decide +kernel
theorem dX9_takePerson_42 : decode cX9_takePerson 42 = .ok (.ldc 82, 2) := by decide +kernel
theorem dX9_takePerson_44 : decode cX9_takePerson 44 = .ok (.invokevirtual 45, 3) := by decide +kernel
theorem dX9_takePerson_47 : decode cX9_takePerson 47 = .ok (.ifCond .eq 24, 3) := by decide +kernel
theorem dX9_takePerson_50 : decode cX9_takePerson 50 = .ok (.aload_n 0, 1) := by decide +kernel
theorem dX9_takePerson_51 : decode cX9_takePerson 51 = .ok (.iconst 1, 1) := by decide +kernel
theorem dX9_takePerson_52 : decode cX9_takePerson 52 = .ok (.bipush 20, 2) := by decide +kernel
theorem dX9_takePerson_54 : decode cX9_takePerson 54 = .ok (.invokevirtual 84, 3) := by decide +kernel
theorem dX9_takePerson_57 : decode cX9_takePerson 57 = .ok (.ifCond .ne 5, 3) := by decide +kernel
theorem dX9_takePerson_60 : decode cX9_takePerson 60 = .ok (.iconst 0, 1) := by decide +kernel
theorem dX9_takePerson_61 : decode cX9_takePerson 61 = .ok (.ireturn, 1) := by decide +kernel
theorem dX9_takePerson_62 : decode cX9_takePerson 62 = .ok (.aload 4, 2) := by decide +kernel
theorem dX9_takePerson_64 : decode cX9_takePerson 64 = .ok (.aload_n 0, 1) := by decide +kernel
theorem dX9_takePerson_65 : decode cX9_takePerson 65 = .ok (.getfield 88, 3) := by decide +kernel
theorem dX9_takePerson_68 : decode cX9_takePerson 68 = .ok (.putfield 91, 3) := by decide +kernel
theorem dX9_takePerson_71 : decode cX9_takePerson 71 = .ok (.aload_n 0, 1) := by decide +kernel
theorem dX9_takePerson_72 : decode cX9_takePerson 72 = .ok (.ldc 95, 2) := by decide +kernel
theorem dX9_takePerson_74 : decode cX9_takePerson 74 = .ok (.invokevirtual 45, 3) := by decide +kernel
theorem dX9_takePerson_77 : decode cX9_takePerson 77 = .ok (.ifCond .eq 24, 3) := by decide +kernel
theorem dX9_takePerson_80 : decode cX9_takePerson 80 = .ok (.aload_n 0, 1) := by decide +kernel
theorem dX9_takePerson_81 : decode cX9_takePerson 81 = .ok (.iconst 0, 1) := by decide +kernel
theorem dX9_takePerson_82 : decode cX9_takePerson 82 = .ok (.bipush 99, 2) := by decide +kernel
theorem dX9_takePerson_84 : decode cX9_takePerson 84 = .ok (.invokevirtual 84, 3) := by decide +kernel
theorem dX9_takePerson_87 : decode cX9_takePerson 87 = .ok (.ifCond .ne 5, 3) := by decide +kernel
theorem dX9_takePerson_90 : decode cX9_takePerson 90 = .ok (.iconst 0, 1) := by decide +kernel
theorem dX9_takePerson_91 : decode cX9_takePerson 91 = .ok (.ireturn, 1) := by decide +kernel
theorem dX9_takePerson_92 : decode cX9_takePerson 92 = .ok (.aload 4, 2) := by decide +kernel
theorem dX9_takePerson_94 : decode cX9_takePerson 94 = .ok (.aload_n 0, 1) := by decide +kernel
theorem dX9_takePerson_95 : decode cX9_takePerson 95 = .ok (.getfield 88, 3) := by decide +kernel
theorem dX9_takePerson_98 : decode cX9_takePerson 98 = .ok (.putfield 97, 3) := by decide +kernel
theorem dX9_takePerson_101 : decode cX9_takePerson 101 = .ok (.aload_n 0, 1) := by decide +kernel
theorem dX9_takePerson_102 : decode cX9_takePerson 102 = .ok (.ldc 99, 2) := by decide +kernel
theorem dX9_takePerson_104 : decode cX9_takePerson 104 = .ok (.invokevirtual 45, 3) := by decide +kernel
theorem dX9_takePerson_107 : decode cX9_takePerson 107 = .ok (.ifCond .eq 9, 3) := by decide +kernel
theorem dX9_takePerson_110 : decode cX9_takePerson 110 = .ok (.aload 4, 2) := by decide +kernel
theorem dX9_takePerson_112 : decode cX9_takePerson 112 = .ok (.iconst 1, 1) := by decide +kernel
theorem dX9_takePerson_113 : decode cX9_takePerson 113 = .ok (.putfield 101, 3) := by decide +kernel
theorem dX9_takePerson_116 : decode cX9_takePerson 116 = .ok (.iconst 1, 1) := by decide +kernel
theorem dX9_takePerson_117 : decode cX9_takePerson 117 = .ok (.ireturn, 1) := by decide +kernel
theorem dX9_takeWeek_0 : decode cX9_takeWeek 0 = .ok (.aload_n 0, 1) := by decide +kernel
theorem dX9_takeWeek_1 : decode cX9_takeWeek 1 = .ok (.iconst 0, 1) := by decide +kernel
theorem dX9_takeWeek_2 : decode cX9_takeWeek 2 = .ok (.bipush 7, 2) := by decide +kernel
theorem dX9_takeWeek_4 : decode cX9_takeWeek 4 = .ok (.invokevirtual 84, 3) := by decide +kernel
theorem dX9_takeWeek_7 : decode cX9_takeWeek 7 = .ok (.ifCond .ne 5, 3) := by decide +kernel
theorem dX9_takeWeek_10 : decode cX9_takeWeek 10 = .ok (.iconst 0, 1) := by decide +kernel
theorem dX9_takeWeek_11 : decode cX9_takeWeek 11 = .ok (.ireturn, 1) := by decide +kernel
theorem dX9_takeWeek_12 : decode cX9_takeWeek 12 = .ok (.aload_n 1, 1) := by decide +kernel
theorem dX9_takeWeek_13 : decode cX9_takeWeek 13 = .ok (.aload_n 1, 1) := by decide +kernel
theorem dX9_takeWeek_14 : decode cX9_takeWeek 14 = .ok (.getfield 103, 3) := by decide +kernel
theorem dX9_takeWeek_17 : decode cX9_takeWeek 17 = .ok (.iconst 1, 1) := by decide +kernel
theorem dX9_takeWeek_18 : decode cX9_takeWeek 18 = .ok (.aload_n 0, 1) := by decide +kernel
theorem dX9_takeWeek_19 : decode cX9_takeWeek 19 = .ok (.getfield 88, 3) := by decide +kernel
theorem dX9_takeWeek_22 : decode cX9_takeWeek 22 = .ok (.ishl, 1) := by decide +kernel
theorem dX9_takeWeek_23 : decode cX9_takeWeek 23 = .ok (.iconst (-1), 1) := by decide +kernel
theorem dX9_takeWeek_24 : decode cX9_takeWeek 24 = .ok (.ixor, 1) := by decide +kernel
theorem dX9_takeWeek_25 : decode cX9_takeWeek 25 = .ok (.iand, 1) := by decide +kernel
theorem dX9_takeWeek_26 : decode cX9_takeWeek 26 = .ok (.iload_n 2, 1) := by decide +kernel
theorem dX9_takeWeek_27 : decode cX9_takeWeek 27 = .ok (.aload_n 0, 1) := by decide +kernel
theorem dX9_takeWeek_28 : decode cX9_takeWeek 28 = .ok (.getfield 88, 3) := by decide +kernel
theorem dX9_takeWeek_31 : decode cX9_takeWeek 31 = .ok (.ishl, 1) := by decide +kernel
theorem dX9_takeWeek_32 : decode cX9_takeWeek 32 = .ok (.ior, 1) := by decide +kernel
theorem dX9_takeWeek_33 : decode cX9_takeWeek 33 = .ok (.putfield 103, 3) := by decide +kernel
theorem dX9_takeWeek_36 : decode cX9_takeWeek 36 = .ok (.iconst 1, 1) := by decide +kernel
theorem dX9_takeWeek_37 : decode cX9_takeWeek 37 = .ok (.ireturn, 1) := by decide +kernel
theorem dX9_takeKnot_0 : decode cX9_takeKnot 0 = .ok (.aload_n 0, 1) := by decide +kernel
theorem dX9_takeKnot_1 : decode cX9_takeKnot 1 = .ok (.invokevirtual 70, 3) := by decide +kernel
theorem dX9_takeKnot_4 : decode cX9_takeKnot 4 = .ok (.istore_n 2, 1) := by decide +kernel
theorem dX9_takeKnot_5 : decode cX9_takeKnot 5 = .ok (.iload_n 2, 1) := by decide +kernel
theorem dX9_takeKnot_6 : decode cX9_takeKnot 6 = .ok (.ifCond .lt 14, 3) := by decide +kernel
theorem dX9_takeKnot_9 : decode cX9_takeKnot 9 = .ok (.aload_n 0, 1) := by decide +kernel
theorem dX9_takeKnot_10 : decode cX9_takeKnot 10 = .ok (.iconst 0, 1) := by decide +kernel
theorem dX9_takeKnot_11 : decode cX9_takeKnot 11 = .ok (.sipush 9999, 3) := by decide +kernel
theorem dX9_takeKnot_14 : decode cX9_takeKnot 14 = .ok (.invokevirtual 84, 3) := by decide +kernel
theorem dX9_takeKnot_17 : decode cX9_takeKnot 17 = .ok (.ifCond .ne 5, 3) := by decide +kernel
theorem dX9_takeKnot_20 : decode cX9_takeKnot 20 = .ok (.iconst 0, 1) := by decide +kernel
theorem dX9_takeKnot_21 : decode cX9_takeKnot 21 = .ok (.ireturn, 1) := by decide +kernel
theorem dX9_takeKnot_22 : decode cX9_takeKnot 22 = .ok (.aload_n 1, 1) := by decide +kernel
theorem dX9_takeKnot_23 : decode cX9_takeKnot 23 = .ok (.iload_n 2, 1) := by decide +kernel
theorem dX9_takeKnot_24 : decode cX9_takeKnot 24 = .ok (.iconst 1, 1) := by decide +kernel
theorem dX9_takeKnot_25 : decode cX9_takeKnot 25 = .ok (.if_icmp .ne 10, 3) := by decide +kernel
theorem dX9_takeKnot_28 : decode cX9_takeKnot 28 = .ok (.aload_n 0, 1) := by decide +kernel
theorem dX9_takeKnot_29 : decode cX9_takeKnot 29 = .ok (.getfield 88, 3) := by decide +kernel
theorem dX9_takeKnot_32 : decode cX9_takeKnot 32 = .ok (.goto 8, 3) := by decide +kernel
theorem dX9_takeKnot_35 : decode cX9_takeKnot 35 = .ok (.aload_n 0, 1) := by decide +kernel
theorem dX9_takeKnot_36 : decode cX9_takeKnot 36 = .ok (.getfield 88, 3) := by decide +kernel
theorem dX9_takeKnot_39 : decode cX9_takeKnot 39 = .ok (.ineg, 1) := by decide +kernel
theorem dX9_takeKnot_40 : decode cX9_takeKnot 40 = .ok (.putfield 105, 3) := by decide +kernel
theorem dX9_takeKnot_43 : decode cX9_takeKnot 43 = .ok (.iconst 1, 1) := by decide +kernel
theorem dX9_takeKnot_44 : decode cX9_takeKnot 44 = .ok (.ireturn, 1) := by decide +kernel
theorem dX9_takeSlack_0 : decode cX9_takeSlack 0 = .ok (.aload_n 0, 1) := by decide +kernel
theorem dX9_takeSlack_1 : decode cX9_takeSlack 1 = .ok (.iconst 0, 1) := by decide +kernel
theorem dX9_takeSlack_2 : decode cX9_takeSlack 2 = .ok (.bipush 99, 2) := by decide +kernel
theorem dX9_takeSlack_4 : decode cX9_takeSlack 4 = .ok (.invokevirtual 84, 3) := by decide +kernel
theorem dX9_takeSlack_7 : decode cX9_takeSlack 7 = .ok (.ifCond .ne 5, 3) := by decide +kernel
theorem dX9_takeSlack_10 : decode cX9_takeSlack 10 = .ok (.iconst 0, 1) := by decide +kernel
theorem dX9_takeSlack_11 : decode cX9_takeSlack 11 = .ok (.ireturn, 1) := by decide +kernel
theorem dX9_takeSlack_12 : decode cX9_takeSlack 12 = .ok (.aload_n 1, 1) := by decide +kernel
theorem dX9_takeSlack_13 : decode cX9_takeSlack 13 = .ok (.aload_n 0, 1) := by decide +kernel
theorem dX9_takeSlack_14 : decode cX9_takeSlack 14 = .ok (.getfield 88, 3) := by decide +kernel
theorem dX9_takeSlack_17 : decode cX9_takeSlack 17 = .ok (.putfield 107, 3) := by decide +kernel
theorem dX9_takeSlack_20 : decode cX9_takeSlack 20 = .ok (.iconst 1, 1) := by decide +kernel
theorem dX9_takeSlack_21 : decode cX9_takeSlack 21 = .ok (.ireturn, 1) := by decide +kernel
theorem dX9_takeSide_0 : decode cX9_takeSide 0 = .ok (.iconst (-1), 1) := by decide +kernel
theorem dX9_takeSide_1 : decode cX9_takeSide 1 = .ok (.istore_n 1, 1) := by decide +kernel
theorem dX9_takeSide_2 : decode cX9_takeSide 2 = .ok (.aload_n 0, 1) := by decide +kernel
theorem dX9_takeSide_3 : decode cX9_takeSide 3 = .ok (.ldc 109, 2) := by decide +kernel
theorem dX9_takeSide_5 : decode cX9_takeSide 5 = .ok (.invokevirtual 111, 3) := by decide +kernel
theorem dX9_takeSide_8 : decode cX9_takeSide 8 = .ok (.ifCond .eq 8, 3) := by decide +kernel
theorem dX9_takeSide_11 : decode cX9_takeSide 11 = .ok (.iconst 0, 1) := by decide +kernel
theorem dX9_takeSide_12 : decode cX9_takeSide 12 = .ok (.istore_n 1, 1) := by decide +kernel
theorem dX9_takeSide_13 : decode cX9_takeSide 13 = .ok (.goto 14, 3) := by decide +kernel
theorem dX9_takeSide_16 : decode cX9_takeSide 16 = .ok (.aload_n 0, 1) := by decide +kernel
theorem dX9_takeSide_17 : decode cX9_takeSide 17 = .ok (.ldc 114, 2) := by decide +kernel
theorem dX9_takeSide_19 : decode cX9_takeSide 19 = .ok (.invokevirtual 111, 3) := by decide +kernel
theorem dX9_takeSide_22 : decode cX9_takeSide 22 = .ok (.ifCond .eq 5, 3) := by decide +kernel
theorem dX9_takeSide_25 : decode cX9_takeSide 25 = .ok (.iconst 1, 1) := by decide +kernel
theorem dX9_takeSide_26 : decode cX9_takeSide 26 = .ok (.istore_n 1, 1) := by decide +kernel
theorem dX9_takeSide_27 : decode cX9_takeSide 27 = .ok (.iload_n 1, 1) := by decide +kernel
theorem dX9_takeSide_28 : decode cX9_takeSide 28 = .ok (.ifCond .lt 7, 3) := by decide +kernel
theorem dX9_takeSide_31 : decode cX9_takeSide 31 = .ok (.aload_n 0, 1) := by decide +kernel
theorem dX9_takeSide_32 : decode cX9_takeSide 32 = .ok (.invokevirtual 22, 3) := by decide +kernel
theorem dX9_takeSide_35 : decode cX9_takeSide 35 = .ok (.iload_n 1, 1) := by decide +kernel
theorem dX9_takeSide_36 : decode cX9_takeSide 36 = .ok (.ireturn, 1) := by decide +kernel
theorem dX9_takeWord_0 : decode cX9_takeWord 0 = .ok (.aload_n 0, 1) := by decide +kernel
theorem dX9_takeWord_1 : decode cX9_takeWord 1 = .ok (.aload_n 1, 1) := by decide +kernel
theorem dX9_takeWord_2 : decode cX9_takeWord 2 = .ok (.invokevirtual 111, 3) := by decide +kernel
theorem dX9_takeWord_5 : decode cX9_takeWord 5 = .ok (.ifCond .ne 5, 3) := by decide +kernel
theorem dX9_takeWord_8 : decode cX9_takeWord 8 = .ok (.iconst 0, 1) := by decide +kernel
theorem dX9_takeWord_9 : decode cX9_takeWord 9 = .ok (.ireturn, 1) := by decide +kernel
theorem dX9_takeWord_10 : decode cX9_takeWord 10 = .ok (.aload_n 0, 1) := by decide +kernel
theorem dX9_takeWord_11 : decode cX9_takeWord 11 = .ok (.invokevirtual 22, 3) := by decide +kernel
theorem dX9_takeWord_14 : decode cX9_takeWord 14 = .ok (.iconst 1, 1) := by decide +kernel
theorem dX9_takeWord_15 : decode cX9_takeWord 15 = .ok (.ireturn, 1) := by decide +kernel
theorem dX9_takeNumber_0 : decode cX9_takeNumber 0 = .ok (.aload_n 0, 1) := by decide +kernel
theorem dX9_takeNumber_1 : decode cX9_takeNumber 1 = .ok (.getfield 29, 3) := by decide +kernel
theorem dX9_takeNumber_4 : decode cX9_takeNumber 4 = .ok (.iconst 2, 1) := by decide +kernel
theorem dX9_takeNumber_5 : decode cX9_takeNumber 5 = .ok (.if_icmp .eq 5, 3) := by decide +kernel
theorem dX9_takeNumber_8 : decode cX9_takeNumber 8 = .ok (.iconst 0, 1) := by decide +kernel
theorem dX9_takeNumber_9 : decode cX9_takeNumber 9 = .ok (.ireturn, 1) := by decide +kernel
theorem dX9_takeNumber_10 : decode cX9_takeNumber 10 = .ok (.iconst 0, 1) := by decide +kernel
theorem dX9_takeNumber_11 : decode cX9_takeNumber 11 = .ok (.istore_n 3, 1) := by decide +kernel
theorem dX9_takeNumber_12 : decode cX9_takeNumber 12 = .ok (.aload_n 0, 1) := by decide +kernel
theorem dX9_takeNumber_13 : decode cX9_takeNumber 13 = .ok (.getfield 32, 3) := by decide +kernel
theorem dX9_takeNumber_16 : decode cX9_takeNumber 16 = .ok (.istore 4, 2) := by decide +kernel
theorem dX9_takeNumber_18 : decode cX9_takeNumber 18 = .ok (.iload 4, 2) := by decide +kernel
theorem dX9_takeNumber_20 : decode cX9_takeNumber 20 = .ok (.aload_n 0, 1) := by decide +kernel
theorem dX9_takeNumber_21 : decode cX9_takeNumber 21 = .ok (.getfield 19, 3) := by decide +kernel
theorem dX9_takeNumber_24 : decode cX9_takeNumber 24 = .ok (.if_icmp .ge 39, 3) := by decide +kernel
theorem dX9_takeNumber_27 : decode cX9_takeNumber 27 = .ok (.iload 4, 2) := by decide +kernel
theorem dX9_takeNumber_29 : decode cX9_takeNumber 29 = .ok (.bipush 120, 2) := by decide +kernel
theorem dX9_takeNumber_31 : decode cX9_takeNumber 31 = .ok (.if_icmp .ge 32, 3) := by decide +kernel
theorem dX9_takeNumber_34 : decode cX9_takeNumber 34 = .ok (.iload_n 3, 1) := by decide +kernel
theorem dX9_takeNumber_35 : decode cX9_takeNumber 35 = .ok (.sipush 9999, 3) := by decide +kernel
theorem dX9_takeNumber_38 : decode cX9_takeNumber 38 = .ok (.if_icmp .gt 19, 3) := by decide +kernel
theorem dX9_takeNumber_41 : decode cX9_takeNumber 41 = .ok (.bipush 10, 2) := by decide +kernel
theorem dX9_takeNumber_43 : decode cX9_takeNumber 43 = .ok (.iload_n 3, 1) := by decide +kernel
theorem dX9_takeNumber_44 : decode cX9_takeNumber 44 = .ok (.imul, 1) := by decide +kernel
theorem dX9_takeNumber_45 : decode cX9_takeNumber 45 = .ok (.aload_n 0, 1) := by decide +kernel
theorem dX9_takeNumber_46 : decode cX9_takeNumber 46 = .ok (.getfield 9, 3) := by decide +kernel
theorem dX9_takeNumber_49 : decode cX9_takeNumber 49 = .ok (.iload 4, 2) := by decide +kernel
theorem dX9_takeNumber_51 : decode cX9_takeNumber 51 = .ok (.iaload, 1) := by decide +kernel
theorem dX9_takeNumber_52 : decode cX9_takeNumber 52 = .ok (.iadd, 1) := by decide +kernel
theorem dX9_takeNumber_53 : decode cX9_takeNumber 53 = .ok (.bipush 48, 2) := by decide +kernel
theorem dX9_takeNumber_55 : decode cX9_takeNumber 55 = .ok (.isub, 1) := by decide +kernel
theorem dX9_takeNumber_56 : decode cX9_takeNumber 56 = .ok (.istore_n 3, 1) := by decide +kernel
theorem dX9_takeNumber_57 : decode cX9_takeNumber 57 = .ok (.iinc 4 1, 3) := by decide +kernel
theorem dX9_takeNumber_60 : decode cX9_takeNumber 60 = .ok (.goto (-42), 3) := by decide +kernel
theorem dX9_takeNumber_63 : decode cX9_takeNumber 63 = .ok (.iload_n 3, 1) := by decide +kernel
theorem dX9_takeNumber_64 : decode cX9_takeNumber 64 = .ok (.iload_n 1, 1) := by decide +kernel
theorem dX9_takeNumber_65 : decode cX9_takeNumber 65 = .ok (.if_icmp .lt 8, 3) := by decide +kernel
theorem dX9_takeNumber_68 : decode cX9_takeNumber 68 = .ok (.iload_n 3, 1) := by decide +kernel
theorem dX9_takeNumber_69 : decode cX9_takeNumber 69 = .ok (.iload_n 2, 1) := by decide +kernel
theorem dX9_takeNumber_70 : decode cX9_takeNumber 70 = .ok (.if_icmp .le 5, 3) := by decide +kernel
theorem dX9_takeNumber_73 : decode cX9_takeNumber 73 = .ok (.iconst 0, 1) := by decide +kernel
theorem dX9_takeNumber_74 : decode cX9_takeNumber 74 = .ok (.ireturn, 1) := by decide +kernel
theorem dX9_takeNumber_75 : decode cX9_takeNumber 75 = .ok (.aload_n 0, 1) := by decide +kernel
theorem dX9_takeNumber_76 : decode cX9_takeNumber 76 = .ok (.iload_n 3, 1) := by decide +kernel
theorem dX9_takeNumber_77 : decode cX9_takeNumber 77 = .ok (.putfield 88, 3) := by decide +kernel
theorem dX9_takeNumber_80 : decode cX9_takeNumber 80 = .ok (.aload_n 0, 1) := by decide +kernel
theorem dX9_takeNumber_81 : decode cX9_takeNumber 81 = .ok (.invokevirtual 22, 3) := by decide +kernel
theorem dX9_takeNumber_84 : decode cX9_takeNumber 84 = .ok (.iconst 1, 1) := by decide +kernel
theorem dX9_takeNumber_85 : decode cX9_takeNumber 85 = .ok (.ireturn, 1) := by decide +kernel
theorem dX9_kindNamed_0 : decode cX9_kindNamed 0 = .ok (.aload_n 0, 1) := by decide +kernel
theorem dX9_kindNamed_1 : decode cX9_kindNamed 1 = .ok (.ldc 116, 2) := by decide +kernel
theorem dX9_kindNamed_3 : decode cX9_kindNamed 3 = .ok (.invokevirtual 111, 3) := by decide +kernel
theorem dX9_kindNamed_6 : decode cX9_kindNamed 6 = .ok (.ifCond .eq 5, 3) := by decide +kernel
theorem dX9_kindNamed_9 : decode cX9_kindNamed 9 = .ok (.iconst 0, 1) := by decide +kernel
theorem dX9_kindNamed_10 : decode cX9_kindNamed 10 = .ok (.ireturn, 1) := by decide +kernel
theorem dX9_kindNamed_11 : decode cX9_kindNamed 11 = .ok (.aload_n 0, 1) := by decide +kernel
theorem dX9_kindNamed_12 : decode cX9_kindNamed 12 = .ok (.ldc 118, 2) := by decide +kernel
theorem dX9_kindNamed_14 : decode cX9_kindNamed 14 = .ok (.invokevirtual 111, 3) := by decide +kernel
theorem dX9_kindNamed_17 : decode cX9_kindNamed 17 = .ok (.ifCond .eq 5, 3) := by decide +kernel
theorem dX9_kindNamed_20 : decode cX9_kindNamed 20 = .ok (.iconst 1, 1) := by decide +kernel
theorem dX9_kindNamed_21 : decode cX9_kindNamed 21 = .ok (.ireturn, 1) := by decide +kernel
theorem dX9_kindNamed_22 : decode cX9_kindNamed 22 = .ok (.aload_n 0, 1) := by decide +kernel
theorem dX9_kindNamed_23 : decode cX9_kindNamed 23 = .ok (.ldc 120, 2) := by decide +kernel
theorem dX9_kindNamed_25 : decode cX9_kindNamed 25 = .ok (.invokevirtual 111, 3) := by decide +kernel
theorem dX9_kindNamed_28 : decode cX9_kindNamed 28 = .ok (.ifCond .eq 5, 3) := by decide +kernel
theorem dX9_kindNamed_31 : decode cX9_kindNamed 31 = .ok (.iconst 2, 1) := by decide +kernel
theorem dX9_kindNamed_32 : decode cX9_kindNamed 32 = .ok (.ireturn, 1) := by decide +kernel
theorem dX9_kindNamed_33 : decode cX9_kindNamed 33 = .ok (.aload_n 0, 1) := by decide +kernel
theorem dX9_kindNamed_34 : decode cX9_kindNamed 34 = .ok (.ldc 122, 2) := by decide +kernel
theorem dX9_kindNamed_36 : decode cX9_kindNamed 36 = .ok (.invokevirtual 111, 3) := by decide +kernel
theorem dX9_kindNamed_39 : decode cX9_kindNamed 39 = .ok (.ifCond .eq 5, 3) := by decide +kernel
theorem dX9_kindNamed_42 : decode cX9_kindNamed 42 = .ok (.iconst 3, 1) := by decide +kernel
theorem dX9_kindNamed_43 : decode cX9_kindNamed 43 = .ok (.ireturn, 1) := by decide +kernel
theorem dX9_kindNamed_44 : decode cX9_kindNamed 44 = .ok (.aload_n 0, 1) := by decide +kernel
theorem dX9_kindNamed_45 : decode cX9_kindNamed 45 = .ok (.ldc 124, 2) := by decide +kernel
theorem dX9_kindNamed_47 : decode cX9_kindNamed 47 = .ok (.invokevirtual 111, 3) := by decide +kernel
theorem dX9_kindNamed_50 : decode cX9_kindNamed 50 = .ok (.ifCond .eq 5, 3) := by decide +kernel
theorem dX9_kindNamed_53 : decode cX9_kindNamed 53 = .ok (.iconst 4, 1) := by decide +kernel
theorem dX9_kindNamed_54 : decode cX9_kindNamed 54 = .ok (.ireturn, 1) := by decide +kernel
theorem dX9_kindNamed_55 : decode cX9_kindNamed 55 = .ok (.aload_n 0, 1) := by decide +kernel
theorem dX9_kindNamed_56 : decode cX9_kindNamed 56 = .ok (.ldc 126, 2) := by decide +kernel
theorem dX9_kindNamed_58 : decode cX9_kindNamed 58 = .ok (.invokevirtual 111, 3) := by decide +kernel
theorem dX9_kindNamed_61 : decode cX9_kindNamed 61 = .ok (.ifCond .eq 7, 3) := by decide +kernel
theorem dX9_kindNamed_64 : decode cX9_kindNamed 64 = .ok (.iconst 5, 1) := by decide +kernel
theorem dX9_kindNamed_65 : decode cX9_kindNamed 65 = .ok (.goto 4, 3) := by decide +kernel
theorem dX9_kindNamed_68 : decode cX9_kindNamed 68 = .ok (.iconst (-1), 1) := by decide +kernel
theorem dX9_kindNamed_69 : decode cX9_kindNamed 69 = .ok (.ireturn, 1) := by decide +kernel
theorem dX9_isWord_0 : decode cX9_isWord 0 = .ok (.aload_n 0, 1) := by decide +kernel
theorem dX9_isWord_1 : decode cX9_isWord 1 = .ok (.getfield 29, 3) := by decide +kernel
theorem dX9_isWord_4 : decode cX9_isWord 4 = .ok (.iconst 1, 1) := by decide +kernel
theorem dX9_isWord_5 : decode cX9_isWord 5 = .ok (.if_icmp .ne 19, 3) := by decide +kernel
theorem dX9_isWord_8 : decode cX9_isWord 8 = .ok (.aload_n 0, 1) := by decide +kernel
theorem dX9_isWord_9 : decode cX9_isWord 9 = .ok (.getfield 19, 3) := by decide +kernel
theorem dX9_isWord_12 : decode cX9_isWord 12 = .ok (.aload_n 0, 1) := by decide +kernel
theorem dX9_isWord_13 : decode cX9_isWord 13 = .ok (.getfield 32, 3) := by decide +kernel
theorem dX9_isWord_16 : decode cX9_isWord 16 = .ok (.isub, 1) := by decide +kernel
theorem dX9_isWord_17 : decode cX9_isWord 17 = .ok (.aload_n 1, 1) := by decide +kernel
theorem dX9_isWord_18 : decode cX9_isWord 18 = .ok (.invokevirtual 128, 3) := by decide +kernel
theorem dX9_isWord_21 : decode cX9_isWord 21 = .ok (.if_icmp .eq 5, 3) := by decide +kernel
theorem dX9_isWord_24 : decode cX9_isWord 24 = .ok (.iconst 0, 1) := by decide +kernel
theorem dX9_isWord_25 : decode cX9_isWord 25 = .ok (.ireturn, 1) := by decide +kernel
theorem dX9_isWord_26 : decode cX9_isWord 26 = .ok (.iconst 0, 1) := by decide +kernel
theorem dX9_isWord_27 : decode cX9_isWord 27 = .ok (.istore_n 2, 1) := by decide +kernel
theorem dX9_isWord_28 : decode cX9_isWord 28 = .ok (.iload_n 2, 1) := by decide +kernel
theorem dX9_isWord_29 : decode cX9_isWord 29 = .ok (.aload_n 1, 1) := by decide +kernel
theorem dX9_isWord_30 : decode cX9_isWord 30 = .ok (.invokevirtual 128, 3) := by decide +kernel
theorem dX9_isWord_33 : decode cX9_isWord 33 = .ok (.if_icmp .ge 41, 3) := by decide +kernel
theorem dX9_isWord_36 : decode cX9_isWord 36 = .ok (.aload_n 0, 1) := by decide +kernel
theorem dX9_isWord_37 : decode cX9_isWord 37 = .ok (.getfield 32, 3) := by decide +kernel
theorem dX9_isWord_40 : decode cX9_isWord 40 = .ok (.iload_n 2, 1) := by decide +kernel
theorem dX9_isWord_41 : decode cX9_isWord 41 = .ok (.iadd, 1) := by decide +kernel
theorem dX9_isWord_42 : decode cX9_isWord 42 = .ok (.bipush 120, 2) := by decide +kernel
theorem dX9_isWord_44 : decode cX9_isWord 44 = .ok (.if_icmp .ge 30, 3) := by decide +kernel
theorem dX9_isWord_47 : decode cX9_isWord 47 = .ok (.aload_n 0, 1) := by decide +kernel
theorem dX9_isWord_48 : decode cX9_isWord 48 = .ok (.getfield 9, 3) := by decide +kernel
theorem dX9_isWord_51 : decode cX9_isWord 51 = .ok (.aload_n 0, 1) := by decide +kernel
theorem dX9_isWord_52 : decode cX9_isWord 52 = .ok (.getfield 32, 3) := by decide +kernel
theorem dX9_isWord_55 : decode cX9_isWord 55 = .ok (.iload_n 2, 1) := by decide +kernel
theorem dX9_isWord_56 : decode cX9_isWord 56 = .ok (.iadd, 1) := by decide +kernel
theorem dX9_isWord_57 : decode cX9_isWord 57 = .ok (.iaload, 1) := by decide +kernel
theorem dX9_isWord_58 : decode cX9_isWord 58 = .ok (.aload_n 1, 1) := by decide +kernel
theorem dX9_isWord_59 : decode cX9_isWord 59 = .ok (.iload_n 2, 1) := by decide +kernel
theorem dX9_isWord_60 : decode cX9_isWord 60 = .ok (.invokevirtual 133, 3) := by decide +kernel
theorem dX9_isWord_63 : decode cX9_isWord 63 = .ok (.if_icmp .eq 5, 3) := by decide +kernel
theorem dX9_isWord_66 : decode cX9_isWord 66 = .ok (.iconst 0, 1) := by decide +kernel
theorem dX9_isWord_67 : decode cX9_isWord 67 = .ok (.ireturn, 1) := by decide +kernel
theorem dX9_isWord_68 : decode cX9_isWord 68 = .ok (.iinc 2 1, 3) := by decide +kernel
theorem dX9_isWord_71 : decode cX9_isWord 71 = .ok (.goto (-43), 3) := by decide +kernel
theorem dX9_isWord_74 : decode cX9_isWord 74 = .ok (.iconst 1, 1) := by decide +kernel
theorem dX9_isWord_75 : decode cX9_isWord 75 = .ok (.ireturn, 1) := by decide +kernel
theorem dX9_lookAtNext_0 : decode cX9_lookAtNext 0 = .ok (.aload_n 0, 1) := by decide +kernel
theorem dX9_lookAtNext_1 : decode cX9_lookAtNext 1 = .ok (.aload_n 0, 1) := by decide +kernel
theorem dX9_lookAtNext_2 : decode cX9_lookAtNext 2 = .ok (.getfield 19, 3) := by decide +kernel
theorem dX9_lookAtNext_5 : decode cX9_lookAtNext 5 = .ok (.putfield 32, 3) := by decide +kernel
theorem dX9_lookAtNext_8 : decode cX9_lookAtNext 8 = .ok (.aload_n 0, 1) := by decide +kernel
theorem dX9_lookAtNext_9 : decode cX9_lookAtNext 9 = .ok (.getfield 32, 3) := by decide +kernel
theorem dX9_lookAtNext_12 : decode cX9_lookAtNext 12 = .ok (.aload_n 0, 1) := by decide +kernel
theorem dX9_lookAtNext_13 : decode cX9_lookAtNext 13 = .ok (.getfield 15, 3) := by decide +kernel
theorem dX9_lookAtNext_16 : decode cX9_lookAtNext 16 = .ok (.if_icmp .ge 30, 3) := by decide +kernel
theorem dX9_lookAtNext_19 : decode cX9_lookAtNext 19 = .ok (.aload_n 0, 1) := by decide +kernel
theorem dX9_lookAtNext_20 : decode cX9_lookAtNext 20 = .ok (.getfield 9, 3) := by decide +kernel
theorem dX9_lookAtNext_23 : decode cX9_lookAtNext 23 = .ok (.aload_n 0, 1) := by decide +kernel
theorem dX9_lookAtNext_24 : decode cX9_lookAtNext 24 = .ok (.getfield 32, 3) := by decide +kernel
theorem dX9_lookAtNext_27 : decode cX9_lookAtNext 27 = .ok (.iaload, 1) := by decide +kernel
theorem dX9_lookAtNext_28 : decode cX9_lookAtNext 28 = .ok (.bipush 32, 2) := by decide +kernel
theorem dX9_lookAtNext_30 : decode cX9_lookAtNext 30 = .ok (.if_icmp .ne 16, 3) := by decide +kernel
theorem dX9_lookAtNext_33 : decode cX9_lookAtNext 33 = .ok (.aload_n 0, 1) := by decide +kernel
theorem dX9_lookAtNext_34 : decode cX9_lookAtNext 34 = .ok (.dup, 1) := by decide +kernel
theorem dX9_lookAtNext_35 : decode cX9_lookAtNext 35 = .ok (.getfield 32, 3) := by decide +kernel
theorem dX9_lookAtNext_38 : decode cX9_lookAtNext 38 = .ok (.iconst 1, 1) := by decide +kernel
theorem dX9_lookAtNext_39 : decode cX9_lookAtNext 39 = .ok (.iadd, 1) := by decide +kernel
theorem dX9_lookAtNext_40 : decode cX9_lookAtNext 40 = .ok (.putfield 32, 3) := by decide +kernel
theorem dX9_lookAtNext_43 : decode cX9_lookAtNext 43 = .ok (.goto (-35), 3) := by decide +kernel
theorem dX9_lookAtNext_46 : decode cX9_lookAtNext 46 = .ok (.aload_n 0, 1) := by decide +kernel
theorem dX9_lookAtNext_47 : decode cX9_lookAtNext 47 = .ok (.aload_n 0, 1) := by decide +kernel
theorem dX9_lookAtNext_48 : decode cX9_lookAtNext 48 = .ok (.getfield 32, 3) := by decide +kernel
theorem dX9_lookAtNext_51 : decode cX9_lookAtNext 51 = .ok (.putfield 19, 3) := by decide +kernel
theorem dX9_lookAtNext_54 : decode cX9_lookAtNext 54 = .ok (.aload_n 0, 1) := by decide +kernel
theorem dX9_lookAtNext_55 : decode cX9_lookAtNext 55 = .ok (.getfield 32, 3) := by decide +kernel
theorem dX9_lookAtNext_58 : decode cX9_lookAtNext 58 = .ok (.aload_n 0, 1) := by decide +kernel
theorem dX9_lookAtNext_59 : decode cX9_lookAtNext 59 = .ok (.getfield 15, 3) := by decide +kernel
theorem dX9_lookAtNext_62 : decode cX9_lookAtNext 62 = .ok (.if_icmp .lt 9, 3) := by decide +kernel
theorem dX9_lookAtNext_65 : decode cX9_lookAtNext 65 = .ok (.aload_n 0, 1) := by decide +kernel
theorem dX9_lookAtNext_66 : decode cX9_lookAtNext 66 = .ok (.iconst 0, 1) := by decide +kernel
theorem dX9_lookAtNext_67 : decode cX9_lookAtNext 67 = .ok (.putfield 29, 3) := by decide +kernel
theorem dX9_lookAtNext_70 : decode cX9_lookAtNext 70 = .ok (.return_, 1) := by decide +kernel
theorem dX9_lookAtNext_71 : decode cX9_lookAtNext 71 = .ok (.aload_n 0, 1) := by decide +kernel
theorem dX9_lookAtNext_72 : decode cX9_lookAtNext 72 = .ok (.aload_n 0, 1) := by decide +kernel
theorem dX9_lookAtNext_73 : decode cX9_lookAtNext 73 = .ok (.getfield 9, 3) := by decide +kernel
theorem dX9_lookAtNext_76 : decode cX9_lookAtNext 76 = .ok (.aload_n 0, 1) := by decide +kernel
theorem dX9_lookAtNext_77 : decode cX9_lookAtNext 77 = .ok (.getfield 32, 3) := by decide +kernel
theorem dX9_lookAtNext_80 : decode cX9_lookAtNext 80 = .ok (.iaload, 1) := by decide +kernel
theorem dX9_lookAtNext_81 : decode cX9_lookAtNext 81 = .ok (.invokestatic 137, 3) := by decide +kernel
theorem dX9_lookAtNext_84 : decode cX9_lookAtNext 84 = .ok (.putfield 29, 3) := by decide +kernel
theorem dX9_lookAtNext_87 : decode cX9_lookAtNext 87 = .ok (.aload_n 0, 1) := by decide +kernel
theorem dX9_lookAtNext_88 : decode cX9_lookAtNext 88 = .ok (.dup, 1) := by decide +kernel
theorem dX9_lookAtNext_89 : decode cX9_lookAtNext 89 = .ok (.getfield 19, 3) := by decide +kernel
theorem dX9_lookAtNext_92 : decode cX9_lookAtNext 92 = .ok (.iconst 1, 1) := by decide +kernel
theorem dX9_lookAtNext_93 : decode cX9_lookAtNext 93 = .ok (.iadd, 1) := by decide +kernel
theorem dX9_lookAtNext_94 : decode cX9_lookAtNext 94 = .ok (.putfield 19, 3) := by decide +kernel
theorem dX9_lookAtNext_97 : decode cX9_lookAtNext 97 = .ok (.aload_n 0, 1) := by decide +kernel
theorem dX9_lookAtNext_98 : decode cX9_lookAtNext 98 = .ok (.getfield 29, 3) := by decide +kernel
theorem dX9_lookAtNext_101 : decode cX9_lookAtNext 101 = .ok (.iconst 1, 1) := by decide +kernel
theorem dX9_lookAtNext_102 : decode cX9_lookAtNext 102 = .ok (.if_icmp .eq 11, 3) := by decide +kernel
theorem dX9_lookAtNext_105 : decode cX9_lookAtNext 105 = .ok (.aload_n 0, 1) := by decide +kernel
theorem dX9_lookAtNext_106 : decode cX9_lookAtNext 106 = .ok (.getfield 29, 3) := by decide +kernel
theorem dX9_lookAtNext_109 : decode cX9_lookAtNext 109 = .ok (.iconst 2, 1) := by decide +kernel
theorem dX9_lookAtNext_110 : decode cX9_lookAtNext 110 = .ok (.if_icmp .ne 46, 3) := by decide +kernel
theorem dX9_lookAtNext_113 : decode cX9_lookAtNext 113 = .ok (.aload_n 0, 1) := by decide +kernel
theorem dX9_lookAtNext_114 : decode cX9_lookAtNext 114 = .ok (.getfield 19, 3) := by decide +kernel
theorem dX9_lookAtNext_117 : decode cX9_lookAtNext 117 = .ok (.aload_n 0, 1) := by decide +kernel
theorem dX9_lookAtNext_118 : decode cX9_lookAtNext 118 = .ok (.getfield 15, 3) := by decide +kernel
theorem dX9_lookAtNext_121 : decode cX9_lookAtNext 121 = .ok (.if_icmp .ge 35, 3) := by decide +kernel
theorem dX9_lookAtNext_124 : decode cX9_lookAtNext 124 = .ok (.aload_n 0, 1) := by decide +kernel
theorem dX9_lookAtNext_125 : decode cX9_lookAtNext 125 = .ok (.getfield 9, 3) := by decide +kernel
theorem dX9_lookAtNext_128 : decode cX9_lookAtNext 128 = .ok (.aload_n 0, 1) := by decide +kernel
theorem dX9_lookAtNext_129 : decode cX9_lookAtNext 129 = .ok (.getfield 19, 3) := by decide +kernel
theorem dX9_lookAtNext_132 : decode cX9_lookAtNext 132 = .ok (.iaload, 1) := by decide +kernel
theorem dX9_lookAtNext_133 : decode cX9_lookAtNext 133 = .ok (.invokestatic 137, 3) := by decide +kernel
theorem dX9_lookAtNext_136 : decode cX9_lookAtNext 136 = .ok (.aload_n 0, 1) := by decide +kernel
theorem dX9_lookAtNext_137 : decode cX9_lookAtNext 137 = .ok (.getfield 29, 3) := by decide +kernel
theorem dX9_lookAtNext_140 : decode cX9_lookAtNext 140 = .ok (.if_icmp .ne 16, 3) := by decide +kernel
theorem dX9_lookAtNext_143 : decode cX9_lookAtNext 143 = .ok (.aload_n 0, 1) := by decide +kernel
theorem dX9_lookAtNext_144 : decode cX9_lookAtNext 144 = .ok (.dup, 1) := by decide +kernel
theorem dX9_lookAtNext_145 : decode cX9_lookAtNext 145 = .ok (.getfield 19, 3) := by decide +kernel
theorem dX9_lookAtNext_148 : decode cX9_lookAtNext 148 = .ok (.iconst 1, 1) := by decide +kernel
theorem dX9_lookAtNext_149 : decode cX9_lookAtNext 149 = .ok (.iadd, 1) := by decide +kernel
theorem dX9_lookAtNext_150 : decode cX9_lookAtNext 150 = .ok (.putfield 19, 3) := by decide +kernel
theorem dX9_lookAtNext_153 : decode cX9_lookAtNext 153 = .ok (.goto (-40), 3) := by decide +kernel
theorem dX9_lookAtNext_156 : decode cX9_lookAtNext 156 = .ok (.return_, 1) := by decide +kernel
theorem dX9_sortOf_0 : decode cX9_sortOf 0 = .ok (.iload_n 0, 1) := by decide +kernel
theorem dX9_sortOf_1 : decode cX9_sortOf 1 = .ok (.bipush 97, 2) := by decide +kernel
theorem dX9_sortOf_3 : decode cX9_sortOf 3 = .ok (.if_icmp .lt 11, 3) := by decide +kernel
theorem dX9_sortOf_6 : decode cX9_sortOf 6 = .ok (.iload_n 0, 1) := by decide +kernel
theorem dX9_sortOf_7 : decode cX9_sortOf 7 = .ok (.bipush 122, 2) := by decide +kernel
theorem dX9_sortOf_9 : decode cX9_sortOf 9 = .ok (.if_icmp .gt 5, 3) := by decide +kernel
theorem dX9_sortOf_12 : decode cX9_sortOf 12 = .ok (.iconst 1, 1) := by decide +kernel
theorem dX9_sortOf_13 : decode cX9_sortOf 13 = .ok (.ireturn, 1) := by decide +kernel
theorem dX9_sortOf_14 : decode cX9_sortOf 14 = .ok (.iload_n 0, 1) := by decide +kernel
theorem dX9_sortOf_15 : decode cX9_sortOf 15 = .ok (.bipush 48, 2) := by decide +kernel
theorem dX9_sortOf_17 : decode cX9_sortOf 17 = .ok (.if_icmp .lt 11, 3) := by decide +kernel
theorem dX9_sortOf_20 : decode cX9_sortOf 20 = .ok (.iload_n 0, 1) := by decide +kernel
theorem dX9_sortOf_21 : decode cX9_sortOf 21 = .ok (.bipush 57, 2) := by decide +kernel
theorem dX9_sortOf_23 : decode cX9_sortOf 23 = .ok (.if_icmp .gt 5, 3) := by decide +kernel
theorem dX9_sortOf_26 : decode cX9_sortOf 26 = .ok (.iconst 2, 1) := by decide +kernel
theorem dX9_sortOf_27 : decode cX9_sortOf 27 = .ok (.ireturn, 1) := by decide +kernel
theorem dX9_sortOf_28 : decode cX9_sortOf 28 = .ok (.iload_n 0, 1) := by decide +kernel
theorem dX9_sortOf_29 : decode cX9_sortOf 29 = .ok (.bipush 59, 2) := by decide +kernel
theorem dX9_sortOf_31 : decode cX9_sortOf 31 = .ok (.if_icmp .ne 7, 3) := by decide +kernel
theorem dX9_sortOf_34 : decode cX9_sortOf 34 = .ok (.iconst 3, 1) := by decide +kernel
theorem dX9_sortOf_35 : decode cX9_sortOf 35 = .ok (.goto 4, 3) := by decide +kernel
theorem dX9_sortOf_38 : decode cX9_sortOf 38 = .ok (.iconst 4, 1) := by decide +kernel
theorem dX9_sortOf_39 : decode cX9_sortOf 39 = .ok (.ireturn, 1) := by decide +kernel
theorem dX10_init_0 : decode cX10_init 0 = .ok (.aload_n 0, 1) := by decide +kernel
theorem dX10_init_1 : decode cX10_init 1 = .ok (.iload_n 1, 1) := by decide +kernel
theorem dX10_init_2 : decode cX10_init 2 = .ok (.invokespecial 3, 3) := by decide +kernel
theorem dX10_init_5 : decode cX10_init 5 = .ok (.return_, 1) := by decide +kernel
theorem dX10_isOf_0 : decode cX10_isOf 0 = .ok (.iload_n 1, 1) := by decide +kernel
theorem dX10_isOf_1 : decode cX10_isOf 1 = .ok (.iconst 3, 1) := by decide +kernel
theorem dX10_isOf_2 : decode cX10_isOf 2 = .ok (.if_icmp .eq 11, 3) := by decide +kernel
theorem dX10_isOf_5 : decode cX10_isOf 5 = .ok (.aload_n 0, 1) := by decide +kernel
theorem dX10_isOf_6 : decode cX10_isOf 6 = .ok (.iload_n 1, 1) := by decide +kernel
theorem dX10_isOf_7 : decode cX10_isOf 7 = .ok (.invokespecial 9, 3) := by decide +kernel
theorem dX10_isOf_10 : decode cX10_isOf 10 = .ok (.ifCond .eq 7, 3) := by decide +kernel
theorem dX10_isOf_13 : decode cX10_isOf 13 = .ok (.iconst 1, 1) := by decide +kernel
theorem dX10_isOf_14 : decode cX10_isOf 14 = .ok (.goto 4, 3) := by decide +kernel
theorem dX10_isOf_17 : decode cX10_isOf 17 = .ok (.iconst 0, 1) := by decide +kernel
theorem dX10_isOf_18 : decode cX10_isOf 18 = .ok (.ireturn, 1) := by decide +kernel
theorem dX10_pull_0 : decode cX10_pull 0 = .ok (.aload_n 2, 1) := by decide +kernel
theorem dX10_pull_1 : decode cX10_pull 1 = .ok (.invokevirtual 13, 3) := by decide +kernel
theorem dX10_pull_4 : decode cX10_pull 4 = .ok (.ifCond .eq 14, 3) := by decide +kernel
theorem dX10_pull_7 : decode cX10_pull 7 = .ok (.aload_n 0, 1) := by decide +kernel
theorem dX10_pull_8 : decode cX10_pull 8 = .ok (.aload_n 1, 1) := by decide +kernel
theorem dX10_pull_9 : decode cX10_pull 9 = .ok (.aload_n 2, 1) := by decide +kernel
theorem dX10_pull_10 : decode cX10_pull 10 = .ok (.invokespecial 19, 3) := by decide +kernel
theorem dX10_pull_13 : decode cX10_pull 13 = .ok (.iconst 4, 1) := by decide +kernel
theorem dX10_pull_14 : decode cX10_pull 14 = .ok (.iadd, 1) := by decide +kernel
theorem dX10_pull_15 : decode cX10_pull 15 = .ok (.goto 9, 3) := by decide +kernel
theorem dX10_pull_18 : decode cX10_pull 18 = .ok (.aload_n 0, 1) := by decide +kernel
theorem dX10_pull_19 : decode cX10_pull 19 = .ok (.aload_n 1, 1) := by decide +kernel
theorem dX10_pull_20 : decode cX10_pull 20 = .ok (.aload_n 2, 1) := by decide +kernel
theorem dX10_pull_21 : decode cX10_pull 21 = .ok (.invokespecial 19, 3) := by decide +kernel
theorem dX10_pull_24 : decode cX10_pull 24 = .ok (.ireturn, 1) := by decide +kernel
theorem dX10_tire_0 : decode cX10_tire 0 = .ok (.iconst 2, 1) := by decide +kernel
theorem dX10_tire_1 : decode cX10_tire 1 = .ok (.ireturn, 1) := by decide +kernel
theorem dX10_letsGo_0 : decode cX10_letsGo 0 = .ok (.aload_n 0, 1) := by decide +kernel
theorem dX10_letsGo_1 : decode cX10_letsGo 1 = .ok (.aload_n 1, 1) := by decide +kernel
theorem dX10_letsGo_2 : decode cX10_letsGo 2 = .ok (.aload_n 2, 1) := by decide +kernel
theorem dX10_letsGo_3 : decode cX10_letsGo 3 = .ok (.invokespecial 23, 3) := by decide +kernel
theorem dX10_letsGo_6 : decode cX10_letsGo 6 = .ok (.ifCond .ne 19, 3) := by decide +kernel
theorem dX10_letsGo_9 : decode cX10_letsGo 9 = .ok (.aload_n 1, 1) := by decide +kernel
theorem dX10_letsGo_10 : decode cX10_letsGo 10 = .ok (.getfield 27, 3) := by decide +kernel
theorem dX10_letsGo_13 : decode cX10_letsGo 13 = .ok (.bipush 30, 2) := by decide +kernel
theorem dX10_letsGo_15 : decode cX10_letsGo 15 = .ok (.if_icmp .lt 14, 3) := by decide +kernel
theorem dX10_letsGo_18 : decode cX10_letsGo 18 = .ok (.aload_n 2, 1) := by decide +kernel
theorem dX10_letsGo_19 : decode cX10_letsGo 19 = .ok (.invokevirtual 13, 3) := by decide +kernel
theorem dX10_letsGo_22 : decode cX10_letsGo 22 = .ok (.ifCond .ne 7, 3) := by decide +kernel
theorem dX10_letsGo_25 : decode cX10_letsGo 25 = .ok (.iconst 1, 1) := by decide +kernel
theorem dX10_letsGo_26 : decode cX10_letsGo 26 = .ok (.goto 4, 3) := by decide +kernel
theorem dX10_letsGo_29 : decode cX10_letsGo 29 = .ok (.iconst 0, 1) := by decide +kernel
theorem dX10_letsGo_30 : decode cX10_letsGo 30 = .ok (.ireturn, 1) := by decide +kernel
theorem dJ6_bitCount_0f7a4_0 : decode cJ6_bitCount_0f7a4 0 = .ok (.iload_n 0, 1) := by decide +kernel
theorem dJ6_bitCount_0f7a4_1 : decode cJ6_bitCount_0f7a4 1 = .ok (.iload_n 0, 1) := by decide +kernel
theorem dJ6_bitCount_0f7a4_2 : decode cJ6_bitCount_0f7a4 2 = .ok (.iconst 1, 1) := by decide +kernel
theorem dJ6_bitCount_0f7a4_3 : decode cJ6_bitCount_0f7a4 3 = .ok (.iushr, 1) := by decide +kernel
theorem dJ6_bitCount_0f7a4_4 : decode cJ6_bitCount_0f7a4 4 = .ok (.ldc_w 265, 3) := by decide +kernel
theorem dJ6_bitCount_0f7a4_7 : decode cJ6_bitCount_0f7a4 7 = .ok (.iand, 1) := by decide +kernel
theorem dJ6_bitCount_0f7a4_8 : decode cJ6_bitCount_0f7a4 8 = .ok (.isub, 1) := by decide +kernel
theorem dJ6_bitCount_0f7a4_9 : decode cJ6_bitCount_0f7a4 9 = .ok (.istore_n 0, 1) := by decide +kernel
theorem dJ6_bitCount_0f7a4_10 : decode cJ6_bitCount_0f7a4 10 = .ok (.iload_n 0, 1) := by decide +kernel
theorem dJ6_bitCount_0f7a4_11 : decode cJ6_bitCount_0f7a4 11 = .ok (.ldc_w 266, 3) := by decide +kernel
theorem dJ6_bitCount_0f7a4_14 : decode cJ6_bitCount_0f7a4 14 = .ok (.iand, 1) := by decide +kernel
theorem dJ6_bitCount_0f7a4_15 : decode cJ6_bitCount_0f7a4 15 = .ok (.iload_n 0, 1) := by decide +kernel
theorem dJ6_bitCount_0f7a4_16 : decode cJ6_bitCount_0f7a4 16 = .ok (.iconst 2, 1) := by decide +kernel
theorem dJ6_bitCount_0f7a4_17 : decode cJ6_bitCount_0f7a4 17 = .ok (.iushr, 1) := by decide +kernel
theorem dJ6_bitCount_0f7a4_18 : decode cJ6_bitCount_0f7a4 18 = .ok (.ldc_w 266, 3) := by decide +kernel
theorem dJ6_bitCount_0f7a4_21 : decode cJ6_bitCount_0f7a4 21 = .ok (.iand, 1) := by decide +kernel
theorem dJ6_bitCount_0f7a4_22 : decode cJ6_bitCount_0f7a4 22 = .ok (.iadd, 1) := by decide +kernel
theorem dJ6_bitCount_0f7a4_23 : decode cJ6_bitCount_0f7a4 23 = .ok (.istore_n 0, 1) := by decide +kernel
theorem dJ6_bitCount_0f7a4_24 : decode cJ6_bitCount_0f7a4 24 = .ok (.iload_n 0, 1) := by decide +kernel
theorem dJ6_bitCount_0f7a4_25 : decode cJ6_bitCount_0f7a4 25 = .ok (.iload_n 0, 1) := by decide +kernel
theorem dJ6_bitCount_0f7a4_26 : decode cJ6_bitCount_0f7a4 26 = .ok (.iconst 4, 1) := by decide +kernel
theorem dJ6_bitCount_0f7a4_27 : decode cJ6_bitCount_0f7a4 27 = .ok (.iushr, 1) := by decide +kernel
theorem dJ6_bitCount_0f7a4_28 : decode cJ6_bitCount_0f7a4 28 = .ok (.iadd, 1) := by decide +kernel
theorem dJ6_bitCount_0f7a4_29 : decode cJ6_bitCount_0f7a4 29 = .ok (.ldc_w 267, 3) := by decide +kernel
theorem dJ6_bitCount_0f7a4_32 : decode cJ6_bitCount_0f7a4 32 = .ok (.iand, 1) := by decide +kernel
theorem dJ6_bitCount_0f7a4_33 : decode cJ6_bitCount_0f7a4 33 = .ok (.istore_n 0, 1) := by decide +kernel
theorem dJ6_bitCount_0f7a4_34 : decode cJ6_bitCount_0f7a4 34 = .ok (.iload_n 0, 1) := by decide +kernel
theorem dJ6_bitCount_0f7a4_35 : decode cJ6_bitCount_0f7a4 35 = .ok (.iload_n 0, 1) := by decide +kernel
theorem dJ6_bitCount_0f7a4_36 : decode cJ6_bitCount_0f7a4 36 = .ok (.bipush 8, 2) := by decide +kernel
theorem dJ6_bitCount_0f7a4_38 : decode cJ6_bitCount_0f7a4 38 = .ok (.iushr, 1) := by decide +kernel
theorem dJ6_bitCount_0f7a4_39 : decode cJ6_bitCount_0f7a4 39 = .ok (.iadd, 1) := by decide +kernel
theorem dJ6_bitCount_0f7a4_40 : decode cJ6_bitCount_0f7a4 40 = .ok (.istore_n 0, 1) := by decide +kernel
theorem dJ6_bitCount_0f7a4_41 : decode cJ6_bitCount_0f7a4 41 = .ok (.iload_n 0, 1) := by decide +kernel
theorem dJ6_bitCount_0f7a4_42 : decode cJ6_bitCount_0f7a4 42 = .ok (.iload_n 0, 1) := by decide +kernel
theorem dJ6_bitCount_0f7a4_43 : decode cJ6_bitCount_0f7a4 43 = .ok (.bipush 16, 2) := by decide +kernel
theorem dJ6_bitCount_0f7a4_45 : decode cJ6_bitCount_0f7a4 45 = .ok (.iushr, 1) := by decide +kernel
theorem dJ6_bitCount_0f7a4_46 : decode cJ6_bitCount_0f7a4 46 = .ok (.iadd, 1) := by decide +kernel
theorem dJ6_bitCount_0f7a4_47 : decode cJ6_bitCount_0f7a4 47 = .ok (.istore_n 0, 1) := by decide +kernel
theorem dJ6_bitCount_0f7a4_48 : decode cJ6_bitCount_0f7a4 48 = .ok (.iload_n 0, 1) := by decide +kernel
theorem dJ6_bitCount_0f7a4_49 : decode cJ6_bitCount_0f7a4 49 = .ok (.bipush 63, 2) := by decide +kernel
theorem dJ6_bitCount_0f7a4_51 : decode cJ6_bitCount_0f7a4 51 = .ok (.iand, 1) := by decide +kernel
theorem dJ6_bitCount_0f7a4_52 : decode cJ6_bitCount_0f7a4 52 = .ok (.ireturn, 1) := by decide +kernel
theorem dJ9_abs_0f7a4_0 : decode cJ9_abs_0f7a4 0 = .ok (.iload_n 0, 1) := by decide +kernel
theorem dJ9_abs_0f7a4_1 : decode cJ9_abs_0f7a4 1 = .ok (.ifCond .ge 8, 3) := by decide +kernel
theorem dJ9_abs_0f7a4_4 : decode cJ9_abs_0f7a4 4 = .ok (.iload_n 0, 1) := by decide +kernel
theorem dJ9_abs_0f7a4_5 : decode cJ9_abs_0f7a4 5 = .ok (.ineg, 1) := by decide +kernel
theorem dJ9_abs_0f7a4_6 : decode cJ9_abs_0f7a4 6 = .ok (.goto 4, 3) := by decide +kernel
theorem dJ9_abs_0f7a4_9 : decode cJ9_abs_0f7a4 9 = .ok (.iload_n 0, 1) := by decide +kernel
theorem dJ9_abs_0f7a4_10 : decode cJ9_abs_0f7a4 10 = .ok (.ireturn, 1) := by decide +kernel
theorem dJ9_max_7cf53_0 : decode cJ9_max_7cf53 0 = .ok (.iload_n 0, 1) := by decide +kernel
theorem dJ9_max_7cf53_1 : decode cJ9_max_7cf53 1 = .ok (.iload_n 1, 1) := by decide +kernel
theorem dJ9_max_7cf53_2 : decode cJ9_max_7cf53 2 = .ok (.if_icmp .lt 7, 3) := by decide +kernel
theorem dJ9_max_7cf53_5 : decode cJ9_max_7cf53 5 = .ok (.iload_n 0, 1) := by decide +kernel
theorem dJ9_max_7cf53_6 : decode cJ9_max_7cf53 6 = .ok (.goto 4, 3) := by decide +kernel
theorem dJ9_max_7cf53_9 : decode cJ9_max_7cf53 9 = .ok (.iload_n 1, 1) := by decide +kernel
theorem dJ9_max_7cf53_10 : decode cJ9_max_7cf53 10 = .ok (.ireturn, 1) := by decide +kernel
theorem dJ9_min_7cf53_0 : decode cJ9_min_7cf53 0 = .ok (.iload_n 0, 1) := by decide +kernel
theorem dJ9_min_7cf53_1 : decode cJ9_min_7cf53 1 = .ok (.iload_n 1, 1) := by decide +kernel
theorem dJ9_min_7cf53_2 : decode cJ9_min_7cf53 2 = .ok (.if_icmp .gt 7, 3) := by decide +kernel
theorem dJ9_min_7cf53_5 : decode cJ9_min_7cf53 5 = .ok (.iload_n 0, 1) := by decide +kernel
theorem dJ9_min_7cf53_6 : decode cJ9_min_7cf53 6 = .ok (.goto 4, 3) := by decide +kernel
theorem dJ9_min_7cf53_9 : decode cJ9_min_7cf53 9 = .ok (.iload_n 1, 1) := by decide +kernel
theorem dJ9_min_7cf53_10 : decode cJ9_min_7cf53 10 = .ok (.ireturn, 1) := by decide +kernel
theorem dJ0_length_8abf5_0 : decode cJ0_length_8abf5 0 = .ok (.aload_n 0, 1) := by decide +kernel
theorem dJ0_length_8abf5_1 : decode cJ0_length_8abf5 1 = .ok (.getfield 9, 3) := by decide +kernel
theorem dJ0_length_8abf5_4 : decode cJ0_length_8abf5 4 = .ok (.arraylength, 1) := by decide +kernel
theorem dJ0_length_8abf5_5 : decode cJ0_length_8abf5 5 = .ok (.aload_n 0, 1) := by decide +kernel
theorem dJ0_length_8abf5_6 : decode cJ0_length_8abf5 6 = .ok (.invokevirtual 335, 3) := by decide +kernel
theorem dJ0_length_8abf5_9 : decode cJ0_length_8abf5 9 = .ok (.ishr, 1) := by decide +kernel
theorem dJ0_length_8abf5_10 : decode cJ0_length_8abf5 10 = .ok (.ireturn, 1) := by decide +kernel
theorem dJ0_charAt_5068e_0 : decode cJ0_charAt_5068e 0 = .ok (.aload_n 0, 1) := by decide +kernel
theorem dJ0_charAt_5068e_1 : decode cJ0_charAt_5068e 1 = .ok (.invokevirtual 492, 3) := by decide +kernel
theorem dJ0_charAt_5068e_4 : decode cJ0_charAt_5068e 4 = .ok (.ifCond .eq 12, 3) := by decide +kernel
theorem dJ0_charAt_5068e_7 : decode cJ0_charAt_5068e 7 = .ok (.aload_n 0, 1) := by decide +kernel
theorem dJ0_charAt_5068e_8 : decode cJ0_charAt_5068e 8 = .ok (.getfield 9, 3) := by decide +kernel
theorem dJ0_charAt_5068e_11 : decode cJ0_charAt_5068e 11 = .ok (.iload_n 1, 1) := by decide +kernel
theorem dJ0_charAt_5068e_12 : decode cJ0_charAt_5068e 12 = .ok (.invokestatic 495, 3) := by decide +kernel
theorem dJ0_charAt_5068e_15 : decode cJ0_charAt_5068e 15 = .ok (.ireturn, 1) := by decide +kernel
theorem dJ0_charAt_5068e_16 : decode cJ0_charAt_5068e 16 = .ok (.aload_n 0, 1) := by decide +kernel
theorem dJ0_charAt_5068e_17 : decode cJ0_charAt_5068e 17 = .ok (.getfield 9, 3) := by decide +kernel
theorem dJ0_charAt_5068e_20 : decode cJ0_charAt_5068e 20 = .ok (.iload_n 1, 1) := by decide +kernel
theorem dJ0_charAt_5068e_21 : decode cJ0_charAt_5068e 21 = .ok (.invokestatic 498, 3) := by decide +kernel
theorem dJ0_charAt_5068e_24 : decode cJ0_charAt_5068e 24 = .ok (.ireturn, 1) := by decide +kernel
theorem dJ0_coder_7d493_0 : decode cJ0_coder_7d493 0 = .ok (.getstatic 38, 3) := by decide +kernel
theorem dJ0_coder_7d493_3 : decode cJ0_coder_7d493 3 = .ok (.ifCond .eq 10, 3) := by decide +kernel
theorem dJ0_coder_7d493_6 : decode cJ0_coder_7d493 6 = .ok (.aload_n 0, 1) := by decide +kernel
theorem dJ0_coder_7d493_7 : decode cJ0_coder_7d493 7 = .ok (.getfield 15, 3) := by decide +kernel
theorem dJ0_coder_7d493_10 : decode cJ0_coder_7d493 10 = .ok (.goto 4, 3) := by decide +kernel
theorem dJ0_coder_7d493_13 : decode cJ0_coder_7d493 13 = .ok (.iconst 1, 1) := by decide +kernel
theorem dJ0_coder_7d493_14 : decode cJ0_coder_7d493 14 = .ok (.ireturn, 1) := by decide +kernel
theorem dJ0_isLatin1_aae02_0 : decode cJ0_isLatin1_aae02 0 = .ok (.getstatic 38, 3) := by decide +kernel
theorem dJ0_isLatin1_aae02_3 : decode cJ0_isLatin1_aae02 3 = .ok (.ifCond .eq 14, 3) := by decide +kernel
theorem dJ0_isLatin1_aae02_6 : decode cJ0_isLatin1_aae02 6 = .ok (.aload_n 0, 1) := by decide +kernel
theorem dJ0_isLatin1_aae02_7 : decode cJ0_isLatin1_aae02 7 = .ok (.getfield 15, 3) := by decide +kernel
theorem dJ0_isLatin1_aae02_10 : decode cJ0_isLatin1_aae02 10 = .ok (.ifCond .ne 7, 3) := by decide +kernel
theorem dJ0_isLatin1_aae02_13 : decode cJ0_isLatin1_aae02 13 = .ok (.iconst 1, 1) := by decide +kernel
theorem dJ0_isLatin1_aae02_14 : decode cJ0_isLatin1_aae02 14 = .ok (.goto 4, 3) := by decide +kernel
theorem dJ0_isLatin1_aae02_17 : decode cJ0_isLatin1_aae02 17 = .ok (.iconst 0, 1) := by decide +kernel
theorem dJ0_isLatin1_aae02_18 : decode cJ0_isLatin1_aae02 18 = .ok (.ireturn, 1) := by decide +kernel
theorem dJ0_checkIndex_df160_0 : decode cJ0_checkIndex_df160 0 = .ok (.iload_n 0, 1) := by decide +kernel
theorem dJ0_checkIndex_df160_1 : decode cJ0_checkIndex_df160 1 = .ok (.iload_n 1, 1) := by decide +kernel
theorem dJ0_checkIndex_df160_2 : decode cJ0_checkIndex_df160 2 = .ok (.getstatic 1053, 3) := by decide +kernel
theorem dJ0_checkIndex_df160_5 : decode cJ0_checkIndex_df160 5 = .ok (.invokestatic 1059, 3) := by decide +kernel
theorem dJ0_checkIndex_df160_8 : decode cJ0_checkIndex_df160 8 = .ok (.pop, 1) := by decide +kernel
theorem dJ0_checkIndex_df160_9 : decode cJ0_checkIndex_df160 9 = .ok (.return_, 1) := by decide +kernel
theorem dJ1_charAt_3b067_0 : decode cJ1_charAt_3b067 0 = .ok (.iload_n 1, 1) := by decide +kernel
theorem dJ1_charAt_3b067_1 : decode cJ1_charAt_3b067 1 = .ok (.aload_n 0, 1) := by decide +kernel
theorem dJ1_charAt_3b067_2 : decode cJ1_charAt_3b067 2 = .ok (.arraylength, 1) := by decide +kernel
theorem dJ1_charAt_3b067_3 : decode cJ1_charAt_3b067 3 = .ok (.invokestatic 9, 3) := by decide +kernel
theorem dJ1_charAt_3b067_6 : decode cJ1_charAt_3b067 6 = .ok (.aload_n 0, 1) := by decide +kernel
theorem dJ1_charAt_3b067_7 : decode cJ1_charAt_3b067 7 = .ok (.iload_n 1, 1) := by decide +kernel
theorem dJ1_charAt_3b067_8 : decode cJ1_charAt_3b067 8 = .ok (.baload, 1) := by decide +kernel
theorem dJ1_charAt_3b067_9 : decode cJ1_charAt_3b067 9 = .ok (.sipush 255, 3) := by decide +kernel
theorem dJ1_charAt_3b067_12 : decode cJ1_charAt_3b067 12 = .ok (.iand, 1) := by decide +kernel
theorem dJ1_charAt_3b067_13 : decode cJ1_charAt_3b067 13 = .ok (.i2c, 1) := by decide +kernel
theorem dJ1_charAt_3b067_14 : decode cJ1_charAt_3b067 14 = .ok (.ireturn, 1) := by decide +kernel
theorem dJ7_fill_d0a16_0 : decode cJ7_fill_d0a16 0 = .ok (.iconst 0, 1) := by decide +kernel
theorem dJ7_fill_d0a16_1 : decode cJ7_fill_d0a16 1 = .ok (.istore_n 3, 1) := by decide +kernel
theorem dJ7_fill_d0a16_2 : decode cJ7_fill_d0a16 2 = .ok (.aload_n 0, 1) := by decide +kernel
theorem dJ7_fill_d0a16_3 : decode cJ7_fill_d0a16 3 = .ok (.arraylength, 1) := by decide +kernel
theorem dJ7_fill_d0a16_4 : decode cJ7_fill_d0a16 4 = .ok (.istore 4, 2) := by decide +kernel
theorem dJ7_fill_d0a16_6 : decode cJ7_fill_d0a16 6 = .ok (.iload_n 3, 1) := by decide +kernel
theorem dJ7_fill_d0a16_7 : decode cJ7_fill_d0a16 7 = .ok (.iload 4, 2) := by decide +kernel
theorem dJ7_fill_d0a16_9 : decode cJ7_fill_d0a16 9 = .ok (.if_icmp .ge 13, 3) := by decide +kernel
theorem dJ7_fill_d0a16_12 : decode cJ7_fill_d0a16 12 = .ok (.aload_n 0, 1) := by decide +kernel
theorem dJ7_fill_d0a16_13 : decode cJ7_fill_d0a16 13 = .ok (.iload_n 3, 1) := by decide +kernel
theorem dJ7_fill_d0a16_14 : decode cJ7_fill_d0a16 14 = .ok (.lload_n 1, 1) := by decide +kernel
theorem dJ7_fill_d0a16_15 : decode cJ7_fill_d0a16 15 = .ok (.lastore, 1) := by decide +kernel
theorem dJ7_fill_d0a16_16 : decode cJ7_fill_d0a16 16 = .ok (.iinc 3 1, 3) := by decide +kernel
theorem dJ7_fill_d0a16_19 : decode cJ7_fill_d0a16 19 = .ok (.goto (-13), 3) := by decide +kernel
theorem dJ7_fill_d0a16_22 : decode cJ7_fill_d0a16 22 = .ok (.return_, 1) := by decide +kernel
theorem dJ3_checkIndex_8e157_0 : decode cJ3_checkIndex_8e157 0 = .ok (.iload_n 0, 1) := by decide +kernel
theorem dJ3_checkIndex_8e157_1 : decode cJ3_checkIndex_8e157 1 = .ok (.ifCond .lt 8, 3) := by decide +kernel
theorem dJ3_checkIndex_8e157_4 : decode cJ3_checkIndex_8e157 4 = .ok (.iload_n 0, 1) := by decide +kernel
theorem dJ3_checkIndex_8e157_5 : decode cJ3_checkIndex_8e157 5 = .ok (.iload_n 1, 1) := by decide +kernel
theorem dJ3_checkIndex_8e157_6 : decode cJ3_checkIndex_8e157 6 = .ok (.if_icmp .lt 10, 3) := by decide +kernel
theorem dJ3_checkIndex_8e157_9 : decode cJ3_checkIndex_8e157 9 = .ok (.aload_n 2, 1) := by decide +kernel
theorem dJ3_checkIndex_8e157_10 : decode cJ3_checkIndex_8e157 10 = .ok (.iload_n 0, 1) := by decide +kernel
theorem dJ3_checkIndex_8e157_11 : decode cJ3_checkIndex_8e157 11 = .ok (.iload_n 1, 1) := by decide +kernel
theorem dJ3_checkIndex_8e157_12 : decode cJ3_checkIndex_8e157 12 = .ok (.invokestatic 95, 3) := by decide +kernel
theorem dJ3_checkIndex_8e157_15 : decode cJ3_checkIndex_8e157 15 = .ok (.athrow, 1) := by decide +kernel
theorem dJ3_checkIndex_8e157_16 : decode cJ3_checkIndex_8e157 16 = .ok (.iload_n 0, 1) := by decide +kernel
theorem dJ3_checkIndex_8e157_17 : decode cJ3_checkIndex_8e157 17 = .ok (.ireturn, 1) := by decide +kernel
