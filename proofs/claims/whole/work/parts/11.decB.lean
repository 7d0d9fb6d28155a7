/-! decode rows (out of the printed names) -/
theorem dX11_init_0 : decode cX11_init 0 = .ok (.aload_n 0, 1) := by decide +kernel
theorem dX11_init_1 : decode cX11_init 1 = .ok (.invokespecial 1, 3) := by decide +kernel
theorem dX11_init_4 : decode cX11_init 4 = .ok (.aload_n 0, 1) := by decide +kernel
theorem dX11_init_5 : decode cX11_init 5 = .ok (.new 7, 3) := by decide +kernel
theorem dX11_init_8 : decode cX11_init 8 = .ok (.dup, 1) := by decide +kernel
theorem dX11_init_9 : decode cX11_init 9 = .ok (.invokespecial 9, 3) := by decide +kernel
theorem dX11_init_12 : decode cX11_init 12 = .ok (.putfield 10, 3) := by decide +kernel
theorem dX11_init_15 : decode cX11_init 15 = .ok (.aload_n 0, 1) := by decide +kernel
theorem dX11_init_16 : decode cX11_init 16 = .ok (.new 7, 3) := by decide +kernel
theorem dX11_init_19 : decode cX11_init 19 = .ok (.dup, 1) := by decide +kernel
theorem dX11_init_20 : decode cX11_init 20 = .ok (.invokespecial 9, 3) := by decide +kernel
theorem dX11_init_23 : decode cX11_init 23 = .ok (.putfield 16, 3) := by decide +kernel
theorem dX11_init_26 : decode cX11_init 26 = .ok (.aload_n 0, 1) := by decide +kernel
theorem dX11_init_27 : decode cX11_init 27 = .ok (.new 7, 3) := by decide +kernel
theorem dX11_init_30 : decode cX11_init 30 = .ok (.dup, 1) := by decide +kernel
theorem dX11_init_31 : decode cX11_init 31 = .ok (.invokespecial 9, 3) := by decide +kernel
theorem dX11_init_34 : decode cX11_init 34 = .ok (.putfield 19, 3) := by decide +kernel
theorem dX11_init_37 : decode cX11_init 37 = .ok (.aload_n 0, 1) := by decide +kernel
theorem dX11_init_38 : decode cX11_init 38 = .ok (.new 22, 3) := by decide +kernel
theorem dX11_init_41 : decode cX11_init 41 = .ok (.dup, 1) := by decide +kernel
theorem dX11_init_42 : decode cX11_init 42 = .ok (.invokespecial 24, 3) := by decide +kernel
theorem dX11_init_45 : decode cX11_init 45 = .ok (.putfield 25, 3) := by decide +kernel
theorem dX11_init_48 : decode cX11_init 48 = .ok (.aload_n 0, 1) := by decide +kernel
theorem dX11_init_49 : decode cX11_init 49 = .ok (.new 29, 3) := by decide +kernel
theorem dX11_init_52 : decode cX11_init 52 = .ok (.dup, 1) := by decide +kernel
theorem dX11_init_53 : decode cX11_init 53 = .ok (.invokespecial 31, 3) := by decide +kernel
theorem dX11_init_56 : decode cX11_init 56 = .ok (.putfield 32, 3) := by decide +kernel
theorem dX11_init_59 : decode cX11_init 59 = .ok (.aload_n 0, 1) := by decide +kernel
theorem dX11_init_60 : decode cX11_init 60 = .ok (.iconst 4, 1) := by decide +kernel
theorem dX11_init_61 : decode cX11_init 61 = .ok (.anewarray 36, 3) := by decide +kernel
theorem dX11_init_64 : decode cX11_init 64 = .ok (.putfield 38, 3) := by decide +kernel
theorem dX11_init_67 : decode cX11_init 67 = .ok (.aload_n 0, 1) := by decide +kernel
theorem dX11_init_68 : decode cX11_init 68 = .ok (.bipush 7, 2) := by decide +kernel
theorem dX11_init_70 : decode cX11_init 70 = .ok (.newarray .int, 2) := by decide +kernel
theorem dX11_init_72 : decode cX11_init 72 = .ok (.putfield 42, 3) := by decide +kernel
theorem dX11_init_75 : decode cX11_init 75 = .ok (.iconst 0, 1) := by decide +kernel
theorem dX11_init_76 : decode cX11_init 76 = .ok (.istore_n 1, 1) := by decide +kernel
theorem dX11_init_77 : decode cX11_init 77 = .ok (.iload_n 1, 1) := by decide +kernel
theorem dX11_init_78 : decode cX11_init 78 = .ok (.iconst 4, 1) := by decide +kernel
theorem dX11_init_79 : decode cX11_init 79 = .ok (.if_icmp .ge 22, 3) := by decide +kernel
theorem dX11_init_82 : decode cX11_init 82 = .ok (.aload_n 0, 1) := by decide +kernel
theorem dX11_init_83 : decode cX11_init 83 = .ok (.getfield 38, 3) := by decide +kernel
theorem dX11_init_86 : decode cX11_init 86 = .ok (.iload_n 1, 1) := by decide +kernel
theorem dX11_init_87 : decode cX11_init 87 = .ok (.new 36, 3) := by decide +kernel
theorem dX11_init_90 : decode cX11_init 90 = .ok (.dup, 1) := by decide +kernel
theorem dX11_init_91 : decode cX11_init 91 = .ok (.invokespecial 46, 3) := by decide +kernel
theorem dX11_init_94 : decode cX11_init 94 = .ok (.aastore, 1) := by decide +kernel
theorem dX11_init_95 : decode cX11_init 95 = .ok (.iinc 1 1, 3) := by decide +kernel
theorem dX11_init_98 : decode cX11_init 98 = .ok (.goto (-21), 3) := by decide +kernel
theorem dX11_init_101 : decode cX11_init 101 = .ok (.return_, 1) := by decide +kernel
theorem dX11_slack_0 : decode cX11_slack 0 = .ok (.iload_n 1, 1) := by decide +kernel
theorem dX11_slack_1 : decode cX11_slack 1 = .ok (.iconst 0, 1) := by decide +kernel
theorem dX11_slack_2 : decode cX11_slack 2 = .ok (.bipush 99, 2) := by decide +kernel
theorem dX11_slack_4 : decode cX11_slack 4 = .ok (.invokestatic 47, 3) := by decide +kernel
theorem dX11_slack_7 : decode cX11_slack 7 = .ok (.ifCond .ne 10, 3) := by decide +kernel
theorem dX11_slack_10 : decode cX11_slack 10 = .ok (.aload_n 0, 1) := by decide +kernel
theorem dX11_slack_11 : decode cX11_slack 11 = .ok (.ldc 51, 2) := by decide +kernel
theorem dX11_slack_13 : decode cX11_slack 13 = .ok (.invokevirtual 52, 3) := by decide +kernel
theorem dX11_slack_16 : decode cX11_slack 16 = .ok (.ireturn, 1) := by decide +kernel
theorem dX11_slack_17 : decode cX11_slack 17 = .ok (.aload_n 0, 1) := by decide +kernel
theorem dX11_slack_18 : decode cX11_slack 18 = .ok (.getfield 10, 3) := by decide +kernel
theorem dX11_slack_21 : decode cX11_slack 21 = .ok (.getfield 56, 3) := by decide +kernel
theorem dX11_slack_24 : decode cX11_slack 24 = .ok (.istore_n 2, 1) := by decide +kernel
theorem dX11_slack_25 : decode cX11_slack 25 = .ok (.aload_n 0, 1) := by decide +kernel
theorem dX11_slack_26 : decode cX11_slack 26 = .ok (.getfield 10, 3) := by decide +kernel
theorem dX11_slack_29 : decode cX11_slack 29 = .ok (.iload_n 1, 1) := by decide +kernel
theorem dX11_slack_30 : decode cX11_slack 30 = .ok (.putfield 56, 3) := by decide +kernel
theorem dX11_slack_33 : decode cX11_slack 33 = .ok (.iload_n 2, 1) := by decide +kernel
theorem dX11_slack_34 : decode cX11_slack 34 = .ok (.ireturn, 1) := by decide +kernel
theorem dX11_harvest_0 : decode cX11_harvest 0 = .ok (.iload_n 1, 1) := by decide +kernel
theorem dX11_harvest_1 : decode cX11_harvest 1 = .ok (.iconst 0, 1) := by decide +kernel
theorem dX11_harvest_2 : decode cX11_harvest 2 = .ok (.sipush 255, 3) := by decide +kernel
theorem dX11_harvest_5 : decode cX11_harvest 5 = .ok (.invokestatic 47, 3) := by decide +kernel
theorem dX11_harvest_8 : decode cX11_harvest 8 = .ok (.ifCond .ne 10, 3) := by decide +kernel
theorem dX11_harvest_11 : decode cX11_harvest 11 = .ok (.aload_n 0, 1) := by decide +kernel
theorem dX11_harvest_12 : decode cX11_harvest 12 = .ok (.ldc 51, 2) := by decide +kernel
theorem dX11_harvest_14 : decode cX11_harvest 14 = .ok (.invokevirtual 52, 3) := by decide +kernel
theorem dX11_harvest_17 : decode cX11_harvest 17 = .ok (.ireturn, 1) := by decide +kernel
theorem dX11_harvest_18 : decode cX11_harvest 18 = .ok (.aload_n 0, 1) := by decide +kernel
theorem dX11_harvest_19 : decode cX11_harvest 19 = .ok (.getfield 10, 3) := by decide +kernel
theorem dX11_harvest_22 : decode cX11_harvest 22 = .ok (.getfield 60, 3) := by decide +kernel
theorem dX11_harvest_25 : decode cX11_harvest 25 = .ok (.istore_n 2, 1) := by decide +kernel
theorem dX11_harvest_26 : decode cX11_harvest 26 = .ok (.aload_n 0, 1) := by decide +kernel
theorem dX11_harvest_27 : decode cX11_harvest 27 = .ok (.getfield 10, 3) := by decide +kernel
theorem dX11_harvest_30 : decode cX11_harvest 30 = .ok (.iload_n 1, 1) := by decide +kernel
theorem dX11_harvest_31 : decode cX11_harvest 31 = .ok (.putfield 60, 3) := by decide +kernel
theorem dX11_harvest_34 : decode cX11_harvest 34 = .ok (.iload_n 2, 1) := by decide +kernel
theorem dX11_harvest_35 : decode cX11_harvest 35 = .ok (.ireturn, 1) := by decide +kernel
theorem dX11_knot_0 : decode cX11_knot 0 = .ok (.iload_n 1, 1) := by decide +kernel
theorem dX11_knot_1 : decode cX11_knot 1 = .ok (.sipush (-9999), 3) := by decide +kernel
theorem dX11_knot_4 : decode cX11_knot 4 = .ok (.sipush 9999, 3) := by decide +kernel
theorem dX11_knot_7 : decode cX11_knot 7 = .ok (.invokestatic 47, 3) := by decide +kernel
theorem dX11_knot_10 : decode cX11_knot 10 = .ok (.ifCond .ne 10, 3) := by decide +kernel
theorem dX11_knot_13 : decode cX11_knot 13 = .ok (.aload_n 0, 1) := by decide +kernel
theorem dX11_knot_14 : decode cX11_knot 14 = .ok (.ldc 51, 2) := by decide +kernel
theorem dX11_knot_16 : decode cX11_knot 16 = .ok (.invokevirtual 52, 3) := by decide +kernel
theorem dX11_knot_19 : decode cX11_knot 19 = .ok (.ireturn, 1) := by decide +kernel
theorem dX11_knot_20 : decode cX11_knot 20 = .ok (.aload_n 0, 1) := by decide +kernel
theorem dX11_knot_21 : decode cX11_knot 21 = .ok (.getfield 10, 3) := by decide +kernel
theorem dX11_knot_24 : decode cX11_knot 24 = .ok (.getfield 63, 3) := by decide +kernel
theorem dX11_knot_27 : decode cX11_knot 27 = .ok (.istore_n 2, 1) := by decide +kernel
theorem dX11_knot_28 : decode cX11_knot 28 = .ok (.aload_n 0, 1) := by decide +kernel
theorem dX11_knot_29 : decode cX11_knot 29 = .ok (.getfield 10, 3) := by decide +kernel
theorem dX11_knot_32 : decode cX11_knot 32 = .ok (.iload_n 1, 1) := by decide +kernel
theorem dX11_knot_33 : decode cX11_knot 33 = .ok (.putfield 63, 3) := by decide +kernel
theorem dX11_knot_36 : decode cX11_knot 36 = .ok (.iload_n 2, 1) := by decide +kernel
theorem dX11_knot_37 : decode cX11_knot 37 = .ok (.ireturn, 1) := by decide +kernel
theorem dX11_now_0 : decode cX11_now 0 = .ok (.iload_n 1, 1) := by decide +kernel
theorem dX11_now_1 : decode cX11_now 1 = .ok (.tableswitch 153 0 9 #[55, 63, 71, 87, 103, 111, 119, 127, 135, 144], 55) := by decide +kernel
theorem dX11_now_56 : decode cX11_now 56 = .ok (.aload_n 0, 1) := by decide +kernel
theorem dX11_now_57 : decode cX11_now 57 = .ok (.getfield 10, 3) := by decide +kernel
theorem dX11_now_60 : decode cX11_now 60 = .ok (.getfield 66, 3) := by decide +kernel
theorem dX11_now_63 : decode cX11_now 63 = .ok (.ireturn, 1) := by decide +kernel
theorem dX11_now_64 : decode cX11_now 64 = .ok (.aload_n 0, 1) := by decide +kernel
theorem dX11_now_65 : decode cX11_now 65 = .ok (.getfield 10, 3) := by decide +kernel
theorem dX11_now_68 : decode cX11_now 68 = .ok (.invokevirtual 69, 3) := by decide +kernel
theorem dX11_now_71 : decode cX11_now 71 = .ok (.ireturn, 1) := by decide +kernel
theorem dX11_now_72 : decode cX11_now 72 = .ok (.aload_n 0, 1) := by decide +kernel
theorem dX11_now_73 : decode cX11_now 73 = .ok (.getfield 10, 3) := by decide +kernel
theorem dX11_now_76 : decode cX11_now 76 = .ok (.invokevirtual 73, 3) := by decide +kernel
theorem dX11_now_79 : decode cX11_now 79 = .ok (.ifCond .eq 7, 3) := by decide +kernel
theorem dX11_now_82 : decode cX11_now 82 = .ok (.iconst 1, 1) := by decide +kernel
theorem dX11_now_83 : decode cX11_now 83 = .ok (.goto 4, 3) := by decide +kernel
theorem dX11_now_86 : decode cX11_now 86 = .ok (.iconst 0, 1) := by decide +kernel
theorem dX11_now_87 : decode cX11_now 87 = .ok (.ireturn, 1) := by decide +kernel
theorem dX11_now_88 : decode cX11_now 88 = .ok (.aload_n 0, 1) := by decide +kernel
theorem dX11_now_89 : decode cX11_now 89 = .ok (.getfield 10, 3) := by decide +kernel
theorem dX11_now_92 : decode cX11_now 92 = .ok (.invokevirtual 77, 3) := by decide +kernel
theorem dX11_now_95 : decode cX11_now 95 = .ok (.ifCond .eq 7, 3) := by decide +kernel
theorem dX11_now_98 : decode cX11_now 98 = .ok (.iconst 1, 1) := by decide +kernel
theorem dX11_now_99 : decode cX11_now 99 = .ok (.goto 4, 3) := by decide +kernel
theorem dX11_now_102 : decode cX11_now 102 = .ok (.iconst 0, 1) := by decide +kernel
theorem dX11_now_103 : decode cX11_now 103 = .ok (.ireturn, 1) := by decide +kernel
theorem dX11_now_104 : decode cX11_now 104 = .ok (.aload_n 0, 1) := by decide +kernel
theorem dX11_now_105 : decode cX11_now 105 = .ok (.getfield 10, 3) := by decide +kernel
theorem dX11_now_108 : decode cX11_now 108 = .ok (.getfield 63, 3) := by decide +kernel
theorem dX11_now_111 : decode cX11_now 111 = .ok (.ireturn, 1) := by decide +kernel
theorem dX11_now_112 : decode cX11_now 112 = .ok (.aload_n 0, 1) := by decide +kernel
theorem dX11_now_113 : decode cX11_now 113 = .ok (.getfield 10, 3) := by decide +kernel
theorem dX11_now_116 : decode cX11_now 116 = .ok (.getfield 56, 3) := by decide +kernel
theorem dX11_now_119 : decode cX11_now 119 = .ok (.ireturn, 1) := by decide +kernel
theorem dX11_now_120 : decode cX11_now 120 = .ok (.aload_n 0, 1) := by decide +kernel
theorem dX11_now_121 : decode cX11_now 121 = .ok (.getfield 10, 3) := by decide +kernel
theorem dX11_now_124 : decode cX11_now 124 = .ok (.invokevirtual 80, 3) := by decide +kernel
theorem dX11_now_127 : decode cX11_now 127 = .ok (.ireturn, 1) := by decide +kernel
theorem dX11_now_128 : decode cX11_now 128 = .ok (.aload_n 0, 1) := by decide +kernel
theorem dX11_now_129 : decode cX11_now 129 = .ok (.getfield 10, 3) := by decide +kernel
theorem dX11_now_132 : decode cX11_now 132 = .ok (.invokevirtual 83, 3) := by decide +kernel
theorem dX11_now_135 : decode cX11_now 135 = .ok (.ireturn, 1) := by decide +kernel
theorem dX11_now_136 : decode cX11_now 136 = .ok (.aload_n 0, 1) := by decide +kernel
theorem dX11_now_137 : decode cX11_now 137 = .ok (.getfield 10, 3) := by decide +kernel
theorem dX11_now_140 : decode cX11_now 140 = .ok (.iconst 0, 1) := by decide +kernel
theorem dX11_now_141 : decode cX11_now 141 = .ok (.invokevirtual 86, 3) := by decide +kernel
theorem dX11_now_144 : decode cX11_now 144 = .ok (.ireturn, 1) := by decide +kernel
theorem dX11_now_145 : decode cX11_now 145 = .ok (.aload_n 0, 1) := by decide +kernel
theorem dX11_now_146 : decode cX11_now 146 = .ok (.getfield 10, 3) := by decide +kernel
theorem dX11_now_149 : decode cX11_now 149 = .ok (.iconst 1, 1) := by decide +kernel
theorem dX11_now_150 : decode cX11_now 150 = .ok (.invokevirtual 86, 3) := by decide +kernel
theorem dX11_now_153 : decode cX11_now 153 = .ok (.ireturn, 1) := by decide +kernel
theorem dX11_now_154 : decode cX11_now 154 = .ok (.aload_n 0, 1) := by decide +kernel
theorem dX11_now_155 : decode cX11_now 155 = .ok (.ldc 51, 2) := by decide +kernel
theorem dX11_now_157 : decode cX11_now 157 = .ok (.invokevirtual 52, 3) := by decide +kernel
theorem dX11_now_160 : decode cX11_now 160 = .ok (.ireturn, 1) := by decide +kernel
theorem dX11_person_0 : decode cX11_person 0 = .ok (.iload_n 1, 1) := by decide +kernel
theorem dX11_person_1 : decode cX11_person 1 = .ok (.invokestatic 89, 3) := by decide +kernel
theorem dX11_person_4 : decode cX11_person 4 = .ok (.ifCond .eq 10, 3) := by decide +kernel
theorem dX11_person_7 : decode cX11_person 7 = .ok (.iload_n 2, 1) := by decide +kernel
theorem dX11_person_8 : decode cX11_person 8 = .ok (.invokestatic 93, 3) := by decide +kernel
theorem dX11_person_11 : decode cX11_person 11 = .ok (.ifCond .ne 10, 3) := by decide +kernel
theorem dX11_person_14 : decode cX11_person 14 = .ok (.aload_n 0, 1) := by decide +kernel
theorem dX11_person_15 : decode cX11_person 15 = .ok (.ldc 51, 2) := by decide +kernel
theorem dX11_person_17 : decode cX11_person 17 = .ok (.invokevirtual 52, 3) := by decide +kernel
theorem dX11_person_20 : decode cX11_person 20 = .ok (.ireturn, 1) := by decide +kernel
theorem dX11_person_21 : decode cX11_person 21 = .ok (.aload_n 0, 1) := by decide +kernel
theorem dX11_person_22 : decode cX11_person 22 = .ok (.getfield 10, 3) := by decide +kernel
theorem dX11_person_25 : decode cX11_person 25 = .ok (.invokevirtual 96, 3) := by decide +kernel
theorem dX11_person_28 : decode cX11_person 28 = .ok (.ifCond .eq 10, 3) := by decide +kernel
theorem dX11_person_31 : decode cX11_person 31 = .ok (.aload_n 0, 1) := by decide +kernel
theorem dX11_person_32 : decode cX11_person 32 = .ok (.ldc 99, 2) := by decide +kernel
theorem dX11_person_34 : decode cX11_person 34 = .ok (.invokevirtual 52, 3) := by decide +kernel
theorem dX11_person_37 : decode cX11_person 37 = .ok (.ireturn, 1) := by decide +kernel
theorem dX11_person_38 : decode cX11_person 38 = .ok (.aload_n 0, 1) := by decide +kernel
theorem dX11_person_39 : decode cX11_person 39 = .ok (.getfield 10, 3) := by decide +kernel
theorem dX11_person_42 : decode cX11_person 42 = .ok (.getfield 100, 3) := by decide +kernel
theorem dX11_person_45 : decode cX11_person 45 = .ok (.istore_n 3, 1) := by decide +kernel
theorem dX11_person_46 : decode cX11_person 46 = .ok (.aload_n 0, 1) := by decide +kernel
theorem dX11_person_47 : decode cX11_person 47 = .ok (.getfield 10, 3) := by decide +kernel
theorem dX11_person_50 : decode cX11_person 50 = .ok (.iload_n 1, 1) := by decide +kernel
theorem dX11_person_51 : decode cX11_person 51 = .ok (.iload_n 2, 1) := by decide +kernel
theorem dX11_person_52 : decode cX11_person 52 = .ok (.invokevirtual 103, 3) := by decide +kernel
theorem dX11_person_55 : decode cX11_person 55 = .ok (.iload_n 3, 1) := by decide +kernel
theorem dX11_person_56 : decode cX11_person 56 = .ok (.ireturn, 1) := by decide +kernel
theorem dX11_of_0 : decode cX11_of 0 = .ok (.aload_n 0, 1) := by decide +kernel
theorem dX11_of_1 : decode cX11_of 1 = .ok (.getfield 10, 3) := by decide +kernel
theorem dX11_of_4 : decode cX11_of 4 = .ok (.iload_n 1, 1) := by decide +kernel
theorem dX11_of_5 : decode cX11_of 5 = .ok (.invokevirtual 107, 3) := by decide +kernel
theorem dX11_of_8 : decode cX11_of 8 = .ok (.ifCond .ne 10, 3) := by decide +kernel
theorem dX11_of_11 : decode cX11_of 11 = .ok (.aload_n 0, 1) := by decide +kernel
theorem dX11_of_12 : decode cX11_of 12 = .ok (.ldc 51, 2) := by decide +kernel
theorem dX11_of_14 : decode cX11_of 14 = .ok (.invokevirtual 52, 3) := by decide +kernel
theorem dX11_of_17 : decode cX11_of 17 = .ok (.ireturn, 1) := by decide +kernel
theorem dX11_of_18 : decode cX11_of 18 = .ok (.aload_n 0, 1) := by decide +kernel
theorem dX11_of_19 : decode cX11_of 19 = .ok (.getfield 10, 3) := by decide +kernel
theorem dX11_of_22 : decode cX11_of 22 = .ok (.getfield 110, 3) := by decide +kernel
theorem dX11_of_25 : decode cX11_of 25 = .ok (.iload_n 1, 1) := by decide +kernel
theorem dX11_of_26 : decode cX11_of 26 = .ok (.aaload, 1) := by decide +kernel
theorem dX11_of_27 : decode cX11_of 27 = .ok (.astore_n 3, 1) := by decide +kernel
theorem dX11_of_28 : decode cX11_of 28 = .ok (.iload_n 2, 1) := by decide +kernel
theorem dX11_of_29 : decode cX11_of 29 = .ok (.tableswitch 121 0 7 #[47, 55, 60, 65, 70, 75, 88, 100], 47) := by decide +kernel
theorem dX11_of_76 : decode cX11_of 76 = .ok (.aload_n 3, 1) := by decide +kernel
theorem dX11_of_77 : decode cX11_of 77 = .ok (.getfield 114, 3) := by decide +kernel
theorem dX11_of_80 : decode cX11_of 80 = .ok (.getfield 120, 3) := by decide +kernel
theorem dX11_of_83 : decode cX11_of 83 = .ok (.ireturn, 1) := by decide +kernel
theorem dX11_of_84 : decode cX11_of 84 = .ok (.aload_n 3, 1) := by decide +kernel
theorem dX11_of_85 : decode cX11_of 85 = .ok (.getfield 125, 3) := by decide +kernel
theorem dX11_of_88 : decode cX11_of 88 = .ok (.ireturn, 1) := by decide +kernel
theorem dX11_of_89 : decode cX11_of 89 = .ok (.aload_n 3, 1) := by decide +kernel
theorem dX11_of_90 : decode cX11_of 90 = .ok (.getfield 128, 3) := by decide +kernel
theorem dX11_of_93 : decode cX11_of 93 = .ok (.ireturn, 1) := by decide +kernel
theorem dX11_of_94 : decode cX11_of 94 = .ok (.aload_n 3, 1) := by decide +kernel
theorem dX11_of_95 : decode cX11_of 95 = .ok (.getfield 131, 3) := by decide +kernel
theorem dX11_of_98 : decode cX11_of 98 = .ok (.ireturn, 1) := by decide +kernel
theorem dX11_of_99 : decode cX11_of 99 = .ok (.aload_n 3, 1) := by decide +kernel
theorem dX11_of_100 : decode cX11_of 100 = .ok (.getfield 134, 3) := by decide +kernel
theorem dX11_of_103 : decode cX11_of 103 = .ok (.ireturn, 1) := by decide +kernel
theorem dX11_of_104 : decode cX11_of 104 = .ok (.aload_n 3, 1) := by decide +kernel
theorem dX11_of_105 : decode cX11_of 105 = .ok (.getfield 114, 3) := by decide +kernel
theorem dX11_of_108 : decode cX11_of 108 = .ok (.aload_n 3, 1) := by decide +kernel
theorem dX11_of_109 : decode cX11_of 109 = .ok (.aload_n 0, 1) := by decide +kernel
theorem dX11_of_110 : decode cX11_of 110 = .ok (.getfield 10, 3) := by decide +kernel
theorem dX11_of_113 : decode cX11_of 113 = .ok (.invokevirtual 137, 3) := by decide +kernel
theorem dX11_of_116 : decode cX11_of 116 = .ok (.ireturn, 1) := by decide +kernel
theorem dX11_of_117 : decode cX11_of 117 = .ok (.aload_n 3, 1) := by decide +kernel
theorem dX11_of_118 : decode cX11_of 118 = .ok (.getfield 114, 3) := by decide +kernel
theorem dX11_of_121 : decode cX11_of 121 = .ok (.aload_n 0, 1) := by decide +kernel
theorem dX11_of_122 : decode cX11_of 122 = .ok (.getfield 10, 3) := by decide +kernel
theorem dX11_of_125 : decode cX11_of 125 = .ok (.invokevirtual 141, 3) := by decide +kernel
theorem dX11_of_128 : decode cX11_of 128 = .ok (.ireturn, 1) := by decide +kernel
theorem dX11_of_129 : decode cX11_of 129 = .ok (.aload_n 3, 1) := by decide +kernel
theorem dX11_of_130 : decode cX11_of 130 = .ok (.getfield 114, 3) := by decide +kernel
theorem dX11_of_133 : decode cX11_of 133 = .ok (.aload_n 3, 1) := by decide +kernel
theorem dX11_of_134 : decode cX11_of 134 = .ok (.aload_n 0, 1) := by decide +kernel
theorem dX11_of_135 : decode cX11_of 135 = .ok (.getfield 10, 3) := by decide +kernel
theorem dX11_of_138 : decode cX11_of 138 = .ok (.invokevirtual 145, 3) := by decide +kernel
theorem dX11_of_141 : decode cX11_of 141 = .ok (.ifCond .eq 7, 3) := by decide +kernel
theorem dX11_of_144 : decode cX11_of 144 = .ok (.iconst 1, 1) := by decide +kernel
theorem dX11_of_145 : decode cX11_of 145 = .ok (.goto 4, 3) := by decide +kernel
theorem dX11_of_148 : decode cX11_of 148 = .ok (.iconst 0, 1) := by decide +kernel
theorem dX11_of_149 : decode cX11_of 149 = .ok (.ireturn, 1) := by decide +kernel
theorem dX11_of_150 : decode cX11_of 150 = .ok (.aload_n 0, 1) := by decide +kernel
theorem dX11_of_151 : decode cX11_of 151 = .ok (.ldc 51, 2) := by decide +kernel
theorem dX11_of_153 : decode cX11_of 153 = .ok (.invokevirtual 52, 3) := by decide +kernel
theorem dX11_of_156 : decode cX11_of 156 = .ok (.ireturn, 1) := by decide +kernel
theorem dX11_set_0 : decode cX11_set 0 = .ok (.aload_n 0, 1) := by decide +kernel
theorem dX11_set_1 : decode cX11_set 1 = .ok (.getfield 10, 3) := by decide +kernel
theorem dX11_set_4 : decode cX11_set 4 = .ok (.iload_n 1, 1) := by decide +kernel
theorem dX11_set_5 : decode cX11_set 5 = .ok (.invokevirtual 107, 3) := by decide +kernel
theorem dX11_set_8 : decode cX11_set 8 = .ok (.ifCond .ne 10, 3) := by decide +kernel
theorem dX11_set_11 : decode cX11_set 11 = .ok (.aload_n 0, 1) := by decide +kernel
theorem dX11_set_12 : decode cX11_set 12 = .ok (.ldc 51, 2) := by decide +kernel
theorem dX11_set_14 : decode cX11_set 14 = .ok (.invokevirtual 52, 3) := by decide +kernel
theorem dX11_set_17 : decode cX11_set 17 = .ok (.ireturn, 1) := by decide +kernel
theorem dX11_set_18 : decode cX11_set 18 = .ok (.aload_n 0, 1) := by decide +kernel
theorem dX11_set_19 : decode cX11_set 19 = .ok (.getfield 10, 3) := by decide +kernel
theorem dX11_set_22 : decode cX11_set 22 = .ok (.getfield 110, 3) := by decide +kernel
theorem dX11_set_25 : decode cX11_set 25 = .ok (.iload_n 1, 1) := by decide +kernel
theorem dX11_set_26 : decode cX11_set 26 = .ok (.aaload, 1) := by decide +kernel
theorem dX11_set_27 : decode cX11_set 27 = .ok (.astore 4, 2) := by decide +kernel
theorem dX11_set_29 : decode cX11_set 29 = .ok (.iload_n 2, 1) := by decide +kernel
theorem dX11_set_30 : decode cX11_set 30 = .ok (.iconst 1, 1) := by decide +kernel
theorem dX11_set_31 : decode cX11_set 31 = .ok (.if_icmp .ne 26, 3) := by decide +kernel
theorem dX11_set_34 : decode cX11_set 34 = .ok (.iload_n 3, 1) := by decide +kernel
theorem dX11_set_35 : decode cX11_set 35 = .ok (.invokestatic 93, 3) := by decide +kernel
theorem dX11_set_38 : decode cX11_set 38 = .ok (.ifCond .eq 19, 3) := by decide +kernel
theorem dX11_set_41 : decode cX11_set 41 = .ok (.aload 4, 2) := by decide +kernel
theorem dX11_set_43 : decode cX11_set 43 = .ok (.getfield 125, 3) := by decide +kernel
theorem dX11_set_46 : decode cX11_set 46 = .ok (.istore 5, 2) := by decide +kernel
theorem dX11_set_48 : decode cX11_set 48 = .ok (.aload 4, 2) := by decide +kernel
theorem dX11_set_50 : decode cX11_set 50 = .ok (.iload_n 3, 1) := by decide +kernel
theorem dX11_set_51 : decode cX11_set 51 = .ok (.putfield 125, 3) := by decide +kernel
theorem dX11_set_54 : decode cX11_set 54 = .ok (.goto 103, 3) := by decide +kernel
theorem dX11_set_57 : decode cX11_set 57 = .ok (.iload_n 2, 1) := by decide +kernel
theorem dX11_set_58 : decode cX11_set 58 = .ok (.iconst 2, 1) := by decide +kernel
theorem dX11_set_59 : decode cX11_set 59 = .ok (.if_icmp .ne 28, 3) := by decide +kernel
theorem dX11_set_62 : decode cX11_set 62 = .ok (.iload_n 3, 1) := by decide +kernel
theorem dX11_set_63 : decode cX11_set 63 = .ok (.iconst 0, 1) := by decide +kernel
theorem dX11_set_64 : decode cX11_set 64 = .ok (.iconst 1, 1) := by decide +kernel
theorem dX11_set_65 : decode cX11_set 65 = .ok (.invokestatic 47, 3) := by decide +kernel
theorem dX11_set_68 : decode cX11_set 68 = .ok (.ifCond .eq 19, 3) := by decide +kernel
theorem dX11_set_71 : decode cX11_set 71 = .ok (.aload 4, 2) := by decide +kernel
theorem dX11_set_73 : decode cX11_set 73 = .ok (.getfield 128, 3) := by decide +kernel
theorem dX11_set_76 : decode cX11_set 76 = .ok (.istore 5, 2) := by decide +kernel
theorem dX11_set_78 : decode cX11_set 78 = .ok (.aload 4, 2) := by decide +kernel
theorem dX11_set_80 : decode cX11_set 80 = .ok (.iload_n 3, 1) := by decide +kernel
theorem dX11_set_81 : decode cX11_set 81 = .ok (.putfield 128, 3) := by decide +kernel
theorem dX11_set_84 : decode cX11_set 84 = .ok (.goto 73, 3) := by decide +kernel
theorem dX11_set_87 : decode cX11_set 87 = .ok (.iload_n 2, 1) := by decide +kernel
theorem dX11_set_88 : decode cX11_set 88 = .ok (.iconst 3, 1) := by decide +kernel
theorem dX11_set_89 : decode cX11_set 89 = .ok (.if_icmp .ne 29, 3) := by decide +kernel
theorem dX11_set_92 : decode cX11_set 92 = .ok (.iload_n 3, 1) := by decide +kernel
theorem dX11_set_93 : decode cX11_set 93 = .ok (.iconst 0, 1) := by decide +kernel
theorem dX11_set_94 : decode cX11_set 94 = .ok (.bipush 99, 2) := by decide +kernel
theorem dX11_set_96 : decode cX11_set 96 = .ok (.invokestatic 47, 3) := by decide +kernel
theorem dX11_set_99 : decode cX11_set 99 = .ok (.ifCond .eq 19, 3) := by decide +kernel
theorem dX11_set_102 : decode cX11_set 102 = .ok (.aload 4, 2) := by decide +kernel
theorem dX11_set_104 : decode cX11_set 104 = .ok (.getfield 131, 3) := by decide +kernel
theorem dX11_set_107 : decode cX11_set 107 = .ok (.istore 5, 2) := by decide +kernel
theorem dX11_set_109 : decode cX11_set 109 = .ok (.aload 4, 2) := by decide +kernel
theorem dX11_set_111 : decode cX11_set 111 = .ok (.iload_n 3, 1) := by decide +kernel
theorem dX11_set_112 : decode cX11_set 112 = .ok (.putfield 131, 3) := by decide +kernel
theorem dX11_set_115 : decode cX11_set 115 = .ok (.goto 42, 3) := by decide +kernel
theorem dX11_set_118 : decode cX11_set 118 = .ok (.iload_n 2, 1) := by decide +kernel
theorem dX11_set_119 : decode cX11_set 119 = .ok (.iconst 4, 1) := by decide +kernel
theorem dX11_set_120 : decode cX11_set 120 = .ok (.if_icmp .ne 29, 3) := by decide +kernel
theorem dX11_set_123 : decode cX11_set 123 = .ok (.iload_n 3, 1) := by decide +kernel
theorem dX11_set_124 : decode cX11_set 124 = .ok (.iconst 1, 1) := by decide +kernel
theorem dX11_set_125 : decode cX11_set 125 = .ok (.bipush 20, 2) := by decide +kernel
theorem dX11_set_127 : decode cX11_set 127 = .ok (.invokestatic 47, 3) := by decide +kernel
theorem dX11_set_130 : decode cX11_set 130 = .ok (.ifCond .eq 19, 3) := by decide +kernel
theorem dX11_set_133 : decode cX11_set 133 = .ok (.aload 4, 2) := by decide +kernel
theorem dX11_set_135 : decode cX11_set 135 = .ok (.getfield 134, 3) := by decide +kernel
theorem dX11_set_138 : decode cX11_set 138 = .ok (.istore 5, 2) := by decide +kernel
theorem dX11_set_140 : decode cX11_set 140 = .ok (.aload 4, 2) := by decide +kernel
theorem dX11_set_142 : decode cX11_set 142 = .ok (.iload_n 3, 1) := by decide +kernel
theorem dX11_set_143 : decode cX11_set 143 = .ok (.putfield 134, 3) := by decide +kernel
theorem dX11_set_146 : decode cX11_set 146 = .ok (.goto 11, 3) := by decide +kernel
theorem dX11_set_149 : decode cX11_set 149 = .ok (.aload_n 0, 1) := by decide +kernel
theorem dX11_set_150 : decode cX11_set 150 = .ok (.ldc 51, 2) := by decide +kernel
theorem dX11_set_152 : decode cX11_set 152 = .ok (.invokevirtual 52, 3) := by decide +kernel
theorem dX11_set_155 : decode cX11_set 155 = .ok (.istore 5, 2) := by decide +kernel
theorem dX11_set_157 : decode cX11_set 157 = .ok (.iload 5, 2) := by decide +kernel
theorem dX11_set_159 : decode cX11_set 159 = .ok (.ireturn, 1) := by decide +kernel
theorem dX11_turn_0 : decode cX11_turn 0 = .ok (.aload_n 0, 1) := by decide +kernel
theorem dX11_turn_1 : decode cX11_turn 1 = .ok (.getfield 10, 3) := by decide +kernel
theorem dX11_turn_4 : decode cX11_turn 4 = .ok (.iload_n 1, 1) := by decide +kernel
theorem dX11_turn_5 : decode cX11_turn 5 = .ok (.invokevirtual 107, 3) := by decide +kernel
theorem dX11_turn_8 : decode cX11_turn 8 = .ok (.ifCond .eq 10, 3) := by decide +kernel
theorem dX11_turn_11 : decode cX11_turn 11 = .ok (.iload_n 2, 1) := by decide +kernel
theorem dX11_turn_12 : decode cX11_turn 12 = .ok (.invokestatic 89, 3) := by decide +kernel
theorem dX11_turn_15 : decode cX11_turn 15 = .ok (.ifCond .ne 10, 3) := by decide +kernel
theorem dX11_turn_18 : decode cX11_turn 18 = .ok (.aload_n 0, 1) := by decide +kernel
theorem dX11_turn_19 : decode cX11_turn 19 = .ok (.ldc 51, 2) := by decide +kernel
theorem dX11_turn_21 : decode cX11_turn 21 = .ok (.invokevirtual 52, 3) := by decide +kernel
theorem dX11_turn_24 : decode cX11_turn 24 = .ok (.ireturn, 1) := by decide +kernel
theorem dX11_turn_25 : decode cX11_turn 25 = .ok (.aload_n 0, 1) := by decide +kernel
theorem dX11_turn_26 : decode cX11_turn 26 = .ok (.getfield 10, 3) := by decide +kernel
theorem dX11_turn_29 : decode cX11_turn 29 = .ok (.getfield 110, 3) := by decide +kernel
theorem dX11_turn_32 : decode cX11_turn 32 = .ok (.iload_n 1, 1) := by decide +kernel
theorem dX11_turn_33 : decode cX11_turn 33 = .ok (.aaload, 1) := by decide +kernel
theorem dX11_turn_34 : decode cX11_turn 34 = .ok (.astore_n 3, 1) := by decide +kernel
theorem dX11_turn_35 : decode cX11_turn 35 = .ok (.aload_n 3, 1) := by decide +kernel
theorem dX11_turn_36 : decode cX11_turn 36 = .ok (.getfield 114, 3) := by decide +kernel
theorem dX11_turn_39 : decode cX11_turn 39 = .ok (.getfield 120, 3) := by decide +kernel
theorem dX11_turn_42 : decode cX11_turn 42 = .ok (.istore 4, 2) := by decide +kernel
theorem dX11_turn_44 : decode cX11_turn 44 = .ok (.aload_n 3, 1) := by decide +kernel
theorem dX11_turn_45 : decode cX11_turn 45 = .ok (.aload_n 0, 1) := by decide +kernel
theorem dX11_turn_46 : decode cX11_turn 46 = .ok (.getfield 10, 3) := by decide +kernel
theorem dX11_turn_49 : decode cX11_turn 49 = .ok (.getfield 149, 3) := by decide +kernel
theorem dX11_turn_52 : decode cX11_turn 52 = .ok (.iload_n 2, 1) := by decide +kernel
theorem dX11_turn_53 : decode cX11_turn 53 = .ok (.aaload, 1) := by decide +kernel
theorem dX11_turn_54 : decode cX11_turn 54 = .ok (.putfield 114, 3) := by decide +kernel
theorem dX11_turn_57 : decode cX11_turn 57 = .ok (.iload 4, 2) := by decide +kernel
theorem dX11_turn_59 : decode cX11_turn 59 = .ok (.ireturn, 1) := by decide +kernel
theorem dX11_as_0 : decode cX11_as 0 = .ok (.aload_n 0, 1) := by decide +kernel
theorem dX11_as_1 : decode cX11_as 1 = .ok (.getfield 10, 3) := by decide +kernel
theorem dX11_as_4 : decode cX11_as 4 = .ok (.iload_n 1, 1) := by decide +kernel
theorem dX11_as_5 : decode cX11_as 5 = .ok (.invokevirtual 107, 3) := by decide +kernel
theorem dX11_as_8 : decode cX11_as 8 = .ok (.ifCond .eq 10, 3) := by decide +kernel
theorem dX11_as_11 : decode cX11_as 11 = .ok (.iload_n 2, 1) := by decide +kernel
theorem dX11_as_12 : decode cX11_as 12 = .ok (.invokestatic 89, 3) := by decide +kernel
theorem dX11_as_15 : decode cX11_as 15 = .ok (.ifCond .ne 10, 3) := by decide +kernel
theorem dX11_as_18 : decode cX11_as 18 = .ok (.aload_n 0, 1) := by decide +kernel
theorem dX11_as_19 : decode cX11_as 19 = .ok (.ldc 51, 2) := by decide +kernel
theorem dX11_as_21 : decode cX11_as 21 = .ok (.invokevirtual 52, 3) := by decide +kernel
theorem dX11_as_24 : decode cX11_as 24 = .ok (.ireturn, 1) := by decide +kernel
theorem dX11_as_25 : decode cX11_as 25 = .ok (.aload_n 0, 1) := by decide +kernel
theorem dX11_as_26 : decode cX11_as 26 = .ok (.getfield 10, 3) := by decide +kernel
theorem dX11_as_29 : decode cX11_as 29 = .ok (.getfield 110, 3) := by decide +kernel
theorem dX11_as_32 : decode cX11_as 32 = .ok (.iload_n 1, 1) := by decide +kernel
theorem dX11_as_33 : decode cX11_as 33 = .ok (.aaload, 1) := by decide +kernel
theorem dX11_as_34 : decode cX11_as 34 = .ok (.astore_n 3, 1) := by decide +kernel
theorem dX11_as_35 : decode cX11_as 35 = .ok (.aload_n 3, 1) := by decide +kernel
theorem dX11_as_36 : decode cX11_as 36 = .ok (.getfield 114, 3) := by decide +kernel
theorem dX11_as_39 : decode cX11_as 39 = .ok (.iload_n 2, 1) := by decide +kernel
theorem dX11_as_40 : decode cX11_as 40 = .ok (.invokevirtual 153, 3) := by decide +kernel
theorem dX11_as_43 : decode cX11_as 43 = .ok (.ifCond .ne 10, 3) := by decide +kernel
theorem dX11_as_46 : decode cX11_as 46 = .ok (.aload_n 0, 1) := by decide +kernel
theorem dX11_as_47 : decode cX11_as 47 = .ok (.ldc 156, 2) := by decide +kernel
theorem dX11_as_49 : decode cX11_as 49 = .ok (.invokevirtual 52, 3) := by decide +kernel
theorem dX11_as_52 : decode cX11_as 52 = .ok (.ireturn, 1) := by decide +kernel
theorem dX11_as_53 : decode cX11_as 53 = .ok (.aload_n 3, 1) := by decide +kernel
theorem dX11_as_54 : decode cX11_as 54 = .ok (.getfield 134, 3) := by decide +kernel
theorem dX11_as_57 : decode cX11_as 57 = .ok (.ireturn, 1) := by decide +kernel
theorem dX11_relieve_0 : decode cX11_relieve 0 = .ok (.aload_n 0, 1) := by decide +kernel
theorem dX11_relieve_1 : decode cX11_relieve 1 = .ok (.getfield 10, 3) := by decide +kernel
theorem dX11_relieve_4 : decode cX11_relieve 4 = .ok (.iload_n 1, 1) := by decide +kernel
theorem dX11_relieve_5 : decode cX11_relieve 5 = .ok (.invokevirtual 107, 3) := by decide +kernel
theorem dX11_relieve_8 : decode cX11_relieve 8 = .ok (.ifCond .eq 14, 3) := by decide +kernel
theorem dX11_relieve_11 : decode cX11_relieve 11 = .ok (.aload_n 0, 1) := by decide +kernel
theorem dX11_relieve_12 : decode cX11_relieve 12 = .ok (.getfield 10, 3) := by decide +kernel
theorem dX11_relieve_15 : decode cX11_relieve 15 = .ok (.iload_n 2, 1) := by decide +kernel
theorem dX11_relieve_16 : decode cX11_relieve 16 = .ok (.invokevirtual 107, 3) := by decide +kernel
theorem dX11_relieve_19 : decode cX11_relieve 19 = .ok (.ifCond .ne 10, 3) := by decide +kernel
theorem dX11_relieve_22 : decode cX11_relieve 22 = .ok (.aload_n 0, 1) := by decide +kernel
theorem dX11_relieve_23 : decode cX11_relieve 23 = .ok (.ldc 51, 2) := by decide +kernel
theorem dX11_relieve_25 : decode cX11_relieve 25 = .ok (.invokevirtual 52, 3) := by decide +kernel
theorem dX11_relieve_28 : decode cX11_relieve 28 = .ok (.ireturn, 1) := by decide +kernel
theorem dX11_relieve_29 : decode cX11_relieve 29 = .ok (.aload_n 0, 1) := by decide +kernel
theorem dX11_relieve_30 : decode cX11_relieve 30 = .ok (.getfield 10, 3) := by decide +kernel
theorem dX11_relieve_33 : decode cX11_relieve 33 = .ok (.iload_n 1, 1) := by decide +kernel
theorem dX11_relieve_34 : decode cX11_relieve 34 = .ok (.iload_n 2, 1) := by decide +kernel
theorem dX11_relieve_35 : decode cX11_relieve 35 = .ok (.invokevirtual 157, 3) := by decide +kernel
theorem dX11_relieve_38 : decode cX11_relieve 38 = .ok (.ifCond .ne 10, 3) := by decide +kernel
theorem dX11_relieve_41 : decode cX11_relieve 41 = .ok (.aload_n 0, 1) := by decide +kernel
theorem dX11_relieve_42 : decode cX11_relieve 42 = .ok (.ldc 161, 2) := by decide +kernel
theorem dX11_relieve_44 : decode cX11_relieve 44 = .ok (.invokevirtual 52, 3) := by decide +kernel
theorem dX11_relieve_47 : decode cX11_relieve 47 = .ok (.ireturn, 1) := by decide +kernel
theorem dX11_relieve_48 : decode cX11_relieve 48 = .ok (.aload_n 0, 1) := by decide +kernel
theorem dX11_relieve_49 : decode cX11_relieve 49 = .ok (.getfield 10, 3) := by decide +kernel
theorem dX11_relieve_52 : decode cX11_relieve 52 = .ok (.iload_n 1, 1) := by decide +kernel
theorem dX11_relieve_53 : decode cX11_relieve 53 = .ok (.iload_n 2, 1) := by decide +kernel
theorem dX11_relieve_54 : decode cX11_relieve 54 = .ok (.invokevirtual 162, 3) := by decide +kernel
theorem dX11_relieve_57 : decode cX11_relieve 57 = .ok (.iconst 1, 1) := by decide +kernel
theorem dX11_relieve_58 : decode cX11_relieve 58 = .ok (.ireturn, 1) := by decide +kernel
theorem dX11_days_0 : decode cX11_days 0 = .ok (.iload_n 1, 1) := by decide +kernel
theorem dX11_days_1 : decode cX11_days 1 = .ok (.iconst 1, 1) := by decide +kernel
theorem dX11_days_2 : decode cX11_days 2 = .ok (.bipush 100, 2) := by decide +kernel
theorem dX11_days_4 : decode cX11_days 4 = .ok (.invokestatic 47, 3) := by decide +kernel
theorem dX11_days_7 : decode cX11_days 7 = .ok (.ifCond .ne 10, 3) := by decide +kernel
theorem dX11_days_10 : decode cX11_days 10 = .ok (.aload_n 0, 1) := by decide +kernel
theorem dX11_days_11 : decode cX11_days 11 = .ok (.ldc 51, 2) := by decide +kernel
theorem dX11_days_13 : decode cX11_days 13 = .ok (.invokevirtual 52, 3) := by decide +kernel
theorem dX11_days_16 : decode cX11_days 16 = .ok (.ireturn, 1) := by decide +kernel
theorem dX11_days_17 : decode cX11_days 17 = .ok (.aload_n 0, 1) := by decide +kernel
theorem dX11_days_18 : decode cX11_days 18 = .ok (.getfield 10, 3) := by decide +kernel
theorem dX11_days_21 : decode cX11_days 21 = .ok (.getfield 66, 3) := by decide +kernel
theorem dX11_days_24 : decode cX11_days 24 = .ok (.iload_n 1, 1) := by decide +kernel
theorem dX11_days_25 : decode cX11_days 25 = .ok (.iadd, 1) := by decide +kernel
theorem dX11_days_26 : decode cX11_days 26 = .ok (.ldc 165, 2) := by decide +kernel
theorem dX11_days_28 : decode cX11_days 28 = .ok (.if_icmp .le 10, 3) := by decide +kernel
theorem dX11_days_31 : decode cX11_days 31 = .ok (.aload_n 0, 1) := by decide +kernel
theorem dX11_days_32 : decode cX11_days 32 = .ok (.ldc 161, 2) := by decide +kernel
theorem dX11_days_34 : decode cX11_days 34 = .ok (.invokevirtual 52, 3) := by decide +kernel
theorem dX11_days_37 : decode cX11_days 37 = .ok (.ireturn, 1) := by decide +kernel
theorem dX11_days_38 : decode cX11_days 38 = .ok (.aload_n 0, 1) := by decide +kernel
theorem dX11_days_39 : decode cX11_days 39 = .ok (.getfield 10, 3) := by decide +kernel
theorem dX11_days_42 : decode cX11_days 42 = .ok (.iload_n 1, 1) := by decide +kernel
theorem dX11_days_43 : decode cX11_days 43 = .ok (.invokevirtual 166, 3) := by decide +kernel
theorem dX11_days_46 : decode cX11_days 46 = .ok (.aload_n 0, 1) := by decide +kernel
theorem dX11_days_47 : decode cX11_days 47 = .ok (.getfield 10, 3) := by decide +kernel
theorem dX11_days_50 : decode cX11_days 50 = .ok (.getfield 63, 3) := by decide +kernel
theorem dX11_days_53 : decode cX11_days 53 = .ok (.ireturn, 1) := by decide +kernel
theorem dX11_on_0 : decode cX11_on 0 = .ok (.iload_n 1, 1) := by decide +kernel
theorem dX11_on_1 : decode cX11_on 1 = .ok (.iconst 0, 1) := by decide +kernel
theorem dX11_on_2 : decode cX11_on 2 = .ok (.sipush 400, 3) := by decide +kernel
theorem dX11_on_5 : decode cX11_on 5 = .ok (.invokestatic 47, 3) := by decide +kernel
theorem dX11_on_8 : decode cX11_on 8 = .ok (.ifCond .eq 12, 3) := by decide +kernel
theorem dX11_on_11 : decode cX11_on 11 = .ok (.iload_n 2, 1) := by decide +kernel
theorem dX11_on_12 : decode cX11_on 12 = .ok (.iconst 0, 1) := by decide +kernel
theorem dX11_on_13 : decode cX11_on 13 = .ok (.iconst 1, 1) := by decide +kernel
theorem dX11_on_14 : decode cX11_on 14 = .ok (.invokestatic 47, 3) := by decide +kernel
theorem dX11_on_17 : decode cX11_on 17 = .ok (.ifCond .ne 10, 3) := by decide +kernel
theorem dX11_on_20 : decode cX11_on 20 = .ok (.aload_n 0, 1) := by decide +kernel
theorem dX11_on_21 : decode cX11_on 21 = .ok (.ldc 51, 2) := by decide +kernel
theorem dX11_on_23 : decode cX11_on 23 = .ok (.invokevirtual 52, 3) := by decide +kernel
theorem dX11_on_26 : decode cX11_on 26 = .ok (.ireturn, 1) := by decide +kernel
theorem dX11_on_27 : decode cX11_on 27 = .ok (.aload_n 0, 1) := by decide +kernel
theorem dX11_on_28 : decode cX11_on 28 = .ok (.getfield 16, 3) := by decide +kernel
theorem dX11_on_31 : decode cX11_on 31 = .ok (.aload_n 0, 1) := by decide +kernel
theorem dX11_on_32 : decode cX11_on 32 = .ok (.getfield 10, 3) := by decide +kernel
theorem dX11_on_35 : decode cX11_on 35 = .ok (.invokevirtual 170, 3) := by decide +kernel
theorem dX11_on_38 : decode cX11_on 38 = .ok (.aload_n 0, 1) := by decide +kernel
theorem dX11_on_39 : decode cX11_on 39 = .ok (.getfield 16, 3) := by decide +kernel
theorem dX11_on_42 : decode cX11_on 42 = .ok (.iload_n 1, 1) := by decide +kernel
theorem dX11_on_43 : decode cX11_on 43 = .ok (.invokevirtual 166, 3) := by decide +kernel
theorem dX11_on_46 : decode cX11_on 46 = .ok (.iload_n 2, 1) := by decide +kernel
theorem dX11_on_47 : decode cX11_on 47 = .ok (.ifCond .ne 13, 3) := by decide +kernel
theorem dX11_on_50 : decode cX11_on 50 = .ok (.aload_n 0, 1) := by decide +kernel
theorem dX11_on_51 : decode cX11_on 51 = .ok (.getfield 16, 3) := by decide +kernel
theorem dX11_on_54 : decode cX11_on 54 = .ok (.getfield 63, 3) := by decide +kernel
theorem dX11_on_57 : decode cX11_on 57 = .ok (.goto 10, 3) := by decide +kernel
theorem dX11_on_60 : decode cX11_on 60 = .ok (.aload_n 0, 1) := by decide +kernel
theorem dX11_on_61 : decode cX11_on 61 = .ok (.getfield 16, 3) := by decide +kernel
theorem dX11_on_64 : decode cX11_on 64 = .ok (.invokevirtual 83, 3) := by decide +kernel
theorem dX11_on_67 : decode cX11_on 67 = .ok (.ireturn, 1) := by decide +kernel
theorem dX11_then_0 : decode cX11_then 0 = .ok (.aload_n 0, 1) := by decide +kernel
theorem dX11_then_1 : decode cX11_then 1 = .ok (.getfield 10, 3) := by decide +kernel
theorem dX11_then_4 : decode cX11_then 4 = .ok (.iload_n 1, 1) := by decide +kernel
theorem dX11_then_5 : decode cX11_then 5 = .ok (.invokevirtual 107, 3) := by decide +kernel
theorem dX11_then_8 : decode cX11_then 8 = .ok (.ifCond .eq 23, 3) := by decide +kernel
theorem dX11_then_11 : decode cX11_then 11 = .ok (.iload_n 2, 1) := by decide +kernel
theorem dX11_then_12 : decode cX11_then 12 = .ok (.iconst 0, 1) := by decide +kernel
theorem dX11_then_13 : decode cX11_then 13 = .ok (.sipush 400, 3) := by decide +kernel
theorem dX11_then_16 : decode cX11_then 16 = .ok (.invokestatic 47, 3) := by decide +kernel
theorem dX11_then_19 : decode cX11_then 19 = .ok (.ifCond .eq 12, 3) := by decide +kernel
theorem dX11_then_22 : decode cX11_then 22 = .ok (.iload_n 3, 1) := by decide +kernel
theorem dX11_then_23 : decode cX11_then 23 = .ok (.iconst 0, 1) := by decide +kernel
theorem dX11_then_24 : decode cX11_then 24 = .ok (.iconst 1, 1) := by decide +kernel
theorem dX11_then_25 : decode cX11_then 25 = .ok (.invokestatic 47, 3) := by decide +kernel
theorem dX11_then_28 : decode cX11_then 28 = .ok (.ifCond .ne 10, 3) := by decide +kernel
theorem dX11_then_31 : decode cX11_then 31 = .ok (.aload_n 0, 1) := by decide +kernel
theorem dX11_then_32 : decode cX11_then 32 = .ok (.ldc 51, 2) := by decide +kernel
theorem dX11_then_34 : decode cX11_then 34 = .ok (.invokevirtual 52, 3) := by decide +kernel
theorem dX11_then_37 : decode cX11_then 37 = .ok (.ireturn, 1) := by decide +kernel
theorem dX11_then_38 : decode cX11_then 38 = .ok (.aload_n 0, 1) := by decide +kernel
theorem dX11_then_39 : decode cX11_then 39 = .ok (.getfield 16, 3) := by decide +kernel
theorem dX11_then_42 : decode cX11_then 42 = .ok (.aload_n 0, 1) := by decide +kernel
theorem dX11_then_43 : decode cX11_then 43 = .ok (.getfield 10, 3) := by decide +kernel
theorem dX11_then_46 : decode cX11_then 46 = .ok (.invokevirtual 170, 3) := by decide +kernel
theorem dX11_then_49 : decode cX11_then 49 = .ok (.aload_n 0, 1) := by decide +kernel
theorem dX11_then_50 : decode cX11_then 50 = .ok (.getfield 16, 3) := by decide +kernel
theorem dX11_then_53 : decode cX11_then 53 = .ok (.iload_n 2, 1) := by decide +kernel
theorem dX11_then_54 : decode cX11_then 54 = .ok (.invokevirtual 166, 3) := by decide +kernel
theorem dX11_then_57 : decode cX11_then 57 = .ok (.aload_n 0, 1) := by decide +kernel
theorem dX11_then_58 : decode cX11_then 58 = .ok (.getfield 16, 3) := by decide +kernel
theorem dX11_then_61 : decode cX11_then 61 = .ok (.getfield 110, 3) := by decide +kernel
theorem dX11_then_64 : decode cX11_then 64 = .ok (.iload_n 1, 1) := by decide +kernel
theorem dX11_then_65 : decode cX11_then 65 = .ok (.aaload, 1) := by decide +kernel
theorem dX11_then_66 : decode cX11_then 66 = .ok (.astore 4, 2) := by decide +kernel
theorem dX11_then_68 : decode cX11_then 68 = .ok (.iload_n 3, 1) := by decide +kernel
theorem dX11_then_69 : decode cX11_then 69 = .ok (.ifCond .ne 11, 3) := by decide +kernel
theorem dX11_then_72 : decode cX11_then 72 = .ok (.aload 4, 2) := by decide +kernel
theorem dX11_then_74 : decode cX11_then 74 = .ok (.getfield 128, 3) := by decide +kernel
theorem dX11_then_77 : decode cX11_then 77 = .ok (.goto 8, 3) := by decide +kernel
theorem dX11_then_80 : decode cX11_then 80 = .ok (.aload 4, 2) := by decide +kernel
theorem dX11_then_82 : decode cX11_then 82 = .ok (.getfield 131, 3) := by decide +kernel
theorem dX11_then_85 : decode cX11_then 85 = .ok (.ireturn, 1) := by decide +kernel
theorem dX11_wins_0 : decode cX11_wins 0 = .ok (.iload_n 1, 1) := by decide +kernel
theorem dX11_wins_1 : decode cX11_wins 1 = .ok (.invokestatic 93, 3) := by decide +kernel
theorem dX11_wins_4 : decode cX11_wins 4 = .ok (.ifCond .eq 14, 3) := by decide +kernel
theorem dX11_wins_7 : decode cX11_wins 7 = .ok (.iload_n 2, 1) := by decide +kernel
theorem dX11_wins_8 : decode cX11_wins 8 = .ok (.iconst 1, 1) := by decide +kernel
theorem dX11_wins_9 : decode cX11_wins 9 = .ok (.sipush 9999, 3) := by decide +kernel
theorem dX11_wins_12 : decode cX11_wins 12 = .ok (.invokestatic 47, 3) := by decide +kernel
theorem dX11_wins_15 : decode cX11_wins 15 = .ok (.ifCond .ne 10, 3) := by decide +kernel
theorem dX11_wins_18 : decode cX11_wins 18 = .ok (.aload_n 0, 1) := by decide +kernel
theorem dX11_wins_19 : decode cX11_wins 19 = .ok (.ldc 51, 2) := by decide +kernel
theorem dX11_wins_21 : decode cX11_wins 21 = .ok (.invokevirtual 52, 3) := by decide +kernel
theorem dX11_wins_24 : decode cX11_wins 24 = .ok (.ireturn, 1) := by decide +kernel
theorem dX11_wins_25 : decode cX11_wins 25 = .ok (.aload_n 0, 1) := by decide +kernel
theorem dX11_wins_26 : decode cX11_wins 26 = .ok (.getfield 16, 3) := by decide +kernel
theorem dX11_wins_29 : decode cX11_wins 29 = .ok (.aload_n 0, 1) := by decide +kernel
theorem dX11_wins_30 : decode cX11_wins 30 = .ok (.getfield 10, 3) := by decide +kernel
theorem dX11_wins_33 : decode cX11_wins 33 = .ok (.invokevirtual 170, 3) := by decide +kernel
theorem dX11_wins_36 : decode cX11_wins 36 = .ok (.iconst 0, 1) := by decide +kernel
theorem dX11_wins_37 : decode cX11_wins 37 = .ok (.istore_n 3, 1) := by decide +kernel
theorem dX11_wins_38 : decode cX11_wins 38 = .ok (.iload_n 3, 1) := by decide +kernel
theorem dX11_wins_39 : decode cX11_wins 39 = .ok (.sipush 400, 3) := by decide +kernel
theorem dX11_wins_42 : decode cX11_wins 42 = .ok (.if_icmp .gt 30, 3) := by decide +kernel
theorem dX11_wins_45 : decode cX11_wins 45 = .ok (.aload_n 0, 1) := by decide +kernel
theorem dX11_wins_46 : decode cX11_wins 46 = .ok (.getfield 16, 3) := by decide +kernel
theorem dX11_wins_49 : decode cX11_wins 49 = .ok (.iload_n 1, 1) := by decide +kernel
theorem dX11_wins_50 : decode cX11_wins 50 = .ok (.invokevirtual 174, 3) := by decide +kernel
theorem dX11_wins_53 : decode cX11_wins 53 = .ok (.iload_n 2, 1) := by decide +kernel
theorem dX11_wins_54 : decode cX11_wins 54 = .ok (.if_icmp .lt 5, 3) := by decide +kernel
theorem dX11_wins_57 : decode cX11_wins 57 = .ok (.iload_n 3, 1) := by decide +kernel
theorem dX11_wins_58 : decode cX11_wins 58 = .ok (.ireturn, 1) := by decide +kernel
theorem dX11_wins_59 : decode cX11_wins 59 = .ok (.aload_n 0, 1) := by decide +kernel
theorem dX11_wins_60 : decode cX11_wins 60 = .ok (.getfield 16, 3) := by decide +kernel
theorem dX11_wins_63 : decode cX11_wins 63 = .ok (.invokevirtual 177, 3) := by decide +kernel
theorem dX11_wins_66 : decode cX11_wins 66 = .ok (.iinc 3 1, 3) := by decide +kernel
theorem dX11_wins_69 : decode cX11_wins 69 = .ok (.goto (-31), 3) := by decide +kernel
theorem dX11_wins_72 : decode cX11_wins 72 = .ok (.aload_n 0, 1) := by decide +kernel
theorem dX11_wins_73 : decode cX11_wins 73 = .ok (.ldc 180, 2) := by decide +kernel
theorem dX11_wins_75 : decode cX11_wins 75 = .ok (.invokevirtual 52, 3) := by decide +kernel
theorem dX11_wins_78 : decode cX11_wins 78 = .ok (.ireturn, 1) := by decide +kernel
theorem dX11_off_0 : decode cX11_off 0 = .ok (.aload_n 0, 1) := by decide +kernel
theorem dX11_off_1 : decode cX11_off 1 = .ok (.getfield 10, 3) := by decide +kernel
theorem dX11_off_4 : decode cX11_off 4 = .ok (.iload_n 1, 1) := by decide +kernel
theorem dX11_off_5 : decode cX11_off 5 = .ok (.invokevirtual 107, 3) := by decide +kernel
theorem dX11_off_8 : decode cX11_off 8 = .ok (.ifCond .ne 10, 3) := by decide +kernel
theorem dX11_off_11 : decode cX11_off 11 = .ok (.aload_n 0, 1) := by decide +kernel
theorem dX11_off_12 : decode cX11_off 12 = .ok (.ldc 51, 2) := by decide +kernel
theorem dX11_off_14 : decode cX11_off 14 = .ok (.invokevirtual 52, 3) := by decide +kernel
theorem dX11_off_17 : decode cX11_off 17 = .ok (.ireturn, 1) := by decide +kernel
theorem dX11_off_18 : decode cX11_off 18 = .ok (.aload_n 0, 1) := by decide +kernel
theorem dX11_off_19 : decode cX11_off 19 = .ok (.getfield 16, 3) := by decide +kernel
theorem dX11_off_22 : decode cX11_off 22 = .ok (.aload_n 0, 1) := by decide +kernel
theorem dX11_off_23 : decode cX11_off 23 = .ok (.getfield 10, 3) := by decide +kernel
theorem dX11_off_26 : decode cX11_off 26 = .ok (.invokevirtual 170, 3) := by decide +kernel
theorem dX11_off_29 : decode cX11_off 29 = .ok (.iconst 0, 1) := by decide +kernel
theorem dX11_off_30 : decode cX11_off 30 = .ok (.istore_n 2, 1) := by decide +kernel
theorem dX11_off_31 : decode cX11_off 31 = .ok (.iload_n 2, 1) := by decide +kernel
theorem dX11_off_32 : decode cX11_off 32 = .ok (.sipush 400, 3) := by decide +kernel
theorem dX11_off_35 : decode cX11_off 35 = .ok (.if_icmp .gt 33, 3) := by decide +kernel
theorem dX11_off_38 : decode cX11_off 38 = .ok (.aload_n 0, 1) := by decide +kernel
theorem dX11_off_39 : decode cX11_off 39 = .ok (.getfield 16, 3) := by decide +kernel
theorem dX11_off_42 : decode cX11_off 42 = .ok (.getfield 110, 3) := by decide +kernel
theorem dX11_off_45 : decode cX11_off 45 = .ok (.iload_n 1, 1) := by decide +kernel
theorem dX11_off_46 : decode cX11_off 46 = .ok (.aaload, 1) := by decide +kernel
theorem dX11_off_47 : decode cX11_off 47 = .ok (.getfield 128, 3) := by decide +kernel
theorem dX11_off_50 : decode cX11_off 50 = .ok (.ifCond .ne 5, 3) := by decide +kernel
theorem dX11_off_53 : decode cX11_off 53 = .ok (.iload_n 2, 1) := by decide +kernel
theorem dX11_off_54 : decode cX11_off 54 = .ok (.ireturn, 1) := by decide +kernel
theorem dX11_off_55 : decode cX11_off 55 = .ok (.aload_n 0, 1) := by decide +kernel
theorem dX11_off_56 : decode cX11_off 56 = .ok (.getfield 16, 3) := by decide +kernel
theorem dX11_off_59 : decode cX11_off 59 = .ok (.invokevirtual 177, 3) := by decide +kernel
theorem dX11_off_62 : decode cX11_off 62 = .ok (.iinc 2 1, 3) := by decide +kernel
theorem dX11_off_65 : decode cX11_off 65 = .ok (.goto (-34), 3) := by decide +kernel
theorem dX11_off_68 : decode cX11_off 68 = .ok (.aload_n 0, 1) := by decide +kernel
theorem dX11_off_69 : decode cX11_off 69 = .ok (.ldc 180, 2) := by decide +kernel
theorem dX11_off_71 : decode cX11_off 71 = .ok (.invokevirtual 52, 3) := by decide +kernel
theorem dX11_off_74 : decode cX11_off 74 = .ok (.ireturn, 1) := by decide +kernel
theorem dX11_turns_0 : decode cX11_turns 0 = .ok (.aload_n 0, 1) := by decide +kernel
theorem dX11_turns_1 : decode cX11_turns 1 = .ok (.getfield 16, 3) := by decide +kernel
theorem dX11_turns_4 : decode cX11_turns 4 = .ok (.aload_n 0, 1) := by decide +kernel
theorem dX11_turns_5 : decode cX11_turns 5 = .ok (.getfield 10, 3) := by decide +kernel
theorem dX11_turns_8 : decode cX11_turns 8 = .ok (.invokevirtual 170, 3) := by decide +kernel
theorem dX11_turns_11 : decode cX11_turns 11 = .ok (.iconst 1, 1) := by decide +kernel
theorem dX11_turns_12 : decode cX11_turns 12 = .ok (.istore_n 1, 1) := by decide +kernel
theorem dX11_turns_13 : decode cX11_turns 13 = .ok (.iload_n 1, 1) := by decide +kernel
theorem dX11_turns_14 : decode cX11_turns 14 = .ok (.sipush 400, 3) := by decide +kernel
theorem dX11_turns_17 : decode cX11_turns 17 = .ok (.if_icmp .gt 35, 3) := by decide +kernel
theorem dX11_turns_20 : decode cX11_turns 20 = .ok (.aload_n 0, 1) := by decide +kernel
theorem dX11_turns_21 : decode cX11_turns 21 = .ok (.getfield 16, 3) := by decide +kernel
theorem dX11_turns_24 : decode cX11_turns 24 = .ok (.invokevirtual 177, 3) := by decide +kernel
theorem dX11_turns_27 : decode cX11_turns 27 = .ok (.aload_n 0, 1) := by decide +kernel
theorem dX11_turns_28 : decode cX11_turns 28 = .ok (.getfield 16, 3) := by decide +kernel
theorem dX11_turns_31 : decode cX11_turns 31 = .ok (.invokevirtual 80, 3) := by decide +kernel
theorem dX11_turns_34 : decode cX11_turns 34 = .ok (.aload_n 0, 1) := by decide +kernel
theorem dX11_turns_35 : decode cX11_turns 35 = .ok (.getfield 10, 3) := by decide +kernel
theorem dX11_turns_38 : decode cX11_turns 38 = .ok (.invokevirtual 80, 3) := by decide +kernel
theorem dX11_turns_41 : decode cX11_turns 41 = .ok (.if_icmp .eq 5, 3) := by decide +kernel
theorem dX11_turns_44 : decode cX11_turns 44 = .ok (.iload_n 1, 1) := by decide +kernel
theorem dX11_turns_45 : decode cX11_turns 45 = .ok (.ireturn, 1) := by decide +kernel
theorem dX11_turns_46 : decode cX11_turns 46 = .ok (.iinc 1 1, 3) := by decide +kernel
theorem dX11_turns_49 : decode cX11_turns 49 = .ok (.goto (-36), 3) := by decide +kernel
theorem dX11_turns_52 : decode cX11_turns 52 = .ok (.aload_n 0, 1) := by decide +kernel
theorem dX11_turns_53 : decode cX11_turns 53 = .ok (.ldc 180, 2) := by decide +kernel
theorem dX11_turns_55 : decode cX11_turns 55 = .ok (.invokevirtual 52, 3) := by decide +kernel
theorem dX11_turns_58 : decode cX11_turns 58 = .ok (.ireturn, 1) := by decide +kernel
theorem dX11_spell_0 : decode cX11_spell 0 = .ok (.aload_n 0, 1) := by decide +kernel
theorem dX11_spell_1 : decode cX11_spell 1 = .ok (.getfield 10, 3) := by decide +kernel
theorem dX11_spell_4 : decode cX11_spell 4 = .ok (.iload_n 1, 1) := by decide +kernel
theorem dX11_spell_5 : decode cX11_spell 5 = .ok (.invokevirtual 107, 3) := by decide +kernel
theorem dX11_spell_8 : decode cX11_spell 8 = .ok (.ifCond .eq 13, 3) := by decide +kernel
theorem dX11_spell_11 : decode cX11_spell 11 = .ok (.iload_n 2, 1) := by decide +kernel
theorem dX11_spell_12 : decode cX11_spell 12 = .ok (.iconst 1, 1) := by decide +kernel
theorem dX11_spell_13 : decode cX11_spell 13 = .ok (.bipush 60, 2) := by decide +kernel
theorem dX11_spell_15 : decode cX11_spell 15 = .ok (.invokestatic 47, 3) := by decide +kernel
theorem dX11_spell_18 : decode cX11_spell 18 = .ok (.ifCond .ne 10, 3) := by decide +kernel
theorem dX11_spell_21 : decode cX11_spell 21 = .ok (.aload_n 0, 1) := by decide +kernel
theorem dX11_spell_22 : decode cX11_spell 22 = .ok (.ldc 51, 2) := by decide +kernel
theorem dX11_spell_24 : decode cX11_spell 24 = .ok (.invokevirtual 52, 3) := by decide +kernel
theorem dX11_spell_27 : decode cX11_spell 27 = .ok (.ireturn, 1) := by decide +kernel
theorem dX11_spell_28 : decode cX11_spell 28 = .ok (.aload_n 0, 1) := by decide +kernel
theorem dX11_spell_29 : decode cX11_spell 29 = .ok (.getfield 10, 3) := by decide +kernel
theorem dX11_spell_32 : decode cX11_spell 32 = .ok (.getfield 110, 3) := by decide +kernel
theorem dX11_spell_35 : decode cX11_spell 35 = .ok (.iload_n 1, 1) := by decide +kernel
theorem dX11_spell_36 : decode cX11_spell 36 = .ok (.aaload, 1) := by decide +kernel
theorem dX11_spell_37 : decode cX11_spell 37 = .ok (.astore_n 3, 1) := by decide +kernel
theorem dX11_spell_38 : decode cX11_spell 38 = .ok (.aload_n 3, 1) := by decide +kernel
theorem dX11_spell_39 : decode cX11_spell 39 = .ok (.getfield 128, 3) := by decide +kernel
theorem dX11_spell_42 : decode cX11_spell 42 = .ok (.ifCond .ne 10, 3) := by decide +kernel
theorem dX11_spell_45 : decode cX11_spell 45 = .ok (.aload_n 0, 1) := by decide +kernel
theorem dX11_spell_46 : decode cX11_spell 46 = .ok (.ldc 161, 2) := by decide +kernel
theorem dX11_spell_48 : decode cX11_spell 48 = .ok (.invokevirtual 52, 3) := by decide +kernel
theorem dX11_spell_51 : decode cX11_spell 51 = .ok (.ireturn, 1) := by decide +kernel
theorem dX11_spell_52 : decode cX11_spell 52 = .ok (.aload_n 0, 1) := by decide +kernel
theorem dX11_spell_53 : decode cX11_spell 53 = .ok (.getfield 25, 3) := by decide +kernel
theorem dX11_spell_56 : decode cX11_spell 56 = .ok (.invokevirtual 181, 3) := by decide +kernel
theorem dX11_spell_59 : decode cX11_spell 59 = .ok (.iconst 0, 1) := by decide +kernel
theorem dX11_spell_60 : decode cX11_spell 60 = .ok (.istore 4, 2) := by decide +kernel
theorem dX11_spell_62 : decode cX11_spell 62 = .ok (.iload 4, 2) := by decide +kernel
theorem dX11_spell_64 : decode cX11_spell 64 = .ok (.aload_n 0, 1) := by decide +kernel
theorem dX11_spell_65 : decode cX11_spell 65 = .ok (.getfield 10, 3) := by decide +kernel
theorem dX11_spell_68 : decode cX11_spell 68 = .ok (.getfield 100, 3) := by decide +kernel
theorem dX11_spell_71 : decode cX11_spell 71 = .ok (.if_icmp .ge 71, 3) := by decide +kernel
theorem dX11_spell_74 : decode cX11_spell 74 = .ok (.aload_n 0, 1) := by decide +kernel
theorem dX11_spell_75 : decode cX11_spell 75 = .ok (.getfield 10, 3) := by decide +kernel
theorem dX11_spell_78 : decode cX11_spell 78 = .ok (.iload 4, 2) := by decide +kernel
theorem dX11_spell_80 : decode cX11_spell 80 = .ok (.iload_n 1, 1) := by decide +kernel
theorem dX11_spell_81 : decode cX11_spell 81 = .ok (.invokevirtual 157, 3) := by decide +kernel
theorem dX11_spell_84 : decode cX11_spell 84 = .ok (.ifCond .eq 52, 3) := by decide +kernel
theorem dX11_spell_87 : decode cX11_spell 87 = .ok (.aload_n 0, 1) := by decide +kernel
theorem dX11_spell_88 : decode cX11_spell 88 = .ok (.getfield 16, 3) := by decide +kernel
theorem dX11_spell_91 : decode cX11_spell 91 = .ok (.aload_n 0, 1) := by decide +kernel
theorem dX11_spell_92 : decode cX11_spell 92 = .ok (.getfield 10, 3) := by decide +kernel
theorem dX11_spell_95 : decode cX11_spell 95 = .ok (.invokevirtual 170, 3) := by decide +kernel
theorem dX11_spell_98 : decode cX11_spell 98 = .ok (.aload_n 0, 1) := by decide +kernel
theorem dX11_spell_99 : decode cX11_spell 99 = .ok (.getfield 16, 3) := by decide +kernel
theorem dX11_spell_102 : decode cX11_spell 102 = .ok (.iload 4, 2) := by decide +kernel
theorem dX11_spell_104 : decode cX11_spell 104 = .ok (.iload_n 1, 1) := by decide +kernel
theorem dX11_spell_105 : decode cX11_spell 105 = .ok (.invokevirtual 162, 3) := by decide +kernel
theorem dX11_spell_108 : decode cX11_spell 108 = .ok (.aload_n 0, 1) := by decide +kernel
theorem dX11_spell_109 : decode cX11_spell 109 = .ok (.getfield 16, 3) := by decide +kernel
theorem dX11_spell_112 : decode cX11_spell 112 = .ok (.iload_n 2, 1) := by decide +kernel
theorem dX11_spell_113 : decode cX11_spell 113 = .ok (.invokevirtual 166, 3) := by decide +kernel
theorem dX11_spell_116 : decode cX11_spell 116 = .ok (.aload_n 0, 1) := by decide +kernel
theorem dX11_spell_117 : decode cX11_spell 117 = .ok (.getfield 25, 3) := by decide +kernel
theorem dX11_spell_120 : decode cX11_spell 120 = .ok (.iload 4, 2) := by decide +kernel
theorem dX11_spell_122 : decode cX11_spell 122 = .ok (.aload_n 0, 1) := by decide +kernel
theorem dX11_spell_123 : decode cX11_spell 123 = .ok (.getfield 16, 3) := by decide +kernel
theorem dX11_spell_126 : decode cX11_spell 126 = .ok (.aload_n 3, 1) := by decide +kernel
theorem dX11_spell_127 : decode cX11_spell 127 = .ok (.getfield 125, 3) := by decide +kernel
theorem dX11_spell_130 : decode cX11_spell 130 = .ok (.invokevirtual 174, 3) := by decide +kernel
theorem dX11_spell_133 : decode cX11_spell 133 = .ok (.invokevirtual 184, 3) := by decide +kernel
theorem dX11_spell_136 : decode cX11_spell 136 = .ok (.iinc 4 1, 3) := by decide +kernel
theorem dX11_spell_139 : decode cX11_spell 139 = .ok (.goto (-77), 3) := by decide +kernel
theorem dX11_spell_142 : decode cX11_spell 142 = .ok (.aload_n 0, 1) := by decide +kernel
theorem dX11_spell_143 : decode cX11_spell 143 = .ok (.invokevirtual 187, 3) := by decide +kernel
theorem dX11_spell_146 : decode cX11_spell 146 = .ok (.ireturn, 1) := by decide +kernel
theorem dX11_kind_0 : decode cX11_kind 0 = .ok (.aload_n 0, 1) := by decide +kernel
theorem dX11_kind_1 : decode cX11_kind 1 = .ok (.getfield 10, 3) := by decide +kernel
theorem dX11_kind_4 : decode cX11_kind 4 = .ok (.iload_n 1, 1) := by decide +kernel
theorem dX11_kind_5 : decode cX11_kind 5 = .ok (.invokevirtual 107, 3) := by decide +kernel
theorem dX11_kind_8 : decode cX11_kind 8 = .ok (.ifCond .eq 13, 3) := by decide +kernel
theorem dX11_kind_11 : decode cX11_kind 11 = .ok (.iload_n 2, 1) := by decide +kernel
theorem dX11_kind_12 : decode cX11_kind 12 = .ok (.iconst 1, 1) := by decide +kernel
theorem dX11_kind_13 : decode cX11_kind 13 = .ok (.bipush 60, 2) := by decide +kernel
theorem dX11_kind_15 : decode cX11_kind 15 = .ok (.invokestatic 47, 3) := by decide +kernel
theorem dX11_kind_18 : decode cX11_kind 18 = .ok (.ifCond .ne 10, 3) := by decide +kernel
theorem dX11_kind_21 : decode cX11_kind 21 = .ok (.aload_n 0, 1) := by decide +kernel
theorem dX11_kind_22 : decode cX11_kind 22 = .ok (.ldc 51, 2) := by decide +kernel
theorem dX11_kind_24 : decode cX11_kind 24 = .ok (.invokevirtual 52, 3) := by decide +kernel
theorem dX11_kind_27 : decode cX11_kind 27 = .ok (.ireturn, 1) := by decide +kernel
theorem dX11_kind_28 : decode cX11_kind 28 = .ok (.aload_n 0, 1) := by decide +kernel
theorem dX11_kind_29 : decode cX11_kind 29 = .ok (.getfield 10, 3) := by decide +kernel
theorem dX11_kind_32 : decode cX11_kind 32 = .ok (.getfield 110, 3) := by decide +kernel
theorem dX11_kind_35 : decode cX11_kind 35 = .ok (.iload_n 1, 1) := by decide +kernel
theorem dX11_kind_36 : decode cX11_kind 36 = .ok (.aaload, 1) := by decide +kernel
theorem dX11_kind_37 : decode cX11_kind 37 = .ok (.getfield 125, 3) := by decide +kernel
theorem dX11_kind_40 : decode cX11_kind 40 = .ok (.istore_n 3, 1) := by decide +kernel
theorem dX11_kind_41 : decode cX11_kind 41 = .ok (.aload_n 0, 1) := by decide +kernel
theorem dX11_kind_42 : decode cX11_kind 42 = .ok (.getfield 25, 3) := by decide +kernel
theorem dX11_kind_45 : decode cX11_kind 45 = .ok (.invokevirtual 181, 3) := by decide +kernel
theorem dX11_kind_48 : decode cX11_kind 48 = .ok (.iconst 0, 1) := by decide +kernel
theorem dX11_kind_49 : decode cX11_kind 49 = .ok (.istore 4, 2) := by decide +kernel
theorem dX11_kind_51 : decode cX11_kind 51 = .ok (.iload 4, 2) := by decide +kernel
theorem dX11_kind_53 : decode cX11_kind 53 = .ok (.bipush 6, 2) := by decide +kernel
theorem dX11_kind_55 : decode cX11_kind 55 = .ok (.if_icmp .ge 67, 3) := by decide +kernel
theorem dX11_kind_58 : decode cX11_kind 58 = .ok (.aload_n 0, 1) := by decide +kernel
theorem dX11_kind_59 : decode cX11_kind 59 = .ok (.getfield 16, 3) := by decide +kernel
theorem dX11_kind_62 : decode cX11_kind 62 = .ok (.aload_n 0, 1) := by decide +kernel
theorem dX11_kind_63 : decode cX11_kind 63 = .ok (.getfield 10, 3) := by decide +kernel
theorem dX11_kind_66 : decode cX11_kind 66 = .ok (.invokevirtual 170, 3) := by decide +kernel
theorem dX11_kind_69 : decode cX11_kind 69 = .ok (.aload_n 0, 1) := by decide +kernel
theorem dX11_kind_70 : decode cX11_kind 70 = .ok (.getfield 16, 3) := by decide +kernel
theorem dX11_kind_73 : decode cX11_kind 73 = .ok (.getfield 110, 3) := by decide +kernel
theorem dX11_kind_76 : decode cX11_kind 76 = .ok (.iload_n 1, 1) := by decide +kernel
theorem dX11_kind_77 : decode cX11_kind 77 = .ok (.aaload, 1) := by decide +kernel
theorem dX11_kind_78 : decode cX11_kind 78 = .ok (.aload_n 0, 1) := by decide +kernel
theorem dX11_kind_79 : decode cX11_kind 79 = .ok (.getfield 16, 3) := by decide +kernel
theorem dX11_kind_82 : decode cX11_kind 82 = .ok (.getfield 149, 3) := by decide +kernel
theorem dX11_kind_85 : decode cX11_kind 85 = .ok (.iload 4, 2) := by decide +kernel
theorem dX11_kind_87 : decode cX11_kind 87 = .ok (.aaload, 1) := by decide +kernel
theorem dX11_kind_88 : decode cX11_kind 88 = .ok (.putfield 114, 3) := by decide +kernel
theorem dX11_kind_91 : decode cX11_kind 91 = .ok (.aload_n 0, 1) := by decide +kernel
theorem dX11_kind_92 : decode cX11_kind 92 = .ok (.getfield 16, 3) := by decide +kernel
theorem dX11_kind_95 : decode cX11_kind 95 = .ok (.iload_n 2, 1) := by decide +kernel
theorem dX11_kind_96 : decode cX11_kind 96 = .ok (.invokevirtual 166, 3) := by decide +kernel
theorem dX11_kind_99 : decode cX11_kind 99 = .ok (.aload_n 0, 1) := by decide +kernel
theorem dX11_kind_100 : decode cX11_kind 100 = .ok (.getfield 25, 3) := by decide +kernel
theorem dX11_kind_103 : decode cX11_kind 103 = .ok (.iload 4, 2) := by decide +kernel
theorem dX11_kind_105 : decode cX11_kind 105 = .ok (.aload_n 0, 1) := by decide +kernel
theorem dX11_kind_106 : decode cX11_kind 106 = .ok (.getfield 16, 3) := by decide +kernel
theorem dX11_kind_109 : decode cX11_kind 109 = .ok (.iload_n 3, 1) := by decide +kernel
theorem dX11_kind_110 : decode cX11_kind 110 = .ok (.invokevirtual 174, 3) := by decide +kernel
theorem dX11_kind_113 : decode cX11_kind 113 = .ok (.invokevirtual 184, 3) := by decide +kernel
theorem dX11_kind_116 : decode cX11_kind 116 = .ok (.iinc 4 1, 3) := by decide +kernel
theorem dX11_kind_119 : decode cX11_kind 119 = .ok (.goto (-68), 3) := by decide +kernel
theorem dX11_kind_122 : decode cX11_kind 122 = .ok (.aload_n 0, 1) := by decide +kernel
theorem dX11_kind_123 : decode cX11_kind 123 = .ok (.getfield 25, 3) := by decide +kernel
theorem dX11_kind_126 : decode cX11_kind 126 = .ok (.getfield 190, 3) := by decide +kernel
theorem dX11_kind_129 : decode cX11_kind 129 = .ok (.ireturn, 1) := by decide +kernel
theorem dX11_week_0 : decode cX11_week 0 = .ok (.iload_n 1, 1) := by decide +kernel
theorem dX11_week_1 : decode cX11_week 1 = .ok (.invokestatic 93, 3) := by decide +kernel
theorem dX11_week_4 : decode cX11_week 4 = .ok (.ifCond .eq 13, 3) := by decide +kernel
theorem dX11_week_7 : decode cX11_week 7 = .ok (.iload_n 2, 1) := by decide +kernel
theorem dX11_week_8 : decode cX11_week 8 = .ok (.iconst 1, 1) := by decide +kernel
theorem dX11_week_9 : decode cX11_week 9 = .ok (.bipush 100, 2) := by decide +kernel
theorem dX11_week_11 : decode cX11_week 11 = .ok (.invokestatic 47, 3) := by decide +kernel
theorem dX11_week_14 : decode cX11_week 14 = .ok (.ifCond .ne 10, 3) := by decide +kernel
theorem dX11_week_17 : decode cX11_week 17 = .ok (.aload_n 0, 1) := by decide +kernel
theorem dX11_week_18 : decode cX11_week 18 = .ok (.ldc 51, 2) := by decide +kernel
theorem dX11_week_20 : decode cX11_week 20 = .ok (.invokevirtual 52, 3) := by decide +kernel
theorem dX11_week_23 : decode cX11_week 23 = .ok (.ireturn, 1) := by decide +kernel
theorem dX11_week_24 : decode cX11_week 24 = .ok (.aload_n 0, 1) := by decide +kernel
theorem dX11_week_25 : decode cX11_week 25 = .ok (.getfield 25, 3) := by decide +kernel
theorem dX11_week_28 : decode cX11_week 28 = .ok (.invokevirtual 181, 3) := by decide +kernel
theorem dX11_week_31 : decode cX11_week 31 = .ok (.iconst 0, 1) := by decide +kernel
theorem dX11_week_32 : decode cX11_week 32 = .ok (.istore_n 3, 1) := by decide +kernel
theorem dX11_week_33 : decode cX11_week 33 = .ok (.iload_n 3, 1) := by decide +kernel
theorem dX11_week_34 : decode cX11_week 34 = .ok (.bipush 8, 2) := by decide +kernel
theorem dX11_week_36 : decode cX11_week 36 = .ok (.if_icmp .ge 59, 3) := by decide +kernel
theorem dX11_week_39 : decode cX11_week 39 = .ok (.aload_n 0, 1) := by decide +kernel
theorem dX11_week_40 : decode cX11_week 40 = .ok (.getfield 16, 3) := by decide +kernel
theorem dX11_week_43 : decode cX11_week 43 = .ok (.aload_n 0, 1) := by decide +kernel
theorem dX11_week_44 : decode cX11_week 44 = .ok (.getfield 10, 3) := by decide +kernel
theorem dX11_week_47 : decode cX11_week 47 = .ok (.invokevirtual 170, 3) := by decide +kernel
theorem dX11_week_50 : decode cX11_week 50 = .ok (.aload_n 0, 1) := by decide +kernel
theorem dX11_week_51 : decode cX11_week 51 = .ok (.getfield 16, 3) := by decide +kernel
theorem dX11_week_54 : decode cX11_week 54 = .ok (.dup, 1) := by decide +kernel
theorem dX11_week_55 : decode cX11_week 55 = .ok (.getfield 60, 3) := by decide +kernel
theorem dX11_week_58 : decode cX11_week 58 = .ok (.iconst 1, 1) := by decide +kernel
theorem dX11_week_59 : decode cX11_week 59 = .ok (.iload_n 3, 1) := by decide +kernel
theorem dX11_week_60 : decode cX11_week 60 = .ok (.ishl, 1) := by decide +kernel
theorem dX11_week_61 : decode cX11_week 61 = .ok (.ixor, 1) := by decide +kernel
theorem dX11_week_62 : decode cX11_week 62 = .ok (.putfield 60, 3) := by decide +kernel
theorem dX11_week_65 : decode cX11_week 65 = .ok (.aload_n 0, 1) := by decide +kernel
theorem dX11_week_66 : decode cX11_week 66 = .ok (.getfield 16, 3) := by decide +kernel
theorem dX11_week_69 : decode cX11_week 69 = .ok (.iload_n 2, 1) := by decide +kernel
theorem dX11_week_70 : decode cX11_week 70 = .ok (.invokevirtual 166, 3) := by decide +kernel
theorem dX11_week_73 : decode cX11_week 73 = .ok (.aload_n 0, 1) := by decide +kernel
theorem dX11_week_74 : decode cX11_week 74 = .ok (.getfield 25, 3) := by decide +kernel
theorem dX11_week_77 : decode cX11_week 77 = .ok (.iload_n 3, 1) := by decide +kernel
theorem dX11_week_78 : decode cX11_week 78 = .ok (.aload_n 0, 1) := by decide +kernel
theorem dX11_week_79 : decode cX11_week 79 = .ok (.getfield 16, 3) := by decide +kernel
theorem dX11_week_82 : decode cX11_week 82 = .ok (.iload_n 1, 1) := by decide +kernel
theorem dX11_week_83 : decode cX11_week 83 = .ok (.invokevirtual 174, 3) := by decide +kernel
theorem dX11_week_86 : decode cX11_week 86 = .ok (.invokevirtual 184, 3) := by decide +kernel
theorem dX11_week_89 : decode cX11_week 89 = .ok (.iinc 3 1, 3) := by decide +kernel
theorem dX11_week_92 : decode cX11_week 92 = .ok (.goto (-59), 3) := by decide +kernel
theorem dX11_week_95 : decode cX11_week 95 = .ok (.aload_n 0, 1) := by decide +kernel
theorem dX11_week_96 : decode cX11_week 96 = .ok (.getfield 25, 3) := by decide +kernel
theorem dX11_week_99 : decode cX11_week 99 = .ok (.getfield 190, 3) := by decide +kernel
theorem dX11_week_102 : decode cX11_week 102 = .ok (.ireturn, 1) := by decide +kernel
theorem dX11_strong_0 : decode cX11_strong 0 = .ok (.aload_n 0, 1) := by decide +kernel
theorem dX11_strong_1 : decode cX11_strong 1 = .ok (.getfield 10, 3) := by decide +kernel
theorem dX11_strong_4 : decode cX11_strong 4 = .ok (.iload_n 1, 1) := by decide +kernel
theorem dX11_strong_5 : decode cX11_strong 5 = .ok (.invokevirtual 107, 3) := by decide +kernel
theorem dX11_strong_8 : decode cX11_strong 8 = .ok (.ifCond .eq 26, 3) := by decide +kernel
theorem dX11_strong_11 : decode cX11_strong 11 = .ok (.iload_n 2, 1) := by decide +kernel
theorem dX11_strong_12 : decode cX11_strong 12 = .ok (.iconst 1, 1) := by decide +kernel
theorem dX11_strong_13 : decode cX11_strong 13 = .ok (.bipush 60, 2) := by decide +kernel
theorem dX11_strong_15 : decode cX11_strong 15 = .ok (.invokestatic 47, 3) := by decide +kernel
theorem dX11_strong_18 : decode cX11_strong 18 = .ok (.ifCond .eq 16, 3) := by decide +kernel
theorem dX11_strong_21 : decode cX11_strong 21 = .ok (.iload_n 3, 1) := by decide +kernel
theorem dX11_strong_22 : decode cX11_strong 22 = .ok (.sipush (-9999), 3) := by decide +kernel
theorem dX11_strong_25 : decode cX11_strong 25 = .ok (.sipush 9999, 3) := by decide +kernel
theorem dX11_strong_28 : decode cX11_strong 28 = .ok (.invokestatic 47, 3) := by decide +kernel
theorem dX11_strong_31 : decode cX11_strong 31 = .ok (.ifCond .ne 10, 3) := by decide +kernel
theorem dX11_strong_34 : decode cX11_strong 34 = .ok (.aload_n 0, 1) := by decide +kernel
theorem dX11_strong_35 : decode cX11_strong 35 = .ok (.ldc 51, 2) := by decide +kernel
theorem dX11_strong_37 : decode cX11_strong 37 = .ok (.invokevirtual 52, 3) := by decide +kernel
theorem dX11_strong_40 : decode cX11_strong 40 = .ok (.ireturn, 1) := by decide +kernel
theorem dX11_strong_41 : decode cX11_strong 41 = .ok (.aload_n 0, 1) := by decide +kernel
theorem dX11_strong_42 : decode cX11_strong 42 = .ok (.getfield 10, 3) := by decide +kernel
theorem dX11_strong_45 : decode cX11_strong 45 = .ok (.getfield 110, 3) := by decide +kernel
theorem dX11_strong_48 : decode cX11_strong 48 = .ok (.iload_n 1, 1) := by decide +kernel
theorem dX11_strong_49 : decode cX11_strong 49 = .ok (.aaload, 1) := by decide +kernel
theorem dX11_strong_50 : decode cX11_strong 50 = .ok (.getfield 125, 3) := by decide +kernel
theorem dX11_strong_53 : decode cX11_strong 53 = .ok (.istore 4, 2) := by decide +kernel
theorem dX11_strong_55 : decode cX11_strong 55 = .ok (.iconst 1, 1) := by decide +kernel
theorem dX11_strong_56 : decode cX11_strong 56 = .ok (.istore 5, 2) := by decide +kernel
theorem dX11_strong_58 : decode cX11_strong 58 = .ok (.iload 5, 2) := by decide +kernel
theorem dX11_strong_60 : decode cX11_strong 60 = .ok (.bipush 20, 2) := by decide +kernel
theorem dX11_strong_62 : decode cX11_strong 62 = .ok (.if_icmp .gt 58, 3) := by decide +kernel
theorem dX11_strong_65 : decode cX11_strong 65 = .ok (.aload_n 0, 1) := by decide +kernel
theorem dX11_strong_66 : decode cX11_strong 66 = .ok (.getfield 16, 3) := by decide +kernel
theorem dX11_strong_69 : decode cX11_strong 69 = .ok (.aload_n 0, 1) := by decide +kernel
theorem dX11_strong_70 : decode cX11_strong 70 = .ok (.getfield 10, 3) := by decide +kernel
theorem dX11_strong_73 : decode cX11_strong 73 = .ok (.invokevirtual 170, 3) := by decide +kernel
theorem dX11_strong_76 : decode cX11_strong 76 = .ok (.aload_n 0, 1) := by decide +kernel
theorem dX11_strong_77 : decode cX11_strong 77 = .ok (.getfield 16, 3) := by decide +kernel
theorem dX11_strong_80 : decode cX11_strong 80 = .ok (.getfield 110, 3) := by decide +kernel
theorem dX11_strong_83 : decode cX11_strong 83 = .ok (.iload_n 1, 1) := by decide +kernel
theorem dX11_strong_84 : decode cX11_strong 84 = .ok (.aaload, 1) := by decide +kernel
theorem dX11_strong_85 : decode cX11_strong 85 = .ok (.iload 5, 2) := by decide +kernel
theorem dX11_strong_87 : decode cX11_strong 87 = .ok (.putfield 134, 3) := by decide +kernel
theorem dX11_strong_90 : decode cX11_strong 90 = .ok (.aload_n 0, 1) := by decide +kernel
theorem dX11_strong_91 : decode cX11_strong 91 = .ok (.getfield 16, 3) := by decide +kernel
theorem dX11_strong_94 : decode cX11_strong 94 = .ok (.iload_n 2, 1) := by decide +kernel
theorem dX11_strong_95 : decode cX11_strong 95 = .ok (.invokevirtual 166, 3) := by decide +kernel
theorem dX11_strong_98 : decode cX11_strong 98 = .ok (.aload_n 0, 1) := by decide +kernel
theorem dX11_strong_99 : decode cX11_strong 99 = .ok (.getfield 16, 3) := by decide +kernel
theorem dX11_strong_102 : decode cX11_strong 102 = .ok (.iload 4, 2) := by decide +kernel
theorem dX11_strong_104 : decode cX11_strong 104 = .ok (.invokevirtual 174, 3) := by decide +kernel
theorem dX11_strong_107 : decode cX11_strong 107 = .ok (.iload_n 3, 1) := by decide +kernel
theorem dX11_strong_108 : decode cX11_strong 108 = .ok (.if_icmp .lt 6, 3) := by decide +kernel
theorem dX11_strong_111 : decode cX11_strong 111 = .ok (.iload 5, 2) := by decide +kernel
theorem dX11_strong_113 : decode cX11_strong 113 = .ok (.ireturn, 1) := by decide +kernel
theorem dX11_strong_114 : decode cX11_strong 114 = .ok (.iinc 5 1, 3) := by decide +kernel
theorem dX11_strong_117 : decode cX11_strong 117 = .ok (.goto (-59), 3) := by decide +kernel
theorem dX11_strong_120 : decode cX11_strong 120 = .ok (.aload_n 0, 1) := by decide +kernel
theorem dX11_strong_121 : decode cX11_strong 121 = .ok (.ldc 180, 2) := by decide +kernel
theorem dX11_strong_123 : decode cX11_strong 123 = .ok (.invokevirtual 52, 3) := by decide +kernel
theorem dX11_strong_126 : decode cX11_strong 126 = .ok (.ireturn, 1) := by decide +kernel
theorem dX11_bears_0 : decode cX11_bears 0 = .ok (.aload_n 0, 1) := by decide +kernel
theorem dX11_bears_1 : decode cX11_bears 1 = .ok (.getfield 10, 3) := by decide +kernel
theorem dX11_bears_4 : decode cX11_bears 4 = .ok (.iload_n 1, 1) := by decide +kernel
theorem dX11_bears_5 : decode cX11_bears 5 = .ok (.invokevirtual 107, 3) := by decide +kernel
theorem dX11_bears_8 : decode cX11_bears 8 = .ok (.ifCond .eq 13, 3) := by decide +kernel
theorem dX11_bears_11 : decode cX11_bears 11 = .ok (.iload_n 2, 1) := by decide +kernel
theorem dX11_bears_12 : decode cX11_bears 12 = .ok (.iconst 1, 1) := by decide +kernel
theorem dX11_bears_13 : decode cX11_bears 13 = .ok (.bipush 60, 2) := by decide +kernel
theorem dX11_bears_15 : decode cX11_bears 15 = .ok (.invokestatic 47, 3) := by decide +kernel
theorem dX11_bears_18 : decode cX11_bears 18 = .ok (.ifCond .ne 10, 3) := by decide +kernel
theorem dX11_bears_21 : decode cX11_bears 21 = .ok (.aload_n 0, 1) := by decide +kernel
theorem dX11_bears_22 : decode cX11_bears 22 = .ok (.ldc 51, 2) := by decide +kernel
theorem dX11_bears_24 : decode cX11_bears 24 = .ok (.invokevirtual 52, 3) := by decide +kernel
theorem dX11_bears_27 : decode cX11_bears 27 = .ok (.ireturn, 1) := by decide +kernel
theorem dX11_bears_28 : decode cX11_bears 28 = .ok (.bipush 99, 2) := by decide +kernel
theorem dX11_bears_30 : decode cX11_bears 30 = .ok (.istore_n 3, 1) := by decide +kernel
theorem dX11_bears_31 : decode cX11_bears 31 = .ok (.iload_n 3, 1) := by decide +kernel
theorem dX11_bears_32 : decode cX11_bears 32 = .ok (.ifCond .lt 59, 3) := by decide +kernel
theorem dX11_bears_35 : decode cX11_bears 35 = .ok (.aload_n 0, 1) := by decide +kernel
theorem dX11_bears_36 : decode cX11_bears 36 = .ok (.getfield 16, 3) := by decide +kernel
theorem dX11_bears_39 : decode cX11_bears 39 = .ok (.aload_n 0, 1) := by decide +kernel
theorem dX11_bears_40 : decode cX11_bears 40 = .ok (.getfield 10, 3) := by decide +kernel
theorem dX11_bears_43 : decode cX11_bears 43 = .ok (.invokevirtual 170, 3) := by decide +kernel
theorem dX11_bears_46 : decode cX11_bears 46 = .ok (.aload_n 0, 1) := by decide +kernel
theorem dX11_bears_47 : decode cX11_bears 47 = .ok (.getfield 16, 3) := by decide +kernel
theorem dX11_bears_50 : decode cX11_bears 50 = .ok (.getfield 110, 3) := by decide +kernel
theorem dX11_bears_53 : decode cX11_bears 53 = .ok (.iload_n 1, 1) := by decide +kernel
theorem dX11_bears_54 : decode cX11_bears 54 = .ok (.aaload, 1) := by decide +kernel
theorem dX11_bears_55 : decode cX11_bears 55 = .ok (.iload_n 3, 1) := by decide +kernel
theorem dX11_bears_56 : decode cX11_bears 56 = .ok (.putfield 131, 3) := by decide +kernel
theorem dX11_bears_59 : decode cX11_bears 59 = .ok (.aload_n 0, 1) := by decide +kernel
theorem dX11_bears_60 : decode cX11_bears 60 = .ok (.getfield 16, 3) := by decide +kernel
theorem dX11_bears_63 : decode cX11_bears 63 = .ok (.iload_n 2, 1) := by decide +kernel
theorem dX11_bears_64 : decode cX11_bears 64 = .ok (.invokevirtual 166, 3) := by decide +kernel
theorem dX11_bears_67 : decode cX11_bears 67 = .ok (.aload_n 0, 1) := by decide +kernel
theorem dX11_bears_68 : decode cX11_bears 68 = .ok (.getfield 16, 3) := by decide +kernel
theorem dX11_bears_71 : decode cX11_bears 71 = .ok (.getfield 110, 3) := by decide +kernel
theorem dX11_bears_74 : decode cX11_bears 74 = .ok (.iload_n 1, 1) := by decide +kernel
theorem dX11_bears_75 : decode cX11_bears 75 = .ok (.aaload, 1) := by decide +kernel
theorem dX11_bears_76 : decode cX11_bears 76 = .ok (.getfield 128, 3) := by decide +kernel
theorem dX11_bears_79 : decode cX11_bears 79 = .ok (.iconst 1, 1) := by decide +kernel
theorem dX11_bears_80 : decode cX11_bears 80 = .ok (.if_icmp .ne 5, 3) := by decide +kernel
theorem dX11_bears_83 : decode cX11_bears 83 = .ok (.iload_n 3, 1) := by decide +kernel
theorem dX11_bears_84 : decode cX11_bears 84 = .ok (.ireturn, 1) := by decide +kernel
theorem dX11_bears_85 : decode cX11_bears 85 = .ok (.iinc 3 (-1), 3) := by decide +kernel
theorem dX11_bears_88 : decode cX11_bears 88 = .ok (.goto (-57), 3) := by decide +kernel
theorem dX11_bears_91 : decode cX11_bears 91 = .ok (.aload_n 0, 1) := by decide +kernel
theorem dX11_bears_92 : decode cX11_bears 92 = .ok (.ldc 180, 2) := by decide +kernel
theorem dX11_bears_94 : decode cX11_bears 94 = .ok (.invokevirtual 52, 3) := by decide +kernel
theorem dX11_bears_97 : decode cX11_bears 97 = .ok (.ireturn, 1) := by decide +kernel
theorem dX11_fewest_0 : decode cX11_fewest 0 = .ok (.iload_n 1, 1) := by decide +kernel
theorem dX11_fewest_1 : decode cX11_fewest 1 = .ok (.invokestatic 93, 3) := by decide +kernel
theorem dX11_fewest_4 : decode cX11_fewest 4 = .ok (.ifCond .ne 10, 3) := by decide +kernel
theorem dX11_fewest_7 : decode cX11_fewest 7 = .ok (.aload_n 0, 1) := by decide +kernel
theorem dX11_fewest_8 : decode cX11_fewest 8 = .ok (.ldc 51, 2) := by decide +kernel
theorem dX11_fewest_10 : decode cX11_fewest 10 = .ok (.invokevirtual 52, 3) := by decide +kernel
theorem dX11_fewest_13 : decode cX11_fewest 13 = .ok (.ireturn, 1) := by decide +kernel
theorem dX11_fewest_14 : decode cX11_fewest 14 = .ok (.aload_n 0, 1) := by decide +kernel
theorem dX11_fewest_15 : decode cX11_fewest 15 = .ok (.getfield 10, 3) := by decide +kernel
theorem dX11_fewest_18 : decode cX11_fewest 18 = .ok (.iload_n 1, 1) := by decide +kernel
theorem dX11_fewest_19 : decode cX11_fewest 19 = .ok (.invokevirtual 86, 3) := by decide +kernel
theorem dX11_fewest_22 : decode cX11_fewest 22 = .ok (.aload_n 0, 1) := by decide +kernel
theorem dX11_fewest_23 : decode cX11_fewest 23 = .ok (.getfield 10, 3) := by decide +kernel
theorem dX11_fewest_26 : decode cX11_fewest 26 = .ok (.iconst 1, 1) := by decide +kernel
theorem dX11_fewest_27 : decode cX11_fewest 27 = .ok (.iload_n 1, 1) := by decide +kernel
theorem dX11_fewest_28 : decode cX11_fewest 28 = .ok (.isub, 1) := by decide +kernel
theorem dX11_fewest_29 : decode cX11_fewest 29 = .ok (.invokevirtual 86, 3) := by decide +kernel
theorem dX11_fewest_32 : decode cX11_fewest 32 = .ok (.isub, 1) := by decide +kernel
theorem dX11_fewest_33 : decode cX11_fewest 33 = .ok (.istore_n 2, 1) := by decide +kernel
theorem dX11_fewest_34 : decode cX11_fewest 34 = .ok (.aload_n 0, 1) := by decide +kernel
theorem dX11_fewest_35 : decode cX11_fewest 35 = .ok (.getfield 10, 3) := by decide +kernel
theorem dX11_fewest_38 : decode cX11_fewest 38 = .ok (.iload_n 1, 1) := by decide +kernel
theorem dX11_fewest_39 : decode cX11_fewest 39 = .ok (.invokevirtual 193, 3) := by decide +kernel
theorem dX11_fewest_42 : decode cX11_fewest 42 = .ok (.istore_n 3, 1) := by decide +kernel
theorem dX11_fewest_43 : decode cX11_fewest 43 = .ok (.aload_n 0, 1) := by decide +kernel
theorem dX11_fewest_44 : decode cX11_fewest 44 = .ok (.getfield 25, 3) := by decide +kernel
theorem dX11_fewest_47 : decode cX11_fewest 47 = .ok (.invokevirtual 181, 3) := by decide +kernel
theorem dX11_fewest_50 : decode cX11_fewest 50 = .ok (.iconst 0, 1) := by decide +kernel
theorem dX11_fewest_51 : decode cX11_fewest 51 = .ok (.istore 4, 2) := by decide +kernel
theorem dX11_fewest_53 : decode cX11_fewest 53 = .ok (.iload 4, 2) := by decide +kernel
theorem dX11_fewest_55 : decode cX11_fewest 55 = .ok (.iload_n 3, 1) := by decide +kernel
theorem dX11_fewest_56 : decode cX11_fewest 56 = .ok (.if_icmp .gt 59, 3) := by decide +kernel
theorem dX11_fewest_59 : decode cX11_fewest 59 = .ok (.iload 4, 2) := by decide +kernel
theorem dX11_fewest_61 : decode cX11_fewest 61 = .ok (.iload_n 3, 1) := by decide +kernel
theorem dX11_fewest_62 : decode cX11_fewest 62 = .ok (.iconst (-1), 1) := by decide +kernel
theorem dX11_fewest_63 : decode cX11_fewest 63 = .ok (.ixor, 1) := by decide +kernel
theorem dX11_fewest_64 : decode cX11_fewest 64 = .ok (.iand, 1) := by decide +kernel
theorem dX11_fewest_65 : decode cX11_fewest 65 = .ok (.ifCond .ne 7, 3) := by decide +kernel
theorem dX11_fewest_68 : decode cX11_fewest 68 = .ok (.iconst 1, 1) := by decide +kernel
theorem dX11_fewest_69 : decode cX11_fewest 69 = .ok (.goto 4, 3) := by decide +kernel
theorem dX11_fewest_72 : decode cX11_fewest 72 = .ok (.iconst 0, 1) := by decide +kernel
theorem dX11_fewest_73 : decode cX11_fewest 73 = .ok (.istore 5, 2) := by decide +kernel
theorem dX11_fewest_75 : decode cX11_fewest 75 = .ok (.iload 5, 2) := by decide +kernel
theorem dX11_fewest_77 : decode cX11_fewest 77 = .ok (.ifCond .eq 32, 3) := by decide +kernel
theorem dX11_fewest_80 : decode cX11_fewest 80 = .ok (.iload_n 2, 1) := by decide +kernel
theorem dX11_fewest_81 : decode cX11_fewest 81 = .ok (.aload_n 0, 1) := by decide +kernel
theorem dX11_fewest_82 : decode cX11_fewest 82 = .ok (.getfield 10, 3) := by decide +kernel
theorem dX11_fewest_85 : decode cX11_fewest 85 = .ok (.iload 4, 2) := by decide +kernel
theorem dX11_fewest_87 : decode cX11_fewest 87 = .ok (.invokevirtual 196, 3) := by decide +kernel
theorem dX11_fewest_90 : decode cX11_fewest 90 = .ok (.iadd, 1) := by decide +kernel
theorem dX11_fewest_91 : decode cX11_fewest 91 = .ok (.ifCond .le 18, 3) := by decide +kernel
theorem dX11_fewest_94 : decode cX11_fewest 94 = .ok (.aload_n 0, 1) := by decide +kernel
theorem dX11_fewest_95 : decode cX11_fewest 95 = .ok (.getfield 25, 3) := by decide +kernel
theorem dX11_fewest_98 : decode cX11_fewest 98 = .ok (.iload 4, 2) := by decide +kernel
theorem dX11_fewest_100 : decode cX11_fewest 100 = .ok (.iload 4, 2) := by decide +kernel
theorem dX11_fewest_102 : decode cX11_fewest 102 = .ok (.invokestatic 199, 3) := by decide +kernel
theorem dX11_fewest_105 : decode cX11_fewest 105 = .ok (.ineg, 1) := by decide +kernel
theorem dX11_fewest_106 : decode cX11_fewest 106 = .ok (.invokevirtual 184, 3) := by decide +kernel
theorem dX11_fewest_109 : decode cX11_fewest 109 = .ok (.iinc 4 1, 3) := by decide +kernel
theorem dX11_fewest_112 : decode cX11_fewest 112 = .ok (.goto (-59), 3) := by decide +kernel
theorem dX11_fewest_115 : decode cX11_fewest 115 = .ok (.aload_n 0, 1) := by decide +kernel
theorem dX11_fewest_116 : decode cX11_fewest 116 = .ok (.invokevirtual 187, 3) := by decide +kernel
theorem dX11_fewest_119 : decode cX11_fewest 119 = .ok (.ireturn, 1) := by decide +kernel
theorem dX11_traitor_0 : decode cX11_traitor 0 = .ok (.iload_n 1, 1) := by decide +kernel
theorem dX11_traitor_1 : decode cX11_traitor 1 = .ok (.iconst 1, 1) := by decide +kernel
theorem dX11_traitor_2 : decode cX11_traitor 2 = .ok (.bipush 60, 2) := by decide +kernel
theorem dX11_traitor_4 : decode cX11_traitor 4 = .ok (.invokestatic 47, 3) := by decide +kernel
theorem dX11_traitor_7 : decode cX11_traitor 7 = .ok (.ifCond .ne 10, 3) := by decide +kernel
theorem dX11_traitor_10 : decode cX11_traitor 10 = .ok (.aload_n 0, 1) := by decide +kernel
theorem dX11_traitor_11 : decode cX11_traitor 11 = .ok (.ldc 51, 2) := by decide +kernel
theorem dX11_traitor_13 : decode cX11_traitor 13 = .ok (.invokevirtual 52, 3) := by decide +kernel
theorem dX11_traitor_16 : decode cX11_traitor 16 = .ok (.ireturn, 1) := by decide +kernel
theorem dX11_traitor_17 : decode cX11_traitor 17 = .ok (.aload_n 0, 1) := by decide +kernel
theorem dX11_traitor_18 : decode cX11_traitor 18 = .ok (.getfield 16, 3) := by decide +kernel
theorem dX11_traitor_21 : decode cX11_traitor 21 = .ok (.aload_n 0, 1) := by decide +kernel
theorem dX11_traitor_22 : decode cX11_traitor 22 = .ok (.getfield 10, 3) := by decide +kernel
theorem dX11_traitor_25 : decode cX11_traitor 25 = .ok (.invokevirtual 170, 3) := by decide +kernel
theorem dX11_traitor_28 : decode cX11_traitor 28 = .ok (.aload_n 0, 1) := by decide +kernel
theorem dX11_traitor_29 : decode cX11_traitor 29 = .ok (.getfield 16, 3) := by decide +kernel
theorem dX11_traitor_32 : decode cX11_traitor 32 = .ok (.iload_n 1, 1) := by decide +kernel
theorem dX11_traitor_33 : decode cX11_traitor 33 = .ok (.invokevirtual 166, 3) := by decide +kernel
theorem dX11_traitor_36 : decode cX11_traitor 36 = .ok (.aload_n 0, 1) := by decide +kernel
theorem dX11_traitor_37 : decode cX11_traitor 37 = .ok (.getfield 16, 3) := by decide +kernel
theorem dX11_traitor_40 : decode cX11_traitor 40 = .ok (.getfield 63, 3) := by decide +kernel
theorem dX11_traitor_43 : decode cX11_traitor 43 = .ok (.istore_n 2, 1) := by decide +kernel
theorem dX11_traitor_44 : decode cX11_traitor 44 = .ok (.aload_n 0, 1) := by decide +kernel
theorem dX11_traitor_45 : decode cX11_traitor 45 = .ok (.getfield 25, 3) := by decide +kernel
theorem dX11_traitor_48 : decode cX11_traitor 48 = .ok (.invokevirtual 181, 3) := by decide +kernel
theorem dX11_traitor_51 : decode cX11_traitor 51 = .ok (.iconst 0, 1) := by decide +kernel
theorem dX11_traitor_52 : decode cX11_traitor 52 = .ok (.istore_n 3, 1) := by decide +kernel
theorem dX11_traitor_53 : decode cX11_traitor 53 = .ok (.iload_n 3, 1) := by decide +kernel
theorem dX11_traitor_54 : decode cX11_traitor 54 = .ok (.aload_n 0, 1) := by decide +kernel
theorem dX11_traitor_55 : decode cX11_traitor 55 = .ok (.getfield 10, 3) := by decide +kernel
theorem dX11_traitor_58 : decode cX11_traitor 58 = .ok (.getfield 100, 3) := by decide +kernel
theorem dX11_traitor_61 : decode cX11_traitor 61 = .ok (.if_icmp .ge 74, 3) := by decide +kernel
theorem dX11_traitor_64 : decode cX11_traitor 64 = .ok (.aload_n 0, 1) := by decide +kernel
theorem dX11_traitor_65 : decode cX11_traitor 65 = .ok (.getfield 16, 3) := by decide +kernel
theorem dX11_traitor_68 : decode cX11_traitor 68 = .ok (.aload_n 0, 1) := by decide +kernel
theorem dX11_traitor_69 : decode cX11_traitor 69 = .ok (.getfield 10, 3) := by decide +kernel
theorem dX11_traitor_72 : decode cX11_traitor 72 = .ok (.invokevirtual 170, 3) := by decide +kernel
theorem dX11_traitor_75 : decode cX11_traitor 75 = .ok (.aload_n 0, 1) := by decide +kernel
theorem dX11_traitor_76 : decode cX11_traitor 76 = .ok (.getfield 16, 3) := by decide +kernel
theorem dX11_traitor_79 : decode cX11_traitor 79 = .ok (.getfield 110, 3) := by decide +kernel
theorem dX11_traitor_82 : decode cX11_traitor 82 = .ok (.iload_n 3, 1) := by decide +kernel
theorem dX11_traitor_83 : decode cX11_traitor 83 = .ok (.aaload, 1) := by decide +kernel
theorem dX11_traitor_84 : decode cX11_traitor 84 = .ok (.iconst 1, 1) := by decide +kernel
theorem dX11_traitor_85 : decode cX11_traitor 85 = .ok (.aload_n 0, 1) := by decide +kernel
theorem dX11_traitor_86 : decode cX11_traitor 86 = .ok (.getfield 10, 3) := by decide +kernel
theorem dX11_traitor_89 : decode cX11_traitor 89 = .ok (.getfield 110, 3) := by decide +kernel
theorem dX11_traitor_92 : decode cX11_traitor 92 = .ok (.iload_n 3, 1) := by decide +kernel
theorem dX11_traitor_93 : decode cX11_traitor 93 = .ok (.aaload, 1) := by decide +kernel
theorem dX11_traitor_94 : decode cX11_traitor 94 = .ok (.getfield 125, 3) := by decide +kernel
theorem dX11_traitor_97 : decode cX11_traitor 97 = .ok (.isub, 1) := by decide +kernel
theorem dX11_traitor_98 : decode cX11_traitor 98 = .ok (.putfield 125, 3) := by decide +kernel
theorem dX11_traitor_101 : decode cX11_traitor 101 = .ok (.aload_n 0, 1) := by decide +kernel
theorem dX11_traitor_102 : decode cX11_traitor 102 = .ok (.getfield 16, 3) := by decide +kernel
theorem dX11_traitor_105 : decode cX11_traitor 105 = .ok (.iload_n 1, 1) := by decide +kernel
theorem dX11_traitor_106 : decode cX11_traitor 106 = .ok (.invokevirtual 166, 3) := by decide +kernel
theorem dX11_traitor_109 : decode cX11_traitor 109 = .ok (.aload_n 0, 1) := by decide +kernel
theorem dX11_traitor_110 : decode cX11_traitor 110 = .ok (.getfield 25, 3) := by decide +kernel
theorem dX11_traitor_113 : decode cX11_traitor 113 = .ok (.iload_n 3, 1) := by decide +kernel
theorem dX11_traitor_114 : decode cX11_traitor 114 = .ok (.aload_n 0, 1) := by decide +kernel
theorem dX11_traitor_115 : decode cX11_traitor 115 = .ok (.getfield 16, 3) := by decide +kernel
theorem dX11_traitor_118 : decode cX11_traitor 118 = .ok (.getfield 63, 3) := by decide +kernel
theorem dX11_traitor_121 : decode cX11_traitor 121 = .ok (.iload_n 2, 1) := by decide +kernel
theorem dX11_traitor_122 : decode cX11_traitor 122 = .ok (.isub, 1) := by decide +kernel
theorem dX11_traitor_123 : decode cX11_traitor 123 = .ok (.invokestatic 204, 3) := by decide +kernel
theorem dX11_traitor_126 : decode cX11_traitor 126 = .ok (.invokevirtual 184, 3) := by decide +kernel
theorem dX11_traitor_129 : decode cX11_traitor 129 = .ok (.iinc 3 1, 3) := by decide +kernel
theorem dX11_traitor_132 : decode cX11_traitor 132 = .ok (.goto (-79), 3) := by decide +kernel
theorem dX11_traitor_135 : decode cX11_traitor 135 = .ok (.aload_n 0, 1) := by decide +kernel
theorem dX11_traitor_136 : decode cX11_traitor 136 = .ok (.invokevirtual 187, 3) := by decide +kernel
theorem dX11_traitor_139 : decode cX11_traitor 139 = .ok (.ireturn, 1) := by decide +kernel
theorem dX11_feed_0 : decode cX11_feed 0 = .ok (.iload_n 2, 1) := by decide +kernel
theorem dX11_feed_1 : decode cX11_feed 1 = .ok (.iconst 1, 1) := by decide +kernel
theorem dX11_feed_2 : decode cX11_feed 2 = .ok (.iconst 4, 1) := by decide +kernel
theorem dX11_feed_3 : decode cX11_feed 3 = .ok (.invokestatic 47, 3) := by decide +kernel
theorem dX11_feed_6 : decode cX11_feed 6 = .ok (.ifCond .ne 10, 3) := by decide +kernel
theorem dX11_feed_9 : decode cX11_feed 9 = .ok (.aload_n 0, 1) := by decide +kernel
theorem dX11_feed_10 : decode cX11_feed 10 = .ok (.ldc 51, 2) := by decide +kernel
theorem dX11_feed_12 : decode cX11_feed 12 = .ok (.invokevirtual 52, 3) := by decide +kernel
theorem dX11_feed_15 : decode cX11_feed 15 = .ok (.ireturn, 1) := by decide +kernel
theorem dX11_feed_16 : decode cX11_feed 16 = .ok (.aload_n 0, 1) := by decide +kernel
theorem dX11_feed_17 : decode cX11_feed 17 = .ok (.getfield 32, 3) := by decide +kernel
theorem dX11_feed_20 : decode cX11_feed 20 = .ok (.getfield 209, 3) := by decide +kernel
theorem dX11_feed_23 : decode cX11_feed 23 = .ok (.iload_n 2, 1) := by decide +kernel
theorem dX11_feed_24 : decode cX11_feed 24 = .ok (.iadd, 1) := by decide +kernel
theorem dX11_feed_25 : decode cX11_feed 25 = .ok (.bipush 120, 2) := by decide +kernel
theorem dX11_feed_27 : decode cX11_feed 27 = .ok (.if_icmp .le 10, 3) := by decide +kernel
theorem dX11_feed_30 : decode cX11_feed 30 = .ok (.aload_n 0, 1) := by decide +kernel
theorem dX11_feed_31 : decode cX11_feed 31 = .ok (.ldc 99, 2) := by decide +kernel
theorem dX11_feed_33 : decode cX11_feed 33 = .ok (.invokevirtual 52, 3) := by decide +kernel
theorem dX11_feed_36 : decode cX11_feed 36 = .ok (.ireturn, 1) := by decide +kernel
theorem dX11_feed_37 : decode cX11_feed 37 = .ok (.iload_n 2, 1) := by decide +kernel
theorem dX11_feed_38 : decode cX11_feed 38 = .ok (.iconst 1, 1) := by decide +kernel
theorem dX11_feed_39 : decode cX11_feed 39 = .ok (.isub, 1) := by decide +kernel
theorem dX11_feed_40 : decode cX11_feed 40 = .ok (.istore_n 3, 1) := by decide +kernel
theorem dX11_feed_41 : decode cX11_feed 41 = .ok (.iload_n 3, 1) := by decide +kernel
theorem dX11_feed_42 : decode cX11_feed 42 = .ok (.ifCond .lt 26, 3) := by decide +kernel
theorem dX11_feed_45 : decode cX11_feed 45 = .ok (.aload_n 0, 1) := by decide +kernel
theorem dX11_feed_46 : decode cX11_feed 46 = .ok (.getfield 32, 3) := by decide +kernel
theorem dX11_feed_49 : decode cX11_feed 49 = .ok (.iload_n 1, 1) := by decide +kernel
theorem dX11_feed_50 : decode cX11_feed 50 = .ok (.bipush 8, 2) := by decide +kernel
theorem dX11_feed_52 : decode cX11_feed 52 = .ok (.iload_n 3, 1) := by decide +kernel
theorem dX11_feed_53 : decode cX11_feed 53 = .ok (.imul, 1) := by decide +kernel
theorem dX11_feed_54 : decode cX11_feed 54 = .ok (.iushr, 1) := by decide +kernel
theorem dX11_feed_55 : decode cX11_feed 55 = .ok (.sipush 255, 3) := by decide +kernel
theorem dX11_feed_58 : decode cX11_feed 58 = .ok (.iand, 1) := by decide +kernel
theorem dX11_feed_59 : decode cX11_feed 59 = .ok (.invokevirtual 210, 3) := by decide +kernel
theorem dX11_feed_62 : decode cX11_feed 62 = .ok (.iinc 3 (-1), 3) := by decide +kernel
theorem dX11_feed_65 : decode cX11_feed 65 = .ok (.goto (-24), 3) := by decide +kernel
theorem dX11_feed_68 : decode cX11_feed 68 = .ok (.aload_n 0, 1) := by decide +kernel
theorem dX11_feed_69 : decode cX11_feed 69 = .ok (.getfield 32, 3) := by decide +kernel
theorem dX11_feed_72 : decode cX11_feed 72 = .ok (.getfield 209, 3) := by decide +kernel
theorem dX11_feed_75 : decode cX11_feed 75 = .ok (.ireturn, 1) := by decide +kernel
theorem dX11_wipe_0 : decode cX11_wipe 0 = .ok (.aload_n 0, 1) := by decide +kernel
theorem dX11_wipe_1 : decode cX11_wipe 1 = .ok (.getfield 32, 3) := by decide +kernel
theorem dX11_wipe_4 : decode cX11_wipe 4 = .ok (.getfield 209, 3) := by decide +kernel
theorem dX11_wipe_7 : decode cX11_wipe 7 = .ok (.istore_n 1, 1) := by decide +kernel
theorem dX11_wipe_8 : decode cX11_wipe 8 = .ok (.aload_n 0, 1) := by decide +kernel
theorem dX11_wipe_9 : decode cX11_wipe 9 = .ok (.getfield 32, 3) := by decide +kernel
theorem dX11_wipe_12 : decode cX11_wipe 12 = .ok (.iconst 0, 1) := by decide +kernel
theorem dX11_wipe_13 : decode cX11_wipe 13 = .ok (.putfield 209, 3) := by decide +kernel
theorem dX11_wipe_16 : decode cX11_wipe 16 = .ok (.iload_n 1, 1) := by decide +kernel
theorem dX11_wipe_17 : decode cX11_wipe 17 = .ok (.ireturn, 1) := by decide +kernel
theorem dX11_green_0 : decode cX11_green 0 = .ok (.aload_n 0, 1) := by decide +kernel
theorem dX11_green_1 : decode cX11_green 1 = .ok (.getfield 16, 3) := by decide +kernel
theorem dX11_green_4 : decode cX11_green 4 = .ok (.aload_n 0, 1) := by decide +kernel
theorem dX11_green_5 : decode cX11_green 5 = .ok (.getfield 10, 3) := by decide +kernel
theorem dX11_green_8 : decode cX11_green 8 = .ok (.invokevirtual 170, 3) := by decide +kernel
theorem dX11_green_11 : decode cX11_green 11 = .ok (.aload_n 0, 1) := by decide +kernel
theorem dX11_green_12 : decode cX11_green 12 = .ok (.getfield 32, 3) := by decide +kernel
theorem dX11_green_15 : decode cX11_green 15 = .ok (.aload_n 0, 1) := by decide +kernel
theorem dX11_green_16 : decode cX11_green 16 = .ok (.getfield 16, 3) := by decide +kernel
theorem dX11_green_19 : decode cX11_green 19 = .ok (.invokevirtual 213, 3) := by decide +kernel
theorem dX11_green_22 : decode cX11_green 22 = .ok (.istore_n 1, 1) := by decide +kernel
theorem dX11_green_23 : decode cX11_green 23 = .ok (.aload_n 0, 1) := by decide +kernel
theorem dX11_green_24 : decode cX11_green 24 = .ok (.getfield 32, 3) := by decide +kernel
theorem dX11_green_27 : decode cX11_green 27 = .ok (.iconst 0, 1) := by decide +kernel
theorem dX11_green_28 : decode cX11_green 28 = .ok (.putfield 209, 3) := by decide +kernel
theorem dX11_green_31 : decode cX11_green 31 = .ok (.iload_n 1, 1) := by decide +kernel
theorem dX11_green_32 : decode cX11_green 32 = .ok (.ifCond .lt 14, 3) := by decide +kernel
theorem dX11_green_35 : decode cX11_green 35 = .ok (.aload_n 0, 1) := by decide +kernel
theorem dX11_green_36 : decode cX11_green 36 = .ok (.getfield 10, 3) := by decide +kernel
theorem dX11_green_39 : decode cX11_green 39 = .ok (.aload_n 0, 1) := by decide +kernel
theorem dX11_green_40 : decode cX11_green 40 = .ok (.getfield 16, 3) := by decide +kernel
theorem dX11_green_43 : decode cX11_green 43 = .ok (.invokevirtual 170, 3) := by decide +kernel
theorem dX11_green_46 : decode cX11_green 46 = .ok (.iload_n 1, 1) := by decide +kernel
theorem dX11_green_47 : decode cX11_green 47 = .ok (.ireturn, 1) := by decide +kernel
theorem dX11_sheet_0 : decode cX11_sheet 0 = .ok (.iload_n 2, 1) := by decide +kernel
theorem dX11_sheet_1 : decode cX11_sheet 1 = .ok (.ifCond .eq 21, 3) := by decide +kernel
theorem dX11_sheet_4 : decode cX11_sheet 4 = .ok (.iload_n 2, 1) := by decide +kernel
theorem dX11_sheet_5 : decode cX11_sheet 5 = .ok (.bipush 8, 2) := by decide +kernel
theorem dX11_sheet_7 : decode cX11_sheet 7 = .ok (.if_icmp .eq 15, 3) := by decide +kernel
theorem dX11_sheet_10 : decode cX11_sheet 10 = .ok (.iload_n 2, 1) := by decide +kernel
theorem dX11_sheet_11 : decode cX11_sheet 11 = .ok (.bipush 16, 2) := by decide +kernel
theorem dX11_sheet_13 : decode cX11_sheet 13 = .ok (.if_icmp .eq 9, 3) := by decide +kernel
theorem dX11_sheet_16 : decode cX11_sheet 16 = .ok (.iload_n 2, 1) := by decide +kernel
theorem dX11_sheet_17 : decode cX11_sheet 17 = .ok (.bipush 64, 2) := by decide +kernel
theorem dX11_sheet_19 : decode cX11_sheet 19 = .ok (.if_icmp .ne 7, 3) := by decide +kernel
theorem dX11_sheet_22 : decode cX11_sheet 22 = .ok (.iconst 1, 1) := by decide +kernel
theorem dX11_sheet_23 : decode cX11_sheet 23 = .ok (.goto 4, 3) := by decide +kernel
theorem dX11_sheet_26 : decode cX11_sheet 26 = .ok (.iconst 0, 1) := by decide +kernel
theorem dX11_sheet_27 : decode cX11_sheet 27 = .ok (.istore 4, 2) := by decide +kernel
theorem dX11_sheet_29 : decode cX11_sheet 29 = .ok (.iload_n 1, 1) := by decide +kernel
theorem dX11_sheet_30 : decode cX11_sheet 30 = .ok (.invokestatic 216, 3) := by decide +kernel
theorem dX11_sheet_33 : decode cX11_sheet 33 = .ok (.ifCond .eq 8, 3) := by decide +kernel
theorem dX11_sheet_36 : decode cX11_sheet 36 = .ok (.iload 4, 2) := by decide +kernel
theorem dX11_sheet_38 : decode cX11_sheet 38 = .ok (.ifCond .ne 10, 3) := by decide +kernel
theorem dX11_sheet_41 : decode cX11_sheet 41 = .ok (.aload_n 0, 1) := by decide +kernel
theorem dX11_sheet_42 : decode cX11_sheet 42 = .ok (.ldc 51, 2) := by decide +kernel
theorem dX11_sheet_44 : decode cX11_sheet 44 = .ok (.invokevirtual 52, 3) := by decide +kernel
theorem dX11_sheet_47 : decode cX11_sheet 47 = .ok (.ireturn, 1) := by decide +kernel
theorem dX11_sheet_48 : decode cX11_sheet 48 = .ok (.iload_n 3, 1) := by decide +kernel
theorem dX11_sheet_49 : decode cX11_sheet 49 = .ok (.ifCond .ge 10, 3) := by decide +kernel
theorem dX11_sheet_52 : decode cX11_sheet 52 = .ok (.aload_n 0, 1) := by decide +kernel
theorem dX11_sheet_53 : decode cX11_sheet 53 = .ok (.ldc 219, 2) := by decide +kernel
theorem dX11_sheet_55 : decode cX11_sheet 55 = .ok (.invokevirtual 52, 3) := by decide +kernel
theorem dX11_sheet_58 : decode cX11_sheet 58 = .ok (.ireturn, 1) := by decide +kernel
theorem dX11_sheet_59 : decode cX11_sheet 59 = .ok (.iload_n 3, 1) := by decide +kernel
theorem dX11_sheet_60 : decode cX11_sheet 60 = .ok (.bipush 40, 2) := by decide +kernel
theorem dX11_sheet_62 : decode cX11_sheet 62 = .ok (.if_icmp .le 10, 3) := by decide +kernel
theorem dX11_sheet_65 : decode cX11_sheet 65 = .ok (.aload_n 0, 1) := by decide +kernel
theorem dX11_sheet_66 : decode cX11_sheet 66 = .ok (.ldc 51, 2) := by decide +kernel
theorem dX11_sheet_68 : decode cX11_sheet 68 = .ok (.invokevirtual 52, 3) := by decide +kernel
theorem dX11_sheet_71 : decode cX11_sheet 71 = .ok (.ireturn, 1) := by decide +kernel
theorem dX11_sheet_72 : decode cX11_sheet 72 = .ok (.aload_n 0, 1) := by decide +kernel
theorem dX11_sheet_73 : decode cX11_sheet 73 = .ok (.getfield 38, 3) := by decide +kernel
theorem dX11_sheet_76 : decode cX11_sheet 76 = .ok (.iload_n 1, 1) := by decide +kernel
theorem dX11_sheet_77 : decode cX11_sheet 77 = .ok (.aaload, 1) := by decide +kernel
theorem dX11_sheet_78 : decode cX11_sheet 78 = .ok (.iload_n 2, 1) := by decide +kernel
theorem dX11_sheet_79 : decode cX11_sheet 79 = .ok (.iload_n 3, 1) := by decide +kernel
theorem dX11_sheet_80 : decode cX11_sheet 80 = .ok (.invokevirtual 220, 3) := by decide +kernel
theorem dX11_sheet_83 : decode cX11_sheet 83 = .ok (.aload_n 0, 1) := by decide +kernel
theorem dX11_sheet_84 : decode cX11_sheet 84 = .ok (.getfield 38, 3) := by decide +kernel
theorem dX11_sheet_87 : decode cX11_sheet 87 = .ok (.iload_n 1, 1) := by decide +kernel
theorem dX11_sheet_88 : decode cX11_sheet 88 = .ok (.aaload, 1) := by decide +kernel
theorem dX11_sheet_89 : decode cX11_sheet 89 = .ok (.getfield 223, 3) := by decide +kernel
theorem dX11_sheet_92 : decode cX11_sheet 92 = .ok (.ireturn, 1) := by decide +kernel
theorem dX11_write_0 : decode cX11_write 0 = .ok (.iload_n 1, 1) := by decide +kernel
theorem dX11_write_1 : decode cX11_write 1 = .ok (.invokestatic 216, 3) := by decide +kernel
theorem dX11_write_4 : decode cX11_write 4 = .ok (.ifCond .ne 11, 3) := by decide +kernel
theorem dX11_write_7 : decode cX11_write 7 = .ok (.aload_n 0, 1) := by decide +kernel
theorem dX11_write_8 : decode cX11_write 8 = .ok (.ldc 51, 2) := by decide +kernel
theorem dX11_write_10 : decode cX11_write 10 = .ok (.invokevirtual 52, 3) := by decide +kernel
theorem dX11_write_13 : decode cX11_write 13 = .ok (.i2l, 1) := by decide +kernel
theorem dX11_write_14 : decode cX11_write 14 = .ok (.lreturn, 1) := by decide +kernel
theorem dX11_write_15 : decode cX11_write 15 = .ok (.aload_n 0, 1) := by decide +kernel
theorem dX11_write_16 : decode cX11_write 16 = .ok (.getfield 38, 3) := by decide +kernel
theorem dX11_write_19 : decode cX11_write 19 = .ok (.iload_n 1, 1) := by decide +kernel
theorem dX11_write_20 : decode cX11_write 20 = .ok (.aaload, 1) := by decide +kernel
theorem dX11_write_21 : decode cX11_write 21 = .ok (.astore 5, 2) := by decide +kernel
theorem dX11_write_23 : decode cX11_write 23 = .ok (.aload 5, 2) := by decide +kernel
theorem dX11_write_25 : decode cX11_write 25 = .ok (.invokevirtual 224, 3) := by decide +kernel
theorem dX11_write_28 : decode cX11_write 28 = .ok (.ifCond .eq 11, 3) := by decide +kernel
theorem dX11_write_31 : decode cX11_write 31 = .ok (.aload_n 0, 1) := by decide +kernel
theorem dX11_write_32 : decode cX11_write 32 = .ok (.ldc 227, 2) := by decide +kernel
theorem dX11_write_34 : decode cX11_write 34 = .ok (.invokevirtual 52, 3) := by decide +kernel
theorem dX11_write_37 : decode cX11_write 37 = .ok (.i2l, 1) := by decide +kernel
theorem dX11_write_38 : decode cX11_write 38 = .ok (.lreturn, 1) := by decide +kernel
theorem dX11_write_39 : decode cX11_write 39 = .ok (.iload_n 2, 1) := by decide +kernel
theorem dX11_write_40 : decode cX11_write 40 = .ok (.ifCond .lt 12, 3) := by decide +kernel
theorem dX11_write_43 : decode cX11_write 43 = .ok (.iload_n 2, 1) := by decide +kernel
theorem dX11_write_44 : decode cX11_write 44 = .ok (.aload 5, 2) := by decide +kernel
theorem dX11_write_46 : decode cX11_write 46 = .ok (.getfield 223, 3) := by decide +kernel
theorem dX11_write_49 : decode cX11_write 49 = .ok (.if_icmp .lt 11, 3) := by decide +kernel
theorem dX11_write_52 : decode cX11_write 52 = .ok (.aload_n 0, 1) := by decide +kernel
theorem dX11_write_53 : decode cX11_write 53 = .ok (.ldc 51, 2) := by decide +kernel
theorem dX11_write_55 : decode cX11_write 55 = .ok (.invokevirtual 52, 3) := by decide +kernel
theorem dX11_write_58 : decode cX11_write 58 = .ok (.i2l, 1) := by decide +kernel
theorem dX11_write_59 : decode cX11_write 59 = .ok (.lreturn, 1) := by decide +kernel
theorem dX11_write_60 : decode cX11_write 60 = .ok (.aload 5, 2) := by decide +kernel
theorem dX11_write_62 : decode cX11_write 62 = .ok (.getfield 228, 3) := by decide +kernel
theorem dX11_write_65 : decode cX11_write 65 = .ok (.iload_n 2, 1) := by decide +kernel
theorem dX11_write_66 : decode cX11_write 66 = .ok (.laload, 1) := by decide +kernel
theorem dX11_write_67 : decode cX11_write 67 = .ok (.lstore 6, 2) := by decide +kernel
theorem dX11_write_69 : decode cX11_write 69 = .ok (.aload 5, 2) := by decide +kernel
theorem dX11_write_71 : decode cX11_write 71 = .ok (.iload_n 2, 1) := by decide +kernel
theorem dX11_write_72 : decode cX11_write 72 = .ok (.lload_n 3, 1) := by decide +kernel
theorem dX11_write_73 : decode cX11_write 73 = .ok (.invokevirtual 232, 3) := by decide +kernel
theorem dX11_write_76 : decode cX11_write 76 = .ok (.lload 6, 2) := by decide +kernel
theorem dX11_write_78 : decode cX11_write 78 = .ok (.lreturn, 1) := by decide +kernel
theorem dX11_copy_0 : decode cX11_copy 0 = .ok (.iload_n 1, 1) := by decide +kernel
theorem dX11_copy_1 : decode cX11_copy 1 = .ok (.invokestatic 216, 3) := by decide +kernel
theorem dX11_copy_4 : decode cX11_copy 4 = .ok (.ifCond .eq 10, 3) := by decide +kernel
theorem dX11_copy_7 : decode cX11_copy 7 = .ok (.iload_n 3, 1) := by decide +kernel
theorem dX11_copy_8 : decode cX11_copy 8 = .ok (.invokestatic 216, 3) := by decide +kernel
theorem dX11_copy_11 : decode cX11_copy 11 = .ok (.ifCond .ne 10, 3) := by decide +kernel
theorem dX11_copy_14 : decode cX11_copy 14 = .ok (.aload_n 0, 1) := by decide +kernel
theorem dX11_copy_15 : decode cX11_copy 15 = .ok (.ldc 51, 2) := by decide +kernel
theorem dX11_copy_17 : decode cX11_copy 17 = .ok (.invokevirtual 52, 3) := by decide +kernel
theorem dX11_copy_20 : decode cX11_copy 20 = .ok (.ireturn, 1) := by decide +kernel
theorem dX11_copy_21 : decode cX11_copy 21 = .ok (.aload_n 0, 1) := by decide +kernel
theorem dX11_copy_22 : decode cX11_copy 22 = .ok (.getfield 38, 3) := by decide +kernel
theorem dX11_copy_25 : decode cX11_copy 25 = .ok (.iload_n 1, 1) := by decide +kernel
theorem dX11_copy_26 : decode cX11_copy 26 = .ok (.aaload, 1) := by decide +kernel
theorem dX11_copy_27 : decode cX11_copy 27 = .ok (.astore 6, 2) := by decide +kernel
theorem dX11_copy_29 : decode cX11_copy 29 = .ok (.aload_n 0, 1) := by decide +kernel
theorem dX11_copy_30 : decode cX11_copy 30 = .ok (.getfield 38, 3) := by decide +kernel
theorem dX11_copy_33 : decode cX11_copy 33 = .ok (.iload_n 3, 1) := by decide +kernel
theorem dX11_copy_34 : decode cX11_copy 34 = .ok (.aaload, 1) := by decide +kernel
theorem dX11_copy_35 : decode cX11_copy 35 = .ok (.astore 7, 2) := by decide +kernel
theorem dX11_copy_37 : decode cX11_copy 37 = .ok (.aload 6, 2) := by decide +kernel
theorem dX11_copy_39 : decode cX11_copy 39 = .ok (.invokevirtual 224, 3) := by decide +kernel
theorem dX11_copy_42 : decode cX11_copy 42 = .ok (.ifCond .ne 11, 3) := by decide +kernel
theorem dX11_copy_45 : decode cX11_copy 45 = .ok (.aload 7, 2) := by decide +kernel
theorem dX11_copy_47 : decode cX11_copy 47 = .ok (.invokevirtual 224, 3) := by decide +kernel
theorem dX11_copy_50 : decode cX11_copy 50 = .ok (.ifCond .eq 10, 3) := by decide +kernel
theorem dX11_copy_53 : decode cX11_copy 53 = .ok (.aload_n 0, 1) := by decide +kernel
theorem dX11_copy_54 : decode cX11_copy 54 = .ok (.ldc 227, 2) := by decide +kernel
theorem dX11_copy_56 : decode cX11_copy 56 = .ok (.invokevirtual 52, 3) := by decide +kernel
theorem dX11_copy_59 : decode cX11_copy 59 = .ok (.ireturn, 1) := by decide +kernel
theorem dX11_copy_60 : decode cX11_copy 60 = .ok (.aload 6, 2) := by decide +kernel
theorem dX11_copy_62 : decode cX11_copy 62 = .ok (.getfield 236, 3) := by decide +kernel
theorem dX11_copy_65 : decode cX11_copy 65 = .ok (.aload 7, 2) := by decide +kernel
theorem dX11_copy_67 : decode cX11_copy 67 = .ok (.getfield 236, 3) := by decide +kernel
theorem dX11_copy_70 : decode cX11_copy 70 = .ok (.if_icmp .eq 10, 3) := by decide +kernel
theorem dX11_copy_73 : decode cX11_copy 73 = .ok (.aload_n 0, 1) := by decide +kernel
theorem dX11_copy_74 : decode cX11_copy 74 = .ok (.ldc 156, 2) := by decide +kernel
theorem dX11_copy_76 : decode cX11_copy 76 = .ok (.invokevirtual 52, 3) := by decide +kernel
theorem dX11_copy_79 : decode cX11_copy 79 = .ok (.ireturn, 1) := by decide +kernel
theorem dX11_copy_80 : decode cX11_copy 80 = .ok (.aload 6, 2) := by decide +kernel
theorem dX11_copy_82 : decode cX11_copy 82 = .ok (.iload_n 2, 1) := by decide +kernel
theorem dX11_copy_83 : decode cX11_copy 83 = .ok (.iload 5, 2) := by decide +kernel
theorem dX11_copy_85 : decode cX11_copy 85 = .ok (.invokevirtual 239, 3) := by decide +kernel
theorem dX11_copy_88 : decode cX11_copy 88 = .ok (.ifCond .eq 15, 3) := by decide +kernel
theorem dX11_copy_91 : decode cX11_copy 91 = .ok (.aload 7, 2) := by decide +kernel
theorem dX11_copy_93 : decode cX11_copy 93 = .ok (.iload 4, 2) := by decide +kernel
theorem dX11_copy_95 : decode cX11_copy 95 = .ok (.iload 5, 2) := by decide +kernel
theorem dX11_copy_97 : decode cX11_copy 97 = .ok (.invokevirtual 239, 3) := by decide +kernel
theorem dX11_copy_100 : decode cX11_copy 100 = .ok (.ifCond .ne 10, 3) := by decide +kernel
theorem dX11_copy_103 : decode cX11_copy 103 = .ok (.aload_n 0, 1) := by decide +kernel
theorem dX11_copy_104 : decode cX11_copy 104 = .ok (.ldc 51, 2) := by decide +kernel
theorem dX11_copy_106 : decode cX11_copy 106 = .ok (.invokevirtual 52, 3) := by decide +kernel
theorem dX11_copy_109 : decode cX11_copy 109 = .ok (.ireturn, 1) := by decide +kernel
theorem dX11_copy_110 : decode cX11_copy 110 = .ok (.aload 6, 2) := by decide +kernel
theorem dX11_copy_112 : decode cX11_copy 112 = .ok (.getfield 228, 3) := by decide +kernel
theorem dX11_copy_115 : decode cX11_copy 115 = .ok (.iload_n 2, 1) := by decide +kernel
theorem dX11_copy_116 : decode cX11_copy 116 = .ok (.aload 7, 2) := by decide +kernel
theorem dX11_copy_118 : decode cX11_copy 118 = .ok (.getfield 228, 3) := by decide +kernel
theorem dX11_copy_121 : decode cX11_copy 121 = .ok (.iload 4, 2) := by decide +kernel
theorem dX11_copy_123 : decode cX11_copy 123 = .ok (.iload 5, 2) := by decide +kernel
theorem dX11_copy_125 : decode cX11_copy 125 = .ok (.invokestatic 242, 3) := by decide +kernel
theorem dX11_copy_128 : decode cX11_copy 128 = .ok (.iload 5, 2) := by decide +kernel
theorem dX11_copy_130 : decode cX11_copy 130 = .ok (.ireturn, 1) := by decide +kernel
theorem dX11_lays_0 : decode cX11_lays 0 = .ok (.iload_n 1, 1) := by decide +kernel
theorem dX11_lays_1 : decode cX11_lays 1 = .ok (.invokestatic 216, 3) := by decide +kernel
theorem dX11_lays_4 : decode cX11_lays 4 = .ok (.ifCond .ne 10, 3) := by decide +kernel
theorem dX11_lays_7 : decode cX11_lays 7 = .ok (.aload_n 0, 1) := by decide +kernel
theorem dX11_lays_8 : decode cX11_lays 8 = .ok (.ldc 51, 2) := by decide +kernel
theorem dX11_lays_10 : decode cX11_lays 10 = .ok (.invokevirtual 52, 3) := by decide +kernel
theorem dX11_lays_13 : decode cX11_lays 13 = .ok (.ireturn, 1) := by decide +kernel
theorem dX11_lays_14 : decode cX11_lays 14 = .ok (.aload_n 0, 1) := by decide +kernel
theorem dX11_lays_15 : decode cX11_lays 15 = .ok (.getfield 38, 3) := by decide +kernel
theorem dX11_lays_18 : decode cX11_lays 18 = .ok (.iload_n 1, 1) := by decide +kernel
theorem dX11_lays_19 : decode cX11_lays 19 = .ok (.aaload, 1) := by decide +kernel
theorem dX11_lays_20 : decode cX11_lays 20 = .ok (.astore_n 2, 1) := by decide +kernel
theorem dX11_lays_21 : decode cX11_lays 21 = .ok (.aload_n 2, 1) := by decide +kernel
theorem dX11_lays_22 : decode cX11_lays 22 = .ok (.invokevirtual 224, 3) := by decide +kernel
theorem dX11_lays_25 : decode cX11_lays 25 = .ok (.ifCond .eq 10, 3) := by decide +kernel
theorem dX11_lays_28 : decode cX11_lays 28 = .ok (.aload_n 0, 1) := by decide +kernel
theorem dX11_lays_29 : decode cX11_lays 29 = .ok (.ldc 227, 2) := by decide +kernel
theorem dX11_lays_31 : decode cX11_lays 31 = .ok (.invokevirtual 52, 3) := by decide +kernel
theorem dX11_lays_34 : decode cX11_lays 34 = .ok (.ireturn, 1) := by decide +kernel
theorem dX11_lays_35 : decode cX11_lays 35 = .ok (.iconst 0, 1) := by decide +kernel
theorem dX11_lays_36 : decode cX11_lays 36 = .ok (.istore_n 3, 1) := by decide +kernel
theorem dX11_lays_37 : decode cX11_lays 37 = .ok (.iconst 0, 1) := by decide +kernel
theorem dX11_lays_38 : decode cX11_lays 38 = .ok (.istore 4, 2) := by decide +kernel
theorem dX11_lays_40 : decode cX11_lays 40 = .ok (.iload 4, 2) := by decide +kernel
theorem dX11_lays_42 : decode cX11_lays 42 = .ok (.aload_n 2, 1) := by decide +kernel
theorem dX11_lays_43 : decode cX11_lays 43 = .ok (.getfield 223, 3) := by decide +kernel
theorem dX11_lays_46 : decode cX11_lays 46 = .ok (.if_icmp .ge 65, 3) := by decide +kernel
theorem dX11_lays_49 : decode cX11_lays 49 = .ok (.iload 4, 2) := by decide +kernel
theorem dX11_lays_51 : decode cX11_lays 51 = .ok (.aload_n 0, 1) := by decide +kernel
theorem dX11_lays_52 : decode cX11_lays 52 = .ok (.getfield 10, 3) := by decide +kernel
theorem dX11_lays_55 : decode cX11_lays 55 = .ok (.getfield 100, 3) := by decide +kernel
theorem dX11_lays_58 : decode cX11_lays 58 = .ok (.if_icmp .ge 53, 3) := by decide +kernel
theorem dX11_lays_61 : decode cX11_lays 61 = .ok (.aload_n 2, 1) := by decide +kernel
theorem dX11_lays_62 : decode cX11_lays 62 = .ok (.getfield 228, 3) := by decide +kernel
theorem dX11_lays_65 : decode cX11_lays 65 = .ok (.iload 4, 2) := by decide +kernel
theorem dX11_lays_67 : decode cX11_lays 67 = .ok (.laload, 1) := by decide +kernel
theorem dX11_lays_68 : decode cX11_lays 68 = .ok (.lstore 5, 2) := by decide +kernel
theorem dX11_lays_70 : decode cX11_lays 70 = .ok (.lload 5, 2) := by decide +kernel
theorem dX11_lays_72 : decode cX11_lays 72 = .ok (.lconst 1, 1) := by decide +kernel
theorem dX11_lays_73 : decode cX11_lays 73 = .ok (.lcmp, 1) := by decide +kernel
theorem dX11_lays_74 : decode cX11_lays 74 = .ok (.ifCond .lt 31, 3) := by decide +kernel
theorem dX11_lays_77 : decode cX11_lays 77 = .ok (.lload 5, 2) := by decide +kernel
theorem dX11_lays_79 : decode cX11_lays 79 = .ok (.ldc2_w 248, 3) := by decide +kernel
theorem dX11_lays_82 : decode cX11_lays 82 = .ok (.lcmp, 1) := by decide +kernel
theorem dX11_lays_83 : decode cX11_lays 83 = .ok (.ifCond .gt 22, 3) := by decide +kernel
theorem dX11_lays_86 : decode cX11_lays 86 = .ok (.aload_n 0, 1) := by decide +kernel
theorem dX11_lays_87 : decode cX11_lays 87 = .ok (.getfield 10, 3) := by decide +kernel
theorem dX11_lays_90 : decode cX11_lays 90 = .ok (.getfield 110, 3) := by decide +kernel
theorem dX11_lays_93 : decode cX11_lays 93 = .ok (.iload 4, 2) := by decide +kernel
theorem dX11_lays_95 : decode cX11_lays 95 = .ok (.aaload, 1) := by decide +kernel
theorem dX11_lays_96 : decode cX11_lays 96 = .ok (.lload 5, 2) := by decide +kernel
theorem dX11_lays_98 : decode cX11_lays 98 = .ok (.l2i, 1) := by decide +kernel
theorem dX11_lays_99 : decode cX11_lays 99 = .ok (.putfield 134, 3) := by decide +kernel
theorem dX11_lays_102 : decode cX11_lays 102 = .ok (.iinc 3 1, 3) := by decide +kernel
theorem dX11_lays_105 : decode cX11_lays 105 = .ok (.iinc 4 1, 3) := by decide +kernel
theorem dX11_lays_108 : decode cX11_lays 108 = .ok (.goto (-68), 3) := by decide +kernel
theorem dX11_lays_111 : decode cX11_lays 111 = .ok (.iload_n 3, 1) := by decide +kernel
theorem dX11_lays_112 : decode cX11_lays 112 = .ok (.ireturn, 1) := by decide +kernel
theorem dX11_book_0 : decode cX11_book 0 = .ok (.iload_n 1, 1) := by decide +kernel
theorem dX11_book_1 : decode cX11_book 1 = .ok (.invokestatic 216, 3) := by decide +kernel
theorem dX11_book_4 : decode cX11_book 4 = .ok (.ifCond .ne 10, 3) := by decide +kernel
theorem dX11_book_7 : decode cX11_book 7 = .ok (.aload_n 0, 1) := by decide +kernel
theorem dX11_book_8 : decode cX11_book 8 = .ok (.ldc 51, 2) := by decide +kernel
theorem dX11_book_10 : decode cX11_book 10 = .ok (.invokevirtual 52, 3) := by decide +kernel
theorem dX11_book_13 : decode cX11_book 13 = .ok (.ireturn, 1) := by decide +kernel
theorem dX11_book_14 : decode cX11_book 14 = .ok (.aload_n 0, 1) := by decide +kernel
theorem dX11_book_15 : decode cX11_book 15 = .ok (.getfield 38, 3) := by decide +kernel
theorem dX11_book_18 : decode cX11_book 18 = .ok (.iload_n 1, 1) := by decide +kernel
theorem dX11_book_19 : decode cX11_book 19 = .ok (.aaload, 1) := by decide +kernel
theorem dX11_book_20 : decode cX11_book 20 = .ok (.astore_n 2, 1) := by decide +kernel
theorem dX11_book_21 : decode cX11_book 21 = .ok (.aload_n 2, 1) := by decide +kernel
theorem dX11_book_22 : decode cX11_book 22 = .ok (.invokevirtual 224, 3) := by decide +kernel
theorem dX11_book_25 : decode cX11_book 25 = .ok (.ifCond .eq 10, 3) := by decide +kernel
theorem dX11_book_28 : decode cX11_book 28 = .ok (.aload_n 0, 1) := by decide +kernel
theorem dX11_book_29 : decode cX11_book 29 = .ok (.ldc 227, 2) := by decide +kernel
theorem dX11_book_31 : decode cX11_book 31 = .ok (.invokevirtual 52, 3) := by decide +kernel
theorem dX11_book_34 : decode cX11_book 34 = .ok (.ireturn, 1) := by decide +kernel
theorem dX11_book_35 : decode cX11_book 35 = .ok (.aload_n 0, 1) := by decide +kernel
theorem dX11_book_36 : decode cX11_book 36 = .ok (.getfield 16, 3) := by decide +kernel
theorem dX11_book_39 : decode cX11_book 39 = .ok (.aload_n 0, 1) := by decide +kernel
theorem dX11_book_40 : decode cX11_book 40 = .ok (.getfield 10, 3) := by decide +kernel
theorem dX11_book_43 : decode cX11_book 43 = .ok (.invokevirtual 170, 3) := by decide +kernel
theorem dX11_book_46 : decode cX11_book 46 = .ok (.iconst 0, 1) := by decide +kernel
theorem dX11_book_47 : decode cX11_book 47 = .ok (.istore_n 3, 1) := by decide +kernel
theorem dX11_book_48 : decode cX11_book 48 = .ok (.iload_n 3, 1) := by decide +kernel
theorem dX11_book_49 : decode cX11_book 49 = .ok (.aload_n 2, 1) := by decide +kernel
theorem dX11_book_50 : decode cX11_book 50 = .ok (.getfield 223, 3) := by decide +kernel
theorem dX11_book_53 : decode cX11_book 53 = .ok (.if_icmp .ge 29, 3) := by decide +kernel
theorem dX11_book_56 : decode cX11_book 56 = .ok (.aload_n 2, 1) := by decide +kernel
theorem dX11_book_57 : decode cX11_book 57 = .ok (.iload_n 3, 1) := by decide +kernel
theorem dX11_book_58 : decode cX11_book 58 = .ok (.aload_n 0, 1) := by decide +kernel
theorem dX11_book_59 : decode cX11_book 59 = .ok (.getfield 16, 3) := by decide +kernel
theorem dX11_book_62 : decode cX11_book 62 = .ok (.getfield 63, 3) := by decide +kernel
theorem dX11_book_65 : decode cX11_book 65 = .ok (.i2l, 1) := by decide +kernel
theorem dX11_book_66 : decode cX11_book 66 = .ok (.invokevirtual 232, 3) := by decide +kernel
theorem dX11_book_69 : decode cX11_book 69 = .ok (.aload_n 0, 1) := by decide +kernel
theorem dX11_book_70 : decode cX11_book 70 = .ok (.getfield 16, 3) := by decide +kernel
theorem dX11_book_73 : decode cX11_book 73 = .ok (.invokevirtual 177, 3) := by decide +kernel
theorem dX11_book_76 : decode cX11_book 76 = .ok (.iinc 3 1, 3) := by decide +kernel
theorem dX11_book_79 : decode cX11_book 79 = .ok (.goto (-31), 3) := by decide +kernel
theorem dX11_book_82 : decode cX11_book 82 = .ok (.aload_n 2, 1) := by decide +kernel
theorem dX11_book_83 : decode cX11_book 83 = .ok (.getfield 223, 3) := by decide +kernel
theorem dX11_book_86 : decode cX11_book 86 = .ok (.ireturn, 1) := by decide +kernel
theorem dX11_read_0 : decode cX11_read 0 = .ok (.iload_n 1, 1) := by decide +kernel
theorem dX11_read_1 : decode cX11_read 1 = .ok (.invokestatic 216, 3) := by decide +kernel
theorem dX11_read_4 : decode cX11_read 4 = .ok (.ifCond .ne 10, 3) := by decide +kernel
theorem dX11_read_7 : decode cX11_read 7 = .ok (.aload_n 0, 1) := by decide +kernel
theorem dX11_read_8 : decode cX11_read 8 = .ok (.ldc 51, 2) := by decide +kernel
theorem dX11_read_10 : decode cX11_read 10 = .ok (.invokevirtual 52, 3) := by decide +kernel
theorem dX11_read_13 : decode cX11_read 13 = .ok (.ireturn, 1) := by decide +kernel
theorem dX11_read_14 : decode cX11_read 14 = .ok (.aload_n 0, 1) := by decide +kernel
theorem dX11_read_15 : decode cX11_read 15 = .ok (.getfield 38, 3) := by decide +kernel
theorem dX11_read_18 : decode cX11_read 18 = .ok (.iload_n 1, 1) := by decide +kernel
theorem dX11_read_19 : decode cX11_read 19 = .ok (.aaload, 1) := by decide +kernel
theorem dX11_read_20 : decode cX11_read 20 = .ok (.astore_n 3, 1) := by decide +kernel
theorem dX11_read_21 : decode cX11_read 21 = .ok (.aload_n 3, 1) := by decide +kernel
theorem dX11_read_22 : decode cX11_read 22 = .ok (.invokevirtual 224, 3) := by decide +kernel
theorem dX11_read_25 : decode cX11_read 25 = .ok (.ifCond .eq 10, 3) := by decide +kernel
theorem dX11_read_28 : decode cX11_read 28 = .ok (.aload_n 0, 1) := by decide +kernel
theorem dX11_read_29 : decode cX11_read 29 = .ok (.ldc 227, 2) := by decide +kernel
theorem dX11_read_31 : decode cX11_read 31 = .ok (.invokevirtual 52, 3) := by decide +kernel
theorem dX11_read_34 : decode cX11_read 34 = .ok (.ireturn, 1) := by decide +kernel
theorem dX11_read_35 : decode cX11_read 35 = .ok (.aload_n 0, 1) := by decide +kernel
theorem dX11_read_36 : decode cX11_read 36 = .ok (.getfield 10, 3) := by decide +kernel
theorem dX11_read_39 : decode cX11_read 39 = .ok (.iload_n 2, 1) := by decide +kernel
theorem dX11_read_40 : decode cX11_read 40 = .ok (.invokevirtual 107, 3) := by decide +kernel
theorem dX11_read_43 : decode cX11_read 43 = .ok (.ifCond .ne 10, 3) := by decide +kernel
theorem dX11_read_46 : decode cX11_read 46 = .ok (.aload_n 0, 1) := by decide +kernel
theorem dX11_read_47 : decode cX11_read 47 = .ok (.ldc 51, 2) := by decide +kernel
theorem dX11_read_49 : decode cX11_read 49 = .ok (.invokevirtual 52, 3) := by decide +kernel
theorem dX11_read_52 : decode cX11_read 52 = .ok (.ireturn, 1) := by decide +kernel
theorem dX11_read_53 : decode cX11_read 53 = .ok (.iconst 0, 1) := by decide +kernel
theorem dX11_read_54 : decode cX11_read 54 = .ok (.istore 4, 2) := by decide +kernel
theorem dX11_read_56 : decode cX11_read 56 = .ok (.iconst 0, 1) := by decide +kernel
theorem dX11_read_57 : decode cX11_read 57 = .ok (.istore 5, 2) := by decide +kernel
theorem dX11_read_59 : decode cX11_read 59 = .ok (.iload 5, 2) := by decide +kernel
theorem dX11_read_61 : decode cX11_read 61 = .ok (.bipush 6, 2) := by decide +kernel
theorem dX11_read_63 : decode cX11_read 63 = .ok (.if_icmp .ge 86, 3) := by decide +kernel
theorem dX11_read_66 : decode cX11_read 66 = .ok (.iconst 1, 1) := by decide +kernel
theorem dX11_read_67 : decode cX11_read 67 = .ok (.istore 6, 2) := by decide +kernel
theorem dX11_read_69 : decode cX11_read 69 = .ok (.iload 6, 2) := by decide +kernel
theorem dX11_read_71 : decode cX11_read 71 = .ok (.bipush 20, 2) := by decide +kernel
theorem dX11_read_73 : decode cX11_read 73 = .ok (.if_icmp .gt 70, 3) := by decide +kernel
theorem dX11_read_76 : decode cX11_read 76 = .ok (.aload_n 0, 1) := by decide +kernel
theorem dX11_read_77 : decode cX11_read 77 = .ok (.getfield 16, 3) := by decide +kernel
theorem dX11_read_80 : decode cX11_read 80 = .ok (.aload_n 0, 1) := by decide +kernel
theorem dX11_read_81 : decode cX11_read 81 = .ok (.getfield 10, 3) := by decide +kernel
theorem dX11_read_84 : decode cX11_read 84 = .ok (.invokevirtual 170, 3) := by decide +kernel
theorem dX11_read_87 : decode cX11_read 87 = .ok (.aload_n 0, 1) := by decide +kernel
theorem dX11_read_88 : decode cX11_read 88 = .ok (.getfield 16, 3) := by decide +kernel
theorem dX11_read_91 : decode cX11_read 91 = .ok (.getfield 110, 3) := by decide +kernel
theorem dX11_read_94 : decode cX11_read 94 = .ok (.iload_n 2, 1) := by decide +kernel
theorem dX11_read_95 : decode cX11_read 95 = .ok (.aaload, 1) := by decide +kernel
theorem dX11_read_96 : decode cX11_read 96 = .ok (.aload_n 0, 1) := by decide +kernel
theorem dX11_read_97 : decode cX11_read 97 = .ok (.getfield 16, 3) := by decide +kernel
theorem dX11_read_100 : decode cX11_read 100 = .ok (.getfield 149, 3) := by decide +kernel
theorem dX11_read_103 : decode cX11_read 103 = .ok (.iload 5, 2) := by decide +kernel
theorem dX11_read_105 : decode cX11_read 105 = .ok (.aaload, 1) := by decide +kernel
theorem dX11_read_106 : decode cX11_read 106 = .ok (.putfield 114, 3) := by decide +kernel
theorem dX11_read_109 : decode cX11_read 109 = .ok (.aload_n 0, 1) := by decide +kernel
theorem dX11_read_110 : decode cX11_read 110 = .ok (.getfield 16, 3) := by decide +kernel
theorem dX11_read_113 : decode cX11_read 113 = .ok (.getfield 110, 3) := by decide +kernel
theorem dX11_read_116 : decode cX11_read 116 = .ok (.iload_n 2, 1) := by decide +kernel
theorem dX11_read_117 : decode cX11_read 117 = .ok (.aaload, 1) := by decide +kernel
theorem dX11_read_118 : decode cX11_read 118 = .ok (.iload 6, 2) := by decide +kernel
theorem dX11_read_120 : decode cX11_read 120 = .ok (.putfield 134, 3) := by decide +kernel
theorem dX11_read_123 : decode cX11_read 123 = .ok (.aload_n 0, 1) := by decide +kernel
theorem dX11_read_124 : decode cX11_read 124 = .ok (.getfield 16, 3) := by decide +kernel
theorem dX11_read_127 : decode cX11_read 127 = .ok (.aload_n 3, 1) := by decide +kernel
theorem dX11_read_128 : decode cX11_read 128 = .ok (.invokevirtual 250, 3) := by decide +kernel
theorem dX11_read_131 : decode cX11_read 131 = .ok (.ifCond .eq 6, 3) := by decide +kernel
theorem dX11_read_134 : decode cX11_read 134 = .ok (.iinc 4 1, 3) := by decide +kernel
theorem dX11_read_137 : decode cX11_read 137 = .ok (.iinc 6 1, 3) := by decide +kernel
theorem dX11_read_140 : decode cX11_read 140 = .ok (.goto (-71), 3) := by decide +kernel
theorem dX11_read_143 : decode cX11_read 143 = .ok (.iinc 5 1, 3) := by decide +kernel
theorem dX11_read_146 : decode cX11_read 146 = .ok (.goto (-87), 3) := by decide +kernel
theorem dX11_read_149 : decode cX11_read 149 = .ok (.iload 4, 2) := by decide +kernel
theorem dX11_read_151 : decode cX11_read 151 = .ok (.ireturn, 1) := by decide +kernel
theorem dX11_image_0 : decode cX11_image 0 = .ok (.aload_n 0, 1) := by decide +kernel
theorem dX11_image_1 : decode cX11_image 1 = .ok (.getfield 19, 3) := by decide +kernel
theorem dX11_image_4 : decode cX11_image 4 = .ok (.aload_n 0, 1) := by decide +kernel
theorem dX11_image_5 : decode cX11_image 5 = .ok (.getfield 10, 3) := by decide +kernel
theorem dX11_image_8 : decode cX11_image 8 = .ok (.invokevirtual 170, 3) := by decide +kernel
theorem dX11_image_11 : decode cX11_image 11 = .ok (.aload_n 0, 1) := by decide +kernel
theorem dX11_image_12 : decode cX11_image 12 = .ok (.iconst 1, 1) := by decide +kernel
theorem dX11_image_13 : decode cX11_image 13 = .ok (.putfield 254, 3) := by decide +kernel
theorem dX11_image_16 : decode cX11_image 16 = .ok (.iconst 1, 1) := by decide +kernel
theorem dX11_image_17 : decode cX11_image 17 = .ok (.ireturn, 1) := by decide +kernel
theorem dX11_undo_0 : decode cX11_undo 0 = .ok (.aload_n 0, 1) := by decide +kernel
theorem dX11_undo_1 : decode cX11_undo 1 = .ok (.getfield 254, 3) := by decide +kernel
theorem dX11_undo_4 : decode cX11_undo 4 = .ok (.ifCond .ne 10, 3) := by decide +kernel
theorem dX11_undo_7 : decode cX11_undo 7 = .ok (.aload_n 0, 1) := by decide +kernel
theorem dX11_undo_8 : decode cX11_undo 8 = .ok (.ldc 180, 2) := by decide +kernel
theorem dX11_undo_10 : decode cX11_undo 10 = .ok (.invokevirtual 52, 3) := by decide +kernel
theorem dX11_undo_13 : decode cX11_undo 13 = .ok (.ireturn, 1) := by decide +kernel
theorem dX11_undo_14 : decode cX11_undo 14 = .ok (.aload_n 0, 1) := by decide +kernel
theorem dX11_undo_15 : decode cX11_undo 15 = .ok (.getfield 10, 3) := by decide +kernel
theorem dX11_undo_18 : decode cX11_undo 18 = .ok (.aload_n 0, 1) := by decide +kernel
theorem dX11_undo_19 : decode cX11_undo 19 = .ok (.getfield 19, 3) := by decide +kernel
theorem dX11_undo_22 : decode cX11_undo 22 = .ok (.invokevirtual 170, 3) := by decide +kernel
theorem dX11_undo_25 : decode cX11_undo 25 = .ok (.aload_n 0, 1) := by decide +kernel
theorem dX11_undo_26 : decode cX11_undo 26 = .ok (.getfield 10, 3) := by decide +kernel
theorem dX11_undo_29 : decode cX11_undo 29 = .ok (.getfield 100, 3) := by decide +kernel
theorem dX11_undo_32 : decode cX11_undo 32 = .ok (.ireturn, 1) := by decide +kernel
theorem dX11_tear_0 : decode cX11_tear 0 = .ok (.aload_n 0, 1) := by decide +kernel
theorem dX11_tear_1 : decode cX11_tear 1 = .ok (.getfield 254, 3) := by decide +kernel
theorem dX11_tear_4 : decode cX11_tear 4 = .ok (.ifCond .eq 7, 3) := by decide +kernel
theorem dX11_tear_7 : decode cX11_tear 7 = .ok (.iconst 1, 1) := by decide +kernel
theorem dX11_tear_8 : decode cX11_tear 8 = .ok (.goto 4, 3) := by decide +kernel
theorem dX11_tear_11 : decode cX11_tear 11 = .ok (.iconst 0, 1) := by decide +kernel
theorem dX11_tear_12 : decode cX11_tear 12 = .ok (.istore_n 1, 1) := by decide +kernel
theorem dX11_tear_13 : decode cX11_tear 13 = .ok (.aload_n 0, 1) := by decide +kernel
theorem dX11_tear_14 : decode cX11_tear 14 = .ok (.iconst 0, 1) := by decide +kernel
theorem dX11_tear_15 : decode cX11_tear 15 = .ok (.putfield 254, 3) := by decide +kernel
theorem dX11_tear_18 : decode cX11_tear 18 = .ok (.iload_n 1, 1) := by decide +kernel
theorem dX11_tear_19 : decode cX11_tear 19 = .ok (.ireturn, 1) := by decide +kernel
theorem dX11_count_0 : decode cX11_count 0 = .ok (.iload_n 1, 1) := by decide +kernel
theorem dX11_count_1 : decode cX11_count 1 = .ok (.tableswitch 64 0 3 #[31, 39, 47, 56], 31) := by decide +kernel
theorem dX11_count_32 : decode cX11_count 32 = .ok (.aload_n 0, 1) := by decide +kernel
theorem dX11_count_33 : decode cX11_count 33 = .ok (.getfield 10, 3) := by decide +kernel
theorem dX11_count_36 : decode cX11_count 36 = .ok (.getfield 100, 3) := by decide +kernel
theorem dX11_count_39 : decode cX11_count 39 = .ok (.ireturn, 1) := by decide +kernel
theorem dX11_count_40 : decode cX11_count 40 = .ok (.aload_n 0, 1) := by decide +kernel
theorem dX11_count_41 : decode cX11_count 41 = .ok (.getfield 32, 3) := by decide +kernel
theorem dX11_count_44 : decode cX11_count 44 = .ok (.getfield 209, 3) := by decide +kernel
theorem dX11_count_47 : decode cX11_count 47 = .ok (.ireturn, 1) := by decide +kernel
theorem dX11_count_48 : decode cX11_count 48 = .ok (.aload_n 0, 1) := by decide +kernel
theorem dX11_count_49 : decode cX11_count 49 = .ok (.getfield 10, 3) := by decide +kernel
theorem dX11_count_52 : decode cX11_count 52 = .ok (.iconst 0, 1) := by decide +kernel
theorem dX11_count_53 : decode cX11_count 53 = .ok (.invokevirtual 258, 3) := by decide +kernel
theorem dX11_count_56 : decode cX11_count 56 = .ok (.ireturn, 1) := by decide +kernel
theorem dX11_count_57 : decode cX11_count 57 = .ok (.aload_n 0, 1) := by decide +kernel
theorem dX11_count_58 : decode cX11_count 58 = .ok (.getfield 10, 3) := by decide +kernel
theorem dX11_count_61 : decode cX11_count 61 = .ok (.invokevirtual 261, 3) := by decide +kernel
theorem dX11_count_64 : decode cX11_count 64 = .ok (.ireturn, 1) := by decide +kernel
theorem dX11_count_65 : decode cX11_count 65 = .ok (.aload_n 0, 1) := by decide +kernel
theorem dX11_count_66 : decode cX11_count 66 = .ok (.ldc 51, 2) := by decide +kernel
theorem dX11_count_68 : decode cX11_count 68 = .ok (.invokevirtual 52, 3) := by decide +kernel
theorem dX11_count_71 : decode cX11_count 71 = .ok (.ireturn, 1) := by decide +kernel
theorem dX11_status_0 : decode cX11_status 0 = .ok (.iload_n 1, 1) := by decide +kernel
theorem dX11_status_1 : decode cX11_status 1 = .ok (.iconst (-1), 1) := by decide +kernel
theorem dX11_status_2 : decode cX11_status 2 = .ok (.bipush 6, 2) := by decide +kernel
theorem dX11_status_4 : decode cX11_status 4 = .ok (.invokestatic 47, 3) := by decide +kernel
theorem dX11_status_7 : decode cX11_status 7 = .ok (.ifCond .ne 10, 3) := by decide +kernel
theorem dX11_status_10 : decode cX11_status 10 = .ok (.aload_n 0, 1) := by decide +kernel
theorem dX11_status_11 : decode cX11_status 11 = .ok (.ldc 51, 2) := by decide +kernel
theorem dX11_status_13 : decode cX11_status 13 = .ok (.invokevirtual 52, 3) := by decide +kernel
theorem dX11_status_16 : decode cX11_status 16 = .ok (.ireturn, 1) := by decide +kernel
theorem dX11_status_17 : decode cX11_status 17 = .ok (.iload_n 1, 1) := by decide +kernel
theorem dX11_status_18 : decode cX11_status 18 = .ok (.ifCond .lt 10, 3) := by decide +kernel
theorem dX11_status_21 : decode cX11_status 21 = .ok (.aload_n 0, 1) := by decide +kernel
theorem dX11_status_22 : decode cX11_status 22 = .ok (.getfield 42, 3) := by decide +kernel
theorem dX11_status_25 : decode cX11_status 25 = .ok (.iload_n 1, 1) := by decide +kernel
theorem dX11_status_26 : decode cX11_status 26 = .ok (.iaload, 1) := by decide +kernel
theorem dX11_status_27 : decode cX11_status 27 = .ok (.ireturn, 1) := by decide +kernel
theorem dX11_status_28 : decode cX11_status 28 = .ok (.iconst 0, 1) := by decide +kernel
theorem dX11_status_29 : decode cX11_status 29 = .ok (.istore_n 2, 1) := by decide +kernel
theorem dX11_status_30 : decode cX11_status 30 = .ok (.iconst 0, 1) := by decide +kernel
theorem dX11_status_31 : decode cX11_status 31 = .ok (.istore_n 3, 1) := by decide +kernel
theorem dX11_status_32 : decode cX11_status 32 = .ok (.iload_n 3, 1) := by decide +kernel
theorem dX11_status_33 : decode cX11_status 33 = .ok (.bipush 7, 2) := by decide +kernel
theorem dX11_status_35 : decode cX11_status 35 = .ok (.if_icmp .ge 18, 3) := by decide +kernel
theorem dX11_status_38 : decode cX11_status 38 = .ok (.iload_n 2, 1) := by decide +kernel
theorem dX11_status_39 : decode cX11_status 39 = .ok (.aload_n 0, 1) := by decide +kernel
theorem dX11_status_40 : decode cX11_status 40 = .ok (.getfield 42, 3) := by decide +kernel
theorem dX11_status_43 : decode cX11_status 43 = .ok (.iload_n 3, 1) := by decide +kernel
theorem dX11_status_44 : decode cX11_status 44 = .ok (.iaload, 1) := by decide +kernel
theorem dX11_status_45 : decode cX11_status 45 = .ok (.iadd, 1) := by decide +kernel
theorem dX11_status_46 : decode cX11_status 46 = .ok (.istore_n 2, 1) := by decide +kernel
theorem dX11_status_47 : decode cX11_status 47 = .ok (.iinc 3 1, 3) := by decide +kernel
theorem dX11_status_50 : decode cX11_status 50 = .ok (.goto (-18), 3) := by decide +kernel
theorem dX11_status_53 : decode cX11_status 53 = .ok (.iload_n 2, 1) := by decide +kernel
theorem dX11_status_54 : decode cX11_status 54 = .ok (.ireturn, 1) := by decide +kernel
theorem dX11_finding_0 : decode cX11_finding 0 = .ok (.ldc 51, 2) := by decide +kernel
theorem dX11_finding_2 : decode cX11_finding 2 = .ok (.iload_n 1, 1) := by decide +kernel
theorem dX11_finding_3 : decode cX11_finding 3 = .ok (.isub, 1) := by decide +kernel
theorem dX11_finding_4 : decode cX11_finding 4 = .ok (.istore_n 2, 1) := by decide +kernel
theorem dX11_finding_5 : decode cX11_finding 5 = .ok (.iload_n 2, 1) := by decide +kernel
theorem dX11_finding_6 : decode cX11_finding 6 = .ok (.ifCond .lt 19, 3) := by decide +kernel
theorem dX11_finding_9 : decode cX11_finding 9 = .ok (.iload_n 2, 1) := by decide +kernel
theorem dX11_finding_10 : decode cX11_finding 10 = .ok (.bipush 7, 2) := by decide +kernel
theorem dX11_finding_12 : decode cX11_finding 12 = .ok (.if_icmp .ge 13, 3) := by decide +kernel
theorem dX11_finding_15 : decode cX11_finding 15 = .ok (.aload_n 0, 1) := by decide +kernel
theorem dX11_finding_16 : decode cX11_finding 16 = .ok (.getfield 42, 3) := by decide +kernel
theorem dX11_finding_19 : decode cX11_finding 19 = .ok (.iload_n 2, 1) := by decide +kernel
theorem dX11_finding_20 : decode cX11_finding 20 = .ok (.dup2, 1) := by decide +kernel
theorem dX11_finding_21 : decode cX11_finding 21 = .ok (.iaload, 1) := by decide +kernel
theorem dX11_finding_22 : decode cX11_finding 22 = .ok (.iconst 1, 1) := by decide +kernel
theorem dX11_finding_23 : decode cX11_finding 23 = .ok (.iadd, 1) := by decide +kernel
theorem dX11_finding_24 : decode cX11_finding 24 = .ok (.iastore, 1) := by decide +kernel
theorem dX11_finding_25 : decode cX11_finding 25 = .ok (.iload_n 1, 1) := by decide +kernel
theorem dX11_finding_26 : decode cX11_finding 26 = .ok (.ireturn, 1) := by decide +kernel
theorem dX11_bestOrNone_0 : decode cX11_bestOrNone 0 = .ok (.aload_n 0, 1) := by decide +kernel
theorem dX11_bestOrNone_1 : decode cX11_bestOrNone 1 = .ok (.getfield 25, 3) := by decide +kernel
theorem dX11_bestOrNone_4 : decode cX11_bestOrNone 4 = .ok (.getfield 264, 3) := by decide +kernel
theorem dX11_bestOrNone_7 : decode cX11_bestOrNone 7 = .ok (.ifCond .eq 13, 3) := by decide +kernel
theorem dX11_bestOrNone_10 : decode cX11_bestOrNone 10 = .ok (.aload_n 0, 1) := by decide +kernel
theorem dX11_bestOrNone_11 : decode cX11_bestOrNone 11 = .ok (.getfield 25, 3) := by decide +kernel
theorem dX11_bestOrNone_14 : decode cX11_bestOrNone 14 = .ok (.getfield 190, 3) := by decide +kernel
theorem dX11_bestOrNone_17 : decode cX11_bestOrNone 17 = .ok (.goto 9, 3) := by decide +kernel
theorem dX11_bestOrNone_20 : decode cX11_bestOrNone 20 = .ok (.aload_n 0, 1) := by decide +kernel
theorem dX11_bestOrNone_21 : decode cX11_bestOrNone 21 = .ok (.ldc 180, 2) := by decide +kernel
theorem dX11_bestOrNone_23 : decode cX11_bestOrNone 23 = .ok (.invokevirtual 52, 3) := by decide +kernel
theorem dX11_bestOrNone_26 : decode cX11_bestOrNone 26 = .ok (.ireturn, 1) := by decide +kernel
theorem dX11_isWithin_0 : decode cX11_isWithin 0 = .ok (.iload_n 0, 1) := by decide +kernel
theorem dX11_isWithin_1 : decode cX11_isWithin 1 = .ok (.iload_n 1, 1) := by decide +kernel
theorem dX11_isWithin_2 : decode cX11_isWithin 2 = .ok (.if_icmp .lt 12, 3) := by decide +kernel
theorem dX11_isWithin_5 : decode cX11_isWithin 5 = .ok (.iload_n 0, 1) := by decide +kernel
theorem dX11_isWithin_6 : decode cX11_isWithin 6 = .ok (.iload_n 2, 1) := by decide +kernel
theorem dX11_isWithin_7 : decode cX11_isWithin 7 = .ok (.if_icmp .gt 7, 3) := by decide +kernel
theorem dX11_isWithin_10 : decode cX11_isWithin 10 = .ok (.iconst 1, 1) := by decide +kernel
theorem dX11_isWithin_11 : decode cX11_isWithin 11 = .ok (.goto 4, 3) := by decide +kernel
theorem dX11_isWithin_14 : decode cX11_isWithin 14 = .ok (.iconst 0, 1) := by decide +kernel
theorem dX11_isWithin_15 : decode cX11_isWithin 15 = .ok (.ireturn, 1) := by decide +kernel
theorem dX11_isKind_0 : decode cX11_isKind 0 = .ok (.iload_n 0, 1) := by decide +kernel
theorem dX11_isKind_1 : decode cX11_isKind 1 = .ok (.iconst 0, 1) := by decide +kernel
theorem dX11_isKind_2 : decode cX11_isKind 2 = .ok (.iconst 5, 1) := by decide +kernel
theorem dX11_isKind_3 : decode cX11_isKind 3 = .ok (.invokestatic 47, 3) := by decide +kernel
theorem dX11_isKind_6 : decode cX11_isKind 6 = .ok (.ireturn, 1) := by decide +kernel
theorem dX11_isSide_0 : decode cX11_isSide 0 = .ok (.iload_n 0, 1) := by decide +kernel
theorem dX11_isSide_1 : decode cX11_isSide 1 = .ok (.ifCond .eq 8, 3) := by decide +kernel
theorem dX11_isSide_4 : decode cX11_isSide 4 = .ok (.iload_n 0, 1) := by decide +kernel
theorem dX11_isSide_5 : decode cX11_isSide 5 = .ok (.iconst 1, 1) := by decide +kernel
theorem dX11_isSide_6 : decode cX11_isSide 6 = .ok (.if_icmp .ne 7, 3) := by decide +kernel
theorem dX11_isSide_9 : decode cX11_isSide 9 = .ok (.iconst 1, 1) := by decide +kernel
theorem dX11_isSide_10 : decode cX11_isSide 10 = .ok (.goto 4, 3) := by decide +kernel
theorem dX11_isSide_13 : decode cX11_isSide 13 = .ok (.iconst 0, 1) := by decide +kernel
theorem dX11_isSide_14 : decode cX11_isSide 14 = .ok (.ireturn, 1) := by decide +kernel
theorem dX11_isSheet_0 : decode cX11_isSheet 0 = .ok (.iload_n 0, 1) := by decide +kernel
theorem dX11_isSheet_1 : decode cX11_isSheet 1 = .ok (.iconst 0, 1) := by decide +kernel
theorem dX11_isSheet_2 : decode cX11_isSheet 2 = .ok (.iconst 3, 1) := by decide +kernel
theorem dX11_isSheet_3 : decode cX11_isSheet 3 = .ok (.invokestatic 47, 3) := by decide +kernel
theorem dX11_isSheet_6 : decode cX11_isSheet 6 = .ok (.ireturn, 1) := by decide +kernel
