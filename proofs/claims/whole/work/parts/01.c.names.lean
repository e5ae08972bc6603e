theorem dX4_look_72 : decode cX4_look 72 = .ok (.iload_n 2, 1) := by decide +kernel
theorem dX4_look_73 : decode cX4_look 73 = .ok (.invokevirtual 51, 3) := by decide +kernel
theorem dX4_look_76 : decode cX4_look 76 = .ok (.istore 6, 2) := by decide +kernel
theorem dX4_look_78 : decode cX4_look 78 = .ok (.iload 6, 2) := by decide +kernel
theorem dX4_look_80 : decode cX4_look 80 = .ok (.bipush (-2), 2) := by decide +kernel
theorem dX4_look_82 : decode cX4_look 82 = .ok (.if_icmp .eq 6, 3) := by decide +kernel
theorem dX4_look_85 : decode cX4_look 85 = .ok (.iload 6, 2) := by decide +kernel
theorem dX4_look_87 : decode cX4_look 87 = .ok (.ireturn, 1) := by decide +kernel
theorem dX4_look_88 : decode cX4_look 88 = .ok (.aload_n 0, 1) := by decide +kernel
theorem dX4_look_89 : decode cX4_look 89 = .ok (.iload 4, 2) := by decide +kernel
theorem dX4_look_91 : decode cX4_look 91 = .ok (.iload_n 2, 1) := by decide +kernel
theorem dX4_look_92 : decode cX4_look 92 = .ok (.invokevirtual 55, 3) := by decide +kernel
theorem dX4_look_95 : decode cX4_look 95 = .ok (.istore 4, 2) := by decide +kernel
theorem dX4_look_97 : decode cX4_look 97 = .ok (.iinc 5 1, 3) := by decide +kernel
theorem dX4_look_100 : decode cX4_look 100 = .ok (.goto (-45), 3) := by decide +kernel
theorem dX4_look_103 : decode cX4_look 103 = .ok (.bipush (-2), 2) := by decide +kernel
theorem dX4_look_105 : decode cX4_look 105 = .ok (.ireturn, 1) := by decide +kernel
theorem dX4_follow_0 : decode cX4_follow 0 = .ok (.aload_n 0, 1) := by decide +kernel
theorem dX4_follow_1 : decode cX4_follow 1 = .ok (.getfield 31, 3) := by decide +kernel
theorem dX4_follow_4 : decode cX4_follow 4 = .ok (.iload_n 1, 1) := by decide +kernel
theorem dX4_follow_5 : decode cX4_follow 5 = .ok (.iload_n 2, 1) := by decide +kernel
theorem dX4_follow_6 : decode cX4_follow 6 = .ok (.invokevirtual 58, 3) := by decide +kernel
theorem dX4_follow_9 : decode cX4_follow 9 = .ok (.aload_n 0, 1) := by decide +kernel
theorem dX4_follow_10 : decode cX4_follow 10 = .ok (.getfield 31, 3) := by decide +kernel
theorem dX4_follow_13 : decode cX4_follow 13 = .ok (.iload_n 1, 1) := by decide +kernel
theorem dX4_follow_14 : decode cX4_follow 14 = .ok (.invokevirtual 61, 3) := by decide +kernel
theorem dX4_follow_17 : decode cX4_follow 17 = .ok (.istore 4, 2) := by decide +kernel
theorem dX4_follow_19 : decode cX4_follow 19 = .ok (.iload_n 2, 1) := by decide +kernel
theorem dX4_follow_20 : decode cX4_follow 20 = .ok (.invokestatic 65, 3) := by decide +kernel
theorem dX4_follow_23 : decode cX4_follow 23 = .ok (.istore 5, 2) := by decide +kernel
theorem dX4_follow_25 : decode cX4_follow 25 = .ok (.iload_n 2, 1) := by decide +kernel
theorem dX4_follow_26 : decode cX4_follow 26 = .ok (.invokestatic 68, 3) := by decide +kernel
theorem dX4_follow_29 : decode cX4_follow 29 = .ok (.istore 6, 2) := by decide +kernel
theorem dX4_follow_31 : decode cX4_follow 31 = .ok (.iload 5, 2) := by decide +kernel
theorem dX4_follow_33 : decode cX4_follow 33 = .ok (.invokestatic 71, 3) := by decide +kernel
theorem dX4_follow_36 : decode cX4_follow 36 = .ok (.istore 7, 2) := by decide +kernel
theorem dX4_follow_38 : decode cX4_follow 38 = .ok (.iconst 1, 1) := by decide +kernel
theorem dX4_follow_39 : decode cX4_follow 39 = .ok (.istore 8, 2) := by decide +kernel
theorem dX4_follow_41 : decode cX4_follow 41 = .ok (.iload 8, 2) := by decide +kernel
theorem dX4_follow_43 : decode cX4_follow 43 = .ok (.iload 7, 2) := by decide +kernel
theorem dX4_follow_45 : decode cX4_follow 45 = .ok (.if_icmp .gt 116, 3) := by decide +kernel
theorem dX4_follow_48 : decode cX4_follow 48 = .ok (.aload_n 0, 1) := by decide +kernel
theorem dX4_follow_49 : decode cX4_follow 49 = .ok (.getfield 14, 3) := by decide +kernel
theorem dX4_follow_52 : decode cX4_follow 52 = .ok (.iload_n 3, 1) := by decide +kernel
theorem dX4_follow_53 : decode cX4_follow 53 = .ok (.iload_n 3, 1) := by decide +kernel
theorem dX4_follow_54 : decode cX4_follow 54 = .ok (.iconst 1, 1) := by decide +kernel
theorem dX4_follow_55 : decode cX4_follow 55 = .ok (.iadd, 1) := by decide +kernel
theorem dX4_follow_56 : decode cX4_follow 56 = .ok (.invokevirtual 74, 3) := by decide +kernel
theorem dX4_follow_59 : decode cX4_follow 59 = .ok (.aload_n 0, 1) := by decide +kernel
theorem dX4_follow_60 : decode cX4_follow 60 = .ok (.getfield 14, 3) := by decide +kernel
theorem dX4_follow_63 : decode cX4_follow 63 = .ok (.iload_n 3, 1) := by decide +kernel
theorem dX4_follow_64 : decode cX4_follow 64 = .ok (.iconst 1, 1) := by decide +kernel
theorem dX4_follow_65 : decode cX4_follow 65 = .ok (.iadd, 1) := by decide +kernel
theorem dX4_follow_66 : decode cX4_follow 66 = .ok (.iload 6, 2) := by decide +kernel
theorem dX4_follow_68 : decode cX4_follow 68 = .ok (.invokevirtual 77, 3) := by decide +kernel
theorem dX4_follow_71 : decode cX4_follow 71 = .ok (.aload_n 0, 1) := by decide +kernel
theorem dX4_follow_72 : decode cX4_follow 72 = .ok (.iload 5, 2) := by decide +kernel
theorem dX4_follow_74 : decode cX4_follow 74 = .ok (.iload 8, 2) := by decide +kernel
theorem dX4_follow_76 : decode cX4_follow 76 = .ok (.iload 6, 2) := by decide +kernel
theorem dX4_follow_78 : decode cX4_follow 78 = .ok (.iload_n 3, 1) := by decide +kernel
theorem dX4_follow_79 : decode cX4_follow 79 = .ok (.iconst 1, 1) := by decide +kernel
theorem dX4_follow_80 : decode cX4_follow 80 = .ok (.iadd, 1) := by decide +kernel
theorem dX4_follow_81 : decode cX4_follow 81 = .ok (.invokevirtual 80, 3) := by decide +kernel
theorem dX4_follow_84 : decode cX4_follow 84 = .ok (.ifCond .ne 6, 3) := by decide +kernel
theorem dX4_follow_87 : decode cX4_follow 87 = .ok (.bipush (-3), 2) := by decide +kernel
theorem dX4_follow_89 : decode cX4_follow 89 = .ok (.ireturn, 1) := by decide +kernel
theorem dX4_follow_90 : decode cX4_follow 90 = .ok (.aload_n 0, 1) := by decide +kernel
theorem dX4_follow_91 : decode cX4_follow 91 = .ok (.iload 5, 2) := by decide +kernel
theorem dX4_follow_93 : decode cX4_follow 93 = .ok (.iload 8, 2) := by decide +kernel
theorem dX4_follow_95 : decode cX4_follow 95 = .ok (.iload 5, 2) := by decide +kernel
theorem dX4_follow_97 : decode cX4_follow 97 = .ok (.iconst 4, 1) := by decide +kernel
theorem dX4_follow_98 : decode cX4_follow 98 = .ok (.if_icmp .ne 8, 3) := by decide +kernel
theorem dX4_follow_101 : decode cX4_follow 101 = .ok (.iload 4, 2) := by decide +kernel
theorem dX4_follow_103 : decode cX4_follow 103 = .ok (.goto 5, 3) := by decide +kernel
theorem dX4_follow_106 : decode cX4_follow 106 = .ok (.iload 6, 2) := by decide +kernel
theorem dX4_follow_108 : decode cX4_follow 108 = .ok (.iload_n 3, 1) := by decide +kernel
theorem dX4_follow_109 : decode cX4_follow 109 = .ok (.iconst 1, 1) := by decide +kernel
theorem dX4_follow_110 : decode cX4_follow 110 = .ok (.iadd, 1) := by decide +kernel
theorem dX4_follow_111 : decode cX4_follow 111 = .ok (.invokevirtual 84, 3) := by decide +kernel
theorem dX4_follow_114 : decode cX4_follow 114 = .ok (.aload_n 0, 1) := by decide +kernel
theorem dX4_follow_115 : decode cX4_follow 115 = .ok (.aload_n 0, 1) := by decide +kernel
theorem dX4_follow_116 : decode cX4_follow 116 = .ok (.iload 5, 2) := by decide +kernel
theorem dX4_follow_118 : decode cX4_follow 118 = .ok (.iload 8, 2) := by decide +kernel
theorem dX4_follow_120 : decode cX4_follow 120 = .ok (.iload 6, 2) := by decide +kernel
theorem dX4_follow_122 : decode cX4_follow 122 = .ok (.iload 4, 2) := by decide +kernel
theorem dX4_follow_124 : decode cX4_follow 124 = .ok (.invokevirtual 88, 3) := by decide +kernel
theorem dX4_follow_127 : decode cX4_follow 127 = .ok (.iload_n 3, 1) := by decide +kernel
theorem dX4_follow_128 : decode cX4_follow 128 = .ok (.iconst 1, 1) := by decide +kernel
theorem dX4_follow_129 : decode cX4_follow 129 = .ok (.iadd, 1) := by decide +kernel
theorem dX4_follow_130 : decode cX4_follow 130 = .ok (.invokevirtual 38, 3) := by decide +kernel
theorem dX4_follow_133 : decode cX4_follow 133 = .ok (.istore 9, 2) := by decide +kernel
theorem dX4_follow_135 : decode cX4_follow 135 = .ok (.iload 9, 2) := by decide +kernel
theorem dX4_follow_137 : decode cX4_follow 137 = .ok (.ifCond .ge 6, 3) := by decide +kernel
theorem dX4_follow_140 : decode cX4_follow 140 = .ok (.iload 9, 2) := by decide +kernel
theorem dX4_follow_142 : decode cX4_follow 142 = .ok (.ireturn, 1) := by decide +kernel
theorem dX4_follow_143 : decode cX4_follow 143 = .ok (.aload_n 0, 1) := by decide +kernel
theorem dX4_follow_144 : decode cX4_follow 144 = .ok (.getfield 31, 3) := by decide +kernel
theorem dX4_follow_147 : decode cX4_follow 147 = .ok (.iload_n 1, 1) := by decide +kernel
theorem dX4_follow_148 : decode cX4_follow 148 = .ok (.iload 8, 2) := by decide +kernel
theorem dX4_follow_150 : decode cX4_follow 150 = .ok (.iload 9, 2) := by decide +kernel
theorem dX4_follow_152 : decode cX4_follow 152 = .ok (.invokevirtual 92, 3) := by decide +kernel
theorem dX4_follow_155 : decode cX4_follow 155 = .ok (.iinc 8 1, 3) := by decide +kernel
theorem dX4_follow_158 : decode cX4_follow 158 = .ok (.goto (-117), 3) := by decide +kernel
theorem dX4_follow_161 : decode cX4_follow 161 = .ok (.iload_n 1, 1) := by decide +kernel
theorem dX4_follow_162 : decode cX4_follow 162 = .ok (.ireturn, 1) := by decide +kernel
theorem dX4_firstWay_0 : decode cX4_firstWay 0 = .ok (.aload_n 0, 1) := by decide +kernel
theorem dX4_firstWay_1 : decode cX4_firstWay 1 = .ok (.iload_n 1, 1) := by decide +kernel
theorem dX4_firstWay_2 : decode cX4_firstWay 2 = .ok (.iload_n 2, 1) := by decide +kernel
theorem dX4_firstWay_3 : decode cX4_firstWay 3 = .ok (.invokevirtual 96, 3) := by decide +kernel
theorem dX4_firstWay_6 : decode cX4_firstWay 6 = .ok (.istore_n 3, 1) := by decide +kernel
theorem dX4_firstWay_7 : decode cX4_firstWay 7 = .ok (.iload_n 3, 1) := by decide +kernel
theorem dX4_firstWay_8 : decode cX4_firstWay 8 = .ok (.ifCond .ne 9, 3) := by decide +kernel
theorem dX4_firstWay_11 : decode cX4_firstWay 11 = .ok (.aload_n 0, 1) := by decide +kernel
theorem dX4_firstWay_12 : decode cX4_firstWay 12 = .ok (.iload_n 2, 1) := by decide +kernel
theorem dX4_firstWay_13 : decode cX4_firstWay 13 = .ok (.invokevirtual 99, 3) := by decide +kernel
theorem dX4_firstWay_16 : decode cX4_firstWay 16 = .ok (.istore_n 3, 1) := by decide +kernel
theorem dX4_firstWay_17 : decode cX4_firstWay 17 = .ok (.iload_n 3, 1) := by decide +kernel
theorem dX4_firstWay_18 : decode cX4_firstWay 18 = .ok (.ifCond .ne 22, 3) := by decide +kernel
theorem dX4_firstWay_21 : decode cX4_firstWay 21 = .ok (.aload_n 0, 1) := by decide +kernel
theorem dX4_firstWay_22 : decode cX4_firstWay 22 = .ok (.getfield 27, 3) := by decide +kernel
theorem dX4_firstWay_25 : decode cX4_firstWay 25 = .ok (.iload_n 1, 1) := by decide +kernel
theorem dX4_firstWay_26 : decode cX4_firstWay 26 = .ok (.invokevirtual 102, 3) := by decide +kernel
theorem dX4_firstWay_29 : decode cX4_firstWay 29 = .ok (.iconst 3, 1) := by decide +kernel
theorem dX4_firstWay_30 : decode cX4_firstWay 30 = .ok (.if_icmp .ne 10, 3) := by decide +kernel
theorem dX4_firstWay_33 : decode cX4_firstWay 33 = .ok (.bipush 11, 2) := by decide +kernel
theorem dX4_firstWay_35 : decode cX4_firstWay 35 = .ok (.iconst 0, 1) := by decide +kernel
theorem dX4_firstWay_36 : decode cX4_firstWay 36 = .ok (.invokestatic 107, 3) := by decide +kernel
theorem dX4_firstWay_39 : decode cX4_firstWay 39 = .ok (.istore_n 3, 1) := by decide +kernel
theorem dX4_firstWay_40 : decode cX4_firstWay 40 = .ok (.iload_n 3, 1) := by decide +kernel
theorem dX4_firstWay_41 : decode cX4_firstWay 41 = .ok (.ifCond .eq 7, 3) := by decide +kernel
theorem dX4_firstWay_44 : decode cX4_firstWay 44 = .ok (.iload_n 3, 1) := by decide +kernel
theorem dX4_firstWay_45 : decode cX4_firstWay 45 = .ok (.goto 9, 3) := by decide +kernel
theorem dX4_firstWay_48 : decode cX4_firstWay 48 = .ok (.aload_n 0, 1) := by decide +kernel
theorem dX4_firstWay_49 : decode cX4_firstWay 49 = .ok (.iload_n 2, 1) := by decide +kernel
theorem dX4_firstWay_50 : decode cX4_firstWay 50 = .ok (.iconst 0, 1) := by decide +kernel
theorem dX4_firstWay_51 : decode cX4_firstWay 51 = .ok (.invokevirtual 110, 3) := by decide +kernel
theorem dX4_firstWay_54 : decode cX4_firstWay 54 = .ok (.ireturn, 1) := by decide +kernel
theorem dX4_nextWay_0 : decode cX4_nextWay 0 = .ok (.iload_n 1, 1) := by decide +kernel
theorem dX4_nextWay_1 : decode cX4_nextWay 1 = .ok (.invokestatic 65, 3) := by decide +kernel
theorem dX4_nextWay_4 : decode cX4_nextWay 4 = .ok (.tableswitch 52 11 13 #[28, 35, 42], 28) := by decide +kernel
theorem dX4_nextWay_32 : decode cX4_nextWay 32 = .ok (.bipush 12, 2) := by decide +kernel
theorem dX4_nextWay_34 : decode cX4_nextWay 34 = .ok (.iconst 0, 1) := by decide +kernel
theorem dX4_nextWay_35 : decode cX4_nextWay 35 = .ok (.invokestatic 107, 3) := by decide +kernel
theorem dX4_nextWay_38 : decode cX4_nextWay 38 = .ok (.ireturn, 1) := by decide +kernel
theorem dX4_nextWay_39 : decode cX4_nextWay 39 = .ok (.aload_n 0, 1) := by decide +kernel
theorem dX4_nextWay_40 : decode cX4_nextWay 40 = .ok (.iload_n 2, 1) := by decide +kernel
theorem dX4_nextWay_41 : decode cX4_nextWay 41 = .ok (.iconst 0, 1) := by decide +kernel
theorem dX4_nextWay_42 : decode cX4_nextWay 42 = .ok (.invokevirtual 110, 3) := by decide +kernel
theorem dX4_nextWay_45 : decode cX4_nextWay 45 = .ok (.ireturn, 1) := by decide +kernel
theorem dX4_nextWay_46 : decode cX4_nextWay 46 = .ok (.aload_n 0, 1) := by decide +kernel
theorem dX4_nextWay_47 : decode cX4_nextWay 47 = .ok (.iload_n 2, 1) := by decide +kernel
theorem dX4_nextWay_48 : decode cX4_nextWay 48 = .ok (.iload_n 1, 1) := by decide +kernel
theorem dX4_nextWay_49 : decode cX4_nextWay 49 = .ok (.invokestatic 68, 3) := by decide +kernel
theorem dX4_nextWay_52 : decode cX4_nextWay 52 = .ok (.invokevirtual 110, 3) := by decide +kernel
theorem dX4_nextWay_55 : decode cX4_nextWay 55 = .ok (.ireturn, 1) := by decide +kernel
theorem dX4_nextWay_56 : decode cX4_nextWay 56 = .ok (.iconst 0, 1) := by decide +kernel
theorem dX4_nextWay_57 : decode cX4_nextWay 57 = .ok (.ireturn, 1) := by decide +kernel
theorem dX4_wayByGoal_0 : decode cX4_wayByGoal 0 = .ok (.aload_n 0, 1) := by decide +kernel
theorem dX4_wayByGoal_1 : decode cX4_wayByGoal 1 = .ok (.getfield 14, 3) := by decide +kernel
theorem dX4_wayByGoal_4 : decode cX4_wayByGoal 4 = .ok (.iload_n 2, 1) := by decide +kernel
theorem dX4_wayByGoal_5 : decode cX4_wayByGoal 5 = .ok (.iload_n 1, 1) := by decide +kernel
theorem dX4_wayByGoal_6 : decode cX4_wayByGoal 6 = .ok (.invokevirtual 113, 3) := by decide +kernel
theorem dX4_wayByGoal_9 : decode cX4_wayByGoal 9 = .ok (.ifCond .eq 9, 3) := by decide +kernel
theorem dX4_wayByGoal_12 : decode cX4_wayByGoal 12 = .ok (.iconst 1, 1) := by decide +kernel
theorem dX4_wayByGoal_13 : decode cX4_wayByGoal 13 = .ok (.iconst 0, 1) := by decide +kernel
theorem dX4_wayByGoal_14 : decode cX4_wayByGoal 14 = .ok (.invokestatic 107, 3) := by decide +kernel
theorem dX4_wayByGoal_17 : decode cX4_wayByGoal 17 = .ok (.ireturn, 1) := by decide +kernel
theorem dX4_wayByGoal_18 : decode cX4_wayByGoal 18 = .ok (.aload_n 0, 1) := by decide +kernel
theorem dX4_wayByGoal_19 : decode cX4_wayByGoal 19 = .ok (.iload_n 2, 1) := by decide +kernel
theorem dX4_wayByGoal_20 : decode cX4_wayByGoal 20 = .ok (.iconst 1, 1) := by decide +kernel
theorem dX4_wayByGoal_21 : decode cX4_wayByGoal 21 = .ok (.iconst 0, 1) := by decide +kernel
theorem dX4_wayByGoal_22 : decode cX4_wayByGoal 22 = .ok (.invokevirtual 117, 3) := by decide +kernel
theorem dX4_wayByGoal_25 : decode cX4_wayByGoal 25 = .ok (.istore_n 3, 1) := by decide +kernel
theorem dX4_wayByGoal_26 : decode cX4_wayByGoal 26 = .ok (.iload_n 3, 1) := by decide +kernel
theorem dX4_wayByGoal_27 : decode cX4_wayByGoal 27 = .ok (.ifCond .eq 9, 3) := by decide +kernel
theorem dX4_wayByGoal_30 : decode cX4_wayByGoal 30 = .ok (.iconst 2, 1) := by decide +kernel
theorem dX4_wayByGoal_31 : decode cX4_wayByGoal 31 = .ok (.iload_n 3, 1) := by decide +kernel
theorem dX4_wayByGoal_32 : decode cX4_wayByGoal 32 = .ok (.invokestatic 107, 3) := by decide +kernel
theorem dX4_wayByGoal_35 : decode cX4_wayByGoal 35 = .ok (.ireturn, 1) := by decide +kernel
theorem dX4_wayByGoal_36 : decode cX4_wayByGoal 36 = .ok (.aload_n 0, 1) := by decide +kernel
theorem dX4_wayByGoal_37 : decode cX4_wayByGoal 37 = .ok (.getfield 27, 3) := by decide +kernel
theorem dX4_wayByGoal_40 : decode cX4_wayByGoal 40 = .ok (.iload_n 1, 1) := by decide +kernel
theorem dX4_wayByGoal_41 : decode cX4_wayByGoal 41 = .ok (.invokevirtual 102, 3) := by decide +kernel
theorem dX4_wayByGoal_44 : decode cX4_wayByGoal 44 = .ok (.lookupswitch 40 #[(2, 28), (4, 34)], 28) := by decide +kernel
theorem dX4_wayByGoal_72 : decode cX4_wayByGoal 72 = .ok (.iconst 3, 1) := by decide +kernel
theorem dX4_wayByGoal_73 : decode cX4_wayByGoal 73 = .ok (.iconst 0, 1) := by decide +kernel
theorem dX4_wayByGoal_74 : decode cX4_wayByGoal 74 = .ok (.invokestatic 107, 3) := by decide +kernel
theorem dX4_wayByGoal_77 : decode cX4_wayByGoal 77 = .ok (.ireturn, 1) := by decide +kernel
theorem dX4_wayByGoal_78 : decode cX4_wayByGoal 78 = .ok (.iconst 4, 1) := by decide +kernel
theorem dX4_wayByGoal_79 : decode cX4_wayByGoal 79 = .ok (.iconst 0, 1) := by decide +kernel
theorem dX4_wayByGoal_80 : decode cX4_wayByGoal 80 = .ok (.invokestatic 107, 3) := by decide +kernel
theorem dX4_wayByGoal_83 : decode cX4_wayByGoal 83 = .ok (.ireturn, 1) := by decide +kernel
theorem dX4_wayByGoal_84 : decode cX4_wayByGoal 84 = .ok (.iconst 0, 1) := by decide +kernel
theorem dX4_wayByGoal_85 : decode cX4_wayByGoal 85 = .ok (.ireturn, 1) := by decide +kernel
theorem dX4_wayByGiven_0 : decode cX4_wayByGiven 0 = .ok (.aload_n 0, 1) := by decide +kernel
theorem dX4_wayByGiven_1 : decode cX4_wayByGiven 1 = .ok (.iload_n 1, 1) := by decide +kernel
theorem dX4_wayByGiven_2 : decode cX4_wayByGiven 2 = .ok (.iconst 2, 1) := by decide +kernel
theorem dX4_wayByGiven_3 : decode cX4_wayByGiven 3 = .ok (.iconst 0, 1) := by decide +kernel
theorem dX4_wayByGiven_4 : decode cX4_wayByGiven 4 = .ok (.invokevirtual 117, 3) := by decide +kernel
theorem dX4_wayByGiven_7 : decode cX4_wayByGiven 7 = .ok (.istore_n 2, 1) := by decide +kernel
theorem dX4_wayByGiven_8 : decode cX4_wayByGiven 8 = .ok (.iload_n 2, 1) := by decide +kernel
theorem dX4_wayByGiven_9 : decode cX4_wayByGiven 9 = .ok (.ifCond .eq 9, 3) := by decide +kernel
theorem dX4_wayByGiven_12 : decode cX4_wayByGiven 12 = .ok (.iconst 5, 1) := by decide +kernel
theorem dX4_wayByGiven_13 : decode cX4_wayByGiven 13 = .ok (.iload_n 2, 1) := by decide +kernel
theorem dX4_wayByGiven_14 : decode cX4_wayByGiven 14 = .ok (.invokestatic 107, 3) := by decide +kernel
theorem dX4_wayByGiven_17 : decode cX4_wayByGiven 17 = .ok (.ireturn, 1) := by decide +kernel
theorem dX4_wayByGiven_18 : decode cX4_wayByGiven 18 = .ok (.aload_n 0, 1) := by decide +kernel
theorem dX4_wayByGiven_19 : decode cX4_wayByGiven 19 = .ok (.iload_n 1, 1) := by decide +kernel
theorem dX4_wayByGiven_20 : decode cX4_wayByGiven 20 = .ok (.iconst 3, 1) := by decide +kernel
theorem dX4_wayByGiven_21 : decode cX4_wayByGiven 21 = .ok (.iconst 0, 1) := by decide +kernel
theorem dX4_wayByGiven_22 : decode cX4_wayByGiven 22 = .ok (.invokevirtual 117, 3) := by decide +kernel
theorem dX4_wayByGiven_25 : decode cX4_wayByGiven 25 = .ok (.istore_n 2, 1) := by decide +kernel
theorem dX4_wayByGiven_26 : decode cX4_wayByGiven 26 = .ok (.iload_n 2, 1) := by decide +kernel
theorem dX4_wayByGiven_27 : decode cX4_wayByGiven 27 = .ok (.ifCond .eq 10, 3) := by decide +kernel
theorem dX4_wayByGiven_30 : decode cX4_wayByGiven 30 = .ok (.bipush 6, 2) := by decide +kernel
theorem dX4_wayByGiven_32 : decode cX4_wayByGiven 32 = .ok (.iload_n 2, 1) := by decide +kernel
theorem dX4_wayByGiven_33 : decode cX4_wayByGiven 33 = .ok (.invokestatic 107, 3) := by decide +kernel
theorem dX4_wayByGiven_36 : decode cX4_wayByGiven 36 = .ok (.ireturn, 1) := by decide +kernel
theorem dX4_wayByGiven_37 : decode cX4_wayByGiven 37 = .ok (.aload_n 0, 1) := by decide +kernel
theorem dX4_wayByGiven_38 : decode cX4_wayByGiven 38 = .ok (.iload_n 1, 1) := by decide +kernel
theorem dX4_wayByGiven_39 : decode cX4_wayByGiven 39 = .ok (.invokevirtual 120, 3) := by decide +kernel
theorem dX4_wayByGiven_42 : decode cX4_wayByGiven 42 = .ok (.istore_n 2, 1) := by decide +kernel
theorem dX4_wayByGiven_43 : decode cX4_wayByGiven 43 = .ok (.iload_n 2, 1) := by decide +kernel
theorem dX4_wayByGiven_44 : decode cX4_wayByGiven 44 = .ok (.ifCond .eq 10, 3) := by decide +kernel
theorem dX4_wayByGiven_47 : decode cX4_wayByGiven 47 = .ok (.bipush 7, 2) := by decide +kernel
theorem dX4_wayByGiven_49 : decode cX4_wayByGiven 49 = .ok (.iload_n 2, 1) := by decide +kernel
theorem dX4_wayByGiven_50 : decode cX4_wayByGiven 50 = .ok (.invokestatic 107, 3) := by decide +kernel
theorem dX4_wayByGiven_53 : decode cX4_wayByGiven 53 = .ok (.ireturn, 1) := by decide +kernel
theorem dX4_wayByGiven_54 : decode cX4_wayByGiven 54 = .ok (.aload_n 0, 1) := by decide +kernel
theorem dX4_wayByGiven_55 : decode cX4_wayByGiven 55 = .ok (.iload_n 1, 1) := by decide +kernel
theorem dX4_wayByGiven_56 : decode cX4_wayByGiven 56 = .ok (.bipush 6, 2) := by decide +kernel
theorem dX4_wayByGiven_58 : decode cX4_wayByGiven 58 = .ok (.iconst 0, 1) := by decide +kernel
theorem dX4_wayByGiven_59 : decode cX4_wayByGiven 59 = .ok (.invokevirtual 117, 3) := by decide +kernel
theorem dX4_wayByGiven_62 : decode cX4_wayByGiven 62 = .ok (.istore_n 2, 1) := by decide +kernel
theorem dX4_wayByGiven_63 : decode cX4_wayByGiven 63 = .ok (.iload_n 2, 1) := by decide +kernel
theorem dX4_wayByGiven_64 : decode cX4_wayByGiven 64 = .ok (.ifCond .eq 10, 3) := by decide +kernel
theorem dX4_wayByGiven_67 : decode cX4_wayByGiven 67 = .ok (.bipush 8, 2) := by decide +kernel
theorem dX4_wayByGiven_69 : decode cX4_wayByGiven 69 = .ok (.iload_n 2, 1) := by decide +kernel
theorem dX4_wayByGiven_70 : decode cX4_wayByGiven 70 = .ok (.invokestatic 107, 3) := by decide +kernel
theorem dX4_wayByGiven_73 : decode cX4_wayByGiven 73 = .ok (.ireturn, 1) := by decide +kernel
theorem dX4_wayByGiven_74 : decode cX4_wayByGiven 74 = .ok (.aload_n 0, 1) := by decide +kernel
theorem dX4_wayByGiven_75 : decode cX4_wayByGiven 75 = .ok (.iload_n 1, 1) := by decide +kernel
theorem dX4_wayByGiven_76 : decode cX4_wayByGiven 76 = .ok (.bipush 7, 2) := by decide +kernel
theorem dX4_wayByGiven_78 : decode cX4_wayByGiven 78 = .ok (.iconst 0, 1) := by decide +kernel
theorem dX4_wayByGiven_79 : decode cX4_wayByGiven 79 = .ok (.invokevirtual 117, 3) := by decide +kernel
theorem dX4_wayByGiven_82 : decode cX4_wayByGiven 82 = .ok (.istore_n 2, 1) := by decide +kernel
theorem dX4_wayByGiven_83 : decode cX4_wayByGiven 83 = .ok (.iload_n 2, 1) := by decide +kernel
theorem dX4_wayByGiven_84 : decode cX4_wayByGiven 84 = .ok (.ifCond .eq 10, 3) := by decide +kernel
theorem dX4_wayByGiven_87 : decode cX4_wayByGiven 87 = .ok (.bipush 9, 2) := by decide +kernel
theorem dX4_wayByGiven_89 : decode cX4_wayByGiven 89 = .ok (.iload_n 2, 1) := by decide +kernel
theorem dX4_wayByGiven_90 : decode cX4_wayByGiven 90 = .ok (.invokestatic 107, 3) := by decide +kernel
theorem dX4_wayByGiven_93 : decode cX4_wayByGiven 93 = .ok (.ireturn, 1) := by decide +kernel
theorem dX4_wayByGiven_94 : decode cX4_wayByGiven 94 = .ok (.aload_n 0, 1) := by decide +kernel
theorem dX4_wayByGiven_95 : decode cX4_wayByGiven 95 = .ok (.iload_n 1, 1) := by decide +kernel
theorem dX4_wayByGiven_96 : decode cX4_wayByGiven 96 = .ok (.bipush 8, 2) := by decide +kernel
theorem dX4_wayByGiven_98 : decode cX4_wayByGiven 98 = .ok (.iconst 0, 1) := by decide +kernel
theorem dX4_wayByGiven_99 : decode cX4_wayByGiven 99 = .ok (.invokevirtual 117, 3) := by decide +kernel
theorem dX4_wayByGiven_102 : decode cX4_wayByGiven 102 = .ok (.istore_n 2, 1) := by decide +kernel
theorem dX4_wayByGiven_103 : decode cX4_wayByGiven 103 = .ok (.iload_n 2, 1) := by decide +kernel
theorem dX4_wayByGiven_104 : decode cX4_wayByGiven 104 = .ok (.ifCond .eq 12, 3) := by decide +kernel
theorem dX4_wayByGiven_107 : decode cX4_wayByGiven 107 = .ok (.bipush 10, 2) := by decide +kernel
theorem dX4_wayByGiven_109 : decode cX4_wayByGiven 109 = .ok (.iload_n 2, 1) := by decide +kernel
theorem dX4_wayByGiven_110 : decode cX4_wayByGiven 110 = .ok (.invokestatic 107, 3) := by decide +kernel
theorem dX4_wayByGiven_113 : decode cX4_wayByGiven 113 = .ok (.goto 4, 3) := by decide +kernel
theorem dX4_wayByGiven_116 : decode cX4_wayByGiven 116 = .ok (.iconst 0, 1) := by decide +kernel
theorem dX4_wayByGiven_117 : decode cX4_wayByGiven 117 = .ok (.ireturn, 1) := by decide +kernel
theorem dX4_nestedAbove_0 : decode cX4_nestedAbove 0 = .ok (.aload_n 0, 1) := by decide +kernel
theorem dX4_nestedAbove_1 : decode cX4_nestedAbove 1 = .ok (.iload_n 1, 1) := by decide +kernel
theorem dX4_nestedAbove_2 : decode cX4_nestedAbove 2 = .ok (.bipush 9, 2) := by decide +kernel
theorem dX4_nestedAbove_4 : decode cX4_nestedAbove 4 = .ok (.iload_n 2, 1) := by decide +kernel
theorem dX4_nestedAbove_5 : decode cX4_nestedAbove 5 = .ok (.invokevirtual 117, 3) := by decide +kernel
theorem dX4_nestedAbove_8 : decode cX4_nestedAbove 8 = .ok (.istore_n 3, 1) := by decide +kernel
theorem dX4_nestedAbove_9 : decode cX4_nestedAbove 9 = .ok (.iload_n 3, 1) := by decide +kernel
theorem dX4_nestedAbove_10 : decode cX4_nestedAbove 10 = .ok (.ifCond .eq 12, 3) := by decide +kernel
theorem dX4_nestedAbove_13 : decode cX4_nestedAbove 13 = .ok (.bipush 13, 2) := by decide +kernel
theorem dX4_nestedAbove_15 : decode cX4_nestedAbove 15 = .ok (.iload_n 3, 1) := by decide +kernel
theorem dX4_nestedAbove_16 : decode cX4_nestedAbove 16 = .ok (.invokestatic 107, 3) := by decide +kernel
theorem dX4_nestedAbove_19 : decode cX4_nestedAbove 19 = .ok (.goto 4, 3) := by decide +kernel
theorem dX4_nestedAbove_22 : decode cX4_nestedAbove 22 = .ok (.iconst 0, 1) := by decide +kernel
theorem dX4_nestedAbove_23 : decode cX4_nestedAbove 23 = .ok (.ireturn, 1) := by decide +kernel
theorem dX4_leastFired_0 : decode cX4_leastFired 0 = .ok (.aload_n 0, 1) := by decide +kernel
theorem dX4_leastFired_1 : decode cX4_leastFired 1 = .ok (.getfield 27, 3) := by decide +kernel
theorem dX4_leastFired_4 : decode cX4_leastFired 4 = .ok (.invokevirtual 123, 3) := by decide +kernel
theorem dX4_leastFired_7 : decode cX4_leastFired 7 = .ok (.astore_n 2, 1) := by decide +kernel
theorem dX4_leastFired_8 : decode cX4_leastFired 8 = .ok (.aload_n 0, 1) := by decide +kernel
theorem dX4_leastFired_9 : decode cX4_leastFired 9 = .ok (.getfield 14, 3) := by decide +kernel
theorem dX4_leastFired_12 : decode cX4_leastFired 12 = .ok (.iload_n 1, 1) := by decide +kernel
theorem dX4_leastFired_13 : decode cX4_leastFired 13 = .ok (.aload_n 2, 1) := by decide +kernel
theorem dX4_leastFired_14 : decode cX4_leastFired 14 = .ok (.iconst 4, 1) := by decide +kernel
theorem dX4_leastFired_15 : decode cX4_leastFired 15 = .ok (.iconst 0, 1) := by decide +kernel
theorem dX4_leastFired_16 : decode cX4_leastFired 16 = .ok (.invokevirtual 127, 3) := by decide +kernel
theorem dX4_leastFired_19 : decode cX4_leastFired 19 = .ok (.istore_n 3, 1) := by decide +kernel
theorem dX4_leastFired_20 : decode cX4_leastFired 20 = .ok (.iconst 0, 1) := by decide +kernel
theorem dX4_leastFired_21 : decode cX4_leastFired 21 = .ok (.istore 4, 2) := by decide +kernel
theorem dX4_leastFired_23 : decode cX4_leastFired 23 = .ok (.iload_n 3, 1) := by decide +kernel
theorem dX4_leastFired_24 : decode cX4_leastFired 24 = .ok (.ifCond .eq 50, 3) := by decide +kernel
theorem dX4_leastFired_27 : decode cX4_leastFired 27 = .ok (.iload 4, 2) := by decide +kernel
theorem dX4_leastFired_29 : decode cX4_leastFired 29 = .ok (.sipush 600, 3) := by decide +kernel
theorem dX4_leastFired_32 : decode cX4_leastFired 32 = .ok (.if_icmp .ge 42, 3) := by decide +kernel
theorem dX4_leastFired_35 : decode cX4_leastFired 35 = .ok (.aload_n 0, 1) := by decide +kernel
theorem dX4_leastFired_36 : decode cX4_leastFired 36 = .ok (.getfield 14, 3) := by decide +kernel
theorem dX4_leastFired_39 : decode cX4_leastFired 39 = .ok (.iload_n 1, 1) := by decide +kernel
theorem dX4_leastFired_40 : decode cX4_leastFired 40 = .ok (.aload_n 0, 1) := by decide +kernel
theorem dX4_leastFired_41 : decode cX4_leastFired 41 = .ok (.getfield 27, 3) := by decide +kernel
theorem dX4_leastFired_44 : decode cX4_leastFired 44 = .ok (.iload_n 3, 1) := by decide +kernel
theorem dX4_leastFired_45 : decode cX4_leastFired 45 = .ok (.invokevirtual 131, 3) := by decide +kernel
theorem dX4_leastFired_48 : decode cX4_leastFired 48 = .ok (.invokevirtual 113, 3) := by decide +kernel
theorem dX4_leastFired_51 : decode cX4_leastFired 51 = .ok (.ifCond .eq 5, 3) := by decide +kernel
theorem dX4_leastFired_54 : decode cX4_leastFired 54 = .ok (.iload_n 3, 1) := by decide +kernel
theorem dX4_leastFired_55 : decode cX4_leastFired 55 = .ok (.ireturn, 1) := by decide +kernel
theorem dX4_leastFired_56 : decode cX4_leastFired 56 = .ok (.aload_n 0, 1) := by decide +kernel
theorem dX4_leastFired_57 : decode cX4_leastFired 57 = .ok (.getfield 14, 3) := by decide +kernel
theorem dX4_leastFired_60 : decode cX4_leastFired 60 = .ok (.iload_n 1, 1) := by decide +kernel
theorem dX4_leastFired_61 : decode cX4_leastFired 61 = .ok (.aload_n 2, 1) := by decide +kernel
theorem dX4_leastFired_62 : decode cX4_leastFired 62 = .ok (.iconst 4, 1) := by decide +kernel
theorem dX4_leastFired_63 : decode cX4_leastFired 63 = .ok (.iload_n 3, 1) := by decide +kernel
theorem dX4_leastFired_64 : decode cX4_leastFired 64 = .ok (.invokevirtual 127, 3) := by decide +kernel
theorem dX4_leastFired_67 : decode cX4_leastFired 67 = .ok (.istore_n 3, 1) := by decide +kernel
theorem dX4_leastFired_68 : decode cX4_leastFired 68 = .ok (.iinc 4 1, 3) := by decide +kernel
theorem dX4_leastFired_71 : decode cX4_leastFired 71 = .ok (.goto (-48), 3) := by decide +kernel
theorem dX4_leastFired_74 : decode cX4_leastFired 74 = .ok (.iconst 0, 1) := by decide +kernel
theorem dX4_leastFired_75 : decode cX4_leastFired 75 = .ok (.ireturn, 1) := by decide +kernel
theorem dX4_leastOfKind_0 : decode cX4_leastOfKind 0 = .ok (.aload_n 0, 1) := by decide +kernel
theorem dX4_leastOfKind_1 : decode cX4_leastOfKind 1 = .ok (.getfield 14, 3) := by decide +kernel
theorem dX4_leastOfKind_4 : decode cX4_leastOfKind 4 = .ok (.iload_n 1, 1) := by decide +kernel
theorem dX4_leastOfKind_5 : decode cX4_leastOfKind 5 = .ok (.aload_n 0, 1) := by decide +kernel
theorem dX4_leastOfKind_6 : decode cX4_leastOfKind 6 = .ok (.getfield 27, 3) := by decide +kernel
theorem dX4_leastOfKind_9 : decode cX4_leastOfKind 9 = .ok (.invokevirtual 123, 3) := by decide +kernel
theorem dX4_leastOfKind_12 : decode cX4_leastOfKind 12 = .ok (.iload_n 2, 1) := by decide +kernel
theorem dX4_leastOfKind_13 : decode cX4_leastOfKind 13 = .ok (.iload_n 3, 1) := by decide +kernel
theorem dX4_leastOfKind_14 : decode cX4_leastOfKind 14 = .ok (.invokevirtual 127, 3) := by decide +kernel
theorem dX4_leastOfKind_17 : decode cX4_leastOfKind 17 = .ok (.ireturn, 1) := by decide +kernel
theorem dX4_bringNew_0 : decode cX4_bringNew 0 = .ok (.aload_n 0, 1) := by decide +kernel
theorem dX4_bringNew_1 : decode cX4_bringNew 1 = .ok (.getfield 27, 3) := by decide +kernel
theorem dX4_bringNew_4 : decode cX4_bringNew 4 = .ok (.iload_n 3, 1) := by decide +kernel
theorem dX4_bringNew_5 : decode cX4_bringNew 5 = .ok (.invokevirtual 131, 3) := by decide +kernel
theorem dX4_bringNew_8 : decode cX4_bringNew 8 = .ok (.istore 5, 2) := by decide +kernel
theorem dX4_bringNew_10 : decode cX4_bringNew 10 = .ok (.aload_n 0, 1) := by decide +kernel
theorem dX4_bringNew_11 : decode cX4_bringNew 11 = .ok (.getfield 27, 3) := by decide +kernel
theorem dX4_bringNew_14 : decode cX4_bringNew 14 = .ok (.iload 5, 2) := by decide +kernel
theorem dX4_bringNew_16 : decode cX4_bringNew 16 = .ok (.invokevirtual 131, 3) := by decide +kernel
theorem dX4_bringNew_19 : decode cX4_bringNew 19 = .ok (.istore 6, 2) := by decide +kernel
theorem dX4_bringNew_21 : decode cX4_bringNew 21 = .ok (.aload_n 0, 1) := by decide +kernel
theorem dX4_bringNew_22 : decode cX4_bringNew 22 = .ok (.getfield 27, 3) := by decide +kernel
theorem dX4_bringNew_25 : decode cX4_bringNew 25 = .ok (.iload 5, 2) := by decide +kernel
theorem dX4_bringNew_27 : decode cX4_bringNew 27 = .ok (.invokevirtual 134, 3) := by decide +kernel
theorem dX4_bringNew_30 : decode cX4_bringNew 30 = .ok (.istore 7, 2) := by decide +kernel
theorem dX4_bringNew_32 : decode cX4_bringNew 32 = .ok (.aload_n 0, 1) := by decide +kernel
theorem dX4_bringNew_33 : decode cX4_bringNew 33 = .ok (.getfield 27, 3) := by decide +kernel
theorem dX4_bringNew_36 : decode cX4_bringNew 36 = .ok (.iload_n 3, 1) := by decide +kernel
theorem dX4_bringNew_37 : decode cX4_bringNew 37 = .ok (.invokevirtual 134, 3) := by decide +kernel
theorem dX4_bringNew_40 : decode cX4_bringNew 40 = .ok (.istore 8, 2) := by decide +kernel
theorem dX4_bringNew_42 : decode cX4_bringNew 42 = .ok (.iconst 0, 1) := by decide +kernel
theorem dX4_bringNew_43 : decode cX4_bringNew 43 = .ok (.istore 9, 2) := by decide +kernel
theorem dX4_bringNew_45 : decode cX4_bringNew 45 = .ok (.iconst 0, 1) := by decide +kernel
theorem dX4_bringNew_46 : decode cX4_bringNew 46 = .ok (.istore 10, 2) := by decide +kernel
theorem dX4_bringNew_48 : decode cX4_bringNew 48 = .ok (.iload_n 1, 1) := by decide +kernel
theorem dX4_bringNew_49 : decode cX4_bringNew 49 = .ok (.bipush 9, 2) := by decide +kernel
theorem dX4_bringNew_51 : decode cX4_bringNew 51 = .ok (.if_icmp .ne 46, 3) := by decide +kernel
theorem dX4_bringNew_54 : decode cX4_bringNew 54 = .ok (.aload_n 0, 1) := by decide +kernel
theorem dX4_bringNew_55 : decode cX4_bringNew 55 = .ok (.getfield 27, 3) := by decide +kernel
theorem dX4_bringNew_58 : decode cX4_bringNew 58 = .ok (.iconst 4, 1) := by decide +kernel
theorem dX4_bringNew_59 : decode cX4_bringNew 59 = .ok (.iload 7, 2) := by decide +kernel
theorem dX4_bringNew_61 : decode cX4_bringNew 61 = .ok (.iload 8, 2) := by decide +kernel
theorem dX4_bringNew_63 : decode cX4_bringNew 63 = .ok (.invokevirtual 137, 3) := by decide +kernel
theorem dX4_bringNew_66 : decode cX4_bringNew 66 = .ok (.istore 11, 2) := by decide +kernel
theorem dX4_bringNew_68 : decode cX4_bringNew 68 = .ok (.iload 11, 2) := by decide +kernel
theorem dX4_bringNew_70 : decode cX4_bringNew 70 = .ok (.bipush (-3), 2) := by decide +kernel
theorem dX4_bringNew_72 : decode cX4_bringNew 72 = .ok (.if_icmp .ne 8, 3) := by decide +kernel
theorem dX4_bringNew_75 : decode cX4_bringNew 75 = .ok (.bipush (-3), 2) := by decide +kernel
theorem dX4_bringNew_77 : decode cX4_bringNew 77 = .ok (.goto 15, 3) := by decide +kernel
theorem dX4_bringNew_80 : decode cX4_bringNew 80 = .ok (.aload_n 0, 1) := by decide +kernel
theorem dX4_bringNew_81 : decode cX4_bringNew 81 = .ok (.getfield 27, 3) := by decide +kernel
theorem dX4_bringNew_84 : decode cX4_bringNew 84 = .ok (.iconst 4, 1) := by decide +kernel
theorem dX4_bringNew_85 : decode cX4_bringNew 85 = .ok (.iload 6, 2) := by decide +kernel
theorem dX4_bringNew_87 : decode cX4_bringNew 87 = .ok (.iload 11, 2) := by decide +kernel
theorem dX4_bringNew_89 : decode cX4_bringNew 89 = .ok (.invokevirtual 137, 3) := by decide +kernel
theorem dX4_bringNew_92 : decode cX4_bringNew 92 = .ok (.istore 9, 2) := by decide +kernel
theorem dX4_bringNew_94 : decode cX4_bringNew 94 = .ok (.goto 77, 3) := by decide +kernel
theorem dX4_bringNew_97 : decode cX4_bringNew 97 = .ok (.iload_n 1, 1) := by decide +kernel
theorem dX4_bringNew_98 : decode cX4_bringNew 98 = .ok (.bipush 10, 2) := by decide +kernel
theorem dX4_bringNew_100 : decode cX4_bringNew 100 = .ok (.if_icmp .ne 46, 3) := by decide +kernel
theorem dX4_bringNew_103 : decode cX4_bringNew 103 = .ok (.aload_n 0, 1) := by decide +kernel
theorem dX4_bringNew_104 : decode cX4_bringNew 104 = .ok (.getfield 27, 3) := by decide +kernel
theorem dX4_bringNew_107 : decode cX4_bringNew 107 = .ok (.iconst 4, 1) := by decide +kernel
theorem dX4_bringNew_108 : decode cX4_bringNew 108 = .ok (.iload 6, 2) := by decide +kernel
theorem dX4_bringNew_110 : decode cX4_bringNew 110 = .ok (.iload 8, 2) := by decide +kernel
theorem dX4_bringNew_112 : decode cX4_bringNew 112 = .ok (.invokevirtual 137, 3) := by decide +kernel
theorem dX4_bringNew_115 : decode cX4_bringNew 115 = .ok (.istore 9, 2) := by decide +kernel
theorem dX4_bringNew_117 : decode cX4_bringNew 117 = .ok (.iload 9, 2) := by decide +kernel
theorem dX4_bringNew_119 : decode cX4_bringNew 119 = .ok (.bipush (-3), 2) := by decide +kernel
theorem dX4_bringNew_121 : decode cX4_bringNew 121 = .ok (.if_icmp .ne 8, 3) := by decide +kernel
theorem dX4_bringNew_124 : decode cX4_bringNew 124 = .ok (.bipush (-3), 2) := by decide +kernel
theorem dX4_bringNew_126 : decode cX4_bringNew 126 = .ok (.goto 15, 3) := by decide +kernel
theorem dX4_bringNew_129 : decode cX4_bringNew 129 = .ok (.aload_n 0, 1) := by decide +kernel
theorem dX4_bringNew_130 : decode cX4_bringNew 130 = .ok (.getfield 27, 3) := by decide +kernel
theorem dX4_bringNew_133 : decode cX4_bringNew 133 = .ok (.iconst 4, 1) := by decide +kernel
theorem dX4_bringNew_134 : decode cX4_bringNew 134 = .ok (.iload 7, 2) := by decide +kernel
theorem dX4_bringNew_136 : decode cX4_bringNew 136 = .ok (.iload 8, 2) := by decide +kernel
theorem dX4_bringNew_138 : decode cX4_bringNew 138 = .ok (.invokevirtual 137, 3) := by decide +kernel
theorem dX4_bringNew_141 : decode cX4_bringNew 141 = .ok (.istore 10, 2) := by decide +kernel
theorem dX4_bringNew_143 : decode cX4_bringNew 143 = .ok (.goto 28, 3) := by decide +kernel
theorem dX4_bringNew_146 : decode cX4_bringNew 146 = .ok (.iload_n 1, 1) := by decide +kernel
theorem dX4_bringNew_147 : decode cX4_bringNew 147 = .ok (.bipush 13, 2) := by decide +kernel
theorem dX4_bringNew_149 : decode cX4_bringNew 149 = .ok (.if_icmp .ne 22, 3) := by decide +kernel
theorem dX4_bringNew_152 : decode cX4_bringNew 152 = .ok (.iload_n 2, 1) := by decide +kernel
theorem dX4_bringNew_153 : decode cX4_bringNew 153 = .ok (.iconst 1, 1) := by decide +kernel
theorem dX4_bringNew_154 : decode cX4_bringNew 154 = .ok (.if_icmp .ne 17, 3) := by decide +kernel
theorem dX4_bringNew_157 : decode cX4_bringNew 157 = .ok (.aload_n 0, 1) := by decide +kernel
theorem dX4_bringNew_158 : decode cX4_bringNew 158 = .ok (.getfield 27, 3) := by decide +kernel
theorem dX4_bringNew_161 : decode cX4_bringNew 161 = .ok (.iconst 4, 1) := by decide +kernel
theorem dX4_bringNew_162 : decode cX4_bringNew 162 = .ok (.iload 7, 2) := by decide +kernel
theorem dX4_bringNew_164 : decode cX4_bringNew 164 = .ok (.iload 8, 2) := by decide +kernel
theorem dX4_bringNew_166 : decode cX4_bringNew 166 = .ok (.invokevirtual 137, 3) := by decide +kernel
theorem dX4_bringNew_169 : decode cX4_bringNew 169 = .ok (.istore 9, 2) := by decide +kernel
theorem dX4_bringNew_171 : decode cX4_bringNew 171 = .ok (.aload_n 0, 1) := by decide +kernel
theorem dX4_bringNew_172 : decode cX4_bringNew 172 = .ok (.getfield 14, 3) := by decide +kernel
theorem dX4_bringNew_175 : decode cX4_bringNew 175 = .ok (.iload 4, 2) := by decide +kernel
theorem dX4_bringNew_177 : decode cX4_bringNew 177 = .ok (.iload 9, 2) := by decide +kernel
theorem dX4_bringNew_179 : decode cX4_bringNew 179 = .ok (.invokevirtual 140, 3) := by decide +kernel
theorem dX4_bringNew_182 : decode cX4_bringNew 182 = .ok (.aload_n 0, 1) := by decide +kernel
theorem dX4_bringNew_183 : decode cX4_bringNew 183 = .ok (.getfield 14, 3) := by decide +kernel
theorem dX4_bringNew_186 : decode cX4_bringNew 186 = .ok (.iload 4, 2) := by decide +kernel
theorem dX4_bringNew_188 : decode cX4_bringNew 188 = .ok (.iload 10, 2) := by decide +kernel
theorem dX4_bringNew_190 : decode cX4_bringNew 190 = .ok (.invokevirtual 140, 3) := by decide +kernel
theorem dX4_bringNew_193 : decode cX4_bringNew 193 = .ok (.iload 9, 2) := by decide +kernel
theorem dX4_bringNew_195 : decode cX4_bringNew 195 = .ok (.bipush (-3), 2) := by decide +kernel
theorem dX4_bringNew_197 : decode cX4_bringNew 197 = .ok (.if_icmp .eq 14, 3) := by decide +kernel
theorem dX4_bringNew_200 : decode cX4_bringNew 200 = .ok (.iload 10, 2) := by decide +kernel
theorem dX4_bringNew_202 : decode cX4_bringNew 202 = .ok (.bipush (-3), 2) := by decide +kernel
theorem dX4_bringNew_204 : decode cX4_bringNew 204 = .ok (.if_icmp .eq 7, 3) := by decide +kernel
theorem dX4_bringNew_207 : decode cX4_bringNew 207 = .ok (.iconst 1, 1) := by decide +kernel
theorem dX4_bringNew_208 : decode cX4_bringNew 208 = .ok (.goto 4, 3) := by decide +kernel
theorem dX4_bringNew_211 : decode cX4_bringNew 211 = .ok (.iconst 0, 1) := by decide +kernel
theorem dX4_bringNew_212 : decode cX4_bringNew 212 = .ok (.ireturn, 1) := by decide +kernel
theorem dX4_bringParts_0 : decode cX4_bringParts 0 = .ok (.iload_n 1, 1) := by decide +kernel
theorem dX4_bringParts_1 : decode cX4_bringParts 1 = .ok (.iconst 4, 1) := by decide +kernel
theorem dX4_bringParts_2 : decode cX4_bringParts 2 = .ok (.if_icmp .eq 19, 3) := by decide +kernel
theorem dX4_bringParts_5 : decode cX4_bringParts 5 = .ok (.iload_n 1, 1) := by decide +kernel
theorem dX4_bringParts_6 : decode cX4_bringParts 6 = .ok (.iconst 5, 1) := by decide +kernel
theorem dX4_bringParts_7 : decode cX4_bringParts 7 = .ok (.if_icmp .eq 14, 3) := by decide +kernel
theorem dX4_bringParts_10 : decode cX4_bringParts 10 = .ok (.iload_n 1, 1) := by decide +kernel
theorem dX4_bringParts_11 : decode cX4_bringParts 11 = .ok (.bipush 6, 2) := by decide +kernel
theorem dX4_bringParts_13 : decode cX4_bringParts 13 = .ok (.if_icmp .ne 12, 3) := by decide +kernel
theorem dX4_bringParts_16 : decode cX4_bringParts 16 = .ok (.iload_n 2, 1) := by decide +kernel
theorem dX4_bringParts_17 : decode cX4_bringParts 17 = .ok (.iconst 1, 1) := by decide +kernel
theorem dX4_bringParts_18 : decode cX4_bringParts 18 = .ok (.if_icmp .ne 7, 3) := by decide +kernel
theorem dX4_bringParts_21 : decode cX4_bringParts 21 = .ok (.iconst 1, 1) := by decide +kernel
theorem dX4_bringParts_22 : decode cX4_bringParts 22 = .ok (.goto 4, 3) := by decide +kernel
theorem dX4_bringParts_25 : decode cX4_bringParts 25 = .ok (.iconst 0, 1) := by decide +kernel
theorem dX4_bringParts_26 : decode cX4_bringParts 26 = .ok (.istore 5, 2) := by decide +kernel
theorem dX4_bringParts_28 : decode cX4_bringParts 28 = .ok (.iload_n 1, 1) := by decide +kernel
theorem dX4_bringParts_29 : decode cX4_bringParts 29 = .ok (.iconst 5, 1) := by decide +kernel
theorem dX4_bringParts_30 : decode cX4_bringParts 30 = .ok (.if_icmp .eq 31, 3) := by decide +kernel
theorem dX4_bringParts_33 : decode cX4_bringParts 33 = .ok (.iload_n 1, 1) := by decide +kernel
theorem dX4_bringParts_34 : decode cX4_bringParts 34 = .ok (.bipush 7, 2) := by decide +kernel
theorem dX4_bringParts_36 : decode cX4_bringParts 36 = .ok (.if_icmp .eq 25, 3) := by decide +kernel
theorem dX4_bringParts_39 : decode cX4_bringParts 39 = .ok (.iload_n 1, 1) := by decide +kernel
theorem dX4_bringParts_40 : decode cX4_bringParts 40 = .ok (.bipush 6, 2) := by decide +kernel
theorem dX4_bringParts_42 : decode cX4_bringParts 42 = .ok (.if_icmp .ne 8, 3) := by decide +kernel
theorem dX4_bringParts_45 : decode cX4_bringParts 45 = .ok (.iload_n 2, 1) := by decide +kernel
theorem dX4_bringParts_46 : decode cX4_bringParts 46 = .ok (.iconst 2, 1) := by decide +kernel
theorem dX4_bringParts_47 : decode cX4_bringParts 47 = .ok (.if_icmp .eq 14, 3) := by decide +kernel
theorem dX4_bringParts_50 : decode cX4_bringParts 50 = .ok (.iload_n 1, 1) := by decide +kernel
theorem dX4_bringParts_51 : decode cX4_bringParts 51 = .ok (.bipush 13, 2) := by decide +kernel
theorem dX4_bringParts_53 : decode cX4_bringParts 53 = .ok (.if_icmp .ne 12, 3) := by decide +kernel
theorem dX4_bringParts_56 : decode cX4_bringParts 56 = .ok (.iload_n 2, 1) := by decide +kernel
theorem dX4_bringParts_57 : decode cX4_bringParts 57 = .ok (.iconst 2, 1) := by decide +kernel
theorem dX4_bringParts_58 : decode cX4_bringParts 58 = .ok (.if_icmp .ne 7, 3) := by decide +kernel
theorem dX4_bringParts_61 : decode cX4_bringParts 61 = .ok (.iconst 1, 1) := by decide +kernel
theorem dX4_bringParts_62 : decode cX4_bringParts 62 = .ok (.goto 4, 3) := by decide +kernel
theorem dX4_bringParts_65 : decode cX4_bringParts 65 = .ok (.iconst 0, 1) := by decide +kernel
theorem dX4_bringParts_66 : decode cX4_bringParts 66 = .ok (.istore 6, 2) := by decide +kernel
theorem dX4_bringParts_68 : decode cX4_bringParts 68 = .ok (.iload 5, 2) := by decide +kernel
theorem dX4_bringParts_70 : decode cX4_bringParts 70 = .ok (.ifCond .eq 20, 3) := by decide +kernel
theorem dX4_bringParts_73 : decode cX4_bringParts 73 = .ok (.aload_n 0, 1) := by decide +kernel
theorem dX4_bringParts_74 : decode cX4_bringParts 74 = .ok (.getfield 14, 3) := by decide +kernel
theorem dX4_bringParts_77 : decode cX4_bringParts 77 = .ok (.iload 4, 2) := by decide +kernel
theorem dX4_bringParts_79 : decode cX4_bringParts 79 = .ok (.aload_n 0, 1) := by decide +kernel
theorem dX4_bringParts_80 : decode cX4_bringParts 80 = .ok (.getfield 27, 3) := by decide +kernel
theorem dX4_bringParts_83 : decode cX4_bringParts 83 = .ok (.iload_n 3, 1) := by decide +kernel
theorem dX4_bringParts_84 : decode cX4_bringParts 84 = .ok (.invokevirtual 131, 3) := by decide +kernel
theorem dX4_bringParts_87 : decode cX4_bringParts 87 = .ok (.invokevirtual 140, 3) := by decide +kernel
theorem dX4_bringParts_90 : decode cX4_bringParts 90 = .ok (.iload 6, 2) := by decide +kernel
theorem dX4_bringParts_92 : decode cX4_bringParts 92 = .ok (.ifCond .eq 20, 3) := by decide +kernel
theorem dX4_bringParts_95 : decode cX4_bringParts 95 = .ok (.aload_n 0, 1) := by decide +kernel
theorem dX4_bringParts_96 : decode cX4_bringParts 96 = .ok (.getfield 14, 3) := by decide +kernel
theorem dX4_bringParts_99 : decode cX4_bringParts 99 = .ok (.iload 4, 2) := by decide +kernel
theorem dX4_bringParts_101 : decode cX4_bringParts 101 = .ok (.aload_n 0, 1) := by decide +kernel
theorem dX4_bringParts_102 : decode cX4_bringParts 102 = .ok (.getfield 27, 3) := by decide +kernel
theorem dX4_bringParts_105 : decode cX4_bringParts 105 = .ok (.iload_n 3, 1) := by decide +kernel
theorem dX4_bringParts_106 : decode cX4_bringParts 106 = .ok (.invokevirtual 134, 3) := by decide +kernel
theorem dX4_bringParts_109 : decode cX4_bringParts 109 = .ok (.invokevirtual 140, 3) := by decide +kernel
theorem dX4_bringParts_112 : decode cX4_bringParts 112 = .ok (.return_, 1) := by decide +kernel
theorem dX4_goalOfPremise_0 : decode cX4_goalOfPremise 0 = .ok (.iload_n 1, 1) := by decide +kernel
theorem dX4_goalOfPremise_1 : decode cX4_goalOfPremise 1 = .ok (.tableswitch 125 3 13 #[59, 96, 125, 125, 125, 125, 125, 125, 86, 96, 106], 59) := by decide +kernel
theorem dX4_goalOfPremise_60 : decode cX4_goalOfPremise 60 = .ok (.iload_n 2, 1) := by decide +kernel
theorem dX4_goalOfPremise_61 : decode cX4_goalOfPremise 61 = .ok (.iconst 1, 1) := by decide +kernel
theorem dX4_goalOfPremise_62 : decode cX4_goalOfPremise 62 = .ok (.if_icmp .ne 15, 3) := by decide +kernel
theorem dX4_goalOfPremise_65 : decode cX4_goalOfPremise 65 = .ok (.aload_n 0, 1) := by decide +kernel
theorem dX4_goalOfPremise_66 : decode cX4_goalOfPremise 66 = .ok (.getfield 27, 3) := by decide +kernel
theorem dX4_goalOfPremise_69 : decode cX4_goalOfPremise 69 = .ok (.iload 4, 2) := by decide +kernel
theorem dX4_goalOfPremise_71 : decode cX4_goalOfPremise 71 = .ok (.invokevirtual 131, 3) := by decide +kernel
theorem dX4_goalOfPremise_74 : decode cX4_goalOfPremise 74 = .ok (.goto 12, 3) := by decide +kernel
theorem dX4_goalOfPremise_77 : decode cX4_goalOfPremise 77 = .ok (.aload_n 0, 1) := by decide +kernel
theorem dX4_goalOfPremise_78 : decode cX4_goalOfPremise 78 = .ok (.getfield 27, 3) := by decide +kernel
theorem dX4_goalOfPremise_81 : decode cX4_goalOfPremise 81 = .ok (.iload 4, 2) := by decide +kernel
theorem dX4_goalOfPremise_83 : decode cX4_goalOfPremise 83 = .ok (.invokevirtual 134, 3) := by decide +kernel
theorem dX4_goalOfPremise_86 : decode cX4_goalOfPremise 86 = .ok (.ireturn, 1) := by decide +kernel
theorem dX4_goalOfPremise_87 : decode cX4_goalOfPremise 87 = .ok (.aload_n 0, 1) := by decide +kernel
theorem dX4_goalOfPremise_88 : decode cX4_goalOfPremise 88 = .ok (.getfield 27, 3) := by decide +kernel
theorem dX4_goalOfPremise_91 : decode cX4_goalOfPremise 91 = .ok (.iload 4, 2) := by decide +kernel
theorem dX4_goalOfPremise_93 : decode cX4_goalOfPremise 93 = .ok (.invokevirtual 131, 3) := by decide +kernel
theorem dX4_goalOfPremise_96 : decode cX4_goalOfPremise 96 = .ok (.ireturn, 1) := by decide +kernel
theorem dX4_goalOfPremise_97 : decode cX4_goalOfPremise 97 = .ok (.aload_n 0, 1) := by decide +kernel
theorem dX4_goalOfPremise_98 : decode cX4_goalOfPremise 98 = .ok (.getfield 27, 3) := by decide +kernel
theorem dX4_goalOfPremise_101 : decode cX4_goalOfPremise 101 = .ok (.iload 4, 2) := by decide +kernel
theorem dX4_goalOfPremise_103 : decode cX4_goalOfPremise 103 = .ok (.invokevirtual 134, 3) := by decide +kernel
theorem dX4_goalOfPremise_106 : decode cX4_goalOfPremise 106 = .ok (.ireturn, 1) := by decide +kernel
theorem dX4_goalOfPremise_107 : decode cX4_goalOfPremise 107 = .ok (.iload_n 2, 1) := by decide +kernel
theorem dX4_goalOfPremise_108 : decode cX4_goalOfPremise 108 = .ok (.iconst 1, 1) := by decide +kernel
theorem dX4_goalOfPremise_109 : decode cX4_goalOfPremise 109 = .ok (.if_icmp .ne 14, 3) := by decide +kernel
theorem dX4_goalOfPremise_112 : decode cX4_goalOfPremise 112 = .ok (.aload_n 0, 1) := by decide +kernel
theorem dX4_goalOfPremise_113 : decode cX4_goalOfPremise 113 = .ok (.getfield 27, 3) := by decide +kernel
theorem dX4_goalOfPremise_116 : decode cX4_goalOfPremise 116 = .ok (.iload_n 3, 1) := by decide +kernel
theorem dX4_goalOfPremise_117 : decode cX4_goalOfPremise 117 = .ok (.invokevirtual 131, 3) := by decide +kernel
theorem dX4_goalOfPremise_120 : decode cX4_goalOfPremise 120 = .ok (.goto 5, 3) := by decide +kernel
theorem dX4_goalOfPremise_123 : decode cX4_goalOfPremise 123 = .ok (.iload 4, 2) := by decide +kernel
theorem dX4_goalOfPremise_125 : decode cX4_goalOfPremise 125 = .ok (.ireturn, 1) := by decide +kernel
theorem dX4_goalOfPremise_126 : decode cX4_goalOfPremise 126 = .ok (.iload 4, 2) := by decide +kernel
theorem dX4_goalOfPremise_128 : decode cX4_goalOfPremise 128 = .ok (.ireturn, 1) := by decide +kernel
theorem dX5_init_0 : decode cX5_init 0 = .ok (.aload_n 0, 1) := by decide +kernel
theorem dX5_init_1 : decode cX5_init 1 = .ok (.invokespecial 3, 3) := by decide +kernel
theorem dX5_init_4 : decode cX5_init 4 = .ok (.aload_n 0, 1) := by decide +kernel
theorem dX5_init_5 : decode cX5_init 5 = .ok (.iconst 0, 1) := by decide +kernel
theorem dX5_init_6 : decode cX5_init 6 = .ok (.putfield 9, 3) := by decide +kernel
theorem dX5_init_9 : decode cX5_init 9 = .ok (.aload_n 0, 1) := by decide +kernel
theorem dX5_init_10 : decode cX5_init 10 = .ok (.iload_n 1, 1) := by decide +kernel
theorem dX5_init_11 : decode cX5_init 11 = .ok (.bipush 10, 2) := by decide +kernel
theorem dX5_init_13 : decode cX5_init 13 = .ok (.imul, 1) := by decide +kernel
theorem dX5_init_14 : decode cX5_init 14 = .ok (.newarray .long, 2) := by decide +kernel
theorem dX5_init_16 : decode cX5_init 16 = .ok (.putfield 15, 3) := by decide +kernel
theorem dX5_init_19 : decode cX5_init 19 = .ok (.return_, 1) := by decide +kernel
theorem dX5_reach_0 : decode cX5_reach 0 = .ok (.iload_n 1, 1) := by decide +kernel
theorem dX5_reach_1 : decode cX5_reach 1 = .ok (.iconst 1, 1) := by decide +kernel
theorem dX5_reach_2 : decode cX5_reach 2 = .ok (.iadd, 1) := by decide +kernel
theorem dX5_reach_3 : decode cX5_reach 3 = .ok (.bipush 10, 2) := by decide +kernel
theorem dX5_reach_5 : decode cX5_reach 5 = .ok (.imul, 1) := by decide +kernel
theorem dX5_reach_6 : decode cX5_reach 6 = .ok (.istore_n 2, 1) := by decide +kernel
theorem dX5_reach_7 : decode cX5_reach 7 = .ok (.iload_n 2, 1) := by decide +kernel
theorem dX5_reach_8 : decode cX5_reach 8 = .ok (.aload_n 0, 1) := by decide +kernel
theorem dX5_reach_9 : decode cX5_reach 9 = .ok (.getfield 15, 3) := by decide +kernel
theorem dX5_reach_12 : decode cX5_reach 12 = .ok (.arraylength, 1) := by decide +kernel
theorem dX5_reach_13 : decode cX5_reach 13 = .ok (.if_icmp .le 25, 3) := by decide +kernel
theorem dX5_reach_16 : decode cX5_reach 16 = .ok (.aload_n 0, 1) := by decide +kernel
theorem dX5_reach_17 : decode cX5_reach 17 = .ok (.aload_n 0, 1) := by decide +kernel
theorem dX5_reach_18 : decode cX5_reach 18 = .ok (.getfield 15, 3) := by decide +kernel
theorem dX5_reach_21 : decode cX5_reach 21 = .ok (.iload_n 2, 1) := by decide +kernel
theorem dX5_reach_22 : decode cX5_reach 22 = .ok (.iconst 2, 1) := by decide +kernel
theorem dX5_reach_23 : decode cX5_reach 23 = .ok (.aload_n 0, 1) := by decide +kernel
theorem dX5_reach_24 : decode cX5_reach 24 = .ok (.getfield 15, 3) := by decide +kernel
theorem dX5_reach_27 : decode cX5_reach 27 = .ok (.arraylength, 1) := by decide +kernel
theorem dX5_reach_28 : decode cX5_reach 28 = .ok (.imul, 1) := by decide +kernel
theorem dX5_reach_29 : decode cX5_reach 29 = .ok (.invokestatic 19, 3) := by decide +kernel
theorem dX5_reach_32 : decode cX5_reach 32 = .ok (.invokestatic 25, 3) := by decide +kernel
theorem dX5_reach_35 : decode cX5_reach 35 = .ok (.putfield 15, 3) := by decide +kernel
theorem dX5_reach_38 : decode cX5_reach 38 = .ok (.return_, 1) := by decide +kernel
theorem dX5_has_0 : decode cX5_has 0 = .ok (.aload_n 0, 1) := by decide +kernel
theorem dX5_has_1 : decode cX5_has 1 = .ok (.iload_n 1, 1) := by decide +kernel
theorem dX5_has_2 : decode cX5_has 2 = .ok (.iload_n 2, 1) := by decide +kernel
theorem dX5_has_3 : decode cX5_has 3 = .ok (.invokevirtual 31, 3) := by decide +kernel
theorem dX5_has_6 : decode cX5_has 6 = .ok (.ifCond .eq 30, 3) := by decide +kernel
theorem dX5_has_9 : decode cX5_has 9 = .ok (.aload_n 0, 1) := by decide +kernel
theorem dX5_has_10 : decode cX5_has 10 = .ok (.getfield 15, 3) := by decide +kernel
theorem dX5_has_13 : decode cX5_has 13 = .ok (.iload_n 1, 1) := by decide +kernel
theorem dX5_has_14 : decode cX5_has 14 = .ok (.bipush 10, 2) := by decide +kernel
theorem dX5_has_16 : decode cX5_has 16 = .ok (.imul, 1) := by decide +kernel
theorem dX5_has_17 : decode cX5_has 17 = .ok (.iload_n 2, 1) := by decide +kernel
theorem dX5_has_18 : decode cX5_has 18 = .ok (.bipush 6, 2) := by decide +kernel
theorem dX5_has_20 : decode cX5_has 20 = .ok (.ishr, 1) := by decide +kernel
theorem dX5_has_21 : decode cX5_has 21 = .ok (.iadd, 1) := by decide +kernel
theorem dX5_has_22 : decode cX5_has 22 = .ok (.laload, 1) := by decide +kernel
theorem dX5_has_23 : decode cX5_has 23 = .ok (.iload_n 2, 1) := by decide +kernel
theorem dX5_has_24 : decode cX5_has 24 = .ok (.lushr, 1) := by decide +kernel
theorem dX5_has_25 : decode cX5_has 25 = .ok (.lconst 1, 1) := by decide +kernel
theorem dX5_has_26 : decode cX5_has 26 = .ok (.land, 1) := by decide +kernel
theorem dX5_has_27 : decode cX5_has 27 = .ok (.lconst 0, 1) := by decide +kernel
theorem dX5_has_28 : decode cX5_has 28 = .ok (.lcmp, 1) := by decide +kernel
theorem dX5_has_29 : decode cX5_has 29 = .ok (.ifCond .eq 7, 3) := by decide +kernel
theorem dX5_has_32 : decode cX5_has 32 = .ok (.iconst 1, 1) := by decide +kernel
theorem dX5_has_33 : decode cX5_has 33 = .ok (.goto 4, 3) := by decide +kernel
theorem dX5_has_36 : decode cX5_has 36 = .ok (.iconst 0, 1) := by decide +kernel
theorem dX5_has_37 : decode cX5_has 37 = .ok (.ireturn, 1) := by decide +kernel
theorem dX5_add_0 : decode cX5_add 0 = .ok (.aload_n 0, 1) := by decide +kernel
theorem dX5_add_1 : decode cX5_add 1 = .ok (.iload_n 1, 1) := by decide +kernel
theorem dX5_add_2 : decode cX5_add 2 = .ok (.iload_n 2, 1) := by decide +kernel
theorem dX5_add_3 : decode cX5_add 3 = .ok (.invokevirtual 31, 3) := by decide +kernel
theorem dX5_add_6 : decode cX5_add 6 = .ok (.ifCond .eq 38, 3) := by decide +kernel
theorem dX5_add_9 : decode cX5_add 9 = .ok (.aload_n 0, 1) := by decide +kernel
theorem dX5_add_10 : decode cX5_add 10 = .ok (.getfield 15, 3) := by decide +kernel
theorem dX5_add_13 : decode cX5_add 13 = .ok (.iload_n 1, 1) := by decide +kernel
theorem dX5_add_14 : decode cX5_add 14 = .ok (.bipush 10, 2) := by decide +kernel
theorem dX5_add_16 : decode cX5_add 16 = .ok (.imul, 1) := by decide +kernel
theorem dX5_add_17 : decode cX5_add 17 = .ok (.iload_n 2, 1) := by decide +kernel
theorem dX5_add_18 : decode cX5_add 18 = .ok (.bipush 6, 2) := by decide +kernel
theorem dX5_add_20 : decode cX5_add 20 = .ok (.ishr, 1) := by decide +kernel
theorem dX5_add_21 : decode cX5_add 21 = .ok (.iadd, 1) := by decide +kernel
theorem dX5_add_22 : decode cX5_add 22 = .ok (.dup2, 1) := by decide +kernel
theorem dX5_add_23 : decode cX5_add 23 = .ok (.laload, 1) := by decide +kernel
theorem dX5_add_24 : decode cX5_add 24 = .ok (.lconst 1, 1) := by decide +kernel
theorem dX5_add_25 : decode cX5_add 25 = .ok (.iload_n 2, 1) := by decide +kernel
theorem dX5_add_26 : decode cX5_add 26 = .ok (.lshl, 1) := by decide +kernel
theorem dX5_add_27 : decode cX5_add 27 = .ok (.lor, 1) := by decide +kernel
theorem dX5_add_28 : decode cX5_add 28 = .ok (.lastore, 1) := by decide +kernel
theorem dX5_add_29 : decode cX5_add 29 = .ok (.aload_n 0, 1) := by decide +kernel
theorem dX5_add_30 : decode cX5_add 30 = .ok (.aload_n 0, 1) := by decide +kernel
theorem dX5_add_31 : decode cX5_add 31 = .ok (.getfield 9, 3) := by decide +kernel
theorem dX5_add_34 : decode cX5_add 34 = .ok (.iload_n 2, 1) := by decide +kernel
theorem dX5_add_35 : decode cX5_add 35 = .ok (.bipush 6, 2) := by decide +kernel
theorem dX5_add_37 : decode cX5_add 37 = .ok (.ishr, 1) := by decide +kernel
theorem dX5_add_38 : decode cX5_add 38 = .ok (.invokestatic 19, 3) := by decide +kernel
theorem dX5_add_41 : decode cX5_add 41 = .ok (.putfield 9, 3) := by decide +kernel
theorem dX5_add_44 : decode cX5_add 44 = .ok (.return_, 1) := by decide +kernel
theorem dX5_remove_0 : decode cX5_remove 0 = .ok (.aload_n 0, 1) := by decide +kernel
theorem dX5_remove_1 : decode cX5_remove 1 = .ok (.iload_n 1, 1) := by decide +kernel
theorem dX5_remove_2 : decode cX5_remove 2 = .ok (.iload_n 2, 1) := by decide +kernel
theorem dX5_remove_3 : decode cX5_remove 3 = .ok (.invokevirtual 31, 3) := by decide +kernel
theorem dX5_remove_6 : decode cX5_remove 6 = .ok (.ifCond .eq 27, 3) := by decide +kernel
theorem dX5_remove_9 : decode cX5_remove 9 = .ok (.aload_n 0, 1) := by decide +kernel
theorem dX5_remove_10 : decode cX5_remove 10 = .ok (.getfield 15, 3) := by decide +kernel
theorem dX5_remove_13 : decode cX5_remove 13 = .ok (.iload_n 1, 1) := by decide +kernel
theorem dX5_remove_14 : decode cX5_remove 14 = .ok (.bipush 10, 2) := by decide +kernel
theorem dX5_remove_16 : decode cX5_remove 16 = .ok (.imul, 1) := by decide +kernel
theorem dX5_remove_17 : decode cX5_remove 17 = .ok (.iload_n 2, 1) := by decide +kernel
theorem dX5_remove_18 : decode cX5_remove 18 = .ok (.bipush 6, 2) := by decide +kernel
theorem dX5_remove_20 : decode cX5_remove 20 = .ok (.ishr, 1) := by decide +kernel
theorem dX5_remove_21 : decode cX5_remove 21 = .ok (.iadd, 1) := by decide +kernel
theorem dX5_remove_22 : decode cX5_remove 22 = .ok (.dup2, 1) := by decide +kernel
theorem dX5_remove_23 : decode cX5_remove 23 = .ok (.laload, 1) := by decide +kernel
theorem dX5_remove_24 : decode cX5_remove 24 = .ok (.lconst 1, 1) := by decide +kernel
theorem dX5_remove_25 : decode cX5_remove 25 = .ok (.iload_n 2, 1) := by decide +kernel
theorem dX5_remove_26 : decode cX5_remove 26 = .ok (.lshl, 1) := by decide +kernel
theorem dX5_remove_27 : decode cX5_remove 27 = .ok (.ldc2_w 35, 3) := by decide +kernel
theorem dX5_remove_30 : decode cX5_remove 30 = .ok (.lxor, 1) := by decide +kernel
theorem dX5_remove_31 : decode cX5_remove 31 = .ok (.land, 1) := by decide +kernel
theorem dX5_remove_32 : decode cX5_remove 32 = .ok (.lastore, 1) := by decide +kernel
theorem dX5_remove_33 : decode cX5_remove 33 = .ok (.return_, 1) := by decide +kernel
theorem dX5_clear_0 : decode cX5_clear 0 = .ok (.aload_n 0, 1) := by decide +kernel
theorem dX5_clear_1 : decode cX5_clear 1 = .ok (.iload_n 1, 1) := by decide +kernel
theorem dX5_clear_2 : decode cX5_clear 2 = .ok (.invokevirtual 37, 3) := by decide +kernel
theorem dX5_clear_5 : decode cX5_clear 5 = .ok (.ifCond .eq 21, 3) := by decide +kernel
theorem dX5_clear_8 : decode cX5_clear 8 = .ok (.aload_n 0, 1) := by decide +kernel
theorem dX5_clear_9 : decode cX5_clear 9 = .ok (.getfield 15, 3) := by decide +kernel
theorem dX5_clear_12 : decode cX5_clear 12 = .ok (.iload_n 1, 1) := by decide +kernel
theorem dX5_clear_13 : decode cX5_clear 13 = .ok (.bipush 10, 2) := by decide +kernel
theorem dX5_clear_15 : decode cX5_clear 15 = .ok (.imul, 1) := by decide +kernel
theorem dX5_clear_16 : decode cX5_clear 16 = .ok (.iload_n 1, 1) := by decide +kernel
theorem dX5_clear_17 : decode cX5_clear 17 = .ok (.iconst 1, 1) := by decide +kernel
theorem dX5_clear_18 : decode cX5_clear 18 = .ok (.iadd, 1) := by decide +kernel
theorem dX5_clear_19 : decode cX5_clear 19 = .ok (.bipush 10, 2) := by decide +kernel
theorem dX5_clear_21 : decode cX5_clear 21 = .ok (.imul, 1) := by decide +kernel
theorem dX5_clear_22 : decode cX5_clear 22 = .ok (.lconst 0, 1) := by decide +kernel
theorem dX5_clear_23 : decode cX5_clear 23 = .ok (.invokestatic 41, 3) := by decide +kernel
theorem dX5_clear_26 : decode cX5_clear 26 = .ok (.return_, 1) := by decide +kernel
theorem dX5_copy_0 : decode cX5_copy 0 = .ok (.aload_n 0, 1) := by decide +kernel
theorem dX5_copy_1 : decode cX5_copy 1 = .ok (.iload_n 1, 1) := by decide +kernel
theorem dX5_copy_2 : decode cX5_copy 2 = .ok (.invokevirtual 37, 3) := by decide +kernel
theorem dX5_copy_5 : decode cX5_copy 5 = .ok (.ifCond .eq 32, 3) := by decide +kernel
theorem dX5_copy_8 : decode cX5_copy 8 = .ok (.aload_n 0, 1) := by decide +kernel
theorem dX5_copy_9 : decode cX5_copy 9 = .ok (.iload_n 2, 1) := by decide +kernel
theorem dX5_copy_10 : decode cX5_copy 10 = .ok (.invokevirtual 37, 3) := by decide +kernel
theorem dX5_copy_13 : decode cX5_copy 13 = .ok (.ifCond .eq 24, 3) := by decide +kernel
theorem dX5_copy_16 : decode cX5_copy 16 = .ok (.aload_n 0, 1) := by decide +kernel
theorem dX5_copy_17 : decode cX5_copy 17 = .ok (.getfield 15, 3) := by decide +kernel
theorem dX5_copy_20 : decode cX5_copy 20 = .ok (.iload_n 1, 1) := by decide +kernel
theorem dX5_copy_21 : decode cX5_copy 21 = .ok (.bipush 10, 2) := by decide +kernel
theorem dX5_copy_23 : decode cX5_copy 23 = .ok (.imul, 1) := by decide +kernel
theorem dX5_copy_24 : decode cX5_copy 24 = .ok (.aload_n 0, 1) := by decide +kernel
theorem dX5_copy_25 : decode cX5_copy 25 = .ok (.getfield 15, 3) := by decide +kernel
theorem dX5_copy_28 : decode cX5_copy 28 = .ok (.iload_n 2, 1) := by decide +kernel
theorem dX5_copy_29 : decode cX5_copy 29 = .ok (.bipush 10, 2) := by decide +kernel
theorem dX5_copy_31 : decode cX5_copy 31 = .ok (.imul, 1) := by decide +kernel
theorem dX5_copy_32 : decode cX5_copy 32 = .ok (.bipush 10, 2) := by decide +kernel
theorem dX5_copy_34 : decode cX5_copy 34 = .ok (.invokestatic 45, 3) := by decide +kernel
theorem dX5_copy_37 : decode cX5_copy 37 = .ok (.return_, 1) := by decide +kernel
theorem dX5_merge_0 : decode cX5_merge 0 = .ok (.aload_n 0, 1) := by decide +kernel
theorem dX5_merge_1 : decode cX5_merge 1 = .ok (.iload_n 2, 1) := by decide +kernel
theorem dX5_merge_2 : decode cX5_merge 2 = .ok (.invokevirtual 37, 3) := by decide +kernel
theorem dX5_merge_5 : decode cX5_merge 5 = .ok (.ifCond .eq 11, 3) := by decide +kernel
theorem dX5_merge_8 : decode cX5_merge 8 = .ok (.aload_n 0, 1) := by decide +kernel
theorem dX5_merge_9 : decode cX5_merge 9 = .ok (.iload_n 1, 1) := by decide +kernel
theorem dX5_merge_10 : decode cX5_merge 10 = .ok (.invokevirtual 37, 3) := by decide +kernel
theorem dX5_merge_13 : decode cX5_merge 13 = .ok (.ifCond .ne 4, 3) := by decide +kernel
theorem dX5_merge_16 : decode cX5_merge 16 = .ok (.return_, 1) := by decide +kernel
theorem dX5_merge_17 : decode cX5_merge 17 = .ok (.iconst 0, 1) := by decide +kernel
theorem dX5_merge_18 : decode cX5_merge 18 = .ok (.istore 4, 2) := by decide +kernel
theorem dX5_merge_20 : decode cX5_merge 20 = .ok (.iload 4, 2) := by decide +kernel
theorem dX5_merge_22 : decode cX5_merge 22 = .ok (.aload_n 0, 1) := by decide +kernel
theorem dX5_merge_23 : decode cX5_merge 23 = .ok (.getfield 9, 3) := by decide +kernel
theorem dX5_merge_26 : decode cX5_merge 26 = .ok (.if_icmp .gt 65, 3) := by decide +kernel
theorem dX5_merge_29 : decode cX5_merge 29 = .ok (.aload_n 0, 1) := by decide +kernel
theorem dX5_merge_30 : decode cX5_merge 30 = .ok (.getfield 15, 3) := by decide +kernel
theorem dX5_merge_33 : decode cX5_merge 33 = .ok (.iload_n 2, 1) := by decide +kernel
theorem dX5_merge_34 : decode cX5_merge 34 = .ok (.bipush 10, 2) := by decide +kernel
theorem dX5_merge_36 : decode cX5_merge 36 = .ok (.imul, 1) := by decide +kernel
theorem dX5_merge_37 : decode cX5_merge 37 = .ok (.iload 4, 2) := by decide +kernel
theorem dX5_merge_39 : decode cX5_merge 39 = .ok (.iadd, 1) := by decide +kernel
theorem dX5_merge_40 : decode cX5_merge 40 = .ok (.laload, 1) := by decide +kernel
theorem dX5_merge_41 : decode cX5_merge 41 = .ok (.lstore 5, 2) := by decide +kernel
theorem dX5_merge_43 : decode cX5_merge 43 = .ok (.iload_n 3, 1) := by decide +kernel
theorem dX5_merge_44 : decode cX5_merge 44 = .ok (.ifCond .le 24, 3) := by decide +kernel
theorem dX5_merge_47 : decode cX5_merge 47 = .ok (.iload 4, 2) := by decide +kernel
theorem dX5_merge_49 : decode cX5_merge 49 = .ok (.iload_n 3, 1) := by decide +kernel
theorem dX5_merge_50 : decode cX5_merge 50 = .ok (.bipush 6, 2) := by decide +kernel
theorem dX5_merge_52 : decode cX5_merge 52 = .ok (.ishr, 1) := by decide +kernel
theorem dX5_merge_53 : decode cX5_merge 53 = .ok (.if_icmp .ne 15, 3) := by decide +kernel
theorem dX5_merge_56 : decode cX5_merge 56 = .ok (.lload 5, 2) := by decide +kernel
theorem dX5_merge_58 : decode cX5_merge 58 = .ok (.lconst 1, 1) := by decide +kernel
theorem dX5_merge_59 : decode cX5_merge 59 = .ok (.iload_n 3, 1) := by decide +kernel
theorem dX5_merge_60 : decode cX5_merge 60 = .ok (.lshl, 1) := by decide +kernel
theorem dX5_merge_61 : decode cX5_merge 61 = .ok (.ldc2_w 35, 3) := by decide +kernel
theorem dX5_merge_64 : decode cX5_merge 64 = .ok (.lxor, 1) := by decide +kernel
theorem dX5_merge_65 : decode cX5_merge 65 = .ok (.land, 1) := by decide +kernel
theorem dX5_merge_66 : decode cX5_merge 66 = .ok (.lstore 5, 2) := by decide +kernel
theorem dX5_merge_68 : decode cX5_merge 68 = .ok (.aload_n 0, 1) := by decide +kernel
theorem dX5_merge_69 : decode cX5_merge 69 = .ok (.getfield 15, 3) := by decide +kernel
theorem dX5_merge_72 : decode cX5_merge 72 = .ok (.iload_n 1, 1) := by decide +kernel
theorem dX5_merge_73 : decode cX5_merge 73 = .ok (.bipush 10, 2) := by decide +kernel
theorem dX5_merge_75 : decode cX5_merge 75 = .ok (.imul, 1) := by decide +kernel
theorem dX5_merge_76 : decode cX5_merge 76 = .ok (.iload 4, 2) := by decide +kernel
theorem dX5_merge_78 : decode cX5_merge 78 = .ok (.iadd, 1) := by decide +kernel
theorem dX5_merge_79 : decode cX5_merge 79 = .ok (.dup2, 1) := by decide +kernel
theorem dX5_merge_80 : decode cX5_merge 80 = .ok (.laload, 1) := by decide +kernel
theorem dX5_merge_81 : decode cX5_merge 81 = .ok (.lload 5, 2) := by decide +kernel
theorem dX5_merge_83 : decode cX5_merge 83 = .ok (.lor, 1) := by decide +kernel
theorem dX5_merge_84 : decode cX5_merge 84 = .ok (.lastore, 1) := by decide +kernel
theorem dX5_merge_85 : decode cX5_merge 85 = .ok (.iinc 4 1, 3) := by decide +kernel
theorem dX5_merge_88 : decode cX5_merge 88 = .ok (.goto (-68), 3) := by decide +kernel
theorem dX5_merge_91 : decode cX5_merge 91 = .ok (.return_, 1) := by decide +kernel
theorem dX5_count_0 : decode cX5_count 0 = .ok (.iconst 0, 1) := by decide +kernel
theorem dX5_count_1 : decode cX5_count 1 = .ok (.istore_n 2, 1) := by decide +kernel
theorem dX5_count_2 : decode cX5_count 2 = .ok (.iconst 0, 1) := by decide +kernel
theorem dX5_count_3 : decode cX5_count 3 = .ok (.istore_n 3, 1) := by decide +kernel
theorem dX5_count_4 : decode cX5_count 4 = .ok (.iload_n 3, 1) := by decide +kernel
theorem dX5_count_5 : decode cX5_count 5 = .ok (.aload_n 0, 1) := by decide +kernel
theorem dX5_count_6 : decode cX5_count 6 = .ok (.getfield 9, 3) := by decide +kernel
theorem dX5_count_9 : decode cX5_count 9 = .ok (.if_icmp .gt 34, 3) := by decide +kernel
theorem dX5_count_12 : decode cX5_count 12 = .ok (.aload_n 0, 1) := by decide +kernel
theorem dX5_count_13 : decode cX5_count 13 = .ok (.iload_n 1, 1) := by decide +kernel
theorem dX5_count_14 : decode cX5_count 14 = .ok (.invokevirtual 37, 3) := by decide +kernel
theorem dX5_count_17 : decode cX5_count 17 = .ok (.ifCond .eq 26, 3) := by decide +kernel
theorem dX5_count_20 : decode cX5_count 20 = .ok (.iload_n 2, 1) := by decide +kernel
theorem dX5_count_21 : decode cX5_count 21 = .ok (.aload_n 0, 1) := by decide +kernel
theorem dX5_count_22 : decode cX5_count 22 = .ok (.getfield 15, 3) := by decide +kernel
theorem dX5_count_25 : decode cX5_count 25 = .ok (.iload_n 1, 1) := by decide +kernel
theorem dX5_count_26 : decode cX5_count 26 = .ok (.bipush 10, 2) := by decide +kernel
theorem dX5_count_28 : decode cX5_count 28 = .ok (.imul, 1) := by decide +kernel
theorem dX5_count_29 : decode cX5_count 29 = .ok (.iload_n 3, 1) := by decide +kernel
theorem dX5_count_30 : decode cX5_count 30 = .ok (.iadd, 1) := by decide +kernel
theorem dX5_count_31 : decode cX5_count 31 = .ok (.laload, 1) := by decide +kernel
theorem dX5_count_32 : decode cX5_count 32 = .ok (.invokestatic 51, 3) := by decide +kernel
theorem dX5_count_35 : decode cX5_count 35 = .ok (.iadd, 1) := by decide +kernel
theorem dX5_count_36 : decode cX5_count 36 = .ok (.istore_n 2, 1) := by decide +kernel
theorem dX5_count_37 : decode cX5_count 37 = .ok (.iinc 3 1, 3) := by decide +kernel
theorem dX5_count_40 : decode cX5_count 40 = .ok (.goto (-36), 3) := by decide +kernel
theorem dX5_count_43 : decode cX5_count 43 = .ok (.iload_n 2, 1) := by decide +kernel
theorem dX5_count_44 : decode cX5_count 44 = .ok (.ireturn, 1) := by decide +kernel
theorem dX5_leastShared_0 : decode cX5_leastShared 0 = .ok (.iload 4, 2) := by decide +kernel
theorem dX5_leastShared_2 : decode cX5_leastShared 2 = .ok (.sipush 600, 3) := by decide +kernel
theorem dX5_leastShared_5 : decode cX5_leastShared 5 = .ok (.if_icmp .ge 19, 3) := by decide +kernel
theorem dX5_leastShared_8 : decode cX5_leastShared 8 = .ok (.aload_n 0, 1) := by decide +kernel
theorem dX5_leastShared_9 : decode cX5_leastShared 9 = .ok (.iload_n 1, 1) := by decide +kernel
theorem dX5_leastShared_10 : decode cX5_leastShared 10 = .ok (.invokevirtual 37, 3) := by decide +kernel
theorem dX5_leastShared_13 : decode cX5_leastShared 13 = .ok (.ifCond .eq 11, 3) := by decide +kernel
theorem dX5_leastShared_16 : decode cX5_leastShared 16 = .ok (.aload_n 2, 1) := by decide +kernel
theorem dX5_leastShared_17 : decode cX5_leastShared 17 = .ok (.iload_n 3, 1) := by decide +kernel
theorem dX5_leastShared_18 : decode cX5_leastShared 18 = .ok (.invokevirtual 37, 3) := by decide +kernel
theorem dX5_leastShared_21 : decode cX5_leastShared 21 = .ok (.ifCond .ne 5, 3) := by decide +kernel
theorem dX5_leastShared_24 : decode cX5_leastShared 24 = .ok (.iconst 0, 1) := by decide +kernel
theorem dX5_leastShared_25 : decode cX5_leastShared 25 = .ok (.ireturn, 1) := by decide +kernel
theorem dX5_leastShared_26 : decode cX5_leastShared 26 = .ok (.iload 4, 2) := by decide +kernel
theorem dX5_leastShared_28 : decode cX5_leastShared 28 = .ok (.iconst 0, 1) := by decide +kernel
theorem dX5_leastShared_29 : decode cX5_leastShared 29 = .ok (.invokestatic 19, 3) := by decide +kernel
theorem dX5_leastShared_32 : decode cX5_leastShared 32 = .ok (.iconst 1, 1) := by decide +kernel
theorem dX5_leastShared_33 : decode cX5_leastShared 33 = .ok (.iadd, 1) := by decide +kernel
theorem dX5_leastShared_34 : decode cX5_leastShared 34 = .ok (.istore 5, 2) := by decide +kernel
theorem dX5_leastShared_36 : decode cX5_leastShared 36 = .ok (.aload_n 0, 1) := by decide +kernel
theorem dX5_leastShared_37 : decode cX5_leastShared 37 = .ok (.getfield 9, 3) := by decide +kernel
theorem dX5_leastShared_40 : decode cX5_leastShared 40 = .ok (.aload_n 2, 1) := by decide +kernel
theorem dX5_leastShared_41 : decode cX5_leastShared 41 = .ok (.getfield 9, 3) := by decide +kernel
theorem dX5_leastShared_44 : decode cX5_leastShared 44 = .ok (.invokestatic 57, 3) := by decide +kernel
theorem dX5_leastShared_47 : decode cX5_leastShared 47 = .ok (.istore 6, 2) := by decide +kernel
theorem dX5_leastShared_49 : decode cX5_leastShared 49 = .ok (.iload 5, 2) := by decide +kernel
theorem dX5_leastShared_51 : decode cX5_leastShared 51 = .ok (.bipush 6, 2) := by decide +kernel
theorem dX5_leastShared_53 : decode cX5_leastShared 53 = .ok (.ishr, 1) := by decide +kernel
theorem dX5_leastShared_54 : decode cX5_leastShared 54 = .ok (.istore 7, 2) := by decide +kernel
theorem dX5_leastShared_56 : decode cX5_leastShared 56 = .ok (.iload 7, 2) := by decide +kernel
theorem dX5_leastShared_58 : decode cX5_leastShared 58 = .ok (.iload 6, 2) := by decide +kernel
theorem dX5_leastShared_60 : decode cX5_leastShared 60 = .ok (.if_icmp .gt 82, 3) := by decide +kernel
theorem dX5_leastShared_63 : decode cX5_leastShared 63 = .ok (.aload_n 0, 1) := by decide +kernel
theorem dX5_leastShared_64 : decode cX5_leastShared 64 = .ok (.getfield 15, 3) := by decide +kernel
theorem dX5_leastShared_67 : decode cX5_leastShared 67 = .ok (.iload_n 1, 1) := by decide +kernel
theorem dX5_leastShared_68 : decode cX5_leastShared 68 = .ok (.bipush 10, 2) := by decide +kernel
theorem dX5_leastShared_70 : decode cX5_leastShared 70 = .ok (.imul, 1) := by decide +kernel
theorem dX5_leastShared_71 : decode cX5_leastShared 71 = .ok (.iload 7, 2) := by decide +kernel
theorem dX5_leastShared_73 : decode cX5_leastShared 73 = .ok (.iadd, 1) := by decide +kernel
theorem dX5_leastShared_74 : decode cX5_leastShared 74 = .ok (.laload, 1) := by decide +kernel
theorem dX5_leastShared_75 : decode cX5_leastShared 75 = .ok (.aload_n 2, 1) := by decide +kernel
theorem dX5_leastShared_76 : decode cX5_leastShared 76 = .ok (.getfield 15, 3) := by decide +kernel
theorem dX5_leastShared_79 : decode cX5_leastShared 79 = .ok (.iload_n 3, 1) := by decide +kernel
theorem dX5_leastShared_80 : decode cX5_leastShared 80 = .ok (.bipush 10, 2) := by decide +kernel
theorem dX5_leastShared_82 : decode cX5_leastShared 82 = .ok (.imul, 1) := by decide +kernel
theorem dX5_leastShared_83 : decode cX5_leastShared 83 = .ok (.iload 7, 2) := by decide +kernel
theorem dX5_leastShared_85 : decode cX5_leastShared 85 = .ok (.iadd, 1) := by decide +kernel
theorem dX5_leastShared_86 : decode cX5_leastShared 86 = .ok (.laload, 1) := by decide +kernel
theorem dX5_leastShared_87 : decode cX5_leastShared 87 = .ok (.land, 1) := by decide +kernel
theorem dX5_leastShared_88 : decode cX5_leastShared 88 = .ok (.lstore 8, 2) := by decide +kernel
theorem dX5_leastShared_90 : decode cX5_leastShared 90 = .ok (.iload 7, 2) := by decide +kernel
theorem dX5_leastShared_92 : decode cX5_leastShared 92 = .ok (.iload 5, 2) := by decide +kernel
theorem dX5_leastShared_94 : decode cX5_leastShared 94 = .ok (.bipush 6, 2) := by decide +kernel
theorem dX5_leastShared_96 : decode cX5_leastShared 96 = .ok (.ishr, 1) := by decide +kernel
theorem dX5_leastShared_97 : decode cX5_leastShared 97 = .ok (.if_icmp .ne 14, 3) := by decide +kernel
theorem dX5_leastShared_100 : decode cX5_leastShared 100 = .ok (.lload 8, 2) := by decide +kernel
theorem dX5_leastShared_102 : decode cX5_leastShared 102 = .ok (.ldc2_w 35, 3) := by decide +kernel
theorem dX5_leastShared_105 : decode cX5_leastShared 105 = .ok (.iload 5, 2) := by decide +kernel
theorem dX5_leastShared_107 : decode cX5_leastShared 107 = .ok (.lshl, 1) := by decide +kernel
theorem dX5_leastShared_108 : decode cX5_leastShared 108 = .ok (.land, 1) := by decide +kernel
theorem dX5_leastShared_109 : decode cX5_leastShared 109 = .ok (.lstore 8, 2) := by decide +kernel
theorem dX5_leastShared_111 : decode cX5_leastShared 111 = .ok (.lload 8, 2) := by decide +kernel
theorem dX5_leastShared_113 : decode cX5_leastShared 113 = .ok (.lconst 0, 1) := by decide +kernel
theorem dX5_leastShared_114 : decode cX5_leastShared 114 = .ok (.lcmp, 1) := by decide +kernel
theorem dX5_leastShared_115 : decode cX5_leastShared 115 = .ok (.ifCond .eq 21, 3) := by decide +kernel
theorem dX5_leastShared_118 : decode cX5_leastShared 118 = .ok (.iload 7, 2) := by decide +kernel
theorem dX5_leastShared_120 : decode cX5_leastShared 120 = .ok (.bipush 6, 2) := by decide +kernel
theorem dX5_leastShared_122 : decode cX5_leastShared 122 = .ok (.ishl, 1) := by decide +kernel
theorem dX5_leastShared_123 : decode cX5_leastShared 123 = .ok (.lload 8, 2) := by decide +kernel
theorem dX5_leastShared_125 : decode cX5_leastShared 125 = .ok (.lload 8, 2) := by decide +kernel
theorem dX5_leastShared_127 : decode cX5_leastShared 127 = .ok (.lneg, 1) := by decide +kernel
theorem dX5_leastShared_128 : decode cX5_leastShared 128 = .ok (.land, 1) := by decide +kernel
theorem dX5_leastShared_129 : decode cX5_leastShared 129 = .ok (.lconst 1, 1) := by decide +kernel
theorem dX5_leastShared_130 : decode cX5_leastShared 130 = .ok (.lsub, 1) := by decide +kernel
theorem dX5_leastShared_131 : decode cX5_leastShared 131 = .ok (.invokestatic 51, 3) := by decide +kernel
theorem dX5_leastShared_134 : decode cX5_leastShared 134 = .ok (.iadd, 1) := by decide +kernel
theorem dX5_leastShared_135 : decode cX5_leastShared 135 = .ok (.ireturn, 1) := by decide +kernel
theorem dX5_leastShared_136 : decode cX5_leastShared 136 = .ok (.iinc 7 1, 3) := by decide +kernel
theorem dX5_leastShared_139 : decode cX5_leastShared 139 = .ok (.goto (-83), 3) := by decide +kernel
theorem dX5_leastShared_142 : decode cX5_leastShared 142 = .ok (.iconst 0, 1) := by decide +kernel
theorem dX5_leastShared_143 : decode cX5_leastShared 143 = .ok (.ireturn, 1) := by decide +kernel
theorem dX5_isRow_0 : decode cX5_isRow 0 = .ok (.iload_n 1, 1) := by decide +kernel
theorem dX5_isRow_1 : decode cX5_isRow 1 = .ok (.ifCond .lt 19, 3) := by decide +kernel
theorem dX5_isRow_4 : decode cX5_isRow 4 = .ok (.iload_n 1, 1) := by decide +kernel
theorem dX5_isRow_5 : decode cX5_isRow 5 = .ok (.aload_n 0, 1) := by decide +kernel
theorem dX5_isRow_6 : decode cX5_isRow 6 = .ok (.getfield 15, 3) := by decide +kernel
theorem dX5_isRow_9 : decode cX5_isRow 9 = .ok (.arraylength, 1) := by decide +kernel
theorem dX5_isRow_10 : decode cX5_isRow 10 = .ok (.bipush 10, 2) := by decide +kernel
theorem dX5_isRow_12 : decode cX5_isRow 12 = .ok (.idiv, 1) := by decide +kernel
theorem dX5_isRow_13 : decode cX5_isRow 13 = .ok (.if_icmp .ge 7, 3) := by decide +kernel
theorem dX5_isRow_16 : decode cX5_isRow 16 = .ok (.iconst 1, 1) := by decide +kernel
theorem dX5_isRow_17 : decode cX5_isRow 17 = .ok (.goto 4, 3) := by decide +kernel
theorem dX5_isRow_20 : decode cX5_isRow 20 = .ok (.iconst 0, 1) := by decide +kernel
theorem dX5_isRow_21 : decode cX5_isRow 21 = .ok (.ireturn, 1) := by decide +kernel
theorem dX5_isInside_0 : decode cX5_isInside 0 = .ok (.iload_n 2, 1) := by decide +kernel
theorem dX5_isInside_1 : decode cX5_isInside 1 = .ok (.ifCond .le 30, 3) := by decide +kernel
theorem dX5_isInside_4 : decode cX5_isInside 4 = .ok (.iload_n 2, 1) := by decide +kernel
theorem dX5_isInside_5 : decode cX5_isInside 5 = .ok (.sipush 600, 3) := by decide +kernel
theorem dX5_isInside_8 : decode cX5_isInside 8 = .ok (.if_icmp .gt 23, 3) := by decide +kernel
theorem dX5_isInside_11 : decode cX5_isInside 11 = .ok (.iload_n 1, 1) := by decide +kernel
theorem dX5_isInside_12 : decode cX5_isInside 12 = .ok (.ifCond .lt 19, 3) := by decide +kernel
theorem dX5_isInside_15 : decode cX5_isInside 15 = .ok (.iload_n 1, 1) := by decide +kernel
theorem dX5_isInside_16 : decode cX5_isInside 16 = .ok (.aload_n 0, 1) := by decide +kernel
theorem dX5_isInside_17 : decode cX5_isInside 17 = .ok (.getfield 15, 3) := by decide +kernel
theorem dX5_isInside_20 : decode cX5_isInside 20 = .ok (.arraylength, 1) := by decide +kernel
theorem dX5_isInside_21 : decode cX5_isInside 21 = .ok (.bipush 10, 2) := by decide +kernel
theorem dX5_isInside_23 : decode cX5_isInside 23 = .ok (.idiv, 1) := by decide +kernel
theorem dX5_isInside_24 : decode cX5_isInside 24 = .ok (.if_icmp .ge 7, 3) := by decide +kernel
theorem dX5_isInside_27 : decode cX5_isInside 27 = .ok (.iconst 1, 1) := by decide +kernel
theorem dX5_isInside_28 : decode cX5_isInside 28 = .ok (.goto 4, 3) := by decide +kernel
theorem dX5_isInside_31 : decode cX5_isInside 31 = .ok (.iconst 0, 1) := by decide +kernel
theorem dX5_isInside_32 : decode cX5_isInside 32 = .ok (.ireturn, 1) := by decide +kernel
theorem dX6_init_0 : decode cX6_init 0 = .ok (.aload_n 0, 1) := by decide +kernel
theorem dX6_init_1 : decode cX6_init 1 = .ok (.invokespecial 5, 3) := by decide +kernel
theorem dX6_init_4 : decode cX6_init 4 = .ok (.aload_n 0, 1) := by decide +kernel
theorem dX6_init_5 : decode cX6_init 5 = .ok (.new 11, 3) := by decide +kernel
theorem dX6_init_8 : decode cX6_init 8 = .ok (.dup, 1) := by decide +kernel
theorem dX6_init_9 : decode cX6_init 9 = .ok (.sipush 600, 3) := by decide +kernel
theorem dX6_init_12 : decode cX6_init 12 = .ok (.invokespecial 13, 3) := by decide +kernel
theorem dX6_init_15 : decode cX6_init 15 = .ok (.putfield 16, 3) := by decide +kernel
theorem dX6_init_18 : decode cX6_init 18 = .ok (.aload_n 0, 1) := by decide +kernel
theorem dX6_init_19 : decode cX6_init 19 = .ok (.new 20, 3) := by decide +kernel
theorem dX6_init_22 : decode cX6_init 22 = .ok (.dup, 1) := by decide +kernel
theorem dX6_init_23 : decode cX6_init 23 = .ok (.bipush 10, 2) := by decide +kernel
theorem dX6_init_25 : decode cX6_init 25 = .ok (.invokespecial 22, 3) := by decide +kernel
theorem dX6_init_28 : decode cX6_init 28 = .ok (.putfield 23, 3) := by decide +kernel
theorem dX6_init_31 : decode cX6_init 31 = .ok (.aload_n 0, 1) := by decide +kernel
theorem dX6_init_32 : decode cX6_init 32 = .ok (.new 20, 3) := by decide +kernel
theorem dX6_init_35 : decode cX6_init 35 = .ok (.dup, 1) := by decide +kernel
theorem dX6_init_36 : decode cX6_init 36 = .ok (.iconst 1, 1) := by decide +kernel
theorem dX6_init_37 : decode cX6_init 37 = .ok (.invokespecial 22, 3) := by decide +kernel
theorem dX6_init_40 : decode cX6_init 40 = .ok (.putfield 27, 3) := by decide +kernel
theorem dX6_init_43 : decode cX6_init 43 = .ok (.return_, 1) := by decide +kernel
theorem dX6_size_0 : decode cX6_size 0 = .ok (.aload_n 0, 1) := by decide +kernel
theorem dX6_size_1 : decode cX6_size 1 = .ok (.getfield 16, 3) := by decide +kernel
theorem dX6_size_4 : decode cX6_size 4 = .ok (.invokevirtual 30, 3) := by decide +kernel
theorem dX6_size_7 : decode cX6_size 7 = .ok (.ireturn, 1) := by decide +kernel
theorem dX6_holds_0 : decode cX6_holds 0 = .ok (.iload_n 1, 1) := by decide +kernel
theorem dX6_holds_1 : decode cX6_holds 1 = .ok (.iconst 1, 1) := by decide +kernel
theorem dX6_holds_2 : decode cX6_holds 2 = .ok (.if_icmp .lt 18, 3) := by decide +kernel
theorem dX6_holds_5 : decode cX6_holds 5 = .ok (.iload_n 1, 1) := by decide +kernel
theorem dX6_holds_6 : decode cX6_holds 6 = .ok (.aload_n 0, 1) := by decide +kernel
theorem dX6_holds_7 : decode cX6_holds 7 = .ok (.getfield 16, 3) := by decide +kernel
theorem dX6_holds_10 : decode cX6_holds 10 = .ok (.invokevirtual 30, 3) := by decide +kernel
theorem dX6_holds_13 : decode cX6_holds 13 = .ok (.if_icmp .gt 7, 3) := by decide +kernel
theorem dX6_holds_16 : decode cX6_holds 16 = .ok (.iconst 1, 1) := by decide +kernel
theorem dX6_holds_17 : decode cX6_holds 17 = .ok (.goto 4, 3) := by decide +kernel
theorem dX6_holds_20 : decode cX6_holds 20 = .ok (.iconst 0, 1) := by decide +kernel
theorem dX6_holds_21 : decode cX6_holds 21 = .ok (.ireturn, 1) := by decide +kernel
theorem dX6_read_0 : decode cX6_read 0 = .ok (.aload_n 0, 1) := by decide +kernel
theorem dX6_read_1 : decode cX6_read 1 = .ok (.getfield 16, 3) := by decide +kernel
theorem dX6_read_4 : decode cX6_read 4 = .ok (.iload_n 1, 1) := by decide +kernel
theorem dX6_read_5 : decode cX6_read 5 = .ok (.iload_n 2, 1) := by decide +kernel
theorem dX6_read_6 : decode cX6_read 6 = .ok (.invokevirtual 34, 3) := by decide +kernel
theorem dX6_read_9 : decode cX6_read 9 = .ok (.ireturn, 1) := by decide +kernel
theorem dX6_sortOf_0 : decode cX6_sortOf 0 = .ok (.aload_n 0, 1) := by decide +kernel
theorem dX6_sortOf_1 : decode cX6_sortOf 1 = .ok (.getfield 16, 3) := by decide +kernel
theorem dX6_sortOf_4 : decode cX6_sortOf 4 = .ok (.iload_n 1, 1) := by decide +kernel
theorem dX6_sortOf_5 : decode cX6_sortOf 5 = .ok (.iconst 0, 1) := by decide +kernel
theorem dX6_sortOf_6 : decode cX6_sortOf 6 = .ok (.invokevirtual 34, 3) := by decide +kernel
theorem dX6_sortOf_9 : decode cX6_sortOf 9 = .ok (.ireturn, 1) := by decide +kernel
theorem dX6_leftOf_0 : decode cX6_leftOf 0 = .ok (.aload_n 0, 1) := by decide +kernel
theorem dX6_leftOf_1 : decode cX6_leftOf 1 = .ok (.getfield 16, 3) := by decide +kernel
theorem dX6_leftOf_4 : decode cX6_leftOf 4 = .ok (.iload_n 1, 1) := by decide +kernel
theorem dX6_leftOf_5 : decode cX6_leftOf 5 = .ok (.iconst 1, 1) := by decide +kernel
theorem dX6_leftOf_6 : decode cX6_leftOf 6 = .ok (.invokevirtual 34, 3) := by decide +kernel
theorem dX6_leftOf_9 : decode cX6_leftOf 9 = .ok (.ireturn, 1) := by decide +kernel
theorem dX6_rightOf_0 : decode cX6_rightOf 0 = .ok (.aload_n 0, 1) := by decide +kernel
theorem dX6_rightOf_1 : decode cX6_rightOf 1 = .ok (.getfield 16, 3) := by decide +kernel
theorem dX6_rightOf_4 : decode cX6_rightOf 4 = .ok (.iload_n 1, 1) := by decide +kernel
theorem dX6_rightOf_5 : decode cX6_rightOf 5 = .ok (.iconst 2, 1) := by decide +kernel
theorem dX6_rightOf_6 : decode cX6_rightOf 6 = .ok (.invokevirtual 34, 3) := by decide +kernel
theorem dX6_rightOf_9 : decode cX6_rightOf 9 = .ok (.ireturn, 1) := by decide +kernel
theorem dX6_isOf_0 : decode cX6_isOf 0 = .ok (.iload_n 2, 1) := by decide +kernel
theorem dX6_isOf_1 : decode cX6_isOf 1 = .ok (.iconst 1, 1) := by decide +kernel
theorem dX6_isOf_2 : decode cX6_isOf 2 = .ok (.if_icmp .lt 31, 3) := by decide +kernel
theorem dX6_isOf_5 : decode cX6_isOf 5 = .ok (.iload_n 2, 1) := by decide +kernel
theorem dX6_isOf_6 : decode cX6_isOf 6 = .ok (.aload_n 0, 1) := by decide +kernel
theorem dX6_isOf_7 : decode cX6_isOf 7 = .ok (.getfield 16, 3) := by decide +kernel
theorem dX6_isOf_10 : decode cX6_isOf 10 = .ok (.invokevirtual 30, 3) := by decide +kernel
theorem dX6_isOf_13 : decode cX6_isOf 13 = .ok (.if_icmp .gt 20, 3) := by decide +kernel
theorem dX6_isOf_16 : decode cX6_isOf 16 = .ok (.aload_n 0, 1) := by decide +kernel
theorem dX6_isOf_17 : decode cX6_isOf 17 = .ok (.getfield 16, 3) := by decide +kernel
theorem dX6_isOf_20 : decode cX6_isOf 20 = .ok (.iload_n 2, 1) := by decide +kernel
theorem dX6_isOf_21 : decode cX6_isOf 21 = .ok (.iconst 0, 1) := by decide +kernel
theorem dX6_isOf_22 : decode cX6_isOf 22 = .ok (.invokevirtual 34, 3) := by decide +kernel
theorem dX6_isOf_25 : decode cX6_isOf 25 = .ok (.iload_n 1, 1) := by decide +kernel
theorem dX6_isOf_26 : decode cX6_isOf 26 = .ok (.if_icmp .ne 7, 3) := by decide +kernel
theorem dX6_isOf_29 : decode cX6_isOf 29 = .ok (.iconst 1, 1) := by decide +kernel
theorem dX6_isOf_30 : decode cX6_isOf 30 = .ok (.goto 4, 3) := by decide +kernel
theorem dX6_isOf_33 : decode cX6_isOf 33 = .ok (.iconst 0, 1) := by decide +kernel
theorem dX6_isOf_34 : decode cX6_isOf 34 = .ok (.ireturn, 1) := by decide +kernel
theorem dX6_byKind_0 : decode cX6_byKind 0 = .ok (.aload_n 0, 1) := by decide +kernel
theorem dX6_byKind_1 : decode cX6_byKind 1 = .ok (.getfield 23, 3) := by decide +kernel
theorem dX6_byKind_4 : decode cX6_byKind 4 = .ok (.areturn, 1) := by decide +kernel
theorem dX6_find_0 : decode cX6_find 0 = .ok (.aload_n 0, 1) := by decide +kernel
theorem dX6_find_1 : decode cX6_find 1 = .ok (.getfield 16, 3) := by decide +kernel
theorem dX6_find_4 : decode cX6_find 4 = .ok (.iload_n 1, 1) := by decide +kernel
theorem dX6_find_5 : decode cX6_find 5 = .ok (.iload_n 2, 1) := by decide +kernel
theorem dX6_find_6 : decode cX6_find 6 = .ok (.iload_n 3, 1) := by decide +kernel
theorem dX6_find_7 : decode cX6_find 7 = .ok (.iconst 0, 1) := by decide +kernel
theorem dX6_find_8 : decode cX6_find 8 = .ok (.iconst 0, 1) := by decide +kernel
theorem dX6_find_9 : decode cX6_find 9 = .ok (.invokevirtual 38, 3) := by decide +kernel
theorem dX6_find_12 : decode cX6_find 12 = .ok (.ireturn, 1) := by decide +kernel
theorem dX6_make_0 : decode cX6_make 0 = .ok (.aload_n 0, 1) := by decide +kernel
theorem dX6_make_1 : decode cX6_make 1 = .ok (.getfield 16, 3) := by decide +kernel
theorem dX6_make_4 : decode cX6_make 4 = .ok (.iload_n 1, 1) := by decide +kernel
theorem dX6_make_5 : decode cX6_make 5 = .ok (.iload_n 2, 1) := by decide +kernel
theorem dX6_make_6 : decode cX6_make 6 = .ok (.iload_n 3, 1) := by decide +kernel
theorem dX6_make_7 : decode cX6_make 7 = .ok (.iconst 0, 1) := by decide +kernel
theorem dX6_make_8 : decode cX6_make 8 = .ok (.iconst 0, 1) := by decide +kernel
theorem dX6_make_9 : decode cX6_make 9 = .ok (.invokevirtual 38, 3) := by decide +kernel
theorem dX6_make_12 : decode cX6_make 12 = .ok (.istore 4, 2) := by decide +kernel
theorem dX6_make_14 : decode cX6_make 14 = .ok (.iload 4, 2) := by decide +kernel
theorem dX6_make_16 : decode cX6_make 16 = .ok (.ifCond .eq 6, 3) := by decide +kernel
theorem dX6_make_19 : decode cX6_make 19 = .ok (.iload 4, 2) := by decide +kernel
theorem dX6_make_21 : decode cX6_make 21 = .ok (.ireturn, 1) := by decide +kernel
theorem dX6_make_22 : decode cX6_make 22 = .ok (.aload_n 0, 1) := by decide +kernel
theorem dX6_make_23 : decode cX6_make 23 = .ok (.getfield 16, 3) := by decide +kernel
theorem dX6_make_26 : decode cX6_make 26 = .ok (.iload_n 1, 1) := by decide +kernel
theorem dX6_make_27 : decode cX6_make 27 = .ok (.iload_n 2, 1) := by decide +kernel
theorem dX6_make_28 : decode cX6_make 28 = .ok (.iload_n 3, 1) := by decide +kernel
theorem dX6_make_29 : decode cX6_make 29 = .ok (.iconst 0, 1) := by decide +kernel
theorem dX6_make_30 : decode cX6_make 30 = .ok (.iconst 0, 1) := by decide +kernel
theorem dX6_make_31 : decode cX6_make 31 = .ok (.invokevirtual 42, 3) := by decide +kernel
theorem dX6_make_34 : decode cX6_make 34 = .ok (.istore 5, 2) := by decide +kernel
theorem dX6_make_36 : decode cX6_make 36 = .ok (.aload_n 0, 1) := by decide +kernel
theorem dX6_make_37 : decode cX6_make 37 = .ok (.getfield 23, 3) := by decide +kernel
theorem dX6_make_40 : decode cX6_make 40 = .ok (.iload_n 1, 1) := by decide +kernel
theorem dX6_make_41 : decode cX6_make 41 = .ok (.iload 5, 2) := by decide +kernel
theorem dX6_make_43 : decode cX6_make 43 = .ok (.invokevirtual 45, 3) := by decide +kernel
theorem dX6_make_46 : decode cX6_make 46 = .ok (.iload_n 1, 1) := by decide +kernel
theorem dX6_make_47 : decode cX6_make 47 = .ok (.iconst 4, 1) := by decide +kernel
theorem dX6_make_48 : decode cX6_make 48 = .ok (.if_icmp .ne 23, 3) := by decide +kernel
theorem dX6_make_51 : decode cX6_make 51 = .ok (.aload_n 0, 1) := by decide +kernel
theorem dX6_make_52 : decode cX6_make 52 = .ok (.getfield 23, 3) := by decide +kernel
theorem dX6_make_55 : decode cX6_make 55 = .ok (.iconst 5, 1) := by decide +kernel
theorem dX6_make_56 : decode cX6_make 56 = .ok (.aload_n 0, 1) := by decide +kernel
theorem dX6_make_57 : decode cX6_make 57 = .ok (.getfield 16, 3) := by decide +kernel
theorem dX6_make_60 : decode cX6_make 60 = .ok (.iload_n 2, 1) := by decide +kernel
theorem dX6_make_61 : decode cX6_make 61 = .ok (.iconst 0, 1) := by decide +kernel
theorem dX6_make_62 : decode cX6_make 62 = .ok (.invokevirtual 34, 3) := by decide +kernel
theorem dX6_make_65 : decode cX6_make 65 = .ok (.iadd, 1) := by decide +kernel
theorem dX6_make_66 : decode cX6_make 66 = .ok (.iload 5, 2) := by decide +kernel
theorem dX6_make_68 : decode cX6_make 68 = .ok (.invokevirtual 45, 3) := by decide +kernel
theorem dX6_make_71 : decode cX6_make 71 = .ok (.iload 5, 2) := by decide +kernel
theorem dX6_make_73 : decode cX6_make 73 = .ok (.ireturn, 1) := by decide +kernel
theorem dX6_holdsWhen_0 : decode cX6_holdsWhen 0 = .ok (.aload_n 0, 1) := by decide +kernel
theorem dX6_holdsWhen_1 : decode cX6_holdsWhen 1 = .ok (.getfield 27, 3) := by decide +kernel
theorem dX6_holdsWhen_4 : decode cX6_holdsWhen 4 = .ok (.iconst 0, 1) := by decide +kernel
theorem dX6_holdsWhen_5 : decode cX6_holdsWhen 5 = .ok (.invokevirtual 49, 3) := by decide +kernel
theorem dX6_holdsWhen_8 : decode cX6_holdsWhen 8 = .ok (.iconst 1, 1) := by decide +kernel
theorem dX6_holdsWhen_9 : decode cX6_holdsWhen 9 = .ok (.istore_n 3, 1) := by decide +kernel
theorem dX6_holdsWhen_10 : decode cX6_holdsWhen 10 = .ok (.iload_n 3, 1) := by decide +kernel
theorem dX6_holdsWhen_11 : decode cX6_holdsWhen 11 = .ok (.iload_n 1, 1) := by decide +kernel
theorem dX6_holdsWhen_12 : decode cX6_holdsWhen 12 = .ok (.if_icmp .gt 38, 3) := by decide +kernel
theorem dX6_holdsWhen_15 : decode cX6_holdsWhen 15 = .ok (.iload_n 3, 1) := by decide +kernel
theorem dX6_holdsWhen_16 : decode cX6_holdsWhen 16 = .ok (.aload_n 0, 1) := by decide +kernel
theorem dX6_holdsWhen_17 : decode cX6_holdsWhen 17 = .ok (.getfield 16, 3) := by decide +kernel
theorem dX6_holdsWhen_20 : decode cX6_holdsWhen 20 = .ok (.invokevirtual 30, 3) := by decide +kernel
theorem dX6_holdsWhen_23 : decode cX6_holdsWhen 23 = .ok (.if_icmp .gt 27, 3) := by decide +kernel
theorem dX6_holdsWhen_26 : decode cX6_holdsWhen 26 = .ok (.aload_n 0, 1) := by decide +kernel
theorem dX6_holdsWhen_27 : decode cX6_holdsWhen 27 = .ok (.iload_n 3, 1) := by decide +kernel
theorem dX6_holdsWhen_28 : decode cX6_holdsWhen 28 = .ok (.iload_n 2, 1) := by decide +kernel
theorem dX6_holdsWhen_29 : decode cX6_holdsWhen 29 = .ok (.invokevirtual 52, 3) := by decide +kernel
theorem dX6_holdsWhen_32 : decode cX6_holdsWhen 32 = .ok (.ifCond .eq 12, 3) := by decide +kernel
theorem dX6_holdsWhen_35 : decode cX6_holdsWhen 35 = .ok (.aload_n 0, 1) := by decide +kernel
theorem dX6_holdsWhen_36 : decode cX6_holdsWhen 36 = .ok (.getfield 27, 3) := by decide +kernel
theorem dX6_holdsWhen_39 : decode cX6_holdsWhen 39 = .ok (.iconst 0, 1) := by decide +kernel
theorem dX6_holdsWhen_40 : decode cX6_holdsWhen 40 = .ok (.iload_n 3, 1) := by decide +kernel
theorem dX6_holdsWhen_41 : decode cX6_holdsWhen 41 = .ok (.invokevirtual 45, 3) := by decide +kernel
theorem dX6_holdsWhen_44 : decode cX6_holdsWhen 44 = .ok (.iinc 3 1, 3) := by decide +kernel
theorem dX6_holdsWhen_47 : decode cX6_holdsWhen 47 = .ok (.goto (-37), 3) := by decide +kernel
theorem dX6_holdsWhen_50 : decode cX6_holdsWhen 50 = .ok (.aload_n 0, 1) := by decide +kernel
theorem dX6_holdsWhen_51 : decode cX6_holdsWhen 51 = .ok (.getfield 27, 3) := by decide +kernel
theorem dX6_holdsWhen_54 : decode cX6_holdsWhen 54 = .ok (.iconst 0, 1) := by decide +kernel
theorem dX6_holdsWhen_55 : decode cX6_holdsWhen 55 = .ok (.iload_n 1, 1) := by decide +kernel
theorem dX6_holdsWhen_56 : decode cX6_holdsWhen 56 = .ok (.invokevirtual 56, 3) := by decide +kernel
theorem dX6_holdsWhen_59 : decode cX6_holdsWhen 59 = .ok (.ireturn, 1) := by decide +kernel
theorem dX6_followsFromParts_0 : decode cX6_followsFromParts 0 = .ok (.aload_n 0, 1) := by decide +kernel
theorem dX6_followsFromParts_1 : decode cX6_followsFromParts 1 = .ok (.iload_n 1, 1) := by decide +kernel
theorem dX6_followsFromParts_2 : decode cX6_followsFromParts 2 = .ok (.invokevirtual 59, 3) := by decide +kernel
theorem dX6_followsFromParts_5 : decode cX6_followsFromParts 5 = .ok (.istore_n 3, 1) := by decide +kernel
theorem dX6_followsFromParts_6 : decode cX6_followsFromParts 6 = .ok (.aload_n 0, 1) := by decide +kernel
theorem dX6_followsFromParts_7 : decode cX6_followsFromParts 7 = .ok (.iload_n 1, 1) := by decide +kernel
theorem dX6_followsFromParts_8 : decode cX6_followsFromParts 8 = .ok (.invokevirtual 63, 3) := by decide +kernel
theorem dX6_followsFromParts_11 : decode cX6_followsFromParts 11 = .ok (.istore 4, 2) := by decide +kernel
theorem dX6_followsFromParts_13 : decode cX6_followsFromParts 13 = .ok (.aload_n 0, 1) := by decide +kernel
theorem dX6_followsFromParts_14 : decode cX6_followsFromParts 14 = .ok (.iload_n 1, 1) := by decide +kernel
theorem dX6_followsFromParts_15 : decode cX6_followsFromParts 15 = .ok (.invokevirtual 66, 3) := by decide +kernel
theorem dX6_followsFromParts_18 : decode cX6_followsFromParts 18 = .ok (.tableswitch 142 0 4 #[34, 142, 49, 80, 111], 34) := by decide +kernel
theorem dX6_followsFromParts_52 : decode cX6_followsFromParts 52 = .ok (.iload_n 2, 1) := by decide +kernel
theorem dX6_followsFromParts_53 : decode cX6_followsFromParts 53 = .ok (.iload_n 3, 1) := by decide +kernel
theorem dX6_followsFromParts_54 : decode cX6_followsFromParts 54 = .ok (.iushr, 1) := by decide +kernel
theorem dX6_followsFromParts_55 : decode cX6_followsFromParts 55 = .ok (.iconst 1, 1) := by decide +kernel
theorem dX6_followsFromParts_56 : decode cX6_followsFromParts 56 = .ok (.iand, 1) := by decide +kernel
theorem dX6_followsFromParts_57 : decode cX6_followsFromParts 57 = .ok (.iconst 1, 1) := by decide +kernel
theorem dX6_followsFromParts_58 : decode cX6_followsFromParts 58 = .ok (.if_icmp .ne 7, 3) := by decide +kernel
theorem dX6_followsFromParts_61 : decode cX6_followsFromParts 61 = .ok (.iconst 1, 1) := by decide +kernel
theorem dX6_followsFromParts_62 : decode cX6_followsFromParts 62 = .ok (.goto 4, 3) := by decide +kernel
theorem dX6_followsFromParts_65 : decode cX6_followsFromParts 65 = .ok (.iconst 0, 1) := by decide +kernel
theorem dX6_followsFromParts_66 : decode cX6_followsFromParts 66 = .ok (.ireturn, 1) := by decide +kernel
theorem dX6_followsFromParts_67 : decode cX6_followsFromParts 67 = .ok (.aload_n 0, 1) := by decide +kernel
theorem dX6_followsFromParts_68 : decode cX6_followsFromParts 68 = .ok (.getfield 27, 3) := by decide +kernel
theorem dX6_followsFromParts_71 : decode cX6_followsFromParts 71 = .ok (.iconst 0, 1) := by decide +kernel
theorem dX6_followsFromParts_72 : decode cX6_followsFromParts 72 = .ok (.iload_n 3, 1) := by decide +kernel
theorem dX6_followsFromParts_73 : decode cX6_followsFromParts 73 = .ok (.invokevirtual 56, 3) := by decide +kernel
theorem dX6_followsFromParts_76 : decode cX6_followsFromParts 76 = .ok (.ifCond .eq 20, 3) := by decide +kernel
theorem dX6_followsFromParts_79 : decode cX6_followsFromParts 79 = .ok (.aload_n 0, 1) := by decide +kernel
theorem dX6_followsFromParts_80 : decode cX6_followsFromParts 80 = .ok (.getfield 27, 3) := by decide +kernel
theorem dX6_followsFromParts_83 : decode cX6_followsFromParts 83 = .ok (.iconst 0, 1) := by decide +kernel
theorem dX6_followsFromParts_84 : decode cX6_followsFromParts 84 = .ok (.iload 4, 2) := by decide +kernel
theorem dX6_followsFromParts_86 : decode cX6_followsFromParts 86 = .ok (.invokevirtual 56, 3) := by decide +kernel
theorem dX6_followsFromParts_89 : decode cX6_followsFromParts 89 = .ok (.ifCond .eq 7, 3) := by decide +kernel
theorem dX6_followsFromParts_92 : decode cX6_followsFromParts 92 = .ok (.iconst 1, 1) := by decide +kernel
theorem dX6_followsFromParts_93 : decode cX6_followsFromParts 93 = .ok (.goto 4, 3) := by decide +kernel
theorem dX6_followsFromParts_96 : decode cX6_followsFromParts 96 = .ok (.iconst 0, 1) := by decide +kernel
theorem dX6_followsFromParts_97 : decode cX6_followsFromParts 97 = .ok (.ireturn, 1) := by decide +kernel
theorem dX6_followsFromParts_98 : decode cX6_followsFromParts 98 = .ok (.aload_n 0, 1) := by decide +kernel
theorem dX6_followsFromParts_99 : decode cX6_followsFromParts 99 = .ok (.getfield 27, 3) := by decide +kernel
theorem dX6_followsFromParts_102 : decode cX6_followsFromParts 102 = .ok (.iconst 0, 1) := by decide +kernel
theorem dX6_followsFromParts_103 : decode cX6_followsFromParts 103 = .ok (.iload_n 3, 1) := by decide +kernel
theorem dX6_followsFromParts_104 : decode cX6_followsFromParts 104 = .ok (.invokevirtual 56, 3) := by decide +kernel
theorem dX6_followsFromParts_107 : decode cX6_followsFromParts 107 = .ok (.ifCond .ne 16, 3) := by decide +kernel
theorem dX6_followsFromParts_110 : decode cX6_followsFromParts 110 = .ok (.aload_n 0, 1) := by decide +kernel
theorem dX6_followsFromParts_111 : decode cX6_followsFromParts 111 = .ok (.getfield 27, 3) := by decide +kernel
theorem dX6_followsFromParts_114 : decode cX6_followsFromParts 114 = .ok (.iconst 0, 1) := by decide +kernel
theorem dX6_followsFromParts_115 : decode cX6_followsFromParts 115 = .ok (.iload 4, 2) := by decide +kernel
theorem dX6_followsFromParts_117 : decode cX6_followsFromParts 117 = .ok (.invokevirtual 56, 3) := by decide +kernel
theorem dX6_followsFromParts_120 : decode cX6_followsFromParts 120 = .ok (.ifCond .eq 7, 3) := by decide +kernel
theorem dX6_followsFromParts_123 : decode cX6_followsFromParts 123 = .ok (.iconst 1, 1) := by decide +kernel
theorem dX6_followsFromParts_124 : decode cX6_followsFromParts 124 = .ok (.goto 4, 3) := by decide +kernel
theorem dX6_followsFromParts_127 : decode cX6_followsFromParts 127 = .ok (.iconst 0, 1) := by decide +kernel
theorem dX6_followsFromParts_128 : decode cX6_followsFromParts 128 = .ok (.ireturn, 1) := by decide +kernel
theorem dX6_followsFromParts_129 : decode cX6_followsFromParts 129 = .ok (.aload_n 0, 1) := by decide +kernel
theorem dX6_followsFromParts_130 : decode cX6_followsFromParts 130 = .ok (.getfield 27, 3) := by decide +kernel
theorem dX6_followsFromParts_133 : decode cX6_followsFromParts 133 = .ok (.iconst 0, 1) := by decide +kernel
theorem dX6_followsFromParts_134 : decode cX6_followsFromParts 134 = .ok (.iload_n 3, 1) := by decide +kernel
theorem dX6_followsFromParts_135 : decode cX6_followsFromParts 135 = .ok (.invokevirtual 56, 3) := by decide +kernel
theorem dX6_followsFromParts_138 : decode cX6_followsFromParts 138 = .ok (.ifCond .eq 16, 3) := by decide +kernel
theorem dX6_followsFromParts_141 : decode cX6_followsFromParts 141 = .ok (.aload_n 0, 1) := by decide +kernel
theorem dX6_followsFromParts_142 : decode cX6_followsFromParts 142 = .ok (.getfield 27, 3) := by decide +kernel
theorem dX6_followsFromParts_145 : decode cX6_followsFromParts 145 = .ok (.iconst 0, 1) := by decide +kernel
theorem dX6_followsFromParts_146 : decode cX6_followsFromParts 146 = .ok (.iload 4, 2) := by decide +kernel
theorem dX6_followsFromParts_148 : decode cX6_followsFromParts 148 = .ok (.invokevirtual 56, 3) := by decide +kernel
theorem dX6_followsFromParts_151 : decode cX6_followsFromParts 151 = .ok (.ifCond .eq 7, 3) := by decide +kernel
theorem dX6_followsFromParts_154 : decode cX6_followsFromParts 154 = .ok (.iconst 1, 1) := by decide +kernel
theorem dX6_followsFromParts_155 : decode cX6_followsFromParts 155 = .ok (.goto 4, 3) := by decide +kernel
theorem dX6_followsFromParts_158 : decode cX6_followsFromParts 158 = .ok (.iconst 0, 1) := by decide +kernel
theorem dX6_followsFromParts_159 : decode cX6_followsFromParts 159 = .ok (.ireturn, 1) := by decide +kernel
theorem dX6_followsFromParts_160 : decode cX6_followsFromParts 160 = .ok (.iconst 0, 1) := by decide +kernel
theorem dX6_followsFromParts_161 : decode cX6_followsFromParts 161 = .ok (.ireturn, 1) := by decide +kernel
theorem dX7_init_0 : decode cX7_init 0 = .ok (.aload_n 0, 1) := by decide +kernel
theorem dX7_init_1 : decode cX7_init 1 = .ok (.invokespecial 1, 3) := by decide +kernel
theorem dX7_init_4 : decode cX7_init 4 = .ok (.new 7, 3) := by decide +kernel
theorem dX7_init_7 : decode cX7_init 7 = .ok (.dup, 1) := by decide +kernel
theorem dX7_init_8 : decode cX7_init 8 = .ok (.invokespecial 9, 3) := by decide +kernel
theorem dX7_init_11 : decode cX7_init 11 = .ok (.astore_n 1, 1) := by decide +kernel
theorem dX7_init_12 : decode cX7_init 12 = .ok (.aload_n 0, 1) := by decide +kernel
theorem dX7_init_13 : decode cX7_init 13 = .ok (.new 10, 3) := by decide +kernel
theorem dX7_init_16 : decode cX7_init 16 = .ok (.dup, 1) := by decide +kernel
theorem dX7_init_17 : decode cX7_init 17 = .ok (.invokespecial 12, 3) := by decide +kernel
theorem dX7_init_20 : decode cX7_init 20 = .ok (.putfield 13, 3) := by decide +kernel
theorem dX7_init_23 : decode cX7_init 23 = .ok (.aload_n 0, 1) := by decide +kernel
theorem dX7_init_24 : decode cX7_init 24 = .ok (.new 19, 3) := by decide +kernel
theorem dX7_init_27 : decode cX7_init 27 = .ok (.dup, 1) := by decide +kernel
theorem dX7_init_28 : decode cX7_init 28 = .ok (.aload_n 0, 1) := by decide +kernel
theorem dX7_init_29 : decode cX7_init 29 = .ok (.getfield 13, 3) := by decide +kernel
theorem dX7_init_32 : decode cX7_init 32 = .ok (.invokespecial 21, 3) := by decide +kernel
theorem dX7_init_35 : decode cX7_init 35 = .ok (.putfield 24, 3) := by decide +kernel
theorem dX7_init_38 : decode cX7_init 38 = .ok (.aload_n 0, 1) := by decide +kernel
theorem dX7_init_39 : decode cX7_init 39 = .ok (.new 28, 3) := by decide +kernel
theorem dX7_init_42 : decode cX7_init 42 = .ok (.dup, 1) := by decide +kernel
theorem dX7_init_43 : decode cX7_init 43 = .ok (.aload_n 0, 1) := by decide +kernel
theorem dX7_init_44 : decode cX7_init 44 = .ok (.getfield 13, 3) := by decide +kernel
theorem dX7_init_47 : decode cX7_init 47 = .ok (.aload_n 1, 1) := by decide +kernel
theorem dX7_init_48 : decode cX7_init 48 = .ok (.invokespecial 30, 3) := by decide +kernel
theorem dX7_init_51 : decode cX7_init 51 = .ok (.putfield 33, 3) := by decide +kernel
theorem dX7_init_54 : decode cX7_init 54 = .ok (.aload_n 0, 1) := by decide +kernel
theorem dX7_init_55 : decode cX7_init 55 = .ok (.new 37, 3) := by decide +kernel
theorem dX7_init_58 : decode cX7_init 58 = .ok (.dup, 1) := by decide +kernel
theorem dX7_init_59 : decode cX7_init 59 = .ok (.aload_n 0, 1) := by decide +kernel
theorem dX7_init_60 : decode cX7_init 60 = .ok (.getfield 13, 3) := by decide +kernel
theorem dX7_init_63 : decode cX7_init 63 = .ok (.aload_n 0, 1) := by decide +kernel
theorem dX7_init_64 : decode cX7_init 64 = .ok (.getfield 24, 3) := by decide +kernel
theorem dX7_init_67 : decode cX7_init 67 = .ok (.aload_n 1, 1) := by decide +kernel
theorem dX7_init_68 : decode cX7_init 68 = .ok (.invokespecial 39, 3) := by decide +kernel
theorem dX7_init_71 : decode cX7_init 71 = .ok (.putfield 42, 3) := by decide +kernel
theorem dX7_init_74 : decode cX7_init 74 = .ok (.return_, 1) := by decide +kernel
theorem dX7_atom_0 : decode cX7_atom 0 = .ok (.iload_n 1, 1) := by decide +kernel
theorem dX7_atom_1 : decode cX7_atom 1 = .ok (.ifCond .lt 22, 3) := by decide +kernel
theorem dX7_atom_4 : decode cX7_atom 4 = .ok (.iload_n 1, 1) := by decide +kernel
theorem dX7_atom_5 : decode cX7_atom 5 = .ok (.bipush 32, 2) := by decide +kernel
theorem dX7_atom_7 : decode cX7_atom 7 = .ok (.if_icmp .ge 16, 3) := by decide +kernel
theorem dX7_atom_10 : decode cX7_atom 10 = .ok (.aload_n 0, 1) := by decide +kernel
theorem dX7_atom_11 : decode cX7_atom 11 = .ok (.getfield 13, 3) := by decide +kernel
theorem dX7_atom_14 : decode cX7_atom 14 = .ok (.iconst 0, 1) := by decide +kernel
theorem dX7_atom_15 : decode cX7_atom 15 = .ok (.iload_n 1, 1) := by decide +kernel
theorem dX7_atom_16 : decode cX7_atom 16 = .ok (.iconst 0, 1) := by decide +kernel
theorem dX7_atom_17 : decode cX7_atom 17 = .ok (.invokevirtual 46, 3) := by decide +kernel
theorem dX7_atom_20 : decode cX7_atom 20 = .ok (.goto 4, 3) := by decide +kernel
theorem dX7_atom_23 : decode cX7_atom 23 = .ok (.iconst (-1), 1) := by decide +kernel
theorem dX7_atom_24 : decode cX7_atom 24 = .ok (.ireturn, 1) := by decide +kernel
theorem dX7_falsehood_0 : decode cX7_falsehood 0 = .ok (.aload_n 0, 1) := by decide +kernel
theorem dX7_falsehood_1 : decode cX7_falsehood 1 = .ok (.getfield 13, 3) := by decide +kernel
theorem dX7_falsehood_4 : decode cX7_falsehood 4 = .ok (.iconst 1, 1) := by decide +kernel
theorem dX7_falsehood_5 : decode cX7_falsehood 5 = .ok (.iconst 0, 1) := by decide +kernel
theorem dX7_falsehood_6 : decode cX7_falsehood 6 = .ok (.iconst 0, 1) := by decide +kernel
theorem dX7_falsehood_7 : decode cX7_falsehood 7 = .ok (.invokevirtual 46, 3) := by decide +kernel
theorem dX7_falsehood_10 : decode cX7_falsehood 10 = .ok (.ireturn, 1) := by decide +kernel
theorem dX7_join_0 : decode cX7_join 0 = .ok (.iload_n 1, 1) := by decide +kernel
theorem dX7_join_1 : decode cX7_join 1 = .ok (.iconst 2, 1) := by decide +kernel
theorem dX7_join_2 : decode cX7_join 2 = .ok (.if_icmp .eq 13, 3) := by decide +kernel
theorem dX7_join_5 : decode cX7_join 5 = .ok (.iload_n 1, 1) := by decide +kernel
theorem dX7_join_6 : decode cX7_join 6 = .ok (.iconst 3, 1) := by decide +kernel
theorem dX7_join_7 : decode cX7_join 7 = .ok (.if_icmp .eq 8, 3) := by decide +kernel
theorem dX7_join_10 : decode cX7_join 10 = .ok (.iload_n 1, 1) := by decide +kernel
theorem dX7_join_11 : decode cX7_join 11 = .ok (.iconst 4, 1) := by decide +kernel
theorem dX7_join_12 : decode cX7_join 12 = .ok (.if_icmp .ne 7, 3) := by decide +kernel
theorem dX7_join_15 : decode cX7_join 15 = .ok (.iconst 1, 1) := by decide +kernel
theorem dX7_join_16 : decode cX7_join 16 = .ok (.goto 4, 3) := by decide +kernel
theorem dX7_join_19 : decode cX7_join 19 = .ok (.iconst 0, 1) := by decide +kernel
theorem dX7_join_20 : decode cX7_join 20 = .ok (.istore 4, 2) := by decide +kernel
theorem dX7_join_22 : decode cX7_join 22 = .ok (.iload 4, 2) := by decide +kernel
theorem dX7_join_24 : decode cX7_join 24 = .ok (.ifCond .eq 25, 3) := by decide +kernel
theorem dX7_join_27 : decode cX7_join 27 = .ok (.aload_n 0, 1) := by decide +kernel
theorem dX7_join_28 : decode cX7_join 28 = .ok (.getfield 13, 3) := by decide +kernel
theorem dX7_join_31 : decode cX7_join 31 = .ok (.iload_n 2, 1) := by decide +kernel
theorem dX7_join_32 : decode cX7_join 32 = .ok (.invokevirtual 50, 3) := by decide +kernel
theorem dX7_join_35 : decode cX7_join 35 = .ok (.ifCond .eq 14, 3) := by decide +kernel
theorem dX7_join_38 : decode cX7_join 38 = .ok (.aload_n 0, 1) := by decide +kernel
theorem dX7_join_39 : decode cX7_join 39 = .ok (.getfield 13, 3) := by decide +kernel
theorem dX7_join_42 : decode cX7_join 42 = .ok (.iload_n 3, 1) := by decide +kernel
theorem dX7_join_43 : decode cX7_join 43 = .ok (.invokevirtual 50, 3) := by decide +kernel
theorem dX7_join_46 : decode cX7_join 46 = .ok (.ifCond .ne 5, 3) := by decide +kernel
theorem dX7_join_49 : decode cX7_join 49 = .ok (.iconst (-1), 1) := by decide +kernel
theorem dX7_join_50 : decode cX7_join 50 = .ok (.ireturn, 1) := by decide +kernel
theorem dX7_join_51 : decode cX7_join 51 = .ok (.aload_n 0, 1) := by decide +kernel
theorem dX7_join_52 : decode cX7_join 52 = .ok (.getfield 13, 3) := by decide +kernel
theorem dX7_join_55 : decode cX7_join 55 = .ok (.iload_n 1, 1) := by decide +kernel
theorem dX7_join_56 : decode cX7_join 56 = .ok (.iload_n 2, 1) := by decide +kernel
theorem dX7_join_57 : decode cX7_join 57 = .ok (.iload_n 3, 1) := by decide +kernel
theorem dX7_join_58 : decode cX7_join 58 = .ok (.invokevirtual 46, 3) := by decide +kernel
theorem dX7_join_61 : decode cX7_join 61 = .ok (.ireturn, 1) := by decide +kernel
theorem dX7_told_0 : decode cX7_told 0 = .ok (.aload_n 0, 1) := by decide +kernel
theorem dX7_told_1 : decode cX7_told 1 = .ok (.getfield 13, 3) := by decide +kernel
theorem dX7_told_4 : decode cX7_told 4 = .ok (.iload_n 1, 1) := by decide +kernel
theorem dX7_told_5 : decode cX7_told 5 = .ok (.invokevirtual 50, 3) := by decide +kernel
theorem dX7_told_8 : decode cX7_told 8 = .ok (.ifCond .eq 16, 3) := by decide +kernel
theorem dX7_told_11 : decode cX7_told 11 = .ok (.iload_n 2, 1) := by decide +kernel
theorem dX7_told_12 : decode cX7_told 12 = .ok (.ifCond .lt 12, 3) := by decide +kernel
theorem dX7_told_15 : decode cX7_told 15 = .ok (.iload_n 2, 1) := by decide +kernel
theorem dX7_told_16 : decode cX7_told 16 = .ok (.iconst 2, 1) := by decide +kernel
theorem dX7_told_17 : decode cX7_told 17 = .ok (.if_icmp .gt 7, 3) := by decide +kernel
theorem dX7_told_20 : decode cX7_told 20 = .ok (.iconst 1, 1) := by decide +kernel
theorem dX7_told_21 : decode cX7_told 21 = .ok (.goto 4, 3) := by decide +kernel
theorem dX7_told_24 : decode cX7_told 24 = .ok (.iconst 0, 1) := by decide +kernel
theorem dX7_told_25 : decode cX7_told 25 = .ok (.istore_n 3, 1) := by decide +kernel
theorem dX7_told_26 : decode cX7_told 26 = .ok (.iload_n 3, 1) := by decide +kernel
theorem dX7_told_27 : decode cX7_told 27 = .ok (.ifCond .eq 15, 3) := by decide +kernel
theorem dX7_told_30 : decode cX7_told 30 = .ok (.aload_n 0, 1) := by decide +kernel
theorem dX7_told_31 : decode cX7_told 31 = .ok (.getfield 13, 3) := by decide +kernel
theorem dX7_told_34 : decode cX7_told 34 = .ok (.iload_n 1, 1) := by decide +kernel
theorem dX7_told_35 : decode cX7_told 35 = .ok (.iload_n 2, 1) := by decide +kernel
theorem dX7_told_36 : decode cX7_told 36 = .ok (.invokevirtual 54, 3) := by decide +kernel
theorem dX7_told_39 : decode cX7_told 39 = .ok (.goto 4, 3) := by decide +kernel
theorem dX7_told_42 : decode cX7_told 42 = .ok (.iconst (-1), 1) := by decide +kernel
theorem dX7_told_43 : decode cX7_told 43 = .ok (.ireturn, 1) := by decide +kernel
theorem dX7_statements_0 : decode cX7_statements 0 = .ok (.aload_n 0, 1) := by decide +kernel
theorem dX7_statements_1 : decode cX7_statements 1 = .ok (.getfield 13, 3) := by decide +kernel
theorem dX7_statements_4 : decode cX7_statements 4 = .ok (.invokevirtual 58, 3) := by decide +kernel
theorem dX7_statements_7 : decode cX7_statements 7 = .ok (.ireturn, 1) := by decide +kernel
theorem dX7_nodes_0 : decode cX7_nodes 0 = .ok (.aload_n 0, 1) := by decide +kernel
theorem dX7_nodes_1 : decode cX7_nodes 1 = .ok (.getfield 24, 3) := by decide +kernel
theorem dX7_nodes_4 : decode cX7_nodes 4 = .ok (.invokevirtual 62, 3) := by decide +kernel
theorem dX7_nodes_7 : decode cX7_nodes 7 = .ok (.ireturn, 1) := by decide +kernel
theorem dX7_prove_0 : decode cX7_prove 0 = .ok (.aload_n 0, 1) := by decide +kernel
theorem dX7_prove_1 : decode cX7_prove 1 = .ok (.getfield 13, 3) := by decide +kernel
theorem dX7_prove_4 : decode cX7_prove 4 = .ok (.iload_n 1, 1) := by decide +kernel
theorem dX7_prove_5 : decode cX7_prove 5 = .ok (.invokevirtual 50, 3) := by decide +kernel
theorem dX7_prove_8 : decode cX7_prove 8 = .ok (.ifCond .eq 14, 3) := by decide +kernel
theorem dX7_prove_11 : decode cX7_prove 11 = .ok (.iload_n 2, 1) := by decide +kernel
theorem dX7_prove_12 : decode cX7_prove 12 = .ok (.ifCond .lt 10, 3) := by decide +kernel
theorem dX7_prove_15 : decode cX7_prove 15 = .ok (.iload_n 2, 1) := by decide +kernel
theorem dX7_prove_16 : decode cX7_prove 16 = .ok (.sipush 3000, 3) := by decide +kernel
theorem dX7_prove_19 : decode cX7_prove 19 = .ok (.if_icmp .le 5, 3) := by decide +kernel
theorem dX7_prove_22 : decode cX7_prove 22 = .ok (.iconst (-1), 1) := by decide +kernel
theorem dX7_prove_23 : decode cX7_prove 23 = .ok (.ireturn, 1) := by decide +kernel
theorem dX7_prove_24 : decode cX7_prove 24 = .ok (.aload_n 0, 1) := by decide +kernel
theorem dX7_prove_25 : decode cX7_prove 25 = .ok (.getfield 33, 3) := by decide +kernel
theorem dX7_prove_28 : decode cX7_prove 28 = .ok (.iload_n 1, 1) := by decide +kernel
theorem dX7_prove_29 : decode cX7_prove 29 = .ok (.iload_n 2, 1) := by decide +kernel
theorem dX7_prove_30 : decode cX7_prove 30 = .ok (.invokevirtual 63, 3) := by decide +kernel
theorem dX7_prove_33 : decode cX7_prove 33 = .ok (.istore_n 3, 1) := by decide +kernel
theorem dX7_prove_34 : decode cX7_prove 34 = .ok (.iload_n 3, 1) := by decide +kernel
theorem dX7_prove_35 : decode cX7_prove 35 = .ok (.ifCond .le 14, 3) := by decide +kernel
theorem dX7_prove_38 : decode cX7_prove 38 = .ok (.aload_n 0, 1) := by decide +kernel
theorem dX7_prove_39 : decode cX7_prove 39 = .ok (.getfield 42, 3) := by decide +kernel
theorem dX7_prove_42 : decode cX7_prove 42 = .ok (.iload_n 3, 1) := by decide +kernel
theorem dX7_prove_43 : decode cX7_prove 43 = .ok (.invokevirtual 66, 3) := by decide +kernel
theorem dX7_prove_46 : decode cX7_prove 46 = .ok (.goto 4, 3) := by decide +kernel
theorem dX7_prove_49 : decode cX7_prove 49 = .ok (.iload_n 3, 1) := by decide +kernel
theorem dX7_prove_50 : decode cX7_prove 50 = .ok (.ireturn, 1) := by decide +kernel
theorem dX7_used_0 : decode cX7_used 0 = .ok (.aload_n 0, 1) := by decide +kernel
theorem dX7_used_1 : decode cX7_used 1 = .ok (.getfield 33, 3) := by decide +kernel
theorem dX7_used_4 : decode cX7_used 4 = .ok (.invokevirtual 70, 3) := by decide +kernel
theorem dX7_used_7 : decode cX7_used 7 = .ok (.ireturn, 1) := by decide +kernel
theorem dX7_node_0 : decode cX7_node 0 = .ok (.iload_n 1, 1) := by decide +kernel
theorem dX7_node_1 : decode cX7_node 1 = .ok (.ifCond .lt 20, 3) := by decide +kernel
theorem dX7_node_4 : decode cX7_node 4 = .ok (.iload_n 1, 1) := by decide +kernel
theorem dX7_node_5 : decode cX7_node 5 = .ok (.bipush 9, 2) := by decide +kernel
theorem dX7_node_7 : decode cX7_node 7 = .ok (.if_icmp .gt 14, 3) := by decide +kernel
theorem dX7_node_10 : decode cX7_node 10 = .ok (.aload_n 0, 1) := by decide +kernel
theorem dX7_node_11 : decode cX7_node 11 = .ok (.getfield 13, 3) := by decide +kernel
theorem dX7_node_14 : decode cX7_node 14 = .ok (.iload_n 2, 1) := by decide +kernel
theorem dX7_node_15 : decode cX7_node 15 = .ok (.invokevirtual 50, 3) := by decide +kernel
theorem dX7_node_18 : decode cX7_node 18 = .ok (.ifCond .ne 5, 3) := by decide +kernel
theorem dX7_node_21 : decode cX7_node 21 = .ok (.iconst (-1), 1) := by decide +kernel
theorem dX7_node_22 : decode cX7_node 22 = .ok (.ireturn, 1) := by decide +kernel
theorem dX7_node_23 : decode cX7_node 23 = .ok (.iload_n 1, 1) := by decide +kernel
theorem dX7_node_24 : decode cX7_node 24 = .ok (.invokestatic 73, 3) := by decide +kernel
theorem dX7_node_27 : decode cX7_node 27 = .ok (.istore 6, 2) := by decide +kernel
theorem dX7_node_29 : decode cX7_node 29 = .ok (.iload 6, 2) := by decide +kernel
theorem dX7_node_31 : decode cX7_node 31 = .ok (.iconst 1, 1) := by decide +kernel
theorem dX7_node_32 : decode cX7_node 32 = .ok (.if_icmp .lt 14, 3) := by decide +kernel
theorem dX7_node_35 : decode cX7_node 35 = .ok (.aload_n 0, 1) := by decide +kernel
theorem dX7_node_36 : decode cX7_node 36 = .ok (.getfield 24, 3) := by decide +kernel
theorem dX7_node_39 : decode cX7_node 39 = .ok (.iload_n 3, 1) := by decide +kernel
theorem dX7_node_40 : decode cX7_node 40 = .ok (.invokevirtual 76, 3) := by decide +kernel
theorem dX7_node_43 : decode cX7_node 43 = .ok (.ifCond .eq 39, 3) := by decide +kernel
theorem dX7_node_46 : decode cX7_node 46 = .ok (.iload 6, 2) := by decide +kernel
theorem dX7_node_48 : decode cX7_node 48 = .ok (.iconst 2, 1) := by decide +kernel
theorem dX7_node_49 : decode cX7_node 49 = .ok (.if_icmp .lt 15, 3) := by decide +kernel
theorem dX7_node_52 : decode cX7_node 52 = .ok (.aload_n 0, 1) := by decide +kernel
theorem dX7_node_53 : decode cX7_node 53 = .ok (.getfield 24, 3) := by decide +kernel
theorem dX7_node_56 : decode cX7_node 56 = .ok (.iload 4, 2) := by decide +kernel
theorem dX7_node_58 : decode cX7_node 58 = .ok (.invokevirtual 76, 3) := by decide +kernel
theorem dX7_node_61 : decode cX7_node 61 = .ok (.ifCond .eq 21, 3) := by decide +kernel
theorem dX7_node_64 : decode cX7_node 64 = .ok (.iload 6, 2) := by decide +kernel
theorem dX7_node_66 : decode cX7_node 66 = .ok (.iconst 3, 1) := by decide +kernel
theorem dX7_node_67 : decode cX7_node 67 = .ok (.if_icmp .lt 17, 3) := by decide +kernel
theorem dX7_node_70 : decode cX7_node 70 = .ok (.aload_n 0, 1) := by decide +kernel
theorem dX7_node_71 : decode cX7_node 71 = .ok (.getfield 24, 3) := by decide +kernel
theorem dX7_node_74 : decode cX7_node 74 = .ok (.iload 5, 2) := by decide +kernel
theorem dX7_node_76 : decode cX7_node 76 = .ok (.invokevirtual 76, 3) := by decide +kernel
theorem dX7_node_79 : decode cX7_node 79 = .ok (.ifCond .ne 5, 3) := by decide +kernel
theorem dX7_node_82 : decode cX7_node 82 = .ok (.iconst (-1), 1) := by decide +kernel
theorem dX7_node_83 : decode cX7_node 83 = .ok (.ireturn, 1) := by decide +kernel
theorem dX7_node_84 : decode cX7_node 84 = .ok (.aload_n 0, 1) := by decide +kernel
theorem dX7_node_85 : decode cX7_node 85 = .ok (.getfield 24, 3) := by decide +kernel
theorem dX7_node_88 : decode cX7_node 88 = .ok (.iload_n 1, 1) := by decide +kernel
theorem dX7_node_89 : decode cX7_node 89 = .ok (.iload_n 2, 1) := by decide +kernel
theorem dX7_node_90 : decode cX7_node 90 = .ok (.iload 6, 2) := by decide +kernel
theorem dX7_node_92 : decode cX7_node 92 = .ok (.iconst 1, 1) := by decide +kernel
theorem dX7_node_93 : decode cX7_node 93 = .ok (.if_icmp .lt 7, 3) := by decide +kernel
theorem dX7_node_96 : decode cX7_node 96 = .ok (.iload_n 3, 1) := by decide +kernel
theorem dX7_node_97 : decode cX7_node 97 = .ok (.goto 4, 3) := by decide +kernel
theorem dX7_node_100 : decode cX7_node 100 = .ok (.iconst 0, 1) := by decide +kernel
theorem dX7_node_101 : decode cX7_node 101 = .ok (.iload 6, 2) := by decide +kernel
theorem dX7_node_103 : decode cX7_node 103 = .ok (.iconst 2, 1) := by decide +kernel
theorem dX7_node_104 : decode cX7_node 104 = .ok (.if_icmp .lt 8, 3) := by decide +kernel
theorem dX7_node_107 : decode cX7_node 107 = .ok (.iload 4, 2) := by decide +kernel
theorem dX7_node_109 : decode cX7_node 109 = .ok (.goto 4, 3) := by decide +kernel
theorem dX7_node_112 : decode cX7_node 112 = .ok (.iconst 0, 1) := by decide +kernel
theorem dX7_node_113 : decode cX7_node 113 = .ok (.iload 6, 2) := by decide +kernel
theorem dX7_node_115 : decode cX7_node 115 = .ok (.iconst 3, 1) := by decide +kernel
theorem dX7_node_116 : decode cX7_node 116 = .ok (.if_icmp .lt 8, 3) := by decide +kernel
theorem dX7_node_119 : decode cX7_node 119 = .ok (.iload 5, 2) := by decide +kernel
theorem dX7_node_121 : decode cX7_node 121 = .ok (.goto 4, 3) := by decide +kernel
theorem dX7_node_124 : decode cX7_node 124 = .ok (.iconst 0, 1) := by decide +kernel
theorem dX7_node_125 : decode cX7_node 125 = .ok (.invokevirtual 77, 3) := by decide +kernel
theorem dX7_node_128 : decode cX7_node 128 = .ok (.ireturn, 1) := by decide +kernel
theorem dX7_of_0 : decode cX7_of 0 = .ok (.aload_n 0, 1) := by decide +kernel
theorem dX7_of_1 : decode cX7_of 1 = .ok (.getfield 24, 3) := by decide +kernel
theorem dX7_of_4 : decode cX7_of 4 = .ok (.iload_n 1, 1) := by decide +kernel
theorem dX7_of_5 : decode cX7_of 5 = .ok (.invokevirtual 76, 3) := by decide +kernel
theorem dX7_of_8 : decode cX7_of 8 = .ok (.ifCond .eq 16, 3) := by decide +kernel
theorem dX7_of_11 : decode cX7_of 11 = .ok (.iload_n 2, 1) := by decide +kernel
theorem dX7_of_12 : decode cX7_of 12 = .ok (.ifCond .lt 12, 3) := by decide +kernel
theorem dX7_of_15 : decode cX7_of 15 = .ok (.iload_n 2, 1) := by decide +kernel
theorem dX7_of_16 : decode cX7_of 16 = .ok (.iconst 4, 1) := by decide +kernel
theorem dX7_of_17 : decode cX7_of 17 = .ok (.if_icmp .gt 7, 3) := by decide +kernel
theorem dX7_of_20 : decode cX7_of 20 = .ok (.iconst 1, 1) := by decide +kernel
theorem dX7_of_21 : decode cX7_of 21 = .ok (.goto 4, 3) := by decide +kernel
theorem dX7_of_24 : decode cX7_of 24 = .ok (.iconst 0, 1) := by decide +kernel
theorem dX7_of_25 : decode cX7_of 25 = .ok (.istore_n 3, 1) := by decide +kernel
theorem dX7_of_26 : decode cX7_of 26 = .ok (.iload_n 3, 1) := by decide +kernel
theorem dX7_of_27 : decode cX7_of 27 = .ok (.ifCond .eq 15, 3) := by decide +kernel
theorem dX7_of_30 : decode cX7_of 30 = .ok (.aload_n 0, 1) := by decide +kernel
theorem dX7_of_31 : decode cX7_of 31 = .ok (.getfield 24, 3) := by decide +kernel
theorem dX7_of_34 : decode cX7_of 34 = .ok (.iload_n 1, 1) := by decide +kernel
theorem dX7_of_35 : decode cX7_of 35 = .ok (.iload_n 2, 1) := by decide +kernel
theorem dX7_of_36 : decode cX7_of 36 = .ok (.invokevirtual 80, 3) := by decide +kernel
theorem dX7_of_39 : decode cX7_of 39 = .ok (.goto 4, 3) := by decide +kernel
theorem dX7_of_42 : decode cX7_of 42 = .ok (.iconst (-1), 1) := by decide +kernel
theorem dX7_of_43 : decode cX7_of 43 = .ok (.ireturn, 1) := by decide +kernel
theorem dX7_wellMade_0 : decode cX7_wellMade 0 = .ok (.aload_n 0, 1) := by decide +kernel
theorem dX7_wellMade_1 : decode cX7_wellMade 1 = .ok (.getfield 24, 3) := by decide +kernel
theorem dX7_wellMade_4 : decode cX7_wellMade 4 = .ok (.iload_n 1, 1) := by decide +kernel
theorem dX7_wellMade_5 : decode cX7_wellMade 5 = .ok (.invokevirtual 76, 3) := by decide +kernel
theorem dX7_wellMade_8 : decode cX7_wellMade 8 = .ok (.ifCond .eq 17, 3) := by decide +kernel
theorem dX7_wellMade_11 : decode cX7_wellMade 11 = .ok (.aload_n 0, 1) := by decide +kernel
theorem dX7_wellMade_12 : decode cX7_wellMade 12 = .ok (.getfield 24, 3) := by decide +kernel
theorem dX7_wellMade_15 : decode cX7_wellMade 15 = .ok (.iload_n 1, 1) := by decide +kernel
theorem dX7_wellMade_16 : decode cX7_wellMade 16 = .ok (.invokevirtual 81, 3) := by decide +kernel
theorem dX7_wellMade_19 : decode cX7_wellMade 19 = .ok (.invokestatic 84, 3) := by decide +kernel
theorem dX7_wellMade_22 : decode cX7_wellMade 22 = .ok (.goto 4, 3) := by decide +kernel
theorem dX7_wellMade_25 : decode cX7_wellMade 25 = .ok (.iconst (-1), 1) := by decide +kernel
theorem dX7_wellMade_26 : decode cX7_wellMade 26 = .ok (.ireturn, 1) := by decide +kernel
theorem dX7_rests_0 : decode cX7_rests 0 = .ok (.aload_n 0, 1) := by decide +kernel
theorem dX7_rests_1 : decode cX7_rests 1 = .ok (.getfield 24, 3) := by decide +kernel
theorem dX7_rests_4 : decode cX7_rests 4 = .ok (.iload_n 1, 1) := by decide +kernel
theorem dX7_rests_5 : decode cX7_rests 5 = .ok (.invokevirtual 76, 3) := by decide +kernel
theorem dX7_rests_8 : decode cX7_rests 8 = .ok (.ifCond .eq 14, 3) := by decide +kernel
theorem dX7_rests_11 : decode cX7_rests 11 = .ok (.aload_n 0, 1) := by decide +kernel
theorem dX7_rests_12 : decode cX7_rests 12 = .ok (.getfield 24, 3) := by decide +kernel
theorem dX7_rests_15 : decode cX7_rests 15 = .ok (.iload_n 1, 1) := by decide +kernel
theorem dX7_rests_16 : decode cX7_rests 16 = .ok (.invokevirtual 88, 3) := by decide +kernel
theorem dX7_rests_19 : decode cX7_rests 19 = .ok (.goto 4, 3) := by decide +kernel
theorem dX7_rests_22 : decode cX7_rests 22 = .ok (.iconst (-1), 1) := by decide +kernel
theorem dX7_rests_23 : decode cX7_rests 23 = .ok (.ireturn, 1) := by decide +kernel
theorem dX7_restsOn_0 : decode cX7_restsOn 0 = .ok (.aload_n 0, 1) := by decide +kernel
theorem dX7_restsOn_1 : decode cX7_restsOn 1 = .ok (.getfield 24, 3) := by decide +kernel
theorem dX7_restsOn_4 : decode cX7_restsOn 4 = .ok (.iload_n 1, 1) := by decide +kernel
theorem dX7_restsOn_5 : decode cX7_restsOn 5 = .ok (.invokevirtual 76, 3) := by decide +kernel
theorem dX7_restsOn_8 : decode cX7_restsOn 8 = .ok (.ifCond .ne 5, 3) := by decide +kernel
theorem dX7_restsOn_11 : decode cX7_restsOn 11 = .ok (.iconst (-1), 1) := by decide +kernel
theorem dX7_restsOn_12 : decode cX7_restsOn 12 = .ok (.ireturn, 1) := by decide +kernel
theorem dX7_restsOn_13 : decode cX7_restsOn 13 = .ok (.aload_n 0, 1) := by decide +kernel
theorem dX7_restsOn_14 : decode cX7_restsOn 14 = .ok (.getfield 24, 3) := by decide +kernel
theorem dX7_restsOn_17 : decode cX7_restsOn 17 = .ok (.iload_n 1, 1) := by decide +kernel
theorem dX7_restsOn_18 : decode cX7_restsOn 18 = .ok (.iload_n 2, 1) := by decide +kernel
theorem dX7_restsOn_19 : decode cX7_restsOn 19 = .ok (.invokevirtual 91, 3) := by decide +kernel
theorem dX7_restsOn_22 : decode cX7_restsOn 22 = .ok (.istore_n 3, 1) := by decide +kernel
theorem dX7_restsOn_23 : decode cX7_restsOn 23 = .ok (.iload_n 3, 1) := by decide +kernel
theorem dX7_restsOn_24 : decode cX7_restsOn 24 = .ok (.ifCond .le 7, 3) := by decide +kernel
theorem dX7_restsOn_27 : decode cX7_restsOn 27 = .ok (.iload_n 3, 1) := by decide +kernel
theorem dX7_restsOn_28 : decode cX7_restsOn 28 = .ok (.goto 5, 3) := by decide +kernel
theorem dX7_restsOn_31 : decode cX7_restsOn 31 = .ok (.bipush (-2), 2) := by decide +kernel
theorem dX7_restsOn_33 : decode cX7_restsOn 33 = .ok (.ireturn, 1) := by decide +kernel
theorem dX7_proves_0 : decode cX7_proves 0 = .ok (.aload_n 0, 1) := by decide +kernel
theorem dX7_proves_1 : decode cX7_proves 1 = .ok (.getfield 24, 3) := by decide +kernel
theorem dX7_proves_4 : decode cX7_proves 4 = .ok (.iload_n 1, 1) := by decide +kernel
theorem dX7_proves_5 : decode cX7_proves 5 = .ok (.invokevirtual 76, 3) := by decide +kernel
theorem dX7_proves_8 : decode cX7_proves 8 = .ok (.ifCond .ne 5, 3) := by decide +kernel
theorem dX7_proves_11 : decode cX7_proves 11 = .ok (.iconst (-1), 1) := by decide +kernel
theorem dX7_proves_12 : decode cX7_proves 12 = .ok (.ireturn, 1) := by decide +kernel
theorem dX7_proves_13 : decode cX7_proves 13 = .ok (.aload_n 0, 1) := by decide +kernel
theorem dX7_proves_14 : decode cX7_proves 14 = .ok (.getfield 24, 3) := by decide +kernel
theorem dX7_proves_17 : decode cX7_proves 17 = .ok (.iload_n 1, 1) := by decide +kernel
theorem dX7_proves_18 : decode cX7_proves 18 = .ok (.invokevirtual 81, 3) := by decide +kernel
theorem dX7_proves_21 : decode cX7_proves 21 = .ok (.ifCond .eq 18, 3) := by decide +kernel
theorem dX7_proves_24 : decode cX7_proves 24 = .ok (.aload_n 0, 1) := by decide +kernel
theorem dX7_proves_25 : decode cX7_proves 25 = .ok (.getfield 24, 3) := by decide +kernel
theorem dX7_proves_28 : decode cX7_proves 28 = .ok (.iload_n 1, 1) := by decide +kernel
theorem dX7_proves_29 : decode cX7_proves 29 = .ok (.invokevirtual 88, 3) := by decide +kernel
theorem dX7_proves_32 : decode cX7_proves 32 = .ok (.ifCond .ne 7, 3) := by decide +kernel
theorem dX7_proves_35 : decode cX7_proves 35 = .ok (.iconst 1, 1) := by decide +kernel
theorem dX7_proves_36 : decode cX7_proves 36 = .ok (.goto 4, 3) := by decide +kernel
theorem dX7_proves_39 : decode cX7_proves 39 = .ok (.iconst 0, 1) := by decide +kernel
theorem dX7_proves_40 : decode cX7_proves 40 = .ok (.invokestatic 84, 3) := by decide +kernel
theorem dX7_proves_43 : decode cX7_proves 43 = .ok (.ireturn, 1) := by decide +kernel
theorem dX7_isTrue_0 : decode cX7_isTrue 0 = .ok (.aload_n 0, 1) := by decide +kernel
theorem dX7_isTrue_1 : decode cX7_isTrue 1 = .ok (.getfield 13, 3) := by decide +kernel
theorem dX7_isTrue_4 : decode cX7_isTrue 4 = .ok (.iload_n 1, 1) := by decide +kernel
theorem dX7_isTrue_5 : decode cX7_isTrue 5 = .ok (.invokevirtual 50, 3) := by decide +kernel
theorem dX7_isTrue_8 : decode cX7_isTrue 8 = .ok (.ifCond .eq 18, 3) := by decide +kernel
theorem dX7_isTrue_11 : decode cX7_isTrue 11 = .ok (.aload_n 0, 1) := by decide +kernel
theorem dX7_isTrue_12 : decode cX7_isTrue 12 = .ok (.getfield 13, 3) := by decide +kernel
theorem dX7_isTrue_15 : decode cX7_isTrue 15 = .ok (.iload_n 1, 1) := by decide +kernel
theorem dX7_isTrue_16 : decode cX7_isTrue 16 = .ok (.iload_n 2, 1) := by decide +kernel
theorem dX7_isTrue_17 : decode cX7_isTrue 17 = .ok (.invokevirtual 94, 3) := by decide +kernel
theorem dX7_isTrue_20 : decode cX7_isTrue 20 = .ok (.invokestatic 84, 3) := by decide +kernel
theorem dX7_isTrue_23 : decode cX7_isTrue 23 = .ok (.goto 4, 3) := by decide +kernel
theorem dX7_isTrue_26 : decode cX7_isTrue 26 = .ok (.iconst (-1), 1) := by decide +kernel
theorem dX7_isTrue_27 : decode cX7_isTrue 27 = .ok (.ireturn, 1) := by decide +kernel
theorem dX7_asAnswer_0 : decode cX7_asAnswer 0 = .ok (.iload_n 0, 1) := by decide +kernel
theorem dX7_asAnswer_1 : decode cX7_asAnswer 1 = .ok (.ifCond .eq 7, 3) := by decide +kernel
theorem dX7_asAnswer_4 : decode cX7_asAnswer 4 = .ok (.iconst 1, 1) := by decide +kernel
theorem dX7_asAnswer_5 : decode cX7_asAnswer 5 = .ok (.goto 4, 3) := by decide +kernel
theorem dX7_asAnswer_8 : decode cX7_asAnswer 8 = .ok (.iconst 0, 1) := by decide +kernel
theorem dX7_asAnswer_9 : decode cX7_asAnswer 9 = .ok (.ireturn, 1) := by decide +kernel
theorem dX8_init_0 : decode cX8_init 0 = .ok (.aload_n 0, 1) := by decide +kernel
theorem dX8_init_1 : decode cX8_init 1 = .ok (.invokespecial 1, 3) := by decide +kernel
theorem dX8_init_4 : decode cX8_init 4 = .ok (.aload_n 0, 1) := by decide +kernel
theorem dX8_init_5 : decode cX8_init 5 = .ok (.sipush 601, 3) := by decide +kernel
theorem dX8_init_8 : decode cX8_init 8 = .ok (.newarray .int, 2) := by decide +kernel
theorem dX8_init_10 : decode cX8_init 10 = .ok (.putfield 7, 3) := by decide +kernel
theorem dX8_init_13 : decode cX8_init 13 = .ok (.aload_n 0, 1) := by decide +kernel
theorem dX8_init_14 : decode cX8_init 14 = .ok (.sipush 601, 3) := by decide +kernel
theorem dX8_init_17 : decode cX8_init 17 = .ok (.newarray .int, 2) := by decide +kernel
theorem dX8_init_19 : decode cX8_init 19 = .ok (.putfield 13, 3) := by decide +kernel
theorem dX8_init_22 : decode cX8_init 22 = .ok (.aload_n 0, 1) := by decide +kernel
theorem dX8_init_23 : decode cX8_init 23 = .ok (.sipush 601, 3) := by decide +kernel
theorem dX8_init_26 : decode cX8_init 26 = .ok (.newarray .int, 2) := by decide +kernel
theorem dX8_init_28 : decode cX8_init 28 = .ok (.putfield 16, 3) := by decide +kernel
theorem dX8_init_31 : decode cX8_init 31 = .ok (.aload_n 0, 1) := by decide +kernel
theorem dX8_init_32 : decode cX8_init 32 = .ok (.sipush 8001, 3) := by decide +kernel
theorem dX8_init_35 : decode cX8_init 35 = .ok (.newarray .int, 2) := by decide +kernel
theorem dX8_init_37 : decode cX8_init 37 = .ok (.putfield 19, 3) := by decide +kernel
theorem dX8_init_40 : decode cX8_init 40 = .ok (.aload_n 0, 1) := by decide +kernel
theorem dX8_init_41 : decode cX8_init 41 = .ok (.sipush 8001, 3) := by decide +kernel
theorem dX8_init_44 : decode cX8_init 44 = .ok (.newarray .int, 2) := by decide +kernel
theorem dX8_init_46 : decode cX8_init 46 = .ok (.putfield 22, 3) := by decide +kernel
theorem dX8_init_49 : decode cX8_init 49 = .ok (.aload_n 0, 1) := by decide +kernel
theorem dX8_init_50 : decode cX8_init 50 = .ok (.sipush 8001, 3) := by decide +kernel
theorem dX8_init_53 : decode cX8_init 53 = .ok (.newarray .int, 2) := by decide +kernel
theorem dX8_init_55 : decode cX8_init 55 = .ok (.putfield 25, 3) := by decide +kernel
theorem dX8_init_58 : decode cX8_init 58 = .ok (.aload_n 0, 1) := by decide +kernel
theorem dX8_init_59 : decode cX8_init 59 = .ok (.sipush 8001, 3) := by decide +kernel
theorem dX8_init_62 : decode cX8_init 62 = .ok (.newarray .int, 2) := by decide +kernel
theorem dX8_init_64 : decode cX8_init 64 = .ok (.putfield 28, 3) := by decide +kernel
theorem dX8_init_67 : decode cX8_init 67 = .ok (.aload_n 0, 1) := by decide +kernel
theorem dX8_init_68 : decode cX8_init 68 = .ok (.sipush 8001, 3) := by decide +kernel
theorem dX8_init_71 : decode cX8_init 71 = .ok (.newarray .int, 2) := by decide +kernel
theorem dX8_init_73 : decode cX8_init 73 = .ok (.putfield 31, 3) := by decide +kernel
theorem dX8_init_76 : decode cX8_init 76 = .ok (.aload_n 0, 1) := by decide +kernel
theorem dX8_init_77 : decode cX8_init 77 = .ok (.ldc 34, 2) := by decide +kernel
theorem dX8_init_79 : decode cX8_init 79 = .ok (.newarray .byte, 2) := by decide +kernel
theorem dX8_init_81 : decode cX8_init 81 = .ok (.putfield 35, 3) := by decide +kernel
theorem dX8_init_84 : decode cX8_init 84 = .ok (.aload_n 0, 1) := by decide +kernel
theorem dX8_init_85 : decode cX8_init 85 = .ok (.bipush 82, 2) := by decide +kernel
theorem dX8_init_87 : decode cX8_init 87 = .ok (.newarray .int, 2) := by decide +kernel
theorem dX8_init_89 : decode cX8_init 89 = .ok (.putfield 39, 3) := by decide +kernel
theorem dX8_init_92 : decode cX8_init 92 = .ok (.aload_n 0, 1) := by decide +kernel
theorem dX8_init_93 : decode cX8_init 93 = .ok (.bipush 82, 2) := by decide +kernel
theorem dX8_init_95 : decode cX8_init 95 = .ok (.newarray .int, 2) := by decide +kernel
theorem dX8_init_97 : decode cX8_init 97 = .ok (.putfield 42, 3) := by decide +kernel
theorem dX8_init_100 : decode cX8_init 100 = .ok (.aload_n 0, 1) := by decide +kernel
theorem dX8_init_101 : decode cX8_init 101 = .ok (.bipush 82, 2) := by decide +kernel
theorem dX8_init_103 : decode cX8_init 103 = .ok (.newarray .int, 2) := by decide +kernel
theorem dX8_init_105 : decode cX8_init 105 = .ok (.putfield 45, 3) := by decide +kernel
theorem dX8_init_108 : decode cX8_init 108 = .ok (.aload_n 0, 1) := by decide +kernel
