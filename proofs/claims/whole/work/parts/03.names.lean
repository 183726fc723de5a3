theorem dX4_save_34 : decode cX4_save 34 = .ok (.putfield 80, 3) := by decide +kernel
theorem dX4_save_37 : decode cX4_save 37 = .ok (.aload_n 0, 1) := by decide +kernel
theorem dX4_save_38 : decode cX4_save 38 = .ok (.getfield 26, 3) := by decide +kernel
theorem dX4_save_41 : decode cX4_save 41 = .ok (.aload_n 0, 1) := by decide +kernel
theorem dX4_save_42 : decode cX4_save 42 = .ok (.getfield 64, 3) := by decide +kernel
theorem dX4_save_45 : decode cX4_save 45 = .ok (.aload_n 0, 1) := by decide +kernel
theorem dX4_save_46 : decode cX4_save 46 = .ok (.getfield 80, 3) := by decide +kernel
theorem dX4_save_49 : decode cX4_save 49 = .ok (.iastore, 1) := by decide +kernel
theorem dX4_save_50 : decode cX4_save 50 = .ok (.aload_n 0, 1) := by decide +kernel
theorem dX4_save_51 : decode cX4_save 51 = .ok (.getfield 29, 3) := by decide +kernel
theorem dX4_save_54 : decode cX4_save 54 = .ok (.aload_n 0, 1) := by decide +kernel
theorem dX4_save_55 : decode cX4_save 55 = .ok (.getfield 64, 3) := by decide +kernel
theorem dX4_save_58 : decode cX4_save 58 = .ok (.aload_n 0, 1) := by decide +kernel
theorem dX4_save_59 : decode cX4_save 59 = .ok (.getfield 54, 3) := by decide +kernel
theorem dX4_save_62 : decode cX4_save 62 = .ok (.iastore, 1) := by decide +kernel
theorem dX4_save_63 : decode cX4_save 63 = .ok (.aload_n 0, 1) := by decide +kernel
theorem dX4_save_64 : decode cX4_save 64 = .ok (.getfield 32, 3) := by decide +kernel
theorem dX4_save_67 : decode cX4_save 67 = .ok (.aload_n 0, 1) := by decide +kernel
theorem dX4_save_68 : decode cX4_save 68 = .ok (.getfield 64, 3) := by decide +kernel
theorem dX4_save_71 : decode cX4_save 71 = .ok (.aload_n 0, 1) := by decide +kernel
theorem dX4_save_72 : decode cX4_save 72 = .ok (.getfield 67, 3) := by decide +kernel
theorem dX4_save_75 : decode cX4_save 75 = .ok (.iastore, 1) := by decide +kernel
theorem dX4_save_76 : decode cX4_save 76 = .ok (.aload_n 0, 1) := by decide +kernel
theorem dX4_save_77 : decode cX4_save 77 = .ok (.getfield 35, 3) := by decide +kernel
theorem dX4_save_80 : decode cX4_save 80 = .ok (.aload_n 0, 1) := by decide +kernel
theorem dX4_save_81 : decode cX4_save 81 = .ok (.getfield 64, 3) := by decide +kernel
theorem dX4_save_84 : decode cX4_save 84 = .ok (.aload_n 0, 1) := by decide +kernel
theorem dX4_save_85 : decode cX4_save 85 = .ok (.getfield 83, 3) := by decide +kernel
theorem dX4_save_88 : decode cX4_save 88 = .ok (.iastore, 1) := by decide +kernel
theorem dX4_save_89 : decode cX4_save 89 = .ok (.iconst 0, 1) := by decide +kernel
theorem dX4_save_90 : decode cX4_save 90 = .ok (.istore_n 1, 1) := by decide +kernel
theorem dX4_save_91 : decode cX4_save 91 = .ok (.iload_n 1, 1) := by decide +kernel
theorem dX4_save_92 : decode cX4_save 92 = .ok (.bipush 10, 2) := by decide +kernel
theorem dX4_save_94 : decode cX4_save 94 = .ok (.if_icmp .ge 29, 3) := by decide +kernel
theorem dX4_save_97 : decode cX4_save 97 = .ok (.aload_n 0, 1) := by decide +kernel
theorem dX4_save_98 : decode cX4_save 98 = .ok (.getfield 38, 3) := by decide +kernel
theorem dX4_save_101 : decode cX4_save 101 = .ok (.bipush 10, 2) := by decide +kernel
theorem dX4_save_103 : decode cX4_save 103 = .ok (.aload_n 0, 1) := by decide +kernel
theorem dX4_save_104 : decode cX4_save 104 = .ok (.getfield 64, 3) := by decide +kernel
theorem dX4_save_107 : decode cX4_save 107 = .ok (.imul, 1) := by decide +kernel
theorem dX4_save_108 : decode cX4_save 108 = .ok (.iload_n 1, 1) := by decide +kernel
theorem dX4_save_109 : decode cX4_save 109 = .ok (.iadd, 1) := by decide +kernel
theorem dX4_save_110 : decode cX4_save 110 = .ok (.aload_n 0, 1) := by decide +kernel
theorem dX4_save_111 : decode cX4_save 111 = .ok (.getfield 23, 3) := by decide +kernel
theorem dX4_save_114 : decode cX4_save 114 = .ok (.iload_n 1, 1) := by decide +kernel
theorem dX4_save_115 : decode cX4_save 115 = .ok (.iaload, 1) := by decide +kernel
theorem dX4_save_116 : decode cX4_save 116 = .ok (.iastore, 1) := by decide +kernel
theorem dX4_save_117 : decode cX4_save 117 = .ok (.iinc 1 1, 3) := by decide +kernel
theorem dX4_save_120 : decode cX4_save 120 = .ok (.goto (-29), 3) := by decide +kernel
theorem dX4_save_123 : decode cX4_save 123 = .ok (.aload_n 0, 1) := by decide +kernel
theorem dX4_save_124 : decode cX4_save 124 = .ok (.dup, 1) := by decide +kernel
theorem dX4_save_125 : decode cX4_save 125 = .ok (.getfield 64, 3) := by decide +kernel
theorem dX4_save_128 : decode cX4_save 128 = .ok (.iconst 1, 1) := by decide +kernel
theorem dX4_save_129 : decode cX4_save 129 = .ok (.iadd, 1) := by decide +kernel
theorem dX4_save_130 : decode cX4_save 130 = .ok (.putfield 64, 3) := by decide +kernel
theorem dX4_save_133 : decode cX4_save 133 = .ok (.aload_n 0, 1) := by decide +kernel
theorem dX4_save_134 : decode cX4_save 134 = .ok (.aload_n 0, 1) := by decide +kernel
theorem dX4_save_135 : decode cX4_save 135 = .ok (.getfield 64, 3) := by decide +kernel
theorem dX4_save_138 : decode cX4_save 138 = .ok (.aload_n 0, 1) := by decide +kernel
theorem dX4_save_139 : decode cX4_save 139 = .ok (.getfield 86, 3) := by decide +kernel
theorem dX4_save_142 : decode cX4_save 142 = .ok (.if_icmp .le 10, 3) := by decide +kernel
theorem dX4_save_145 : decode cX4_save 145 = .ok (.aload_n 0, 1) := by decide +kernel
theorem dX4_save_146 : decode cX4_save 146 = .ok (.getfield 64, 3) := by decide +kernel
theorem dX4_save_149 : decode cX4_save 149 = .ok (.goto 7, 3) := by decide +kernel
theorem dX4_save_152 : decode cX4_save 152 = .ok (.aload_n 0, 1) := by decide +kernel
theorem dX4_save_153 : decode cX4_save 153 = .ok (.getfield 86, 3) := by decide +kernel
theorem dX4_save_156 : decode cX4_save 156 = .ok (.putfield 86, 3) := by decide +kernel
theorem dX4_save_159 : decode cX4_save 159 = .ok (.aload_n 0, 1) := by decide +kernel
theorem dX4_save_160 : decode cX4_save 160 = .ok (.getfield 80, 3) := by decide +kernel
theorem dX4_save_163 : decode cX4_save 163 = .ok (.ireturn, 1) := by decide +kernel
theorem dX4_isLive_0 : decode cX4_isLive 0 = .ok (.iconst 0, 1) := by decide +kernel
theorem dX4_isLive_1 : decode cX4_isLive 1 = .ok (.istore_n 2, 1) := by decide +kernel
theorem dX4_isLive_2 : decode cX4_isLive 2 = .ok (.iconst 0, 1) := by decide +kernel
theorem dX4_isLive_3 : decode cX4_isLive 3 = .ok (.istore_n 3, 1) := by decide +kernel
theorem dX4_isLive_4 : decode cX4_isLive 4 = .ok (.iload_n 3, 1) := by decide +kernel
theorem dX4_isLive_5 : decode cX4_isLive 5 = .ok (.aload_n 0, 1) := by decide +kernel
theorem dX4_isLive_6 : decode cX4_isLive 6 = .ok (.getfield 64, 3) := by decide +kernel
theorem dX4_isLive_9 : decode cX4_isLive 9 = .ok (.if_icmp .ge 29, 3) := by decide +kernel
theorem dX4_isLive_12 : decode cX4_isLive 12 = .ok (.iload_n 2, 1) := by decide +kernel
theorem dX4_isLive_13 : decode cX4_isLive 13 = .ok (.ifCond .ne 13, 3) := by decide +kernel
theorem dX4_isLive_16 : decode cX4_isLive 16 = .ok (.aload_n 0, 1) := by decide +kernel
theorem dX4_isLive_17 : decode cX4_isLive 17 = .ok (.getfield 26, 3) := by decide +kernel
theorem dX4_isLive_20 : decode cX4_isLive 20 = .ok (.iload_n 3, 1) := by decide +kernel
theorem dX4_isLive_21 : decode cX4_isLive 21 = .ok (.iaload, 1) := by decide +kernel
theorem dX4_isLive_22 : decode cX4_isLive 22 = .ok (.iload_n 1, 1) := by decide +kernel
theorem dX4_isLive_23 : decode cX4_isLive 23 = .ok (.if_icmp .ne 7, 3) := by decide +kernel
theorem dX4_isLive_26 : decode cX4_isLive 26 = .ok (.iconst 1, 1) := by decide +kernel
theorem dX4_isLive_27 : decode cX4_isLive 27 = .ok (.goto 4, 3) := by decide +kernel
theorem dX4_isLive_30 : decode cX4_isLive 30 = .ok (.iconst 0, 1) := by decide +kernel
theorem dX4_isLive_31 : decode cX4_isLive 31 = .ok (.istore_n 2, 1) := by decide +kernel
theorem dX4_isLive_32 : decode cX4_isLive 32 = .ok (.iinc 3 1, 3) := by decide +kernel
theorem dX4_isLive_35 : decode cX4_isLive 35 = .ok (.goto (-31), 3) := by decide +kernel
theorem dX4_isLive_38 : decode cX4_isLive 38 = .ok (.iload_n 2, 1) := by decide +kernel
theorem dX4_isLive_39 : decode cX4_isLive 39 = .ok (.ireturn, 1) := by decide +kernel
theorem dX4_isNewer_0 : decode cX4_isNewer 0 = .ok (.iload_n 1, 1) := by decide +kernel
theorem dX4_isNewer_1 : decode cX4_isNewer 1 = .ok (.ifCond .ge 25, 3) := by decide +kernel
theorem dX4_isNewer_4 : decode cX4_isNewer 4 = .ok (.iconst (-1), 1) := by decide +kernel
theorem dX4_isNewer_5 : decode cX4_isNewer 5 = .ok (.iload_n 1, 1) := by decide +kernel
theorem dX4_isNewer_6 : decode cX4_isNewer 6 = .ok (.isub, 1) := by decide +kernel
theorem dX4_isNewer_7 : decode cX4_isNewer 7 = .ok (.iload_n 2, 1) := by decide +kernel
theorem dX4_isNewer_8 : decode cX4_isNewer 8 = .ok (.if_icmp .lt 18, 3) := by decide +kernel
theorem dX4_isNewer_11 : decode cX4_isNewer 11 = .ok (.aload_n 0, 1) := by decide +kernel
theorem dX4_isNewer_12 : decode cX4_isNewer 12 = .ok (.getfield 13, 3) := by decide +kernel
theorem dX4_isNewer_15 : decode cX4_isNewer 15 = .ok (.iconst (-1), 1) := by decide +kernel
theorem dX4_isNewer_16 : decode cX4_isNewer 16 = .ok (.iload_n 1, 1) := by decide +kernel
theorem dX4_isNewer_17 : decode cX4_isNewer 17 = .ok (.isub, 1) := by decide +kernel
theorem dX4_isNewer_18 : decode cX4_isNewer 18 = .ok (.baload, 1) := by decide +kernel
theorem dX4_isNewer_19 : decode cX4_isNewer 19 = .ok (.ifCond .ne 7, 3) := by decide +kernel
theorem dX4_isNewer_22 : decode cX4_isNewer 22 = .ok (.iconst 1, 1) := by decide +kernel
theorem dX4_isNewer_23 : decode cX4_isNewer 23 = .ok (.goto 4, 3) := by decide +kernel
theorem dX4_isNewer_26 : decode cX4_isNewer 26 = .ok (.iconst 0, 1) := by decide +kernel
theorem dX4_isNewer_27 : decode cX4_isNewer 27 = .ok (.ireturn, 1) := by decide +kernel
theorem dX4_restore_0 : decode cX4_restore 0 = .ok (.aload_n 0, 1) := by decide +kernel
theorem dX4_restore_1 : decode cX4_restore 1 = .ok (.iconst 0, 1) := by decide +kernel
theorem dX4_restore_2 : decode cX4_restore 2 = .ok (.putfield 50, 3) := by decide +kernel
theorem dX4_restore_5 : decode cX4_restore 5 = .ok (.iload_n 1, 1) := by decide +kernel
theorem dX4_restore_6 : decode cX4_restore 6 = .ok (.iconst 1, 1) := by decide +kernel
theorem dX4_restore_7 : decode cX4_restore 7 = .ok (.if_icmp .lt 11, 3) := by decide +kernel
theorem dX4_restore_10 : decode cX4_restore 10 = .ok (.iload_n 1, 1) := by decide +kernel
theorem dX4_restore_11 : decode cX4_restore 11 = .ok (.aload_n 0, 1) := by decide +kernel
theorem dX4_restore_12 : decode cX4_restore 12 = .ok (.getfield 80, 3) := by decide +kernel
theorem dX4_restore_15 : decode cX4_restore 15 = .ok (.if_icmp .le 5, 3) := by decide +kernel
theorem dX4_restore_18 : decode cX4_restore 18 = .ok (.iconst (-1), 1) := by decide +kernel
theorem dX4_restore_19 : decode cX4_restore 19 = .ok (.ireturn, 1) := by decide +kernel
theorem dX4_restore_20 : decode cX4_restore 20 = .ok (.aload_n 0, 1) := by decide +kernel
theorem dX4_restore_21 : decode cX4_restore 21 = .ok (.iload_n 1, 1) := by decide +kernel
theorem dX4_restore_22 : decode cX4_restore 22 = .ok (.invokevirtual 89, 3) := by decide +kernel
theorem dX4_restore_25 : decode cX4_restore 25 = .ok (.ifCond .ne 6, 3) := by decide +kernel
theorem dX4_restore_28 : decode cX4_restore 28 = .ok (.bipush (-2), 2) := by decide +kernel
theorem dX4_restore_30 : decode cX4_restore 30 = .ok (.ireturn, 1) := by decide +kernel
theorem dX4_restore_31 : decode cX4_restore 31 = .ok (.aload_n 0, 1) := by decide +kernel
theorem dX4_restore_32 : decode cX4_restore 32 = .ok (.getfield 26, 3) := by decide +kernel
theorem dX4_restore_35 : decode cX4_restore 35 = .ok (.aload_n 0, 1) := by decide +kernel
theorem dX4_restore_36 : decode cX4_restore 36 = .ok (.getfield 64, 3) := by decide +kernel
theorem dX4_restore_39 : decode cX4_restore 39 = .ok (.iconst 1, 1) := by decide +kernel
theorem dX4_restore_40 : decode cX4_restore 40 = .ok (.isub, 1) := by decide +kernel
theorem dX4_restore_41 : decode cX4_restore 41 = .ok (.iaload, 1) := by decide +kernel
theorem dX4_restore_42 : decode cX4_restore 42 = .ok (.iload_n 1, 1) := by decide +kernel
theorem dX4_restore_43 : decode cX4_restore 43 = .ok (.if_icmp .eq 6, 3) := by decide +kernel
theorem dX4_restore_46 : decode cX4_restore 46 = .ok (.bipush (-3), 2) := by decide +kernel
theorem dX4_restore_48 : decode cX4_restore 48 = .ok (.ireturn, 1) := by decide +kernel
theorem dX4_restore_49 : decode cX4_restore 49 = .ok (.aload_n 0, 1) := by decide +kernel
theorem dX4_restore_50 : decode cX4_restore 50 = .ok (.getfield 64, 3) := by decide +kernel
theorem dX4_restore_53 : decode cX4_restore 53 = .ok (.iconst 1, 1) := by decide +kernel
theorem dX4_restore_54 : decode cX4_restore 54 = .ok (.isub, 1) := by decide +kernel
theorem dX4_restore_55 : decode cX4_restore 55 = .ok (.istore_n 2, 1) := by decide +kernel
theorem dX4_restore_56 : decode cX4_restore 56 = .ok (.aload_n 0, 1) := by decide +kernel
theorem dX4_restore_57 : decode cX4_restore 57 = .ok (.aload_n 0, 1) := by decide +kernel
theorem dX4_restore_58 : decode cX4_restore 58 = .ok (.getfield 23, 3) := by decide +kernel
theorem dX4_restore_61 : decode cX4_restore 61 = .ok (.bipush 8, 2) := by decide +kernel
theorem dX4_restore_63 : decode cX4_restore 63 = .ok (.iaload, 1) := by decide +kernel
theorem dX4_restore_64 : decode cX4_restore 64 = .ok (.aload_n 0, 1) := by decide +kernel
theorem dX4_restore_65 : decode cX4_restore 65 = .ok (.getfield 29, 3) := by decide +kernel
theorem dX4_restore_68 : decode cX4_restore 68 = .ok (.iload_n 2, 1) := by decide +kernel
theorem dX4_restore_69 : decode cX4_restore 69 = .ok (.iaload, 1) := by decide +kernel
theorem dX4_restore_70 : decode cX4_restore 70 = .ok (.invokevirtual 92, 3) := by decide +kernel
theorem dX4_restore_73 : decode cX4_restore 73 = .ok (.ifCond .ne 23, 3) := by decide +kernel
theorem dX4_restore_76 : decode cX4_restore 76 = .ok (.aload_n 0, 1) := by decide +kernel
theorem dX4_restore_77 : decode cX4_restore 77 = .ok (.aload_n 0, 1) := by decide +kernel
theorem dX4_restore_78 : decode cX4_restore 78 = .ok (.getfield 23, 3) := by decide +kernel
theorem dX4_restore_81 : decode cX4_restore 81 = .ok (.bipush 9, 2) := by decide +kernel
theorem dX4_restore_83 : decode cX4_restore 83 = .ok (.iaload, 1) := by decide +kernel
theorem dX4_restore_84 : decode cX4_restore 84 = .ok (.aload_n 0, 1) := by decide +kernel
theorem dX4_restore_85 : decode cX4_restore 85 = .ok (.getfield 29, 3) := by decide +kernel
theorem dX4_restore_88 : decode cX4_restore 88 = .ok (.iload_n 2, 1) := by decide +kernel
theorem dX4_restore_89 : decode cX4_restore 89 = .ok (.iaload, 1) := by decide +kernel
theorem dX4_restore_90 : decode cX4_restore 90 = .ok (.invokevirtual 92, 3) := by decide +kernel
theorem dX4_restore_93 : decode cX4_restore 93 = .ok (.ifCond .eq 6, 3) := by decide +kernel
theorem dX4_restore_96 : decode cX4_restore 96 = .ok (.bipush (-4), 2) := by decide +kernel
theorem dX4_restore_98 : decode cX4_restore 98 = .ok (.ireturn, 1) := by decide +kernel
theorem dX4_restore_99 : decode cX4_restore 99 = .ok (.aload_n 0, 1) := by decide +kernel
theorem dX4_restore_100 : decode cX4_restore 100 = .ok (.getfield 32, 3) := by decide +kernel
theorem dX4_restore_103 : decode cX4_restore 103 = .ok (.iload_n 2, 1) := by decide +kernel
theorem dX4_restore_104 : decode cX4_restore 104 = .ok (.iaload, 1) := by decide +kernel
theorem dX4_restore_105 : decode cX4_restore 105 = .ok (.istore_n 3, 1) := by decide +kernel
theorem dX4_restore_106 : decode cX4_restore 106 = .ok (.iload_n 3, 1) := by decide +kernel
theorem dX4_restore_107 : decode cX4_restore 107 = .ok (.aload_n 0, 1) := by decide +kernel
theorem dX4_restore_108 : decode cX4_restore 108 = .ok (.getfield 67, 3) := by decide +kernel
theorem dX4_restore_111 : decode cX4_restore 111 = .ok (.if_icmp .ge 26, 3) := by decide +kernel
theorem dX4_restore_114 : decode cX4_restore 114 = .ok (.aload_n 0, 1) := by decide +kernel
theorem dX4_restore_115 : decode cX4_restore 115 = .ok (.getfield 16, 3) := by decide +kernel
theorem dX4_restore_118 : decode cX4_restore 118 = .ok (.aload_n 0, 1) := by decide +kernel
theorem dX4_restore_119 : decode cX4_restore 119 = .ok (.getfield 41, 3) := by decide +kernel
theorem dX4_restore_122 : decode cX4_restore 122 = .ok (.iload_n 3, 1) := by decide +kernel
theorem dX4_restore_123 : decode cX4_restore 123 = .ok (.iaload, 1) := by decide +kernel
theorem dX4_restore_124 : decode cX4_restore 124 = .ok (.aload_n 0, 1) := by decide +kernel
theorem dX4_restore_125 : decode cX4_restore 125 = .ok (.getfield 44, 3) := by decide +kernel
theorem dX4_restore_128 : decode cX4_restore 128 = .ok (.iload_n 3, 1) := by decide +kernel
theorem dX4_restore_129 : decode cX4_restore 129 = .ok (.iaload, 1) := by decide +kernel
theorem dX4_restore_130 : decode cX4_restore 130 = .ok (.iastore, 1) := by decide +kernel
theorem dX4_restore_131 : decode cX4_restore 131 = .ok (.iinc 3 1, 3) := by decide +kernel
theorem dX4_restore_134 : decode cX4_restore 134 = .ok (.goto (-28), 3) := by decide +kernel
theorem dX4_restore_137 : decode cX4_restore 137 = .ok (.aload_n 0, 1) := by decide +kernel
theorem dX4_restore_138 : decode cX4_restore 138 = .ok (.aload_n 0, 1) := by decide +kernel
theorem dX4_restore_139 : decode cX4_restore 139 = .ok (.getfield 32, 3) := by decide +kernel
theorem dX4_restore_142 : decode cX4_restore 142 = .ok (.iload_n 2, 1) := by decide +kernel
theorem dX4_restore_143 : decode cX4_restore 143 = .ok (.iaload, 1) := by decide +kernel
theorem dX4_restore_144 : decode cX4_restore 144 = .ok (.putfield 67, 3) := by decide +kernel
theorem dX4_restore_147 : decode cX4_restore 147 = .ok (.aload_n 0, 1) := by decide +kernel
theorem dX4_restore_148 : decode cX4_restore 148 = .ok (.aload_n 0, 1) := by decide +kernel
theorem dX4_restore_149 : decode cX4_restore 149 = .ok (.getfield 35, 3) := by decide +kernel
theorem dX4_restore_152 : decode cX4_restore 152 = .ok (.iload_n 2, 1) := by decide +kernel
theorem dX4_restore_153 : decode cX4_restore 153 = .ok (.iaload, 1) := by decide +kernel
theorem dX4_restore_154 : decode cX4_restore 154 = .ok (.putfield 83, 3) := by decide +kernel
theorem dX4_restore_157 : decode cX4_restore 157 = .ok (.aload_n 0, 1) := by decide +kernel
theorem dX4_restore_158 : decode cX4_restore 158 = .ok (.getfield 29, 3) := by decide +kernel
theorem dX4_restore_161 : decode cX4_restore 161 = .ok (.iload_n 2, 1) := by decide +kernel
theorem dX4_restore_162 : decode cX4_restore 162 = .ok (.iaload, 1) := by decide +kernel
theorem dX4_restore_163 : decode cX4_restore 163 = .ok (.istore_n 3, 1) := by decide +kernel
theorem dX4_restore_164 : decode cX4_restore 164 = .ok (.iload_n 3, 1) := by decide +kernel
theorem dX4_restore_165 : decode cX4_restore 165 = .ok (.aload_n 0, 1) := by decide +kernel
theorem dX4_restore_166 : decode cX4_restore 166 = .ok (.getfield 54, 3) := by decide +kernel
theorem dX4_restore_169 : decode cX4_restore 169 = .ok (.if_icmp .ge 44, 3) := by decide +kernel
theorem dX4_restore_172 : decode cX4_restore 172 = .ok (.aload_n 0, 1) := by decide +kernel
theorem dX4_restore_173 : decode cX4_restore 173 = .ok (.getfield 7, 3) := by decide +kernel
theorem dX4_restore_176 : decode cX4_restore 176 = .ok (.iload_n 3, 1) := by decide +kernel
theorem dX4_restore_177 : decode cX4_restore 177 = .ok (.baload, 1) := by decide +kernel
theorem dX4_restore_178 : decode cX4_restore 178 = .ok (.ifCond .eq 29, 3) := by decide +kernel
theorem dX4_restore_181 : decode cX4_restore 181 = .ok (.aload_n 0, 1) := by decide +kernel
theorem dX4_restore_182 : decode cX4_restore 182 = .ok (.getfield 13, 3) := by decide +kernel
theorem dX4_restore_185 : decode cX4_restore 185 = .ok (.iload_n 3, 1) := by decide +kernel
theorem dX4_restore_186 : decode cX4_restore 186 = .ok (.baload, 1) := by decide +kernel
theorem dX4_restore_187 : decode cX4_restore 187 = .ok (.ifCond .ne 20, 3) := by decide +kernel
theorem dX4_restore_190 : decode cX4_restore 190 = .ok (.aload_n 0, 1) := by decide +kernel
theorem dX4_restore_191 : decode cX4_restore 191 = .ok (.getfield 7, 3) := by decide +kernel
theorem dX4_restore_194 : decode cX4_restore 194 = .ok (.iload_n 3, 1) := by decide +kernel
theorem dX4_restore_195 : decode cX4_restore 195 = .ok (.iconst 0, 1) := by decide +kernel
theorem dX4_restore_196 : decode cX4_restore 196 = .ok (.bastore, 1) := by decide +kernel
theorem dX4_restore_197 : decode cX4_restore 197 = .ok (.aload_n 0, 1) := by decide +kernel
theorem dX4_restore_198 : decode cX4_restore 198 = .ok (.dup, 1) := by decide +kernel
theorem dX4_restore_199 : decode cX4_restore 199 = .ok (.getfield 61, 3) := by decide +kernel
theorem dX4_restore_202 : decode cX4_restore 202 = .ok (.iconst 1, 1) := by decide +kernel
theorem dX4_restore_203 : decode cX4_restore 203 = .ok (.isub, 1) := by decide +kernel
theorem dX4_restore_204 : decode cX4_restore 204 = .ok (.putfield 61, 3) := by decide +kernel
theorem dX4_restore_207 : decode cX4_restore 207 = .ok (.iinc 3 1, 3) := by decide +kernel
theorem dX4_restore_210 : decode cX4_restore 210 = .ok (.goto (-46), 3) := by decide +kernel
theorem dX4_restore_213 : decode cX4_restore 213 = .ok (.iconst 0, 1) := by decide +kernel
theorem dX4_restore_214 : decode cX4_restore 214 = .ok (.istore_n 3, 1) := by decide +kernel
theorem dX4_restore_215 : decode cX4_restore 215 = .ok (.iload_n 3, 1) := by decide +kernel
theorem dX4_restore_216 : decode cX4_restore 216 = .ok (.bipush 8, 2) := by decide +kernel
theorem dX4_restore_218 : decode cX4_restore 218 = .ok (.if_icmp .ge 26, 3) := by decide +kernel
theorem dX4_restore_221 : decode cX4_restore 221 = .ok (.aload_n 0, 1) := by decide +kernel
theorem dX4_restore_222 : decode cX4_restore 222 = .ok (.getfield 23, 3) := by decide +kernel
theorem dX4_restore_225 : decode cX4_restore 225 = .ok (.iload_n 3, 1) := by decide +kernel
theorem dX4_restore_226 : decode cX4_restore 226 = .ok (.aload_n 0, 1) := by decide +kernel
theorem dX4_restore_227 : decode cX4_restore 227 = .ok (.getfield 38, 3) := by decide +kernel
theorem dX4_restore_230 : decode cX4_restore 230 = .ok (.bipush 10, 2) := by decide +kernel
theorem dX4_restore_232 : decode cX4_restore 232 = .ok (.iload_n 2, 1) := by decide +kernel
theorem dX4_restore_233 : decode cX4_restore 233 = .ok (.imul, 1) := by decide +kernel
theorem dX4_restore_234 : decode cX4_restore 234 = .ok (.iload_n 3, 1) := by decide +kernel
theorem dX4_restore_235 : decode cX4_restore 235 = .ok (.iadd, 1) := by decide +kernel
theorem dX4_restore_236 : decode cX4_restore 236 = .ok (.iaload, 1) := by decide +kernel
theorem dX4_restore_237 : decode cX4_restore 237 = .ok (.iastore, 1) := by decide +kernel
theorem dX4_restore_238 : decode cX4_restore 238 = .ok (.iinc 3 1, 3) := by decide +kernel
theorem dX4_restore_241 : decode cX4_restore 241 = .ok (.goto (-26), 3) := by decide +kernel
theorem dX4_restore_244 : decode cX4_restore 244 = .ok (.aload_n 0, 1) := by decide +kernel
theorem dX4_restore_245 : decode cX4_restore 245 = .ok (.iload_n 2, 1) := by decide +kernel
theorem dX4_restore_246 : decode cX4_restore 246 = .ok (.putfield 64, 3) := by decide +kernel
theorem dX4_restore_249 : decode cX4_restore 249 = .ok (.iconst 1, 1) := by decide +kernel
theorem dX4_restore_250 : decode cX4_restore 250 = .ok (.ireturn, 1) := by decide +kernel
theorem dX4_isParameter_0 : decode cX4_isParameter 0 = .ok (.iload_n 0, 1) := by decide +kernel
theorem dX4_isParameter_1 : decode cX4_isParameter 1 = .ok (.ifCond .lt 13, 3) := by decide +kernel
theorem dX4_isParameter_4 : decode cX4_isParameter 4 = .ok (.iload_n 0, 1) := by decide +kernel
theorem dX4_isParameter_5 : decode cX4_isParameter 5 = .ok (.bipush 10, 2) := by decide +kernel
theorem dX4_isParameter_7 : decode cX4_isParameter 7 = .ok (.if_icmp .ge 7, 3) := by decide +kernel
theorem dX4_isParameter_10 : decode cX4_isParameter 10 = .ok (.iconst 1, 1) := by decide +kernel
theorem dX4_isParameter_11 : decode cX4_isParameter 11 = .ok (.goto 4, 3) := by decide +kernel
theorem dX4_isParameter_14 : decode cX4_isParameter 14 = .ok (.iconst 0, 1) := by decide +kernel
theorem dX4_isParameter_15 : decode cX4_isParameter 15 = .ok (.ireturn, 1) := by decide +kernel
theorem dX4_state_0 : decode cX4_state 0 = .ok (.aload_n 0, 1) := by decide +kernel
theorem dX4_state_1 : decode cX4_state 1 = .ok (.aload_n 0, 1) := by decide +kernel
theorem dX4_state_2 : decode cX4_state 2 = .ok (.iload_n 2, 1) := by decide +kernel
theorem dX4_state_3 : decode cX4_state 3 = .ok (.invokevirtual 70, 3) := by decide +kernel
theorem dX4_state_6 : decode cX4_state 6 = .ok (.ifCond .ne 7, 3) := by decide +kernel
theorem dX4_state_9 : decode cX4_state 9 = .ok (.iconst 1, 1) := by decide +kernel
theorem dX4_state_10 : decode cX4_state 10 = .ok (.goto 15, 3) := by decide +kernel
theorem dX4_state_13 : decode cX4_state 13 = .ok (.iload_n 1, 1) := by decide +kernel
theorem dX4_state_14 : decode cX4_state 14 = .ok (.invokestatic 96, 3) := by decide +kernel
theorem dX4_state_17 : decode cX4_state 17 = .ok (.ifCond .ne 7, 3) := by decide +kernel
theorem dX4_state_20 : decode cX4_state 20 = .ok (.iconst 2, 1) := by decide +kernel
theorem dX4_state_21 : decode cX4_state 21 = .ok (.goto 4, 3) := by decide +kernel
theorem dX4_state_24 : decode cX4_state 24 = .ok (.iconst 0, 1) := by decide +kernel
theorem dX4_state_25 : decode cX4_state 25 = .ok (.putfield 50, 3) := by decide +kernel
theorem dX4_state_28 : decode cX4_state 28 = .ok (.aload_n 0, 1) := by decide +kernel
theorem dX4_state_29 : decode cX4_state 29 = .ok (.getfield 50, 3) := by decide +kernel
theorem dX4_state_32 : decode cX4_state 32 = .ok (.ifCond .le 5, 3) := by decide +kernel
theorem dX4_state_35 : decode cX4_state 35 = .ok (.iconst 0, 1) := by decide +kernel
theorem dX4_state_36 : decode cX4_state 36 = .ok (.ireturn, 1) := by decide +kernel
theorem dX4_state_37 : decode cX4_state 37 = .ok (.aload_n 0, 1) := by decide +kernel
theorem dX4_state_38 : decode cX4_state 38 = .ok (.getfield 23, 3) := by decide +kernel
theorem dX4_state_41 : decode cX4_state 41 = .ok (.iload_n 1, 1) := by decide +kernel
theorem dX4_state_42 : decode cX4_state 42 = .ok (.iaload, 1) := by decide +kernel
theorem dX4_state_43 : decode cX4_state 43 = .ok (.istore_n 3, 1) := by decide +kernel
theorem dX4_state_44 : decode cX4_state 44 = .ok (.aload_n 0, 1) := by decide +kernel
theorem dX4_state_45 : decode cX4_state 45 = .ok (.getfield 23, 3) := by decide +kernel
theorem dX4_state_48 : decode cX4_state 48 = .ok (.iload_n 1, 1) := by decide +kernel
theorem dX4_state_49 : decode cX4_state 49 = .ok (.iload_n 2, 1) := by decide +kernel
theorem dX4_state_50 : decode cX4_state 50 = .ok (.iastore, 1) := by decide +kernel
theorem dX4_state_51 : decode cX4_state 51 = .ok (.iload_n 3, 1) := by decide +kernel
theorem dX4_state_52 : decode cX4_state 52 = .ok (.ireturn, 1) := by decide +kernel
theorem dX4_stateOf_0 : decode cX4_stateOf 0 = .ok (.aload_n 0, 1) := by decide +kernel
theorem dX4_stateOf_1 : decode cX4_stateOf 1 = .ok (.iload_n 1, 1) := by decide +kernel
theorem dX4_stateOf_2 : decode cX4_stateOf 2 = .ok (.invokestatic 96, 3) := by decide +kernel
theorem dX4_stateOf_5 : decode cX4_stateOf 5 = .ok (.ifCond .eq 7, 3) := by decide +kernel
theorem dX4_stateOf_8 : decode cX4_stateOf 8 = .ok (.iconst 0, 1) := by decide +kernel
theorem dX4_stateOf_9 : decode cX4_stateOf 9 = .ok (.goto 4, 3) := by decide +kernel
theorem dX4_stateOf_12 : decode cX4_stateOf 12 = .ok (.iconst 1, 1) := by decide +kernel
theorem dX4_stateOf_13 : decode cX4_stateOf 13 = .ok (.putfield 50, 3) := by decide +kernel
theorem dX4_stateOf_16 : decode cX4_stateOf 16 = .ok (.aload_n 0, 1) := by decide +kernel
theorem dX4_stateOf_17 : decode cX4_stateOf 17 = .ok (.getfield 50, 3) := by decide +kernel
theorem dX4_stateOf_20 : decode cX4_stateOf 20 = .ok (.ifCond .le 7, 3) := by decide +kernel
theorem dX4_stateOf_23 : decode cX4_stateOf 23 = .ok (.iconst 0, 1) := by decide +kernel
theorem dX4_stateOf_24 : decode cX4_stateOf 24 = .ok (.goto 9, 3) := by decide +kernel
theorem dX4_stateOf_27 : decode cX4_stateOf 27 = .ok (.aload_n 0, 1) := by decide +kernel
theorem dX4_stateOf_28 : decode cX4_stateOf 28 = .ok (.getfield 23, 3) := by decide +kernel
theorem dX4_stateOf_31 : decode cX4_stateOf 31 = .ok (.iload_n 1, 1) := by decide +kernel
theorem dX4_stateOf_32 : decode cX4_stateOf 32 = .ok (.iaload, 1) := by decide +kernel
theorem dX4_stateOf_33 : decode cX4_stateOf 33 = .ok (.ireturn, 1) := by decide +kernel
theorem dX4_ownStates_0 : decode cX4_ownStates 0 = .ok (.aload_n 0, 1) := by decide +kernel
theorem dX4_ownStates_1 : decode cX4_ownStates 1 = .ok (.getfield 64, 3) := by decide +kernel
theorem dX4_ownStates_4 : decode cX4_ownStates 4 = .ok (.ifCond .ne 10, 3) := by decide +kernel
theorem dX4_ownStates_7 : decode cX4_ownStates 7 = .ok (.aload_n 0, 1) := by decide +kernel
theorem dX4_ownStates_8 : decode cX4_ownStates 8 = .ok (.getfield 83, 3) := by decide +kernel
theorem dX4_ownStates_11 : decode cX4_ownStates 11 = .ok (.goto 19, 3) := by decide +kernel
theorem dX4_ownStates_14 : decode cX4_ownStates 14 = .ok (.aload_n 0, 1) := by decide +kernel
theorem dX4_ownStates_15 : decode cX4_ownStates 15 = .ok (.getfield 83, 3) := by decide +kernel
theorem dX4_ownStates_18 : decode cX4_ownStates 18 = .ok (.aload_n 0, 1) := by decide +kernel
theorem dX4_ownStates_19 : decode cX4_ownStates 19 = .ok (.getfield 35, 3) := by decide +kernel
theorem dX4_ownStates_22 : decode cX4_ownStates 22 = .ok (.aload_n 0, 1) := by decide +kernel
theorem dX4_ownStates_23 : decode cX4_ownStates 23 = .ok (.getfield 64, 3) := by decide +kernel
theorem dX4_ownStates_26 : decode cX4_ownStates 26 = .ok (.iconst 1, 1) := by decide +kernel
theorem dX4_ownStates_27 : decode cX4_ownStates 27 = .ok (.isub, 1) := by decide +kernel
theorem dX4_ownStates_28 : decode cX4_ownStates 28 = .ok (.iaload, 1) := by decide +kernel
theorem dX4_ownStates_29 : decode cX4_ownStates 29 = .ok (.isub, 1) := by decide +kernel
theorem dX4_ownStates_30 : decode cX4_ownStates 30 = .ok (.ireturn, 1) := by decide +kernel
theorem dX4_push_0 : decode cX4_push 0 = .ok (.aload_n 0, 1) := by decide +kernel
theorem dX4_push_1 : decode cX4_push 1 = .ok (.aload_n 0, 1) := by decide +kernel
theorem dX4_push_2 : decode cX4_push 2 = .ok (.getfield 83, 3) := by decide +kernel
theorem dX4_push_5 : decode cX4_push 5 = .ok (.bipush 30, 2) := by decide +kernel
theorem dX4_push_7 : decode cX4_push 7 = .ok (.if_icmp .ne 7, 3) := by decide +kernel
theorem dX4_push_10 : decode cX4_push 10 = .ok (.iconst 1, 1) := by decide +kernel
theorem dX4_push_11 : decode cX4_push 11 = .ok (.goto 4, 3) := by decide +kernel
theorem dX4_push_14 : decode cX4_push 14 = .ok (.iconst 0, 1) := by decide +kernel
theorem dX4_push_15 : decode cX4_push 15 = .ok (.putfield 50, 3) := by decide +kernel
theorem dX4_push_18 : decode cX4_push 18 = .ok (.aload_n 0, 1) := by decide +kernel
theorem dX4_push_19 : decode cX4_push 19 = .ok (.getfield 50, 3) := by decide +kernel
theorem dX4_push_22 : decode cX4_push 22 = .ok (.ifCond .le 5, 3) := by decide +kernel
theorem dX4_push_25 : decode cX4_push 25 = .ok (.iconst 0, 1) := by decide +kernel
theorem dX4_push_26 : decode cX4_push 26 = .ok (.ireturn, 1) := by decide +kernel
theorem dX4_push_27 : decode cX4_push 27 = .ok (.iconst 0, 1) := by decide +kernel
theorem dX4_push_28 : decode cX4_push 28 = .ok (.istore_n 1, 1) := by decide +kernel
theorem dX4_push_29 : decode cX4_push 29 = .ok (.iload_n 1, 1) := by decide +kernel
theorem dX4_push_30 : decode cX4_push 30 = .ok (.bipush 8, 2) := by decide +kernel
theorem dX4_push_32 : decode cX4_push 32 = .ok (.if_icmp .ge 29, 3) := by decide +kernel
theorem dX4_push_35 : decode cX4_push 35 = .ok (.aload_n 0, 1) := by decide +kernel
theorem dX4_push_36 : decode cX4_push 36 = .ok (.getfield 47, 3) := by decide +kernel
theorem dX4_push_39 : decode cX4_push 39 = .ok (.bipush 8, 2) := by decide +kernel
theorem dX4_push_41 : decode cX4_push 41 = .ok (.aload_n 0, 1) := by decide +kernel
theorem dX4_push_42 : decode cX4_push 42 = .ok (.getfield 83, 3) := by decide +kernel
theorem dX4_push_45 : decode cX4_push 45 = .ok (.imul, 1) := by decide +kernel
theorem dX4_push_46 : decode cX4_push 46 = .ok (.iload_n 1, 1) := by decide +kernel
theorem dX4_push_47 : decode cX4_push 47 = .ok (.iadd, 1) := by decide +kernel
theorem dX4_push_48 : decode cX4_push 48 = .ok (.aload_n 0, 1) := by decide +kernel
theorem dX4_push_49 : decode cX4_push 49 = .ok (.getfield 23, 3) := by decide +kernel
theorem dX4_push_52 : decode cX4_push 52 = .ok (.iload_n 1, 1) := by decide +kernel
theorem dX4_push_53 : decode cX4_push 53 = .ok (.iaload, 1) := by decide +kernel
theorem dX4_push_54 : decode cX4_push 54 = .ok (.iastore, 1) := by decide +kernel
theorem dX4_push_55 : decode cX4_push 55 = .ok (.iinc 1 1, 3) := by decide +kernel
theorem dX4_push_58 : decode cX4_push 58 = .ok (.goto (-29), 3) := by decide +kernel
theorem dX4_push_61 : decode cX4_push 61 = .ok (.aload_n 0, 1) := by decide +kernel
theorem dX4_push_62 : decode cX4_push 62 = .ok (.dup, 1) := by decide +kernel
theorem dX4_push_63 : decode cX4_push 63 = .ok (.getfield 83, 3) := by decide +kernel
theorem dX4_push_66 : decode cX4_push 66 = .ok (.iconst 1, 1) := by decide +kernel
theorem dX4_push_67 : decode cX4_push 67 = .ok (.iadd, 1) := by decide +kernel
theorem dX4_push_68 : decode cX4_push 68 = .ok (.putfield 83, 3) := by decide +kernel
theorem dX4_push_71 : decode cX4_push 71 = .ok (.aload_n 0, 1) := by decide +kernel
theorem dX4_push_72 : decode cX4_push 72 = .ok (.invokevirtual 99, 3) := by decide +kernel
theorem dX4_push_75 : decode cX4_push 75 = .ok (.ireturn, 1) := by decide +kernel
theorem dX4_pop_0 : decode cX4_pop 0 = .ok (.aload_n 0, 1) := by decide +kernel
theorem dX4_pop_1 : decode cX4_pop 1 = .ok (.iconst 0, 1) := by decide +kernel
theorem dX4_pop_2 : decode cX4_pop 2 = .ok (.putfield 50, 3) := by decide +kernel
theorem dX4_pop_5 : decode cX4_pop 5 = .ok (.aload_n 0, 1) := by decide +kernel
theorem dX4_pop_6 : decode cX4_pop 6 = .ok (.invokevirtual 99, 3) := by decide +kernel
theorem dX4_pop_9 : decode cX4_pop 9 = .ok (.ifCond .ne 5, 3) := by decide +kernel
theorem dX4_pop_12 : decode cX4_pop 12 = .ok (.iconst (-1), 1) := by decide +kernel
theorem dX4_pop_13 : decode cX4_pop 13 = .ok (.ireturn, 1) := by decide +kernel
theorem dX4_pop_14 : decode cX4_pop 14 = .ok (.aload_n 0, 1) := by decide +kernel
theorem dX4_pop_15 : decode cX4_pop 15 = .ok (.dup, 1) := by decide +kernel
theorem dX4_pop_16 : decode cX4_pop 16 = .ok (.getfield 83, 3) := by decide +kernel
theorem dX4_pop_19 : decode cX4_pop 19 = .ok (.iconst 1, 1) := by decide +kernel
theorem dX4_pop_20 : decode cX4_pop 20 = .ok (.isub, 1) := by decide +kernel
theorem dX4_pop_21 : decode cX4_pop 21 = .ok (.putfield 83, 3) := by decide +kernel
theorem dX4_pop_24 : decode cX4_pop 24 = .ok (.iconst 0, 1) := by decide +kernel
theorem dX4_pop_25 : decode cX4_pop 25 = .ok (.istore_n 1, 1) := by decide +kernel
theorem dX4_pop_26 : decode cX4_pop 26 = .ok (.iload_n 1, 1) := by decide +kernel
theorem dX4_pop_27 : decode cX4_pop 27 = .ok (.bipush 8, 2) := by decide +kernel
theorem dX4_pop_29 : decode cX4_pop 29 = .ok (.if_icmp .ge 29, 3) := by decide +kernel
theorem dX4_pop_32 : decode cX4_pop 32 = .ok (.aload_n 0, 1) := by decide +kernel
theorem dX4_pop_33 : decode cX4_pop 33 = .ok (.getfield 23, 3) := by decide +kernel
theorem dX4_pop_36 : decode cX4_pop 36 = .ok (.iload_n 1, 1) := by decide +kernel
theorem dX4_pop_37 : decode cX4_pop 37 = .ok (.aload_n 0, 1) := by decide +kernel
theorem dX4_pop_38 : decode cX4_pop 38 = .ok (.getfield 47, 3) := by decide +kernel
theorem dX4_pop_41 : decode cX4_pop 41 = .ok (.bipush 8, 2) := by decide +kernel
theorem dX4_pop_43 : decode cX4_pop 43 = .ok (.aload_n 0, 1) := by decide +kernel
theorem dX4_pop_44 : decode cX4_pop 44 = .ok (.getfield 83, 3) := by decide +kernel
theorem dX4_pop_47 : decode cX4_pop 47 = .ok (.imul, 1) := by decide +kernel
theorem dX4_pop_48 : decode cX4_pop 48 = .ok (.iload_n 1, 1) := by decide +kernel
theorem dX4_pop_49 : decode cX4_pop 49 = .ok (.iadd, 1) := by decide +kernel
theorem dX4_pop_50 : decode cX4_pop 50 = .ok (.iaload, 1) := by decide +kernel
theorem dX4_pop_51 : decode cX4_pop 51 = .ok (.iastore, 1) := by decide +kernel
theorem dX4_pop_52 : decode cX4_pop 52 = .ok (.iinc 1 1, 3) := by decide +kernel
theorem dX4_pop_55 : decode cX4_pop 55 = .ok (.goto (-29), 3) := by decide +kernel
theorem dX4_pop_58 : decode cX4_pop 58 = .ok (.aload_n 0, 1) := by decide +kernel
theorem dX4_pop_59 : decode cX4_pop 59 = .ok (.invokevirtual 99, 3) := by decide +kernel
theorem dX4_pop_62 : decode cX4_pop 62 = .ok (.ireturn, 1) := by decide +kernel
theorem dX4_bytes_0 : decode cX4_bytes 0 = .ok (.aload_n 0, 1) := by decide +kernel
theorem dX4_bytes_1 : decode cX4_bytes 1 = .ok (.aload_n 0, 1) := by decide +kernel
theorem dX4_bytes_2 : decode cX4_bytes 2 = .ok (.iload_n 1, 1) := by decide +kernel
theorem dX4_bytes_3 : decode cX4_bytes 3 = .ok (.invokevirtual 57, 3) := by decide +kernel
theorem dX4_bytes_6 : decode cX4_bytes 6 = .ok (.ifCond .ne 7, 3) := by decide +kernel
theorem dX4_bytes_9 : decode cX4_bytes 9 = .ok (.iconst 1, 1) := by decide +kernel
theorem dX4_bytes_10 : decode cX4_bytes 10 = .ok (.goto 27, 3) := by decide +kernel
theorem dX4_bytes_13 : decode cX4_bytes 13 = .ok (.iload_n 2, 1) := by decide +kernel
theorem dX4_bytes_14 : decode cX4_bytes 14 = .ok (.invokestatic 73, 3) := by decide +kernel
theorem dX4_bytes_17 : decode cX4_bytes 17 = .ok (.ifCond .eq 15, 3) := by decide +kernel
theorem dX4_bytes_20 : decode cX4_bytes 20 = .ok (.iload_n 3, 1) := by decide +kernel
theorem dX4_bytes_21 : decode cX4_bytes 21 = .ok (.iconst (-1), 1) := by decide +kernel
theorem dX4_bytes_22 : decode cX4_bytes 22 = .ok (.if_icmp .lt 10, 3) := by decide +kernel
theorem dX4_bytes_25 : decode cX4_bytes 25 = .ok (.iload_n 3, 1) := by decide +kernel
theorem dX4_bytes_26 : decode cX4_bytes 26 = .ok (.sipush 255, 3) := by decide +kernel
theorem dX4_bytes_29 : decode cX4_bytes 29 = .ok (.if_icmp .le 7, 3) := by decide +kernel
theorem dX4_bytes_32 : decode cX4_bytes 32 = .ok (.iconst 2, 1) := by decide +kernel
theorem dX4_bytes_33 : decode cX4_bytes 33 = .ok (.goto 4, 3) := by decide +kernel
theorem dX4_bytes_36 : decode cX4_bytes 36 = .ok (.iconst 0, 1) := by decide +kernel
theorem dX4_bytes_37 : decode cX4_bytes 37 = .ok (.putfield 50, 3) := by decide +kernel
theorem dX4_bytes_40 : decode cX4_bytes 40 = .ok (.aload_n 0, 1) := by decide +kernel
theorem dX4_bytes_41 : decode cX4_bytes 41 = .ok (.getfield 50, 3) := by decide +kernel
theorem dX4_bytes_44 : decode cX4_bytes 44 = .ok (.ifCond .le 5, 3) := by decide +kernel
theorem dX4_bytes_47 : decode cX4_bytes 47 = .ok (.iconst 0, 1) := by decide +kernel
theorem dX4_bytes_48 : decode cX4_bytes 48 = .ok (.ireturn, 1) := by decide +kernel
theorem dX4_bytes_49 : decode cX4_bytes 49 = .ok (.bipush 8, 2) := by decide +kernel
theorem dX4_bytes_51 : decode cX4_bytes 51 = .ok (.iload_n 1, 1) := by decide +kernel
theorem dX4_bytes_52 : decode cX4_bytes 52 = .ok (.imul, 1) := by decide +kernel
theorem dX4_bytes_53 : decode cX4_bytes 53 = .ok (.iload_n 2, 1) := by decide +kernel
theorem dX4_bytes_54 : decode cX4_bytes 54 = .ok (.iadd, 1) := by decide +kernel
theorem dX4_bytes_55 : decode cX4_bytes 55 = .ok (.istore 4, 2) := by decide +kernel
theorem dX4_bytes_57 : decode cX4_bytes 57 = .ok (.aload_n 0, 1) := by decide +kernel
theorem dX4_bytes_58 : decode cX4_bytes 58 = .ok (.getfield 20, 3) := by decide +kernel
theorem dX4_bytes_61 : decode cX4_bytes 61 = .ok (.iload 4, 2) := by decide +kernel
theorem dX4_bytes_63 : decode cX4_bytes 63 = .ok (.iaload, 1) := by decide +kernel
theorem dX4_bytes_64 : decode cX4_bytes 64 = .ok (.istore 5, 2) := by decide +kernel
theorem dX4_bytes_66 : decode cX4_bytes 66 = .ok (.aload_n 0, 1) := by decide +kernel
theorem dX4_bytes_67 : decode cX4_bytes 67 = .ok (.getfield 20, 3) := by decide +kernel
theorem dX4_bytes_70 : decode cX4_bytes 70 = .ok (.iload 4, 2) := by decide +kernel
theorem dX4_bytes_72 : decode cX4_bytes 72 = .ok (.iload_n 3, 1) := by decide +kernel
theorem dX4_bytes_73 : decode cX4_bytes 73 = .ok (.ifCond .lt 7, 3) := by decide +kernel
theorem dX4_bytes_76 : decode cX4_bytes 76 = .ok (.iload_n 3, 1) := by decide +kernel
theorem dX4_bytes_77 : decode cX4_bytes 77 = .ok (.goto 5, 3) := by decide +kernel
theorem dX4_bytes_80 : decode cX4_bytes 80 = .ok (.iload 5, 2) := by decide +kernel
theorem dX4_bytes_82 : decode cX4_bytes 82 = .ok (.iastore, 1) := by decide +kernel
theorem dX4_bytes_83 : decode cX4_bytes 83 = .ok (.iload 5, 2) := by decide +kernel
theorem dX4_bytes_85 : decode cX4_bytes 85 = .ok (.ireturn, 1) := by decide +kernel
theorem dX4_used_0 : decode cX4_used 0 = .ok (.aload_n 0, 1) := by decide +kernel
theorem dX4_used_1 : decode cX4_used 1 = .ok (.iconst 0, 1) := by decide +kernel
theorem dX4_used_2 : decode cX4_used 2 = .ok (.putfield 50, 3) := by decide +kernel
theorem dX4_used_5 : decode cX4_used 5 = .ok (.bipush 12, 2) := by decide +kernel
theorem dX4_used_7 : decode cX4_used 7 = .ok (.aload_n 0, 1) := by decide +kernel
theorem dX4_used_8 : decode cX4_used 8 = .ok (.getfield 61, 3) := by decide +kernel
theorem dX4_used_11 : decode cX4_used 11 = .ok (.imul, 1) := by decide +kernel
theorem dX4_used_12 : decode cX4_used 12 = .ok (.iconst 3, 1) := by decide +kernel
theorem dX4_used_13 : decode cX4_used 13 = .ok (.aload_n 0, 1) := by decide +kernel
theorem dX4_used_14 : decode cX4_used 14 = .ok (.getfield 67, 3) := by decide +kernel
theorem dX4_used_17 : decode cX4_used 17 = .ok (.imul, 1) := by decide +kernel
theorem dX4_used_18 : decode cX4_used 18 = .ok (.iadd, 1) := by decide +kernel
theorem dX4_used_19 : decode cX4_used 19 = .ok (.bipush 6, 2) := by decide +kernel
theorem dX4_used_21 : decode cX4_used 21 = .ok (.aload_n 0, 1) := by decide +kernel
theorem dX4_used_22 : decode cX4_used 22 = .ok (.getfield 64, 3) := by decide +kernel
theorem dX4_used_25 : decode cX4_used 25 = .ok (.imul, 1) := by decide +kernel
theorem dX4_used_26 : decode cX4_used 26 = .ok (.iadd, 1) := by decide +kernel
theorem dX4_used_27 : decode cX4_used 27 = .ok (.bipush 10, 2) := by decide +kernel
theorem dX4_used_29 : decode cX4_used 29 = .ok (.aload_n 0, 1) := by decide +kernel
theorem dX4_used_30 : decode cX4_used 30 = .ok (.getfield 83, 3) := by decide +kernel
theorem dX4_used_33 : decode cX4_used 33 = .ok (.imul, 1) := by decide +kernel
theorem dX4_used_34 : decode cX4_used 34 = .ok (.iadd, 1) := by decide +kernel
theorem dX4_used_35 : decode cX4_used 35 = .ok (.ireturn, 1) := by decide +kernel
theorem dX4_old_0 : decode cX4_old 0 = .ok (.aload_n 0, 1) := by decide +kernel
theorem dX4_old_1 : decode cX4_old 1 = .ok (.aload_n 0, 1) := by decide +kernel
theorem dX4_old_2 : decode cX4_old 2 = .ok (.iload_n 1, 1) := by decide +kernel
theorem dX4_old_3 : decode cX4_old 3 = .ok (.invokevirtual 57, 3) := by decide +kernel
theorem dX4_old_6 : decode cX4_old 6 = .ok (.ifCond .eq 7, 3) := by decide +kernel
theorem dX4_old_9 : decode cX4_old 9 = .ok (.iconst 0, 1) := by decide +kernel
theorem dX4_old_10 : decode cX4_old 10 = .ok (.goto 4, 3) := by decide +kernel
theorem dX4_old_13 : decode cX4_old 13 = .ok (.iconst 1, 1) := by decide +kernel
theorem dX4_old_14 : decode cX4_old 14 = .ok (.putfield 50, 3) := by decide +kernel
theorem dX4_old_17 : decode cX4_old 17 = .ok (.iconst 0, 1) := by decide +kernel
theorem dX4_old_18 : decode cX4_old 18 = .ok (.istore_n 2, 1) := by decide +kernel
theorem dX4_old_19 : decode cX4_old 19 = .ok (.iconst 0, 1) := by decide +kernel
theorem dX4_old_20 : decode cX4_old 20 = .ok (.istore_n 3, 1) := by decide +kernel
theorem dX4_old_21 : decode cX4_old 21 = .ok (.iload_n 3, 1) := by decide +kernel
theorem dX4_old_22 : decode cX4_old 22 = .ok (.aload_n 0, 1) := by decide +kernel
theorem dX4_old_23 : decode cX4_old 23 = .ok (.getfield 64, 3) := by decide +kernel
theorem dX4_old_26 : decode cX4_old 26 = .ok (.if_icmp .ge 34, 3) := by decide +kernel
theorem dX4_old_29 : decode cX4_old 29 = .ok (.aload_n 0, 1) := by decide +kernel
theorem dX4_old_30 : decode cX4_old 30 = .ok (.getfield 50, 3) := by decide +kernel
theorem dX4_old_33 : decode cX4_old 33 = .ok (.ifCond .ne 27, 3) := by decide +kernel
theorem dX4_old_36 : decode cX4_old 36 = .ok (.iload_n 1, 1) := by decide +kernel
theorem dX4_old_37 : decode cX4_old 37 = .ok (.aload_n 0, 1) := by decide +kernel
theorem dX4_old_38 : decode cX4_old 38 = .ok (.getfield 29, 3) := by decide +kernel
theorem dX4_old_41 : decode cX4_old 41 = .ok (.iload_n 3, 1) := by decide +kernel
theorem dX4_old_42 : decode cX4_old 42 = .ok (.iaload, 1) := by decide +kernel
theorem dX4_old_43 : decode cX4_old 43 = .ok (.if_icmp .lt 9, 3) := by decide +kernel
theorem dX4_old_46 : decode cX4_old 46 = .ok (.iload_n 2, 1) := by decide +kernel
theorem dX4_old_47 : decode cX4_old 47 = .ok (.iconst 1, 1) := by decide +kernel
theorem dX4_old_48 : decode cX4_old 48 = .ok (.iadd, 1) := by decide +kernel
theorem dX4_old_49 : decode cX4_old 49 = .ok (.goto 4, 3) := by decide +kernel
theorem dX4_old_52 : decode cX4_old 52 = .ok (.iload_n 2, 1) := by decide +kernel
theorem dX4_old_53 : decode cX4_old 53 = .ok (.istore_n 2, 1) := by decide +kernel
theorem dX4_old_54 : decode cX4_old 54 = .ok (.iinc 3 1, 3) := by decide +kernel
theorem dX4_old_57 : decode cX4_old 57 = .ok (.goto (-36), 3) := by decide +kernel
theorem dX4_old_60 : decode cX4_old 60 = .ok (.iload_n 2, 1) := by decide +kernel
theorem dX4_old_61 : decode cX4_old 61 = .ok (.ireturn, 1) := by decide +kernel
theorem dX4_deepest_0 : decode cX4_deepest 0 = .ok (.aload_n 0, 1) := by decide +kernel
theorem dX4_deepest_1 : decode cX4_deepest 1 = .ok (.iconst 0, 1) := by decide +kernel
theorem dX4_deepest_2 : decode cX4_deepest 2 = .ok (.putfield 50, 3) := by decide +kernel
theorem dX4_deepest_5 : decode cX4_deepest 5 = .ok (.aload_n 0, 1) := by decide +kernel
theorem dX4_deepest_6 : decode cX4_deepest 6 = .ok (.getfield 86, 3) := by decide +kernel
theorem dX4_deepest_9 : decode cX4_deepest 9 = .ok (.ireturn, 1) := by decide +kernel
theorem dL_object_0 : decode cL_object 0 = .ok (.aload_n 2, 1) := by decide +kernel
theorem dL_object_1 : decode cL_object 1 = .ok (.iconst 0, 1) := by decide +kernel
theorem dL_object_2 : decode cL_object 2 = .ok (.aload_n 0, 1) := by decide +kernel
theorem dL_object_3 : decode cL_object 3 = .ok (.iload_n 1, 1) := by decide +kernel
theorem dL_object_4 : decode cL_object 4 = .ok (.invokevirtual 7, 3) := by decide +kernel
theorem dL_object_7 : decode cL_object 7 = .ok (.i2l, 1) := by decide +kernel
theorem dL_object_8 : decode cL_object 8 = .ok (.lastore, 1) := by decide +kernel
theorem dL_object_9 : decode cL_object 9 = .ok (.goto 6, 3) := by decide +kernel
theorem dL_object_12 : decode cL_object 12 = .ok (.astore_n 3, 1) := by decide +kernel
theorem dL_object_13 : decode cL_object 13 = .ok (.iconst 1, 1) := by decide +kernel
theorem dL_object_14 : decode cL_object 14 = .ok (.ireturn, 1) := by decide +kernel
theorem dL_object_15 : decode cL_object 15 = .ok (.iconst 0, 1) := by decide +kernel
theorem dL_object_16 : decode cL_object 16 = .ok (.ireturn, 1) := by decide +kernel
theorem dL_put_0 : decode cL_put 0 = .ok (.aload 4, 2) := by decide +kernel
theorem dL_put_2 : decode cL_put 2 = .ok (.iconst 0, 1) := by decide +kernel
theorem dL_put_3 : decode cL_put 3 = .ok (.aload_n 0, 1) := by decide +kernel
theorem dL_put_4 : decode cL_put 4 = .ok (.iload_n 1, 1) := by decide +kernel
theorem dL_put_5 : decode cL_put 5 = .ok (.iload_n 2, 1) := by decide +kernel
theorem dL_put_6 : decode cL_put 6 = .ok (.iload_n 3, 1) := by decide +kernel
theorem dL_put_7 : decode cL_put 7 = .ok (.invokevirtual 15, 3) := by decide +kernel
theorem dL_put_10 : decode cL_put 10 = .ok (.i2l, 1) := by decide +kernel
theorem dL_put_11 : decode cL_put 11 = .ok (.lastore, 1) := by decide +kernel
theorem dL_put_12 : decode cL_put 12 = .ok (.goto 15, 3) := by decide +kernel
theorem dL_put_15 : decode cL_put 15 = .ok (.astore 5, 2) := by decide +kernel
theorem dL_put_17 : decode cL_put 17 = .ok (.iconst 1, 1) := by decide +kernel
theorem dL_put_18 : decode cL_put 18 = .ok (.ireturn, 1) := by decide +kernel
theorem dL_put_19 : decode cL_put 19 = .ok (.astore 5, 2) := by decide +kernel
theorem dL_put_21 : decode cL_put 21 = .ok (.iconst 2, 1) := by decide +kernel
theorem dL_put_22 : decode cL_put 22 = .ok (.ireturn, 1) := by decide +kernel
theorem dL_put_23 : decode cL_put 23 = .ok (.astore 5, 2) := by decide +kernel
theorem dL_put_25 : decode cL_put 25 = .ok (.iconst 3, 1) := by decide +kernel
theorem dL_put_26 : decode cL_put 26 = .ok (.ireturn, 1) := by decide +kernel
theorem dL_put_27 : decode cL_put 27 = .ok (.iconst 0, 1) := by decide +kernel
theorem dL_put_28 : decode cL_put 28 = .ok (.ireturn, 1) := by decide +kernel
theorem dL_get_0 : decode cL_get 0 = .ok (.aload_n 3, 1) := by decide +kernel
theorem dL_get_1 : decode cL_get 1 = .ok (.iconst 0, 1) := by decide +kernel
theorem dL_get_2 : decode cL_get 2 = .ok (.aload_n 0, 1) := by decide +kernel
theorem dL_get_3 : decode cL_get 3 = .ok (.iload_n 1, 1) := by decide +kernel
theorem dL_get_4 : decode cL_get 4 = .ok (.iload_n 2, 1) := by decide +kernel
theorem dL_get_5 : decode cL_get 5 = .ok (.invokevirtual 25, 3) := by decide +kernel
theorem dL_get_8 : decode cL_get 8 = .ok (.i2l, 1) := by decide +kernel
theorem dL_get_9 : decode cL_get 9 = .ok (.lastore, 1) := by decide +kernel
theorem dL_get_10 : decode cL_get 10 = .ok (.goto 11, 3) := by decide +kernel
theorem dL_get_13 : decode cL_get 13 = .ok (.astore 4, 2) := by decide +kernel
theorem dL_get_15 : decode cL_get 15 = .ok (.iconst 1, 1) := by decide +kernel
theorem dL_get_16 : decode cL_get 16 = .ok (.ireturn, 1) := by decide +kernel
theorem dL_get_17 : decode cL_get 17 = .ok (.astore 4, 2) := by decide +kernel
theorem dL_get_19 : decode cL_get 19 = .ok (.iconst 2, 1) := by decide +kernel
theorem dL_get_20 : decode cL_get 20 = .ok (.ireturn, 1) := by decide +kernel
theorem dL_get_21 : decode cL_get 21 = .ok (.iconst 0, 1) := by decide +kernel
theorem dL_get_22 : decode cL_get 22 = .ok (.ireturn, 1) := by decide +kernel
theorem dL_save_0 : decode cL_save 0 = .ok (.aload_n 1, 1) := by decide +kernel
theorem dL_save_1 : decode cL_save 1 = .ok (.iconst 0, 1) := by decide +kernel
theorem dL_save_2 : decode cL_save 2 = .ok (.aload_n 0, 1) := by decide +kernel
theorem dL_save_3 : decode cL_save 3 = .ok (.invokevirtual 29, 3) := by decide +kernel
theorem dL_save_6 : decode cL_save 6 = .ok (.i2l, 1) := by decide +kernel
theorem dL_save_7 : decode cL_save 7 = .ok (.lastore, 1) := by decide +kernel
theorem dL_save_8 : decode cL_save 8 = .ok (.goto 6, 3) := by decide +kernel
theorem dL_save_11 : decode cL_save 11 = .ok (.astore_n 2, 1) := by decide +kernel
theorem dL_save_12 : decode cL_save 12 = .ok (.iconst 1, 1) := by decide +kernel
theorem dL_save_13 : decode cL_save 13 = .ok (.ireturn, 1) := by decide +kernel
theorem dL_save_14 : decode cL_save 14 = .ok (.iconst 0, 1) := by decide +kernel
theorem dL_save_15 : decode cL_save 15 = .ok (.ireturn, 1) := by decide +kernel
theorem dL_state_0 : decode cL_state 0 = .ok (.aload_n 3, 1) := by decide +kernel
theorem dL_state_1 : decode cL_state 1 = .ok (.iconst 0, 1) := by decide +kernel
theorem dL_state_2 : decode cL_state 2 = .ok (.aload_n 0, 1) := by decide +kernel
theorem dL_state_3 : decode cL_state 3 = .ok (.iload_n 1, 1) := by decide +kernel
theorem dL_state_4 : decode cL_state 4 = .ok (.iload_n 2, 1) := by decide +kernel
theorem dL_state_5 : decode cL_state 5 = .ok (.invokevirtual 33, 3) := by decide +kernel
theorem dL_state_8 : decode cL_state 8 = .ok (.i2l, 1) := by decide +kernel
theorem dL_state_9 : decode cL_state 9 = .ok (.lastore, 1) := by decide +kernel
theorem dL_state_10 : decode cL_state 10 = .ok (.goto 11, 3) := by decide +kernel
theorem dL_state_13 : decode cL_state 13 = .ok (.astore 4, 2) := by decide +kernel
theorem dL_state_15 : decode cL_state 15 = .ok (.iconst 1, 1) := by decide +kernel
theorem dL_state_16 : decode cL_state 16 = .ok (.ireturn, 1) := by decide +kernel
theorem dL_state_17 : decode cL_state 17 = .ok (.astore 4, 2) := by decide +kernel
theorem dL_state_19 : decode cL_state 19 = .ok (.iconst 2, 1) := by decide +kernel
theorem dL_state_20 : decode cL_state 20 = .ok (.ireturn, 1) := by decide +kernel
theorem dL_state_21 : decode cL_state 21 = .ok (.iconst 0, 1) := by decide +kernel
theorem dL_state_22 : decode cL_state 22 = .ok (.ireturn, 1) := by decide +kernel
theorem dL_stateOf_0 : decode cL_stateOf 0 = .ok (.aload_n 2, 1) := by decide +kernel
theorem dL_stateOf_1 : decode cL_stateOf 1 = .ok (.iconst 0, 1) := by decide +kernel
theorem dL_stateOf_2 : decode cL_stateOf 2 = .ok (.aload_n 0, 1) := by decide +kernel
theorem dL_stateOf_3 : decode cL_stateOf 3 = .ok (.iload_n 1, 1) := by decide +kernel
theorem dL_stateOf_4 : decode cL_stateOf 4 = .ok (.invokevirtual 36, 3) := by decide +kernel
theorem dL_stateOf_7 : decode cL_stateOf 7 = .ok (.i2l, 1) := by decide +kernel
theorem dL_stateOf_8 : decode cL_stateOf 8 = .ok (.lastore, 1) := by decide +kernel
theorem dL_stateOf_9 : decode cL_stateOf 9 = .ok (.goto 6, 3) := by decide +kernel
theorem dL_stateOf_12 : decode cL_stateOf 12 = .ok (.astore_n 3, 1) := by decide +kernel
theorem dL_stateOf_13 : decode cL_stateOf 13 = .ok (.iconst 1, 1) := by decide +kernel
theorem dL_stateOf_14 : decode cL_stateOf 14 = .ok (.ireturn, 1) := by decide +kernel
theorem dL_stateOf_15 : decode cL_stateOf 15 = .ok (.iconst 0, 1) := by decide +kernel
theorem dL_stateOf_16 : decode cL_stateOf 16 = .ok (.ireturn, 1) := by decide +kernel
theorem dL_push_0 : decode cL_push 0 = .ok (.aload_n 1, 1) := by decide +kernel
theorem dL_push_1 : decode cL_push 1 = .ok (.iconst 0, 1) := by decide +kernel
theorem dL_push_2 : decode cL_push 2 = .ok (.aload_n 0, 1) := by decide +kernel
theorem dL_push_3 : decode cL_push 3 = .ok (.invokevirtual 40, 3) := by decide +kernel
theorem dL_push_6 : decode cL_push 6 = .ok (.i2l, 1) := by decide +kernel
theorem dL_push_7 : decode cL_push 7 = .ok (.lastore, 1) := by decide +kernel
theorem dL_push_8 : decode cL_push 8 = .ok (.goto 6, 3) := by decide +kernel
theorem dL_push_11 : decode cL_push 11 = .ok (.astore_n 2, 1) := by decide +kernel
theorem dL_push_12 : decode cL_push 12 = .ok (.iconst 1, 1) := by decide +kernel
theorem dL_push_13 : decode cL_push 13 = .ok (.ireturn, 1) := by decide +kernel
theorem dL_push_14 : decode cL_push 14 = .ok (.iconst 0, 1) := by decide +kernel
theorem dL_push_15 : decode cL_push 15 = .ok (.ireturn, 1) := by decide +kernel
theorem dL_bytes_0 : decode cL_bytes 0 = .ok (.aload 4, 2) := by decide +kernel
theorem dL_bytes_2 : decode cL_bytes 2 = .ok (.iconst 0, 1) := by decide +kernel
theorem dL_bytes_3 : decode cL_bytes 3 = .ok (.aload_n 0, 1) := by decide +kernel
theorem dL_bytes_4 : decode cL_bytes 4 = .ok (.iload_n 1, 1) := by decide +kernel
theorem dL_bytes_5 : decode cL_bytes 5 = .ok (.iload_n 2, 1) := by decide +kernel
theorem dL_bytes_6 : decode cL_bytes 6 = .ok (.iload_n 3, 1) := by decide +kernel
theorem dL_bytes_7 : decode cL_bytes 7 = .ok (.invokevirtual 43, 3) := by decide +kernel
theorem dL_bytes_10 : decode cL_bytes 10 = .ok (.i2l, 1) := by decide +kernel
theorem dL_bytes_11 : decode cL_bytes 11 = .ok (.lastore, 1) := by decide +kernel
theorem dL_bytes_12 : decode cL_bytes 12 = .ok (.goto 11, 3) := by decide +kernel
theorem dL_bytes_15 : decode cL_bytes 15 = .ok (.astore 5, 2) := by decide +kernel
theorem dL_bytes_17 : decode cL_bytes 17 = .ok (.iconst 1, 1) := by decide +kernel
theorem dL_bytes_18 : decode cL_bytes 18 = .ok (.ireturn, 1) := by decide +kernel
theorem dL_bytes_19 : decode cL_bytes 19 = .ok (.astore 5, 2) := by decide +kernel
theorem dL_bytes_21 : decode cL_bytes 21 = .ok (.iconst 2, 1) := by decide +kernel
theorem dL_bytes_22 : decode cL_bytes 22 = .ok (.ireturn, 1) := by decide +kernel
theorem dL_bytes_23 : decode cL_bytes 23 = .ok (.iconst 0, 1) := by decide +kernel
theorem dL_bytes_24 : decode cL_bytes 24 = .ok (.ireturn, 1) := by decide +kernel
theorem dL_old_0 : decode cL_old 0 = .ok (.aload_n 2, 1) := by decide +kernel
theorem dL_old_1 : decode cL_old 1 = .ok (.iconst 0, 1) := by decide +kernel
theorem dL_old_2 : decode cL_old 2 = .ok (.aload_n 0, 1) := by decide +kernel
theorem dL_old_3 : decode cL_old 3 = .ok (.iload_n 1, 1) := by decide +kernel
theorem dL_old_4 : decode cL_old 4 = .ok (.invokevirtual 46, 3) := by decide +kernel
theorem dL_old_7 : decode cL_old 7 = .ok (.i2l, 1) := by decide +kernel
theorem dL_old_8 : decode cL_old 8 = .ok (.lastore, 1) := by decide +kernel
theorem dL_old_9 : decode cL_old 9 = .ok (.goto 6, 3) := by decide +kernel
theorem dL_old_12 : decode cL_old 12 = .ok (.astore_n 3, 1) := by decide +kernel
theorem dL_old_13 : decode cL_old 13 = .ok (.iconst 1, 1) := by decide +kernel
theorem dL_old_14 : decode cL_old 14 = .ok (.ireturn, 1) := by decide +kernel
theorem dL_old_15 : decode cL_old 15 = .ok (.iconst 0, 1) := by decide +kernel
theorem dL_old_16 : decode cL_old 16 = .ok (.ireturn, 1) := by decide +kernel
theorem dL_law_0 : decode cL_law 0 = .ok (.new 8, 3) := by decide +kernel
theorem dL_law_3 : decode cL_law 3 = .ok (.dup, 1) := by decide +kernel
theorem dL_law_4 : decode cL_law 4 = .ok (.invokespecial 49, 3) := by decide +kernel
theorem dL_law_7 : decode cL_law 7 = .ok (.astore_n 1, 1) := by decide +kernel
theorem dL_law_8 : decode cL_law 8 = .ok (.new 50, 3) := by decide +kernel
theorem dL_law_11 : decode cL_law 11 = .ok (.dup, 1) := by decide +kernel
theorem dL_law_12 : decode cL_law 12 = .ok (.invokespecial 52, 3) := by decide +kernel
theorem dL_law_15 : decode cL_law 15 = .ok (.astore_n 2, 1) := by decide +kernel
theorem dL_law_16 : decode cL_law 16 = .ok (.iconst 1, 1) := by decide +kernel
theorem dL_law_17 : decode cL_law 17 = .ok (.newarray .long, 2) := by decide +kernel
theorem dL_law_19 : decode cL_law 19 = .ok (.astore_n 3, 1) := by decide +kernel
theorem dL_law_20 : decode cL_law 20 = .ok (.iconst 0, 1) := by decide +kernel
theorem dL_law_21 : decode cL_law 21 = .ok (.istore 4, 2) := by decide +kernel
theorem dL_law_23 : decode cL_law 23 = .ok (.iload 4, 2) := by decide +kernel
theorem dL_law_25 : decode cL_law 25 = .ok (.aload_n 0, 1) := by decide +kernel
theorem dL_law_26 : decode cL_law 26 = .ok (.arraylength, 1) := by decide +kernel
theorem dL_law_27 : decode cL_law 27 = .ok (.iconst 4, 1) := by decide +kernel
theorem dL_law_28 : decode cL_law 28 = .ok (.isub, 1) := by decide +kernel
theorem dL_law_29 : decode cL_law 29 = .ok (.if_icmp .gt 713, 3) := by decide +kernel
theorem dL_law_32 : decode cL_law 32 = .ok (.aload_n 0, 1) := by decide +kernel
theorem dL_law_33 : decode cL_law 33 = .ok (.iload 4, 2) := by decide +kernel
theorem dL_law_35 : decode cL_law 35 = .ok (.iaload, 1) := by decide +kernel
theorem dL_law_36 : decode cL_law 36 = .ok (.bipush 15, 2) := by decide +kernel
theorem dL_law_38 : decode cL_law 38 = .ok (.iand, 1) := by decide +kernel
theorem dL_law_39 : decode cL_law 39 = .ok (.tableswitch 697 0 12 #[65, 137, 217, 285, 329, 354, 422, 478, 522, 535, 615, 628, 684], 65) := by decide +kernel
theorem dL_law_104 : decode cL_law 104 = .ok (.aload_n 1, 1) := by decide +kernel
theorem dL_law_105 : decode cL_law 105 = .ok (.aload_n 0, 1) := by decide +kernel
theorem dL_law_106 : decode cL_law 106 = .ok (.iload 4, 2) := by decide +kernel
theorem dL_law_108 : decode cL_law 108 = .ok (.iconst 1, 1) := by decide +kernel
theorem dL_law_109 : decode cL_law 109 = .ok (.iadd, 1) := by decide +kernel
theorem dL_law_110 : decode cL_law 110 = .ok (.iaload, 1) := by decide +kernel
theorem dL_law_111 : decode cL_law 111 = .ok (.ifCond .eq 7, 3) := by decide +kernel
theorem dL_law_114 : decode cL_law 114 = .ok (.iconst 1, 1) := by decide +kernel
theorem dL_law_115 : decode cL_law 115 = .ok (.goto 4, 3) := by decide +kernel
theorem dL_law_118 : decode cL_law 118 = .ok (.iconst 0, 1) := by decide +kernel
theorem dL_law_119 : decode cL_law 119 = .ok (.aload_n 3, 1) := by decide +kernel
theorem dL_law_120 : decode cL_law 120 = .ok (.invokestatic 53, 3) := by decide +kernel
theorem dL_law_123 : decode cL_law 123 = .ok (.istore 5, 2) := by decide +kernel
theorem dL_law_125 : decode cL_law 125 = .ok (.aload_n 2, 1) := by decide +kernel
theorem dL_law_126 : decode cL_law 126 = .ok (.aload_n 0, 1) := by decide +kernel
theorem dL_law_127 : decode cL_law 127 = .ok (.iload 4, 2) := by decide +kernel
theorem dL_law_129 : decode cL_law 129 = .ok (.iconst 1, 1) := by decide +kernel
theorem dL_law_130 : decode cL_law 130 = .ok (.iadd, 1) := by decide +kernel
theorem dL_law_131 : decode cL_law 131 = .ok (.iaload, 1) := by decide +kernel
theorem dL_law_132 : decode cL_law 132 = .ok (.ifCond .eq 7, 3) := by decide +kernel
theorem dL_law_135 : decode cL_law 135 = .ok (.iconst 1, 1) := by decide +kernel
theorem dL_law_136 : decode cL_law 136 = .ok (.goto 4, 3) := by decide +kernel
theorem dL_law_139 : decode cL_law 139 = .ok (.iconst 0, 1) := by decide +kernel
theorem dL_law_140 : decode cL_law 140 = .ok (.invokevirtual 58, 3) := by decide +kernel
theorem dL_law_143 : decode cL_law 143 = .ok (.istore 6, 2) := by decide +kernel
theorem dL_law_145 : decode cL_law 145 = .ok (.aload_n 2, 1) := by decide +kernel
theorem dL_law_146 : decode cL_law 146 = .ok (.invokevirtual 59, 3) := by decide +kernel
theorem dL_law_149 : decode cL_law 149 = .ok (.iload 5, 2) := by decide +kernel
theorem dL_law_151 : decode cL_law 151 = .ok (.if_icmp .eq 5, 3) := by decide +kernel
theorem dL_law_154 : decode cL_law 154 = .ok (.iconst 0, 1) := by decide +kernel
theorem dL_law_155 : decode cL_law 155 = .ok (.ireturn, 1) := by decide +kernel
theorem dL_law_156 : decode cL_law 156 = .ok (.iload 5, 2) := by decide +kernel
theorem dL_law_158 : decode cL_law 158 = .ok (.ifCond .ne 15, 3) := by decide +kernel
theorem dL_law_161 : decode cL_law 161 = .ok (.aload_n 3, 1) := by decide +kernel
theorem dL_law_162 : decode cL_law 162 = .ok (.iconst 0, 1) := by decide +kernel
theorem dL_law_163 : decode cL_law 163 = .ok (.laload, 1) := by decide +kernel
theorem dL_law_164 : decode cL_law 164 = .ok (.iload 6, 2) := by decide +kernel
theorem dL_law_166 : decode cL_law 166 = .ok (.i2l, 1) := by decide +kernel
theorem dL_law_167 : decode cL_law 167 = .ok (.lcmp, 1) := by decide +kernel
theorem dL_law_168 : decode cL_law 168 = .ok (.ifCond .eq 5, 3) := by decide +kernel
theorem dL_law_171 : decode cL_law 171 = .ok (.iconst 0, 1) := by decide +kernel
theorem dL_law_172 : decode cL_law 172 = .ok (.ireturn, 1) := by decide +kernel
theorem dL_law_173 : decode cL_law 173 = .ok (.goto 563, 3) := by decide +kernel
theorem dL_law_176 : decode cL_law 176 = .ok (.aload_n 1, 1) := by decide +kernel
theorem dL_law_177 : decode cL_law 177 = .ok (.aload_n 0, 1) := by decide +kernel
theorem dL_law_178 : decode cL_law 178 = .ok (.iload 4, 2) := by decide +kernel
theorem dL_law_180 : decode cL_law 180 = .ok (.iconst 1, 1) := by decide +kernel
theorem dL_law_181 : decode cL_law 181 = .ok (.iadd, 1) := by decide +kernel
theorem dL_law_182 : decode cL_law 182 = .ok (.iaload, 1) := by decide +kernel
theorem dL_law_183 : decode cL_law 183 = .ok (.aload_n 0, 1) := by decide +kernel
theorem dL_law_184 : decode cL_law 184 = .ok (.iload 4, 2) := by decide +kernel
theorem dL_law_186 : decode cL_law 186 = .ok (.iconst 2, 1) := by decide +kernel
theorem dL_law_187 : decode cL_law 187 = .ok (.iadd, 1) := by decide +kernel
theorem dL_law_188 : decode cL_law 188 = .ok (.iaload, 1) := by decide +kernel
theorem dL_law_189 : decode cL_law 189 = .ok (.aload_n 0, 1) := by decide +kernel
theorem dL_law_190 : decode cL_law 190 = .ok (.iload 4, 2) := by decide +kernel
theorem dL_law_192 : decode cL_law 192 = .ok (.iconst 3, 1) := by decide +kernel
theorem dL_law_193 : decode cL_law 193 = .ok (.iadd, 1) := by decide +kernel
theorem dL_law_194 : decode cL_law 194 = .ok (.iaload, 1) := by decide +kernel
theorem dL_law_195 : decode cL_law 195 = .ok (.aload_n 3, 1) := by decide +kernel
theorem dL_law_196 : decode cL_law 196 = .ok (.invokestatic 62, 3) := by decide +kernel
theorem dL_law_199 : decode cL_law 199 = .ok (.istore 5, 2) := by decide +kernel
theorem dL_law_201 : decode cL_law 201 = .ok (.aload_n 2, 1) := by decide +kernel
theorem dL_law_202 : decode cL_law 202 = .ok (.aload_n 0, 1) := by decide +kernel
theorem dL_law_203 : decode cL_law 203 = .ok (.iload 4, 2) := by decide +kernel
theorem dL_law_205 : decode cL_law 205 = .ok (.iconst 1, 1) := by decide +kernel
theorem dL_law_206 : decode cL_law 206 = .ok (.iadd, 1) := by decide +kernel
theorem dL_law_207 : decode cL_law 207 = .ok (.iaload, 1) := by decide +kernel
theorem dL_law_208 : decode cL_law 208 = .ok (.aload_n 0, 1) := by decide +kernel
theorem dL_law_209 : decode cL_law 209 = .ok (.iload 4, 2) := by decide +kernel
theorem dL_law_211 : decode cL_law 211 = .ok (.iconst 2, 1) := by decide +kernel
theorem dL_law_212 : decode cL_law 212 = .ok (.iadd, 1) := by decide +kernel
theorem dL_law_213 : decode cL_law 213 = .ok (.iaload, 1) := by decide +kernel
theorem dL_law_214 : decode cL_law 214 = .ok (.aload_n 0, 1) := by decide +kernel
theorem dL_law_215 : decode cL_law 215 = .ok (.iload 4, 2) := by decide +kernel
theorem dL_law_217 : decode cL_law 217 = .ok (.iconst 3, 1) := by decide +kernel
theorem dL_law_218 : decode cL_law 218 = .ok (.iadd, 1) := by decide +kernel
theorem dL_law_219 : decode cL_law 219 = .ok (.iaload, 1) := by decide +kernel
theorem dL_law_220 : decode cL_law 220 = .ok (.invokevirtual 65, 3) := by decide +kernel
theorem dL_law_223 : decode cL_law 223 = .ok (.istore 6, 2) := by decide +kernel
theorem dL_law_225 : decode cL_law 225 = .ok (.aload_n 2, 1) := by decide +kernel
theorem dL_law_226 : decode cL_law 226 = .ok (.invokevirtual 59, 3) := by decide +kernel
theorem dL_law_229 : decode cL_law 229 = .ok (.iload 5, 2) := by decide +kernel
theorem dL_law_231 : decode cL_law 231 = .ok (.if_icmp .eq 5, 3) := by decide +kernel
theorem dL_law_234 : decode cL_law 234 = .ok (.iconst 0, 1) := by decide +kernel
theorem dL_law_235 : decode cL_law 235 = .ok (.ireturn, 1) := by decide +kernel
theorem dL_law_236 : decode cL_law 236 = .ok (.iload 5, 2) := by decide +kernel
theorem dL_law_238 : decode cL_law 238 = .ok (.ifCond .ne 15, 3) := by decide +kernel
theorem dL_law_241 : decode cL_law 241 = .ok (.aload_n 3, 1) := by decide +kernel
theorem dL_law_242 : decode cL_law 242 = .ok (.iconst 0, 1) := by decide +kernel
theorem dL_law_243 : decode cL_law 243 = .ok (.laload, 1) := by decide +kernel
theorem dL_law_244 : decode cL_law 244 = .ok (.iload 6, 2) := by decide +kernel
theorem dL_law_246 : decode cL_law 246 = .ok (.i2l, 1) := by decide +kernel
theorem dL_law_247 : decode cL_law 247 = .ok (.lcmp, 1) := by decide +kernel
theorem dL_law_248 : decode cL_law 248 = .ok (.ifCond .eq 5, 3) := by decide +kernel
theorem dL_law_251 : decode cL_law 251 = .ok (.iconst 0, 1) := by decide +kernel
theorem dL_law_252 : decode cL_law 252 = .ok (.ireturn, 1) := by decide +kernel
theorem dL_law_253 : decode cL_law 253 = .ok (.goto 483, 3) := by decide +kernel
theorem dL_law_256 : decode cL_law 256 = .ok (.aload_n 1, 1) := by decide +kernel
theorem dL_law_257 : decode cL_law 257 = .ok (.aload_n 0, 1) := by decide +kernel
theorem dL_law_258 : decode cL_law 258 = .ok (.iload 4, 2) := by decide +kernel
theorem dL_law_260 : decode cL_law 260 = .ok (.iconst 1, 1) := by decide +kernel
theorem dL_law_261 : decode cL_law 261 = .ok (.iadd, 1) := by decide +kernel
theorem dL_law_262 : decode cL_law 262 = .ok (.iaload, 1) := by decide +kernel
theorem dL_law_263 : decode cL_law 263 = .ok (.aload_n 0, 1) := by decide +kernel
theorem dL_law_264 : decode cL_law 264 = .ok (.iload 4, 2) := by decide +kernel
theorem dL_law_266 : decode cL_law 266 = .ok (.iconst 2, 1) := by decide +kernel
theorem dL_law_267 : decode cL_law 267 = .ok (.iadd, 1) := by decide +kernel
theorem dL_law_268 : decode cL_law 268 = .ok (.iaload, 1) := by decide +kernel
theorem dL_law_269 : decode cL_law 269 = .ok (.aload_n 3, 1) := by decide +kernel
theorem dL_law_270 : decode cL_law 270 = .ok (.invokestatic 66, 3) := by decide +kernel
theorem dL_law_273 : decode cL_law 273 = .ok (.istore 5, 2) := by decide +kernel
theorem dL_law_275 : decode cL_law 275 = .ok (.aload_n 2, 1) := by decide +kernel
theorem dL_law_276 : decode cL_law 276 = .ok (.aload_n 0, 1) := by decide +kernel
theorem dL_law_277 : decode cL_law 277 = .ok (.iload 4, 2) := by decide +kernel
theorem dL_law_279 : decode cL_law 279 = .ok (.iconst 1, 1) := by decide +kernel
theorem dL_law_280 : decode cL_law 280 = .ok (.iadd, 1) := by decide +kernel
theorem dL_law_281 : decode cL_law 281 = .ok (.iaload, 1) := by decide +kernel
theorem dL_law_282 : decode cL_law 282 = .ok (.aload_n 0, 1) := by decide +kernel
theorem dL_law_283 : decode cL_law 283 = .ok (.iload 4, 2) := by decide +kernel
theorem dL_law_285 : decode cL_law 285 = .ok (.iconst 2, 1) := by decide +kernel
theorem dL_law_286 : decode cL_law 286 = .ok (.iadd, 1) := by decide +kernel
theorem dL_law_287 : decode cL_law 287 = .ok (.iaload, 1) := by decide +kernel
theorem dL_law_288 : decode cL_law 288 = .ok (.invokevirtual 69, 3) := by decide +kernel
theorem dL_law_291 : decode cL_law 291 = .ok (.istore 6, 2) := by decide +kernel
theorem dL_law_293 : decode cL_law 293 = .ok (.aload_n 2, 1) := by decide +kernel
theorem dL_law_294 : decode cL_law 294 = .ok (.invokevirtual 59, 3) := by decide +kernel
theorem dL_law_297 : decode cL_law 297 = .ok (.iload 5, 2) := by decide +kernel
theorem dL_law_299 : decode cL_law 299 = .ok (.if_icmp .eq 5, 3) := by decide +kernel
theorem dL_law_302 : decode cL_law 302 = .ok (.iconst 0, 1) := by decide +kernel
theorem dL_law_303 : decode cL_law 303 = .ok (.ireturn, 1) := by decide +kernel
theorem dL_law_304 : decode cL_law 304 = .ok (.iload 5, 2) := by decide +kernel
theorem dL_law_306 : decode cL_law 306 = .ok (.ifCond .ne 15, 3) := by decide +kernel
theorem dL_law_309 : decode cL_law 309 = .ok (.aload_n 3, 1) := by decide +kernel
theorem dL_law_310 : decode cL_law 310 = .ok (.iconst 0, 1) := by decide +kernel
theorem dL_law_311 : decode cL_law 311 = .ok (.laload, 1) := by decide +kernel
theorem dL_law_312 : decode cL_law 312 = .ok (.iload 6, 2) := by decide +kernel
theorem dL_law_314 : decode cL_law 314 = .ok (.i2l, 1) := by decide +kernel
theorem dL_law_315 : decode cL_law 315 = .ok (.lcmp, 1) := by decide +kernel
theorem dL_law_316 : decode cL_law 316 = .ok (.ifCond .eq 5, 3) := by decide +kernel
theorem dL_law_319 : decode cL_law 319 = .ok (.iconst 0, 1) := by decide +kernel
theorem dL_law_320 : decode cL_law 320 = .ok (.ireturn, 1) := by decide +kernel
theorem dL_law_321 : decode cL_law 321 = .ok (.goto 415, 3) := by decide +kernel
theorem dL_law_324 : decode cL_law 324 = .ok (.aload_n 1, 1) := by decide +kernel
theorem dL_law_325 : decode cL_law 325 = .ok (.aload_n 3, 1) := by decide +kernel
theorem dL_law_326 : decode cL_law 326 = .ok (.invokestatic 70, 3) := by decide +kernel
theorem dL_law_329 : decode cL_law 329 = .ok (.istore 5, 2) := by decide +kernel
theorem dL_law_331 : decode cL_law 331 = .ok (.aload_n 2, 1) := by decide +kernel
theorem dL_law_332 : decode cL_law 332 = .ok (.invokevirtual 73, 3) := by decide +kernel
theorem dL_law_335 : decode cL_law 335 = .ok (.istore 6, 2) := by decide +kernel
theorem dL_law_337 : decode cL_law 337 = .ok (.aload_n 2, 1) := by decide +kernel
theorem dL_law_338 : decode cL_law 338 = .ok (.invokevirtual 59, 3) := by decide +kernel
theorem dL_law_341 : decode cL_law 341 = .ok (.iload 5, 2) := by decide +kernel
theorem dL_law_343 : decode cL_law 343 = .ok (.if_icmp .eq 5, 3) := by decide +kernel
theorem dL_law_346 : decode cL_law 346 = .ok (.iconst 0, 1) := by decide +kernel
theorem dL_law_347 : decode cL_law 347 = .ok (.ireturn, 1) := by decide +kernel
theorem dL_law_348 : decode cL_law 348 = .ok (.iload 5, 2) := by decide +kernel
theorem dL_law_350 : decode cL_law 350 = .ok (.ifCond .ne 15, 3) := by decide +kernel
theorem dL_law_353 : decode cL_law 353 = .ok (.aload_n 3, 1) := by decide +kernel
theorem dL_law_354 : decode cL_law 354 = .ok (.iconst 0, 1) := by decide +kernel
theorem dL_law_355 : decode cL_law 355 = .ok (.laload, 1) := by decide +kernel
theorem dL_law_356 : decode cL_law 356 = .ok (.iload 6, 2) := by decide +kernel
theorem dL_law_358 : decode cL_law 358 = .ok (.i2l, 1) := by decide +kernel
theorem dL_law_359 : decode cL_law 359 = .ok (.lcmp, 1) := by decide +kernel
theorem dL_law_360 : decode cL_law 360 = .ok (.ifCond .eq 5, 3) := by decide +kernel
theorem dL_law_363 : decode cL_law 363 = .ok (.iconst 0, 1) := by decide +kernel
theorem dL_law_364 : decode cL_law 364 = .ok (.ireturn, 1) := by decide +kernel
theorem dL_law_365 : decode cL_law 365 = .ok (.goto 371, 3) := by decide +kernel
theorem dL_law_368 : decode cL_law 368 = .ok (.aload_n 1, 1) := by decide +kernel
theorem dL_law_369 : decode cL_law 369 = .ok (.aload_n 0, 1) := by decide +kernel
theorem dL_law_370 : decode cL_law 370 = .ok (.iload 4, 2) := by decide +kernel
theorem dL_law_372 : decode cL_law 372 = .ok (.iconst 1, 1) := by decide +kernel
theorem dL_law_373 : decode cL_law 373 = .ok (.iadd, 1) := by decide +kernel
theorem dL_law_374 : decode cL_law 374 = .ok (.iaload, 1) := by decide +kernel
theorem dL_law_375 : decode cL_law 375 = .ok (.invokevirtual 74, 3) := by decide +kernel
theorem dL_law_378 : decode cL_law 378 = .ok (.aload_n 2, 1) := by decide +kernel
theorem dL_law_379 : decode cL_law 379 = .ok (.aload_n 0, 1) := by decide +kernel
theorem dL_law_380 : decode cL_law 380 = .ok (.iload 4, 2) := by decide +kernel
theorem dL_law_382 : decode cL_law 382 = .ok (.iconst 1, 1) := by decide +kernel
theorem dL_law_383 : decode cL_law 383 = .ok (.iadd, 1) := by decide +kernel
theorem dL_law_384 : decode cL_law 384 = .ok (.iaload, 1) := by decide +kernel
theorem dL_law_385 : decode cL_law 385 = .ok (.invokevirtual 77, 3) := by decide +kernel
theorem dL_law_388 : decode cL_law 388 = .ok (.if_icmp .eq 348, 3) := by decide +kernel
theorem dL_law_391 : decode cL_law 391 = .ok (.iconst 0, 1) := by decide +kernel
theorem dL_law_392 : decode cL_law 392 = .ok (.ireturn, 1) := by decide +kernel
theorem dL_law_393 : decode cL_law 393 = .ok (.aload_n 1, 1) := by decide +kernel
theorem dL_law_394 : decode cL_law 394 = .ok (.aload_n 0, 1) := by decide +kernel
theorem dL_law_395 : decode cL_law 395 = .ok (.iload 4, 2) := by decide +kernel
theorem dL_law_397 : decode cL_law 397 = .ok (.iconst 1, 1) := by decide +kernel
theorem dL_law_398 : decode cL_law 398 = .ok (.iadd, 1) := by decide +kernel
theorem dL_law_399 : decode cL_law 399 = .ok (.iaload, 1) := by decide +kernel
theorem dL_law_400 : decode cL_law 400 = .ok (.aload_n 0, 1) := by decide +kernel
theorem dL_law_401 : decode cL_law 401 = .ok (.iload 4, 2) := by decide +kernel
theorem dL_law_403 : decode cL_law 403 = .ok (.iconst 2, 1) := by decide +kernel
theorem dL_law_404 : decode cL_law 404 = .ok (.iadd, 1) := by decide +kernel
theorem dL_law_405 : decode cL_law 405 = .ok (.iaload, 1) := by decide +kernel
theorem dL_law_406 : decode cL_law 406 = .ok (.aload_n 3, 1) := by decide +kernel
theorem dL_law_407 : decode cL_law 407 = .ok (.invokestatic 78, 3) := by decide +kernel
theorem dL_law_410 : decode cL_law 410 = .ok (.istore 5, 2) := by decide +kernel
theorem dL_law_412 : decode cL_law 412 = .ok (.aload_n 2, 1) := by decide +kernel
theorem dL_law_413 : decode cL_law 413 = .ok (.aload_n 0, 1) := by decide +kernel
theorem dL_law_414 : decode cL_law 414 = .ok (.iload 4, 2) := by decide +kernel
theorem dL_law_416 : decode cL_law 416 = .ok (.iconst 1, 1) := by decide +kernel
theorem dL_law_417 : decode cL_law 417 = .ok (.iadd, 1) := by decide +kernel
theorem dL_law_418 : decode cL_law 418 = .ok (.iaload, 1) := by decide +kernel
theorem dL_law_419 : decode cL_law 419 = .ok (.aload_n 0, 1) := by decide +kernel
theorem dL_law_420 : decode cL_law 420 = .ok (.iload 4, 2) := by decide +kernel
theorem dL_law_422 : decode cL_law 422 = .ok (.iconst 2, 1) := by decide +kernel
theorem dL_law_423 : decode cL_law 423 = .ok (.iadd, 1) := by decide +kernel
theorem dL_law_424 : decode cL_law 424 = .ok (.iaload, 1) := by decide +kernel
theorem dL_law_425 : decode cL_law 425 = .ok (.invokevirtual 80, 3) := by decide +kernel
theorem dL_law_428 : decode cL_law 428 = .ok (.istore 6, 2) := by decide +kernel
theorem dL_law_430 : decode cL_law 430 = .ok (.aload_n 2, 1) := by decide +kernel
theorem dL_law_431 : decode cL_law 431 = .ok (.invokevirtual 59, 3) := by decide +kernel
theorem dL_law_434 : decode cL_law 434 = .ok (.iload 5, 2) := by decide +kernel
theorem dL_law_436 : decode cL_law 436 = .ok (.if_icmp .eq 5, 3) := by decide +kernel
theorem dL_law_439 : decode cL_law 439 = .ok (.iconst 0, 1) := by decide +kernel
theorem dL_law_440 : decode cL_law 440 = .ok (.ireturn, 1) := by decide +kernel
theorem dL_law_441 : decode cL_law 441 = .ok (.iload 5, 2) := by decide +kernel
theorem dL_law_443 : decode cL_law 443 = .ok (.ifCond .ne 15, 3) := by decide +kernel
theorem dL_law_446 : decode cL_law 446 = .ok (.aload_n 3, 1) := by decide +kernel
theorem dL_law_447 : decode cL_law 447 = .ok (.iconst 0, 1) := by decide +kernel
theorem dL_law_448 : decode cL_law 448 = .ok (.laload, 1) := by decide +kernel
theorem dL_law_449 : decode cL_law 449 = .ok (.iload 6, 2) := by decide +kernel
theorem dL_law_451 : decode cL_law 451 = .ok (.i2l, 1) := by decide +kernel
theorem dL_law_452 : decode cL_law 452 = .ok (.lcmp, 1) := by decide +kernel
theorem dL_law_453 : decode cL_law 453 = .ok (.ifCond .eq 5, 3) := by decide +kernel
theorem dL_law_456 : decode cL_law 456 = .ok (.iconst 0, 1) := by decide +kernel
theorem dL_law_457 : decode cL_law 457 = .ok (.ireturn, 1) := by decide +kernel
theorem dL_law_458 : decode cL_law 458 = .ok (.goto 278, 3) := by decide +kernel
theorem dL_law_461 : decode cL_law 461 = .ok (.aload_n 1, 1) := by decide +kernel
theorem dL_law_462 : decode cL_law 462 = .ok (.aload_n 0, 1) := by decide +kernel
theorem dL_law_463 : decode cL_law 463 = .ok (.iload 4, 2) := by decide +kernel
theorem dL_law_465 : decode cL_law 465 = .ok (.iconst 1, 1) := by decide +kernel
theorem dL_law_466 : decode cL_law 466 = .ok (.iadd, 1) := by decide +kernel
theorem dL_law_467 : decode cL_law 467 = .ok (.iaload, 1) := by decide +kernel
theorem dL_law_468 : decode cL_law 468 = .ok (.aload_n 3, 1) := by decide +kernel
theorem dL_law_469 : decode cL_law 469 = .ok (.invokestatic 81, 3) := by decide +kernel
theorem dL_law_472 : decode cL_law 472 = .ok (.istore 5, 2) := by decide +kernel
theorem dL_law_474 : decode cL_law 474 = .ok (.aload_n 2, 1) := by decide +kernel
theorem dL_law_475 : decode cL_law 475 = .ok (.aload_n 0, 1) := by decide +kernel
theorem dL_law_476 : decode cL_law 476 = .ok (.iload 4, 2) := by decide +kernel
theorem dL_law_478 : decode cL_law 478 = .ok (.iconst 1, 1) := by decide +kernel
theorem dL_law_479 : decode cL_law 479 = .ok (.iadd, 1) := by decide +kernel
theorem dL_law_480 : decode cL_law 480 = .ok (.iaload, 1) := by decide +kernel
theorem dL_law_481 : decode cL_law 481 = .ok (.invokevirtual 84, 3) := by decide +kernel
theorem dL_law_484 : decode cL_law 484 = .ok (.istore 6, 2) := by decide +kernel
theorem dL_law_486 : decode cL_law 486 = .ok (.aload_n 2, 1) := by decide +kernel
theorem dL_law_487 : decode cL_law 487 = .ok (.invokevirtual 59, 3) := by decide +kernel
theorem dL_law_490 : decode cL_law 490 = .ok (.iload 5, 2) := by decide +kernel
theorem dL_law_492 : decode cL_law 492 = .ok (.if_icmp .eq 5, 3) := by decide +kernel
theorem dL_law_495 : decode cL_law 495 = .ok (.iconst 0, 1) := by decide +kernel
theorem dL_law_496 : decode cL_law 496 = .ok (.ireturn, 1) := by decide +kernel
theorem dL_law_497 : decode cL_law 497 = .ok (.iload 5, 2) := by decide +kernel
theorem dL_law_499 : decode cL_law 499 = .ok (.ifCond .ne 15, 3) := by decide +kernel
theorem dL_law_502 : decode cL_law 502 = .ok (.aload_n 3, 1) := by decide +kernel
theorem dL_law_503 : decode cL_law 503 = .ok (.iconst 0, 1) := by decide +kernel
theorem dL_law_504 : decode cL_law 504 = .ok (.laload, 1) := by decide +kernel
theorem dL_law_505 : decode cL_law 505 = .ok (.iload 6, 2) := by decide +kernel
theorem dL_law_507 : decode cL_law 507 = .ok (.i2l, 1) := by decide +kernel
theorem dL_law_508 : decode cL_law 508 = .ok (.lcmp, 1) := by decide +kernel
theorem dL_law_509 : decode cL_law 509 = .ok (.ifCond .eq 5, 3) := by decide +kernel
theorem dL_law_512 : decode cL_law 512 = .ok (.iconst 0, 1) := by decide +kernel
theorem dL_law_513 : decode cL_law 513 = .ok (.ireturn, 1) := by decide +kernel
theorem dL_law_514 : decode cL_law 514 = .ok (.goto 222, 3) := by decide +kernel
theorem dL_law_517 : decode cL_law 517 = .ok (.aload_n 1, 1) := by decide +kernel
theorem dL_law_518 : decode cL_law 518 = .ok (.aload_n 3, 1) := by decide +kernel
theorem dL_law_519 : decode cL_law 519 = .ok (.invokestatic 85, 3) := by decide +kernel
theorem dL_law_522 : decode cL_law 522 = .ok (.istore 5, 2) := by decide +kernel
theorem dL_law_524 : decode cL_law 524 = .ok (.aload_n 2, 1) := by decide +kernel
theorem dL_law_525 : decode cL_law 525 = .ok (.invokevirtual 87, 3) := by decide +kernel
theorem dL_law_528 : decode cL_law 528 = .ok (.istore 6, 2) := by decide +kernel
theorem dL_law_530 : decode cL_law 530 = .ok (.aload_n 2, 1) := by decide +kernel
theorem dL_law_531 : decode cL_law 531 = .ok (.invokevirtual 59, 3) := by decide +kernel
theorem dL_law_534 : decode cL_law 534 = .ok (.iload 5, 2) := by decide +kernel
theorem dL_law_536 : decode cL_law 536 = .ok (.if_icmp .eq 5, 3) := by decide +kernel
theorem dL_law_539 : decode cL_law 539 = .ok (.iconst 0, 1) := by decide +kernel
theorem dL_law_540 : decode cL_law 540 = .ok (.ireturn, 1) := by decide +kernel
theorem dL_law_541 : decode cL_law 541 = .ok (.iload 5, 2) := by decide +kernel
theorem dL_law_543 : decode cL_law 543 = .ok (.ifCond .ne 15, 3) := by decide +kernel
theorem dL_law_546 : decode cL_law 546 = .ok (.aload_n 3, 1) := by decide +kernel
theorem dL_law_547 : decode cL_law 547 = .ok (.iconst 0, 1) := by decide +kernel
theorem dL_law_548 : decode cL_law 548 = .ok (.laload, 1) := by decide +kernel
theorem dL_law_549 : decode cL_law 549 = .ok (.iload 6, 2) := by decide +kernel
theorem dL_law_551 : decode cL_law 551 = .ok (.i2l, 1) := by decide +kernel
theorem dL_law_552 : decode cL_law 552 = .ok (.lcmp, 1) := by decide +kernel
theorem dL_law_553 : decode cL_law 553 = .ok (.ifCond .eq 5, 3) := by decide +kernel
theorem dL_law_556 : decode cL_law 556 = .ok (.iconst 0, 1) := by decide +kernel
theorem dL_law_557 : decode cL_law 557 = .ok (.ireturn, 1) := by decide +kernel
theorem dL_law_558 : decode cL_law 558 = .ok (.goto 178, 3) := by decide +kernel
theorem dL_law_561 : decode cL_law 561 = .ok (.aload_n 1, 1) := by decide +kernel
theorem dL_law_562 : decode cL_law 562 = .ok (.invokevirtual 88, 3) := by decide +kernel
theorem dL_law_565 : decode cL_law 565 = .ok (.aload_n 2, 1) := by decide +kernel
theorem dL_law_566 : decode cL_law 566 = .ok (.invokevirtual 91, 3) := by decide +kernel
theorem dL_law_569 : decode cL_law 569 = .ok (.if_icmp .eq 167, 3) := by decide +kernel
theorem dL_law_572 : decode cL_law 572 = .ok (.iconst 0, 1) := by decide +kernel
theorem dL_law_573 : decode cL_law 573 = .ok (.ireturn, 1) := by decide +kernel
theorem dL_law_574 : decode cL_law 574 = .ok (.aload_n 1, 1) := by decide +kernel
theorem dL_law_575 : decode cL_law 575 = .ok (.aload_n 0, 1) := by decide +kernel
theorem dL_law_576 : decode cL_law 576 = .ok (.iload 4, 2) := by decide +kernel
theorem dL_law_578 : decode cL_law 578 = .ok (.iconst 1, 1) := by decide +kernel
theorem dL_law_579 : decode cL_law 579 = .ok (.iadd, 1) := by decide +kernel
theorem dL_law_580 : decode cL_law 580 = .ok (.iaload, 1) := by decide +kernel
theorem dL_law_581 : decode cL_law 581 = .ok (.aload_n 0, 1) := by decide +kernel
theorem dL_law_582 : decode cL_law 582 = .ok (.iload 4, 2) := by decide +kernel
theorem dL_law_584 : decode cL_law 584 = .ok (.iconst 2, 1) := by decide +kernel
theorem dL_law_585 : decode cL_law 585 = .ok (.iadd, 1) := by decide +kernel
theorem dL_law_586 : decode cL_law 586 = .ok (.iaload, 1) := by decide +kernel
theorem dL_law_587 : decode cL_law 587 = .ok (.aload_n 0, 1) := by decide +kernel
theorem dL_law_588 : decode cL_law 588 = .ok (.iload 4, 2) := by decide +kernel
theorem dL_law_590 : decode cL_law 590 = .ok (.iconst 3, 1) := by decide +kernel
theorem dL_law_591 : decode cL_law 591 = .ok (.iadd, 1) := by decide +kernel
theorem dL_law_592 : decode cL_law 592 = .ok (.iaload, 1) := by decide +kernel
theorem dL_law_593 : decode cL_law 593 = .ok (.aload_n 3, 1) := by decide +kernel
theorem dL_law_594 : decode cL_law 594 = .ok (.invokestatic 92, 3) := by decide +kernel
theorem dL_law_597 : decode cL_law 597 = .ok (.istore 5, 2) := by decide +kernel
theorem dL_law_599 : decode cL_law 599 = .ok (.aload_n 2, 1) := by decide +kernel
theorem dL_law_600 : decode cL_law 600 = .ok (.aload_n 0, 1) := by decide +kernel
theorem dL_law_601 : decode cL_law 601 = .ok (.iload 4, 2) := by decide +kernel
theorem dL_law_603 : decode cL_law 603 = .ok (.iconst 1, 1) := by decide +kernel
theorem dL_law_604 : decode cL_law 604 = .ok (.iadd, 1) := by decide +kernel
theorem dL_law_605 : decode cL_law 605 = .ok (.iaload, 1) := by decide +kernel
theorem dL_law_606 : decode cL_law 606 = .ok (.aload_n 0, 1) := by decide +kernel
theorem dL_law_607 : decode cL_law 607 = .ok (.iload 4, 2) := by decide +kernel
theorem dL_law_609 : decode cL_law 609 = .ok (.iconst 2, 1) := by decide +kernel
theorem dL_law_610 : decode cL_law 610 = .ok (.iadd, 1) := by decide +kernel
theorem dL_law_611 : decode cL_law 611 = .ok (.iaload, 1) := by decide +kernel
theorem dL_law_612 : decode cL_law 612 = .ok (.aload_n 0, 1) := by decide +kernel
theorem dL_law_613 : decode cL_law 613 = .ok (.iload 4, 2) := by decide +kernel
theorem dL_law_615 : decode cL_law 615 = .ok (.iconst 3, 1) := by decide +kernel
theorem dL_law_616 : decode cL_law 616 = .ok (.iadd, 1) := by decide +kernel
theorem dL_law_617 : decode cL_law 617 = .ok (.iaload, 1) := by decide +kernel
theorem dL_law_618 : decode cL_law 618 = .ok (.invokevirtual 94, 3) := by decide +kernel
theorem dL_law_621 : decode cL_law 621 = .ok (.istore 6, 2) := by decide +kernel
theorem dL_law_623 : decode cL_law 623 = .ok (.aload_n 2, 1) := by decide +kernel
theorem dL_law_624 : decode cL_law 624 = .ok (.invokevirtual 59, 3) := by decide +kernel
theorem dL_law_627 : decode cL_law 627 = .ok (.iload 5, 2) := by decide +kernel
theorem dL_law_629 : decode cL_law 629 = .ok (.if_icmp .eq 5, 3) := by decide +kernel
theorem dL_law_632 : decode cL_law 632 = .ok (.iconst 0, 1) := by decide +kernel
theorem dL_law_633 : decode cL_law 633 = .ok (.ireturn, 1) := by decide +kernel
theorem dL_law_634 : decode cL_law 634 = .ok (.iload 5, 2) := by decide +kernel
theorem dL_law_636 : decode cL_law 636 = .ok (.ifCond .ne 15, 3) := by decide +kernel
theorem dL_law_639 : decode cL_law 639 = .ok (.aload_n 3, 1) := by decide +kernel
theorem dL_law_640 : decode cL_law 640 = .ok (.iconst 0, 1) := by decide +kernel
theorem dL_law_641 : decode cL_law 641 = .ok (.laload, 1) := by decide +kernel
theorem dL_law_642 : decode cL_law 642 = .ok (.iload 6, 2) := by decide +kernel
theorem dL_law_644 : decode cL_law 644 = .ok (.i2l, 1) := by decide +kernel
theorem dL_law_645 : decode cL_law 645 = .ok (.lcmp, 1) := by decide +kernel
theorem dL_law_646 : decode cL_law 646 = .ok (.ifCond .eq 5, 3) := by decide +kernel
theorem dL_law_649 : decode cL_law 649 = .ok (.iconst 0, 1) := by decide +kernel
theorem dL_law_650 : decode cL_law 650 = .ok (.ireturn, 1) := by decide +kernel
theorem dL_law_651 : decode cL_law 651 = .ok (.goto 85, 3) := by decide +kernel
theorem dL_law_654 : decode cL_law 654 = .ok (.aload_n 1, 1) := by decide +kernel
theorem dL_law_655 : decode cL_law 655 = .ok (.invokevirtual 95, 3) := by decide +kernel
theorem dL_law_658 : decode cL_law 658 = .ok (.aload_n 2, 1) := by decide +kernel
theorem dL_law_659 : decode cL_law 659 = .ok (.invokevirtual 98, 3) := by decide +kernel
theorem dL_law_662 : decode cL_law 662 = .ok (.if_icmp .eq 74, 3) := by decide +kernel
theorem dL_law_665 : decode cL_law 665 = .ok (.iconst 0, 1) := by decide +kernel
theorem dL_law_666 : decode cL_law 666 = .ok (.ireturn, 1) := by decide +kernel
theorem dL_law_667 : decode cL_law 667 = .ok (.aload_n 1, 1) := by decide +kernel
theorem dL_law_668 : decode cL_law 668 = .ok (.aload_n 0, 1) := by decide +kernel
theorem dL_law_669 : decode cL_law 669 = .ok (.iload 4, 2) := by decide +kernel
theorem dL_law_671 : decode cL_law 671 = .ok (.iconst 1, 1) := by decide +kernel
theorem dL_law_672 : decode cL_law 672 = .ok (.iadd, 1) := by decide +kernel
theorem dL_law_673 : decode cL_law 673 = .ok (.iaload, 1) := by decide +kernel
theorem dL_law_674 : decode cL_law 674 = .ok (.aload_n 3, 1) := by decide +kernel
theorem dL_law_675 : decode cL_law 675 = .ok (.invokestatic 99, 3) := by decide +kernel
theorem dL_law_678 : decode cL_law 678 = .ok (.istore 5, 2) := by decide +kernel
theorem dL_law_680 : decode cL_law 680 = .ok (.aload_n 2, 1) := by decide +kernel
theorem dL_law_681 : decode cL_law 681 = .ok (.aload_n 0, 1) := by decide +kernel
theorem dL_law_682 : decode cL_law 682 = .ok (.iload 4, 2) := by decide +kernel
theorem dL_law_684 : decode cL_law 684 = .ok (.iconst 1, 1) := by decide +kernel
theorem dL_law_685 : decode cL_law 685 = .ok (.iadd, 1) := by decide +kernel
theorem dL_law_686 : decode cL_law 686 = .ok (.iaload, 1) := by decide +kernel
theorem dL_law_687 : decode cL_law 687 = .ok (.invokevirtual 101, 3) := by decide +kernel
theorem dL_law_690 : decode cL_law 690 = .ok (.istore 6, 2) := by decide +kernel
theorem dL_law_692 : decode cL_law 692 = .ok (.aload_n 2, 1) := by decide +kernel
theorem dL_law_693 : decode cL_law 693 = .ok (.invokevirtual 59, 3) := by decide +kernel
theorem dL_law_696 : decode cL_law 696 = .ok (.iload 5, 2) := by decide +kernel
theorem dL_law_698 : decode cL_law 698 = .ok (.if_icmp .eq 5, 3) := by decide +kernel
theorem dL_law_701 : decode cL_law 701 = .ok (.iconst 0, 1) := by decide +kernel
theorem dL_law_702 : decode cL_law 702 = .ok (.ireturn, 1) := by decide +kernel
theorem dL_law_703 : decode cL_law 703 = .ok (.iload 5, 2) := by decide +kernel
theorem dL_law_705 : decode cL_law 705 = .ok (.ifCond .ne 15, 3) := by decide +kernel
theorem dL_law_708 : decode cL_law 708 = .ok (.aload_n 3, 1) := by decide +kernel
theorem dL_law_709 : decode cL_law 709 = .ok (.iconst 0, 1) := by decide +kernel
theorem dL_law_710 : decode cL_law 710 = .ok (.laload, 1) := by decide +kernel
theorem dL_law_711 : decode cL_law 711 = .ok (.iload 6, 2) := by decide +kernel
theorem dL_law_713 : decode cL_law 713 = .ok (.i2l, 1) := by decide +kernel
theorem dL_law_714 : decode cL_law 714 = .ok (.lcmp, 1) := by decide +kernel
theorem dL_law_715 : decode cL_law 715 = .ok (.ifCond .eq 5, 3) := by decide +kernel
theorem dL_law_718 : decode cL_law 718 = .ok (.iconst 0, 1) := by decide +kernel
theorem dL_law_719 : decode cL_law 719 = .ok (.ireturn, 1) := by decide +kernel
theorem dL_law_720 : decode cL_law 720 = .ok (.goto 16, 3) := by decide +kernel
theorem dL_law_723 : decode cL_law 723 = .ok (.aload_n 1, 1) := by decide +kernel
theorem dL_law_724 : decode cL_law 724 = .ok (.invokevirtual 102, 3) := by decide +kernel
theorem dL_law_727 : decode cL_law 727 = .ok (.aload_n 2, 1) := by decide +kernel
theorem dL_law_728 : decode cL_law 728 = .ok (.invokevirtual 105, 3) := by decide +kernel
theorem dL_law_731 : decode cL_law 731 = .ok (.if_icmp .eq 5, 3) := by decide +kernel
theorem dL_law_734 : decode cL_law 734 = .ok (.iconst 0, 1) := by decide +kernel
theorem dL_law_735 : decode cL_law 735 = .ok (.ireturn, 1) := by decide +kernel
theorem dL_law_736 : decode cL_law 736 = .ok (.iinc 4 4, 3) := by decide +kernel
theorem dL_law_739 : decode cL_law 739 = .ok (.goto (-716), 3) := by decide +kernel
theorem dL_law_742 : decode cL_law 742 = .ok (.iconst 1, 1) := by decide +kernel
theorem dL_law_743 : decode cL_law 743 = .ok (.ireturn, 1) := by decide +kernel
/-- the words that every method of this claim is given: those of the tables that stay -/
def WL : List Cond := lw_tbl.filter goodWord
theorem WL_in {w : Cond} (h : w ∈ WL) : w ∈ lw_tbl := (List.mem_filter.mp h).1
theorem WL_good {w : Cond} (h : w ∈ WL) : goodWord w = true := (List.mem_filter.mp h).2
theorem WL_of {w : Cond} (i : Nat) (h : lw_tbl[i]? = some w) (g : goodWord w = true) : w ∈ WL := List.mem_filter.mpr ⟨List.mem_of_getElem? h, g⟩
theorem goodWL {c : Cond} (h : c ∈ WL) (d : Cond) : GoodIn (d :: WL) (c :: WL) := fun w hw => by
  rcases List.mem_cons.mp hw with rfl | hw
  · exact ⟨List.mem_cons_of_mem _ h, good_of_word (WL_good h)⟩
  · exact ⟨List.mem_cons_of_mem _ hw, good_of_word (WL_good hw)⟩
theorem cl_L_8 : (Jvm.Cond.classLink "SaveRestoreLaw" (8 : Nat) "SaveRestore") ∈ WL := WL_of 33 (by decide +kernel) (by decide +kernel)
theorem ml_L_49 : (Jvm.Cond.methodLink "SaveRestoreLaw" (49 : Nat) ({ cls := "SaveRestore", name := "<init>", desc := "()V" } : Jvm.MethodName)) ∈ WL := WL_of 35 (by decide +kernel) (by decide +kernel)
theorem ml_X3_1 : (Jvm.Cond.methodLink "SaveRestore" (1 : Nat) ({ cls := "java/lang/Object", name := "<init>", desc := "()V" } : Jvm.MethodName)) ∈ WL := WL_of 38 (by decide +kernel) (by decide +kernel)
theorem cl_X3_9 : (Jvm.Cond.classLink "SaveRestore" (9 : Nat) "SaveRestore$Thing") ∈ WL := WL_of 41 (by decide +kernel) (by decide +kernel)
theorem cl_X3_22 : (Jvm.Cond.classLink "SaveRestore" (22 : Nat) "SaveRestore$Save") ∈ WL := WL_of 43 (by decide +kernel) (by decide +kernel)
theorem cl_X3_41 : (Jvm.Cond.classLink "SaveRestore" (41 : Nat) "[[I") ∈ WL := WL_of 45 (by decide +kernel) (by decide +kernel)
theorem ml_X1_3 : (Jvm.Cond.methodLink "SaveRestore$Save" (3 : Nat) ({ cls := "java/lang/Object", name := "<init>", desc := "()V" } : Jvm.MethodName)) ∈ WL := WL_of 51 (by decide +kernel) (by decide +kernel)
theorem fl_X1_9 : (Jvm.Cond.fieldLink "SaveRestore$Save" (9 : Nat) "SaveRestore$Save" "number" "I") ∈ WL := WL_of 52 (by decide +kernel) (by decide +kernel)
theorem fl_X3_97 : (Jvm.Cond.fieldLink "SaveRestore" (97 : Nat) "SaveRestore$Save" "number" "I") ∈ WL := WL_of 53 (by decide +kernel) (by decide +kernel)
theorem fl_X1_15 : (Jvm.Cond.fieldLink "SaveRestore$Save" (15 : Nat) "SaveRestore$Save" "firstNewerThing" "I") ∈ WL := WL_of 54 (by decide +kernel) (by decide +kernel)
theorem fl_X2_29 : (Jvm.Cond.fieldLink "SaveRestore$Thing" (29 : Nat) "SaveRestore$Save" "firstNewerThing" "I") ∈ WL := WL_of 55 (by decide +kernel) (by decide +kernel)
theorem fl_X3_98 : (Jvm.Cond.fieldLink "SaveRestore" (98 : Nat) "SaveRestore$Save" "firstNewerThing" "I") ∈ WL := WL_of 56 (by decide +kernel) (by decide +kernel)
theorem fl_X1_18 : (Jvm.Cond.fieldLink "SaveRestore$Save" (18 : Nat) "SaveRestore$Save" "pushedBefore" "I") ∈ WL := WL_of 57 (by decide +kernel) (by decide +kernel)
theorem fl_X3_101 : (Jvm.Cond.fieldLink "SaveRestore" (101 : Nat) "SaveRestore$Save" "pushedBefore" "I") ∈ WL := WL_of 58 (by decide +kernel) (by decide +kernel)
theorem fl_X1_21 : (Jvm.Cond.fieldLink "SaveRestore$Save" (21 : Nat) "SaveRestore$Save" "parameters" "[I") ∈ WL := WL_of 59 (by decide +kernel) (by decide +kernel)
theorem fl_X3_104 : (Jvm.Cond.fieldLink "SaveRestore" (104 : Nat) "SaveRestore$Save" "parameters" "[I") ∈ WL := WL_of 60 (by decide +kernel) (by decide +kernel)
theorem fl_X1_25 : (Jvm.Cond.fieldLink "SaveRestore$Save" (25 : Nat) "SaveRestore$Save" "rows" "LSaveRestore$Row;") ∈ WL := WL_of 61 (by decide +kernel) (by decide +kernel)
theorem fl_X3_172 : (Jvm.Cond.fieldLink "SaveRestore" (172 : Nat) "SaveRestore$Save" "rows" "LSaveRestore$Row;") ∈ WL := WL_of 62 (by decide +kernel) (by decide +kernel)
theorem fl_X1_29 : (Jvm.Cond.fieldLink "SaveRestore$Save" (29 : Nat) "SaveRestore$Save" "rowCount" "I") ∈ WL := WL_of 63 (by decide +kernel) (by decide +kernel)
theorem fl_X3_143 : (Jvm.Cond.fieldLink "SaveRestore" (143 : Nat) "SaveRestore$Save" "rowCount" "I") ∈ WL := WL_of 64 (by decide +kernel) (by decide +kernel)
theorem fl_X3_11 : (Jvm.Cond.fieldLink "SaveRestore" (11 : Nat) "SaveRestore" "things" "[LSaveRestore$Thing;") ∈ WL := WL_of 79 (by decide +kernel) (by decide +kernel)
theorem fl_X3_15 : (Jvm.Cond.fieldLink "SaveRestore" (15 : Nat) "SaveRestore" "thingCount" "I") ∈ WL := WL_of 80 (by decide +kernel) (by decide +kernel)
theorem fl_X3_19 : (Jvm.Cond.fieldLink "SaveRestore" (19 : Nat) "SaveRestore" "thingsMade" "I") ∈ WL := WL_of 81 (by decide +kernel) (by decide +kernel)
theorem fl_X3_24 : (Jvm.Cond.fieldLink "SaveRestore" (24 : Nat) "SaveRestore" "saves" "[LSaveRestore$Save;") ∈ WL := WL_of 82 (by decide +kernel) (by decide +kernel)
theorem fl_X3_28 : (Jvm.Cond.fieldLink "SaveRestore" (28 : Nat) "SaveRestore" "living" "I") ∈ WL := WL_of 83 (by decide +kernel) (by decide +kernel)
theorem fl_X3_31 : (Jvm.Cond.fieldLink "SaveRestore" (31 : Nat) "SaveRestore" "savesMade" "I") ∈ WL := WL_of 84 (by decide +kernel) (by decide +kernel)
theorem fl_X3_34 : (Jvm.Cond.fieldLink "SaveRestore" (34 : Nat) "SaveRestore" "mostLiving" "I") ∈ WL := WL_of 85 (by decide +kernel) (by decide +kernel)
theorem fl_X3_37 : (Jvm.Cond.fieldLink "SaveRestore" (37 : Nat) "SaveRestore" "parameters" "[I") ∈ WL := WL_of 86 (by decide +kernel) (by decide +kernel)
theorem fl_X3_43 : (Jvm.Cond.fieldLink "SaveRestore" (43 : Nat) "SaveRestore" "pushed" "[[I") ∈ WL := WL_of 87 (by decide +kernel) (by decide +kernel)
theorem fl_X3_46 : (Jvm.Cond.fieldLink "SaveRestore" (46 : Nat) "SaveRestore" "pushedCount" "I") ∈ WL := WL_of 88 (by decide +kernel) (by decide +kernel)
theorem ml_L_74 : (Jvm.Cond.methodLink "SaveRestoreLaw" (74 : Nat) ({ cls := "SaveRestore", name := "restore", desc := "(I)I" } : Jvm.MethodName)) ∈ WL := WL_of 110 (by decide +kernel) (by decide +kernel)
theorem ml_X3_117 : (Jvm.Cond.methodLink "SaveRestore" (117 : Nat) ({ cls := "SaveRestore", name := "placeOfLiving", desc := "(I)I" } : Jvm.MethodName)) ∈ WL := WL_of 114 (by decide +kernel) (by decide +kernel)
theorem ml_X3_121 : (Jvm.Cond.methodLink "SaveRestore" (121 : Nat) ({ cls := "SaveRestore", name := "keptRefersToNewer", desc := "(LSaveRestore$Save;)Z" } : Jvm.MethodName)) ∈ WL := WL_of 118 (by decide +kernel) (by decide +kernel)
theorem ml_X3_160 : (Jvm.Cond.methodLink "SaveRestore" (160 : Nat) ({ cls := "SaveRestore", name := "referredTo", desc := "(I)LSaveRestore$Thing;" } : Jvm.MethodName)) ∈ WL := WL_of 122 (by decide +kernel) (by decide +kernel)
theorem ml_X3_149 : (Jvm.Cond.methodLink "SaveRestore" (149 : Nat) ({ cls := "SaveRestore", name := "find", desc := "(I)LSaveRestore$Thing;" } : Jvm.MethodName)) ∈ WL := WL_of 126 (by decide +kernel) (by decide +kernel)
theorem ml_X3_157 : (Jvm.Cond.methodLink "SaveRestore" (157 : Nat) ({ cls := "java/lang/Math", name := "min", desc := "(II)I" } : Jvm.MethodName)) ∈ WL := WL_of 130 (by decide +kernel) (by decide +kernel)
theorem ml_X3_146 : (Jvm.Cond.methodLink "SaveRestore" (146 : Nat) ({ cls := "SaveRestore$Thing", name := "isNewerThan", desc := "(LSaveRestore$Save;)Z" } : Jvm.MethodName)) ∈ WL := WL_of 133 (by decide +kernel) (by decide +kernel)
theorem ml_X3_125 : (Jvm.Cond.methodLink "SaveRestore" (125 : Nat) ({ cls := "SaveRestore", name := "undoSince", desc := "(LSaveRestore$Save;)V" } : Jvm.MethodName)) ∈ WL := WL_of 137 (by decide +kernel) (by decide +kernel)
theorem ml_X3_179 : (Jvm.Cond.methodLink "SaveRestore" (179 : Nat) ({ cls := "SaveRestore$Row", name := "putBack", desc := "()V" } : Jvm.MethodName)) ∈ WL := WL_of 141 (by decide +kernel) (by decide +kernel)
theorem ml_X3_185 : (Jvm.Cond.methodLink "SaveRestore" (185 : Nat) ({ cls := "SaveRestore", name := "dropLocalsNewerThan", desc := "(LSaveRestore$Save;)V" } : Jvm.MethodName)) ∈ WL := WL_of 145 (by decide +kernel) (by decide +kernel)
theorem ml_X3_105 : (Jvm.Cond.methodLink "SaveRestore" (105 : Nat) ({ cls := "java/lang/System", name := "arraycopy", desc := "(Ljava/lang/Object;ILjava/lang/Object;II)V" } : Jvm.MethodName)) ∈ WL := WL_of 149 (by decide +kernel) (by decide +kernel)
theorem ml_L_88 : (Jvm.Cond.methodLink "SaveRestoreLaw" (88 : Nat) ({ cls := "SaveRestore", name := "pop", desc := "()I" } : Jvm.MethodName)) ∈ WL := WL_of 152 (by decide +kernel) (by decide +kernel)
theorem ml_X3_131 : (Jvm.Cond.methodLink "SaveRestore" (131 : Nat) ({ cls := "SaveRestore", name := "pushedSinceLatestSave", desc := "()I" } : Jvm.MethodName)) ∈ WL := WL_of 156 (by decide +kernel) (by decide +kernel)
theorem ml_L_95 : (Jvm.Cond.methodLink "SaveRestoreLaw" (95 : Nat) ({ cls := "SaveRestore", name := "used", desc := "()I" } : Jvm.MethodName)) ∈ WL := WL_of 160 (by decide +kernel) (by decide +kernel)
theorem ml_L_102 : (Jvm.Cond.methodLink "SaveRestoreLaw" (102 : Nat) ({ cls := "SaveRestore", name := "deepest", desc := "()I" } : Jvm.MethodName)) ∈ WL := WL_of 164 (by decide +kernel) (by decide +kernel)
theorem ml_L_53 : (Jvm.Cond.methodLink "SaveRestoreLaw" (53 : Nat) ({ cls := "SaveRestoreLaw", name := "object", desc := "(LSaveRestore;Z[J)I" } : Jvm.MethodName)) ∈ WL := WL_of 168 (by decide +kernel) (by decide +kernel)
theorem cl_L_13 : (Jvm.Cond.classLink "SaveRestoreLaw" (13 : Nat) "java/lang/UnsupportedOperationException") ∈ WL := WL_of 171 (by decide +kernel) (by decide +kernel)
theorem ml_L_7 : (Jvm.Cond.methodLink "SaveRestoreLaw" (7 : Nat) ({ cls := "SaveRestore", name := "object", desc := "(Z)I" } : Jvm.MethodName)) ∈ WL := WL_of 172 (by decide +kernel) (by decide +kernel)
theorem cl_X3_50 : (Jvm.Cond.classLink "SaveRestore" (50 : Nat) "java/lang/UnsupportedOperationException") ∈ WL := WL_of 176 (by decide +kernel) (by decide +kernel)
theorem ml_X3_54 : (Jvm.Cond.methodLink "SaveRestore" (54 : Nat) ({ cls := "java/lang/UnsupportedOperationException", name := "<init>", desc := "(Ljava/lang/String;)V" } : Jvm.MethodName)) ∈ WL := WL_of 219 (by decide +kernel) (by decide +kernel)
theorem ml_X3_57 : (Jvm.Cond.methodLink "SaveRestore" (57 : Nat) ({ cls := "SaveRestore$Thing", name := "<init>", desc := "(IZ)V" } : Jvm.MethodName)) ∈ WL := WL_of 246 (by decide +kernel) (by decide +kernel)
theorem ml_X2_3 : (Jvm.Cond.methodLink "SaveRestore$Thing" (3 : Nat) ({ cls := "java/lang/Object", name := "<init>", desc := "()V" } : Jvm.MethodName)) ∈ WL := WL_of 249 (by decide +kernel) (by decide +kernel)
theorem fl_X2_21 : (Jvm.Cond.fieldLink "SaveRestore$Thing" (21 : Nat) "SaveRestore$Thing" "number" "I") ∈ WL := WL_of 250 (by decide +kernel) (by decide +kernel)
theorem fl_X3_60 : (Jvm.Cond.fieldLink "SaveRestore" (60 : Nat) "SaveRestore$Thing" "number" "I") ∈ WL := WL_of 251 (by decide +kernel) (by decide +kernel)
theorem fl_X2_25 : (Jvm.Cond.fieldLink "SaveRestore$Thing" (25 : Nat) "SaveRestore$Thing" "global" "Z") ∈ WL := WL_of 252 (by decide +kernel) (by decide +kernel)
theorem fl_X3_75 : (Jvm.Cond.fieldLink "SaveRestore" (75 : Nat) "SaveRestore$Thing" "global" "Z") ∈ WL := WL_of 253 (by decide +kernel) (by decide +kernel)
theorem fl_X2_9 : (Jvm.Cond.fieldLink "SaveRestore$Thing" (9 : Nat) "SaveRestore$Thing" "cells" "[I") ∈ WL := WL_of 254 (by decide +kernel) (by decide +kernel)
theorem fl_X0_17 : (Jvm.Cond.fieldLink "SaveRestore$Row" (17 : Nat) "SaveRestore$Thing" "cells" "[I") ∈ WL := WL_of 255 (by decide +kernel) (by decide +kernel)
theorem fl_X3_92 : (Jvm.Cond.fieldLink "SaveRestore" (92 : Nat) "SaveRestore$Thing" "cells" "[I") ∈ WL := WL_of 256 (by decide +kernel) (by decide +kernel)
theorem fl_X2_15 : (Jvm.Cond.fieldLink "SaveRestore$Thing" (15 : Nat) "SaveRestore$Thing" "bytes" "[I") ∈ WL := WL_of 257 (by decide +kernel) (by decide +kernel)
theorem fl_X3_140 : (Jvm.Cond.fieldLink "SaveRestore" (140 : Nat) "SaveRestore$Thing" "bytes" "[I") ∈ WL := WL_of 258 (by decide +kernel) (by decide +kernel)
theorem fl_X2_18 : (Jvm.Cond.fieldLink "SaveRestore$Thing" (18 : Nat) "SaveRestore$Thing" "rowOwners" "[I") ∈ WL := WL_of 259 (by decide +kernel) (by decide +kernel)
theorem fl_X0_26 : (Jvm.Cond.fieldLink "SaveRestore$Row" (26 : Nat) "SaveRestore$Thing" "rowOwners" "[I") ∈ WL := WL_of 260 (by decide +kernel) (by decide +kernel)
theorem fl_X3_167 : (Jvm.Cond.fieldLink "SaveRestore" (167 : Nat) "SaveRestore$Thing" "rowOwners" "[I") ∈ WL := WL_of 261 (by decide +kernel) (by decide +kernel)
theorem ml_L_62 : (Jvm.Cond.methodLink "SaveRestoreLaw" (62 : Nat) ({ cls := "SaveRestoreLaw", name := "put", desc := "(LSaveRestore;III[J)I" } : Jvm.MethodName)) ∈ WL := WL_of 273 (by decide +kernel) (by decide +kernel)
theorem cl_L_19 : (Jvm.Cond.classLink "SaveRestoreLaw" (19 : Nat) "java/util/NoSuchElementException") ∈ WL := WL_of 276 (by decide +kernel) (by decide +kernel)
theorem cl_L_21 : (Jvm.Cond.classLink "SaveRestoreLaw" (21 : Nat) "java/lang/IndexOutOfBoundsException") ∈ WL := WL_of 277 (by decide +kernel) (by decide +kernel)
theorem cl_L_23 : (Jvm.Cond.classLink "SaveRestoreLaw" (23 : Nat) "java/lang/IllegalStateException") ∈ WL := WL_of 278 (by decide +kernel) (by decide +kernel)
theorem ml_L_15 : (Jvm.Cond.methodLink "SaveRestoreLaw" (15 : Nat) ({ cls := "SaveRestore", name := "put", desc := "(III)I" } : Jvm.MethodName)) ∈ WL := WL_of 279 (by decide +kernel) (by decide +kernel)
theorem ml_X3_63 : (Jvm.Cond.methodLink "SaveRestore" (63 : Nat) ({ cls := "SaveRestore", name := "existing", desc := "(I)LSaveRestore$Thing;" } : Jvm.MethodName)) ∈ WL := WL_of 283 (by decide +kernel) (by decide +kernel)
theorem cl_X3_152 : (Jvm.Cond.classLink "SaveRestore" (152 : Nat) "java/util/NoSuchElementException") ∈ WL := WL_of 287 (by decide +kernel) (by decide +kernel)
theorem ml_X3_156 : (Jvm.Cond.methodLink "SaveRestore" (156 : Nat) ({ cls := "java/util/NoSuchElementException", name := "<init>", desc := "(Ljava/lang/String;)V" } : Jvm.MethodName)) ∈ WL := WL_of 297 (by decide +kernel) (by decide +kernel)
theorem ml_X3_67 : (Jvm.Cond.methodLink "SaveRestore" (67 : Nat) ({ cls := "SaveRestore", name := "checkValue", desc := "(I)V" } : Jvm.MethodName)) ∈ WL := WL_of 303 (by decide +kernel) (by decide +kernel)
theorem ml_X3_71 : (Jvm.Cond.methodLink "SaveRestore" (71 : Nat) ({ cls := "SaveRestore", name := "checkIndex", desc := "(II)V" } : Jvm.MethodName)) ∈ WL := WL_of 308 (by decide +kernel) (by decide +kernel)
theorem cl_X3_135 : (Jvm.Cond.classLink "SaveRestore" (135 : Nat) "java/lang/IndexOutOfBoundsException") ∈ WL := WL_of 311 (by decide +kernel) (by decide +kernel)
theorem ml_X3_139 : (Jvm.Cond.methodLink "SaveRestore" (139 : Nat) ({ cls := "java/lang/IndexOutOfBoundsException", name := "<init>", desc := "(Ljava/lang/String;)V" } : Jvm.MethodName)) ∈ WL := WL_of 321 (by decide +kernel) (by decide +kernel)
theorem ml_X3_79 : (Jvm.Cond.methodLink "SaveRestore" (79 : Nat) ({ cls := "SaveRestore", name := "refersToLocal", desc := "(I)Z" } : Jvm.MethodName)) ∈ WL := WL_of 327 (by decide +kernel) (by decide +kernel)
theorem cl_X3_83 : (Jvm.Cond.classLink "SaveRestore" (83 : Nat) "java/lang/IllegalStateException") ∈ WL := WL_of 331 (by decide +kernel) (by decide +kernel)
theorem ml_X3_87 : (Jvm.Cond.methodLink "SaveRestore" (87 : Nat) ({ cls := "java/lang/IllegalStateException", name := "<init>", desc := "(Ljava/lang/String;)V" } : Jvm.MethodName)) ∈ WL := WL_of 341 (by decide +kernel) (by decide +kernel)
theorem ml_X3_88 : (Jvm.Cond.methodLink "SaveRestore" (88 : Nat) ({ cls := "SaveRestore", name := "keepRow", desc := "(LSaveRestore$Thing;I)V" } : Jvm.MethodName)) ∈ WL := WL_of 347 (by decide +kernel) (by decide +kernel)
theorem cl_X3_170 : (Jvm.Cond.classLink "SaveRestore" (170 : Nat) "SaveRestore$Row") ∈ WL := WL_of 351 (by decide +kernel) (by decide +kernel)
theorem ml_X3_176 : (Jvm.Cond.methodLink "SaveRestore" (176 : Nat) ({ cls := "SaveRestore$Row", name := "<init>", desc := "(LSaveRestore$Thing;ILSaveRestore$Row;)V" } : Jvm.MethodName)) ∈ WL := WL_of 353 (by decide +kernel) (by decide +kernel)
theorem ml_X0_1 : (Jvm.Cond.methodLink "SaveRestore$Row" (1 : Nat) ({ cls := "java/lang/Object", name := "<init>", desc := "()V" } : Jvm.MethodName)) ∈ WL := WL_of 356 (by decide +kernel) (by decide +kernel)
theorem fl_X0_7 : (Jvm.Cond.fieldLink "SaveRestore$Row" (7 : Nat) "SaveRestore$Row" "thing" "LSaveRestore$Thing;") ∈ WL := WL_of 357 (by decide +kernel) (by decide +kernel)
theorem fl_X0_13 : (Jvm.Cond.fieldLink "SaveRestore$Row" (13 : Nat) "SaveRestore$Row" "cell" "I") ∈ WL := WL_of 358 (by decide +kernel) (by decide +kernel)
theorem fl_X0_23 : (Jvm.Cond.fieldLink "SaveRestore$Row" (23 : Nat) "SaveRestore$Row" "value" "I") ∈ WL := WL_of 359 (by decide +kernel) (by decide +kernel)
theorem fl_X0_29 : (Jvm.Cond.fieldLink "SaveRestore$Row" (29 : Nat) "SaveRestore$Row" "ownerBefore" "I") ∈ WL := WL_of 360 (by decide +kernel) (by decide +kernel)
theorem fl_X0_32 : (Jvm.Cond.fieldLink "SaveRestore$Row" (32 : Nat) "SaveRestore$Row" "next" "LSaveRestore$Row;") ∈ WL := WL_of 361 (by decide +kernel) (by decide +kernel)
theorem fl_X3_182 : (Jvm.Cond.fieldLink "SaveRestore" (182 : Nat) "SaveRestore$Row" "next" "LSaveRestore$Row;") ∈ WL := WL_of 362 (by decide +kernel) (by decide +kernel)
theorem ml_L_66 : (Jvm.Cond.methodLink "SaveRestoreLaw" (66 : Nat) ({ cls := "SaveRestoreLaw", name := "get", desc := "(LSaveRestore;II[J)I" } : Jvm.MethodName)) ∈ WL := WL_of 374 (by decide +kernel) (by decide +kernel)
theorem ml_L_25 : (Jvm.Cond.methodLink "SaveRestoreLaw" (25 : Nat) ({ cls := "SaveRestore", name := "get", desc := "(II)I" } : Jvm.MethodName)) ∈ WL := WL_of 377 (by decide +kernel) (by decide +kernel)
theorem ml_L_70 : (Jvm.Cond.methodLink "SaveRestoreLaw" (70 : Nat) ({ cls := "SaveRestoreLaw", name := "save", desc := "(LSaveRestore;[J)I" } : Jvm.MethodName)) ∈ WL := WL_of 381 (by decide +kernel) (by decide +kernel)
theorem ml_L_29 : (Jvm.Cond.methodLink "SaveRestoreLaw" (29 : Nat) ({ cls := "SaveRestore", name := "save", desc := "()I" } : Jvm.MethodName)) ∈ WL := WL_of 384 (by decide +kernel) (by decide +kernel)
theorem ml_X3_111 : (Jvm.Cond.methodLink "SaveRestore" (111 : Nat) ({ cls := "java/lang/Math", name := "max", desc := "(II)I" } : Jvm.MethodName)) ∈ WL := WL_of 389 (by decide +kernel) (by decide +kernel)
theorem ml_L_78 : (Jvm.Cond.methodLink "SaveRestoreLaw" (78 : Nat) ({ cls := "SaveRestoreLaw", name := "state", desc := "(LSaveRestore;II[J)I" } : Jvm.MethodName)) ∈ WL := WL_of 392 (by decide +kernel) (by decide +kernel)
theorem ml_L_33 : (Jvm.Cond.methodLink "SaveRestoreLaw" (33 : Nat) ({ cls := "SaveRestore", name := "state", desc := "(II)I" } : Jvm.MethodName)) ∈ WL := WL_of 395 (by decide +kernel) (by decide +kernel)
theorem ml_L_81 : (Jvm.Cond.methodLink "SaveRestoreLaw" (81 : Nat) ({ cls := "SaveRestoreLaw", name := "stateOf", desc := "(LSaveRestore;I[J)I" } : Jvm.MethodName)) ∈ WL := WL_of 399 (by decide +kernel) (by decide +kernel)
theorem ml_L_36 : (Jvm.Cond.methodLink "SaveRestoreLaw" (36 : Nat) ({ cls := "SaveRestore", name := "stateOf", desc := "(I)I" } : Jvm.MethodName)) ∈ WL := WL_of 402 (by decide +kernel) (by decide +kernel)
theorem ml_L_85 : (Jvm.Cond.methodLink "SaveRestoreLaw" (85 : Nat) ({ cls := "SaveRestoreLaw", name := "push", desc := "(LSaveRestore;[J)I" } : Jvm.MethodName)) ∈ WL := WL_of 406 (by decide +kernel) (by decide +kernel)
theorem ml_L_40 : (Jvm.Cond.methodLink "SaveRestoreLaw" (40 : Nat) ({ cls := "SaveRestore", name := "push", desc := "()I" } : Jvm.MethodName)) ∈ WL := WL_of 409 (by decide +kernel) (by decide +kernel)
theorem ml_L_92 : (Jvm.Cond.methodLink "SaveRestoreLaw" (92 : Nat) ({ cls := "SaveRestoreLaw", name := "bytes", desc := "(LSaveRestore;III[J)I" } : Jvm.MethodName)) ∈ WL := WL_of 414 (by decide +kernel) (by decide +kernel)
theorem ml_L_43 : (Jvm.Cond.methodLink "SaveRestoreLaw" (43 : Nat) ({ cls := "SaveRestore", name := "bytes", desc := "(III)I" } : Jvm.MethodName)) ∈ WL := WL_of 417 (by decide +kernel) (by decide +kernel)
theorem ml_L_99 : (Jvm.Cond.methodLink "SaveRestoreLaw" (99 : Nat) ({ cls := "SaveRestoreLaw", name := "old", desc := "(LSaveRestore;I[J)I" } : Jvm.MethodName)) ∈ WL := WL_of 422 (by decide +kernel) (by decide +kernel)
theorem ml_L_46 : (Jvm.Cond.methodLink "SaveRestoreLaw" (46 : Nat) ({ cls := "SaveRestore", name := "old", desc := "(I)I" } : Jvm.MethodName)) ∈ WL := WL_of 425 (by decide +kernel) (by decide +kernel)
theorem cl_L_50 : (Jvm.Cond.classLink "SaveRestoreLaw" (50 : Nat) "SaveRestoreModel") ∈ WL := WL_of 429 (by decide +kernel) (by decide +kernel)
theorem ml_L_52 : (Jvm.Cond.methodLink "SaveRestoreLaw" (52 : Nat) ({ cls := "SaveRestoreModel", name := "<init>", desc := "()V" } : Jvm.MethodName)) ∈ WL := WL_of 431 (by decide +kernel) (by decide +kernel)
theorem ml_X4_1 : (Jvm.Cond.methodLink "SaveRestoreModel" (1 : Nat) ({ cls := "java/lang/Object", name := "<init>", desc := "()V" } : Jvm.MethodName)) ∈ WL := WL_of 434 (by decide +kernel) (by decide +kernel)
theorem fl_X4_50 : (Jvm.Cond.fieldLink "SaveRestoreModel" (50 : Nat) "SaveRestoreModel" "thrown" "I") ∈ WL := WL_of 435 (by decide +kernel) (by decide +kernel)
theorem fl_X4_54 : (Jvm.Cond.fieldLink "SaveRestoreModel" (54 : Nat) "SaveRestoreModel" "made" "I") ∈ WL := WL_of 436 (by decide +kernel) (by decide +kernel)
theorem fl_X4_61 : (Jvm.Cond.fieldLink "SaveRestoreModel" (61 : Nat) "SaveRestoreModel" "alive" "I") ∈ WL := WL_of 437 (by decide +kernel) (by decide +kernel)
theorem fl_X4_7 : (Jvm.Cond.fieldLink "SaveRestoreModel" (7 : Nat) "SaveRestoreModel" "isThere" "[Z") ∈ WL := WL_of 438 (by decide +kernel) (by decide +kernel)
theorem fl_X4_13 : (Jvm.Cond.fieldLink "SaveRestoreModel" (13 : Nat) "SaveRestoreModel" "global" "[Z") ∈ WL := WL_of 439 (by decide +kernel) (by decide +kernel)
theorem fl_X4_16 : (Jvm.Cond.fieldLink "SaveRestoreModel" (16 : Nat) "SaveRestoreModel" "cells" "[I") ∈ WL := WL_of 440 (by decide +kernel) (by decide +kernel)
theorem fl_X4_20 : (Jvm.Cond.fieldLink "SaveRestoreModel" (20 : Nat) "SaveRestoreModel" "octets" "[I") ∈ WL := WL_of 441 (by decide +kernel) (by decide +kernel)
theorem fl_X4_23 : (Jvm.Cond.fieldLink "SaveRestoreModel" (23 : Nat) "SaveRestoreModel" "parameters" "[I") ∈ WL := WL_of 442 (by decide +kernel) (by decide +kernel)
theorem fl_X4_64 : (Jvm.Cond.fieldLink "SaveRestoreModel" (64 : Nat) "SaveRestoreModel" "saves" "I") ∈ WL := WL_of 443 (by decide +kernel) (by decide +kernel)
theorem fl_X4_80 : (Jvm.Cond.fieldLink "SaveRestoreModel" (80 : Nat) "SaveRestoreModel" "lastSave" "I") ∈ WL := WL_of 444 (by decide +kernel) (by decide +kernel)
theorem fl_X4_86 : (Jvm.Cond.fieldLink "SaveRestoreModel" (86 : Nat) "SaveRestoreModel" "deepest" "I") ∈ WL := WL_of 445 (by decide +kernel) (by decide +kernel)
theorem fl_X4_26 : (Jvm.Cond.fieldLink "SaveRestoreModel" (26 : Nat) "SaveRestoreModel" "number" "[I") ∈ WL := WL_of 446 (by decide +kernel) (by decide +kernel)
theorem fl_X4_29 : (Jvm.Cond.fieldLink "SaveRestoreModel" (29 : Nat) "SaveRestoreModel" "first" "[I") ∈ WL := WL_of 447 (by decide +kernel) (by decide +kernel)
theorem fl_X4_32 : (Jvm.Cond.fieldLink "SaveRestoreModel" (32 : Nat) "SaveRestoreModel" "rowsBefore" "[I") ∈ WL := WL_of 448 (by decide +kernel) (by decide +kernel)
theorem fl_X4_35 : (Jvm.Cond.fieldLink "SaveRestoreModel" (35 : Nat) "SaveRestoreModel" "statesBefore" "[I") ∈ WL := WL_of 449 (by decide +kernel) (by decide +kernel)
theorem fl_X4_38 : (Jvm.Cond.fieldLink "SaveRestoreModel" (38 : Nat) "SaveRestoreModel" "had" "[I") ∈ WL := WL_of 450 (by decide +kernel) (by decide +kernel)
theorem fl_X4_67 : (Jvm.Cond.fieldLink "SaveRestoreModel" (67 : Nat) "SaveRestoreModel" "rows" "I") ∈ WL := WL_of 451 (by decide +kernel) (by decide +kernel)
theorem fl_X4_41 : (Jvm.Cond.fieldLink "SaveRestoreModel" (41 : Nat) "SaveRestoreModel" "place" "[I") ∈ WL := WL_of 452 (by decide +kernel) (by decide +kernel)
theorem fl_X4_44 : (Jvm.Cond.fieldLink "SaveRestoreModel" (44 : Nat) "SaveRestoreModel" "value" "[I") ∈ WL := WL_of 453 (by decide +kernel) (by decide +kernel)
theorem fl_X4_83 : (Jvm.Cond.fieldLink "SaveRestoreModel" (83 : Nat) "SaveRestoreModel" "states" "I") ∈ WL := WL_of 454 (by decide +kernel) (by decide +kernel)
theorem fl_X4_47 : (Jvm.Cond.fieldLink "SaveRestoreModel" (47 : Nat) "SaveRestoreModel" "pushed" "[I") ∈ WL := WL_of 455 (by decide +kernel) (by decide +kernel)
theorem ml_L_59 : (Jvm.Cond.methodLink "SaveRestoreLaw" (59 : Nat) ({ cls := "SaveRestoreModel", name := "thrown", desc := "()I" } : Jvm.MethodName)) ∈ WL := WL_of 500 (by decide +kernel) (by decide +kernel)
theorem ml_L_58 : (Jvm.Cond.methodLink "SaveRestoreLaw" (58 : Nat) ({ cls := "SaveRestoreModel", name := "object", desc := "(Z)I" } : Jvm.MethodName)) ∈ WL := WL_of 504 (by decide +kernel) (by decide +kernel)
theorem ml_L_65 : (Jvm.Cond.methodLink "SaveRestoreLaw" (65 : Nat) ({ cls := "SaveRestoreModel", name := "put", desc := "(III)I" } : Jvm.MethodName)) ∈ WL := WL_of 508 (by decide +kernel) (by decide +kernel)
theorem ml_X4_57 : (Jvm.Cond.methodLink "SaveRestoreModel" (57 : Nat) ({ cls := "SaveRestoreModel", name := "isObject", desc := "(I)Z" } : Jvm.MethodName)) ∈ WL := WL_of 512 (by decide +kernel) (by decide +kernel)
theorem ml_X4_70 : (Jvm.Cond.methodLink "SaveRestoreModel" (70 : Nat) ({ cls := "SaveRestoreModel", name := "isValue", desc := "(I)Z" } : Jvm.MethodName)) ∈ WL := WL_of 516 (by decide +kernel) (by decide +kernel)
theorem ml_X4_73 : (Jvm.Cond.methodLink "SaveRestoreModel" (73 : Nat) ({ cls := "SaveRestoreModel", name := "isEight", desc := "(I)Z" } : Jvm.MethodName)) ∈ WL := WL_of 520 (by decide +kernel) (by decide +kernel)
theorem ml_X4_76 : (Jvm.Cond.methodLink "SaveRestoreModel" (76 : Nat) ({ cls := "SaveRestoreModel", name := "keep", desc := "(I)V" } : Jvm.MethodName)) ∈ WL := WL_of 523 (by decide +kernel) (by decide +kernel)
theorem ml_L_69 : (Jvm.Cond.methodLink "SaveRestoreLaw" (69 : Nat) ({ cls := "SaveRestoreModel", name := "get", desc := "(II)I" } : Jvm.MethodName)) ∈ WL := WL_of 527 (by decide +kernel) (by decide +kernel)
theorem ml_L_73 : (Jvm.Cond.methodLink "SaveRestoreLaw" (73 : Nat) ({ cls := "SaveRestoreModel", name := "save", desc := "()I" } : Jvm.MethodName)) ∈ WL := WL_of 531 (by decide +kernel) (by decide +kernel)
theorem ml_L_77 : (Jvm.Cond.methodLink "SaveRestoreLaw" (77 : Nat) ({ cls := "SaveRestoreModel", name := "restore", desc := "(I)I" } : Jvm.MethodName)) ∈ WL := WL_of 535 (by decide +kernel) (by decide +kernel)
theorem ml_X4_89 : (Jvm.Cond.methodLink "SaveRestoreModel" (89 : Nat) ({ cls := "SaveRestoreModel", name := "isLive", desc := "(I)Z" } : Jvm.MethodName)) ∈ WL := WL_of 539 (by decide +kernel) (by decide +kernel)
theorem ml_X4_92 : (Jvm.Cond.methodLink "SaveRestoreModel" (92 : Nat) ({ cls := "SaveRestoreModel", name := "isNewer", desc := "(II)Z" } : Jvm.MethodName)) ∈ WL := WL_of 543 (by decide +kernel) (by decide +kernel)
theorem ml_L_80 : (Jvm.Cond.methodLink "SaveRestoreLaw" (80 : Nat) ({ cls := "SaveRestoreModel", name := "state", desc := "(II)I" } : Jvm.MethodName)) ∈ WL := WL_of 547 (by decide +kernel) (by decide +kernel)
theorem ml_X4_96 : (Jvm.Cond.methodLink "SaveRestoreModel" (96 : Nat) ({ cls := "SaveRestoreModel", name := "isParameter", desc := "(I)Z" } : Jvm.MethodName)) ∈ WL := WL_of 551 (by decide +kernel) (by decide +kernel)
theorem ml_L_84 : (Jvm.Cond.methodLink "SaveRestoreLaw" (84 : Nat) ({ cls := "SaveRestoreModel", name := "stateOf", desc := "(I)I" } : Jvm.MethodName)) ∈ WL := WL_of 554 (by decide +kernel) (by decide +kernel)
theorem ml_L_87 : (Jvm.Cond.methodLink "SaveRestoreLaw" (87 : Nat) ({ cls := "SaveRestoreModel", name := "push", desc := "()I" } : Jvm.MethodName)) ∈ WL := WL_of 558 (by decide +kernel) (by decide +kernel)
theorem ml_X4_99 : (Jvm.Cond.methodLink "SaveRestoreModel" (99 : Nat) ({ cls := "SaveRestoreModel", name := "ownStates", desc := "()I" } : Jvm.MethodName)) ∈ WL := WL_of 562 (by decide +kernel) (by decide +kernel)
theorem ml_L_91 : (Jvm.Cond.methodLink "SaveRestoreLaw" (91 : Nat) ({ cls := "SaveRestoreModel", name := "pop", desc := "()I" } : Jvm.MethodName)) ∈ WL := WL_of 566 (by decide +kernel) (by decide +kernel)
theorem ml_L_94 : (Jvm.Cond.methodLink "SaveRestoreLaw" (94 : Nat) ({ cls := "SaveRestoreModel", name := "bytes", desc := "(III)I" } : Jvm.MethodName)) ∈ WL := WL_of 570 (by decide +kernel) (by decide +kernel)
theorem ml_L_98 : (Jvm.Cond.methodLink "SaveRestoreLaw" (98 : Nat) ({ cls := "SaveRestoreModel", name := "used", desc := "()I" } : Jvm.MethodName)) ∈ WL := WL_of 574 (by decide +kernel) (by decide +kernel)
theorem ml_L_101 : (Jvm.Cond.methodLink "SaveRestoreLaw" (101 : Nat) ({ cls := "SaveRestoreModel", name := "old", desc := "(I)I" } : Jvm.MethodName)) ∈ WL := WL_of 578 (by decide +kernel) (by decide +kernel)
theorem ml_L_105 : (Jvm.Cond.methodLink "SaveRestoreLaw" (105 : Nat) ({ cls := "SaveRestoreModel", name := "deepest", desc := "()I" } : Jvm.MethodName)) ∈ WL := WL_of 582 (by decide +kernel) (by decide +kernel)
