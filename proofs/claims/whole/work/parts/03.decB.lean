theorem dX11_init_0 : decode cX11_init 0 = .ok (.aload_n 0, 1) := by decide +kernel
theorem dX11_init_1 : decode cX11_init 1 = .ok (.invokespecial 1, 3) := by decide +kernel
theorem dX11_init_4 : decode cX11_init 4 = .ok (.aload_n 0, 1) := by decide +kernel
theorem dX11_init_5 : decode cX11_init 5 = .ok (.bipush 8, 2) := by decide +kernel
theorem dX11_init_7 : decode cX11_init 7 = .ok (.anewarray 7, 3) := by decide +kernel
theorem dX11_init_10 : decode cX11_init 10 = .ok (.dup, 1) := by decide +kernel
theorem dX11_init_11 : decode cX11_init 11 = .ok (.iconst 0, 1) := by decide +kernel
theorem dX11_init_12 : decode cX11_init 12 = .ok (.new 7, 3) := by decide +kernel
theorem dX11_init_15 : decode cX11_init 15 = .ok (.dup, 1) := by decide +kernel
theorem dX11_init_16 : decode cX11_init 16 = .ok (.invokespecial 9, 3) := by decide +kernel
theorem dX11_init_19 : decode cX11_init 19 = .ok (.aastore, 1) := by decide +kernel
theorem dX11_init_20 : decode cX11_init 20 = .ok (.dup, 1) := by decide +kernel
theorem dX11_init_21 : decode cX11_init 21 = .ok (.iconst 1, 1) := by decide +kernel
theorem dX11_init_22 : decode cX11_init 22 = .ok (.new 10, 3) := by decide +kernel
theorem dX11_init_25 : decode cX11_init 25 = .ok (.dup, 1) := by decide +kernel
theorem dX11_init_26 : decode cX11_init 26 = .ok (.invokespecial 12, 3) := by decide +kernel
theorem dX11_init_29 : decode cX11_init 29 = .ok (.aastore, 1) := by decide +kernel
theorem dX11_init_30 : decode cX11_init 30 = .ok (.dup, 1) := by decide +kernel
theorem dX11_init_31 : decode cX11_init 31 = .ok (.iconst 2, 1) := by decide +kernel
theorem dX11_init_32 : decode cX11_init 32 = .ok (.new 13, 3) := by decide +kernel
theorem dX11_init_35 : decode cX11_init 35 = .ok (.dup, 1) := by decide +kernel
theorem dX11_init_36 : decode cX11_init 36 = .ok (.invokespecial 15, 3) := by decide +kernel
theorem dX11_init_39 : decode cX11_init 39 = .ok (.aastore, 1) := by decide +kernel
theorem dX11_init_40 : decode cX11_init 40 = .ok (.dup, 1) := by decide +kernel
theorem dX11_init_41 : decode cX11_init 41 = .ok (.iconst 3, 1) := by decide +kernel
theorem dX11_init_42 : decode cX11_init 42 = .ok (.new 16, 3) := by decide +kernel
theorem dX11_init_45 : decode cX11_init 45 = .ok (.dup, 1) := by decide +kernel
theorem dX11_init_46 : decode cX11_init 46 = .ok (.invokespecial 18, 3) := by decide +kernel
theorem dX11_init_49 : decode cX11_init 49 = .ok (.aastore, 1) := by decide +kernel
theorem dX11_init_50 : decode cX11_init 50 = .ok (.dup, 1) := by decide +kernel
theorem dX11_init_51 : decode cX11_init 51 = .ok (.iconst 4, 1) := by decide +kernel
theorem dX11_init_52 : decode cX11_init 52 = .ok (.new 19, 3) := by decide +kernel
theorem dX11_init_55 : decode cX11_init 55 = .ok (.dup, 1) := by decide +kernel
theorem dX11_init_56 : decode cX11_init 56 = .ok (.invokespecial 21, 3) := by decide +kernel
theorem dX11_init_59 : decode cX11_init 59 = .ok (.aastore, 1) := by decide +kernel
theorem dX11_init_60 : decode cX11_init 60 = .ok (.dup, 1) := by decide +kernel
theorem dX11_init_61 : decode cX11_init 61 = .ok (.iconst 5, 1) := by decide +kernel
theorem dX11_init_62 : decode cX11_init 62 = .ok (.new 22, 3) := by decide +kernel
theorem dX11_init_65 : decode cX11_init 65 = .ok (.dup, 1) := by decide +kernel
theorem dX11_init_66 : decode cX11_init 66 = .ok (.invokespecial 24, 3) := by decide +kernel
theorem dX11_init_69 : decode cX11_init 69 = .ok (.aastore, 1) := by decide +kernel
theorem dX11_init_70 : decode cX11_init 70 = .ok (.dup, 1) := by decide +kernel
theorem dX11_init_71 : decode cX11_init 71 = .ok (.bipush 6, 2) := by decide +kernel
theorem dX11_init_73 : decode cX11_init 73 = .ok (.new 25, 3) := by decide +kernel
theorem dX11_init_76 : decode cX11_init 76 = .ok (.dup, 1) := by decide +kernel
theorem dX11_init_77 : decode cX11_init 77 = .ok (.invokespecial 27, 3) := by decide +kernel
theorem dX11_init_80 : decode cX11_init 80 = .ok (.aastore, 1) := by decide +kernel
theorem dX11_init_81 : decode cX11_init 81 = .ok (.dup, 1) := by decide +kernel
theorem dX11_init_82 : decode cX11_init 82 = .ok (.bipush 7, 2) := by decide +kernel
theorem dX11_init_84 : decode cX11_init 84 = .ok (.new 28, 3) := by decide +kernel
theorem dX11_init_87 : decode cX11_init 87 = .ok (.dup, 1) := by decide +kernel
theorem dX11_init_88 : decode cX11_init 88 = .ok (.invokespecial 30, 3) := by decide +kernel
theorem dX11_init_91 : decode cX11_init 91 = .ok (.aastore, 1) := by decide +kernel
theorem dX11_init_92 : decode cX11_init 92 = .ok (.putfield 31, 3) := by decide +kernel
theorem dX11_init_95 : decode cX11_init 95 = .ok (.aload_n 0, 1) := by decide +kernel
theorem dX11_init_96 : decode cX11_init 96 = .ok (.new 37, 3) := by decide +kernel
theorem dX11_init_99 : decode cX11_init 99 = .ok (.dup, 1) := by decide +kernel
theorem dX11_init_100 : decode cX11_init 100 = .ok (.aload_n 0, 1) := by decide +kernel
theorem dX11_init_101 : decode cX11_init 101 = .ok (.getfield 31, 3) := by decide +kernel
theorem dX11_init_104 : decode cX11_init 104 = .ok (.invokespecial 39, 3) := by decide +kernel
theorem dX11_init_107 : decode cX11_init 107 = .ok (.putfield 42, 3) := by decide +kernel
theorem dX11_init_110 : decode cX11_init 110 = .ok (.aload_n 0, 1) := by decide +kernel
theorem dX11_init_111 : decode cX11_init 111 = .ok (.new 37, 3) := by decide +kernel
theorem dX11_init_114 : decode cX11_init 114 = .ok (.dup, 1) := by decide +kernel
theorem dX11_init_115 : decode cX11_init 115 = .ok (.aload_n 0, 1) := by decide +kernel
theorem dX11_init_116 : decode cX11_init 116 = .ok (.getfield 31, 3) := by decide +kernel
theorem dX11_init_119 : decode cX11_init 119 = .ok (.invokespecial 39, 3) := by decide +kernel
theorem dX11_init_122 : decode cX11_init 122 = .ok (.putfield 46, 3) := by decide +kernel
theorem dX11_init_125 : decode cX11_init 125 = .ok (.aload_n 0, 1) := by decide +kernel
theorem dX11_init_126 : decode cX11_init 126 = .ok (.new 37, 3) := by decide +kernel
theorem dX11_init_129 : decode cX11_init 129 = .ok (.dup, 1) := by decide +kernel
theorem dX11_init_130 : decode cX11_init 130 = .ok (.aload_n 0, 1) := by decide +kernel
theorem dX11_init_131 : decode cX11_init 131 = .ok (.getfield 31, 3) := by decide +kernel
theorem dX11_init_134 : decode cX11_init 134 = .ok (.invokespecial 39, 3) := by decide +kernel
theorem dX11_init_137 : decode cX11_init 137 = .ok (.putfield 49, 3) := by decide +kernel
theorem dX11_init_140 : decode cX11_init 140 = .ok (.aload_n 0, 1) := by decide +kernel
theorem dX11_init_141 : decode cX11_init 141 = .ok (.iconst 0, 1) := by decide +kernel
theorem dX11_init_142 : decode cX11_init 142 = .ok (.putfield 52, 3) := by decide +kernel
theorem dX11_init_145 : decode cX11_init 145 = .ok (.aload_n 0, 1) := by decide +kernel
theorem dX11_init_146 : decode cX11_init 146 = .ok (.bipush 8, 2) := by decide +kernel
theorem dX11_init_148 : decode cX11_init 148 = .ok (.anewarray 56, 3) := by decide +kernel
theorem dX11_init_151 : decode cX11_init 151 = .ok (.putfield 58, 3) := by decide +kernel
theorem dX11_init_154 : decode cX11_init 154 = .ok (.iconst 0, 1) := by decide +kernel
theorem dX11_init_155 : decode cX11_init 155 = .ok (.istore_n 1, 1) := by decide +kernel
theorem dX11_init_156 : decode cX11_init 156 = .ok (.iload_n 1, 1) := by decide +kernel
theorem dX11_init_157 : decode cX11_init 157 = .ok (.bipush 8, 2) := by decide +kernel
theorem dX11_init_159 : decode cX11_init 159 = .ok (.if_icmp .ge 22, 3) := by decide +kernel
theorem dX11_init_162 : decode cX11_init 162 = .ok (.aload_n 0, 1) := by decide +kernel
theorem dX11_init_163 : decode cX11_init 163 = .ok (.getfield 58, 3) := by decide +kernel
theorem dX11_init_166 : decode cX11_init 166 = .ok (.iload_n 1, 1) := by decide +kernel
theorem dX11_init_167 : decode cX11_init 167 = .ok (.new 56, 3) := by decide +kernel
theorem dX11_init_170 : decode cX11_init 170 = .ok (.dup, 1) := by decide +kernel
theorem dX11_init_171 : decode cX11_init 171 = .ok (.invokespecial 62, 3) := by decide +kernel
theorem dX11_init_174 : decode cX11_init 174 = .ok (.aastore, 1) := by decide +kernel
theorem dX11_init_175 : decode cX11_init 175 = .ok (.iinc 1 1, 3) := by decide +kernel
theorem dX11_init_178 : decode cX11_init 178 = .ok (.goto (-22), 3) := by decide +kernel
theorem dX11_init_181 : decode cX11_init 181 = .ok (.aload_n 0, 1) := by decide +kernel
theorem dX11_init_182 : decode cX11_init 182 = .ok (.bipush 7, 2) := by decide +kernel
theorem dX11_init_184 : decode cX11_init 184 = .ok (.newarray .int, 2) := by decide +kernel
theorem dX11_init_186 : decode cX11_init 186 = .ok (.putfield 63, 3) := by decide +kernel
theorem dX11_init_189 : decode cX11_init 189 = .ok (.aload_n 0, 1) := by decide +kernel
theorem dX11_init_190 : decode cX11_init 190 = .ok (.bipush 64, 2) := by decide +kernel
theorem dX11_init_192 : decode cX11_init 192 = .ok (.newarray .int, 2) := by decide +kernel
theorem dX11_init_194 : decode cX11_init 194 = .ok (.putfield 67, 3) := by decide +kernel
theorem dX11_init_197 : decode cX11_init 197 = .ok (.return_, 1) := by decide +kernel
theorem dX11_road_0 : decode cX11_road 0 = .ok (.aload_n 0, 1) := by decide +kernel
theorem dX11_road_1 : decode cX11_road 1 = .ok (.iload_n 1, 1) := by decide +kernel
theorem dX11_road_2 : decode cX11_road 2 = .ok (.invokevirtual 70, 3) := by decide +kernel
theorem dX11_road_5 : decode cX11_road 5 = .ok (.istore_n 2, 1) := by decide +kernel
theorem dX11_road_6 : decode cX11_road 6 = .ok (.iload_n 2, 1) := by decide +kernel
theorem dX11_road_7 : decode cX11_road 7 = .ok (.ifCond .eq 5, 3) := by decide +kernel
theorem dX11_road_10 : decode cX11_road 10 = .ok (.iload_n 2, 1) := by decide +kernel
theorem dX11_road_11 : decode cX11_road 11 = .ok (.ireturn, 1) := by decide +kernel
theorem dX11_road_12 : decode cX11_road 12 = .ok (.aload_n 0, 1) := by decide +kernel
theorem dX11_road_13 : decode cX11_road 13 = .ok (.getfield 58, 3) := by decide +kernel
theorem dX11_road_16 : decode cX11_road 16 = .ok (.iload_n 1, 1) := by decide +kernel
theorem dX11_road_17 : decode cX11_road 17 = .ok (.aaload, 1) := by decide +kernel
theorem dX11_road_18 : decode cX11_road 18 = .ok (.astore_n 3, 1) := by decide +kernel
theorem dX11_road_19 : decode cX11_road 19 = .ok (.aload_n 3, 1) := by decide +kernel
theorem dX11_road_20 : decode cX11_road 20 = .ok (.getfield 74, 3) := by decide +kernel
theorem dX11_road_23 : decode cX11_road 23 = .ok (.ifCond .eq 6, 3) := by decide +kernel
theorem dX11_road_26 : decode cX11_road 26 = .ok (.bipush (-12), 2) := by decide +kernel
theorem dX11_road_28 : decode cX11_road 28 = .ok (.ireturn, 1) := by decide +kernel
theorem dX11_road_29 : decode cX11_road 29 = .ok (.aload_n 3, 1) := by decide +kernel
theorem dX11_road_30 : decode cX11_road 30 = .ok (.invokestatic 78, 3) := by decide +kernel
theorem dX11_road_33 : decode cX11_road 33 = .ok (.istore 4, 2) := by decide +kernel
theorem dX11_road_35 : decode cX11_road 35 = .ok (.iload 4, 2) := by decide +kernel
theorem dX11_road_37 : decode cX11_road 37 = .ok (.ifCond .lt 10, 3) := by decide +kernel
theorem dX11_road_40 : decode cX11_road 40 = .ok (.sipush (-1000), 3) := by decide +kernel
theorem dX11_road_43 : decode cX11_road 43 = .ok (.iload 4, 2) := by decide +kernel
theorem dX11_road_45 : decode cX11_road 45 = .ok (.isub, 1) := by decide +kernel
theorem dX11_road_46 : decode cX11_road 46 = .ok (.ireturn, 1) := by decide +kernel
theorem dX11_road_47 : decode cX11_road 47 = .ok (.aload_n 0, 1) := by decide +kernel
theorem dX11_road_48 : decode cX11_road 48 = .ok (.getfield 46, 3) := by decide +kernel
theorem dX11_road_51 : decode cX11_road 51 = .ok (.aload_n 0, 1) := by decide +kernel
theorem dX11_road_52 : decode cX11_road 52 = .ok (.getfield 42, 3) := by decide +kernel
theorem dX11_road_55 : decode cX11_road 55 = .ok (.invokevirtual 84, 3) := by decide +kernel
theorem dX11_road_58 : decode cX11_road 58 = .ok (.aload_n 3, 1) := by decide +kernel
theorem dX11_road_59 : decode cX11_road 59 = .ok (.aload_n 0, 1) := by decide +kernel
theorem dX11_road_60 : decode cX11_road 60 = .ok (.getfield 46, 3) := by decide +kernel
theorem dX11_road_63 : decode cX11_road 63 = .ok (.invokestatic 88, 3) := by decide +kernel
theorem dX11_road_66 : decode cX11_road 66 = .ok (.istore 5, 2) := by decide +kernel
theorem dX11_road_68 : decode cX11_road 68 = .ok (.iload 5, 2) := by decide +kernel
theorem dX11_road_70 : decode cX11_road 70 = .ok (.ifCond .lt 14, 3) := by decide +kernel
theorem dX11_road_73 : decode cX11_road 73 = .ok (.aload_n 0, 1) := by decide +kernel
theorem dX11_road_74 : decode cX11_road 74 = .ok (.getfield 42, 3) := by decide +kernel
theorem dX11_road_77 : decode cX11_road 77 = .ok (.aload_n 0, 1) := by decide +kernel
theorem dX11_road_78 : decode cX11_road 78 = .ok (.getfield 46, 3) := by decide +kernel
theorem dX11_road_81 : decode cX11_road 81 = .ok (.invokevirtual 84, 3) := by decide +kernel
theorem dX11_road_84 : decode cX11_road 84 = .ok (.iload 5, 2) := by decide +kernel
theorem dX11_road_86 : decode cX11_road 86 = .ok (.ireturn, 1) := by decide +kernel
theorem dX11_part_0 : decode cX11_part 0 = .ok (.aload_n 0, 1) := by decide +kernel
theorem dX11_part_1 : decode cX11_part 1 = .ok (.getfield 42, 3) := by decide +kernel
theorem dX11_part_4 : decode cX11_part 4 = .ok (.iload_n 1, 1) := by decide +kernel
theorem dX11_part_5 : decode cX11_part 5 = .ok (.invokevirtual 92, 3) := by decide +kernel
theorem dX11_part_8 : decode cX11_part 8 = .ok (.ifCond .ne 5, 3) := by decide +kernel
theorem dX11_part_11 : decode cX11_part 11 = .ok (.iconst (-1), 1) := by decide +kernel
theorem dX11_part_12 : decode cX11_part 12 = .ok (.ireturn, 1) := by decide +kernel
theorem dX11_part_13 : decode cX11_part 13 = .ok (.iload_n 2, 1) := by decide +kernel
theorem dX11_part_14 : decode cX11_part 14 = .ok (.tableswitch 123 0 7 #[46, 56, 66, 76, 86, 96, 105, 114], 46) := by decide +kernel
theorem dX11_part_60 : decode cX11_part 60 = .ok (.aload_n 0, 1) := by decide +kernel
theorem dX11_part_61 : decode cX11_part 61 = .ok (.getfield 42, 3) := by decide +kernel
theorem dX11_part_64 : decode cX11_part 64 = .ok (.getfield 96, 3) := by decide +kernel
theorem dX11_part_67 : decode cX11_part 67 = .ok (.iload_n 1, 1) := by decide +kernel
theorem dX11_part_68 : decode cX11_part 68 = .ok (.iaload, 1) := by decide +kernel
theorem dX11_part_69 : decode cX11_part 69 = .ok (.ireturn, 1) := by decide +kernel
theorem dX11_part_70 : decode cX11_part 70 = .ok (.aload_n 0, 1) := by decide +kernel
theorem dX11_part_71 : decode cX11_part 71 = .ok (.getfield 42, 3) := by decide +kernel
theorem dX11_part_74 : decode cX11_part 74 = .ok (.getfield 99, 3) := by decide +kernel
theorem dX11_part_77 : decode cX11_part 77 = .ok (.iload_n 1, 1) := by decide +kernel
theorem dX11_part_78 : decode cX11_part 78 = .ok (.iaload, 1) := by decide +kernel
theorem dX11_part_79 : decode cX11_part 79 = .ok (.ireturn, 1) := by decide +kernel
theorem dX11_part_80 : decode cX11_part 80 = .ok (.aload_n 0, 1) := by decide +kernel
theorem dX11_part_81 : decode cX11_part 81 = .ok (.getfield 42, 3) := by decide +kernel
theorem dX11_part_84 : decode cX11_part 84 = .ok (.getfield 102, 3) := by decide +kernel
theorem dX11_part_87 : decode cX11_part 87 = .ok (.iload_n 1, 1) := by decide +kernel
theorem dX11_part_88 : decode cX11_part 88 = .ok (.iaload, 1) := by decide +kernel
theorem dX11_part_89 : decode cX11_part 89 = .ok (.ireturn, 1) := by decide +kernel
theorem dX11_part_90 : decode cX11_part 90 = .ok (.aload_n 0, 1) := by decide +kernel
theorem dX11_part_91 : decode cX11_part 91 = .ok (.getfield 42, 3) := by decide +kernel
theorem dX11_part_94 : decode cX11_part 94 = .ok (.getfield 105, 3) := by decide +kernel
theorem dX11_part_97 : decode cX11_part 97 = .ok (.iload_n 1, 1) := by decide +kernel
theorem dX11_part_98 : decode cX11_part 98 = .ok (.iaload, 1) := by decide +kernel
theorem dX11_part_99 : decode cX11_part 99 = .ok (.ireturn, 1) := by decide +kernel
theorem dX11_part_100 : decode cX11_part 100 = .ok (.aload_n 0, 1) := by decide +kernel
theorem dX11_part_101 : decode cX11_part 101 = .ok (.getfield 42, 3) := by decide +kernel
theorem dX11_part_104 : decode cX11_part 104 = .ok (.getfield 108, 3) := by decide +kernel
theorem dX11_part_107 : decode cX11_part 107 = .ok (.iload_n 1, 1) := by decide +kernel
theorem dX11_part_108 : decode cX11_part 108 = .ok (.iaload, 1) := by decide +kernel
theorem dX11_part_109 : decode cX11_part 109 = .ok (.ireturn, 1) := by decide +kernel
theorem dX11_part_110 : decode cX11_part 110 = .ok (.aload_n 0, 1) := by decide +kernel
theorem dX11_part_111 : decode cX11_part 111 = .ok (.getfield 42, 3) := by decide +kernel
theorem dX11_part_114 : decode cX11_part 114 = .ok (.iload_n 1, 1) := by decide +kernel
theorem dX11_part_115 : decode cX11_part 115 = .ok (.invokevirtual 111, 3) := by decide +kernel
theorem dX11_part_118 : decode cX11_part 118 = .ok (.ireturn, 1) := by decide +kernel
theorem dX11_part_119 : decode cX11_part 119 = .ok (.aload_n 0, 1) := by decide +kernel
theorem dX11_part_120 : decode cX11_part 120 = .ok (.getfield 42, 3) := by decide +kernel
theorem dX11_part_123 : decode cX11_part 123 = .ok (.iload_n 1, 1) := by decide +kernel
theorem dX11_part_124 : decode cX11_part 124 = .ok (.invokevirtual 114, 3) := by decide +kernel
theorem dX11_part_127 : decode cX11_part 127 = .ok (.ireturn, 1) := by decide +kernel
theorem dX11_part_128 : decode cX11_part 128 = .ok (.aload_n 0, 1) := by decide +kernel
theorem dX11_part_129 : decode cX11_part 129 = .ok (.getfield 42, 3) := by decide +kernel
theorem dX11_part_132 : decode cX11_part 132 = .ok (.iload_n 1, 1) := by decide +kernel
theorem dX11_part_133 : decode cX11_part 133 = .ok (.invokevirtual 117, 3) := by decide +kernel
theorem dX11_part_136 : decode cX11_part 136 = .ok (.ireturn, 1) := by decide +kernel
theorem dX11_part_137 : decode cX11_part 137 = .ok (.iconst (-1), 1) := by decide +kernel
theorem dX11_part_138 : decode cX11_part 138 = .ok (.ireturn, 1) := by decide +kernel
theorem dX11_adds_0 : decode cX11_adds 0 = .ok (.iload_n 1, 1) := by decide +kernel
theorem dX11_adds_1 : decode cX11_adds 1 = .ok (.invokestatic 120, 3) := by decide +kernel
theorem dX11_adds_4 : decode cX11_adds 4 = .ok (.ifCond .eq 20, 3) := by decide +kernel
theorem dX11_adds_7 : decode cX11_adds 7 = .ok (.iload_n 2, 1) := by decide +kernel
theorem dX11_adds_8 : decode cX11_adds 8 = .ok (.invokestatic 123, 3) := by decide +kernel
theorem dX11_adds_11 : decode cX11_adds 11 = .ok (.ifCond .eq 13, 3) := by decide +kernel
theorem dX11_adds_14 : decode cX11_adds 14 = .ok (.iload_n 3, 1) := by decide +kernel
theorem dX11_adds_15 : decode cX11_adds 15 = .ok (.iconst 1, 1) := by decide +kernel
theorem dX11_adds_16 : decode cX11_adds 16 = .ok (.bipush 9, 2) := by decide +kernel
theorem dX11_adds_18 : decode cX11_adds 18 = .ok (.invokestatic 126, 3) := by decide +kernel
theorem dX11_adds_21 : decode cX11_adds 21 = .ok (.ifCond .ne 5, 3) := by decide +kernel
theorem dX11_adds_24 : decode cX11_adds 24 = .ok (.iconst (-1), 1) := by decide +kernel
theorem dX11_adds_25 : decode cX11_adds 25 = .ok (.ireturn, 1) := by decide +kernel
theorem dX11_adds_26 : decode cX11_adds 26 = .ok (.aload_n 0, 1) := by decide +kernel
theorem dX11_adds_27 : decode cX11_adds 27 = .ok (.getfield 58, 3) := by decide +kernel
theorem dX11_adds_30 : decode cX11_adds 30 = .ok (.iload_n 1, 1) := by decide +kernel
theorem dX11_adds_31 : decode cX11_adds 31 = .ok (.aaload, 1) := by decide +kernel
theorem dX11_adds_32 : decode cX11_adds 32 = .ok (.invokevirtual 130, 3) := by decide +kernel
theorem dX11_adds_35 : decode cX11_adds 35 = .ok (.istore 4, 2) := by decide +kernel
theorem dX11_adds_37 : decode cX11_adds 37 = .ok (.iload 4, 2) := by decide +kernel
theorem dX11_adds_39 : decode cX11_adds 39 = .ok (.ifCond .eq 6, 3) := by decide +kernel
theorem dX11_adds_42 : decode cX11_adds 42 = .ok (.iload 4, 2) := by decide +kernel
theorem dX11_adds_44 : decode cX11_adds 44 = .ok (.ireturn, 1) := by decide +kernel
theorem dX11_adds_45 : decode cX11_adds 45 = .ok (.aload_n 0, 1) := by decide +kernel
theorem dX11_adds_46 : decode cX11_adds 46 = .ok (.getfield 42, 3) := by decide +kernel
theorem dX11_adds_49 : decode cX11_adds 49 = .ok (.aload_n 0, 1) := by decide +kernel
theorem dX11_adds_50 : decode cX11_adds 50 = .ok (.getfield 58, 3) := by decide +kernel
theorem dX11_adds_53 : decode cX11_adds 53 = .ok (.iload_n 1, 1) := by decide +kernel
theorem dX11_adds_54 : decode cX11_adds 54 = .ok (.aaload, 1) := by decide +kernel
theorem dX11_adds_55 : decode cX11_adds 55 = .ok (.getfield 134, 3) := by decide +kernel
theorem dX11_adds_58 : decode cX11_adds 58 = .ok (.aload_n 0, 1) := by decide +kernel
theorem dX11_adds_59 : decode cX11_adds 59 = .ok (.getfield 58, 3) := by decide +kernel
theorem dX11_adds_62 : decode cX11_adds 62 = .ok (.iload_n 1, 1) := by decide +kernel
theorem dX11_adds_63 : decode cX11_adds 63 = .ok (.aaload, 1) := by decide +kernel
theorem dX11_adds_64 : decode cX11_adds 64 = .ok (.getfield 136, 3) := by decide +kernel
theorem dX11_adds_67 : decode cX11_adds 67 = .ok (.iload_n 2, 1) := by decide +kernel
theorem dX11_adds_68 : decode cX11_adds 68 = .ok (.iload_n 3, 1) := by decide +kernel
theorem dX11_adds_69 : decode cX11_adds 69 = .ok (.invokevirtual 138, 3) := by decide +kernel
theorem dX11_adds_72 : decode cX11_adds 72 = .ok (.ireturn, 1) := by decide +kernel
theorem dX11_holds_0 : decode cX11_holds 0 = .ok (.aload_n 0, 1) := by decide +kernel
theorem dX11_holds_1 : decode cX11_holds 1 = .ok (.getfield 42, 3) := by decide +kernel
theorem dX11_holds_4 : decode cX11_holds 4 = .ok (.iload_n 1, 1) := by decide +kernel
theorem dX11_holds_5 : decode cX11_holds 5 = .ok (.invokevirtual 142, 3) := by decide +kernel
theorem dX11_holds_8 : decode cX11_holds 8 = .ok (.ireturn, 1) := by decide +kernel
theorem dX11_wedges_0 : decode cX11_wedges 0 = .ok (.aload_n 0, 1) := by decide +kernel
theorem dX11_wedges_1 : decode cX11_wedges 1 = .ok (.getfield 42, 3) := by decide +kernel
theorem dX11_wedges_4 : decode cX11_wedges 4 = .ok (.iload_n 1, 1) := by decide +kernel
theorem dX11_wedges_5 : decode cX11_wedges 5 = .ok (.invokevirtual 145, 3) := by decide +kernel
theorem dX11_wedges_8 : decode cX11_wedges 8 = .ok (.ireturn, 1) := by decide +kernel
theorem dX11_outs_0 : decode cX11_outs 0 = .ok (.aload_n 0, 1) := by decide +kernel
theorem dX11_outs_1 : decode cX11_outs 1 = .ok (.getfield 42, 3) := by decide +kernel
theorem dX11_outs_4 : decode cX11_outs 4 = .ok (.iload_n 1, 1) := by decide +kernel
theorem dX11_outs_5 : decode cX11_outs 5 = .ok (.invokevirtual 148, 3) := by decide +kernel
theorem dX11_outs_8 : decode cX11_outs 8 = .ok (.ireturn, 1) := by decide +kernel
theorem dX11_screws_0 : decode cX11_screws 0 = .ok (.aload_n 0, 1) := by decide +kernel
theorem dX11_screws_1 : decode cX11_screws 1 = .ok (.getfield 42, 3) := by decide +kernel
theorem dX11_screws_4 : decode cX11_screws 4 = .ok (.iload_n 1, 1) := by decide +kernel
theorem dX11_screws_5 : decode cX11_screws 5 = .ok (.invokevirtual 151, 3) := by decide +kernel
theorem dX11_screws_8 : decode cX11_screws 8 = .ok (.ireturn, 1) := by decide +kernel
theorem dX11_set_0 : decode cX11_set 0 = .ok (.aload_n 0, 1) := by decide +kernel
theorem dX11_set_1 : decode cX11_set 1 = .ok (.getfield 42, 3) := by decide +kernel
theorem dX11_set_4 : decode cX11_set 4 = .ok (.iload_n 1, 1) := by decide +kernel
theorem dX11_set_5 : decode cX11_set 5 = .ok (.iload_n 2, 1) := by decide +kernel
theorem dX11_set_6 : decode cX11_set 6 = .ok (.invokevirtual 154, 3) := by decide +kernel
theorem dX11_set_9 : decode cX11_set 9 = .ok (.ireturn, 1) := by decide +kernel
theorem dX11_drives_0 : decode cX11_drives 0 = .ok (.aload_n 0, 1) := by decide +kernel
theorem dX11_drives_1 : decode cX11_drives 1 = .ok (.getfield 42, 3) := by decide +kernel
theorem dX11_drives_4 : decode cX11_drives 4 = .ok (.iconst 0, 1) := by decide +kernel
theorem dX11_drives_5 : decode cX11_drives 5 = .ok (.invokevirtual 158, 3) := by decide +kernel
theorem dX11_drives_8 : decode cX11_drives 8 = .ok (.istore_n 2, 1) := by decide +kernel
theorem dX11_drives_9 : decode cX11_drives 9 = .ok (.aload_n 0, 1) := by decide +kernel
theorem dX11_drives_10 : decode cX11_drives 10 = .ok (.getfield 42, 3) := by decide +kernel
theorem dX11_drives_13 : decode cX11_drives 13 = .ok (.iload_n 1, 1) := by decide +kernel
theorem dX11_drives_14 : decode cX11_drives 14 = .ok (.invokevirtual 161, 3) := by decide +kernel
theorem dX11_drives_17 : decode cX11_drives 17 = .ok (.istore_n 3, 1) := by decide +kernel
theorem dX11_drives_18 : decode cX11_drives 18 = .ok (.iload_n 3, 1) := by decide +kernel
theorem dX11_drives_19 : decode cX11_drives 19 = .ok (.ifCond .eq 7, 3) := by decide +kernel
theorem dX11_drives_22 : decode cX11_drives 22 = .ok (.iload_n 3, 1) := by decide +kernel
theorem dX11_drives_23 : decode cX11_drives 23 = .ok (.goto 4, 3) := by decide +kernel
theorem dX11_drives_26 : decode cX11_drives 26 = .ok (.iload_n 2, 1) := by decide +kernel
theorem dX11_drives_27 : decode cX11_drives 27 = .ok (.ireturn, 1) := by decide +kernel
theorem dX11_heard_0 : decode cX11_heard 0 = .ok (.iload_n 1, 1) := by decide +kernel
theorem dX11_heard_1 : decode cX11_heard 1 = .ok (.invokestatic 123, 3) := by decide +kernel
theorem dX11_heard_4 : decode cX11_heard 4 = .ok (.ifCond .eq 10, 3) := by decide +kernel
theorem dX11_heard_7 : decode cX11_heard 7 = .ok (.iload_n 2, 1) := by decide +kernel
theorem dX11_heard_8 : decode cX11_heard 8 = .ok (.invokestatic 164, 3) := by decide +kernel
theorem dX11_heard_11 : decode cX11_heard 11 = .ok (.ifCond .ne 5, 3) := by decide +kernel
theorem dX11_heard_14 : decode cX11_heard 14 = .ok (.iconst (-1), 1) := by decide +kernel
theorem dX11_heard_15 : decode cX11_heard 15 = .ok (.ireturn, 1) := by decide +kernel
theorem dX11_heard_16 : decode cX11_heard 16 = .ok (.aload_n 0, 1) := by decide +kernel
theorem dX11_heard_17 : decode cX11_heard 17 = .ok (.getfield 42, 3) := by decide +kernel
theorem dX11_heard_20 : decode cX11_heard 20 = .ok (.iload_n 1, 1) := by decide +kernel
theorem dX11_heard_21 : decode cX11_heard 21 = .ok (.iload_n 2, 1) := by decide +kernel
theorem dX11_heard_22 : decode cX11_heard 22 = .ok (.invokevirtual 167, 3) := by decide +kernel
theorem dX11_heard_25 : decode cX11_heard 25 = .ok (.ireturn, 1) := by decide +kernel
theorem dX11_loudest_0 : decode cX11_loudest 0 = .ok (.iload_n 1, 1) := by decide +kernel
theorem dX11_loudest_1 : decode cX11_loudest 1 = .ok (.invokestatic 123, 3) := by decide +kernel
theorem dX11_loudest_4 : decode cX11_loudest 4 = .ok (.ifCond .eq 14, 3) := by decide +kernel
theorem dX11_loudest_7 : decode cX11_loudest 7 = .ok (.aload_n 0, 1) := by decide +kernel
theorem dX11_loudest_8 : decode cX11_loudest 8 = .ok (.getfield 42, 3) := by decide +kernel
theorem dX11_loudest_11 : decode cX11_loudest 11 = .ok (.iload_n 1, 1) := by decide +kernel
theorem dX11_loudest_12 : decode cX11_loudest 12 = .ok (.invokevirtual 170, 3) := by decide +kernel
theorem dX11_loudest_15 : decode cX11_loudest 15 = .ok (.goto 4, 3) := by decide +kernel
theorem dX11_loudest_18 : decode cX11_loudest 18 = .ok (.iconst (-1), 1) := by decide +kernel
theorem dX11_loudest_19 : decode cX11_loudest 19 = .ok (.ireturn, 1) := by decide +kernel
theorem dX11_paces_0 : decode cX11_paces 0 = .ok (.iload_n 1, 1) := by decide +kernel
theorem dX11_paces_1 : decode cX11_paces 1 = .ok (.invokestatic 123, 3) := by decide +kernel
theorem dX11_paces_4 : decode cX11_paces 4 = .ok (.ifCond .eq 12, 3) := by decide +kernel
theorem dX11_paces_7 : decode cX11_paces 7 = .ok (.iload_n 2, 1) := by decide +kernel
theorem dX11_paces_8 : decode cX11_paces 8 = .ok (.iconst 0, 1) := by decide +kernel
theorem dX11_paces_9 : decode cX11_paces 9 = .ok (.iconst 2, 1) := by decide +kernel
theorem dX11_paces_10 : decode cX11_paces 10 = .ok (.invokestatic 126, 3) := by decide +kernel
theorem dX11_paces_13 : decode cX11_paces 13 = .ok (.ifCond .ne 5, 3) := by decide +kernel
theorem dX11_paces_16 : decode cX11_paces 16 = .ok (.iconst (-1), 1) := by decide +kernel
theorem dX11_paces_17 : decode cX11_paces 17 = .ok (.ireturn, 1) := by decide +kernel
theorem dX11_paces_18 : decode cX11_paces 18 = .ok (.iconst 0, 1) := by decide +kernel
theorem dX11_paces_19 : decode cX11_paces 19 = .ok (.istore_n 3, 1) := by decide +kernel
theorem dX11_paces_20 : decode cX11_paces 20 = .ok (.bipush (-4), 2) := by decide +kernel
theorem dX11_paces_22 : decode cX11_paces 22 = .ok (.istore 4, 2) := by decide +kernel
theorem dX11_paces_24 : decode cX11_paces 24 = .ok (.bipush (-4), 2) := by decide +kernel
theorem dX11_paces_26 : decode cX11_paces 26 = .ok (.istore 5, 2) := by decide +kernel
theorem dX11_paces_28 : decode cX11_paces 28 = .ok (.iconst 0, 1) := by decide +kernel
theorem dX11_paces_29 : decode cX11_paces 29 = .ok (.istore 6, 2) := by decide +kernel
theorem dX11_paces_31 : decode cX11_paces 31 = .ok (.iload 6, 2) := by decide +kernel
theorem dX11_paces_33 : decode cX11_paces 33 = .ok (.bipush 100, 2) := by decide +kernel
theorem dX11_paces_35 : decode cX11_paces 35 = .ok (.if_icmp .ge 45, 3) := by decide +kernel
theorem dX11_paces_38 : decode cX11_paces 38 = .ok (.aload_n 0, 1) := by decide +kernel
theorem dX11_paces_39 : decode cX11_paces 39 = .ok (.getfield 42, 3) := by decide +kernel
theorem dX11_paces_42 : decode cX11_paces 42 = .ok (.iload_n 1, 1) := by decide +kernel
theorem dX11_paces_43 : decode cX11_paces 43 = .ok (.iload 6, 2) := by decide +kernel
theorem dX11_paces_45 : decode cX11_paces 45 = .ok (.invokevirtual 167, 3) := by decide +kernel
theorem dX11_paces_48 : decode cX11_paces 48 = .ok (.ifCond .le 26, 3) := by decide +kernel
theorem dX11_paces_51 : decode cX11_paces 51 = .ok (.iinc 3 1, 3) := by decide +kernel
theorem dX11_paces_54 : decode cX11_paces 54 = .ok (.iload 4, 2) := by decide +kernel
theorem dX11_paces_56 : decode cX11_paces 56 = .ok (.bipush (-4), 2) := by decide +kernel
theorem dX11_paces_58 : decode cX11_paces 58 = .ok (.if_icmp .ne 8, 3) := by decide +kernel
theorem dX11_paces_61 : decode cX11_paces 61 = .ok (.iload 6, 2) := by decide +kernel
theorem dX11_paces_63 : decode cX11_paces 63 = .ok (.goto 5, 3) := by decide +kernel
theorem dX11_paces_66 : decode cX11_paces 66 = .ok (.iload 4, 2) := by decide +kernel
theorem dX11_paces_68 : decode cX11_paces 68 = .ok (.istore 4, 2) := by decide +kernel
theorem dX11_paces_70 : decode cX11_paces 70 = .ok (.iload 6, 2) := by decide +kernel
theorem dX11_paces_72 : decode cX11_paces 72 = .ok (.istore 5, 2) := by decide +kernel
theorem dX11_paces_74 : decode cX11_paces 74 = .ok (.iinc 6 1, 3) := by decide +kernel
theorem dX11_paces_77 : decode cX11_paces 77 = .ok (.goto (-46), 3) := by decide +kernel
theorem dX11_paces_80 : decode cX11_paces 80 = .ok (.iload_n 2, 1) := by decide +kernel
theorem dX11_paces_81 : decode cX11_paces 81 = .ok (.ifCond .ne 7, 3) := by decide +kernel
theorem dX11_paces_84 : decode cX11_paces 84 = .ok (.iload_n 3, 1) := by decide +kernel
theorem dX11_paces_85 : decode cX11_paces 85 = .ok (.goto 15, 3) := by decide +kernel
theorem dX11_paces_88 : decode cX11_paces 88 = .ok (.iload_n 2, 1) := by decide +kernel
theorem dX11_paces_89 : decode cX11_paces 89 = .ok (.iconst 1, 1) := by decide +kernel
theorem dX11_paces_90 : decode cX11_paces 90 = .ok (.if_icmp .ne 8, 3) := by decide +kernel
theorem dX11_paces_93 : decode cX11_paces 93 = .ok (.iload 4, 2) := by decide +kernel
theorem dX11_paces_95 : decode cX11_paces 95 = .ok (.goto 5, 3) := by decide +kernel
theorem dX11_paces_98 : decode cX11_paces 98 = .ok (.iload 5, 2) := by decide +kernel
theorem dX11_paces_100 : decode cX11_paces 100 = .ok (.ireturn, 1) := by decide +kernel
theorem dX11_silentFrom_0 : decode cX11_silentFrom 0 = .ok (.iload_n 1, 1) := by decide +kernel
theorem dX11_silentFrom_1 : decode cX11_silentFrom 1 = .ok (.invokestatic 123, 3) := by decide +kernel
theorem dX11_silentFrom_4 : decode cX11_silentFrom 4 = .ok (.ifCond .eq 10, 3) := by decide +kernel
theorem dX11_silentFrom_7 : decode cX11_silentFrom 7 = .ok (.iload_n 2, 1) := by decide +kernel
theorem dX11_silentFrom_8 : decode cX11_silentFrom 8 = .ok (.invokestatic 164, 3) := by decide +kernel
theorem dX11_silentFrom_11 : decode cX11_silentFrom 11 = .ok (.ifCond .ne 5, 3) := by decide +kernel
theorem dX11_silentFrom_14 : decode cX11_silentFrom 14 = .ok (.iconst (-1), 1) := by decide +kernel
theorem dX11_silentFrom_15 : decode cX11_silentFrom 15 = .ok (.ireturn, 1) := by decide +kernel
theorem dX11_silentFrom_16 : decode cX11_silentFrom 16 = .ok (.iload_n 2, 1) := by decide +kernel
theorem dX11_silentFrom_17 : decode cX11_silentFrom 17 = .ok (.istore_n 3, 1) := by decide +kernel
theorem dX11_silentFrom_18 : decode cX11_silentFrom 18 = .ok (.iload_n 3, 1) := by decide +kernel
theorem dX11_silentFrom_19 : decode cX11_silentFrom 19 = .ok (.bipush 100, 2) := by decide +kernel
theorem dX11_silentFrom_21 : decode cX11_silentFrom 21 = .ok (.if_icmp .ge 23, 3) := by decide +kernel
theorem dX11_silentFrom_24 : decode cX11_silentFrom 24 = .ok (.aload_n 0, 1) := by decide +kernel
theorem dX11_silentFrom_25 : decode cX11_silentFrom 25 = .ok (.getfield 42, 3) := by decide +kernel
theorem dX11_silentFrom_28 : decode cX11_silentFrom 28 = .ok (.iload_n 1, 1) := by decide +kernel
theorem dX11_silentFrom_29 : decode cX11_silentFrom 29 = .ok (.iload_n 3, 1) := by decide +kernel
theorem dX11_silentFrom_30 : decode cX11_silentFrom 30 = .ok (.invokevirtual 167, 3) := by decide +kernel
theorem dX11_silentFrom_33 : decode cX11_silentFrom 33 = .ok (.ifCond .ne 5, 3) := by decide +kernel
theorem dX11_silentFrom_36 : decode cX11_silentFrom 36 = .ok (.iload_n 3, 1) := by decide +kernel
theorem dX11_silentFrom_37 : decode cX11_silentFrom 37 = .ok (.ireturn, 1) := by decide +kernel
theorem dX11_silentFrom_38 : decode cX11_silentFrom 38 = .ok (.iinc 3 1, 3) := by decide +kernel
theorem dX11_silentFrom_41 : decode cX11_silentFrom 41 = .ok (.goto (-23), 3) := by decide +kernel
theorem dX11_silentFrom_44 : decode cX11_silentFrom 44 = .ok (.bipush (-4), 2) := by decide +kernel
theorem dX11_silentFrom_46 : decode cX11_silentFrom 46 = .ok (.ireturn, 1) := by decide +kernel
theorem dX11_holdAll_0 : decode cX11_holdAll 0 = .ok (.iload_n 1, 1) := by decide +kernel
theorem dX11_holdAll_1 : decode cX11_holdAll 1 = .ok (.invokestatic 173, 3) := by decide +kernel
theorem dX11_holdAll_4 : decode cX11_holdAll 4 = .ok (.ifCond .ne 5, 3) := by decide +kernel
theorem dX11_holdAll_7 : decode cX11_holdAll 7 = .ok (.iconst (-1), 1) := by decide +kernel
theorem dX11_holdAll_8 : decode cX11_holdAll 8 = .ok (.ireturn, 1) := by decide +kernel
theorem dX11_holdAll_9 : decode cX11_holdAll 9 = .ok (.aload_n 0, 1) := by decide +kernel
theorem dX11_holdAll_10 : decode cX11_holdAll 10 = .ok (.getfield 42, 3) := by decide +kernel
theorem dX11_holdAll_13 : decode cX11_holdAll 13 = .ok (.invokevirtual 176, 3) := by decide +kernel
theorem dX11_holdAll_16 : decode cX11_holdAll 16 = .ok (.istore_n 2, 1) := by decide +kernel
theorem dX11_holdAll_17 : decode cX11_holdAll 17 = .ok (.iload_n 1, 1) := by decide +kernel
theorem dX11_holdAll_18 : decode cX11_holdAll 18 = .ok (.ifCond .ne 7, 3) := by decide +kernel
theorem dX11_holdAll_21 : decode cX11_holdAll 21 = .ok (.iload_n 2, 1) := by decide +kernel
theorem dX11_holdAll_22 : decode cX11_holdAll 22 = .ok (.goto 11, 3) := by decide +kernel
theorem dX11_holdAll_25 : decode cX11_holdAll 25 = .ok (.aload_n 0, 1) := by decide +kernel
theorem dX11_holdAll_26 : decode cX11_holdAll 26 = .ok (.getfield 42, 3) := by decide +kernel
theorem dX11_holdAll_29 : decode cX11_holdAll 29 = .ok (.iload_n 2, 1) := by decide +kernel
theorem dX11_holdAll_30 : decode cX11_holdAll 30 = .ok (.invokevirtual 179, 3) := by decide +kernel
theorem dX11_holdAll_33 : decode cX11_holdAll 33 = .ok (.ireturn, 1) := by decide +kernel
theorem dX11_radio_0 : decode cX11_radio 0 = .ok (.iload_n 1, 1) := by decide +kernel
theorem dX11_radio_1 : decode cX11_radio 1 = .ok (.invokestatic 123, 3) := by decide +kernel
theorem dX11_radio_4 : decode cX11_radio 4 = .ok (.ifCond .ne 5, 3) := by decide +kernel
theorem dX11_radio_7 : decode cX11_radio 7 = .ok (.iconst (-1), 1) := by decide +kernel
theorem dX11_radio_8 : decode cX11_radio 8 = .ok (.ireturn, 1) := by decide +kernel
theorem dX11_radio_9 : decode cX11_radio 9 = .ok (.aload_n 0, 1) := by decide +kernel
theorem dX11_radio_10 : decode cX11_radio 10 = .ok (.getfield 42, 3) := by decide +kernel
theorem dX11_radio_13 : decode cX11_radio 13 = .ok (.iconst 0, 1) := by decide +kernel
theorem dX11_radio_14 : decode cX11_radio 14 = .ok (.iload_n 1, 1) := by decide +kernel
theorem dX11_radio_15 : decode cX11_radio 15 = .ok (.aload_n 0, 1) := by decide +kernel
theorem dX11_radio_16 : decode cX11_radio 16 = .ok (.getfield 42, 3) := by decide +kernel
theorem dX11_radio_19 : decode cX11_radio 19 = .ok (.getfield 182, 3) := by decide +kernel
theorem dX11_radio_22 : decode cX11_radio 22 = .ok (.iconst 0, 1) := by decide +kernel
theorem dX11_radio_23 : decode cX11_radio 23 = .ok (.iaload, 1) := by decide +kernel
theorem dX11_radio_24 : decode cX11_radio 24 = .ok (.invokevirtual 185, 3) := by decide +kernel
theorem dX11_radio_27 : decode cX11_radio 27 = .ok (.istore_n 2, 1) := by decide +kernel
theorem dX11_radio_28 : decode cX11_radio 28 = .ok (.iload_n 2, 1) := by decide +kernel
theorem dX11_radio_29 : decode cX11_radio 29 = .ok (.bipush 40, 2) := by decide +kernel
theorem dX11_radio_31 : decode cX11_radio 31 = .ok (.if_icmp .gt 7, 3) := by decide +kernel
theorem dX11_radio_34 : decode cX11_radio 34 = .ok (.iload_n 2, 1) := by decide +kernel
theorem dX11_radio_35 : decode cX11_radio 35 = .ok (.goto 5, 3) := by decide +kernel
theorem dX11_radio_38 : decode cX11_radio 38 = .ok (.bipush (-4), 2) := by decide +kernel
theorem dX11_radio_40 : decode cX11_radio 40 = .ok (.ireturn, 1) := by decide +kernel
theorem dX11_wanted_0 : decode cX11_wanted 0 = .ok (.iload_n 1, 1) := by decide +kernel
theorem dX11_wanted_1 : decode cX11_wanted 1 = .ok (.invokestatic 173, 3) := by decide +kernel
theorem dX11_wanted_4 : decode cX11_wanted 4 = .ok (.ifCond .ne 5, 3) := by decide +kernel
theorem dX11_wanted_7 : decode cX11_wanted 7 = .ok (.iconst (-1), 1) := by decide +kernel
theorem dX11_wanted_8 : decode cX11_wanted 8 = .ok (.ireturn, 1) := by decide +kernel
theorem dX11_wanted_9 : decode cX11_wanted 9 = .ok (.iload_n 1, 1) := by decide +kernel
theorem dX11_wanted_10 : decode cX11_wanted 10 = .ok (.ifCond .ne 7, 3) := by decide +kernel
theorem dX11_wanted_13 : decode cX11_wanted 13 = .ok (.iconst 2, 1) := by decide +kernel
theorem dX11_wanted_14 : decode cX11_wanted 14 = .ok (.goto 4, 3) := by decide +kernel
theorem dX11_wanted_17 : decode cX11_wanted 17 = .ok (.iconst 1, 1) := by decide +kernel
theorem dX11_wanted_18 : decode cX11_wanted 18 = .ok (.istore_n 2, 1) := by decide +kernel
theorem dX11_wanted_19 : decode cX11_wanted 19 = .ok (.getstatic 189, 3) := by decide +kernel
theorem dX11_wanted_22 : decode cX11_wanted 22 = .ok (.iload_n 2, 1) := by decide +kernel
theorem dX11_wanted_23 : decode cX11_wanted 23 = .ok (.iaload, 1) := by decide +kernel
theorem dX11_wanted_24 : decode cX11_wanted 24 = .ok (.istore_n 3, 1) := by decide +kernel
theorem dX11_wanted_25 : decode cX11_wanted 25 = .ok (.aload_n 0, 1) := by decide +kernel
theorem dX11_wanted_26 : decode cX11_wanted 26 = .ok (.getfield 46, 3) := by decide +kernel
theorem dX11_wanted_29 : decode cX11_wanted 29 = .ok (.aload_n 0, 1) := by decide +kernel
theorem dX11_wanted_30 : decode cX11_wanted 30 = .ok (.getfield 42, 3) := by decide +kernel
theorem dX11_wanted_33 : decode cX11_wanted 33 = .ok (.invokevirtual 84, 3) := by decide +kernel
theorem dX11_wanted_36 : decode cX11_wanted 36 = .ok (.iconst 0, 1) := by decide +kernel
theorem dX11_wanted_37 : decode cX11_wanted 37 = .ok (.istore 4, 2) := by decide +kernel
theorem dX11_wanted_39 : decode cX11_wanted 39 = .ok (.iload 4, 2) := by decide +kernel
theorem dX11_wanted_41 : decode cX11_wanted 41 = .ok (.iload_n 3, 1) := by decide +kernel
theorem dX11_wanted_42 : decode cX11_wanted 42 = .ok (.if_icmp .gt 49, 3) := by decide +kernel
theorem dX11_wanted_45 : decode cX11_wanted 45 = .ok (.iload_n 1, 1) := by decide +kernel
theorem dX11_wanted_46 : decode cX11_wanted 46 = .ok (.ifCond .ne 8, 3) := by decide +kernel
theorem dX11_wanted_49 : decode cX11_wanted 49 = .ok (.iload 4, 2) := by decide +kernel
theorem dX11_wanted_51 : decode cX11_wanted 51 = .ok (.goto 7, 3) := by decide +kernel
theorem dX11_wanted_54 : decode cX11_wanted 54 = .ok (.iload_n 3, 1) := by decide +kernel
theorem dX11_wanted_55 : decode cX11_wanted 55 = .ok (.iload 4, 2) := by decide +kernel
theorem dX11_wanted_57 : decode cX11_wanted 57 = .ok (.isub, 1) := by decide +kernel
theorem dX11_wanted_58 : decode cX11_wanted 58 = .ok (.istore 5, 2) := by decide +kernel
theorem dX11_wanted_60 : decode cX11_wanted 60 = .ok (.aload_n 0, 1) := by decide +kernel
theorem dX11_wanted_61 : decode cX11_wanted 61 = .ok (.getfield 46, 3) := by decide +kernel
theorem dX11_wanted_64 : decode cX11_wanted 64 = .ok (.iload_n 2, 1) := by decide +kernel
theorem dX11_wanted_65 : decode cX11_wanted 65 = .ok (.iload 5, 2) := by decide +kernel
theorem dX11_wanted_67 : decode cX11_wanted 67 = .ok (.invokevirtual 154, 3) := by decide +kernel
theorem dX11_wanted_70 : decode cX11_wanted 70 = .ok (.pop, 1) := by decide +kernel
theorem dX11_wanted_71 : decode cX11_wanted 71 = .ok (.aload_n 0, 1) := by decide +kernel
theorem dX11_wanted_72 : decode cX11_wanted 72 = .ok (.getfield 46, 3) := by decide +kernel
theorem dX11_wanted_75 : decode cX11_wanted 75 = .ok (.iconst 0, 1) := by decide +kernel
theorem dX11_wanted_76 : decode cX11_wanted 76 = .ok (.invokevirtual 158, 3) := by decide +kernel
theorem dX11_wanted_79 : decode cX11_wanted 79 = .ok (.ifCond .ne 6, 3) := by decide +kernel
theorem dX11_wanted_82 : decode cX11_wanted 82 = .ok (.iload 5, 2) := by decide +kernel
theorem dX11_wanted_84 : decode cX11_wanted 84 = .ok (.ireturn, 1) := by decide +kernel
theorem dX11_wanted_85 : decode cX11_wanted 85 = .ok (.iinc 4 1, 3) := by decide +kernel
theorem dX11_wanted_88 : decode cX11_wanted 88 = .ok (.goto (-49), 3) := by decide +kernel
theorem dX11_wanted_91 : decode cX11_wanted 91 = .ok (.bipush (-4), 2) := by decide +kernel
theorem dX11_wanted_93 : decode cX11_wanted 93 = .ok (.ireturn, 1) := by decide +kernel
theorem dX11_bestSeat_0 : decode cX11_bestSeat 0 = .ok (.iconst 0, 1) := by decide +kernel
theorem dX11_bestSeat_1 : decode cX11_bestSeat 1 = .ok (.istore_n 1, 1) := by decide +kernel
theorem dX11_bestSeat_2 : decode cX11_bestSeat 2 = .ok (.iconst 1, 1) := by decide +kernel
theorem dX11_bestSeat_3 : decode cX11_bestSeat 3 = .ok (.istore_n 2, 1) := by decide +kernel
theorem dX11_bestSeat_4 : decode cX11_bestSeat 4 = .ok (.iload_n 2, 1) := by decide +kernel
theorem dX11_bestSeat_5 : decode cX11_bestSeat 5 = .ok (.iconst 4, 1) := by decide +kernel
theorem dX11_bestSeat_6 : decode cX11_bestSeat 6 = .ok (.if_icmp .ge 30, 3) := by decide +kernel
theorem dX11_bestSeat_9 : decode cX11_bestSeat 9 = .ok (.aload_n 0, 1) := by decide +kernel
theorem dX11_bestSeat_10 : decode cX11_bestSeat 10 = .ok (.getfield 42, 3) := by decide +kernel
theorem dX11_bestSeat_13 : decode cX11_bestSeat 13 = .ok (.iload_n 2, 1) := by decide +kernel
theorem dX11_bestSeat_14 : decode cX11_bestSeat 14 = .ok (.invokevirtual 158, 3) := by decide +kernel
theorem dX11_bestSeat_17 : decode cX11_bestSeat 17 = .ok (.aload_n 0, 1) := by decide +kernel
theorem dX11_bestSeat_18 : decode cX11_bestSeat 18 = .ok (.getfield 42, 3) := by decide +kernel
theorem dX11_bestSeat_21 : decode cX11_bestSeat 21 = .ok (.iload_n 1, 1) := by decide +kernel
theorem dX11_bestSeat_22 : decode cX11_bestSeat 22 = .ok (.invokevirtual 158, 3) := by decide +kernel
theorem dX11_bestSeat_25 : decode cX11_bestSeat 25 = .ok (.if_icmp .le 5, 3) := by decide +kernel
theorem dX11_bestSeat_28 : decode cX11_bestSeat 28 = .ok (.iload_n 2, 1) := by decide +kernel
theorem dX11_bestSeat_29 : decode cX11_bestSeat 29 = .ok (.istore_n 1, 1) := by decide +kernel
theorem dX11_bestSeat_30 : decode cX11_bestSeat 30 = .ok (.iinc 2 1, 3) := by decide +kernel
theorem dX11_bestSeat_33 : decode cX11_bestSeat 33 = .ok (.goto (-29), 3) := by decide +kernel
theorem dX11_bestSeat_36 : decode cX11_bestSeat 36 = .ok (.iload_n 1, 1) := by decide +kernel
theorem dX11_bestSeat_37 : decode cX11_bestSeat 37 = .ok (.ireturn, 1) := by decide +kernel
theorem dX11_which_0 : decode cX11_which 0 = .ok (.iload_n 2, 1) := by decide +kernel
theorem dX11_which_1 : decode cX11_which 1 = .ok (.invokestatic 173, 3) := by decide +kernel
theorem dX11_which_4 : decode cX11_which 4 = .ok (.ifCond .eq 11, 3) := by decide +kernel
theorem dX11_which_7 : decode cX11_which 7 = .ok (.aload_n 0, 1) := by decide +kernel
theorem dX11_which_8 : decode cX11_which 8 = .ok (.iload_n 1, 1) := by decide +kernel
theorem dX11_which_9 : decode cX11_which 9 = .ok (.invokevirtual 192, 3) := by decide +kernel
theorem dX11_which_12 : decode cX11_which 12 = .ok (.goto 4, 3) := by decide +kernel
theorem dX11_which_15 : decode cX11_which 15 = .ok (.iconst (-1), 1) := by decide +kernel
theorem dX11_which_16 : decode cX11_which 16 = .ok (.istore_n 3, 1) := by decide +kernel
theorem dX11_which_17 : decode cX11_which 17 = .ok (.iload_n 3, 1) := by decide +kernel
theorem dX11_which_18 : decode cX11_which 18 = .ok (.ifCond .eq 5, 3) := by decide +kernel
theorem dX11_which_21 : decode cX11_which 21 = .ok (.iload_n 3, 1) := by decide +kernel
theorem dX11_which_22 : decode cX11_which 22 = .ok (.ireturn, 1) := by decide +kernel
theorem dX11_which_23 : decode cX11_which 23 = .ok (.aload_n 0, 1) := by decide +kernel
theorem dX11_which_24 : decode cX11_which 24 = .ok (.aload_n 0, 1) := by decide +kernel
theorem dX11_which_25 : decode cX11_which 25 = .ok (.getfield 58, 3) := by decide +kernel
theorem dX11_which_28 : decode cX11_which 28 = .ok (.iload_n 1, 1) := by decide +kernel
theorem dX11_which_29 : decode cX11_which 29 = .ok (.aaload, 1) := by decide +kernel
theorem dX11_which_30 : decode cX11_which 30 = .ok (.invokevirtual 195, 3) := by decide +kernel
theorem dX11_which_33 : decode cX11_which 33 = .ok (.istore 4, 2) := by decide +kernel
theorem dX11_which_35 : decode cX11_which 35 = .ok (.iload_n 2, 1) := by decide +kernel
theorem dX11_which_36 : decode cX11_which 36 = .ok (.ifCond .ne 8, 3) := by decide +kernel
theorem dX11_which_39 : decode cX11_which 39 = .ok (.iload 4, 2) := by decide +kernel
theorem dX11_which_41 : decode cX11_which 41 = .ok (.goto 8, 3) := by decide +kernel
theorem dX11_which_44 : decode cX11_which 44 = .ok (.iload 4, 2) := by decide +kernel
theorem dX11_which_46 : decode cX11_which 46 = .ok (.invokestatic 198, 3) := by decide +kernel
theorem dX11_which_49 : decode cX11_which 49 = .ok (.ireturn, 1) := by decide +kernel
theorem dX11_two_0 : decode cX11_two 0 = .ok (.iload_n 2, 1) := by decide +kernel
theorem dX11_two_1 : decode cX11_two 1 = .ok (.invokestatic 173, 3) := by decide +kernel
theorem dX11_two_4 : decode cX11_two 4 = .ok (.ifCond .eq 11, 3) := by decide +kernel
theorem dX11_two_7 : decode cX11_two 7 = .ok (.aload_n 0, 1) := by decide +kernel
theorem dX11_two_8 : decode cX11_two 8 = .ok (.iload_n 1, 1) := by decide +kernel
theorem dX11_two_9 : decode cX11_two 9 = .ok (.invokevirtual 192, 3) := by decide +kernel
theorem dX11_two_12 : decode cX11_two 12 = .ok (.goto 4, 3) := by decide +kernel
theorem dX11_two_15 : decode cX11_two 15 = .ok (.iconst (-1), 1) := by decide +kernel
theorem dX11_two_16 : decode cX11_two 16 = .ok (.istore_n 3, 1) := by decide +kernel
theorem dX11_two_17 : decode cX11_two 17 = .ok (.iload_n 3, 1) := by decide +kernel
theorem dX11_two_18 : decode cX11_two 18 = .ok (.ifCond .eq 5, 3) := by decide +kernel
theorem dX11_two_21 : decode cX11_two 21 = .ok (.iload_n 3, 1) := by decide +kernel
theorem dX11_two_22 : decode cX11_two 22 = .ok (.ireturn, 1) := by decide +kernel
theorem dX11_two_23 : decode cX11_two 23 = .ok (.aload_n 0, 1) := by decide +kernel
theorem dX11_two_24 : decode cX11_two 24 = .ok (.aload_n 0, 1) := by decide +kernel
theorem dX11_two_25 : decode cX11_two 25 = .ok (.getfield 58, 3) := by decide +kernel
theorem dX11_two_28 : decode cX11_two 28 = .ok (.iload_n 1, 1) := by decide +kernel
theorem dX11_two_29 : decode cX11_two 29 = .ok (.aaload, 1) := by decide +kernel
theorem dX11_two_30 : decode cX11_two 30 = .ok (.invokevirtual 195, 3) := by decide +kernel
theorem dX11_two_33 : decode cX11_two 33 = .ok (.istore 4, 2) := by decide +kernel
theorem dX11_two_35 : decode cX11_two 35 = .ok (.iconst 0, 1) := by decide +kernel
theorem dX11_two_36 : decode cX11_two 36 = .ok (.istore 5, 2) := by decide +kernel
theorem dX11_two_38 : decode cX11_two 38 = .ok (.bipush (-4), 2) := by decide +kernel
theorem dX11_two_40 : decode cX11_two 40 = .ok (.istore 6, 2) := by decide +kernel
theorem dX11_two_42 : decode cX11_two 42 = .ok (.iconst 0, 1) := by decide +kernel
theorem dX11_two_43 : decode cX11_two 43 = .ok (.istore 7, 2) := by decide +kernel
theorem dX11_two_45 : decode cX11_two 45 = .ok (.iload 7, 2) := by decide +kernel
theorem dX11_two_47 : decode cX11_two 47 = .ok (.aload_n 0, 1) := by decide +kernel
theorem dX11_two_48 : decode cX11_two 48 = .ok (.getfield 42, 3) := by decide +kernel
theorem dX11_two_51 : decode cX11_two 51 = .ok (.getfield 203, 3) := by decide +kernel
theorem dX11_two_54 : decode cX11_two 54 = .ok (.if_icmp .ge 95, 3) := by decide +kernel
theorem dX11_two_57 : decode cX11_two 57 = .ok (.iload 7, 2) := by decide +kernel
theorem dX11_two_59 : decode cX11_two 59 = .ok (.iconst 1, 1) := by decide +kernel
theorem dX11_two_60 : decode cX11_two 60 = .ok (.iadd, 1) := by decide +kernel
theorem dX11_two_61 : decode cX11_two 61 = .ok (.istore 8, 2) := by decide +kernel
theorem dX11_two_63 : decode cX11_two 63 = .ok (.iload 8, 2) := by decide +kernel
theorem dX11_two_65 : decode cX11_two 65 = .ok (.aload_n 0, 1) := by decide +kernel
theorem dX11_two_66 : decode cX11_two 66 = .ok (.getfield 42, 3) := by decide +kernel
theorem dX11_two_69 : decode cX11_two 69 = .ok (.getfield 203, 3) := by decide +kernel
theorem dX11_two_72 : decode cX11_two 72 = .ok (.if_icmp .ge 71, 3) := by decide +kernel
theorem dX11_two_75 : decode cX11_two 75 = .ok (.iconst 1, 1) := by decide +kernel
theorem dX11_two_76 : decode cX11_two 76 = .ok (.iload 7, 2) := by decide +kernel
theorem dX11_two_78 : decode cX11_two 78 = .ok (.ishl, 1) := by decide +kernel
theorem dX11_two_79 : decode cX11_two 79 = .ok (.iconst 1, 1) := by decide +kernel
theorem dX11_two_80 : decode cX11_two 80 = .ok (.iload 8, 2) := by decide +kernel
theorem dX11_two_82 : decode cX11_two 82 = .ok (.ishl, 1) := by decide +kernel
theorem dX11_two_83 : decode cX11_two 83 = .ok (.ior, 1) := by decide +kernel
theorem dX11_two_84 : decode cX11_two 84 = .ok (.istore 9, 2) := by decide +kernel
theorem dX11_two_86 : decode cX11_two 86 = .ok (.iload 9, 2) := by decide +kernel
theorem dX11_two_88 : decode cX11_two 88 = .ok (.iload 4, 2) := by decide +kernel
theorem dX11_two_90 : decode cX11_two 90 = .ok (.iand, 1) := by decide +kernel
theorem dX11_two_91 : decode cX11_two 91 = .ok (.ifCond .ne 46, 3) := by decide +kernel
theorem dX11_two_94 : decode cX11_two 94 = .ok (.aload_n 0, 1) := by decide +kernel
theorem dX11_two_95 : decode cX11_two 95 = .ok (.getfield 42, 3) := by decide +kernel
theorem dX11_two_98 : decode cX11_two 98 = .ok (.aload_n 0, 1) := by decide +kernel
theorem dX11_two_99 : decode cX11_two 99 = .ok (.getfield 58, 3) := by decide +kernel
theorem dX11_two_102 : decode cX11_two 102 = .ok (.iload_n 1, 1) := by decide +kernel
theorem dX11_two_103 : decode cX11_two 103 = .ok (.aaload, 1) := by decide +kernel
theorem dX11_two_104 : decode cX11_two 104 = .ok (.iload 9, 2) := by decide +kernel
theorem dX11_two_106 : decode cX11_two 106 = .ok (.invokevirtual 206, 3) := by decide +kernel
theorem dX11_two_109 : decode cX11_two 109 = .ok (.ifCond .eq 28, 3) := by decide +kernel
theorem dX11_two_112 : decode cX11_two 112 = .ok (.iinc 5 1, 3) := by decide +kernel
theorem dX11_two_115 : decode cX11_two 115 = .ok (.iload 6, 2) := by decide +kernel
theorem dX11_two_117 : decode cX11_two 117 = .ok (.bipush (-4), 2) := by decide +kernel
theorem dX11_two_119 : decode cX11_two 119 = .ok (.if_icmp .ne 14, 3) := by decide +kernel
theorem dX11_two_122 : decode cX11_two 122 = .ok (.bipush 10, 2) := by decide +kernel
theorem dX11_two_124 : decode cX11_two 124 = .ok (.iload 7, 2) := by decide +kernel
theorem dX11_two_126 : decode cX11_two 126 = .ok (.imul, 1) := by decide +kernel
theorem dX11_two_127 : decode cX11_two 127 = .ok (.iload 8, 2) := by decide +kernel
theorem dX11_two_129 : decode cX11_two 129 = .ok (.iadd, 1) := by decide +kernel
theorem dX11_two_130 : decode cX11_two 130 = .ok (.goto 5, 3) := by decide +kernel
theorem dX11_two_133 : decode cX11_two 133 = .ok (.iload 6, 2) := by decide +kernel
theorem dX11_two_135 : decode cX11_two 135 = .ok (.istore 6, 2) := by decide +kernel
theorem dX11_two_137 : decode cX11_two 137 = .ok (.iinc 8 1, 3) := by decide +kernel
theorem dX11_two_140 : decode cX11_two 140 = .ok (.goto (-77), 3) := by decide +kernel
theorem dX11_two_143 : decode cX11_two 143 = .ok (.iinc 7 1, 3) := by decide +kernel
theorem dX11_two_146 : decode cX11_two 146 = .ok (.goto (-101), 3) := by decide +kernel
theorem dX11_two_149 : decode cX11_two 149 = .ok (.iload_n 2, 1) := by decide +kernel
theorem dX11_two_150 : decode cX11_two 150 = .ok (.ifCond .ne 8, 3) := by decide +kernel
theorem dX11_two_153 : decode cX11_two 153 = .ok (.iload 5, 2) := by decide +kernel
theorem dX11_two_155 : decode cX11_two 155 = .ok (.goto 5, 3) := by decide +kernel
theorem dX11_two_158 : decode cX11_two 158 = .ok (.iload 6, 2) := by decide +kernel
theorem dX11_two_160 : decode cX11_two 160 = .ok (.ireturn, 1) := by decide +kernel
theorem dX11_tryNext_0 : decode cX11_tryNext 0 = .ok (.aload_n 0, 1) := by decide +kernel
theorem dX11_tryNext_1 : decode cX11_tryNext 1 = .ok (.iload_n 1, 1) := by decide +kernel
theorem dX11_tryNext_2 : decode cX11_tryNext 2 = .ok (.invokevirtual 192, 3) := by decide +kernel
theorem dX11_tryNext_5 : decode cX11_tryNext 5 = .ok (.istore_n 2, 1) := by decide +kernel
theorem dX11_tryNext_6 : decode cX11_tryNext 6 = .ok (.iload_n 2, 1) := by decide +kernel
theorem dX11_tryNext_7 : decode cX11_tryNext 7 = .ok (.ifCond .eq 5, 3) := by decide +kernel
theorem dX11_tryNext_10 : decode cX11_tryNext 10 = .ok (.iload_n 2, 1) := by decide +kernel
theorem dX11_tryNext_11 : decode cX11_tryNext 11 = .ok (.ireturn, 1) := by decide +kernel
theorem dX11_tryNext_12 : decode cX11_tryNext 12 = .ok (.aload_n 0, 1) := by decide +kernel
theorem dX11_tryNext_13 : decode cX11_tryNext 13 = .ok (.aload_n 0, 1) := by decide +kernel
theorem dX11_tryNext_14 : decode cX11_tryNext 14 = .ok (.getfield 58, 3) := by decide +kernel
theorem dX11_tryNext_17 : decode cX11_tryNext 17 = .ok (.iload_n 1, 1) := by decide +kernel
theorem dX11_tryNext_18 : decode cX11_tryNext 18 = .ok (.aaload, 1) := by decide +kernel
theorem dX11_tryNext_19 : decode cX11_tryNext 19 = .ok (.invokevirtual 195, 3) := by decide +kernel
theorem dX11_tryNext_22 : decode cX11_tryNext 22 = .ok (.istore_n 3, 1) := by decide +kernel
theorem dX11_tryNext_23 : decode cX11_tryNext 23 = .ok (.iload_n 3, 1) := by decide +kernel
theorem dX11_tryNext_24 : decode cX11_tryNext 24 = .ok (.invokestatic 198, 3) := by decide +kernel
theorem dX11_tryNext_27 : decode cX11_tryNext 27 = .ok (.iconst 2, 1) := by decide +kernel
theorem dX11_tryNext_28 : decode cX11_tryNext 28 = .ok (.if_icmp .ge 6, 3) := by decide +kernel
theorem dX11_tryNext_31 : decode cX11_tryNext 31 = .ok (.bipush (-4), 2) := by decide +kernel
theorem dX11_tryNext_33 : decode cX11_tryNext 33 = .ok (.ireturn, 1) := by decide +kernel
theorem dX11_tryNext_34 : decode cX11_tryNext 34 = .ok (.aload_n 0, 1) := by decide +kernel
theorem dX11_tryNext_35 : decode cX11_tryNext 35 = .ok (.getfield 42, 3) := by decide +kernel
theorem dX11_tryNext_38 : decode cX11_tryNext 38 = .ok (.iload_n 3, 1) := by decide +kernel
theorem dX11_tryNext_39 : decode cX11_tryNext 39 = .ok (.invokevirtual 210, 3) := by decide +kernel
theorem dX11_tryNext_42 : decode cX11_tryNext 42 = .ok (.istore 4, 2) := by decide +kernel
theorem dX11_tryNext_44 : decode cX11_tryNext 44 = .ok (.iconst 0, 1) := by decide +kernel
theorem dX11_tryNext_45 : decode cX11_tryNext 45 = .ok (.istore 5, 2) := by decide +kernel
theorem dX11_tryNext_47 : decode cX11_tryNext 47 = .ok (.iconst (-1), 1) := by decide +kernel
theorem dX11_tryNext_48 : decode cX11_tryNext 48 = .ok (.istore 6, 2) := by decide +kernel
theorem dX11_tryNext_50 : decode cX11_tryNext 50 = .ok (.iconst 0, 1) := by decide +kernel
theorem dX11_tryNext_51 : decode cX11_tryNext 51 = .ok (.istore 7, 2) := by decide +kernel
theorem dX11_tryNext_53 : decode cX11_tryNext 53 = .ok (.iload 7, 2) := by decide +kernel
theorem dX11_tryNext_55 : decode cX11_tryNext 55 = .ok (.bipush 100, 2) := by decide +kernel
theorem dX11_tryNext_57 : decode cX11_tryNext 57 = .ok (.if_icmp .ge 56, 3) := by decide +kernel
theorem dX11_tryNext_60 : decode cX11_tryNext 60 = .ok (.aload_n 0, 1) := by decide +kernel
theorem dX11_tryNext_61 : decode cX11_tryNext 61 = .ok (.getfield 42, 3) := by decide +kernel
theorem dX11_tryNext_64 : decode cX11_tryNext 64 = .ok (.iload_n 3, 1) := by decide +kernel
theorem dX11_tryNext_65 : decode cX11_tryNext 65 = .ok (.aload_n 0, 1) := by decide +kernel
theorem dX11_tryNext_66 : decode cX11_tryNext 66 = .ok (.getfield 42, 3) := by decide +kernel
theorem dX11_tryNext_69 : decode cX11_tryNext 69 = .ok (.iload 7, 2) := by decide +kernel
theorem dX11_tryNext_71 : decode cX11_tryNext 71 = .ok (.invokevirtual 213, 3) := by decide +kernel
theorem dX11_tryNext_74 : decode cX11_tryNext 74 = .ok (.iand, 1) := by decide +kernel
theorem dX11_tryNext_75 : decode cX11_tryNext 75 = .ok (.invokevirtual 210, 3) := by decide +kernel
theorem dX11_tryNext_78 : decode cX11_tryNext 78 = .ok (.istore 8, 2) := by decide +kernel
theorem dX11_tryNext_80 : decode cX11_tryNext 80 = .ok (.iload 8, 2) := by decide +kernel
theorem dX11_tryNext_82 : decode cX11_tryNext 82 = .ok (.iload 4, 2) := by decide +kernel
theorem dX11_tryNext_84 : decode cX11_tryNext 84 = .ok (.iload 8, 2) := by decide +kernel
theorem dX11_tryNext_86 : decode cX11_tryNext 86 = .ok (.isub, 1) := by decide +kernel
theorem dX11_tryNext_87 : decode cX11_tryNext 87 = .ok (.invokestatic 216, 3) := by decide +kernel
theorem dX11_tryNext_90 : decode cX11_tryNext 90 = .ok (.istore 9, 2) := by decide +kernel
theorem dX11_tryNext_92 : decode cX11_tryNext 92 = .ok (.iload 9, 2) := by decide +kernel
theorem dX11_tryNext_94 : decode cX11_tryNext 94 = .ok (.iload 6, 2) := by decide +kernel
theorem dX11_tryNext_96 : decode cX11_tryNext 96 = .ok (.if_icmp .le 11, 3) := by decide +kernel
theorem dX11_tryNext_99 : decode cX11_tryNext 99 = .ok (.iload 9, 2) := by decide +kernel
theorem dX11_tryNext_101 : decode cX11_tryNext 101 = .ok (.istore 6, 2) := by decide +kernel
theorem dX11_tryNext_103 : decode cX11_tryNext 103 = .ok (.iload 7, 2) := by decide +kernel
theorem dX11_tryNext_105 : decode cX11_tryNext 105 = .ok (.istore 5, 2) := by decide +kernel
theorem dX11_tryNext_107 : decode cX11_tryNext 107 = .ok (.iinc 7 1, 3) := by decide +kernel
theorem dX11_tryNext_110 : decode cX11_tryNext 110 = .ok (.goto (-57), 3) := by decide +kernel
theorem dX11_tryNext_113 : decode cX11_tryNext 113 = .ok (.iload 5, 2) := by decide +kernel
theorem dX11_tryNext_115 : decode cX11_tryNext 115 = .ok (.ireturn, 1) := by decide +kernel
theorem dX11_halves_0 : decode cX11_halves 0 = .ok (.aload_n 0, 1) := by decide +kernel
theorem dX11_halves_1 : decode cX11_halves 1 = .ok (.iload_n 1, 1) := by decide +kernel
theorem dX11_halves_2 : decode cX11_halves 2 = .ok (.invokevirtual 221, 3) := by decide +kernel
theorem dX11_halves_5 : decode cX11_halves 5 = .ok (.ifCond .eq 10, 3) := by decide +kernel
theorem dX11_halves_8 : decode cX11_halves 8 = .ok (.iload_n 2, 1) := by decide +kernel
theorem dX11_halves_9 : decode cX11_halves 9 = .ok (.invokestatic 173, 3) := by decide +kernel
theorem dX11_halves_12 : decode cX11_halves 12 = .ok (.ifCond .ne 8, 3) := by decide +kernel
theorem dX11_halves_15 : decode cX11_halves 15 = .ok (.iconst (-1), 1) := by decide +kernel
theorem dX11_halves_16 : decode cX11_halves 16 = .ok (.invokestatic 224, 3) := by decide +kernel
theorem dX11_halves_19 : decode cX11_halves 19 = .ok (.lreturn, 1) := by decide +kernel
theorem dX11_halves_20 : decode cX11_halves 20 = .ok (.aload_n 0, 1) := by decide +kernel
theorem dX11_halves_21 : decode cX11_halves 21 = .ok (.iload_n 1, 1) := by decide +kernel
theorem dX11_halves_22 : decode cX11_halves 22 = .ok (.invokevirtual 228, 3) := by decide +kernel
theorem dX11_halves_25 : decode cX11_halves 25 = .ok (.i2l, 1) := by decide +kernel
theorem dX11_halves_26 : decode cX11_halves 26 = .ok (.aload_n 0, 1) := by decide +kernel
theorem dX11_halves_27 : decode cX11_halves 27 = .ok (.getfield 42, 3) := by decide +kernel
theorem dX11_halves_30 : decode cX11_halves 30 = .ok (.iload_n 1, 1) := by decide +kernel
theorem dX11_halves_31 : decode cX11_halves 31 = .ok (.invokevirtual 210, 3) := by decide +kernel
theorem dX11_halves_34 : decode cX11_halves 34 = .ok (.i2l, 1) := by decide +kernel
theorem dX11_halves_35 : decode cX11_halves 35 = .ok (.iload_n 2, 1) := by decide +kernel
theorem dX11_halves_36 : decode cX11_halves 36 = .ok (.invokestatic 231, 3) := by decide +kernel
theorem dX11_halves_39 : decode cX11_halves 39 = .ok (.lreturn, 1) := by decide +kernel
theorem dX11_oneByOne_0 : decode cX11_oneByOne 0 = .ok (.aload_n 0, 1) := by decide +kernel
theorem dX11_oneByOne_1 : decode cX11_oneByOne 1 = .ok (.iload_n 1, 1) := by decide +kernel
theorem dX11_oneByOne_2 : decode cX11_oneByOne 2 = .ok (.invokevirtual 221, 3) := by decide +kernel
theorem dX11_oneByOne_5 : decode cX11_oneByOne 5 = .ok (.ifCond .eq 10, 3) := by decide +kernel
theorem dX11_oneByOne_8 : decode cX11_oneByOne 8 = .ok (.iload_n 2, 1) := by decide +kernel
theorem dX11_oneByOne_9 : decode cX11_oneByOne 9 = .ok (.invokestatic 173, 3) := by decide +kernel
theorem dX11_oneByOne_12 : decode cX11_oneByOne 12 = .ok (.ifCond .ne 8, 3) := by decide +kernel
theorem dX11_oneByOne_15 : decode cX11_oneByOne 15 = .ok (.iconst (-1), 1) := by decide +kernel
theorem dX11_oneByOne_16 : decode cX11_oneByOne 16 = .ok (.invokestatic 224, 3) := by decide +kernel
theorem dX11_oneByOne_19 : decode cX11_oneByOne 19 = .ok (.lreturn, 1) := by decide +kernel
theorem dX11_oneByOne_20 : decode cX11_oneByOne 20 = .ok (.aload_n 0, 1) := by decide +kernel
theorem dX11_oneByOne_21 : decode cX11_oneByOne 21 = .ok (.iload_n 1, 1) := by decide +kernel
theorem dX11_oneByOne_22 : decode cX11_oneByOne 22 = .ok (.invokevirtual 235, 3) := by decide +kernel
theorem dX11_oneByOne_25 : decode cX11_oneByOne 25 = .ok (.i2l, 1) := by decide +kernel
theorem dX11_oneByOne_26 : decode cX11_oneByOne 26 = .ok (.aload_n 0, 1) := by decide +kernel
theorem dX11_oneByOne_27 : decode cX11_oneByOne 27 = .ok (.getfield 42, 3) := by decide +kernel
theorem dX11_oneByOne_30 : decode cX11_oneByOne 30 = .ok (.iload_n 1, 1) := by decide +kernel
theorem dX11_oneByOne_31 : decode cX11_oneByOne 31 = .ok (.invokevirtual 210, 3) := by decide +kernel
theorem dX11_oneByOne_34 : decode cX11_oneByOne 34 = .ok (.i2l, 1) := by decide +kernel
theorem dX11_oneByOne_35 : decode cX11_oneByOne 35 = .ok (.iload_n 2, 1) := by decide +kernel
theorem dX11_oneByOne_36 : decode cX11_oneByOne 36 = .ok (.invokestatic 231, 3) := by decide +kernel
theorem dX11_oneByOne_39 : decode cX11_oneByOne 39 = .ok (.lreturn, 1) := by decide +kernel
theorem dX11_worse_0 : decode cX11_worse 0 = .ok (.aload_n 0, 1) := by decide +kernel
theorem dX11_worse_1 : decode cX11_worse 1 = .ok (.iload_n 1, 1) := by decide +kernel
theorem dX11_worse_2 : decode cX11_worse 2 = .ok (.invokevirtual 221, 3) := by decide +kernel
theorem dX11_worse_5 : decode cX11_worse 5 = .ok (.ifCond .ne 5, 3) := by decide +kernel
theorem dX11_worse_8 : decode cX11_worse 8 = .ok (.iconst (-1), 1) := by decide +kernel
theorem dX11_worse_9 : decode cX11_worse 9 = .ok (.ireturn, 1) := by decide +kernel
theorem dX11_worse_10 : decode cX11_worse 10 = .ok (.aload_n 0, 1) := by decide +kernel
theorem dX11_worse_11 : decode cX11_worse 11 = .ok (.iload_n 1, 1) := by decide +kernel
theorem dX11_worse_12 : decode cX11_worse 12 = .ok (.invokevirtual 235, 3) := by decide +kernel
theorem dX11_worse_15 : decode cX11_worse 15 = .ok (.aload_n 0, 1) := by decide +kernel
theorem dX11_worse_16 : decode cX11_worse 16 = .ok (.iload_n 1, 1) := by decide +kernel
theorem dX11_worse_17 : decode cX11_worse 17 = .ok (.invokevirtual 228, 3) := by decide +kernel
theorem dX11_worse_20 : decode cX11_worse 20 = .ok (.isub, 1) := by decide +kernel
theorem dX11_worse_21 : decode cX11_worse 21 = .ok (.ireturn, 1) := by decide +kernel
theorem dX11_gone_0 : decode cX11_gone 0 = .ok (.iload_n 1, 1) := by decide +kernel
theorem dX11_gone_1 : decode cX11_gone 1 = .ok (.iconst 1, 1) := by decide +kernel
theorem dX11_gone_2 : decode cX11_gone 2 = .ok (.bipush 9, 2) := by decide +kernel
theorem dX11_gone_4 : decode cX11_gone 4 = .ok (.invokestatic 126, 3) := by decide +kernel
theorem dX11_gone_7 : decode cX11_gone 7 = .ok (.ifCond .eq 13, 3) := by decide +kernel
theorem dX11_gone_10 : decode cX11_gone 10 = .ok (.iload_n 2, 1) := by decide +kernel
theorem dX11_gone_11 : decode cX11_gone 11 = .ok (.iconst 2, 1) := by decide +kernel
theorem dX11_gone_12 : decode cX11_gone 12 = .ok (.bipush 50, 2) := by decide +kernel
theorem dX11_gone_14 : decode cX11_gone 14 = .ok (.invokestatic 126, 3) := by decide +kernel
theorem dX11_gone_17 : decode cX11_gone 17 = .ok (.ifCond .ne 5, 3) := by decide +kernel
theorem dX11_gone_20 : decode cX11_gone 20 = .ok (.iconst (-1), 1) := by decide +kernel
theorem dX11_gone_21 : decode cX11_gone 21 = .ok (.ireturn, 1) := by decide +kernel
theorem dX11_gone_22 : decode cX11_gone 22 = .ok (.aload_n 0, 1) := by decide +kernel
theorem dX11_gone_23 : decode cX11_gone 23 = .ok (.iload_n 2, 1) := by decide +kernel
theorem dX11_gone_24 : decode cX11_gone 24 = .ok (.iconst 1, 1) := by decide +kernel
theorem dX11_gone_25 : decode cX11_gone 25 = .ok (.isub, 1) := by decide +kernel
theorem dX11_gone_26 : decode cX11_gone 26 = .ok (.invokevirtual 238, 3) := by decide +kernel
theorem dX11_gone_29 : decode cX11_gone 29 = .ok (.iconst 0, 1) := by decide +kernel
theorem dX11_gone_30 : decode cX11_gone 30 = .ok (.istore_n 3, 1) := by decide +kernel
theorem dX11_gone_31 : decode cX11_gone 31 = .ok (.iload_n 3, 1) := by decide +kernel
theorem dX11_gone_32 : decode cX11_gone 32 = .ok (.bipush 60, 2) := by decide +kernel
theorem dX11_gone_34 : decode cX11_gone 34 = .ok (.if_icmp .gt 27, 3) := by decide +kernel
theorem dX11_gone_37 : decode cX11_gone 37 = .ok (.aload_n 0, 1) := by decide +kernel
theorem dX11_gone_38 : decode cX11_gone 38 = .ok (.iload_n 3, 1) := by decide +kernel
theorem dX11_gone_39 : decode cX11_gone 39 = .ok (.invokevirtual 242, 3) := by decide +kernel
theorem dX11_gone_42 : decode cX11_gone 42 = .ok (.ifCond .eq 5, 3) := by decide +kernel
theorem dX11_gone_45 : decode cX11_gone 45 = .ok (.iload_n 3, 1) := by decide +kernel
theorem dX11_gone_46 : decode cX11_gone 46 = .ok (.ireturn, 1) := by decide +kernel
theorem dX11_gone_47 : decode cX11_gone 47 = .ok (.aload_n 0, 1) := by decide +kernel
theorem dX11_gone_48 : decode cX11_gone 48 = .ok (.bipush 10, 2) := by decide +kernel
theorem dX11_gone_50 : decode cX11_gone 50 = .ok (.iload_n 1, 1) := by decide +kernel
theorem dX11_gone_51 : decode cX11_gone 51 = .ok (.isub, 1) := by decide +kernel
theorem dX11_gone_52 : decode cX11_gone 52 = .ok (.invokevirtual 245, 3) := by decide +kernel
theorem dX11_gone_55 : decode cX11_gone 55 = .ok (.iinc 3 1, 3) := by decide +kernel
theorem dX11_gone_58 : decode cX11_gone 58 = .ok (.goto (-27), 3) := by decide +kernel
theorem dX11_gone_61 : decode cX11_gone 61 = .ok (.bipush (-4), 2) := by decide +kernel
theorem dX11_gone_63 : decode cX11_gone 63 = .ok (.ireturn, 1) := by decide +kernel
theorem dX11_ear_0 : decode cX11_ear 0 = .ok (.iload_n 2, 1) := by decide +kernel
theorem dX11_ear_1 : decode cX11_ear 1 = .ok (.iconst 0, 1) := by decide +kernel
theorem dX11_ear_2 : decode cX11_ear 2 = .ok (.bipush 9, 2) := by decide +kernel
theorem dX11_ear_4 : decode cX11_ear 4 = .ok (.invokestatic 126, 3) := by decide +kernel
theorem dX11_ear_7 : decode cX11_ear 7 = .ok (.ifCond .eq 22, 3) := by decide +kernel
theorem dX11_ear_10 : decode cX11_ear 10 = .ok (.iload_n 3, 1) := by decide +kernel
theorem dX11_ear_11 : decode cX11_ear 11 = .ok (.invokestatic 123, 3) := by decide +kernel
theorem dX11_ear_14 : decode cX11_ear 14 = .ok (.ifCond .eq 15, 3) := by decide +kernel
theorem dX11_ear_17 : decode cX11_ear 17 = .ok (.iload 4, 2) := by decide +kernel
theorem dX11_ear_19 : decode cX11_ear 19 = .ok (.invokestatic 173, 3) := by decide +kernel
theorem dX11_ear_22 : decode cX11_ear 22 = .ok (.ifCond .eq 7, 3) := by decide +kernel
theorem dX11_ear_25 : decode cX11_ear 25 = .ok (.iconst 1, 1) := by decide +kernel
theorem dX11_ear_26 : decode cX11_ear 26 = .ok (.goto 4, 3) := by decide +kernel
theorem dX11_ear_29 : decode cX11_ear 29 = .ok (.iconst 0, 1) := by decide +kernel
theorem dX11_ear_30 : decode cX11_ear 30 = .ok (.istore 5, 2) := by decide +kernel
theorem dX11_ear_32 : decode cX11_ear 32 = .ok (.iload 5, 2) := by decide +kernel
theorem dX11_ear_34 : decode cX11_ear 34 = .ok (.ifCond .eq 11, 3) := by decide +kernel
theorem dX11_ear_37 : decode cX11_ear 37 = .ok (.aload_n 0, 1) := by decide +kernel
theorem dX11_ear_38 : decode cX11_ear 38 = .ok (.iload_n 1, 1) := by decide +kernel
theorem dX11_ear_39 : decode cX11_ear 39 = .ok (.invokevirtual 248, 3) := by decide +kernel
theorem dX11_ear_42 : decode cX11_ear 42 = .ok (.goto 4, 3) := by decide +kernel
theorem dX11_ear_45 : decode cX11_ear 45 = .ok (.iconst (-1), 1) := by decide +kernel
theorem dX11_ear_46 : decode cX11_ear 46 = .ok (.istore 6, 2) := by decide +kernel
theorem dX11_ear_48 : decode cX11_ear 48 = .ok (.iload 6, 2) := by decide +kernel
theorem dX11_ear_50 : decode cX11_ear 50 = .ok (.ifCond .eq 9, 3) := by decide +kernel
theorem dX11_ear_53 : decode cX11_ear 53 = .ok (.iload 6, 2) := by decide +kernel
theorem dX11_ear_55 : decode cX11_ear 55 = .ok (.invokestatic 224, 3) := by decide +kernel
theorem dX11_ear_58 : decode cX11_ear 58 = .ok (.lreturn, 1) := by decide +kernel
theorem dX11_ear_59 : decode cX11_ear 59 = .ok (.lconst 0, 1) := by decide +kernel
theorem dX11_ear_60 : decode cX11_ear 60 = .ok (.lstore 7, 2) := by decide +kernel
theorem dX11_ear_62 : decode cX11_ear 62 = .ok (.iconst 0, 1) := by decide +kernel
theorem dX11_ear_63 : decode cX11_ear 63 = .ok (.istore 9, 2) := by decide +kernel
theorem dX11_ear_65 : decode cX11_ear 65 = .ok (.iload 9, 2) := by decide +kernel
theorem dX11_ear_67 : decode cX11_ear 67 = .ok (.iconst 4, 1) := by decide +kernel
theorem dX11_ear_68 : decode cX11_ear 68 = .ok (.if_icmp .ge 26, 3) := by decide +kernel
theorem dX11_ear_71 : decode cX11_ear 71 = .ok (.lload 7, 2) := by decide +kernel
theorem dX11_ear_73 : decode cX11_ear 73 = .ok (.aload_n 0, 1) := by decide +kernel
theorem dX11_ear_74 : decode cX11_ear 74 = .ok (.getfield 58, 3) := by decide +kernel
theorem dX11_ear_77 : decode cX11_ear 77 = .ok (.iload_n 1, 1) := by decide +kernel
theorem dX11_ear_78 : decode cX11_ear 78 = .ok (.aaload, 1) := by decide +kernel
theorem dX11_ear_79 : decode cX11_ear 79 = .ok (.iload_n 2, 1) := by decide +kernel
theorem dX11_ear_80 : decode cX11_ear 80 = .ok (.iload 9, 2) := by decide +kernel
theorem dX11_ear_82 : decode cX11_ear 82 = .ok (.invokestatic 251, 3) := by decide +kernel
theorem dX11_ear_85 : decode cX11_ear 85 = .ok (.ladd, 1) := by decide +kernel
theorem dX11_ear_86 : decode cX11_ear 86 = .ok (.lstore 7, 2) := by decide +kernel
theorem dX11_ear_88 : decode cX11_ear 88 = .ok (.iinc 9 1, 3) := by decide +kernel
theorem dX11_ear_91 : decode cX11_ear 91 = .ok (.goto (-26), 3) := by decide +kernel
theorem dX11_ear_94 : decode cX11_ear 94 = .ok (.aload_n 0, 1) := by decide +kernel
theorem dX11_ear_95 : decode cX11_ear 95 = .ok (.getfield 58, 3) := by decide +kernel
theorem dX11_ear_98 : decode cX11_ear 98 = .ok (.iload_n 1, 1) := by decide +kernel
theorem dX11_ear_99 : decode cX11_ear 99 = .ok (.aaload, 1) := by decide +kernel
theorem dX11_ear_100 : decode cX11_ear 100 = .ok (.iload_n 2, 1) := by decide +kernel
theorem dX11_ear_101 : decode cX11_ear 101 = .ok (.iload_n 3, 1) := by decide +kernel
theorem dX11_ear_102 : decode cX11_ear 102 = .ok (.invokestatic 251, 3) := by decide +kernel
theorem dX11_ear_105 : decode cX11_ear 105 = .ok (.lload 7, 2) := by decide +kernel
theorem dX11_ear_107 : decode cX11_ear 107 = .ok (.iload 4, 2) := by decide +kernel
theorem dX11_ear_109 : decode cX11_ear 109 = .ok (.invokestatic 231, 3) := by decide +kernel
theorem dX11_ear_112 : decode cX11_ear 112 = .ok (.lreturn, 1) := by decide +kernel
theorem dX11_likeliest_0 : decode cX11_likeliest 0 = .ok (.iload_n 2, 1) := by decide +kernel
theorem dX11_likeliest_1 : decode cX11_likeliest 1 = .ok (.iconst 0, 1) := by decide +kernel
theorem dX11_likeliest_2 : decode cX11_likeliest 2 = .ok (.bipush 9, 2) := by decide +kernel
theorem dX11_likeliest_4 : decode cX11_likeliest 4 = .ok (.invokestatic 126, 3) := by decide +kernel
theorem dX11_likeliest_7 : decode cX11_likeliest 7 = .ok (.ifCond .eq 11, 3) := by decide +kernel
theorem dX11_likeliest_10 : decode cX11_likeliest 10 = .ok (.aload_n 0, 1) := by decide +kernel
theorem dX11_likeliest_11 : decode cX11_likeliest 11 = .ok (.iload_n 1, 1) := by decide +kernel
theorem dX11_likeliest_12 : decode cX11_likeliest 12 = .ok (.invokevirtual 248, 3) := by decide +kernel
theorem dX11_likeliest_15 : decode cX11_likeliest 15 = .ok (.goto 4, 3) := by decide +kernel
theorem dX11_likeliest_18 : decode cX11_likeliest 18 = .ok (.iconst (-1), 1) := by decide +kernel
theorem dX11_likeliest_19 : decode cX11_likeliest 19 = .ok (.istore_n 3, 1) := by decide +kernel
theorem dX11_likeliest_20 : decode cX11_likeliest 20 = .ok (.iload_n 3, 1) := by decide +kernel
theorem dX11_likeliest_21 : decode cX11_likeliest 21 = .ok (.ifCond .eq 5, 3) := by decide +kernel
theorem dX11_likeliest_24 : decode cX11_likeliest 24 = .ok (.iload_n 3, 1) := by decide +kernel
theorem dX11_likeliest_25 : decode cX11_likeliest 25 = .ok (.ireturn, 1) := by decide +kernel
theorem dX11_likeliest_26 : decode cX11_likeliest 26 = .ok (.iconst 0, 1) := by decide +kernel
theorem dX11_likeliest_27 : decode cX11_likeliest 27 = .ok (.istore 4, 2) := by decide +kernel
theorem dX11_likeliest_29 : decode cX11_likeliest 29 = .ok (.iconst 1, 1) := by decide +kernel
theorem dX11_likeliest_30 : decode cX11_likeliest 30 = .ok (.istore 5, 2) := by decide +kernel
theorem dX11_likeliest_32 : decode cX11_likeliest 32 = .ok (.iload 5, 2) := by decide +kernel
theorem dX11_likeliest_34 : decode cX11_likeliest 34 = .ok (.iconst 4, 1) := by decide +kernel
theorem dX11_likeliest_35 : decode cX11_likeliest 35 = .ok (.if_icmp .ge 41, 3) := by decide +kernel
theorem dX11_likeliest_38 : decode cX11_likeliest 38 = .ok (.aload_n 0, 1) := by decide +kernel
theorem dX11_likeliest_39 : decode cX11_likeliest 39 = .ok (.getfield 58, 3) := by decide +kernel
theorem dX11_likeliest_42 : decode cX11_likeliest 42 = .ok (.iload_n 1, 1) := by decide +kernel
theorem dX11_likeliest_43 : decode cX11_likeliest 43 = .ok (.aaload, 1) := by decide +kernel
theorem dX11_likeliest_44 : decode cX11_likeliest 44 = .ok (.iload_n 2, 1) := by decide +kernel
theorem dX11_likeliest_45 : decode cX11_likeliest 45 = .ok (.iload 5, 2) := by decide +kernel
theorem dX11_likeliest_47 : decode cX11_likeliest 47 = .ok (.invokestatic 251, 3) := by decide +kernel
theorem dX11_likeliest_50 : decode cX11_likeliest 50 = .ok (.aload_n 0, 1) := by decide +kernel
theorem dX11_likeliest_51 : decode cX11_likeliest 51 = .ok (.getfield 58, 3) := by decide +kernel
theorem dX11_likeliest_54 : decode cX11_likeliest 54 = .ok (.iload_n 1, 1) := by decide +kernel
theorem dX11_likeliest_55 : decode cX11_likeliest 55 = .ok (.aaload, 1) := by decide +kernel
theorem dX11_likeliest_56 : decode cX11_likeliest 56 = .ok (.iload_n 2, 1) := by decide +kernel
theorem dX11_likeliest_57 : decode cX11_likeliest 57 = .ok (.iload 4, 2) := by decide +kernel
theorem dX11_likeliest_59 : decode cX11_likeliest 59 = .ok (.invokestatic 251, 3) := by decide +kernel
theorem dX11_likeliest_62 : decode cX11_likeliest 62 = .ok (.lcmp, 1) := by decide +kernel
theorem dX11_likeliest_63 : decode cX11_likeliest 63 = .ok (.ifCond .le 7, 3) := by decide +kernel
theorem dX11_likeliest_66 : decode cX11_likeliest 66 = .ok (.iload 5, 2) := by decide +kernel
theorem dX11_likeliest_68 : decode cX11_likeliest 68 = .ok (.istore 4, 2) := by decide +kernel
theorem dX11_likeliest_70 : decode cX11_likeliest 70 = .ok (.iinc 5 1, 3) := by decide +kernel
theorem dX11_likeliest_73 : decode cX11_likeliest 73 = .ok (.goto (-41), 3) := by decide +kernel
theorem dX11_likeliest_76 : decode cX11_likeliest 76 = .ok (.iload 4, 2) := by decide +kernel
theorem dX11_likeliest_78 : decode cX11_likeliest 78 = .ok (.ireturn, 1) := by decide +kernel
theorem dX11_suspectsBy_0 : decode cX11_suspectsBy 0 = .ok (.iconst 0, 1) := by decide +kernel
theorem dX11_suspectsBy_1 : decode cX11_suspectsBy 1 = .ok (.istore_n 2, 1) := by decide +kernel
theorem dX11_suspectsBy_2 : decode cX11_suspectsBy 2 = .ok (.iconst 0, 1) := by decide +kernel
theorem dX11_suspectsBy_3 : decode cX11_suspectsBy 3 = .ok (.istore_n 3, 1) := by decide +kernel
theorem dX11_suspectsBy_4 : decode cX11_suspectsBy 4 = .ok (.iload_n 3, 1) := by decide +kernel
theorem dX11_suspectsBy_5 : decode cX11_suspectsBy 5 = .ok (.aload_n 0, 1) := by decide +kernel
theorem dX11_suspectsBy_6 : decode cX11_suspectsBy 6 = .ok (.getfield 42, 3) := by decide +kernel
theorem dX11_suspectsBy_9 : decode cX11_suspectsBy 9 = .ok (.getfield 203, 3) := by decide +kernel
theorem dX11_suspectsBy_12 : decode cX11_suspectsBy 12 = .ok (.if_icmp .ge 29, 3) := by decide +kernel
theorem dX11_suspectsBy_15 : decode cX11_suspectsBy 15 = .ok (.aload_n 0, 1) := by decide +kernel
theorem dX11_suspectsBy_16 : decode cX11_suspectsBy 16 = .ok (.getfield 42, 3) := by decide +kernel
theorem dX11_suspectsBy_19 : decode cX11_suspectsBy 19 = .ok (.aload_n 1, 1) := by decide +kernel
theorem dX11_suspectsBy_20 : decode cX11_suspectsBy 20 = .ok (.iconst 1, 1) := by decide +kernel
theorem dX11_suspectsBy_21 : decode cX11_suspectsBy 21 = .ok (.iload_n 3, 1) := by decide +kernel
theorem dX11_suspectsBy_22 : decode cX11_suspectsBy 22 = .ok (.ishl, 1) := by decide +kernel
theorem dX11_suspectsBy_23 : decode cX11_suspectsBy 23 = .ok (.invokevirtual 206, 3) := by decide +kernel
theorem dX11_suspectsBy_26 : decode cX11_suspectsBy 26 = .ok (.ifCond .eq 9, 3) := by decide +kernel
theorem dX11_suspectsBy_29 : decode cX11_suspectsBy 29 = .ok (.iload_n 2, 1) := by decide +kernel
theorem dX11_suspectsBy_30 : decode cX11_suspectsBy 30 = .ok (.iconst 1, 1) := by decide +kernel
theorem dX11_suspectsBy_31 : decode cX11_suspectsBy 31 = .ok (.iload_n 3, 1) := by decide +kernel
theorem dX11_suspectsBy_32 : decode cX11_suspectsBy 32 = .ok (.ishl, 1) := by decide +kernel
theorem dX11_suspectsBy_33 : decode cX11_suspectsBy 33 = .ok (.ior, 1) := by decide +kernel
theorem dX11_suspectsBy_34 : decode cX11_suspectsBy 34 = .ok (.istore_n 2, 1) := by decide +kernel
theorem dX11_suspectsBy_35 : decode cX11_suspectsBy 35 = .ok (.iinc 3 1, 3) := by decide +kernel
theorem dX11_suspectsBy_38 : decode cX11_suspectsBy 38 = .ok (.goto (-34), 3) := by decide +kernel
theorem dX11_suspectsBy_41 : decode cX11_suspectsBy 41 = .ok (.iload_n 2, 1) := by decide +kernel
theorem dX11_suspectsBy_42 : decode cX11_suspectsBy 42 = .ok (.ireturn, 1) := by decide +kernel
theorem dX11_pairsRefusal_0 : decode cX11_pairsRefusal 0 = .ok (.aload_n 0, 1) := by decide +kernel
theorem dX11_pairsRefusal_1 : decode cX11_pairsRefusal 1 = .ok (.iload_n 1, 1) := by decide +kernel
theorem dX11_pairsRefusal_2 : decode cX11_pairsRefusal 2 = .ok (.invokevirtual 70, 3) := by decide +kernel
theorem dX11_pairsRefusal_5 : decode cX11_pairsRefusal 5 = .ok (.istore_n 2, 1) := by decide +kernel
theorem dX11_pairsRefusal_6 : decode cX11_pairsRefusal 6 = .ok (.iload_n 2, 1) := by decide +kernel
theorem dX11_pairsRefusal_7 : decode cX11_pairsRefusal 7 = .ok (.ifCond .eq 5, 3) := by decide +kernel
theorem dX11_pairsRefusal_10 : decode cX11_pairsRefusal 10 = .ok (.iload_n 2, 1) := by decide +kernel
theorem dX11_pairsRefusal_11 : decode cX11_pairsRefusal 11 = .ok (.ireturn, 1) := by decide +kernel
theorem dX11_pairsRefusal_12 : decode cX11_pairsRefusal 12 = .ok (.aload_n 0, 1) := by decide +kernel
theorem dX11_pairsRefusal_13 : decode cX11_pairsRefusal 13 = .ok (.getfield 58, 3) := by decide +kernel
theorem dX11_pairsRefusal_16 : decode cX11_pairsRefusal 16 = .ok (.iload_n 1, 1) := by decide +kernel
theorem dX11_pairsRefusal_17 : decode cX11_pairsRefusal 17 = .ok (.aaload, 1) := by decide +kernel
theorem dX11_pairsRefusal_18 : decode cX11_pairsRefusal 18 = .ok (.invokevirtual 255, 3) := by decide +kernel
theorem dX11_pairsRefusal_21 : decode cX11_pairsRefusal 21 = .ok (.ifCond .eq 7, 3) := by decide +kernel
theorem dX11_pairsRefusal_24 : decode cX11_pairsRefusal 24 = .ok (.iconst 0, 1) := by decide +kernel
theorem dX11_pairsRefusal_25 : decode cX11_pairsRefusal 25 = .ok (.goto 5, 3) := by decide +kernel
theorem dX11_pairsRefusal_28 : decode cX11_pairsRefusal 28 = .ok (.bipush (-13), 2) := by decide +kernel
theorem dX11_pairsRefusal_30 : decode cX11_pairsRefusal 30 = .ok (.ireturn, 1) := by decide +kernel
theorem dX11_toldSeatsRefusal_0 : decode cX11_toldSeatsRefusal 0 = .ok (.aload_n 0, 1) := by decide +kernel
theorem dX11_toldSeatsRefusal_1 : decode cX11_toldSeatsRefusal 1 = .ok (.iload_n 1, 1) := by decide +kernel
theorem dX11_toldSeatsRefusal_2 : decode cX11_toldSeatsRefusal 2 = .ok (.invokevirtual 70, 3) := by decide +kernel
theorem dX11_toldSeatsRefusal_5 : decode cX11_toldSeatsRefusal 5 = .ok (.istore_n 2, 1) := by decide +kernel
theorem dX11_toldSeatsRefusal_6 : decode cX11_toldSeatsRefusal 6 = .ok (.iload_n 2, 1) := by decide +kernel
theorem dX11_toldSeatsRefusal_7 : decode cX11_toldSeatsRefusal 7 = .ok (.ifCond .eq 5, 3) := by decide +kernel
theorem dX11_toldSeatsRefusal_10 : decode cX11_toldSeatsRefusal 10 = .ok (.iload_n 2, 1) := by decide +kernel
theorem dX11_toldSeatsRefusal_11 : decode cX11_toldSeatsRefusal 11 = .ok (.ireturn, 1) := by decide +kernel
theorem dX11_toldSeatsRefusal_12 : decode cX11_toldSeatsRefusal 12 = .ok (.aload_n 0, 1) := by decide +kernel
theorem dX11_toldSeatsRefusal_13 : decode cX11_toldSeatsRefusal 13 = .ok (.getfield 58, 3) := by decide +kernel
theorem dX11_toldSeatsRefusal_16 : decode cX11_toldSeatsRefusal 16 = .ok (.iload_n 1, 1) := by decide +kernel
theorem dX11_toldSeatsRefusal_17 : decode cX11_toldSeatsRefusal 17 = .ok (.aaload, 1) := by decide +kernel
theorem dX11_toldSeatsRefusal_18 : decode cX11_toldSeatsRefusal 18 = .ok (.astore_n 3, 1) := by decide +kernel
theorem dX11_toldSeatsRefusal_19 : decode cX11_toldSeatsRefusal 19 = .ok (.aload_n 3, 1) := by decide +kernel
theorem dX11_toldSeatsRefusal_20 : decode cX11_toldSeatsRefusal 20 = .ok (.getfield 259, 3) := by decide +kernel
theorem dX11_toldSeatsRefusal_23 : decode cX11_toldSeatsRefusal 23 = .ok (.bipush 8, 2) := by decide +kernel
theorem dX11_toldSeatsRefusal_25 : decode cX11_toldSeatsRefusal 25 = .ok (.if_icmp .le 6, 3) := by decide +kernel
theorem dX11_toldSeatsRefusal_28 : decode cX11_toldSeatsRefusal 28 = .ok (.bipush (-13), 2) := by decide +kernel
theorem dX11_toldSeatsRefusal_30 : decode cX11_toldSeatsRefusal 30 = .ok (.ireturn, 1) := by decide +kernel
theorem dX11_toldSeatsRefusal_31 : decode cX11_toldSeatsRefusal 31 = .ok (.iconst 0, 1) := by decide +kernel
theorem dX11_toldSeatsRefusal_32 : decode cX11_toldSeatsRefusal 32 = .ok (.istore 4, 2) := by decide +kernel
theorem dX11_toldSeatsRefusal_34 : decode cX11_toldSeatsRefusal 34 = .ok (.iload 4, 2) := by decide +kernel
theorem dX11_toldSeatsRefusal_36 : decode cX11_toldSeatsRefusal 36 = .ok (.aload_n 3, 1) := by decide +kernel
theorem dX11_toldSeatsRefusal_37 : decode cX11_toldSeatsRefusal 37 = .ok (.getfield 259, 3) := by decide +kernel
theorem dX11_toldSeatsRefusal_40 : decode cX11_toldSeatsRefusal 40 = .ok (.if_icmp .ge 25, 3) := by decide +kernel
theorem dX11_toldSeatsRefusal_43 : decode cX11_toldSeatsRefusal 43 = .ok (.aload_n 3, 1) := by decide +kernel
theorem dX11_toldSeatsRefusal_44 : decode cX11_toldSeatsRefusal 44 = .ok (.getfield 262, 3) := by decide +kernel
theorem dX11_toldSeatsRefusal_47 : decode cX11_toldSeatsRefusal 47 = .ok (.iload 4, 2) := by decide +kernel
theorem dX11_toldSeatsRefusal_49 : decode cX11_toldSeatsRefusal 49 = .ok (.iaload, 1) := by decide +kernel
theorem dX11_toldSeatsRefusal_50 : decode cX11_toldSeatsRefusal 50 = .ok (.invokestatic 123, 3) := by decide +kernel
theorem dX11_toldSeatsRefusal_53 : decode cX11_toldSeatsRefusal 53 = .ok (.ifCond .ne 6, 3) := by decide +kernel
theorem dX11_toldSeatsRefusal_56 : decode cX11_toldSeatsRefusal 56 = .ok (.bipush (-13), 2) := by decide +kernel
theorem dX11_toldSeatsRefusal_58 : decode cX11_toldSeatsRefusal 58 = .ok (.ireturn, 1) := by decide +kernel
theorem dX11_toldSeatsRefusal_59 : decode cX11_toldSeatsRefusal 59 = .ok (.iinc 4 1, 3) := by decide +kernel
theorem dX11_toldSeatsRefusal_62 : decode cX11_toldSeatsRefusal 62 = .ok (.goto (-28), 3) := by decide +kernel
theorem dX11_toldSeatsRefusal_65 : decode cX11_toldSeatsRefusal 65 = .ok (.iconst 0, 1) := by decide +kernel
theorem dX11_toldSeatsRefusal_66 : decode cX11_toldSeatsRefusal 66 = .ok (.ireturn, 1) := by decide +kernel
theorem dX11_likelihood_0 : decode cX11_likelihood 0 = .ok (.lconst 1, 1) := by decide +kernel
theorem dX11_likelihood_1 : decode cX11_likelihood 1 = .ok (.lstore_n 3, 1) := by decide +kernel
theorem dX11_likelihood_2 : decode cX11_likelihood 2 = .ok (.iconst 0, 1) := by decide +kernel
theorem dX11_likelihood_3 : decode cX11_likelihood 3 = .ok (.istore 5, 2) := by decide +kernel
theorem dX11_likelihood_5 : decode cX11_likelihood 5 = .ok (.iload 5, 2) := by decide +kernel
theorem dX11_likelihood_7 : decode cX11_likelihood 7 = .ok (.aload_n 0, 1) := by decide +kernel
theorem dX11_likelihood_8 : decode cX11_likelihood 8 = .ok (.getfield 259, 3) := by decide +kernel
theorem dX11_likelihood_11 : decode cX11_likelihood 11 = .ok (.if_icmp .ge 35, 3) := by decide +kernel
theorem dX11_likelihood_14 : decode cX11_likelihood 14 = .ok (.lload_n 3, 1) := by decide +kernel
theorem dX11_likelihood_15 : decode cX11_likelihood 15 = .ok (.aload_n 0, 1) := by decide +kernel
theorem dX11_likelihood_16 : decode cX11_likelihood 16 = .ok (.getfield 262, 3) := by decide +kernel
theorem dX11_likelihood_19 : decode cX11_likelihood 19 = .ok (.iload 5, 2) := by decide +kernel
theorem dX11_likelihood_21 : decode cX11_likelihood 21 = .ok (.iaload, 1) := by decide +kernel
theorem dX11_likelihood_22 : decode cX11_likelihood 22 = .ok (.iload_n 2, 1) := by decide +kernel
theorem dX11_likelihood_23 : decode cX11_likelihood 23 = .ok (.if_icmp .ne 10, 3) := by decide +kernel
theorem dX11_likelihood_26 : decode cX11_likelihood 26 = .ok (.iconst 3, 1) := by decide +kernel
theorem dX11_likelihood_27 : decode cX11_likelihood 27 = .ok (.iload_n 1, 1) := by decide +kernel
theorem dX11_likelihood_28 : decode cX11_likelihood 28 = .ok (.imul, 1) := by decide +kernel
theorem dX11_likelihood_29 : decode cX11_likelihood 29 = .ok (.i2l, 1) := by decide +kernel
theorem dX11_likelihood_30 : decode cX11_likelihood 30 = .ok (.goto 8, 3) := by decide +kernel
theorem dX11_likelihood_33 : decode cX11_likelihood 33 = .ok (.bipush 10, 2) := by decide +kernel
theorem dX11_likelihood_35 : decode cX11_likelihood 35 = .ok (.iload_n 1, 1) := by decide +kernel
theorem dX11_likelihood_36 : decode cX11_likelihood 36 = .ok (.isub, 1) := by decide +kernel
theorem dX11_likelihood_37 : decode cX11_likelihood 37 = .ok (.i2l, 1) := by decide +kernel
theorem dX11_likelihood_38 : decode cX11_likelihood 38 = .ok (.lmul, 1) := by decide +kernel
theorem dX11_likelihood_39 : decode cX11_likelihood 39 = .ok (.lstore_n 3, 1) := by decide +kernel
theorem dX11_likelihood_40 : decode cX11_likelihood 40 = .ok (.iinc 5 1, 3) := by decide +kernel
theorem dX11_likelihood_43 : decode cX11_likelihood 43 = .ok (.goto (-38), 3) := by decide +kernel
theorem dX11_likelihood_46 : decode cX11_likelihood 46 = .ok (.lload_n 3, 1) := by decide +kernel
theorem dX11_likelihood_47 : decode cX11_likelihood 47 = .ok (.lreturn, 1) := by decide +kernel
theorem dX11_drivesByHalves_0 : decode cX11_drivesByHalves 0 = .ok (.iconst 0, 1) := by decide +kernel
theorem dX11_drivesByHalves_1 : decode cX11_drivesByHalves 1 = .ok (.istore_n 2, 1) := by decide +kernel
theorem dX11_drivesByHalves_2 : decode cX11_drivesByHalves 2 = .ok (.aload_n 0, 1) := by decide +kernel
theorem dX11_drivesByHalves_3 : decode cX11_drivesByHalves 3 = .ok (.iload_n 1, 1) := by decide +kernel
theorem dX11_drivesByHalves_4 : decode cX11_drivesByHalves 4 = .ok (.invokevirtual 265, 3) := by decide +kernel
theorem dX11_drivesByHalves_7 : decode cX11_drivesByHalves 7 = .ok (.istore_n 3, 1) := by decide +kernel
theorem dX11_drivesByHalves_8 : decode cX11_drivesByHalves 8 = .ok (.iload_n 3, 1) := by decide +kernel
theorem dX11_drivesByHalves_9 : decode cX11_drivesByHalves 9 = .ok (.iconst 1, 1) := by decide +kernel
theorem dX11_drivesByHalves_10 : decode cX11_drivesByHalves 10 = .ok (.if_icmp .le 51, 3) := by decide +kernel
theorem dX11_drivesByHalves_13 : decode cX11_drivesByHalves 13 = .ok (.aload_n 0, 1) := by decide +kernel
theorem dX11_drivesByHalves_14 : decode cX11_drivesByHalves 14 = .ok (.iload_n 3, 1) := by decide +kernel
theorem dX11_drivesByHalves_15 : decode cX11_drivesByHalves 15 = .ok (.invokevirtual 268, 3) := by decide +kernel
theorem dX11_drivesByHalves_18 : decode cX11_drivesByHalves 18 = .ok (.aload_n 0, 1) := by decide +kernel
theorem dX11_drivesByHalves_19 : decode cX11_drivesByHalves 19 = .ok (.iload_n 3, 1) := by decide +kernel
theorem dX11_drivesByHalves_20 : decode cX11_drivesByHalves 20 = .ok (.iconst 1, 1) := by decide +kernel
theorem dX11_drivesByHalves_21 : decode cX11_drivesByHalves 21 = .ok (.isub, 1) := by decide +kernel
theorem dX11_drivesByHalves_22 : decode cX11_drivesByHalves 22 = .ok (.invokevirtual 268, 3) := by decide +kernel
theorem dX11_drivesByHalves_25 : decode cX11_drivesByHalves 25 = .ok (.aload_n 0, 1) := by decide +kernel
theorem dX11_drivesByHalves_26 : decode cX11_drivesByHalves 26 = .ok (.getfield 63, 3) := by decide +kernel
theorem dX11_drivesByHalves_29 : decode cX11_drivesByHalves 29 = .ok (.iload_n 3, 1) := by decide +kernel
theorem dX11_drivesByHalves_30 : decode cX11_drivesByHalves 30 = .ok (.iconst 2, 1) := by decide +kernel
theorem dX11_drivesByHalves_31 : decode cX11_drivesByHalves 31 = .ok (.isub, 1) := by decide +kernel
theorem dX11_drivesByHalves_32 : decode cX11_drivesByHalves 32 = .ok (.dup2, 1) := by decide +kernel
theorem dX11_drivesByHalves_33 : decode cX11_drivesByHalves 33 = .ok (.iaload, 1) := by decide +kernel
theorem dX11_drivesByHalves_34 : decode cX11_drivesByHalves 34 = .ok (.aload_n 0, 1) := by decide +kernel
theorem dX11_drivesByHalves_35 : decode cX11_drivesByHalves 35 = .ok (.getfield 63, 3) := by decide +kernel
theorem dX11_drivesByHalves_38 : decode cX11_drivesByHalves 38 = .ok (.iload_n 3, 1) := by decide +kernel
theorem dX11_drivesByHalves_39 : decode cX11_drivesByHalves 39 = .ok (.iconst 1, 1) := by decide +kernel
theorem dX11_drivesByHalves_40 : decode cX11_drivesByHalves 40 = .ok (.isub, 1) := by decide +kernel
theorem dX11_drivesByHalves_41 : decode cX11_drivesByHalves 41 = .ok (.iaload, 1) := by decide +kernel
theorem dX11_drivesByHalves_42 : decode cX11_drivesByHalves 42 = .ok (.iadd, 1) := by decide +kernel
theorem dX11_drivesByHalves_43 : decode cX11_drivesByHalves 43 = .ok (.iastore, 1) := by decide +kernel
theorem dX11_drivesByHalves_44 : decode cX11_drivesByHalves 44 = .ok (.iload_n 2, 1) := by decide +kernel
theorem dX11_drivesByHalves_45 : decode cX11_drivesByHalves 45 = .ok (.aload_n 0, 1) := by decide +kernel
theorem dX11_drivesByHalves_46 : decode cX11_drivesByHalves 46 = .ok (.getfield 63, 3) := by decide +kernel
theorem dX11_drivesByHalves_49 : decode cX11_drivesByHalves 49 = .ok (.iload_n 3, 1) := by decide +kernel
theorem dX11_drivesByHalves_50 : decode cX11_drivesByHalves 50 = .ok (.iconst 2, 1) := by decide +kernel
theorem dX11_drivesByHalves_51 : decode cX11_drivesByHalves 51 = .ok (.isub, 1) := by decide +kernel
theorem dX11_drivesByHalves_52 : decode cX11_drivesByHalves 52 = .ok (.iaload, 1) := by decide +kernel
theorem dX11_drivesByHalves_53 : decode cX11_drivesByHalves 53 = .ok (.iadd, 1) := by decide +kernel
theorem dX11_drivesByHalves_54 : decode cX11_drivesByHalves 54 = .ok (.istore_n 2, 1) := by decide +kernel
theorem dX11_drivesByHalves_55 : decode cX11_drivesByHalves 55 = .ok (.iinc 3 (-1), 3) := by decide +kernel
theorem dX11_drivesByHalves_58 : decode cX11_drivesByHalves 58 = .ok (.goto (-50), 3) := by decide +kernel
theorem dX11_drivesByHalves_61 : decode cX11_drivesByHalves 61 = .ok (.iload_n 2, 1) := by decide +kernel
theorem dX11_drivesByHalves_62 : decode cX11_drivesByHalves 62 = .ok (.ireturn, 1) := by decide +kernel
theorem dX11_drivesOneByOne_0 : decode cX11_drivesOneByOne 0 = .ok (.aload_n 0, 1) := by decide +kernel
theorem dX11_drivesOneByOne_1 : decode cX11_drivesOneByOne 1 = .ok (.getfield 42, 3) := by decide +kernel
theorem dX11_drivesOneByOne_4 : decode cX11_drivesOneByOne 4 = .ok (.iload_n 1, 1) := by decide +kernel
theorem dX11_drivesOneByOne_5 : decode cX11_drivesOneByOne 5 = .ok (.invokevirtual 210, 3) := by decide +kernel
theorem dX11_drivesOneByOne_8 : decode cX11_drivesOneByOne 8 = .ok (.istore_n 2, 1) := by decide +kernel
theorem dX11_drivesOneByOne_9 : decode cX11_drivesOneByOne 9 = .ok (.iconst 0, 1) := by decide +kernel
theorem dX11_drivesOneByOne_10 : decode cX11_drivesOneByOne 10 = .ok (.istore_n 3, 1) := by decide +kernel
theorem dX11_drivesOneByOne_11 : decode cX11_drivesOneByOne 11 = .ok (.aload_n 0, 1) := by decide +kernel
theorem dX11_drivesOneByOne_12 : decode cX11_drivesOneByOne 12 = .ok (.iload_n 1, 1) := by decide +kernel
theorem dX11_drivesOneByOne_13 : decode cX11_drivesOneByOne 13 = .ok (.invokevirtual 265, 3) := by decide +kernel
theorem dX11_drivesOneByOne_16 : decode cX11_drivesOneByOne 16 = .ok (.istore 4, 2) := by decide +kernel
theorem dX11_drivesOneByOne_18 : decode cX11_drivesOneByOne 18 = .ok (.iload 4, 2) := by decide +kernel
theorem dX11_drivesOneByOne_20 : decode cX11_drivesOneByOne 20 = .ok (.iconst 1, 1) := by decide +kernel
theorem dX11_drivesOneByOne_21 : decode cX11_drivesOneByOne 21 = .ok (.if_icmp .le 31, 3) := by decide +kernel
theorem dX11_drivesOneByOne_24 : decode cX11_drivesOneByOne 24 = .ok (.iload_n 3, 1) := by decide +kernel
theorem dX11_drivesOneByOne_25 : decode cX11_drivesOneByOne 25 = .ok (.iload_n 2, 1) := by decide +kernel
theorem dX11_drivesOneByOne_26 : decode cX11_drivesOneByOne 26 = .ok (.iadd, 1) := by decide +kernel
theorem dX11_drivesOneByOne_27 : decode cX11_drivesOneByOne 27 = .ok (.istore_n 3, 1) := by decide +kernel
theorem dX11_drivesOneByOne_28 : decode cX11_drivesOneByOne 28 = .ok (.aload_n 0, 1) := by decide +kernel
theorem dX11_drivesOneByOne_29 : decode cX11_drivesOneByOne 29 = .ok (.iload 4, 2) := by decide +kernel
theorem dX11_drivesOneByOne_31 : decode cX11_drivesOneByOne 31 = .ok (.invokevirtual 271, 3) := by decide +kernel
theorem dX11_drivesOneByOne_34 : decode cX11_drivesOneByOne 34 = .ok (.iload_n 2, 1) := by decide +kernel
theorem dX11_drivesOneByOne_35 : decode cX11_drivesOneByOne 35 = .ok (.aload_n 0, 1) := by decide +kernel
theorem dX11_drivesOneByOne_36 : decode cX11_drivesOneByOne 36 = .ok (.getfield 63, 3) := by decide +kernel
theorem dX11_drivesOneByOne_39 : decode cX11_drivesOneByOne 39 = .ok (.iload 4, 2) := by decide +kernel
theorem dX11_drivesOneByOne_41 : decode cX11_drivesOneByOne 41 = .ok (.iconst 1, 1) := by decide +kernel
theorem dX11_drivesOneByOne_42 : decode cX11_drivesOneByOne 42 = .ok (.isub, 1) := by decide +kernel
theorem dX11_drivesOneByOne_43 : decode cX11_drivesOneByOne 43 = .ok (.iaload, 1) := by decide +kernel
theorem dX11_drivesOneByOne_44 : decode cX11_drivesOneByOne 44 = .ok (.isub, 1) := by decide +kernel
theorem dX11_drivesOneByOne_45 : decode cX11_drivesOneByOne 45 = .ok (.istore_n 2, 1) := by decide +kernel
theorem dX11_drivesOneByOne_46 : decode cX11_drivesOneByOne 46 = .ok (.iinc 4 (-1), 3) := by decide +kernel
theorem dX11_drivesOneByOne_49 : decode cX11_drivesOneByOne 49 = .ok (.goto (-31), 3) := by decide +kernel
theorem dX11_drivesOneByOne_52 : decode cX11_drivesOneByOne 52 = .ok (.iload_n 3, 1) := by decide +kernel
theorem dX11_drivesOneByOne_53 : decode cX11_drivesOneByOne 53 = .ok (.ireturn, 1) := by decide +kernel
theorem dX11_fillPool_0 : decode cX11_fillPool 0 = .ok (.iconst 0, 1) := by decide +kernel
theorem dX11_fillPool_1 : decode cX11_fillPool 1 = .ok (.istore_n 2, 1) := by decide +kernel
theorem dX11_fillPool_2 : decode cX11_fillPool 2 = .ok (.iconst 0, 1) := by decide +kernel
theorem dX11_fillPool_3 : decode cX11_fillPool 3 = .ok (.istore_n 3, 1) := by decide +kernel
theorem dX11_fillPool_4 : decode cX11_fillPool 4 = .ok (.iload_n 3, 1) := by decide +kernel
theorem dX11_fillPool_5 : decode cX11_fillPool 5 = .ok (.aload_n 0, 1) := by decide +kernel
theorem dX11_fillPool_6 : decode cX11_fillPool 6 = .ok (.getfield 42, 3) := by decide +kernel
theorem dX11_fillPool_9 : decode cX11_fillPool 9 = .ok (.getfield 203, 3) := by decide +kernel
theorem dX11_fillPool_12 : decode cX11_fillPool 12 = .ok (.if_icmp .ge 36, 3) := by decide +kernel
theorem dX11_fillPool_15 : decode cX11_fillPool 15 = .ok (.iload_n 1, 1) := by decide +kernel
theorem dX11_fillPool_16 : decode cX11_fillPool 16 = .ok (.iload_n 3, 1) := by decide +kernel
theorem dX11_fillPool_17 : decode cX11_fillPool 17 = .ok (.ishr, 1) := by decide +kernel
theorem dX11_fillPool_18 : decode cX11_fillPool 18 = .ok (.iconst 1, 1) := by decide +kernel
theorem dX11_fillPool_19 : decode cX11_fillPool 19 = .ok (.iand, 1) := by decide +kernel
theorem dX11_fillPool_20 : decode cX11_fillPool 20 = .ok (.iconst 1, 1) := by decide +kernel
theorem dX11_fillPool_21 : decode cX11_fillPool 21 = .ok (.if_icmp .ne 21, 3) := by decide +kernel
theorem dX11_fillPool_24 : decode cX11_fillPool 24 = .ok (.aload_n 0, 1) := by decide +kernel
theorem dX11_fillPool_25 : decode cX11_fillPool 25 = .ok (.getfield 63, 3) := by decide +kernel
theorem dX11_fillPool_28 : decode cX11_fillPool 28 = .ok (.iload_n 2, 1) := by decide +kernel
theorem dX11_fillPool_29 : decode cX11_fillPool 29 = .ok (.aload_n 0, 1) := by decide +kernel
theorem dX11_fillPool_30 : decode cX11_fillPool 30 = .ok (.getfield 42, 3) := by decide +kernel
theorem dX11_fillPool_33 : decode cX11_fillPool 33 = .ok (.getfield 105, 3) := by decide +kernel
theorem dX11_fillPool_36 : decode cX11_fillPool 36 = .ok (.iload_n 3, 1) := by decide +kernel
theorem dX11_fillPool_37 : decode cX11_fillPool 37 = .ok (.iaload, 1) := by decide +kernel
theorem dX11_fillPool_38 : decode cX11_fillPool 38 = .ok (.iastore, 1) := by decide +kernel
theorem dX11_fillPool_39 : decode cX11_fillPool 39 = .ok (.iinc 2 1, 3) := by decide +kernel
theorem dX11_fillPool_42 : decode cX11_fillPool 42 = .ok (.iinc 3 1, 3) := by decide +kernel
theorem dX11_fillPool_45 : decode cX11_fillPool 45 = .ok (.goto (-41), 3) := by decide +kernel
theorem dX11_fillPool_48 : decode cX11_fillPool 48 = .ok (.iload_n 2, 1) := by decide +kernel
theorem dX11_fillPool_49 : decode cX11_fillPool 49 = .ok (.ireturn, 1) := by decide +kernel
theorem dX11_moveLeastToEnd_0 : decode cX11_moveLeastToEnd 0 = .ok (.iconst 1, 1) := by decide +kernel
theorem dX11_moveLeastToEnd_1 : decode cX11_moveLeastToEnd 1 = .ok (.istore_n 2, 1) := by decide +kernel
theorem dX11_moveLeastToEnd_2 : decode cX11_moveLeastToEnd 2 = .ok (.iload_n 2, 1) := by decide +kernel
theorem dX11_moveLeastToEnd_3 : decode cX11_moveLeastToEnd 3 = .ok (.iload_n 1, 1) := by decide +kernel
theorem dX11_moveLeastToEnd_4 : decode cX11_moveLeastToEnd 4 = .ok (.if_icmp .ge 40, 3) := by decide +kernel
theorem dX11_moveLeastToEnd_7 : decode cX11_moveLeastToEnd 7 = .ok (.iload_n 2, 1) := by decide +kernel
theorem dX11_moveLeastToEnd_8 : decode cX11_moveLeastToEnd 8 = .ok (.aload_n 0, 1) := by decide +kernel
theorem dX11_moveLeastToEnd_9 : decode cX11_moveLeastToEnd 9 = .ok (.getfield 63, 3) := by decide +kernel
theorem dX11_moveLeastToEnd_12 : decode cX11_moveLeastToEnd 12 = .ok (.arraylength, 1) := by decide +kernel
theorem dX11_moveLeastToEnd_13 : decode cX11_moveLeastToEnd 13 = .ok (.if_icmp .ge 31, 3) := by decide +kernel
theorem dX11_moveLeastToEnd_16 : decode cX11_moveLeastToEnd 16 = .ok (.aload_n 0, 1) := by decide +kernel
theorem dX11_moveLeastToEnd_17 : decode cX11_moveLeastToEnd 17 = .ok (.getfield 63, 3) := by decide +kernel
theorem dX11_moveLeastToEnd_20 : decode cX11_moveLeastToEnd 20 = .ok (.iload_n 2, 1) := by decide +kernel
theorem dX11_moveLeastToEnd_21 : decode cX11_moveLeastToEnd 21 = .ok (.iconst 1, 1) := by decide +kernel
theorem dX11_moveLeastToEnd_22 : decode cX11_moveLeastToEnd 22 = .ok (.isub, 1) := by decide +kernel
theorem dX11_moveLeastToEnd_23 : decode cX11_moveLeastToEnd 23 = .ok (.iaload, 1) := by decide +kernel
theorem dX11_moveLeastToEnd_24 : decode cX11_moveLeastToEnd 24 = .ok (.aload_n 0, 1) := by decide +kernel
theorem dX11_moveLeastToEnd_25 : decode cX11_moveLeastToEnd 25 = .ok (.getfield 63, 3) := by decide +kernel
theorem dX11_moveLeastToEnd_28 : decode cX11_moveLeastToEnd 28 = .ok (.iload_n 2, 1) := by decide +kernel
theorem dX11_moveLeastToEnd_29 : decode cX11_moveLeastToEnd 29 = .ok (.iaload, 1) := by decide +kernel
theorem dX11_moveLeastToEnd_30 : decode cX11_moveLeastToEnd 30 = .ok (.if_icmp .ge 8, 3) := by decide +kernel
theorem dX11_moveLeastToEnd_33 : decode cX11_moveLeastToEnd 33 = .ok (.aload_n 0, 1) := by decide +kernel
theorem dX11_moveLeastToEnd_34 : decode cX11_moveLeastToEnd 34 = .ok (.iload_n 2, 1) := by decide +kernel
theorem dX11_moveLeastToEnd_35 : decode cX11_moveLeastToEnd 35 = .ok (.invokevirtual 274, 3) := by decide +kernel
theorem dX11_moveLeastToEnd_38 : decode cX11_moveLeastToEnd 38 = .ok (.iinc 2 1, 3) := by decide +kernel
theorem dX11_moveLeastToEnd_41 : decode cX11_moveLeastToEnd 41 = .ok (.goto (-39), 3) := by decide +kernel
theorem dX11_moveLeastToEnd_44 : decode cX11_moveLeastToEnd 44 = .ok (.return_, 1) := by decide +kernel
theorem dX11_moveGreatestToEnd_0 : decode cX11_moveGreatestToEnd 0 = .ok (.iconst 1, 1) := by decide +kernel
theorem dX11_moveGreatestToEnd_1 : decode cX11_moveGreatestToEnd 1 = .ok (.istore_n 2, 1) := by decide +kernel
theorem dX11_moveGreatestToEnd_2 : decode cX11_moveGreatestToEnd 2 = .ok (.iload_n 2, 1) := by decide +kernel
theorem dX11_moveGreatestToEnd_3 : decode cX11_moveGreatestToEnd 3 = .ok (.iload_n 1, 1) := by decide +kernel
theorem dX11_moveGreatestToEnd_4 : decode cX11_moveGreatestToEnd 4 = .ok (.if_icmp .ge 40, 3) := by decide +kernel
theorem dX11_moveGreatestToEnd_7 : decode cX11_moveGreatestToEnd 7 = .ok (.iload_n 2, 1) := by decide +kernel
theorem dX11_moveGreatestToEnd_8 : decode cX11_moveGreatestToEnd 8 = .ok (.aload_n 0, 1) := by decide +kernel
theorem dX11_moveGreatestToEnd_9 : decode cX11_moveGreatestToEnd 9 = .ok (.getfield 63, 3) := by decide +kernel
theorem dX11_moveGreatestToEnd_12 : decode cX11_moveGreatestToEnd 12 = .ok (.arraylength, 1) := by decide +kernel
theorem dX11_moveGreatestToEnd_13 : decode cX11_moveGreatestToEnd 13 = .ok (.if_icmp .ge 31, 3) := by decide +kernel
theorem dX11_moveGreatestToEnd_16 : decode cX11_moveGreatestToEnd 16 = .ok (.aload_n 0, 1) := by decide +kernel
theorem dX11_moveGreatestToEnd_17 : decode cX11_moveGreatestToEnd 17 = .ok (.getfield 63, 3) := by decide +kernel
theorem dX11_moveGreatestToEnd_20 : decode cX11_moveGreatestToEnd 20 = .ok (.iload_n 2, 1) := by decide +kernel
theorem dX11_moveGreatestToEnd_21 : decode cX11_moveGreatestToEnd 21 = .ok (.iconst 1, 1) := by decide +kernel
theorem dX11_moveGreatestToEnd_22 : decode cX11_moveGreatestToEnd 22 = .ok (.isub, 1) := by decide +kernel
theorem dX11_moveGreatestToEnd_23 : decode cX11_moveGreatestToEnd 23 = .ok (.iaload, 1) := by decide +kernel
theorem dX11_moveGreatestToEnd_24 : decode cX11_moveGreatestToEnd 24 = .ok (.aload_n 0, 1) := by decide +kernel
theorem dX11_moveGreatestToEnd_25 : decode cX11_moveGreatestToEnd 25 = .ok (.getfield 63, 3) := by decide +kernel
theorem dX11_moveGreatestToEnd_28 : decode cX11_moveGreatestToEnd 28 = .ok (.iload_n 2, 1) := by decide +kernel
theorem dX11_moveGreatestToEnd_29 : decode cX11_moveGreatestToEnd 29 = .ok (.iaload, 1) := by decide +kernel
theorem dX11_moveGreatestToEnd_30 : decode cX11_moveGreatestToEnd 30 = .ok (.if_icmp .le 8, 3) := by decide +kernel
theorem dX11_moveGreatestToEnd_33 : decode cX11_moveGreatestToEnd 33 = .ok (.aload_n 0, 1) := by decide +kernel
theorem dX11_moveGreatestToEnd_34 : decode cX11_moveGreatestToEnd 34 = .ok (.iload_n 2, 1) := by decide +kernel
theorem dX11_moveGreatestToEnd_35 : decode cX11_moveGreatestToEnd 35 = .ok (.invokevirtual 274, 3) := by decide +kernel
theorem dX11_moveGreatestToEnd_38 : decode cX11_moveGreatestToEnd 38 = .ok (.iinc 2 1, 3) := by decide +kernel
theorem dX11_moveGreatestToEnd_41 : decode cX11_moveGreatestToEnd 41 = .ok (.goto (-39), 3) := by decide +kernel
theorem dX11_moveGreatestToEnd_44 : decode cX11_moveGreatestToEnd 44 = .ok (.return_, 1) := by decide +kernel
theorem dX11_swapInPool_0 : decode cX11_swapInPool 0 = .ok (.iload_n 1, 1) := by decide +kernel
theorem dX11_swapInPool_1 : decode cX11_swapInPool 1 = .ok (.iconst 1, 1) := by decide +kernel
theorem dX11_swapInPool_2 : decode cX11_swapInPool 2 = .ok (.aload_n 0, 1) := by decide +kernel
theorem dX11_swapInPool_3 : decode cX11_swapInPool 3 = .ok (.getfield 63, 3) := by decide +kernel
theorem dX11_swapInPool_6 : decode cX11_swapInPool 6 = .ok (.arraylength, 1) := by decide +kernel
theorem dX11_swapInPool_7 : decode cX11_swapInPool 7 = .ok (.iconst 1, 1) := by decide +kernel
theorem dX11_swapInPool_8 : decode cX11_swapInPool 8 = .ok (.isub, 1) := by decide +kernel
theorem dX11_swapInPool_9 : decode cX11_swapInPool 9 = .ok (.invokestatic 126, 3) := by decide +kernel
theorem dX11_swapInPool_12 : decode cX11_swapInPool 12 = .ok (.ifCond .eq 33, 3) := by decide +kernel
theorem dX11_swapInPool_15 : decode cX11_swapInPool 15 = .ok (.aload_n 0, 1) := by decide +kernel
theorem dX11_swapInPool_16 : decode cX11_swapInPool 16 = .ok (.getfield 63, 3) := by decide +kernel
theorem dX11_swapInPool_19 : decode cX11_swapInPool 19 = .ok (.iload_n 1, 1) := by decide +kernel
theorem dX11_swapInPool_20 : decode cX11_swapInPool 20 = .ok (.iconst 1, 1) := by decide +kernel
theorem dX11_swapInPool_21 : decode cX11_swapInPool 21 = .ok (.isub, 1) := by decide +kernel
theorem dX11_swapInPool_22 : decode cX11_swapInPool 22 = .ok (.iaload, 1) := by decide +kernel
theorem dX11_swapInPool_23 : decode cX11_swapInPool 23 = .ok (.istore_n 2, 1) := by decide +kernel
theorem dX11_swapInPool_24 : decode cX11_swapInPool 24 = .ok (.aload_n 0, 1) := by decide +kernel
theorem dX11_swapInPool_25 : decode cX11_swapInPool 25 = .ok (.getfield 63, 3) := by decide +kernel
theorem dX11_swapInPool_28 : decode cX11_swapInPool 28 = .ok (.iload_n 1, 1) := by decide +kernel
theorem dX11_swapInPool_29 : decode cX11_swapInPool 29 = .ok (.iconst 1, 1) := by decide +kernel
theorem dX11_swapInPool_30 : decode cX11_swapInPool 30 = .ok (.isub, 1) := by decide +kernel
theorem dX11_swapInPool_31 : decode cX11_swapInPool 31 = .ok (.aload_n 0, 1) := by decide +kernel
theorem dX11_swapInPool_32 : decode cX11_swapInPool 32 = .ok (.getfield 63, 3) := by decide +kernel
theorem dX11_swapInPool_35 : decode cX11_swapInPool 35 = .ok (.iload_n 1, 1) := by decide +kernel
theorem dX11_swapInPool_36 : decode cX11_swapInPool 36 = .ok (.iaload, 1) := by decide +kernel
theorem dX11_swapInPool_37 : decode cX11_swapInPool 37 = .ok (.iastore, 1) := by decide +kernel
theorem dX11_swapInPool_38 : decode cX11_swapInPool 38 = .ok (.aload_n 0, 1) := by decide +kernel
theorem dX11_swapInPool_39 : decode cX11_swapInPool 39 = .ok (.getfield 63, 3) := by decide +kernel
theorem dX11_swapInPool_42 : decode cX11_swapInPool 42 = .ok (.iload_n 1, 1) := by decide +kernel
theorem dX11_swapInPool_43 : decode cX11_swapInPool 43 = .ok (.iload_n 2, 1) := by decide +kernel
theorem dX11_swapInPool_44 : decode cX11_swapInPool 44 = .ok (.iastore, 1) := by decide +kernel
theorem dX11_swapInPool_45 : decode cX11_swapInPool 45 = .ok (.return_, 1) := by decide +kernel
theorem dX11_startDigits_0 : decode cX11_startDigits 0 = .ok (.iload_n 1, 1) := by decide +kernel
theorem dX11_startDigits_1 : decode cX11_startDigits 1 = .ok (.istore_n 2, 1) := by decide +kernel
theorem dX11_startDigits_2 : decode cX11_startDigits 2 = .ok (.iconst 0, 1) := by decide +kernel
theorem dX11_startDigits_3 : decode cX11_startDigits 3 = .ok (.istore_n 3, 1) := by decide +kernel
theorem dX11_startDigits_4 : decode cX11_startDigits 4 = .ok (.iload_n 3, 1) := by decide +kernel
theorem dX11_startDigits_5 : decode cX11_startDigits 5 = .ok (.aload_n 0, 1) := by decide +kernel
theorem dX11_startDigits_6 : decode cX11_startDigits 6 = .ok (.getfield 67, 3) := by decide +kernel
theorem dX11_startDigits_9 : decode cX11_startDigits 9 = .ok (.arraylength, 1) := by decide +kernel
theorem dX11_startDigits_10 : decode cX11_startDigits 10 = .ok (.if_icmp .ge 24, 3) := by decide +kernel
theorem dX11_startDigits_13 : decode cX11_startDigits 13 = .ok (.aload_n 0, 1) := by decide +kernel
theorem dX11_startDigits_14 : decode cX11_startDigits 14 = .ok (.getfield 67, 3) := by decide +kernel
theorem dX11_startDigits_17 : decode cX11_startDigits 17 = .ok (.iload_n 3, 1) := by decide +kernel
theorem dX11_startDigits_18 : decode cX11_startDigits 18 = .ok (.iload_n 2, 1) := by decide +kernel
theorem dX11_startDigits_19 : decode cX11_startDigits 19 = .ok (.bipush 10, 2) := by decide +kernel
theorem dX11_startDigits_21 : decode cX11_startDigits 21 = .ok (.irem, 1) := by decide +kernel
theorem dX11_startDigits_22 : decode cX11_startDigits 22 = .ok (.iastore, 1) := by decide +kernel
theorem dX11_startDigits_23 : decode cX11_startDigits 23 = .ok (.iload_n 2, 1) := by decide +kernel
theorem dX11_startDigits_24 : decode cX11_startDigits 24 = .ok (.bipush 10, 2) := by decide +kernel
theorem dX11_startDigits_26 : decode cX11_startDigits 26 = .ok (.idiv, 1) := by decide +kernel
theorem dX11_startDigits_27 : decode cX11_startDigits 27 = .ok (.istore_n 2, 1) := by decide +kernel
theorem dX11_startDigits_28 : decode cX11_startDigits 28 = .ok (.iinc 3 1, 3) := by decide +kernel
theorem dX11_startDigits_31 : decode cX11_startDigits 31 = .ok (.goto (-27), 3) := by decide +kernel
theorem dX11_startDigits_34 : decode cX11_startDigits 34 = .ok (.return_, 1) := by decide +kernel
theorem dX11_multiplyDigits_0 : decode cX11_multiplyDigits 0 = .ok (.iconst 0, 1) := by decide +kernel
theorem dX11_multiplyDigits_1 : decode cX11_multiplyDigits 1 = .ok (.istore_n 2, 1) := by decide +kernel
theorem dX11_multiplyDigits_2 : decode cX11_multiplyDigits 2 = .ok (.iconst 0, 1) := by decide +kernel
theorem dX11_multiplyDigits_3 : decode cX11_multiplyDigits 3 = .ok (.istore_n 3, 1) := by decide +kernel
theorem dX11_multiplyDigits_4 : decode cX11_multiplyDigits 4 = .ok (.iload_n 3, 1) := by decide +kernel
theorem dX11_multiplyDigits_5 : decode cX11_multiplyDigits 5 = .ok (.aload_n 0, 1) := by decide +kernel
theorem dX11_multiplyDigits_6 : decode cX11_multiplyDigits 6 = .ok (.getfield 67, 3) := by decide +kernel
theorem dX11_multiplyDigits_9 : decode cX11_multiplyDigits 9 = .ok (.arraylength, 1) := by decide +kernel
theorem dX11_multiplyDigits_10 : decode cX11_multiplyDigits 10 = .ok (.if_icmp .ge 38, 3) := by decide +kernel
theorem dX11_multiplyDigits_13 : decode cX11_multiplyDigits 13 = .ok (.aload_n 0, 1) := by decide +kernel
theorem dX11_multiplyDigits_14 : decode cX11_multiplyDigits 14 = .ok (.getfield 67, 3) := by decide +kernel
theorem dX11_multiplyDigits_17 : decode cX11_multiplyDigits 17 = .ok (.iload_n 3, 1) := by decide +kernel
theorem dX11_multiplyDigits_18 : decode cX11_multiplyDigits 18 = .ok (.iaload, 1) := by decide +kernel
theorem dX11_multiplyDigits_19 : decode cX11_multiplyDigits 19 = .ok (.iload_n 1, 1) := by decide +kernel
theorem dX11_multiplyDigits_20 : decode cX11_multiplyDigits 20 = .ok (.imul, 1) := by decide +kernel
theorem dX11_multiplyDigits_21 : decode cX11_multiplyDigits 21 = .ok (.iload_n 2, 1) := by decide +kernel
theorem dX11_multiplyDigits_22 : decode cX11_multiplyDigits 22 = .ok (.iadd, 1) := by decide +kernel
theorem dX11_multiplyDigits_23 : decode cX11_multiplyDigits 23 = .ok (.istore 4, 2) := by decide +kernel
theorem dX11_multiplyDigits_25 : decode cX11_multiplyDigits 25 = .ok (.aload_n 0, 1) := by decide +kernel
theorem dX11_multiplyDigits_26 : decode cX11_multiplyDigits 26 = .ok (.getfield 67, 3) := by decide +kernel
theorem dX11_multiplyDigits_29 : decode cX11_multiplyDigits 29 = .ok (.iload_n 3, 1) := by decide +kernel
theorem dX11_multiplyDigits_30 : decode cX11_multiplyDigits 30 = .ok (.iload 4, 2) := by decide +kernel
theorem dX11_multiplyDigits_32 : decode cX11_multiplyDigits 32 = .ok (.bipush 10, 2) := by decide +kernel
theorem dX11_multiplyDigits_34 : decode cX11_multiplyDigits 34 = .ok (.irem, 1) := by decide +kernel
theorem dX11_multiplyDigits_35 : decode cX11_multiplyDigits 35 = .ok (.iastore, 1) := by decide +kernel
theorem dX11_multiplyDigits_36 : decode cX11_multiplyDigits 36 = .ok (.iload 4, 2) := by decide +kernel
theorem dX11_multiplyDigits_38 : decode cX11_multiplyDigits 38 = .ok (.bipush 10, 2) := by decide +kernel
theorem dX11_multiplyDigits_40 : decode cX11_multiplyDigits 40 = .ok (.idiv, 1) := by decide +kernel
theorem dX11_multiplyDigits_41 : decode cX11_multiplyDigits 41 = .ok (.istore_n 2, 1) := by decide +kernel
theorem dX11_multiplyDigits_42 : decode cX11_multiplyDigits 42 = .ok (.iinc 3 1, 3) := by decide +kernel
theorem dX11_multiplyDigits_45 : decode cX11_multiplyDigits 45 = .ok (.goto (-41), 3) := by decide +kernel
theorem dX11_multiplyDigits_48 : decode cX11_multiplyDigits 48 = .ok (.return_, 1) := by decide +kernel
theorem dX11_digitsAtMostPowerOfTen_0 : decode cX11_digitsAtMostPowerOfTen 0 = .ok (.iconst 1, 1) := by decide +kernel
theorem dX11_digitsAtMostPowerOfTen_1 : decode cX11_digitsAtMostPowerOfTen 1 = .ok (.istore_n 2, 1) := by decide +kernel
theorem dX11_digitsAtMostPowerOfTen_2 : decode cX11_digitsAtMostPowerOfTen 2 = .ok (.iconst 0, 1) := by decide +kernel
theorem dX11_digitsAtMostPowerOfTen_3 : decode cX11_digitsAtMostPowerOfTen 3 = .ok (.istore_n 3, 1) := by decide +kernel
theorem dX11_digitsAtMostPowerOfTen_4 : decode cX11_digitsAtMostPowerOfTen 4 = .ok (.iload_n 3, 1) := by decide +kernel
theorem dX11_digitsAtMostPowerOfTen_5 : decode cX11_digitsAtMostPowerOfTen 5 = .ok (.aload_n 0, 1) := by decide +kernel
theorem dX11_digitsAtMostPowerOfTen_6 : decode cX11_digitsAtMostPowerOfTen 6 = .ok (.getfield 67, 3) := by decide +kernel
theorem dX11_digitsAtMostPowerOfTen_9 : decode cX11_digitsAtMostPowerOfTen 9 = .ok (.arraylength, 1) := by decide +kernel
theorem dX11_digitsAtMostPowerOfTen_10 : decode cX11_digitsAtMostPowerOfTen 10 = .ok (.if_icmp .ge 78, 3) := by decide +kernel
theorem dX11_digitsAtMostPowerOfTen_13 : decode cX11_digitsAtMostPowerOfTen 13 = .ok (.iload_n 3, 1) := by decide +kernel
theorem dX11_digitsAtMostPowerOfTen_14 : decode cX11_digitsAtMostPowerOfTen 14 = .ok (.iload_n 1, 1) := by decide +kernel
theorem dX11_digitsAtMostPowerOfTen_15 : decode cX11_digitsAtMostPowerOfTen 15 = .ok (.if_icmp .ge 25, 3) := by decide +kernel
theorem dX11_digitsAtMostPowerOfTen_18 : decode cX11_digitsAtMostPowerOfTen 18 = .ok (.iload_n 2, 1) := by decide +kernel
theorem dX11_digitsAtMostPowerOfTen_19 : decode cX11_digitsAtMostPowerOfTen 19 = .ok (.ifCond .eq 16, 3) := by decide +kernel
theorem dX11_digitsAtMostPowerOfTen_22 : decode cX11_digitsAtMostPowerOfTen 22 = .ok (.aload_n 0, 1) := by decide +kernel
theorem dX11_digitsAtMostPowerOfTen_23 : decode cX11_digitsAtMostPowerOfTen 23 = .ok (.getfield 67, 3) := by decide +kernel
theorem dX11_digitsAtMostPowerOfTen_26 : decode cX11_digitsAtMostPowerOfTen 26 = .ok (.iload_n 3, 1) := by decide +kernel
theorem dX11_digitsAtMostPowerOfTen_27 : decode cX11_digitsAtMostPowerOfTen 27 = .ok (.iaload, 1) := by decide +kernel
theorem dX11_digitsAtMostPowerOfTen_28 : decode cX11_digitsAtMostPowerOfTen 28 = .ok (.ifCond .ne 7, 3) := by decide +kernel
theorem dX11_digitsAtMostPowerOfTen_31 : decode cX11_digitsAtMostPowerOfTen 31 = .ok (.iconst 1, 1) := by decide +kernel
theorem dX11_digitsAtMostPowerOfTen_32 : decode cX11_digitsAtMostPowerOfTen 32 = .ok (.goto 4, 3) := by decide +kernel
theorem dX11_digitsAtMostPowerOfTen_35 : decode cX11_digitsAtMostPowerOfTen 35 = .ok (.iconst 0, 1) := by decide +kernel
theorem dX11_digitsAtMostPowerOfTen_36 : decode cX11_digitsAtMostPowerOfTen 36 = .ok (.istore_n 2, 1) := by decide +kernel
theorem dX11_digitsAtMostPowerOfTen_37 : decode cX11_digitsAtMostPowerOfTen 37 = .ok (.goto 45, 3) := by decide +kernel
theorem dX11_digitsAtMostPowerOfTen_40 : decode cX11_digitsAtMostPowerOfTen 40 = .ok (.iload_n 3, 1) := by decide +kernel
theorem dX11_digitsAtMostPowerOfTen_41 : decode cX11_digitsAtMostPowerOfTen 41 = .ok (.iload_n 1, 1) := by decide +kernel
theorem dX11_digitsAtMostPowerOfTen_42 : decode cX11_digitsAtMostPowerOfTen 42 = .ok (.if_icmp .ne 29, 3) := by decide +kernel
theorem dX11_digitsAtMostPowerOfTen_45 : decode cX11_digitsAtMostPowerOfTen 45 = .ok (.aload_n 0, 1) := by decide +kernel
theorem dX11_digitsAtMostPowerOfTen_46 : decode cX11_digitsAtMostPowerOfTen 46 = .ok (.getfield 67, 3) := by decide +kernel
theorem dX11_digitsAtMostPowerOfTen_49 : decode cX11_digitsAtMostPowerOfTen 49 = .ok (.iload_n 3, 1) := by decide +kernel
theorem dX11_digitsAtMostPowerOfTen_50 : decode cX11_digitsAtMostPowerOfTen 50 = .ok (.iaload, 1) := by decide +kernel
theorem dX11_digitsAtMostPowerOfTen_51 : decode cX11_digitsAtMostPowerOfTen 51 = .ok (.iconst 1, 1) := by decide +kernel
theorem dX11_digitsAtMostPowerOfTen_52 : decode cX11_digitsAtMostPowerOfTen 52 = .ok (.if_icmp .gt 17, 3) := by decide +kernel
theorem dX11_digitsAtMostPowerOfTen_55 : decode cX11_digitsAtMostPowerOfTen 55 = .ok (.aload_n 0, 1) := by decide +kernel
theorem dX11_digitsAtMostPowerOfTen_56 : decode cX11_digitsAtMostPowerOfTen 56 = .ok (.getfield 67, 3) := by decide +kernel
theorem dX11_digitsAtMostPowerOfTen_59 : decode cX11_digitsAtMostPowerOfTen 59 = .ok (.iload_n 3, 1) := by decide +kernel
theorem dX11_digitsAtMostPowerOfTen_60 : decode cX11_digitsAtMostPowerOfTen 60 = .ok (.iaload, 1) := by decide +kernel
theorem dX11_digitsAtMostPowerOfTen_61 : decode cX11_digitsAtMostPowerOfTen 61 = .ok (.iconst 1, 1) := by decide +kernel
theorem dX11_digitsAtMostPowerOfTen_62 : decode cX11_digitsAtMostPowerOfTen 62 = .ok (.if_icmp .ne 20, 3) := by decide +kernel
theorem dX11_digitsAtMostPowerOfTen_65 : decode cX11_digitsAtMostPowerOfTen 65 = .ok (.iload_n 2, 1) := by decide +kernel
theorem dX11_digitsAtMostPowerOfTen_66 : decode cX11_digitsAtMostPowerOfTen 66 = .ok (.ifCond .ne 16, 3) := by decide +kernel
theorem dX11_digitsAtMostPowerOfTen_69 : decode cX11_digitsAtMostPowerOfTen 69 = .ok (.iconst 0, 1) := by decide +kernel
theorem dX11_digitsAtMostPowerOfTen_70 : decode cX11_digitsAtMostPowerOfTen 70 = .ok (.ireturn, 1) := by decide +kernel
theorem dX11_digitsAtMostPowerOfTen_71 : decode cX11_digitsAtMostPowerOfTen 71 = .ok (.aload_n 0, 1) := by decide +kernel
theorem dX11_digitsAtMostPowerOfTen_72 : decode cX11_digitsAtMostPowerOfTen 72 = .ok (.getfield 67, 3) := by decide +kernel
theorem dX11_digitsAtMostPowerOfTen_75 : decode cX11_digitsAtMostPowerOfTen 75 = .ok (.iload_n 3, 1) := by decide +kernel
theorem dX11_digitsAtMostPowerOfTen_76 : decode cX11_digitsAtMostPowerOfTen 76 = .ok (.iaload, 1) := by decide +kernel
theorem dX11_digitsAtMostPowerOfTen_77 : decode cX11_digitsAtMostPowerOfTen 77 = .ok (.ifCond .eq 5, 3) := by decide +kernel
theorem dX11_digitsAtMostPowerOfTen_80 : decode cX11_digitsAtMostPowerOfTen 80 = .ok (.iconst 0, 1) := by decide +kernel
theorem dX11_digitsAtMostPowerOfTen_81 : decode cX11_digitsAtMostPowerOfTen 81 = .ok (.ireturn, 1) := by decide +kernel
theorem dX11_digitsAtMostPowerOfTen_82 : decode cX11_digitsAtMostPowerOfTen 82 = .ok (.iinc 3 1, 3) := by decide +kernel
theorem dX11_digitsAtMostPowerOfTen_85 : decode cX11_digitsAtMostPowerOfTen 85 = .ok (.goto (-81), 3) := by decide +kernel
theorem dX11_digitsAtMostPowerOfTen_88 : decode cX11_digitsAtMostPowerOfTen 88 = .ok (.iconst 1, 1) := by decide +kernel
theorem dX11_digitsAtMostPowerOfTen_89 : decode cX11_digitsAtMostPowerOfTen 89 = .ok (.ireturn, 1) := by decide +kernel
theorem dX11_inLeastTerms_0 : decode cX11_inLeastTerms 0 = .ok (.lload_n 0, 1) := by decide +kernel
theorem dX11_inLeastTerms_1 : decode cX11_inLeastTerms 1 = .ok (.lload_n 2, 1) := by decide +kernel
theorem dX11_inLeastTerms_2 : decode cX11_inLeastTerms 2 = .ok (.invokestatic 277, 3) := by decide +kernel
theorem dX11_inLeastTerms_5 : decode cX11_inLeastTerms 5 = .ok (.lstore 5, 2) := by decide +kernel
theorem dX11_inLeastTerms_7 : decode cX11_inLeastTerms 7 = .ok (.lload_n 2, 1) := by decide +kernel
theorem dX11_inLeastTerms_8 : decode cX11_inLeastTerms 8 = .ok (.lconst 0, 1) := by decide +kernel
theorem dX11_inLeastTerms_9 : decode cX11_inLeastTerms 9 = .ok (.lcmp, 1) := by decide +kernel
theorem dX11_inLeastTerms_10 : decode cX11_inLeastTerms 10 = .ok (.ifCond .eq 10, 3) := by decide +kernel
theorem dX11_inLeastTerms_13 : decode cX11_inLeastTerms 13 = .ok (.lload 5, 2) := by decide +kernel
theorem dX11_inLeastTerms_15 : decode cX11_inLeastTerms 15 = .ok (.lconst 0, 1) := by decide +kernel
theorem dX11_inLeastTerms_16 : decode cX11_inLeastTerms 16 = .ok (.lcmp, 1) := by decide +kernel
theorem dX11_inLeastTerms_17 : decode cX11_inLeastTerms 17 = .ok (.ifCond .ne 14, 3) := by decide +kernel
theorem dX11_inLeastTerms_20 : decode cX11_inLeastTerms 20 = .ok (.iload 4, 2) := by decide +kernel
theorem dX11_inLeastTerms_22 : decode cX11_inLeastTerms 22 = .ok (.ifCond .ne 7, 3) := by decide +kernel
theorem dX11_inLeastTerms_25 : decode cX11_inLeastTerms 25 = .ok (.lconst 0, 1) := by decide +kernel
theorem dX11_inLeastTerms_26 : decode cX11_inLeastTerms 26 = .ok (.goto 4, 3) := by decide +kernel
theorem dX11_inLeastTerms_29 : decode cX11_inLeastTerms 29 = .ok (.lconst 1, 1) := by decide +kernel
theorem dX11_inLeastTerms_30 : decode cX11_inLeastTerms 30 = .ok (.lreturn, 1) := by decide +kernel
theorem dX11_inLeastTerms_31 : decode cX11_inLeastTerms 31 = .ok (.iload 4, 2) := by decide +kernel
theorem dX11_inLeastTerms_33 : decode cX11_inLeastTerms 33 = .ok (.ifCond .ne 10, 3) := by decide +kernel
theorem dX11_inLeastTerms_36 : decode cX11_inLeastTerms 36 = .ok (.lload_n 0, 1) := by decide +kernel
theorem dX11_inLeastTerms_37 : decode cX11_inLeastTerms 37 = .ok (.lload 5, 2) := by decide +kernel
theorem dX11_inLeastTerms_39 : decode cX11_inLeastTerms 39 = .ok (.ldiv, 1) := by decide +kernel
theorem dX11_inLeastTerms_40 : decode cX11_inLeastTerms 40 = .ok (.goto 7, 3) := by decide +kernel
theorem dX11_inLeastTerms_43 : decode cX11_inLeastTerms 43 = .ok (.lload_n 2, 1) := by decide +kernel
theorem dX11_inLeastTerms_44 : decode cX11_inLeastTerms 44 = .ok (.lload 5, 2) := by decide +kernel
theorem dX11_inLeastTerms_46 : decode cX11_inLeastTerms 46 = .ok (.ldiv, 1) := by decide +kernel
theorem dX11_inLeastTerms_47 : decode cX11_inLeastTerms 47 = .ok (.lreturn, 1) := by decide +kernel
theorem dX11_greatestCommonDivisor_0 : decode cX11_greatestCommonDivisor 0 = .ok (.lload_n 0, 1) := by decide +kernel
theorem dX11_greatestCommonDivisor_1 : decode cX11_greatestCommonDivisor 1 = .ok (.lstore 4, 2) := by decide +kernel
theorem dX11_greatestCommonDivisor_3 : decode cX11_greatestCommonDivisor 3 = .ok (.lload_n 2, 1) := by decide +kernel
theorem dX11_greatestCommonDivisor_4 : decode cX11_greatestCommonDivisor 4 = .ok (.lstore 6, 2) := by decide +kernel
theorem dX11_greatestCommonDivisor_6 : decode cX11_greatestCommonDivisor 6 = .ok (.iconst 0, 1) := by decide +kernel
theorem dX11_greatestCommonDivisor_7 : decode cX11_greatestCommonDivisor 7 = .ok (.istore 8, 2) := by decide +kernel
theorem dX11_greatestCommonDivisor_9 : decode cX11_greatestCommonDivisor 9 = .ok (.iload 8, 2) := by decide +kernel
theorem dX11_greatestCommonDivisor_11 : decode cX11_greatestCommonDivisor 11 = .ok (.bipush 100, 2) := by decide +kernel
theorem dX11_greatestCommonDivisor_13 : decode cX11_greatestCommonDivisor 13 = .ok (.if_icmp .ge 31, 3) := by decide +kernel
theorem dX11_greatestCommonDivisor_16 : decode cX11_greatestCommonDivisor 16 = .ok (.lload 6, 2) := by decide +kernel
theorem dX11_greatestCommonDivisor_18 : decode cX11_greatestCommonDivisor 18 = .ok (.lconst 0, 1) := by decide +kernel
theorem dX11_greatestCommonDivisor_19 : decode cX11_greatestCommonDivisor 19 = .ok (.lcmp, 1) := by decide +kernel
theorem dX11_greatestCommonDivisor_20 : decode cX11_greatestCommonDivisor 20 = .ok (.ifCond .eq 24, 3) := by decide +kernel
theorem dX11_greatestCommonDivisor_23 : decode cX11_greatestCommonDivisor 23 = .ok (.lload 4, 2) := by decide +kernel
theorem dX11_greatestCommonDivisor_25 : decode cX11_greatestCommonDivisor 25 = .ok (.lload 6, 2) := by decide +kernel
theorem dX11_greatestCommonDivisor_27 : decode cX11_greatestCommonDivisor 27 = .ok (.lrem, 1) := by decide +kernel
theorem dX11_greatestCommonDivisor_28 : decode cX11_greatestCommonDivisor 28 = .ok (.lstore 9, 2) := by decide +kernel
theorem dX11_greatestCommonDivisor_30 : decode cX11_greatestCommonDivisor 30 = .ok (.lload 6, 2) := by decide +kernel
theorem dX11_greatestCommonDivisor_32 : decode cX11_greatestCommonDivisor 32 = .ok (.lstore 4, 2) := by decide +kernel
theorem dX11_greatestCommonDivisor_34 : decode cX11_greatestCommonDivisor 34 = .ok (.lload 9, 2) := by decide +kernel
theorem dX11_greatestCommonDivisor_36 : decode cX11_greatestCommonDivisor 36 = .ok (.lstore 6, 2) := by decide +kernel
theorem dX11_greatestCommonDivisor_38 : decode cX11_greatestCommonDivisor 38 = .ok (.iinc 8 1, 3) := by decide +kernel
theorem dX11_greatestCommonDivisor_41 : decode cX11_greatestCommonDivisor 41 = .ok (.goto (-32), 3) := by decide +kernel
theorem dX11_greatestCommonDivisor_44 : decode cX11_greatestCommonDivisor 44 = .ok (.lload 4, 2) := by decide +kernel
theorem dX11_greatestCommonDivisor_46 : decode cX11_greatestCommonDivisor 46 = .ok (.lreturn, 1) := by decide +kernel
theorem dX11_mends_0 : decode cX11_mends 0 = .ok (.iload_n 1, 1) := by decide +kernel
theorem dX11_mends_1 : decode cX11_mends 1 = .ok (.invokestatic 173, 3) := by decide +kernel
theorem dX11_mends_4 : decode cX11_mends 4 = .ok (.ifCond .ne 5, 3) := by decide +kernel
theorem dX11_mends_7 : decode cX11_mends 7 = .ok (.iconst (-1), 1) := by decide +kernel
theorem dX11_mends_8 : decode cX11_mends 8 = .ok (.ireturn, 1) := by decide +kernel
theorem dX11_mends_9 : decode cX11_mends 9 = .ok (.aload_n 0, 1) := by decide +kernel
theorem dX11_mends_10 : decode cX11_mends 10 = .ok (.getfield 46, 3) := by decide +kernel
theorem dX11_mends_13 : decode cX11_mends 13 = .ok (.aload_n 0, 1) := by decide +kernel
theorem dX11_mends_14 : decode cX11_mends 14 = .ok (.getfield 42, 3) := by decide +kernel
theorem dX11_mends_17 : decode cX11_mends 17 = .ok (.invokevirtual 84, 3) := by decide +kernel
theorem dX11_mends_20 : decode cX11_mends 20 = .ok (.iconst 0, 1) := by decide +kernel
theorem dX11_mends_21 : decode cX11_mends 21 = .ok (.istore_n 2, 1) := by decide +kernel
theorem dX11_mends_22 : decode cX11_mends 22 = .ok (.iload_n 2, 1) := by decide +kernel
theorem dX11_mends_23 : decode cX11_mends 23 = .ok (.bipush 60, 2) := by decide +kernel
theorem dX11_mends_25 : decode cX11_mends 25 = .ok (.if_icmp .ge 38, 3) := by decide +kernel
theorem dX11_mends_28 : decode cX11_mends 28 = .ok (.aload_n 0, 1) := by decide +kernel
theorem dX11_mends_29 : decode cX11_mends 29 = .ok (.getfield 46, 3) := by decide +kernel
theorem dX11_mends_32 : decode cX11_mends 32 = .ok (.iconst 0, 1) := by decide +kernel
theorem dX11_mends_33 : decode cX11_mends 33 = .ok (.invokevirtual 170, 3) := by decide +kernel
theorem dX11_mends_36 : decode cX11_mends 36 = .ok (.bipush (-4), 2) := by decide +kernel
theorem dX11_mends_38 : decode cX11_mends 38 = .ok (.if_icmp .eq 25, 3) := by decide +kernel
theorem dX11_mends_41 : decode cX11_mends 41 = .ok (.aload_n 0, 1) := by decide +kernel
theorem dX11_mends_42 : decode cX11_mends 42 = .ok (.getfield 46, 3) := by decide +kernel
theorem dX11_mends_45 : decode cX11_mends 45 = .ok (.aload_n 0, 1) := by decide +kernel
theorem dX11_mends_46 : decode cX11_mends 46 = .ok (.getfield 46, 3) := by decide +kernel
theorem dX11_mends_49 : decode cX11_mends 49 = .ok (.iconst 0, 1) := by decide +kernel
theorem dX11_mends_50 : decode cX11_mends 50 = .ok (.invokevirtual 170, 3) := by decide +kernel
theorem dX11_mends_53 : decode cX11_mends 53 = .ok (.invokevirtual 151, 3) := by decide +kernel
theorem dX11_mends_56 : decode cX11_mends 56 = .ok (.pop, 1) := by decide +kernel
theorem dX11_mends_57 : decode cX11_mends 57 = .ok (.iinc 2 1, 3) := by decide +kernel
theorem dX11_mends_60 : decode cX11_mends 60 = .ok (.goto (-38), 3) := by decide +kernel
theorem dX11_mends_63 : decode cX11_mends 63 = .ok (.iload_n 1, 1) := by decide +kernel
theorem dX11_mends_64 : decode cX11_mends 64 = .ok (.iconst 1, 1) := by decide +kernel
theorem dX11_mends_65 : decode cX11_mends 65 = .ok (.if_icmp .ne 11, 3) := by decide +kernel
theorem dX11_mends_68 : decode cX11_mends 68 = .ok (.aload_n 0, 1) := by decide +kernel
theorem dX11_mends_69 : decode cX11_mends 69 = .ok (.getfield 46, 3) := by decide +kernel
theorem dX11_mends_72 : decode cX11_mends 72 = .ok (.invokevirtual 281, 3) := by decide +kernel
theorem dX11_mends_75 : decode cX11_mends 75 = .ok (.ireturn, 1) := by decide +kernel
theorem dX11_mends_76 : decode cX11_mends 76 = .ok (.aload_n 0, 1) := by decide +kernel
theorem dX11_mends_77 : decode cX11_mends 77 = .ok (.getfield 46, 3) := by decide +kernel
theorem dX11_mends_80 : decode cX11_mends 80 = .ok (.iconst 0, 1) := by decide +kernel
theorem dX11_mends_81 : decode cX11_mends 81 = .ok (.invokevirtual 170, 3) := by decide +kernel
theorem dX11_mends_84 : decode cX11_mends 84 = .ok (.bipush (-4), 2) := by decide +kernel
theorem dX11_mends_86 : decode cX11_mends 86 = .ok (.if_icmp .ne 7, 3) := by decide +kernel
theorem dX11_mends_89 : decode cX11_mends 89 = .ok (.iload_n 2, 1) := by decide +kernel
theorem dX11_mends_90 : decode cX11_mends 90 = .ok (.goto 5, 3) := by decide +kernel
theorem dX11_mends_93 : decode cX11_mends 93 = .ok (.bipush (-4), 2) := by decide +kernel
theorem dX11_mends_95 : decode cX11_mends 95 = .ok (.ireturn, 1) := by decide +kernel
theorem dX11_mechanic_0 : decode cX11_mechanic 0 = .ok (.iload_n 1, 1) := by decide +kernel
theorem dX11_mechanic_1 : decode cX11_mechanic 1 = .ok (.iconst 0, 1) := by decide +kernel
theorem dX11_mechanic_2 : decode cX11_mechanic 2 = .ok (.bipush 9, 2) := by decide +kernel
theorem dX11_mechanic_4 : decode cX11_mechanic 4 = .ok (.invokestatic 126, 3) := by decide +kernel
theorem dX11_mechanic_7 : decode cX11_mechanic 7 = .ok (.ifCond .eq 31, 3) := by decide +kernel
theorem dX11_mechanic_10 : decode cX11_mechanic 10 = .ok (.iload_n 2, 1) := by decide +kernel
theorem dX11_mechanic_11 : decode cX11_mechanic 11 = .ok (.iconst 1, 1) := by decide +kernel
theorem dX11_mechanic_12 : decode cX11_mechanic 12 = .ok (.bipush 9, 2) := by decide +kernel
theorem dX11_mechanic_14 : decode cX11_mechanic 14 = .ok (.invokestatic 126, 3) := by decide +kernel
theorem dX11_mechanic_17 : decode cX11_mechanic 17 = .ok (.ifCond .eq 21, 3) := by decide +kernel
theorem dX11_mechanic_20 : decode cX11_mechanic 20 = .ok (.iload_n 3, 1) := by decide +kernel
theorem dX11_mechanic_21 : decode cX11_mechanic 21 = .ok (.iconst 0, 1) := by decide +kernel
theorem dX11_mechanic_22 : decode cX11_mechanic 22 = .ok (.bipush 99, 2) := by decide +kernel
theorem dX11_mechanic_24 : decode cX11_mechanic 24 = .ok (.invokestatic 126, 3) := by decide +kernel
theorem dX11_mechanic_27 : decode cX11_mechanic 27 = .ok (.ifCond .eq 11, 3) := by decide +kernel
theorem dX11_mechanic_30 : decode cX11_mechanic 30 = .ok (.iload 4, 2) := by decide +kernel
theorem dX11_mechanic_32 : decode cX11_mechanic 32 = .ok (.invokestatic 173, 3) := by decide +kernel
theorem dX11_mechanic_35 : decode cX11_mechanic 35 = .ok (.ifCond .ne 5, 3) := by decide +kernel
theorem dX11_mechanic_38 : decode cX11_mechanic 38 = .ok (.iconst (-1), 1) := by decide +kernel
theorem dX11_mechanic_39 : decode cX11_mechanic 39 = .ok (.ireturn, 1) := by decide +kernel
theorem dX11_mechanic_40 : decode cX11_mechanic 40 = .ok (.lconst 1, 1) := by decide +kernel
theorem dX11_mechanic_41 : decode cX11_mechanic 41 = .ok (.lstore 5, 2) := by decide +kernel
theorem dX11_mechanic_43 : decode cX11_mechanic 43 = .ok (.lconst 1, 1) := by decide +kernel
theorem dX11_mechanic_44 : decode cX11_mechanic 44 = .ok (.lstore 7, 2) := by decide +kernel
theorem dX11_mechanic_46 : decode cX11_mechanic 46 = .ok (.iconst 0, 1) := by decide +kernel
theorem dX11_mechanic_47 : decode cX11_mechanic 47 = .ok (.istore 9, 2) := by decide +kernel
theorem dX11_mechanic_49 : decode cX11_mechanic 49 = .ok (.iload 9, 2) := by decide +kernel
theorem dX11_mechanic_51 : decode cX11_mechanic 51 = .ok (.bipush 9, 2) := by decide +kernel
theorem dX11_mechanic_53 : decode cX11_mechanic 53 = .ok (.if_icmp .gt 60, 3) := by decide +kernel
theorem dX11_mechanic_56 : decode cX11_mechanic 56 = .ok (.ldc2_w 284, 3) := by decide +kernel
theorem dX11_mechanic_59 : decode cX11_mechanic 59 = .ok (.lload 5, 2) := by decide +kernel
theorem dX11_mechanic_61 : decode cX11_mechanic 61 = .ok (.lload 7, 2) := by decide +kernel
theorem dX11_mechanic_63 : decode cX11_mechanic 63 = .ok (.lsub, 1) := by decide +kernel
theorem dX11_mechanic_64 : decode cX11_mechanic 64 = .ok (.lmul, 1) := by decide +kernel
theorem dX11_mechanic_65 : decode cX11_mechanic 65 = .ok (.iload_n 2, 1) := by decide +kernel
theorem dX11_mechanic_66 : decode cX11_mechanic 66 = .ok (.i2l, 1) := by decide +kernel
theorem dX11_mechanic_67 : decode cX11_mechanic 67 = .ok (.lload 5, 2) := by decide +kernel
theorem dX11_mechanic_69 : decode cX11_mechanic 69 = .ok (.lmul, 1) := by decide +kernel
theorem dX11_mechanic_70 : decode cX11_mechanic 70 = .ok (.lcmp, 1) := by decide +kernel
theorem dX11_mechanic_71 : decode cX11_mechanic 71 = .ok (.ifCond .lt 18, 3) := by decide +kernel
theorem dX11_mechanic_74 : decode cX11_mechanic 74 = .ok (.iload 4, 2) := by decide +kernel
theorem dX11_mechanic_76 : decode cX11_mechanic 76 = .ok (.ifCond .ne 8, 3) := by decide +kernel
theorem dX11_mechanic_79 : decode cX11_mechanic 79 = .ok (.iload 9, 2) := by decide +kernel
theorem dX11_mechanic_81 : decode cX11_mechanic 81 = .ok (.goto 7, 3) := by decide +kernel
theorem dX11_mechanic_84 : decode cX11_mechanic 84 = .ok (.iload 9, 2) := by decide +kernel
theorem dX11_mechanic_86 : decode cX11_mechanic 86 = .ok (.iload_n 3, 1) := by decide +kernel
theorem dX11_mechanic_87 : decode cX11_mechanic 87 = .ok (.imul, 1) := by decide +kernel
theorem dX11_mechanic_88 : decode cX11_mechanic 88 = .ok (.ireturn, 1) := by decide +kernel
theorem dX11_mechanic_89 : decode cX11_mechanic 89 = .ok (.lload 5, 2) := by decide +kernel
theorem dX11_mechanic_91 : decode cX11_mechanic 91 = .ok (.ldc2_w 284, 3) := by decide +kernel
theorem dX11_mechanic_94 : decode cX11_mechanic 94 = .ok (.lmul, 1) := by decide +kernel
theorem dX11_mechanic_95 : decode cX11_mechanic 95 = .ok (.lstore 5, 2) := by decide +kernel
theorem dX11_mechanic_97 : decode cX11_mechanic 97 = .ok (.lload 7, 2) := by decide +kernel
theorem dX11_mechanic_99 : decode cX11_mechanic 99 = .ok (.bipush 10, 2) := by decide +kernel
theorem dX11_mechanic_101 : decode cX11_mechanic 101 = .ok (.iload_n 1, 1) := by decide +kernel
theorem dX11_mechanic_102 : decode cX11_mechanic 102 = .ok (.isub, 1) := by decide +kernel
theorem dX11_mechanic_103 : decode cX11_mechanic 103 = .ok (.i2l, 1) := by decide +kernel
theorem dX11_mechanic_104 : decode cX11_mechanic 104 = .ok (.lmul, 1) := by decide +kernel
theorem dX11_mechanic_105 : decode cX11_mechanic 105 = .ok (.lstore 7, 2) := by decide +kernel
theorem dX11_mechanic_107 : decode cX11_mechanic 107 = .ok (.iinc 9 1, 3) := by decide +kernel
theorem dX11_mechanic_110 : decode cX11_mechanic 110 = .ok (.goto (-61), 3) := by decide +kernel
theorem dX11_mechanic_113 : decode cX11_mechanic 113 = .ok (.bipush (-4), 2) := by decide +kernel
theorem dX11_mechanic_115 : decode cX11_mechanic 115 = .ok (.ireturn, 1) := by decide +kernel
theorem dX11_worth_0 : decode cX11_worth 0 = .ok (.iload_n 1, 1) := by decide +kernel
theorem dX11_worth_1 : decode cX11_worth 1 = .ok (.iconst 0, 1) := by decide +kernel
theorem dX11_worth_2 : decode cX11_worth 2 = .ok (.sipush 9999, 3) := by decide +kernel
theorem dX11_worth_5 : decode cX11_worth 5 = .ok (.invokestatic 126, 3) := by decide +kernel
theorem dX11_worth_8 : decode cX11_worth 8 = .ok (.ifCond .ne 5, 3) := by decide +kernel
theorem dX11_worth_11 : decode cX11_worth 11 = .ok (.iconst (-1), 1) := by decide +kernel
theorem dX11_worth_12 : decode cX11_worth 12 = .ok (.ireturn, 1) := by decide +kernel
theorem dX11_worth_13 : decode cX11_worth 13 = .ok (.aload_n 0, 1) := by decide +kernel
theorem dX11_worth_14 : decode cX11_worth 14 = .ok (.getfield 42, 3) := by decide +kernel
theorem dX11_worth_17 : decode cX11_worth 17 = .ok (.iconst 0, 1) := by decide +kernel
theorem dX11_worth_18 : decode cX11_worth 18 = .ok (.invokevirtual 158, 3) := by decide +kernel
theorem dX11_worth_21 : decode cX11_worth 21 = .ok (.istore_n 2, 1) := by decide +kernel
theorem dX11_worth_22 : decode cX11_worth 22 = .ok (.iload_n 2, 1) := by decide +kernel
theorem dX11_worth_23 : decode cX11_worth 23 = .ok (.ifCond .gt 6, 3) := by decide +kernel
theorem dX11_worth_26 : decode cX11_worth 26 = .ok (.bipush (-4), 2) := by decide +kernel
theorem dX11_worth_28 : decode cX11_worth 28 = .ok (.ireturn, 1) := by decide +kernel
theorem dX11_worth_29 : decode cX11_worth 29 = .ok (.iload_n 1, 1) := by decide +kernel
theorem dX11_worth_30 : decode cX11_worth 30 = .ok (.iload_n 2, 1) := by decide +kernel
theorem dX11_worth_31 : decode cX11_worth 31 = .ok (.idiv, 1) := by decide +kernel
theorem dX11_worth_32 : decode cX11_worth 32 = .ok (.bipush 99, 2) := by decide +kernel
theorem dX11_worth_34 : decode cX11_worth 34 = .ok (.invokestatic 216, 3) := by decide +kernel
theorem dX11_worth_37 : decode cX11_worth 37 = .ok (.ireturn, 1) := by decide +kernel
theorem dX11_quiet_0 : decode cX11_quiet 0 = .ok (.iload_n 2, 1) := by decide +kernel
theorem dX11_quiet_1 : decode cX11_quiet 1 = .ok (.invokestatic 173, 3) := by decide +kernel
theorem dX11_quiet_4 : decode cX11_quiet 4 = .ok (.ifCond .eq 11, 3) := by decide +kernel
theorem dX11_quiet_7 : decode cX11_quiet 7 = .ok (.aload_n 0, 1) := by decide +kernel
theorem dX11_quiet_8 : decode cX11_quiet 8 = .ok (.iload_n 1, 1) := by decide +kernel
theorem dX11_quiet_9 : decode cX11_quiet 9 = .ok (.invokevirtual 286, 3) := by decide +kernel
theorem dX11_quiet_12 : decode cX11_quiet 12 = .ok (.goto 4, 3) := by decide +kernel
theorem dX11_quiet_15 : decode cX11_quiet 15 = .ok (.iconst (-1), 1) := by decide +kernel
theorem dX11_quiet_16 : decode cX11_quiet 16 = .ok (.istore_n 3, 1) := by decide +kernel
theorem dX11_quiet_17 : decode cX11_quiet 17 = .ok (.iload_n 3, 1) := by decide +kernel
theorem dX11_quiet_18 : decode cX11_quiet 18 = .ok (.ifCond .eq 5, 3) := by decide +kernel
theorem dX11_quiet_21 : decode cX11_quiet 21 = .ok (.iload_n 3, 1) := by decide +kernel
theorem dX11_quiet_22 : decode cX11_quiet 22 = .ok (.ireturn, 1) := by decide +kernel
theorem dX11_quiet_23 : decode cX11_quiet 23 = .ok (.aload_n 0, 1) := by decide +kernel
theorem dX11_quiet_24 : decode cX11_quiet 24 = .ok (.getfield 46, 3) := by decide +kernel
theorem dX11_quiet_27 : decode cX11_quiet 27 = .ok (.aload_n 0, 1) := by decide +kernel
theorem dX11_quiet_28 : decode cX11_quiet 28 = .ok (.getfield 42, 3) := by decide +kernel
theorem dX11_quiet_31 : decode cX11_quiet 31 = .ok (.invokevirtual 84, 3) := by decide +kernel
theorem dX11_quiet_34 : decode cX11_quiet 34 = .ok (.aload_n 0, 1) := by decide +kernel
theorem dX11_quiet_35 : decode cX11_quiet 35 = .ok (.getfield 46, 3) := by decide +kernel
theorem dX11_quiet_38 : decode cX11_quiet 38 = .ok (.aload_n 0, 1) := by decide +kernel
theorem dX11_quiet_39 : decode cX11_quiet 39 = .ok (.getfield 58, 3) := by decide +kernel
theorem dX11_quiet_42 : decode cX11_quiet 42 = .ok (.iload_n 1, 1) := by decide +kernel
theorem dX11_quiet_43 : decode cX11_quiet 43 = .ok (.aaload, 1) := by decide +kernel
theorem dX11_quiet_44 : decode cX11_quiet 44 = .ok (.invokevirtual 289, 3) := by decide +kernel
theorem dX11_quiet_47 : decode cX11_quiet 47 = .ok (.iconst 0, 1) := by decide +kernel
theorem dX11_quiet_48 : decode cX11_quiet 48 = .ok (.istore 4, 2) := by decide +kernel
theorem dX11_quiet_50 : decode cX11_quiet 50 = .ok (.bipush (-4), 2) := by decide +kernel
theorem dX11_quiet_52 : decode cX11_quiet 52 = .ok (.istore 5, 2) := by decide +kernel
theorem dX11_quiet_54 : decode cX11_quiet 54 = .ok (.iconst 0, 1) := by decide +kernel
theorem dX11_quiet_55 : decode cX11_quiet 55 = .ok (.istore 6, 2) := by decide +kernel
theorem dX11_quiet_57 : decode cX11_quiet 57 = .ok (.iload 6, 2) := by decide +kernel
theorem dX11_quiet_59 : decode cX11_quiet 59 = .ok (.bipush 100, 2) := by decide +kernel
theorem dX11_quiet_61 : decode cX11_quiet 61 = .ok (.if_icmp .ge 41, 3) := by decide +kernel
theorem dX11_quiet_64 : decode cX11_quiet 64 = .ok (.aload_n 0, 1) := by decide +kernel
theorem dX11_quiet_65 : decode cX11_quiet 65 = .ok (.getfield 46, 3) := by decide +kernel
theorem dX11_quiet_68 : decode cX11_quiet 68 = .ok (.iconst 0, 1) := by decide +kernel
theorem dX11_quiet_69 : decode cX11_quiet 69 = .ok (.iload 6, 2) := by decide +kernel
theorem dX11_quiet_71 : decode cX11_quiet 71 = .ok (.invokevirtual 167, 3) := by decide +kernel
theorem dX11_quiet_74 : decode cX11_quiet 74 = .ok (.ifCond .ne 22, 3) := by decide +kernel
theorem dX11_quiet_77 : decode cX11_quiet 77 = .ok (.iinc 4 1, 3) := by decide +kernel
theorem dX11_quiet_80 : decode cX11_quiet 80 = .ok (.iload 5, 2) := by decide +kernel
theorem dX11_quiet_82 : decode cX11_quiet 82 = .ok (.bipush (-4), 2) := by decide +kernel
theorem dX11_quiet_84 : decode cX11_quiet 84 = .ok (.if_icmp .ne 8, 3) := by decide +kernel
theorem dX11_quiet_87 : decode cX11_quiet 87 = .ok (.iload 6, 2) := by decide +kernel
theorem dX11_quiet_89 : decode cX11_quiet 89 = .ok (.goto 5, 3) := by decide +kernel
theorem dX11_quiet_92 : decode cX11_quiet 92 = .ok (.iload 5, 2) := by decide +kernel
theorem dX11_quiet_94 : decode cX11_quiet 94 = .ok (.istore 5, 2) := by decide +kernel
theorem dX11_quiet_96 : decode cX11_quiet 96 = .ok (.iinc 6 1, 3) := by decide +kernel
theorem dX11_quiet_99 : decode cX11_quiet 99 = .ok (.goto (-42), 3) := by decide +kernel
theorem dX11_quiet_102 : decode cX11_quiet 102 = .ok (.iload_n 2, 1) := by decide +kernel
theorem dX11_quiet_103 : decode cX11_quiet 103 = .ok (.ifCond .ne 8, 3) := by decide +kernel
theorem dX11_quiet_106 : decode cX11_quiet 106 = .ok (.iload 4, 2) := by decide +kernel
theorem dX11_quiet_108 : decode cX11_quiet 108 = .ok (.goto 5, 3) := by decide +kernel
theorem dX11_quiet_111 : decode cX11_quiet 111 = .ok (.iload 5, 2) := by decide +kernel
theorem dX11_quiet_113 : decode cX11_quiet 113 = .ok (.ireturn, 1) := by decide +kernel
theorem dX11_statesRefusal_0 : decode cX11_statesRefusal 0 = .ok (.aload_n 0, 1) := by decide +kernel
theorem dX11_statesRefusal_1 : decode cX11_statesRefusal 1 = .ok (.iload_n 1, 1) := by decide +kernel
theorem dX11_statesRefusal_2 : decode cX11_statesRefusal 2 = .ok (.invokevirtual 70, 3) := by decide +kernel
theorem dX11_statesRefusal_5 : decode cX11_statesRefusal 5 = .ok (.istore_n 2, 1) := by decide +kernel
theorem dX11_statesRefusal_6 : decode cX11_statesRefusal 6 = .ok (.iload_n 2, 1) := by decide +kernel
theorem dX11_statesRefusal_7 : decode cX11_statesRefusal 7 = .ok (.ifCond .eq 5, 3) := by decide +kernel
theorem dX11_statesRefusal_10 : decode cX11_statesRefusal 10 = .ok (.iload_n 2, 1) := by decide +kernel
theorem dX11_statesRefusal_11 : decode cX11_statesRefusal 11 = .ok (.ireturn, 1) := by decide +kernel
theorem dX11_statesRefusal_12 : decode cX11_statesRefusal 12 = .ok (.aload_n 0, 1) := by decide +kernel
theorem dX11_statesRefusal_13 : decode cX11_statesRefusal 13 = .ok (.getfield 58, 3) := by decide +kernel
theorem dX11_statesRefusal_16 : decode cX11_statesRefusal 16 = .ok (.iload_n 1, 1) := by decide +kernel
theorem dX11_statesRefusal_17 : decode cX11_statesRefusal 17 = .ok (.aaload, 1) := by decide +kernel
theorem dX11_statesRefusal_18 : decode cX11_statesRefusal 18 = .ok (.astore_n 3, 1) := by decide +kernel
theorem dX11_statesRefusal_19 : decode cX11_statesRefusal 19 = .ok (.aload_n 3, 1) := by decide +kernel
theorem dX11_statesRefusal_20 : decode cX11_statesRefusal 20 = .ok (.getfield 259, 3) := by decide +kernel
theorem dX11_statesRefusal_23 : decode cX11_statesRefusal 23 = .ok (.aload_n 0, 1) := by decide +kernel
theorem dX11_statesRefusal_24 : decode cX11_statesRefusal 24 = .ok (.getfield 42, 3) := by decide +kernel
theorem dX11_statesRefusal_27 : decode cX11_statesRefusal 27 = .ok (.getfield 203, 3) := by decide +kernel
theorem dX11_statesRefusal_30 : decode cX11_statesRefusal 30 = .ok (.if_icmp .le 6, 3) := by decide +kernel
theorem dX11_statesRefusal_33 : decode cX11_statesRefusal 33 = .ok (.bipush (-13), 2) := by decide +kernel
theorem dX11_statesRefusal_35 : decode cX11_statesRefusal 35 = .ok (.ireturn, 1) := by decide +kernel
theorem dX11_statesRefusal_36 : decode cX11_statesRefusal 36 = .ok (.iconst 0, 1) := by decide +kernel
theorem dX11_statesRefusal_37 : decode cX11_statesRefusal 37 = .ok (.istore 4, 2) := by decide +kernel
theorem dX11_statesRefusal_39 : decode cX11_statesRefusal 39 = .ok (.iload 4, 2) := by decide +kernel
theorem dX11_statesRefusal_41 : decode cX11_statesRefusal 41 = .ok (.aload_n 3, 1) := by decide +kernel
theorem dX11_statesRefusal_42 : decode cX11_statesRefusal 42 = .ok (.getfield 259, 3) := by decide +kernel
theorem dX11_statesRefusal_45 : decode cX11_statesRefusal 45 = .ok (.if_icmp .ge 36, 3) := by decide +kernel
theorem dX11_statesRefusal_48 : decode cX11_statesRefusal 48 = .ok (.aload_n 3, 1) := by decide +kernel
theorem dX11_statesRefusal_49 : decode cX11_statesRefusal 49 = .ok (.iload 4, 2) := by decide +kernel
theorem dX11_statesRefusal_51 : decode cX11_statesRefusal 51 = .ok (.invokevirtual 293, 3) := by decide +kernel
theorem dX11_statesRefusal_54 : decode cX11_statesRefusal 54 = .ok (.ifCond .ne 21, 3) := by decide +kernel
theorem dX11_statesRefusal_57 : decode cX11_statesRefusal 57 = .ok (.aload_n 3, 1) := by decide +kernel
theorem dX11_statesRefusal_58 : decode cX11_statesRefusal 58 = .ok (.getfield 262, 3) := by decide +kernel
theorem dX11_statesRefusal_61 : decode cX11_statesRefusal 61 = .ok (.iload 4, 2) := by decide +kernel
theorem dX11_statesRefusal_63 : decode cX11_statesRefusal 63 = .ok (.iaload, 1) := by decide +kernel
theorem dX11_statesRefusal_64 : decode cX11_statesRefusal 64 = .ok (.iconst 0, 1) := by decide +kernel
theorem dX11_statesRefusal_65 : decode cX11_statesRefusal 65 = .ok (.iconst 3, 1) := by decide +kernel
theorem dX11_statesRefusal_66 : decode cX11_statesRefusal 66 = .ok (.invokestatic 126, 3) := by decide +kernel
theorem dX11_statesRefusal_69 : decode cX11_statesRefusal 69 = .ok (.ifCond .ne 6, 3) := by decide +kernel
theorem dX11_statesRefusal_72 : decode cX11_statesRefusal 72 = .ok (.bipush (-13), 2) := by decide +kernel
theorem dX11_statesRefusal_74 : decode cX11_statesRefusal 74 = .ok (.ireturn, 1) := by decide +kernel
theorem dX11_statesRefusal_75 : decode cX11_statesRefusal 75 = .ok (.iinc 4 1, 3) := by decide +kernel
theorem dX11_statesRefusal_78 : decode cX11_statesRefusal 78 = .ok (.goto (-39), 3) := by decide +kernel
theorem dX11_statesRefusal_81 : decode cX11_statesRefusal 81 = .ok (.iconst 0, 1) := by decide +kernel
theorem dX11_statesRefusal_82 : decode cX11_statesRefusal 82 = .ok (.ireturn, 1) := by decide +kernel
theorem dX11_forged_0 : decode cX11_forged 0 = .ok (.aload_n 0, 1) := by decide +kernel
theorem dX11_forged_1 : decode cX11_forged 1 = .ok (.iload_n 1, 1) := by decide +kernel
theorem dX11_forged_2 : decode cX11_forged 2 = .ok (.invokevirtual 70, 3) := by decide +kernel
theorem dX11_forged_5 : decode cX11_forged 5 = .ok (.istore_n 2, 1) := by decide +kernel
theorem dX11_forged_6 : decode cX11_forged 6 = .ok (.iload_n 2, 1) := by decide +kernel
theorem dX11_forged_7 : decode cX11_forged 7 = .ok (.ifCond .eq 5, 3) := by decide +kernel
theorem dX11_forged_10 : decode cX11_forged 10 = .ok (.iload_n 2, 1) := by decide +kernel
theorem dX11_forged_11 : decode cX11_forged 11 = .ok (.ireturn, 1) := by decide +kernel
theorem dX11_forged_12 : decode cX11_forged 12 = .ok (.aload_n 0, 1) := by decide +kernel
theorem dX11_forged_13 : decode cX11_forged 13 = .ok (.getfield 58, 3) := by decide +kernel
theorem dX11_forged_16 : decode cX11_forged 16 = .ok (.iload_n 1, 1) := by decide +kernel
theorem dX11_forged_17 : decode cX11_forged 17 = .ok (.aaload, 1) := by decide +kernel
theorem dX11_forged_18 : decode cX11_forged 18 = .ok (.astore_n 3, 1) := by decide +kernel
theorem dX11_forged_19 : decode cX11_forged 19 = .ok (.aload_n 0, 1) := by decide +kernel
theorem dX11_forged_20 : decode cX11_forged 20 = .ok (.getfield 46, 3) := by decide +kernel
theorem dX11_forged_23 : decode cX11_forged 23 = .ok (.aload_n 0, 1) := by decide +kernel
theorem dX11_forged_24 : decode cX11_forged 24 = .ok (.getfield 42, 3) := by decide +kernel
theorem dX11_forged_27 : decode cX11_forged 27 = .ok (.invokevirtual 84, 3) := by decide +kernel
theorem dX11_forged_30 : decode cX11_forged 30 = .ok (.bipush 63, 2) := by decide +kernel
theorem dX11_forged_32 : decode cX11_forged 32 = .ok (.istore 4, 2) := by decide +kernel
theorem dX11_forged_34 : decode cX11_forged 34 = .ok (.iconst 0, 1) := by decide +kernel
theorem dX11_forged_35 : decode cX11_forged 35 = .ok (.istore 5, 2) := by decide +kernel
theorem dX11_forged_37 : decode cX11_forged 37 = .ok (.iload 5, 2) := by decide +kernel
theorem dX11_forged_39 : decode cX11_forged 39 = .ok (.aload_n 3, 1) := by decide +kernel
theorem dX11_forged_40 : decode cX11_forged 40 = .ok (.getfield 259, 3) := by decide +kernel
theorem dX11_forged_43 : decode cX11_forged 43 = .ok (.if_icmp .ge 84, 3) := by decide +kernel
theorem dX11_forged_46 : decode cX11_forged 46 = .ok (.iconst 0, 1) := by decide +kernel
theorem dX11_forged_47 : decode cX11_forged 47 = .ok (.istore 6, 2) := by decide +kernel
theorem dX11_forged_49 : decode cX11_forged 49 = .ok (.iload 6, 2) := by decide +kernel
theorem dX11_forged_51 : decode cX11_forged 51 = .ok (.bipush 6, 2) := by decide +kernel
theorem dX11_forged_53 : decode cX11_forged 53 = .ok (.if_icmp .ge 60, 3) := by decide +kernel
theorem dX11_forged_56 : decode cX11_forged 56 = .ok (.aload_n 3, 1) := by decide +kernel
theorem dX11_forged_57 : decode cX11_forged 57 = .ok (.iload 5, 2) := by decide +kernel
theorem dX11_forged_59 : decode cX11_forged 59 = .ok (.invokevirtual 293, 3) := by decide +kernel
theorem dX11_forged_62 : decode cX11_forged 62 = .ok (.ifCond .ne 51, 3) := by decide +kernel
theorem dX11_forged_65 : decode cX11_forged 65 = .ok (.aload_n 0, 1) := by decide +kernel
theorem dX11_forged_66 : decode cX11_forged 66 = .ok (.getfield 46, 3) := by decide +kernel
theorem dX11_forged_69 : decode cX11_forged 69 = .ok (.iconst 2, 1) := by decide +kernel
theorem dX11_forged_70 : decode cX11_forged 70 = .ok (.iload 6, 2) := by decide +kernel
theorem dX11_forged_72 : decode cX11_forged 72 = .ok (.invokevirtual 154, 3) := by decide +kernel
theorem dX11_forged_75 : decode cX11_forged 75 = .ok (.pop, 1) := by decide +kernel
theorem dX11_forged_76 : decode cX11_forged 76 = .ok (.aload_n 0, 1) := by decide +kernel
theorem dX11_forged_77 : decode cX11_forged 77 = .ok (.getfield 46, 3) := by decide +kernel
theorem dX11_forged_80 : decode cX11_forged 80 = .ok (.iconst 0, 1) := by decide +kernel
theorem dX11_forged_81 : decode cX11_forged 81 = .ok (.iload 5, 2) := by decide +kernel
theorem dX11_forged_83 : decode cX11_forged 83 = .ok (.invokevirtual 167, 3) := by decide +kernel
theorem dX11_forged_86 : decode cX11_forged 86 = .ok (.aload_n 3, 1) := by decide +kernel
theorem dX11_forged_87 : decode cX11_forged 87 = .ok (.getfield 262, 3) := by decide +kernel
theorem dX11_forged_90 : decode cX11_forged 90 = .ok (.iload 5, 2) := by decide +kernel
theorem dX11_forged_92 : decode cX11_forged 92 = .ok (.iaload, 1) := by decide +kernel
theorem dX11_forged_93 : decode cX11_forged 93 = .ok (.if_icmp .eq 14, 3) := by decide +kernel
theorem dX11_forged_96 : decode cX11_forged 96 = .ok (.iload 4, 2) := by decide +kernel
theorem dX11_forged_98 : decode cX11_forged 98 = .ok (.iconst 1, 1) := by decide +kernel
theorem dX11_forged_99 : decode cX11_forged 99 = .ok (.iload 6, 2) := by decide +kernel
theorem dX11_forged_101 : decode cX11_forged 101 = .ok (.ishl, 1) := by decide +kernel
theorem dX11_forged_102 : decode cX11_forged 102 = .ok (.iconst (-1), 1) := by decide +kernel
theorem dX11_forged_103 : decode cX11_forged 103 = .ok (.ixor, 1) := by decide +kernel
theorem dX11_forged_104 : decode cX11_forged 104 = .ok (.iand, 1) := by decide +kernel
theorem dX11_forged_105 : decode cX11_forged 105 = .ok (.istore 4, 2) := by decide +kernel
theorem dX11_forged_107 : decode cX11_forged 107 = .ok (.iinc 6 1, 3) := by decide +kernel
theorem dX11_forged_110 : decode cX11_forged 110 = .ok (.goto (-61), 3) := by decide +kernel
theorem dX11_forged_113 : decode cX11_forged 113 = .ok (.iload 4, 2) := by decide +kernel
theorem dX11_forged_115 : decode cX11_forged 115 = .ok (.ifCond .ne 6, 3) := by decide +kernel
theorem dX11_forged_118 : decode cX11_forged 118 = .ok (.iload 5, 2) := by decide +kernel
theorem dX11_forged_120 : decode cX11_forged 120 = .ok (.ireturn, 1) := by decide +kernel
theorem dX11_forged_121 : decode cX11_forged 121 = .ok (.iinc 5 1, 3) := by decide +kernel
theorem dX11_forged_124 : decode cX11_forged 124 = .ok (.goto (-87), 3) := by decide +kernel
theorem dX11_forged_127 : decode cX11_forged 127 = .ok (.bipush (-4), 2) := by decide +kernel
theorem dX11_forged_129 : decode cX11_forged 129 = .ok (.ireturn, 1) := by decide +kernel
theorem dX11_judge_0 : decode cX11_judge 0 = .ok (.aload_n 0, 1) := by decide +kernel
theorem dX11_judge_1 : decode cX11_judge 1 = .ok (.iload_n 1, 1) := by decide +kernel
theorem dX11_judge_2 : decode cX11_judge 2 = .ok (.invokevirtual 70, 3) := by decide +kernel
theorem dX11_judge_5 : decode cX11_judge 5 = .ok (.istore_n 2, 1) := by decide +kernel
theorem dX11_judge_6 : decode cX11_judge 6 = .ok (.iload_n 2, 1) := by decide +kernel
theorem dX11_judge_7 : decode cX11_judge 7 = .ok (.ifCond .eq 5, 3) := by decide +kernel
theorem dX11_judge_10 : decode cX11_judge 10 = .ok (.iload_n 2, 1) := by decide +kernel
theorem dX11_judge_11 : decode cX11_judge 11 = .ok (.ireturn, 1) := by decide +kernel
theorem dX11_judge_12 : decode cX11_judge 12 = .ok (.aload_n 0, 1) := by decide +kernel
theorem dX11_judge_13 : decode cX11_judge 13 = .ok (.getfield 58, 3) := by decide +kernel
theorem dX11_judge_16 : decode cX11_judge 16 = .ok (.iload_n 1, 1) := by decide +kernel
theorem dX11_judge_17 : decode cX11_judge 17 = .ok (.aaload, 1) := by decide +kernel
theorem dX11_judge_18 : decode cX11_judge 18 = .ok (.astore_n 3, 1) := by decide +kernel
theorem dX11_judge_19 : decode cX11_judge 19 = .ok (.aload_n 0, 1) := by decide +kernel
theorem dX11_judge_20 : decode cX11_judge 20 = .ok (.getfield 46, 3) := by decide +kernel
theorem dX11_judge_23 : decode cX11_judge 23 = .ok (.aload_n 0, 1) := by decide +kernel
theorem dX11_judge_24 : decode cX11_judge 24 = .ok (.getfield 42, 3) := by decide +kernel
theorem dX11_judge_27 : decode cX11_judge 27 = .ok (.invokevirtual 84, 3) := by decide +kernel
theorem dX11_judge_30 : decode cX11_judge 30 = .ok (.iconst 0, 1) := by decide +kernel
theorem dX11_judge_31 : decode cX11_judge 31 = .ok (.istore 4, 2) := by decide +kernel
theorem dX11_judge_33 : decode cX11_judge 33 = .ok (.iload 4, 2) := by decide +kernel
theorem dX11_judge_35 : decode cX11_judge 35 = .ok (.aload_n 3, 1) := by decide +kernel
theorem dX11_judge_36 : decode cX11_judge 36 = .ok (.getfield 259, 3) := by decide +kernel
theorem dX11_judge_39 : decode cX11_judge 39 = .ok (.if_icmp .ge 46, 3) := by decide +kernel
theorem dX11_judge_42 : decode cX11_judge 42 = .ok (.aload_n 3, 1) := by decide +kernel
theorem dX11_judge_43 : decode cX11_judge 43 = .ok (.iload 4, 2) := by decide +kernel
theorem dX11_judge_45 : decode cX11_judge 45 = .ok (.invokevirtual 293, 3) := by decide +kernel
theorem dX11_judge_48 : decode cX11_judge 48 = .ok (.ifCond .ne 24, 3) := by decide +kernel
theorem dX11_judge_51 : decode cX11_judge 51 = .ok (.aload_n 3, 1) := by decide +kernel
theorem dX11_judge_52 : decode cX11_judge 52 = .ok (.getfield 262, 3) := by decide +kernel
theorem dX11_judge_55 : decode cX11_judge 55 = .ok (.iload 4, 2) := by decide +kernel
theorem dX11_judge_57 : decode cX11_judge 57 = .ok (.iaload, 1) := by decide +kernel
theorem dX11_judge_58 : decode cX11_judge 58 = .ok (.aload_n 0, 1) := by decide +kernel
theorem dX11_judge_59 : decode cX11_judge 59 = .ok (.getfield 46, 3) := by decide +kernel
theorem dX11_judge_62 : decode cX11_judge 62 = .ok (.iconst 0, 1) := by decide +kernel
theorem dX11_judge_63 : decode cX11_judge 63 = .ok (.invokevirtual 158, 3) := by decide +kernel
theorem dX11_judge_66 : decode cX11_judge 66 = .ok (.if_icmp .eq 6, 3) := by decide +kernel
theorem dX11_judge_69 : decode cX11_judge 69 = .ok (.iload 4, 2) := by decide +kernel
theorem dX11_judge_71 : decode cX11_judge 71 = .ok (.ireturn, 1) := by decide +kernel
theorem dX11_judge_72 : decode cX11_judge 72 = .ok (.aload_n 0, 1) := by decide +kernel
theorem dX11_judge_73 : decode cX11_judge 73 = .ok (.getfield 46, 3) := by decide +kernel
theorem dX11_judge_76 : decode cX11_judge 76 = .ok (.invokevirtual 296, 3) := by decide +kernel
theorem dX11_judge_79 : decode cX11_judge 79 = .ok (.iinc 4 1, 3) := by decide +kernel
theorem dX11_judge_82 : decode cX11_judge 82 = .ok (.goto (-49), 3) := by decide +kernel
theorem dX11_judge_85 : decode cX11_judge 85 = .ok (.bipush (-4), 2) := by decide +kernel
theorem dX11_judge_87 : decode cX11_judge 87 = .ok (.ireturn, 1) := by decide +kernel
theorem dX11_winters_0 : decode cX11_winters 0 = .ok (.iload_n 1, 1) := by decide +kernel
theorem dX11_winters_1 : decode cX11_winters 1 = .ok (.iconst 1, 1) := by decide +kernel
theorem dX11_winters_2 : decode cX11_winters 2 = .ok (.bipush 20, 2) := by decide +kernel
theorem dX11_winters_4 : decode cX11_winters 4 = .ok (.invokestatic 126, 3) := by decide +kernel
theorem dX11_winters_7 : decode cX11_winters 7 = .ok (.ifCond .eq 10, 3) := by decide +kernel
theorem dX11_winters_10 : decode cX11_winters 10 = .ok (.iload_n 3, 1) := by decide +kernel
theorem dX11_winters_11 : decode cX11_winters 11 = .ok (.invokestatic 173, 3) := by decide +kernel
theorem dX11_winters_14 : decode cX11_winters 14 = .ok (.ifCond .ne 5, 3) := by decide +kernel
theorem dX11_winters_17 : decode cX11_winters 17 = .ok (.iconst (-1), 1) := by decide +kernel
theorem dX11_winters_18 : decode cX11_winters 18 = .ok (.ireturn, 1) := by decide +kernel
theorem dX11_winters_19 : decode cX11_winters 19 = .ok (.iload_n 2, 1) := by decide +kernel
theorem dX11_winters_20 : decode cX11_winters 20 = .ok (.istore 4, 2) := by decide +kernel
theorem dX11_winters_22 : decode cX11_winters 22 = .ok (.iconst 0, 1) := by decide +kernel
theorem dX11_winters_23 : decode cX11_winters 23 = .ok (.istore 5, 2) := by decide +kernel
theorem dX11_winters_25 : decode cX11_winters 25 = .ok (.iconst 0, 1) := by decide +kernel
theorem dX11_winters_26 : decode cX11_winters 26 = .ok (.istore 6, 2) := by decide +kernel
theorem dX11_winters_28 : decode cX11_winters 28 = .ok (.iconst 0, 1) := by decide +kernel
theorem dX11_winters_29 : decode cX11_winters 29 = .ok (.istore 7, 2) := by decide +kernel
theorem dX11_winters_31 : decode cX11_winters 31 = .ok (.iload 7, 2) := by decide +kernel
theorem dX11_winters_33 : decode cX11_winters 33 = .ok (.iload_n 1, 1) := by decide +kernel
theorem dX11_winters_34 : decode cX11_winters 34 = .ok (.bipush 10, 2) := by decide +kernel
theorem dX11_winters_36 : decode cX11_winters 36 = .ok (.imul, 1) := by decide +kernel
theorem dX11_winters_37 : decode cX11_winters 37 = .ok (.if_icmp .ge 115, 3) := by decide +kernel
theorem dX11_winters_40 : decode cX11_winters 40 = .ok (.iload 7, 2) := by decide +kernel
theorem dX11_winters_42 : decode cX11_winters 42 = .ok (.bipush 10, 2) := by decide +kernel
theorem dX11_winters_44 : decode cX11_winters 44 = .ok (.irem, 1) := by decide +kernel
theorem dX11_winters_45 : decode cX11_winters 45 = .ok (.ifCond .ne 14, 3) := by decide +kernel
theorem dX11_winters_48 : decode cX11_winters 48 = .ok (.aload_n 0, 1) := by decide +kernel
theorem dX11_winters_49 : decode cX11_winters 49 = .ok (.getfield 46, 3) := by decide +kernel
theorem dX11_winters_52 : decode cX11_winters 52 = .ok (.aload_n 0, 1) := by decide +kernel
theorem dX11_winters_53 : decode cX11_winters 53 = .ok (.getfield 42, 3) := by decide +kernel
theorem dX11_winters_56 : decode cX11_winters 56 = .ok (.invokevirtual 84, 3) := by decide +kernel
theorem dX11_winters_59 : decode cX11_winters 59 = .ok (.iload 4, 2) := by decide +kernel
theorem dX11_winters_61 : decode cX11_winters 61 = .ok (.invokestatic 299, 3) := by decide +kernel
theorem dX11_winters_64 : decode cX11_winters 64 = .ok (.istore 4, 2) := by decide +kernel
theorem dX11_winters_66 : decode cX11_winters 66 = .ok (.aload_n 0, 1) := by decide +kernel
theorem dX11_winters_67 : decode cX11_winters 67 = .ok (.getfield 46, 3) := by decide +kernel
theorem dX11_winters_70 : decode cX11_winters 70 = .ok (.iconst 0, 1) := by decide +kernel
theorem dX11_winters_71 : decode cX11_winters 71 = .ok (.iload 4, 2) := by decide +kernel
theorem dX11_winters_73 : decode cX11_winters 73 = .ok (.invokestatic 302, 3) := by decide +kernel
theorem dX11_winters_76 : decode cX11_winters 76 = .ok (.bipush 100, 2) := by decide +kernel
theorem dX11_winters_78 : decode cX11_winters 78 = .ok (.irem, 1) := by decide +kernel
theorem dX11_winters_79 : decode cX11_winters 79 = .ok (.invokevirtual 154, 3) := by decide +kernel
theorem dX11_winters_82 : decode cX11_winters 82 = .ok (.pop, 1) := by decide +kernel
theorem dX11_winters_83 : decode cX11_winters 83 = .ok (.iload 4, 2) := by decide +kernel
theorem dX11_winters_85 : decode cX11_winters 85 = .ok (.invokestatic 299, 3) := by decide +kernel
theorem dX11_winters_88 : decode cX11_winters 88 = .ok (.istore 4, 2) := by decide +kernel
theorem dX11_winters_90 : decode cX11_winters 90 = .ok (.aload_n 0, 1) := by decide +kernel
theorem dX11_winters_91 : decode cX11_winters 91 = .ok (.getfield 46, 3) := by decide +kernel
theorem dX11_winters_94 : decode cX11_winters 94 = .ok (.iconst 1, 1) := by decide +kernel
theorem dX11_winters_95 : decode cX11_winters 95 = .ok (.iload 4, 2) := by decide +kernel
theorem dX11_winters_97 : decode cX11_winters 97 = .ok (.invokestatic 302, 3) := by decide +kernel
theorem dX11_winters_100 : decode cX11_winters 100 = .ok (.bipush 10, 2) := by decide +kernel
theorem dX11_winters_102 : decode cX11_winters 102 = .ok (.irem, 1) := by decide +kernel
theorem dX11_winters_103 : decode cX11_winters 103 = .ok (.invokevirtual 154, 3) := by decide +kernel
theorem dX11_winters_106 : decode cX11_winters 106 = .ok (.pop, 1) := by decide +kernel
theorem dX11_winters_107 : decode cX11_winters 107 = .ok (.aload_n 0, 1) := by decide +kernel
theorem dX11_winters_108 : decode cX11_winters 108 = .ok (.getfield 46, 3) := by decide +kernel
theorem dX11_winters_111 : decode cX11_winters 111 = .ok (.iconst 0, 1) := by decide +kernel
theorem dX11_winters_112 : decode cX11_winters 112 = .ok (.invokevirtual 158, 3) := by decide +kernel
theorem dX11_winters_115 : decode cX11_winters 115 = .ok (.istore 8, 2) := by decide +kernel
theorem dX11_winters_117 : decode cX11_winters 117 = .ok (.iload 5, 2) := by decide +kernel
theorem dX11_winters_119 : decode cX11_winters 119 = .ok (.iload 8, 2) := by decide +kernel
theorem dX11_winters_121 : decode cX11_winters 121 = .ok (.ifCond .le 7, 3) := by decide +kernel
theorem dX11_winters_124 : decode cX11_winters 124 = .ok (.iconst 1, 1) := by decide +kernel
theorem dX11_winters_125 : decode cX11_winters 125 = .ok (.goto 4, 3) := by decide +kernel
theorem dX11_winters_128 : decode cX11_winters 128 = .ok (.iconst 0, 1) := by decide +kernel
theorem dX11_winters_129 : decode cX11_winters 129 = .ok (.iadd, 1) := by decide +kernel
theorem dX11_winters_130 : decode cX11_winters 130 = .ok (.istore 5, 2) := by decide +kernel
theorem dX11_winters_132 : decode cX11_winters 132 = .ok (.iload 6, 2) := by decide +kernel
theorem dX11_winters_134 : decode cX11_winters 134 = .ok (.iload 8, 2) := by decide +kernel
theorem dX11_winters_136 : decode cX11_winters 136 = .ok (.iadd, 1) := by decide +kernel
theorem dX11_winters_137 : decode cX11_winters 137 = .ok (.istore 6, 2) := by decide +kernel
theorem dX11_winters_139 : decode cX11_winters 139 = .ok (.aload_n 0, 1) := by decide +kernel
theorem dX11_winters_140 : decode cX11_winters 140 = .ok (.getfield 46, 3) := by decide +kernel
theorem dX11_winters_143 : decode cX11_winters 143 = .ok (.invokevirtual 296, 3) := by decide +kernel
theorem dX11_winters_146 : decode cX11_winters 146 = .ok (.iinc 7 1, 3) := by decide +kernel
theorem dX11_winters_149 : decode cX11_winters 149 = .ok (.goto (-118), 3) := by decide +kernel
theorem dX11_winters_152 : decode cX11_winters 152 = .ok (.iload_n 3, 1) := by decide +kernel
theorem dX11_winters_153 : decode cX11_winters 153 = .ok (.ifCond .ne 8, 3) := by decide +kernel
theorem dX11_winters_156 : decode cX11_winters 156 = .ok (.iload 5, 2) := by decide +kernel
theorem dX11_winters_158 : decode cX11_winters 158 = .ok (.goto 5, 3) := by decide +kernel
theorem dX11_winters_161 : decode cX11_winters 161 = .ok (.iload 6, 2) := by decide +kernel
theorem dX11_winters_163 : decode cX11_winters 163 = .ok (.ireturn, 1) := by decide +kernel
theorem dX11_nextSeed_0 : decode cX11_nextSeed 0 = .ok (.iload_n 0, 1) := by decide +kernel
theorem dX11_nextSeed_1 : decode cX11_nextSeed 1 = .ok (.ldc_w 305, 3) := by decide +kernel
theorem dX11_nextSeed_4 : decode cX11_nextSeed 4 = .ok (.imul, 1) := by decide +kernel
theorem dX11_nextSeed_5 : decode cX11_nextSeed 5 = .ok (.sipush 12345, 3) := by decide +kernel
theorem dX11_nextSeed_8 : decode cX11_nextSeed 8 = .ok (.iadd, 1) := by decide +kernel
theorem dX11_nextSeed_9 : decode cX11_nextSeed 9 = .ok (.ireturn, 1) := by decide +kernel
theorem dX11_drawn_0 : decode cX11_drawn 0 = .ok (.iload_n 0, 1) := by decide +kernel
theorem dX11_drawn_1 : decode cX11_drawn 1 = .ok (.ldc_w 306, 3) := by decide +kernel
theorem dX11_drawn_4 : decode cX11_drawn 4 = .ok (.iand, 1) := by decide +kernel
theorem dX11_drawn_5 : decode cX11_drawn 5 = .ok (.bipush 16, 2) := by decide +kernel
theorem dX11_drawn_7 : decode cX11_drawn 7 = .ok (.ishr, 1) := by decide +kernel
theorem dX11_drawn_8 : decode cX11_drawn 8 = .ok (.ireturn, 1) := by decide +kernel
theorem dX11_image_0 : decode cX11_image 0 = .ok (.aload_n 0, 1) := by decide +kernel
theorem dX11_image_1 : decode cX11_image 1 = .ok (.getfield 49, 3) := by decide +kernel
theorem dX11_image_4 : decode cX11_image 4 = .ok (.aload_n 0, 1) := by decide +kernel
theorem dX11_image_5 : decode cX11_image 5 = .ok (.getfield 42, 3) := by decide +kernel
theorem dX11_image_8 : decode cX11_image 8 = .ok (.invokevirtual 84, 3) := by decide +kernel
theorem dX11_image_11 : decode cX11_image 11 = .ok (.aload_n 0, 1) := by decide +kernel
theorem dX11_image_12 : decode cX11_image 12 = .ok (.iconst 1, 1) := by decide +kernel
theorem dX11_image_13 : decode cX11_image 13 = .ok (.putfield 52, 3) := by decide +kernel
theorem dX11_image_16 : decode cX11_image 16 = .ok (.aload_n 0, 1) := by decide +kernel
theorem dX11_image_17 : decode cX11_image 17 = .ok (.getfield 42, 3) := by decide +kernel
theorem dX11_image_20 : decode cX11_image 20 = .ok (.getfield 307, 3) := by decide +kernel
theorem dX11_image_23 : decode cX11_image 23 = .ok (.ireturn, 1) := by decide +kernel
theorem dX11_restore_0 : decode cX11_restore 0 = .ok (.aload_n 0, 1) := by decide +kernel
theorem dX11_restore_1 : decode cX11_restore 1 = .ok (.getfield 52, 3) := by decide +kernel
theorem dX11_restore_4 : decode cX11_restore 4 = .ok (.ifCond .ne 6, 3) := by decide +kernel
theorem dX11_restore_7 : decode cX11_restore 7 = .ok (.bipush (-3), 2) := by decide +kernel
theorem dX11_restore_9 : decode cX11_restore 9 = .ok (.ireturn, 1) := by decide +kernel
theorem dX11_restore_10 : decode cX11_restore 10 = .ok (.aload_n 0, 1) := by decide +kernel
theorem dX11_restore_11 : decode cX11_restore 11 = .ok (.getfield 42, 3) := by decide +kernel
theorem dX11_restore_14 : decode cX11_restore 14 = .ok (.aload_n 0, 1) := by decide +kernel
theorem dX11_restore_15 : decode cX11_restore 15 = .ok (.getfield 49, 3) := by decide +kernel
theorem dX11_restore_18 : decode cX11_restore 18 = .ok (.invokevirtual 84, 3) := by decide +kernel
theorem dX11_restore_21 : decode cX11_restore 21 = .ok (.aload_n 0, 1) := by decide +kernel
theorem dX11_restore_22 : decode cX11_restore 22 = .ok (.getfield 42, 3) := by decide +kernel
theorem dX11_restore_25 : decode cX11_restore 25 = .ok (.getfield 307, 3) := by decide +kernel
theorem dX11_restore_28 : decode cX11_restore 28 = .ok (.ireturn, 1) := by decide +kernel
theorem dX11_count_0 : decode cX11_count 0 = .ok (.iload_n 1, 1) := by decide +kernel
theorem dX11_count_1 : decode cX11_count 1 = .ok (.tableswitch 119 0 7 #[47, 55, 63, 73, 83, 93, 103, 111], 47) := by decide +kernel
theorem dX11_count_48 : decode cX11_count 48 = .ok (.aload_n 0, 1) := by decide +kernel
theorem dX11_count_49 : decode cX11_count 49 = .ok (.getfield 42, 3) := by decide +kernel
theorem dX11_count_52 : decode cX11_count 52 = .ok (.getfield 203, 3) := by decide +kernel
theorem dX11_count_55 : decode cX11_count 55 = .ok (.ireturn, 1) := by decide +kernel
theorem dX11_count_56 : decode cX11_count 56 = .ok (.aload_n 0, 1) := by decide +kernel
theorem dX11_count_57 : decode cX11_count 57 = .ok (.getfield 42, 3) := by decide +kernel
theorem dX11_count_60 : decode cX11_count 60 = .ok (.getfield 307, 3) := by decide +kernel
theorem dX11_count_63 : decode cX11_count 63 = .ok (.ireturn, 1) := by decide +kernel
theorem dX11_count_64 : decode cX11_count 64 = .ok (.aload_n 0, 1) := by decide +kernel
theorem dX11_count_65 : decode cX11_count 65 = .ok (.getfield 42, 3) := by decide +kernel
theorem dX11_count_68 : decode cX11_count 68 = .ok (.getfield 182, 3) := by decide +kernel
theorem dX11_count_71 : decode cX11_count 71 = .ok (.iconst 0, 1) := by decide +kernel
theorem dX11_count_72 : decode cX11_count 72 = .ok (.iaload, 1) := by decide +kernel
theorem dX11_count_73 : decode cX11_count 73 = .ok (.ireturn, 1) := by decide +kernel
theorem dX11_count_74 : decode cX11_count 74 = .ok (.aload_n 0, 1) := by decide +kernel
theorem dX11_count_75 : decode cX11_count 75 = .ok (.getfield 42, 3) := by decide +kernel
theorem dX11_count_78 : decode cX11_count 78 = .ok (.getfield 182, 3) := by decide +kernel
theorem dX11_count_81 : decode cX11_count 81 = .ok (.iconst 1, 1) := by decide +kernel
theorem dX11_count_82 : decode cX11_count 82 = .ok (.iaload, 1) := by decide +kernel
theorem dX11_count_83 : decode cX11_count 83 = .ok (.ireturn, 1) := by decide +kernel
theorem dX11_count_84 : decode cX11_count 84 = .ok (.aload_n 0, 1) := by decide +kernel
theorem dX11_count_85 : decode cX11_count 85 = .ok (.getfield 42, 3) := by decide +kernel
theorem dX11_count_88 : decode cX11_count 88 = .ok (.getfield 182, 3) := by decide +kernel
theorem dX11_count_91 : decode cX11_count 91 = .ok (.iconst 2, 1) := by decide +kernel
theorem dX11_count_92 : decode cX11_count 92 = .ok (.iaload, 1) := by decide +kernel
theorem dX11_count_93 : decode cX11_count 93 = .ok (.ireturn, 1) := by decide +kernel
theorem dX11_count_94 : decode cX11_count 94 = .ok (.aload_n 0, 1) := by decide +kernel
theorem dX11_count_95 : decode cX11_count 95 = .ok (.getfield 42, 3) := by decide +kernel
theorem dX11_count_98 : decode cX11_count 98 = .ok (.getfield 182, 3) := by decide +kernel
theorem dX11_count_101 : decode cX11_count 101 = .ok (.iconst 3, 1) := by decide +kernel
theorem dX11_count_102 : decode cX11_count 102 = .ok (.iaload, 1) := by decide +kernel
theorem dX11_count_103 : decode cX11_count 103 = .ok (.ireturn, 1) := by decide +kernel
theorem dX11_count_104 : decode cX11_count 104 = .ok (.aload_n 0, 1) := by decide +kernel
theorem dX11_count_105 : decode cX11_count 105 = .ok (.getfield 42, 3) := by decide +kernel
theorem dX11_count_108 : decode cX11_count 108 = .ok (.invokevirtual 281, 3) := by decide +kernel
theorem dX11_count_111 : decode cX11_count 111 = .ok (.ireturn, 1) := by decide +kernel
theorem dX11_count_112 : decode cX11_count 112 = .ok (.aload_n 0, 1) := by decide +kernel
theorem dX11_count_113 : decode cX11_count 113 = .ok (.getfield 42, 3) := by decide +kernel
theorem dX11_count_116 : decode cX11_count 116 = .ok (.invokevirtual 310, 3) := by decide +kernel
theorem dX11_count_119 : decode cX11_count 119 = .ok (.ireturn, 1) := by decide +kernel
theorem dX11_count_120 : decode cX11_count 120 = .ok (.iconst (-1), 1) := by decide +kernel
theorem dX11_count_121 : decode cX11_count 121 = .ok (.ireturn, 1) := by decide +kernel
theorem dX11_keep_0 : decode cX11_keep 0 = .ok (.iload_n 1, 1) := by decide +kernel
theorem dX11_keep_1 : decode cX11_keep 1 = .ok (.invokestatic 120, 3) := by decide +kernel
theorem dX11_keep_4 : decode cX11_keep 4 = .ok (.ifCond .eq 10, 3) := by decide +kernel
theorem dX11_keep_7 : decode cX11_keep 7 = .ok (.iload_n 2, 1) := by decide +kernel
theorem dX11_keep_8 : decode cX11_keep 8 = .ok (.invokestatic 173, 3) := by decide +kernel
theorem dX11_keep_11 : decode cX11_keep 11 = .ok (.ifCond .ne 5, 3) := by decide +kernel
theorem dX11_keep_14 : decode cX11_keep 14 = .ok (.iconst (-1), 1) := by decide +kernel
theorem dX11_keep_15 : decode cX11_keep 15 = .ok (.ireturn, 1) := by decide +kernel
theorem dX11_keep_16 : decode cX11_keep 16 = .ok (.iload_n 2, 1) := by decide +kernel
theorem dX11_keep_17 : decode cX11_keep 17 = .ok (.ifCond .ne 14, 3) := by decide +kernel
theorem dX11_keep_20 : decode cX11_keep 20 = .ok (.aload_n 0, 1) := by decide +kernel
theorem dX11_keep_21 : decode cX11_keep 21 = .ok (.getfield 58, 3) := by decide +kernel
theorem dX11_keep_24 : decode cX11_keep 24 = .ok (.iload_n 1, 1) := by decide +kernel
theorem dX11_keep_25 : decode cX11_keep 25 = .ok (.aaload, 1) := by decide +kernel
theorem dX11_keep_26 : decode cX11_keep 26 = .ok (.invokevirtual 313, 3) := by decide +kernel
theorem dX11_keep_29 : decode cX11_keep 29 = .ok (.iconst 0, 1) := by decide +kernel
theorem dX11_keep_30 : decode cX11_keep 30 = .ok (.ireturn, 1) := by decide +kernel
theorem dX11_keep_31 : decode cX11_keep 31 = .ok (.iload_n 3, 1) := by decide +kernel
theorem dX11_keep_32 : decode cX11_keep 32 = .ok (.iconst 0, 1) := by decide +kernel
theorem dX11_keep_33 : decode cX11_keep 33 = .ok (.bipush 7, 2) := by decide +kernel
theorem dX11_keep_35 : decode cX11_keep 35 = .ok (.invokestatic 126, 3) := by decide +kernel
theorem dX11_keep_38 : decode cX11_keep 38 = .ok (.ifCond .eq 14, 3) := by decide +kernel
theorem dX11_keep_41 : decode cX11_keep 41 = .ok (.iload 4, 2) := by decide +kernel
theorem dX11_keep_43 : decode cX11_keep 43 = .ok (.iconst 0, 1) := by decide +kernel
theorem dX11_keep_44 : decode cX11_keep 44 = .ok (.bipush 9, 2) := by decide +kernel
theorem dX11_keep_46 : decode cX11_keep 46 = .ok (.invokestatic 126, 3) := by decide +kernel
theorem dX11_keep_49 : decode cX11_keep 49 = .ok (.ifCond .ne 5, 3) := by decide +kernel
theorem dX11_keep_52 : decode cX11_keep 52 = .ok (.iconst (-1), 1) := by decide +kernel
theorem dX11_keep_53 : decode cX11_keep 53 = .ok (.ireturn, 1) := by decide +kernel
theorem dX11_keep_54 : decode cX11_keep 54 = .ok (.aload_n 0, 1) := by decide +kernel
theorem dX11_keep_55 : decode cX11_keep 55 = .ok (.getfield 58, 3) := by decide +kernel
theorem dX11_keep_58 : decode cX11_keep 58 = .ok (.iload_n 1, 1) := by decide +kernel
theorem dX11_keep_59 : decode cX11_keep 59 = .ok (.aaload, 1) := by decide +kernel
theorem dX11_keep_60 : decode cX11_keep 60 = .ok (.iload_n 3, 1) := by decide +kernel
theorem dX11_keep_61 : decode cX11_keep 61 = .ok (.iload 4, 2) := by decide +kernel
theorem dX11_keep_63 : decode cX11_keep 63 = .ok (.invokevirtual 316, 3) := by decide +kernel
theorem dX11_keep_66 : decode cX11_keep 66 = .ok (.iconst 0, 1) := by decide +kernel
theorem dX11_keep_67 : decode cX11_keep 67 = .ok (.ireturn, 1) := by decide +kernel
theorem dX11_row_0 : decode cX11_row 0 = .ok (.iload_n 1, 1) := by decide +kernel
theorem dX11_row_1 : decode cX11_row 1 = .ok (.invokestatic 120, 3) := by decide +kernel
theorem dX11_row_4 : decode cX11_row 4 = .ok (.ifCond .eq 18, 3) := by decide +kernel
theorem dX11_row_7 : decode cX11_row 7 = .ok (.iload_n 2, 1) := by decide +kernel
theorem dX11_row_8 : decode cX11_row 8 = .ok (.iconst 0, 1) := by decide +kernel
theorem dX11_row_9 : decode cX11_row 9 = .ok (.iconst 2, 1) := by decide +kernel
theorem dX11_row_10 : decode cX11_row 10 = .ok (.invokestatic 126, 3) := by decide +kernel
theorem dX11_row_13 : decode cX11_row 13 = .ok (.ifCond .eq 9, 3) := by decide +kernel
theorem dX11_row_16 : decode cX11_row 16 = .ok (.iload_n 3, 1) := by decide +kernel
theorem dX11_row_17 : decode cX11_row 17 = .ok (.bipush 100, 2) := by decide +kernel
theorem dX11_row_19 : decode cX11_row 19 = .ok (.if_icmp .le 5, 3) := by decide +kernel
theorem dX11_row_22 : decode cX11_row 22 = .ok (.iconst (-1), 1) := by decide +kernel
theorem dX11_row_23 : decode cX11_row 23 = .ok (.ireturn, 1) := by decide +kernel
theorem dX11_row_24 : decode cX11_row 24 = .ok (.iload_n 3, 1) := by decide +kernel
theorem dX11_row_25 : decode cX11_row 25 = .ok (.ifCond .ge 6, 3) := by decide +kernel
theorem dX11_row_28 : decode cX11_row 28 = .ok (.bipush (-14), 2) := by decide +kernel
theorem dX11_row_30 : decode cX11_row 30 = .ok (.ireturn, 1) := by decide +kernel
theorem dX11_row_31 : decode cX11_row 31 = .ok (.aload_n 0, 1) := by decide +kernel
theorem dX11_row_32 : decode cX11_row 32 = .ok (.getfield 58, 3) := by decide +kernel
theorem dX11_row_35 : decode cX11_row 35 = .ok (.iload_n 1, 1) := by decide +kernel
theorem dX11_row_36 : decode cX11_row 36 = .ok (.aaload, 1) := by decide +kernel
theorem dX11_row_37 : decode cX11_row 37 = .ok (.iload_n 2, 1) := by decide +kernel
theorem dX11_row_38 : decode cX11_row 38 = .ok (.iload_n 3, 1) := by decide +kernel
theorem dX11_row_39 : decode cX11_row 39 = .ok (.invokevirtual 320, 3) := by decide +kernel
theorem dX11_row_42 : decode cX11_row 42 = .ok (.iconst 0, 1) := by decide +kernel
theorem dX11_row_43 : decode cX11_row 43 = .ok (.ireturn, 1) := by decide +kernel
theorem dX11_put_0 : decode cX11_put 0 = .ok (.aload_n 0, 1) := by decide +kernel
theorem dX11_put_1 : decode cX11_put 1 = .ok (.iload_n 1, 1) := by decide +kernel
theorem dX11_put_2 : decode cX11_put 2 = .ok (.invokevirtual 70, 3) := by decide +kernel
theorem dX11_put_5 : decode cX11_put 5 = .ok (.istore 4, 2) := by decide +kernel
theorem dX11_put_7 : decode cX11_put 7 = .ok (.iload 4, 2) := by decide +kernel
theorem dX11_put_9 : decode cX11_put 9 = .ok (.ifCond .eq 6, 3) := by decide +kernel
theorem dX11_put_12 : decode cX11_put 12 = .ok (.iload 4, 2) := by decide +kernel
theorem dX11_put_14 : decode cX11_put 14 = .ok (.ireturn, 1) := by decide +kernel
theorem dX11_put_15 : decode cX11_put 15 = .ok (.aload_n 0, 1) := by decide +kernel
theorem dX11_put_16 : decode cX11_put 16 = .ok (.getfield 58, 3) := by decide +kernel
theorem dX11_put_19 : decode cX11_put 19 = .ok (.iload_n 1, 1) := by decide +kernel
theorem dX11_put_20 : decode cX11_put 20 = .ok (.aaload, 1) := by decide +kernel
theorem dX11_put_21 : decode cX11_put 21 = .ok (.iload_n 2, 1) := by decide +kernel
theorem dX11_put_22 : decode cX11_put 22 = .ok (.invokevirtual 323, 3) := by decide +kernel
theorem dX11_put_25 : decode cX11_put 25 = .ok (.ifCond .ne 6, 3) := by decide +kernel
theorem dX11_put_28 : decode cX11_put 28 = .ok (.bipush (-13), 2) := by decide +kernel
theorem dX11_put_30 : decode cX11_put 30 = .ok (.ireturn, 1) := by decide +kernel
theorem dX11_put_31 : decode cX11_put 31 = .ok (.aload_n 0, 1) := by decide +kernel
theorem dX11_put_32 : decode cX11_put 32 = .ok (.getfield 58, 3) := by decide +kernel
theorem dX11_put_35 : decode cX11_put 35 = .ok (.iload_n 1, 1) := by decide +kernel
theorem dX11_put_36 : decode cX11_put 36 = .ok (.aaload, 1) := by decide +kernel
theorem dX11_put_37 : decode cX11_put 37 = .ok (.iload_n 2, 1) := by decide +kernel
theorem dX11_put_38 : decode cX11_put 38 = .ok (.iload_n 3, 1) := by decide +kernel
theorem dX11_put_39 : decode cX11_put 39 = .ok (.invokevirtual 326, 3) := by decide +kernel
theorem dX11_put_42 : decode cX11_put 42 = .ok (.iconst 0, 1) := by decide +kernel
theorem dX11_put_43 : decode cX11_put 43 = .ok (.ireturn, 1) := by decide +kernel
theorem dX11_element_0 : decode cX11_element 0 = .ok (.iload_n 1, 1) := by decide +kernel
theorem dX11_element_1 : decode cX11_element 1 = .ok (.invokestatic 120, 3) := by decide +kernel
theorem dX11_element_4 : decode cX11_element 4 = .ok (.ifCond .ne 14, 3) := by decide +kernel
theorem dX11_element_7 : decode cX11_element 7 = .ok (.new 329, 3) := by decide +kernel
theorem dX11_element_10 : decode cX11_element 10 = .ok (.dup, 1) := by decide +kernel
theorem dX11_element_11 : decode cX11_element 11 = .ok (.ldc_w 331, 3) := by decide +kernel
theorem dX11_element_14 : decode cX11_element 14 = .ok (.invokespecial 333, 3) := by decide +kernel
theorem dX11_element_17 : decode cX11_element 17 = .ok (.athrow, 1) := by decide +kernel
theorem dX11_element_18 : decode cX11_element 18 = .ok (.aload_n 0, 1) := by decide +kernel
theorem dX11_element_19 : decode cX11_element 19 = .ok (.getfield 58, 3) := by decide +kernel
theorem dX11_element_22 : decode cX11_element 22 = .ok (.iload_n 1, 1) := by decide +kernel
theorem dX11_element_23 : decode cX11_element 23 = .ok (.aaload, 1) := by decide +kernel
theorem dX11_element_24 : decode cX11_element 24 = .ok (.invokevirtual 336, 3) := by decide +kernel
theorem dX11_element_27 : decode cX11_element 27 = .ok (.ifCond .ne 16, 3) := by decide +kernel
theorem dX11_element_30 : decode cX11_element 30 = .ok (.aload_n 0, 1) := by decide +kernel
theorem dX11_element_31 : decode cX11_element 31 = .ok (.getfield 58, 3) := by decide +kernel
theorem dX11_element_34 : decode cX11_element 34 = .ok (.iload_n 1, 1) := by decide +kernel
theorem dX11_element_35 : decode cX11_element 35 = .ok (.aaload, 1) := by decide +kernel
theorem dX11_element_36 : decode cX11_element 36 = .ok (.iload_n 2, 1) := by decide +kernel
theorem dX11_element_37 : decode cX11_element 37 = .ok (.invokevirtual 323, 3) := by decide +kernel
theorem dX11_element_40 : decode cX11_element 40 = .ok (.ifCond .ne 14, 3) := by decide +kernel
theorem dX11_element_43 : decode cX11_element 43 = .ok (.new 339, 3) := by decide +kernel
theorem dX11_element_46 : decode cX11_element 46 = .ok (.dup, 1) := by decide +kernel
theorem dX11_element_47 : decode cX11_element 47 = .ok (.ldc_w 341, 3) := by decide +kernel
theorem dX11_element_50 : decode cX11_element 50 = .ok (.invokespecial 343, 3) := by decide +kernel
theorem dX11_element_53 : decode cX11_element 53 = .ok (.athrow, 1) := by decide +kernel
theorem dX11_element_54 : decode cX11_element 54 = .ok (.aload_n 0, 1) := by decide +kernel
theorem dX11_element_55 : decode cX11_element 55 = .ok (.getfield 58, 3) := by decide +kernel
theorem dX11_element_58 : decode cX11_element 58 = .ok (.iload_n 1, 1) := by decide +kernel
theorem dX11_element_59 : decode cX11_element 59 = .ok (.aaload, 1) := by decide +kernel
theorem dX11_element_60 : decode cX11_element 60 = .ok (.getfield 262, 3) := by decide +kernel
theorem dX11_element_63 : decode cX11_element 63 = .ok (.iload_n 2, 1) := by decide +kernel
theorem dX11_element_64 : decode cX11_element 64 = .ok (.iaload, 1) := by decide +kernel
theorem dX11_element_65 : decode cX11_element 65 = .ok (.i2l, 1) := by decide +kernel
theorem dX11_element_66 : decode cX11_element 66 = .ok (.lreturn, 1) := by decide +kernel
theorem dX11_copy_0 : decode cX11_copy 0 = .ok (.iload_n 1, 1) := by decide +kernel
theorem dX11_copy_1 : decode cX11_copy 1 = .ok (.invokestatic 120, 3) := by decide +kernel
theorem dX11_copy_4 : decode cX11_copy 4 = .ok (.ifCond .eq 10, 3) := by decide +kernel
theorem dX11_copy_7 : decode cX11_copy 7 = .ok (.iload_n 3, 1) := by decide +kernel
theorem dX11_copy_8 : decode cX11_copy 8 = .ok (.invokestatic 120, 3) := by decide +kernel
theorem dX11_copy_11 : decode cX11_copy 11 = .ok (.ifCond .ne 5, 3) := by decide +kernel
theorem dX11_copy_14 : decode cX11_copy 14 = .ok (.iconst (-1), 1) := by decide +kernel
theorem dX11_copy_15 : decode cX11_copy 15 = .ok (.ireturn, 1) := by decide +kernel
theorem dX11_copy_16 : decode cX11_copy 16 = .ok (.aload_n 0, 1) := by decide +kernel
theorem dX11_copy_17 : decode cX11_copy 17 = .ok (.getfield 58, 3) := by decide +kernel
theorem dX11_copy_20 : decode cX11_copy 20 = .ok (.iload_n 1, 1) := by decide +kernel
theorem dX11_copy_21 : decode cX11_copy 21 = .ok (.aaload, 1) := by decide +kernel
theorem dX11_copy_22 : decode cX11_copy 22 = .ok (.astore 6, 2) := by decide +kernel
theorem dX11_copy_24 : decode cX11_copy 24 = .ok (.aload_n 0, 1) := by decide +kernel
theorem dX11_copy_25 : decode cX11_copy 25 = .ok (.getfield 58, 3) := by decide +kernel
theorem dX11_copy_28 : decode cX11_copy 28 = .ok (.iload_n 3, 1) := by decide +kernel
theorem dX11_copy_29 : decode cX11_copy 29 = .ok (.aaload, 1) := by decide +kernel
theorem dX11_copy_30 : decode cX11_copy 30 = .ok (.astore 7, 2) := by decide +kernel
theorem dX11_copy_32 : decode cX11_copy 32 = .ok (.aload 6, 2) := by decide +kernel
theorem dX11_copy_34 : decode cX11_copy 34 = .ok (.invokevirtual 344, 3) := by decide +kernel
theorem dX11_copy_37 : decode cX11_copy 37 = .ok (.ifCond .ne 11, 3) := by decide +kernel
theorem dX11_copy_40 : decode cX11_copy 40 = .ok (.aload 7, 2) := by decide +kernel
theorem dX11_copy_42 : decode cX11_copy 42 = .ok (.invokevirtual 344, 3) := by decide +kernel
theorem dX11_copy_45 : decode cX11_copy 45 = .ok (.ifCond .eq 6, 3) := by decide +kernel
theorem dX11_copy_48 : decode cX11_copy 48 = .ok (.bipush (-11), 2) := by decide +kernel
theorem dX11_copy_50 : decode cX11_copy 50 = .ok (.ireturn, 1) := by decide +kernel
theorem dX11_copy_51 : decode cX11_copy 51 = .ok (.aload 6, 2) := by decide +kernel
theorem dX11_copy_53 : decode cX11_copy 53 = .ok (.invokevirtual 336, 3) := by decide +kernel
theorem dX11_copy_56 : decode cX11_copy 56 = .ok (.ifCond .ne 24, 3) := by decide +kernel
theorem dX11_copy_59 : decode cX11_copy 59 = .ok (.aload 7, 2) := by decide +kernel
theorem dX11_copy_61 : decode cX11_copy 61 = .ok (.invokevirtual 336, 3) := by decide +kernel
theorem dX11_copy_64 : decode cX11_copy 64 = .ok (.ifCond .ne 16, 3) := by decide +kernel
theorem dX11_copy_67 : decode cX11_copy 67 = .ok (.aload 6, 2) := by decide +kernel
theorem dX11_copy_69 : decode cX11_copy 69 = .ok (.getfield 74, 3) := by decide +kernel
theorem dX11_copy_72 : decode cX11_copy 72 = .ok (.aload 7, 2) := by decide +kernel
theorem dX11_copy_74 : decode cX11_copy 74 = .ok (.getfield 74, 3) := by decide +kernel
theorem dX11_copy_77 : decode cX11_copy 77 = .ok (.if_icmp .eq 6, 3) := by decide +kernel
theorem dX11_copy_80 : decode cX11_copy 80 = .ok (.bipush (-12), 2) := by decide +kernel
theorem dX11_copy_82 : decode cX11_copy 82 = .ok (.ireturn, 1) := by decide +kernel
theorem dX11_copy_83 : decode cX11_copy 83 = .ok (.aload 6, 2) := by decide +kernel
theorem dX11_copy_85 : decode cX11_copy 85 = .ok (.iload_n 2, 1) := by decide +kernel
theorem dX11_copy_86 : decode cX11_copy 86 = .ok (.iload 5, 2) := by decide +kernel
theorem dX11_copy_88 : decode cX11_copy 88 = .ok (.invokevirtual 347, 3) := by decide +kernel
theorem dX11_copy_91 : decode cX11_copy 91 = .ok (.ifCond .eq 15, 3) := by decide +kernel
theorem dX11_copy_94 : decode cX11_copy 94 = .ok (.aload 7, 2) := by decide +kernel
theorem dX11_copy_96 : decode cX11_copy 96 = .ok (.iload 4, 2) := by decide +kernel
theorem dX11_copy_98 : decode cX11_copy 98 = .ok (.iload 5, 2) := by decide +kernel
theorem dX11_copy_100 : decode cX11_copy 100 = .ok (.invokevirtual 347, 3) := by decide +kernel
theorem dX11_copy_103 : decode cX11_copy 103 = .ok (.ifCond .ne 6, 3) := by decide +kernel
theorem dX11_copy_106 : decode cX11_copy 106 = .ok (.bipush (-13), 2) := by decide +kernel
theorem dX11_copy_108 : decode cX11_copy 108 = .ok (.ireturn, 1) := by decide +kernel
theorem dX11_copy_109 : decode cX11_copy 109 = .ok (.aload 6, 2) := by decide +kernel
theorem dX11_copy_111 : decode cX11_copy 111 = .ok (.getfield 262, 3) := by decide +kernel
theorem dX11_copy_114 : decode cX11_copy 114 = .ok (.iload_n 2, 1) := by decide +kernel
theorem dX11_copy_115 : decode cX11_copy 115 = .ok (.aload 7, 2) := by decide +kernel
theorem dX11_copy_117 : decode cX11_copy 117 = .ok (.getfield 262, 3) := by decide +kernel
theorem dX11_copy_120 : decode cX11_copy 120 = .ok (.iload 4, 2) := by decide +kernel
theorem dX11_copy_122 : decode cX11_copy 122 = .ok (.iload 5, 2) := by decide +kernel
theorem dX11_copy_124 : decode cX11_copy 124 = .ok (.invokestatic 351, 3) := by decide +kernel
theorem dX11_copy_127 : decode cX11_copy 127 = .ok (.iload 5, 2) := by decide +kernel
theorem dX11_copy_129 : decode cX11_copy 129 = .ok (.ireturn, 1) := by decide +kernel
theorem dX11_cost_0 : decode cX11_cost 0 = .ok (.aload_n 0, 1) := by decide +kernel
theorem dX11_cost_1 : decode cX11_cost 1 = .ok (.iload_n 1, 1) := by decide +kernel
theorem dX11_cost_2 : decode cX11_cost 2 = .ok (.invokevirtual 357, 3) := by decide +kernel
theorem dX11_cost_5 : decode cX11_cost 5 = .ok (.istore_n 2, 1) := by decide +kernel
theorem dX11_cost_6 : decode cX11_cost 6 = .ok (.iload_n 2, 1) := by decide +kernel
theorem dX11_cost_7 : decode cX11_cost 7 = .ok (.ifCond .eq 5, 3) := by decide +kernel
theorem dX11_cost_10 : decode cX11_cost 10 = .ok (.iload_n 2, 1) := by decide +kernel
theorem dX11_cost_11 : decode cX11_cost 11 = .ok (.ireturn, 1) := by decide +kernel
theorem dX11_cost_12 : decode cX11_cost 12 = .ok (.aload_n 0, 1) := by decide +kernel
theorem dX11_cost_13 : decode cX11_cost 13 = .ok (.getfield 31, 3) := by decide +kernel
theorem dX11_cost_16 : decode cX11_cost 16 = .ok (.aload_n 0, 1) := by decide +kernel
theorem dX11_cost_17 : decode cX11_cost 17 = .ok (.getfield 58, 3) := by decide +kernel
theorem dX11_cost_20 : decode cX11_cost 20 = .ok (.iload_n 1, 1) := by decide +kernel
theorem dX11_cost_21 : decode cX11_cost 21 = .ok (.aaload, 1) := by decide +kernel
theorem dX11_cost_22 : decode cX11_cost 22 = .ok (.getfield 134, 3) := by decide +kernel
theorem dX11_cost_25 : decode cX11_cost 25 = .ok (.aaload, 1) := by decide +kernel
theorem dX11_cost_26 : decode cX11_cost 26 = .ok (.aload_n 0, 1) := by decide +kernel
theorem dX11_cost_27 : decode cX11_cost 27 = .ok (.getfield 58, 3) := by decide +kernel
theorem dX11_cost_30 : decode cX11_cost 30 = .ok (.iload_n 1, 1) := by decide +kernel
theorem dX11_cost_31 : decode cX11_cost 31 = .ok (.aaload, 1) := by decide +kernel
theorem dX11_cost_32 : decode cX11_cost 32 = .ok (.getfield 136, 3) := by decide +kernel
theorem dX11_cost_35 : decode cX11_cost 35 = .ok (.invokevirtual 360, 3) := by decide +kernel
theorem dX11_cost_38 : decode cX11_cost 38 = .ok (.ireturn, 1) := by decide +kernel
theorem dX11_toss_0 : decode cX11_toss 0 = .ok (.aload_n 0, 1) := by decide +kernel
theorem dX11_toss_1 : decode cX11_toss 1 = .ok (.iload_n 1, 1) := by decide +kernel
theorem dX11_toss_2 : decode cX11_toss 2 = .ok (.invokevirtual 357, 3) := by decide +kernel
theorem dX11_toss_5 : decode cX11_toss 5 = .ok (.istore_n 2, 1) := by decide +kernel
theorem dX11_toss_6 : decode cX11_toss 6 = .ok (.iload_n 2, 1) := by decide +kernel
theorem dX11_toss_7 : decode cX11_toss 7 = .ok (.ifCond .eq 5, 3) := by decide +kernel
theorem dX11_toss_10 : decode cX11_toss 10 = .ok (.iload_n 2, 1) := by decide +kernel
theorem dX11_toss_11 : decode cX11_toss 11 = .ok (.ireturn, 1) := by decide +kernel
theorem dX11_toss_12 : decode cX11_toss 12 = .ok (.aload_n 0, 1) := by decide +kernel
theorem dX11_toss_13 : decode cX11_toss 13 = .ok (.getfield 31, 3) := by decide +kernel
theorem dX11_toss_16 : decode cX11_toss 16 = .ok (.aload_n 0, 1) := by decide +kernel
theorem dX11_toss_17 : decode cX11_toss 17 = .ok (.getfield 58, 3) := by decide +kernel
theorem dX11_toss_20 : decode cX11_toss 20 = .ok (.iload_n 1, 1) := by decide +kernel
theorem dX11_toss_21 : decode cX11_toss 21 = .ok (.aaload, 1) := by decide +kernel
theorem dX11_toss_22 : decode cX11_toss 22 = .ok (.getfield 134, 3) := by decide +kernel
theorem dX11_toss_25 : decode cX11_toss 25 = .ok (.aaload, 1) := by decide +kernel
theorem dX11_toss_26 : decode cX11_toss 26 = .ok (.astore_n 3, 1) := by decide +kernel
theorem dX11_toss_27 : decode cX11_toss 27 = .ok (.aload_n 0, 1) := by decide +kernel
theorem dX11_toss_28 : decode cX11_toss 28 = .ok (.getfield 58, 3) := by decide +kernel
theorem dX11_toss_31 : decode cX11_toss 31 = .ok (.iload_n 1, 1) := by decide +kernel
theorem dX11_toss_32 : decode cX11_toss 32 = .ok (.aaload, 1) := by decide +kernel
theorem dX11_toss_33 : decode cX11_toss 33 = .ok (.getfield 136, 3) := by decide +kernel
theorem dX11_toss_36 : decode cX11_toss 36 = .ok (.istore 4, 2) := by decide +kernel
theorem dX11_toss_38 : decode cX11_toss 38 = .ok (.aload_n 3, 1) := by decide +kernel
theorem dX11_toss_39 : decode cX11_toss 39 = .ok (.iload 4, 2) := by decide +kernel
theorem dX11_toss_41 : decode cX11_toss 41 = .ok (.invokevirtual 363, 3) := by decide +kernel
theorem dX11_toss_44 : decode cX11_toss 44 = .ok (.goto 29, 3) := by decide +kernel
theorem dX11_toss_47 : decode cX11_toss 47 = .ok (.astore 5, 2) := by decide +kernel
theorem dX11_toss_49 : decode cX11_toss 49 = .ok (.sipush 200, 3) := by decide +kernel
theorem dX11_toss_52 : decode cX11_toss 52 = .ok (.aload_n 3, 1) := by decide +kernel
theorem dX11_toss_53 : decode cX11_toss 53 = .ok (.iload 4, 2) := by decide +kernel
theorem dX11_toss_55 : decode cX11_toss 55 = .ok (.invokevirtual 360, 3) := by decide +kernel
theorem dX11_toss_58 : decode cX11_toss 58 = .ok (.iadd, 1) := by decide +kernel
theorem dX11_toss_59 : decode cX11_toss 59 = .ok (.ireturn, 1) := by decide +kernel
theorem dX11_toss_60 : decode cX11_toss 60 = .ok (.astore 5, 2) := by decide +kernel
theorem dX11_toss_62 : decode cX11_toss 62 = .ok (.bipush 100, 2) := by decide +kernel
theorem dX11_toss_64 : decode cX11_toss 64 = .ok (.iload 4, 2) := by decide +kernel
theorem dX11_toss_66 : decode cX11_toss 66 = .ok (.iadd, 1) := by decide +kernel
theorem dX11_toss_67 : decode cX11_toss 67 = .ok (.ireturn, 1) := by decide +kernel
theorem dX11_toss_68 : decode cX11_toss 68 = .ok (.astore 5, 2) := by decide +kernel
theorem dX11_toss_70 : decode cX11_toss 70 = .ok (.iload 4, 2) := by decide +kernel
theorem dX11_toss_72 : decode cX11_toss 72 = .ok (.ireturn, 1) := by decide +kernel
theorem dX11_toss_73 : decode cX11_toss 73 = .ok (.bipush (-15), 2) := by decide +kernel
theorem dX11_toss_75 : decode cX11_toss 75 = .ok (.ireturn, 1) := by decide +kernel
theorem dX11_rowRefusal_0 : decode cX11_rowRefusal 0 = .ok (.iload_n 1, 1) := by decide +kernel
theorem dX11_rowRefusal_1 : decode cX11_rowRefusal 1 = .ok (.invokestatic 120, 3) := by decide +kernel
theorem dX11_rowRefusal_4 : decode cX11_rowRefusal 4 = .ok (.ifCond .eq 15, 3) := by decide +kernel
theorem dX11_rowRefusal_7 : decode cX11_rowRefusal 7 = .ok (.aload_n 0, 1) := by decide +kernel
theorem dX11_rowRefusal_8 : decode cX11_rowRefusal 8 = .ok (.getfield 58, 3) := by decide +kernel
theorem dX11_rowRefusal_11 : decode cX11_rowRefusal 11 = .ok (.iload_n 1, 1) := by decide +kernel
theorem dX11_rowRefusal_12 : decode cX11_rowRefusal 12 = .ok (.aaload, 1) := by decide +kernel
theorem dX11_rowRefusal_13 : decode cX11_rowRefusal 13 = .ok (.invokevirtual 336, 3) := by decide +kernel
theorem dX11_rowRefusal_16 : decode cX11_rowRefusal 16 = .ok (.goto 4, 3) := by decide +kernel
theorem dX11_rowRefusal_19 : decode cX11_rowRefusal 19 = .ok (.iconst (-1), 1) := by decide +kernel
theorem dX11_rowRefusal_20 : decode cX11_rowRefusal 20 = .ok (.ireturn, 1) := by decide +kernel
theorem dX11_kindRefusal_0 : decode cX11_kindRefusal 0 = .ok (.iload_n 1, 1) := by decide +kernel
theorem dX11_kindRefusal_1 : decode cX11_kindRefusal 1 = .ok (.invokestatic 120, 3) := by decide +kernel
theorem dX11_kindRefusal_4 : decode cX11_kindRefusal 4 = .ok (.ifCond .eq 15, 3) := by decide +kernel
theorem dX11_kindRefusal_7 : decode cX11_kindRefusal 7 = .ok (.aload_n 0, 1) := by decide +kernel
theorem dX11_kindRefusal_8 : decode cX11_kindRefusal 8 = .ok (.getfield 58, 3) := by decide +kernel
theorem dX11_kindRefusal_11 : decode cX11_kindRefusal 11 = .ok (.iload_n 1, 1) := by decide +kernel
theorem dX11_kindRefusal_12 : decode cX11_kindRefusal 12 = .ok (.aaload, 1) := by decide +kernel
theorem dX11_kindRefusal_13 : decode cX11_kindRefusal 13 = .ok (.invokevirtual 130, 3) := by decide +kernel
theorem dX11_kindRefusal_16 : decode cX11_kindRefusal 16 = .ok (.goto 4, 3) := by decide +kernel
theorem dX11_kindRefusal_19 : decode cX11_kindRefusal 19 = .ok (.iconst (-1), 1) := by decide +kernel
theorem dX11_kindRefusal_20 : decode cX11_kindRefusal 20 = .ok (.ireturn, 1) := by decide +kernel
theorem dX11_within_0 : decode cX11_within 0 = .ok (.iload_n 0, 1) := by decide +kernel
theorem dX11_within_1 : decode cX11_within 1 = .ok (.iload_n 1, 1) := by decide +kernel
theorem dX11_within_2 : decode cX11_within 2 = .ok (.if_icmp .lt 12, 3) := by decide +kernel
theorem dX11_within_5 : decode cX11_within 5 = .ok (.iload_n 0, 1) := by decide +kernel
theorem dX11_within_6 : decode cX11_within 6 = .ok (.iload_n 2, 1) := by decide +kernel
theorem dX11_within_7 : decode cX11_within 7 = .ok (.if_icmp .gt 7, 3) := by decide +kernel
theorem dX11_within_10 : decode cX11_within 10 = .ok (.iconst 1, 1) := by decide +kernel
theorem dX11_within_11 : decode cX11_within 11 = .ok (.goto 4, 3) := by decide +kernel
theorem dX11_within_14 : decode cX11_within 14 = .ok (.iconst 0, 1) := by decide +kernel
theorem dX11_within_15 : decode cX11_within 15 = .ok (.ireturn, 1) := by decide +kernel
theorem dX11_isEither_0 : decode cX11_isEither 0 = .ok (.iload_n 0, 1) := by decide +kernel
theorem dX11_isEither_1 : decode cX11_isEither 1 = .ok (.iconst 0, 1) := by decide +kernel
theorem dX11_isEither_2 : decode cX11_isEither 2 = .ok (.iconst 1, 1) := by decide +kernel
theorem dX11_isEither_3 : decode cX11_isEither 3 = .ok (.invokestatic 126, 3) := by decide +kernel
theorem dX11_isEither_6 : decode cX11_isEither 6 = .ok (.ireturn, 1) := by decide +kernel
theorem dX11_isShelf_0 : decode cX11_isShelf 0 = .ok (.iload_n 0, 1) := by decide +kernel
theorem dX11_isShelf_1 : decode cX11_isShelf 1 = .ok (.iconst 0, 1) := by decide +kernel
theorem dX11_isShelf_2 : decode cX11_isShelf 2 = .ok (.bipush 7, 2) := by decide +kernel
theorem dX11_isShelf_4 : decode cX11_isShelf 4 = .ok (.invokestatic 126, 3) := by decide +kernel
theorem dX11_isShelf_7 : decode cX11_isShelf 7 = .ok (.ireturn, 1) := by decide +kernel
theorem dX11_isSeat_0 : decode cX11_isSeat 0 = .ok (.iload_n 0, 1) := by decide +kernel
theorem dX11_isSeat_1 : decode cX11_isSeat 1 = .ok (.iconst 0, 1) := by decide +kernel
theorem dX11_isSeat_2 : decode cX11_isSeat 2 = .ok (.iconst 3, 1) := by decide +kernel
theorem dX11_isSeat_3 : decode cX11_isSeat 3 = .ok (.invokestatic 126, 3) := by decide +kernel
theorem dX11_isSeat_6 : decode cX11_isSeat 6 = .ok (.ireturn, 1) := by decide +kernel
theorem dX11_isPace_0 : decode cX11_isPace 0 = .ok (.iload_n 0, 1) := by decide +kernel
theorem dX11_isPace_1 : decode cX11_isPace 1 = .ok (.iconst 0, 1) := by decide +kernel
theorem dX11_isPace_2 : decode cX11_isPace 2 = .ok (.bipush 99, 2) := by decide +kernel
theorem dX11_isPace_4 : decode cX11_isPace 4 = .ok (.invokestatic 126, 3) := by decide +kernel
theorem dX11_isPace_7 : decode cX11_isPace 7 = .ok (.ireturn, 1) := by decide +kernel
theorem dX11_isSetOfParts_0 : decode cX11_isSetOfParts 0 = .ok (.iload_n 1, 1) := by decide +kernel
theorem dX11_isSetOfParts_1 : decode cX11_isSetOfParts 1 = .ok (.iconst 1, 1) := by decide +kernel
theorem dX11_isSetOfParts_2 : decode cX11_isSetOfParts 2 = .ok (.if_icmp .lt 20, 3) := by decide +kernel
theorem dX11_isSetOfParts_5 : decode cX11_isSetOfParts 5 = .ok (.iload_n 1, 1) := by decide +kernel
theorem dX11_isSetOfParts_6 : decode cX11_isSetOfParts 6 = .ok (.iconst 1, 1) := by decide +kernel
theorem dX11_isSetOfParts_7 : decode cX11_isSetOfParts 7 = .ok (.aload_n 0, 1) := by decide +kernel
theorem dX11_isSetOfParts_8 : decode cX11_isSetOfParts 8 = .ok (.getfield 42, 3) := by decide +kernel
theorem dX11_isSetOfParts_11 : decode cX11_isSetOfParts 11 = .ok (.getfield 203, 3) := by decide +kernel
theorem dX11_isSetOfParts_14 : decode cX11_isSetOfParts 14 = .ok (.ishl, 1) := by decide +kernel
theorem dX11_isSetOfParts_15 : decode cX11_isSetOfParts 15 = .ok (.if_icmp .ge 7, 3) := by decide +kernel
theorem dX11_isSetOfParts_18 : decode cX11_isSetOfParts 18 = .ok (.iconst 1, 1) := by decide +kernel
theorem dX11_isSetOfParts_19 : decode cX11_isSetOfParts 19 = .ok (.goto 4, 3) := by decide +kernel
theorem dX11_isSetOfParts_22 : decode cX11_isSetOfParts 22 = .ok (.iconst 0, 1) := by decide +kernel
theorem dX11_isSetOfParts_23 : decode cX11_isSetOfParts 23 = .ok (.ireturn, 1) := by decide +kernel
theorem dX11_ofLongs_0 : decode cX11_ofLongs 0 = .ok (.ldc2_w 368, 3) := by decide +kernel
theorem dX11_ofLongs_3 : decode cX11_ofLongs 3 = .ok (.iload_n 0, 1) := by decide +kernel
theorem dX11_ofLongs_4 : decode cX11_ofLongs 4 = .ok (.i2l, 1) := by decide +kernel
theorem dX11_ofLongs_5 : decode cX11_ofLongs 5 = .ok (.ladd, 1) := by decide +kernel
theorem dX11_ofLongs_6 : decode cX11_ofLongs 6 = .ok (.lreturn, 1) := by decide +kernel
