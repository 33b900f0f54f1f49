theorem dX12_init_0 : decode cX12_init 0 = .ok (.aload_n 0, 1) := by decide +kernel
theorem dX12_init_1 : decode cX12_init 1 = .ok (.invokespecial 1, 3) := by decide +kernel
theorem dX12_init_4 : decode cX12_init 4 = .ok (.aload_n 0, 1) := by decide +kernel
theorem dX12_init_5 : decode cX12_init 5 = .ok (.bipush 48, 2) := by decide +kernel
theorem dX12_init_7 : decode cX12_init 7 = .ok (.newarray .int, 2) := by decide +kernel
theorem dX12_init_9 : decode cX12_init 9 = .ok (.putfield 9, 3) := by decide +kernel
theorem dX12_init_12 : decode cX12_init 12 = .ok (.aload_n 0, 1) := by decide +kernel
theorem dX12_init_13 : decode cX12_init 13 = .ok (.bipush 48, 2) := by decide +kernel
theorem dX12_init_15 : decode cX12_init 15 = .ok (.newarray .int, 2) := by decide +kernel
theorem dX12_init_17 : decode cX12_init 17 = .ok (.putfield 13, 3) := by decide +kernel
theorem dX12_init_20 : decode cX12_init 20 = .ok (.aload_n 0, 1) := by decide +kernel
theorem dX12_init_21 : decode cX12_init 21 = .ok (.bipush 48, 2) := by decide +kernel
theorem dX12_init_23 : decode cX12_init 23 = .ok (.newarray .int, 2) := by decide +kernel
theorem dX12_init_25 : decode cX12_init 25 = .ok (.putfield 16, 3) := by decide +kernel
theorem dX12_init_28 : decode cX12_init 28 = .ok (.aload_n 0, 1) := by decide +kernel
theorem dX12_init_29 : decode cX12_init 29 = .ok (.bipush 48, 2) := by decide +kernel
theorem dX12_init_31 : decode cX12_init 31 = .ok (.newarray .int, 2) := by decide +kernel
theorem dX12_init_33 : decode cX12_init 33 = .ok (.putfield 19, 3) := by decide +kernel
theorem dX12_init_36 : decode cX12_init 36 = .ok (.aload_n 0, 1) := by decide +kernel
theorem dX12_init_37 : decode cX12_init 37 = .ok (.iconst 4, 1) := by decide +kernel
theorem dX12_init_38 : decode cX12_init 38 = .ok (.newarray .int, 2) := by decide +kernel
theorem dX12_init_40 : decode cX12_init 40 = .ok (.putfield 22, 3) := by decide +kernel
theorem dX12_init_43 : decode cX12_init 43 = .ok (.aload_n 0, 1) := by decide +kernel
theorem dX12_init_44 : decode cX12_init 44 = .ok (.sipush 128, 3) := by decide +kernel
theorem dX12_init_47 : decode cX12_init 47 = .ok (.newarray .int, 2) := by decide +kernel
theorem dX12_init_49 : decode cX12_init 49 = .ok (.putfield 25, 3) := by decide +kernel
theorem dX12_init_52 : decode cX12_init 52 = .ok (.aload_n 0, 1) := by decide +kernel
theorem dX12_init_53 : decode cX12_init 53 = .ok (.bipush 80, 2) := by decide +kernel
theorem dX12_init_55 : decode cX12_init 55 = .ok (.newarray .int, 2) := by decide +kernel
theorem dX12_init_57 : decode cX12_init 57 = .ok (.putfield 28, 3) := by decide +kernel
theorem dX12_init_60 : decode cX12_init 60 = .ok (.aload_n 0, 1) := by decide +kernel
theorem dX12_init_61 : decode cX12_init 61 = .ok (.bipush 8, 2) := by decide +kernel
theorem dX12_init_63 : decode cX12_init 63 = .ok (.newarray .int, 2) := by decide +kernel
theorem dX12_init_65 : decode cX12_init 65 = .ok (.putfield 31, 3) := by decide +kernel
theorem dX12_init_68 : decode cX12_init 68 = .ok (.aload_n 0, 1) := by decide +kernel
theorem dX12_init_69 : decode cX12_init 69 = .ok (.bipush 8, 2) := by decide +kernel
theorem dX12_init_71 : decode cX12_init 71 = .ok (.newarray .int, 2) := by decide +kernel
theorem dX12_init_73 : decode cX12_init 73 = .ok (.putfield 34, 3) := by decide +kernel
theorem dX12_init_76 : decode cX12_init 76 = .ok (.aload_n 0, 1) := by decide +kernel
theorem dX12_init_77 : decode cX12_init 77 = .ok (.bipush 8, 2) := by decide +kernel
theorem dX12_init_79 : decode cX12_init 79 = .ok (.newarray .int, 2) := by decide +kernel
theorem dX12_init_81 : decode cX12_init 81 = .ok (.putfield 37, 3) := by decide +kernel
theorem dX12_init_84 : decode cX12_init 84 = .ok (.aload_n 0, 1) := by decide +kernel
theorem dX12_init_85 : decode cX12_init 85 = .ok (.bipush 8, 2) := by decide +kernel
theorem dX12_init_87 : decode cX12_init 87 = .ok (.newarray .int, 2) := by decide +kernel
theorem dX12_init_89 : decode cX12_init 89 = .ok (.putfield 40, 3) := by decide +kernel
theorem dX12_init_92 : decode cX12_init 92 = .ok (.aload_n 0, 1) := by decide +kernel
theorem dX12_init_93 : decode cX12_init 93 = .ok (.bipush 8, 2) := by decide +kernel
theorem dX12_init_95 : decode cX12_init 95 = .ok (.newarray .int, 2) := by decide +kernel
theorem dX12_init_97 : decode cX12_init 97 = .ok (.putfield 43, 3) := by decide +kernel
theorem dX12_init_100 : decode cX12_init 100 = .ok (.aload_n 0, 1) := by decide +kernel
theorem dX12_init_101 : decode cX12_init 101 = .ok (.sipush 800, 3) := by decide +kernel
theorem dX12_init_104 : decode cX12_init 104 = .ok (.newarray .int, 2) := by decide +kernel
theorem dX12_init_106 : decode cX12_init 106 = .ok (.putfield 46, 3) := by decide +kernel
theorem dX12_init_109 : decode cX12_init 109 = .ok (.aload_n 0, 1) := by decide +kernel
theorem dX12_init_110 : decode cX12_init 110 = .ok (.getfield 9, 3) := by decide +kernel
theorem dX12_init_113 : decode cX12_init 113 = .ok (.iconst 2, 1) := by decide +kernel
theorem dX12_init_114 : decode cX12_init 114 = .ok (.bipush 50, 2) := by decide +kernel
theorem dX12_init_116 : decode cX12_init 116 = .ok (.iastore, 1) := by decide +kernel
theorem dX12_init_117 : decode cX12_init 117 = .ok (.aload_n 0, 1) := by decide +kernel
theorem dX12_init_118 : decode cX12_init 118 = .ok (.getfield 9, 3) := by decide +kernel
theorem dX12_init_121 : decode cX12_init 121 = .ok (.iconst 3, 1) := by decide +kernel
theorem dX12_init_122 : decode cX12_init 122 = .ok (.iconst 5, 1) := by decide +kernel
theorem dX12_init_123 : decode cX12_init 123 = .ok (.iastore, 1) := by decide +kernel
theorem dX12_init_124 : decode cX12_init 124 = .ok (.return_, 1) := by decide +kernel
theorem dX12_isIn_0 : decode cX12_isIn 0 = .ok (.iload_n 0, 1) := by decide +kernel
theorem dX12_isIn_1 : decode cX12_isIn 1 = .ok (.iload_n 1, 1) := by decide +kernel
theorem dX12_isIn_2 : decode cX12_isIn 2 = .ok (.if_icmp .lt 12, 3) := by decide +kernel
theorem dX12_isIn_5 : decode cX12_isIn 5 = .ok (.iload_n 0, 1) := by decide +kernel
theorem dX12_isIn_6 : decode cX12_isIn 6 = .ok (.iload_n 2, 1) := by decide +kernel
theorem dX12_isIn_7 : decode cX12_isIn 7 = .ok (.if_icmp .gt 7, 3) := by decide +kernel
theorem dX12_isIn_10 : decode cX12_isIn 10 = .ok (.iconst 1, 1) := by decide +kernel
theorem dX12_isIn_11 : decode cX12_isIn 11 = .ok (.goto 4, 3) := by decide +kernel
theorem dX12_isIn_14 : decode cX12_isIn 14 = .ok (.iconst 0, 1) := by decide +kernel
theorem dX12_isIn_15 : decode cX12_isIn 15 = .ok (.ireturn, 1) := by decide +kernel
theorem dX12_size_0 : decode cX12_size 0 = .ok (.iload_n 0, 1) := by decide +kernel
theorem dX12_size_1 : decode cX12_size 1 = .ok (.ifCond .ge 8, 3) := by decide +kernel
theorem dX12_size_4 : decode cX12_size 4 = .ok (.iload_n 0, 1) := by decide +kernel
theorem dX12_size_5 : decode cX12_size 5 = .ok (.ineg, 1) := by decide +kernel
theorem dX12_size_6 : decode cX12_size 6 = .ok (.goto 4, 3) := by decide +kernel
theorem dX12_size_9 : decode cX12_size 9 = .ok (.iload_n 0, 1) := by decide +kernel
theorem dX12_size_10 : decode cX12_size 10 = .ok (.ireturn, 1) := by decide +kernel
theorem dX12_most_0 : decode cX12_most 0 = .ok (.iload_n 0, 1) := by decide +kernel
theorem dX12_most_1 : decode cX12_most 1 = .ok (.iload_n 1, 1) := by decide +kernel
theorem dX12_most_2 : decode cX12_most 2 = .ok (.if_icmp .le 7, 3) := by decide +kernel
theorem dX12_most_5 : decode cX12_most 5 = .ok (.iload_n 0, 1) := by decide +kernel
theorem dX12_most_6 : decode cX12_most 6 = .ok (.goto 4, 3) := by decide +kernel
theorem dX12_most_9 : decode cX12_most 9 = .ok (.iload_n 1, 1) := by decide +kernel
theorem dX12_most_10 : decode cX12_most 10 = .ok (.ireturn, 1) := by decide +kernel
theorem dX12_lays_0 : decode cX12_lays 0 = .ok (.iconst 0, 1) := by decide +kernel
theorem dX12_lays_1 : decode cX12_lays 1 = .ok (.istore_n 2, 1) := by decide +kernel
theorem dX12_lays_2 : decode cX12_lays 2 = .ok (.iload_n 2, 1) := by decide +kernel
theorem dX12_lays_3 : decode cX12_lays 3 = .ok (.bipush 48, 2) := by decide +kernel
theorem dX12_lays_5 : decode cX12_lays 5 = .ok (.if_icmp .ge 15, 3) := by decide +kernel
theorem dX12_lays_8 : decode cX12_lays 8 = .ok (.aload_n 1, 1) := by decide +kernel
theorem dX12_lays_9 : decode cX12_lays 9 = .ok (.iload_n 2, 1) := by decide +kernel
theorem dX12_lays_10 : decode cX12_lays 10 = .ok (.aload_n 0, 1) := by decide +kernel
theorem dX12_lays_11 : decode cX12_lays 11 = .ok (.iload_n 2, 1) := by decide +kernel
theorem dX12_lays_12 : decode cX12_lays 12 = .ok (.iaload, 1) := by decide +kernel
theorem dX12_lays_13 : decode cX12_lays 13 = .ok (.iastore, 1) := by decide +kernel
theorem dX12_lays_14 : decode cX12_lays 14 = .ok (.iinc 2 1, 3) := by decide +kernel
theorem dX12_lays_17 : decode cX12_lays 17 = .ok (.goto (-15), 3) := by decide +kernel
theorem dX12_lays_20 : decode cX12_lays 20 = .ok (.return_, 1) := by decide +kernel
theorem dX12_at_0 : decode cX12_at 0 = .ok (.bipush 6, 2) := by decide +kernel
theorem dX12_at_2 : decode cX12_at 2 = .ok (.bipush 6, 2) := by decide +kernel
theorem dX12_at_4 : decode cX12_at 4 = .ok (.iload_n 0, 1) := by decide +kernel
theorem dX12_at_5 : decode cX12_at 5 = .ok (.imul, 1) := by decide +kernel
theorem dX12_at_6 : decode cX12_at 6 = .ok (.iadd, 1) := by decide +kernel
theorem dX12_at_7 : decode cX12_at 7 = .ok (.iload_n 1, 1) := by decide +kernel
theorem dX12_at_8 : decode cX12_at 8 = .ok (.iadd, 1) := by decide +kernel
theorem dX12_at_9 : decode cX12_at 9 = .ok (.ireturn, 1) := by decide +kernel
theorem dX12_isPart_0 : decode cX12_isPart 0 = .ok (.iload_n 1, 1) := by decide +kernel
theorem dX12_isPart_1 : decode cX12_isPart 1 = .ok (.iconst 0, 1) := by decide +kernel
theorem dX12_isPart_2 : decode cX12_isPart 2 = .ok (.aload_n 0, 1) := by decide +kernel
theorem dX12_isPart_3 : decode cX12_isPart 3 = .ok (.getfield 9, 3) := by decide +kernel
theorem dX12_isPart_6 : decode cX12_isPart 6 = .ok (.iconst 0, 1) := by decide +kernel
theorem dX12_isPart_7 : decode cX12_isPart 7 = .ok (.iaload, 1) := by decide +kernel
theorem dX12_isPart_8 : decode cX12_isPart 8 = .ok (.iconst 1, 1) := by decide +kernel
theorem dX12_isPart_9 : decode cX12_isPart 9 = .ok (.isub, 1) := by decide +kernel
theorem dX12_isPart_10 : decode cX12_isPart 10 = .ok (.invokestatic 49, 3) := by decide +kernel
theorem dX12_isPart_13 : decode cX12_isPart 13 = .ok (.ireturn, 1) := by decide +kernel
theorem dX12_isSeat_0 : decode cX12_isSeat 0 = .ok (.iload_n 0, 1) := by decide +kernel
theorem dX12_isSeat_1 : decode cX12_isSeat 1 = .ok (.iconst 0, 1) := by decide +kernel
theorem dX12_isSeat_2 : decode cX12_isSeat 2 = .ok (.iconst 3, 1) := by decide +kernel
theorem dX12_isSeat_3 : decode cX12_isSeat 3 = .ok (.invokestatic 49, 3) := by decide +kernel
theorem dX12_isSeat_6 : decode cX12_isSeat 6 = .ok (.ireturn, 1) := by decide +kernel
theorem dX12_loudOf_0 : decode cX12_loudOf 0 = .ok (.aload_n 0, 1) := by decide +kernel
theorem dX12_loudOf_1 : decode cX12_loudOf 1 = .ok (.iload_n 1, 1) := by decide +kernel
theorem dX12_loudOf_2 : decode cX12_loudOf 2 = .ok (.iconst 1, 1) := by decide +kernel
theorem dX12_loudOf_3 : decode cX12_loudOf 3 = .ok (.invokestatic 53, 3) := by decide +kernel
theorem dX12_loudOf_6 : decode cX12_loudOf 6 = .ok (.iaload, 1) := by decide +kernel
theorem dX12_loudOf_7 : decode cX12_loudOf 7 = .ok (.istore_n 3, 1) := by decide +kernel
theorem dX12_loudOf_8 : decode cX12_loudOf 8 = .ok (.iload_n 2, 1) := by decide +kernel
theorem dX12_loudOf_9 : decode cX12_loudOf 9 = .ok (.bipush 48, 2) := by decide +kernel
theorem dX12_loudOf_11 : decode cX12_loudOf 11 = .ok (.bipush 53, 2) := by decide +kernel
theorem dX12_loudOf_13 : decode cX12_loudOf 13 = .ok (.invokestatic 49, 3) := by decide +kernel
theorem dX12_loudOf_16 : decode cX12_loudOf 16 = .ok (.ifCond .eq 7, 3) := by decide +kernel
theorem dX12_loudOf_19 : decode cX12_loudOf 19 = .ok (.iload_n 3, 1) := by decide +kernel
theorem dX12_loudOf_20 : decode cX12_loudOf 20 = .ok (.goto 4, 3) := by decide +kernel
theorem dX12_loudOf_23 : decode cX12_loudOf 23 = .ok (.iconst 0, 1) := by decide +kernel
theorem dX12_loudOf_24 : decode cX12_loudOf 24 = .ok (.istore 4, 2) := by decide +kernel
theorem dX12_loudOf_26 : decode cX12_loudOf 26 = .ok (.iload_n 2, 1) := by decide +kernel
theorem dX12_loudOf_27 : decode cX12_loudOf 27 = .ok (.bipush 30, 2) := by decide +kernel
theorem dX12_loudOf_29 : decode cX12_loudOf 29 = .ok (.if_icmp .lt 7, 3) := by decide +kernel
theorem dX12_loudOf_32 : decode cX12_loudOf 32 = .ok (.iload_n 3, 1) := by decide +kernel
theorem dX12_loudOf_33 : decode cX12_loudOf 33 = .ok (.goto 4, 3) := by decide +kernel
theorem dX12_loudOf_36 : decode cX12_loudOf 36 = .ok (.iconst 0, 1) := by decide +kernel
theorem dX12_loudOf_37 : decode cX12_loudOf 37 = .ok (.istore 5, 2) := by decide +kernel
theorem dX12_loudOf_39 : decode cX12_loudOf 39 = .ok (.iconst 0, 1) := by decide +kernel
theorem dX12_loudOf_40 : decode cX12_loudOf 40 = .ok (.iload 4, 2) := by decide +kernel
theorem dX12_loudOf_42 : decode cX12_loudOf 42 = .ok (.aload_n 0, 1) := by decide +kernel
theorem dX12_loudOf_43 : decode cX12_loudOf 43 = .ok (.iconst 4, 1) := by decide +kernel
theorem dX12_loudOf_44 : decode cX12_loudOf 44 = .ok (.iaload, 1) := by decide +kernel
theorem dX12_loudOf_45 : decode cX12_loudOf 45 = .ok (.isub, 1) := by decide +kernel
theorem dX12_loudOf_46 : decode cX12_loudOf 46 = .ok (.invokestatic 57, 3) := by decide +kernel
theorem dX12_loudOf_49 : decode cX12_loudOf 49 = .ok (.istore 6, 2) := by decide +kernel
theorem dX12_loudOf_51 : decode cX12_loudOf 51 = .ok (.aload_n 0, 1) := by decide +kernel
theorem dX12_loudOf_52 : decode cX12_loudOf 52 = .ok (.iload_n 1, 1) := by decide +kernel
theorem dX12_loudOf_53 : decode cX12_loudOf 53 = .ok (.iconst 0, 1) := by decide +kernel
theorem dX12_loudOf_54 : decode cX12_loudOf 54 = .ok (.invokestatic 53, 3) := by decide +kernel
theorem dX12_loudOf_57 : decode cX12_loudOf 57 = .ok (.iaload, 1) := by decide +kernel
theorem dX12_loudOf_58 : decode cX12_loudOf 58 = .ok (.tableswitch 99 1 7 #[42, 45, 50, 64, 67, 92, 94], 42) := by decide +kernel
theorem dX12_loudOf_100 : decode cX12_loudOf 100 = .ok (.iload 5, 2) := by decide +kernel
theorem dX12_loudOf_102 : decode cX12_loudOf 102 = .ok (.ireturn, 1) := by decide +kernel
theorem dX12_loudOf_103 : decode cX12_loudOf 103 = .ok (.iconst 2, 1) := by decide +kernel
theorem dX12_loudOf_104 : decode cX12_loudOf 104 = .ok (.iload 4, 2) := by decide +kernel
theorem dX12_loudOf_106 : decode cX12_loudOf 106 = .ok (.imul, 1) := by decide +kernel
theorem dX12_loudOf_107 : decode cX12_loudOf 107 = .ok (.ireturn, 1) := by decide +kernel
theorem dX12_loudOf_108 : decode cX12_loudOf 108 = .ok (.aload_n 0, 1) := by decide +kernel
theorem dX12_loudOf_109 : decode cX12_loudOf 109 = .ok (.iconst 3, 1) := by decide +kernel
theorem dX12_loudOf_110 : decode cX12_loudOf 110 = .ok (.iaload, 1) := by decide +kernel
theorem dX12_loudOf_111 : decode cX12_loudOf 111 = .ok (.iconst 5, 1) := by decide +kernel
theorem dX12_loudOf_112 : decode cX12_loudOf 112 = .ok (.if_icmp .lt 8, 3) := by decide +kernel
theorem dX12_loudOf_115 : decode cX12_loudOf 115 = .ok (.iload 5, 2) := by decide +kernel
theorem dX12_loudOf_117 : decode cX12_loudOf 117 = .ok (.goto 4, 3) := by decide +kernel
theorem dX12_loudOf_120 : decode cX12_loudOf 120 = .ok (.iconst 0, 1) := by decide +kernel
theorem dX12_loudOf_121 : decode cX12_loudOf 121 = .ok (.ireturn, 1) := by decide +kernel
theorem dX12_loudOf_122 : decode cX12_loudOf 122 = .ok (.iload 6, 2) := by decide +kernel
theorem dX12_loudOf_124 : decode cX12_loudOf 124 = .ok (.ireturn, 1) := by decide +kernel
theorem dX12_loudOf_125 : decode cX12_loudOf 125 = .ok (.iload 4, 2) := by decide +kernel
theorem dX12_loudOf_127 : decode cX12_loudOf 127 = .ok (.ifCond .le 18, 3) := by decide +kernel
theorem dX12_loudOf_130 : decode cX12_loudOf 130 = .ok (.iload_n 2, 1) := by decide +kernel
theorem dX12_loudOf_131 : decode cX12_loudOf 131 = .ok (.iconst 2, 1) := by decide +kernel
theorem dX12_loudOf_132 : decode cX12_loudOf 132 = .ok (.irem, 1) := by decide +kernel
theorem dX12_loudOf_133 : decode cX12_loudOf 133 = .ok (.ifCond .ne 12, 3) := by decide +kernel
theorem dX12_loudOf_136 : decode cX12_loudOf 136 = .ok (.iconst 2, 1) := by decide +kernel
theorem dX12_loudOf_137 : decode cX12_loudOf 137 = .ok (.iload 4, 2) := by decide +kernel
theorem dX12_loudOf_139 : decode cX12_loudOf 139 = .ok (.imul, 1) := by decide +kernel
theorem dX12_loudOf_140 : decode cX12_loudOf 140 = .ok (.iconst 3, 1) := by decide +kernel
theorem dX12_loudOf_141 : decode cX12_loudOf 141 = .ok (.iadd, 1) := by decide +kernel
theorem dX12_loudOf_142 : decode cX12_loudOf 142 = .ok (.goto 7, 3) := by decide +kernel
theorem dX12_loudOf_145 : decode cX12_loudOf 145 = .ok (.iconst 2, 1) := by decide +kernel
theorem dX12_loudOf_146 : decode cX12_loudOf 146 = .ok (.iload 4, 2) := by decide +kernel
theorem dX12_loudOf_148 : decode cX12_loudOf 148 = .ok (.imul, 1) := by decide +kernel
theorem dX12_loudOf_149 : decode cX12_loudOf 149 = .ok (.ireturn, 1) := by decide +kernel
theorem dX12_loudOf_150 : decode cX12_loudOf 150 = .ok (.iconst 0, 1) := by decide +kernel
theorem dX12_loudOf_151 : decode cX12_loudOf 151 = .ok (.ireturn, 1) := by decide +kernel
theorem dX12_loudOf_152 : decode cX12_loudOf 152 = .ok (.iconst 2, 1) := by decide +kernel
theorem dX12_loudOf_153 : decode cX12_loudOf 153 = .ok (.iload 6, 2) := by decide +kernel
theorem dX12_loudOf_155 : decode cX12_loudOf 155 = .ok (.imul, 1) := by decide +kernel
theorem dX12_loudOf_156 : decode cX12_loudOf 156 = .ok (.ireturn, 1) := by decide +kernel
theorem dX12_loudOf_157 : decode cX12_loudOf 157 = .ok (.iload 4, 2) := by decide +kernel
theorem dX12_loudOf_159 : decode cX12_loudOf 159 = .ok (.ireturn, 1) := by decide +kernel
theorem dX12_secondsOf_0 : decode cX12_secondsOf 0 = .ok (.aload_n 0, 1) := by decide +kernel
theorem dX12_secondsOf_1 : decode cX12_secondsOf 1 = .ok (.iload_n 1, 1) := by decide +kernel
theorem dX12_secondsOf_2 : decode cX12_secondsOf 2 = .ok (.iconst 1, 1) := by decide +kernel
theorem dX12_secondsOf_3 : decode cX12_secondsOf 3 = .ok (.invokestatic 53, 3) := by decide +kernel
theorem dX12_secondsOf_6 : decode cX12_secondsOf 6 = .ok (.iaload, 1) := by decide +kernel
theorem dX12_secondsOf_7 : decode cX12_secondsOf 7 = .ok (.istore_n 2, 1) := by decide +kernel
theorem dX12_secondsOf_8 : decode cX12_secondsOf 8 = .ok (.aload_n 0, 1) := by decide +kernel
theorem dX12_secondsOf_9 : decode cX12_secondsOf 9 = .ok (.iload_n 1, 1) := by decide +kernel
theorem dX12_secondsOf_10 : decode cX12_secondsOf 10 = .ok (.iconst 0, 1) := by decide +kernel
theorem dX12_secondsOf_11 : decode cX12_secondsOf 11 = .ok (.invokestatic 53, 3) := by decide +kernel
theorem dX12_secondsOf_14 : decode cX12_secondsOf 14 = .ok (.iaload, 1) := by decide +kernel
theorem dX12_secondsOf_15 : decode cX12_secondsOf 15 = .ok (.tableswitch 60 1 7 #[41, 44, 49, 52, 55, 60, 52], 41) := by decide +kernel
theorem dX12_secondsOf_56 : decode cX12_secondsOf 56 = .ok (.bipush 6, 2) := by decide +kernel
theorem dX12_secondsOf_58 : decode cX12_secondsOf 58 = .ok (.ireturn, 1) := by decide +kernel
theorem dX12_secondsOf_59 : decode cX12_secondsOf 59 = .ok (.bipush 10, 2) := by decide +kernel
theorem dX12_secondsOf_61 : decode cX12_secondsOf 61 = .ok (.iload_n 2, 1) := by decide +kernel
theorem dX12_secondsOf_62 : decode cX12_secondsOf 62 = .ok (.iadd, 1) := by decide +kernel
theorem dX12_secondsOf_63 : decode cX12_secondsOf 63 = .ok (.ireturn, 1) := by decide +kernel
theorem dX12_secondsOf_64 : decode cX12_secondsOf 64 = .ok (.bipush 12, 2) := by decide +kernel
theorem dX12_secondsOf_66 : decode cX12_secondsOf 66 = .ok (.ireturn, 1) := by decide +kernel
theorem dX12_secondsOf_67 : decode cX12_secondsOf 67 = .ok (.bipush 15, 2) := by decide +kernel
theorem dX12_secondsOf_69 : decode cX12_secondsOf 69 = .ok (.ireturn, 1) := by decide +kernel
theorem dX12_secondsOf_70 : decode cX12_secondsOf 70 = .ok (.bipush 12, 2) := by decide +kernel
theorem dX12_secondsOf_72 : decode cX12_secondsOf 72 = .ok (.iload_n 2, 1) := by decide +kernel
theorem dX12_secondsOf_73 : decode cX12_secondsOf 73 = .ok (.iadd, 1) := by decide +kernel
theorem dX12_secondsOf_74 : decode cX12_secondsOf 74 = .ok (.ireturn, 1) := by decide +kernel
theorem dX12_secondsOf_75 : decode cX12_secondsOf 75 = .ok (.bipush 10, 2) := by decide +kernel
theorem dX12_secondsOf_77 : decode cX12_secondsOf 77 = .ok (.ireturn, 1) := by decide +kernel
theorem dX12_loosensOf_0 : decode cX12_loosensOf 0 = .ok (.aload_n 0, 1) := by decide +kernel
theorem dX12_loosensOf_1 : decode cX12_loosensOf 1 = .ok (.iload_n 1, 1) := by decide +kernel
theorem dX12_loosensOf_2 : decode cX12_loosensOf 2 = .ok (.iconst 0, 1) := by decide +kernel
theorem dX12_loosensOf_3 : decode cX12_loosensOf 3 = .ok (.invokestatic 53, 3) := by decide +kernel
theorem dX12_loosensOf_6 : decode cX12_loosensOf 6 = .ok (.iaload, 1) := by decide +kernel
theorem dX12_loosensOf_7 : decode cX12_loosensOf 7 = .ok (.istore_n 2, 1) := by decide +kernel
theorem dX12_loosensOf_8 : decode cX12_loosensOf 8 = .ok (.iload_n 2, 1) := by decide +kernel
theorem dX12_loosensOf_9 : decode cX12_loosensOf 9 = .ok (.iconst 1, 1) := by decide +kernel
theorem dX12_loosensOf_10 : decode cX12_loosensOf 10 = .ok (.if_icmp .eq 8, 3) := by decide +kernel
theorem dX12_loosensOf_13 : decode cX12_loosensOf 13 = .ok (.iload_n 2, 1) := by decide +kernel
theorem dX12_loosensOf_14 : decode cX12_loosensOf 14 = .ok (.iconst 3, 1) := by decide +kernel
theorem dX12_loosensOf_15 : decode cX12_loosensOf 15 = .ok (.if_icmp .ne 7, 3) := by decide +kernel
theorem dX12_loosensOf_18 : decode cX12_loosensOf 18 = .ok (.iconst 3, 1) := by decide +kernel
theorem dX12_loosensOf_19 : decode cX12_loosensOf 19 = .ok (.goto 14, 3) := by decide +kernel
theorem dX12_loosensOf_22 : decode cX12_loosensOf 22 = .ok (.iload_n 2, 1) := by decide +kernel
theorem dX12_loosensOf_23 : decode cX12_loosensOf 23 = .ok (.bipush 6, 2) := by decide +kernel
theorem dX12_loosensOf_25 : decode cX12_loosensOf 25 = .ok (.if_icmp .ne 7, 3) := by decide +kernel
theorem dX12_loosensOf_28 : decode cX12_loosensOf 28 = .ok (.iconst 0, 1) := by decide +kernel
theorem dX12_loosensOf_29 : decode cX12_loosensOf 29 = .ok (.goto 4, 3) := by decide +kernel
theorem dX12_loosensOf_32 : decode cX12_loosensOf 32 = .ok (.iconst 1, 1) := by decide +kernel
theorem dX12_loosensOf_33 : decode cX12_loosensOf 33 = .ok (.ireturn, 1) := by decide +kernel
theorem dX12_partAt_0 : decode cX12_partAt 0 = .ok (.aload_n 0, 1) := by decide +kernel
theorem dX12_partAt_1 : decode cX12_partAt 1 = .ok (.iload_n 1, 1) := by decide +kernel
theorem dX12_partAt_2 : decode cX12_partAt 2 = .ok (.iconst 4, 1) := by decide +kernel
theorem dX12_partAt_3 : decode cX12_partAt 3 = .ok (.invokestatic 53, 3) := by decide +kernel
theorem dX12_partAt_6 : decode cX12_partAt 6 = .ok (.iaload, 1) := by decide +kernel
theorem dX12_partAt_7 : decode cX12_partAt 7 = .ok (.ifCond .eq 7, 3) := by decide +kernel
theorem dX12_partAt_10 : decode cX12_partAt 10 = .ok (.iconst 0, 1) := by decide +kernel
theorem dX12_partAt_11 : decode cX12_partAt 11 = .ok (.goto 26, 3) := by decide +kernel
theorem dX12_partAt_14 : decode cX12_partAt 14 = .ok (.iconst 0, 1) := by decide +kernel
theorem dX12_partAt_15 : decode cX12_partAt 15 = .ok (.aload_n 0, 1) := by decide +kernel
theorem dX12_partAt_16 : decode cX12_partAt 16 = .ok (.iload_n 1, 1) := by decide +kernel
theorem dX12_partAt_17 : decode cX12_partAt 17 = .ok (.iload_n 3, 1) := by decide +kernel
theorem dX12_partAt_18 : decode cX12_partAt 18 = .ok (.invokestatic 60, 3) := by decide +kernel
theorem dX12_partAt_21 : decode cX12_partAt 21 = .ok (.aload_n 0, 1) := by decide +kernel
theorem dX12_partAt_22 : decode cX12_partAt 22 = .ok (.iload_n 1, 1) := by decide +kernel
theorem dX12_partAt_23 : decode cX12_partAt 23 = .ok (.iconst 2, 1) := by decide +kernel
theorem dX12_partAt_24 : decode cX12_partAt 24 = .ok (.invokestatic 53, 3) := by decide +kernel
theorem dX12_partAt_27 : decode cX12_partAt 27 = .ok (.iaload, 1) := by decide +kernel
theorem dX12_partAt_28 : decode cX12_partAt 28 = .ok (.iload_n 2, 1) := by decide +kernel
theorem dX12_partAt_29 : decode cX12_partAt 29 = .ok (.isub, 1) := by decide +kernel
theorem dX12_partAt_30 : decode cX12_partAt 30 = .ok (.invokestatic 64, 3) := by decide +kernel
theorem dX12_partAt_33 : decode cX12_partAt 33 = .ok (.isub, 1) := by decide +kernel
theorem dX12_partAt_34 : decode cX12_partAt 34 = .ok (.invokestatic 57, 3) := by decide +kernel
theorem dX12_partAt_37 : decode cX12_partAt 37 = .ok (.ireturn, 1) := by decide +kernel
theorem dX12_soundAt_0 : decode cX12_soundAt 0 = .ok (.iconst 0, 1) := by decide +kernel
theorem dX12_soundAt_1 : decode cX12_soundAt 1 = .ok (.istore_n 3, 1) := by decide +kernel
theorem dX12_soundAt_2 : decode cX12_soundAt 2 = .ok (.iconst 0, 1) := by decide +kernel
theorem dX12_soundAt_3 : decode cX12_soundAt 3 = .ok (.istore 4, 2) := by decide +kernel
theorem dX12_soundAt_5 : decode cX12_soundAt 5 = .ok (.iload 4, 2) := by decide +kernel
theorem dX12_soundAt_7 : decode cX12_soundAt 7 = .ok (.aload_n 0, 1) := by decide +kernel
theorem dX12_soundAt_8 : decode cX12_soundAt 8 = .ok (.iconst 0, 1) := by decide +kernel
theorem dX12_soundAt_9 : decode cX12_soundAt 9 = .ok (.iaload, 1) := by decide +kernel
theorem dX12_soundAt_10 : decode cX12_soundAt 10 = .ok (.if_icmp .ge 20, 3) := by decide +kernel
theorem dX12_soundAt_13 : decode cX12_soundAt 13 = .ok (.iload_n 3, 1) := by decide +kernel
theorem dX12_soundAt_14 : decode cX12_soundAt 14 = .ok (.aload_n 0, 1) := by decide +kernel
theorem dX12_soundAt_15 : decode cX12_soundAt 15 = .ok (.iload 4, 2) := by decide +kernel
theorem dX12_soundAt_17 : decode cX12_soundAt 17 = .ok (.iload_n 1, 1) := by decide +kernel
theorem dX12_soundAt_18 : decode cX12_soundAt 18 = .ok (.iload_n 2, 1) := by decide +kernel
theorem dX12_soundAt_19 : decode cX12_soundAt 19 = .ok (.invokestatic 67, 3) := by decide +kernel
theorem dX12_soundAt_22 : decode cX12_soundAt 22 = .ok (.iadd, 1) := by decide +kernel
theorem dX12_soundAt_23 : decode cX12_soundAt 23 = .ok (.istore_n 3, 1) := by decide +kernel
theorem dX12_soundAt_24 : decode cX12_soundAt 24 = .ok (.iinc 4 1, 3) := by decide +kernel
theorem dX12_soundAt_27 : decode cX12_soundAt 27 = .ok (.goto (-22), 3) := by decide +kernel
theorem dX12_soundAt_30 : decode cX12_soundAt 30 = .ok (.iload_n 3, 1) := by decide +kernel
theorem dX12_soundAt_31 : decode cX12_soundAt 31 = .ok (.ireturn, 1) := by decide +kernel
theorem dX12_heardAt_0 : decode cX12_heardAt 0 = .ok (.iconst 0, 1) := by decide +kernel
theorem dX12_heardAt_1 : decode cX12_heardAt 1 = .ok (.aload_n 0, 1) := by decide +kernel
theorem dX12_heardAt_2 : decode cX12_heardAt 2 = .ok (.iload_n 1, 1) := by decide +kernel
theorem dX12_heardAt_3 : decode cX12_heardAt 3 = .ok (.iload_n 2, 1) := by decide +kernel
theorem dX12_heardAt_4 : decode cX12_heardAt 4 = .ok (.invokestatic 71, 3) := by decide +kernel
theorem dX12_heardAt_7 : decode cX12_heardAt 7 = .ok (.aload_n 0, 1) := by decide +kernel
theorem dX12_heardAt_8 : decode cX12_heardAt 8 = .ok (.iconst 5, 1) := by decide +kernel
theorem dX12_heardAt_9 : decode cX12_heardAt 9 = .ok (.iaload, 1) := by decide +kernel
theorem dX12_heardAt_10 : decode cX12_heardAt 10 = .ok (.isub, 1) := by decide +kernel
theorem dX12_heardAt_11 : decode cX12_heardAt 11 = .ok (.invokestatic 57, 3) := by decide +kernel
theorem dX12_heardAt_14 : decode cX12_heardAt 14 = .ok (.ireturn, 1) := by decide +kernel
theorem dX12_heardNow_0 : decode cX12_heardNow 0 = .ok (.aload_n 0, 1) := by decide +kernel
theorem dX12_heardNow_1 : decode cX12_heardNow 1 = .ok (.iconst 0, 1) := by decide +kernel
theorem dX12_heardNow_2 : decode cX12_heardNow 2 = .ok (.aload_n 0, 1) := by decide +kernel
theorem dX12_heardNow_3 : decode cX12_heardNow 3 = .ok (.iconst 2, 1) := by decide +kernel
theorem dX12_heardNow_4 : decode cX12_heardNow 4 = .ok (.iaload, 1) := by decide +kernel
theorem dX12_heardNow_5 : decode cX12_heardNow 5 = .ok (.invokestatic 74, 3) := by decide +kernel
theorem dX12_heardNow_8 : decode cX12_heardNow 8 = .ok (.ireturn, 1) := by decide +kernel
theorem dX12_loudestAt_0 : decode cX12_loudestAt 0 = .ok (.bipush (-4), 2) := by decide +kernel
theorem dX12_loudestAt_2 : decode cX12_loudestAt 2 = .ok (.istore_n 2, 1) := by decide +kernel
theorem dX12_loudestAt_3 : decode cX12_loudestAt 3 = .ok (.iconst 0, 1) := by decide +kernel
theorem dX12_loudestAt_4 : decode cX12_loudestAt 4 = .ok (.istore_n 3, 1) := by decide +kernel
theorem dX12_loudestAt_5 : decode cX12_loudestAt 5 = .ok (.iconst 0, 1) := by decide +kernel
theorem dX12_loudestAt_6 : decode cX12_loudestAt 6 = .ok (.istore 4, 2) := by decide +kernel
theorem dX12_loudestAt_8 : decode cX12_loudestAt 8 = .ok (.iload 4, 2) := by decide +kernel
theorem dX12_loudestAt_10 : decode cX12_loudestAt 10 = .ok (.aload_n 0, 1) := by decide +kernel
theorem dX12_loudestAt_11 : decode cX12_loudestAt 11 = .ok (.iconst 0, 1) := by decide +kernel
theorem dX12_loudestAt_12 : decode cX12_loudestAt 12 = .ok (.iaload, 1) := by decide +kernel
theorem dX12_loudestAt_13 : decode cX12_loudestAt 13 = .ok (.if_icmp .ge 40, 3) := by decide +kernel
theorem dX12_loudestAt_16 : decode cX12_loudestAt 16 = .ok (.aload_n 0, 1) := by decide +kernel
theorem dX12_loudestAt_17 : decode cX12_loudestAt 17 = .ok (.iload 4, 2) := by decide +kernel
theorem dX12_loudestAt_19 : decode cX12_loudestAt 19 = .ok (.iload_n 1, 1) := by decide +kernel
theorem dX12_loudestAt_20 : decode cX12_loudestAt 20 = .ok (.aload_n 0, 1) := by decide +kernel
theorem dX12_loudestAt_21 : decode cX12_loudestAt 21 = .ok (.iconst 2, 1) := by decide +kernel
theorem dX12_loudestAt_22 : decode cX12_loudestAt 22 = .ok (.iaload, 1) := by decide +kernel
theorem dX12_loudestAt_23 : decode cX12_loudestAt 23 = .ok (.invokestatic 67, 3) := by decide +kernel
theorem dX12_loudestAt_26 : decode cX12_loudestAt 26 = .ok (.iload_n 3, 1) := by decide +kernel
theorem dX12_loudestAt_27 : decode cX12_loudestAt 27 = .ok (.if_icmp .gt 6, 3) := by decide +kernel
theorem dX12_loudestAt_30 : decode cX12_loudestAt 30 = .ok (.goto 17, 3) := by decide +kernel
theorem dX12_loudestAt_33 : decode cX12_loudestAt 33 = .ok (.iload 4, 2) := by decide +kernel
theorem dX12_loudestAt_35 : decode cX12_loudestAt 35 = .ok (.istore_n 2, 1) := by decide +kernel
theorem dX12_loudestAt_36 : decode cX12_loudestAt 36 = .ok (.aload_n 0, 1) := by decide +kernel
theorem dX12_loudestAt_37 : decode cX12_loudestAt 37 = .ok (.iload 4, 2) := by decide +kernel
theorem dX12_loudestAt_39 : decode cX12_loudestAt 39 = .ok (.iload_n 1, 1) := by decide +kernel
theorem dX12_loudestAt_40 : decode cX12_loudestAt 40 = .ok (.aload_n 0, 1) := by decide +kernel
theorem dX12_loudestAt_41 : decode cX12_loudestAt 41 = .ok (.iconst 2, 1) := by decide +kernel
theorem dX12_loudestAt_42 : decode cX12_loudestAt 42 = .ok (.iaload, 1) := by decide +kernel
theorem dX12_loudestAt_43 : decode cX12_loudestAt 43 = .ok (.invokestatic 67, 3) := by decide +kernel
theorem dX12_loudestAt_46 : decode cX12_loudestAt 46 = .ok (.istore_n 3, 1) := by decide +kernel
theorem dX12_loudestAt_47 : decode cX12_loudestAt 47 = .ok (.iinc 4 1, 3) := by decide +kernel
theorem dX12_loudestAt_50 : decode cX12_loudestAt 50 = .ok (.goto (-42), 3) := by decide +kernel
theorem dX12_loudestAt_53 : decode cX12_loudestAt 53 = .ok (.iload_n 2, 1) := by decide +kernel
theorem dX12_loudestAt_54 : decode cX12_loudestAt 54 = .ok (.ireturn, 1) := by decide +kernel
theorem dX12_drive_0 : decode cX12_drive 0 = .ok (.aload_n 0, 1) := by decide +kernel
theorem dX12_drive_1 : decode cX12_drive 1 = .ok (.invokestatic 77, 3) := by decide +kernel
theorem dX12_drive_4 : decode cX12_drive 4 = .ok (.istore_n 1, 1) := by decide +kernel
theorem dX12_drive_5 : decode cX12_drive 5 = .ok (.iconst 0, 1) := by decide +kernel
theorem dX12_drive_6 : decode cX12_drive 6 = .ok (.istore_n 2, 1) := by decide +kernel
theorem dX12_drive_7 : decode cX12_drive 7 = .ok (.iload_n 2, 1) := by decide +kernel
theorem dX12_drive_8 : decode cX12_drive 8 = .ok (.aload_n 0, 1) := by decide +kernel
theorem dX12_drive_9 : decode cX12_drive 9 = .ok (.iconst 0, 1) := by decide +kernel
theorem dX12_drive_10 : decode cX12_drive 10 = .ok (.iaload, 1) := by decide +kernel
theorem dX12_drive_11 : decode cX12_drive 11 = .ok (.if_icmp .ge 72, 3) := by decide +kernel
theorem dX12_drive_14 : decode cX12_drive 14 = .ok (.aload_n 0, 1) := by decide +kernel
theorem dX12_drive_15 : decode cX12_drive 15 = .ok (.iload_n 2, 1) := by decide +kernel
theorem dX12_drive_16 : decode cX12_drive 16 = .ok (.iconst 4, 1) := by decide +kernel
theorem dX12_drive_17 : decode cX12_drive 17 = .ok (.invokestatic 53, 3) := by decide +kernel
theorem dX12_drive_20 : decode cX12_drive 20 = .ok (.iaload, 1) := by decide +kernel
theorem dX12_drive_21 : decode cX12_drive 21 = .ok (.iconst 1, 1) := by decide +kernel
theorem dX12_drive_22 : decode cX12_drive 22 = .ok (.if_icmp .ne 11, 3) := by decide +kernel
theorem dX12_drive_25 : decode cX12_drive 25 = .ok (.aload_n 0, 1) := by decide +kernel
theorem dX12_drive_26 : decode cX12_drive 26 = .ok (.iload_n 2, 1) := by decide +kernel
theorem dX12_drive_27 : decode cX12_drive 27 = .ok (.iconst 4, 1) := by decide +kernel
theorem dX12_drive_28 : decode cX12_drive 28 = .ok (.invokestatic 53, 3) := by decide +kernel
theorem dX12_drive_31 : decode cX12_drive 31 = .ok (.iconst 0, 1) := by decide +kernel
theorem dX12_drive_32 : decode cX12_drive 32 = .ok (.iastore, 1) := by decide +kernel
theorem dX12_drive_33 : decode cX12_drive 33 = .ok (.aload_n 0, 1) := by decide +kernel
theorem dX12_drive_34 : decode cX12_drive 34 = .ok (.iload_n 2, 1) := by decide +kernel
theorem dX12_drive_35 : decode cX12_drive 35 = .ok (.iconst 4, 1) := by decide +kernel
theorem dX12_drive_36 : decode cX12_drive 36 = .ok (.invokestatic 53, 3) := by decide +kernel
theorem dX12_drive_39 : decode cX12_drive 39 = .ok (.iaload, 1) := by decide +kernel
theorem dX12_drive_40 : decode cX12_drive 40 = .ok (.iconst 2, 1) := by decide +kernel
theorem dX12_drive_41 : decode cX12_drive 41 = .ok (.if_icmp .eq 6, 3) := by decide +kernel
theorem dX12_drive_44 : decode cX12_drive 44 = .ok (.goto 33, 3) := by decide +kernel
theorem dX12_drive_47 : decode cX12_drive 47 = .ok (.aload_n 0, 1) := by decide +kernel
theorem dX12_drive_48 : decode cX12_drive 48 = .ok (.iload_n 2, 1) := by decide +kernel
theorem dX12_drive_49 : decode cX12_drive 49 = .ok (.iconst 5, 1) := by decide +kernel
theorem dX12_drive_50 : decode cX12_drive 50 = .ok (.invokestatic 53, 3) := by decide +kernel
theorem dX12_drive_53 : decode cX12_drive 53 = .ok (.dup2, 1) := by decide +kernel
theorem dX12_drive_54 : decode cX12_drive 54 = .ok (.iaload, 1) := by decide +kernel
theorem dX12_drive_55 : decode cX12_drive 55 = .ok (.iconst 1, 1) := by decide +kernel
theorem dX12_drive_56 : decode cX12_drive 56 = .ok (.iadd, 1) := by decide +kernel
theorem dX12_drive_57 : decode cX12_drive 57 = .ok (.iastore, 1) := by decide +kernel
theorem dX12_drive_58 : decode cX12_drive 58 = .ok (.aload_n 0, 1) := by decide +kernel
theorem dX12_drive_59 : decode cX12_drive 59 = .ok (.iload_n 2, 1) := by decide +kernel
theorem dX12_drive_60 : decode cX12_drive 60 = .ok (.iconst 5, 1) := by decide +kernel
theorem dX12_drive_61 : decode cX12_drive 61 = .ok (.invokestatic 53, 3) := by decide +kernel
theorem dX12_drive_64 : decode cX12_drive 64 = .ok (.iaload, 1) := by decide +kernel
theorem dX12_drive_65 : decode cX12_drive 65 = .ok (.iconst 2, 1) := by decide +kernel
theorem dX12_drive_66 : decode cX12_drive 66 = .ok (.if_icmp .ne 11, 3) := by decide +kernel
theorem dX12_drive_69 : decode cX12_drive 69 = .ok (.aload_n 0, 1) := by decide +kernel
theorem dX12_drive_70 : decode cX12_drive 70 = .ok (.iload_n 2, 1) := by decide +kernel
theorem dX12_drive_71 : decode cX12_drive 71 = .ok (.iconst 4, 1) := by decide +kernel
theorem dX12_drive_72 : decode cX12_drive 72 = .ok (.invokestatic 53, 3) := by decide +kernel
theorem dX12_drive_75 : decode cX12_drive 75 = .ok (.iconst 0, 1) := by decide +kernel
theorem dX12_drive_76 : decode cX12_drive 76 = .ok (.iastore, 1) := by decide +kernel
theorem dX12_drive_77 : decode cX12_drive 77 = .ok (.iinc 2 1, 3) := by decide +kernel
theorem dX12_drive_80 : decode cX12_drive 80 = .ok (.goto (-73), 3) := by decide +kernel
theorem dX12_drive_83 : decode cX12_drive 83 = .ok (.iload_n 1, 1) := by decide +kernel
theorem dX12_drive_84 : decode cX12_drive 84 = .ok (.ireturn, 1) := by decide +kernel
theorem dX12_screw_0 : decode cX12_screw 0 = .ok (.aload_n 0, 1) := by decide +kernel
theorem dX12_screw_1 : decode cX12_screw 1 = .ok (.iload_n 1, 1) := by decide +kernel
theorem dX12_screw_2 : decode cX12_screw 2 = .ok (.iconst 1, 1) := by decide +kernel
theorem dX12_screw_3 : decode cX12_screw 3 = .ok (.invokestatic 53, 3) := by decide +kernel
theorem dX12_screw_6 : decode cX12_screw 6 = .ok (.iconst 0, 1) := by decide +kernel
theorem dX12_screw_7 : decode cX12_screw 7 = .ok (.iastore, 1) := by decide +kernel
theorem dX12_screw_8 : decode cX12_screw 8 = .ok (.aload_n 0, 1) := by decide +kernel
theorem dX12_screw_9 : decode cX12_screw 9 = .ok (.iconst 0, 1) := by decide +kernel
theorem dX12_screw_10 : decode cX12_screw 10 = .ok (.iaload, 1) := by decide +kernel
theorem dX12_screw_11 : decode cX12_screw 11 = .ok (.iconst 1, 1) := by decide +kernel
theorem dX12_screw_12 : decode cX12_screw 12 = .ok (.if_icmp .ne 5, 3) := by decide +kernel
theorem dX12_screw_15 : decode cX12_screw 15 = .ok (.iconst 0, 1) := by decide +kernel
theorem dX12_screw_16 : decode cX12_screw 16 = .ok (.ireturn, 1) := by decide +kernel
theorem dX12_screw_17 : decode cX12_screw 17 = .ok (.iload_n 1, 1) := by decide +kernel
theorem dX12_screw_18 : decode cX12_screw 18 = .ok (.iconst 1, 1) := by decide +kernel
theorem dX12_screw_19 : decode cX12_screw 19 = .ok (.iadd, 1) := by decide +kernel
theorem dX12_screw_20 : decode cX12_screw 20 = .ok (.aload_n 0, 1) := by decide +kernel
theorem dX12_screw_21 : decode cX12_screw 21 = .ok (.iconst 0, 1) := by decide +kernel
theorem dX12_screw_22 : decode cX12_screw 22 = .ok (.iaload, 1) := by decide +kernel
theorem dX12_screw_23 : decode cX12_screw 23 = .ok (.irem, 1) := by decide +kernel
theorem dX12_screw_24 : decode cX12_screw 24 = .ok (.istore_n 2, 1) := by decide +kernel
theorem dX12_screw_25 : decode cX12_screw 25 = .ok (.aload_n 0, 1) := by decide +kernel
theorem dX12_screw_26 : decode cX12_screw 26 = .ok (.iload_n 2, 1) := by decide +kernel
theorem dX12_screw_27 : decode cX12_screw 27 = .ok (.iconst 1, 1) := by decide +kernel
theorem dX12_screw_28 : decode cX12_screw 28 = .ok (.invokestatic 53, 3) := by decide +kernel
theorem dX12_screw_31 : decode cX12_screw 31 = .ok (.iaload, 1) := by decide +kernel
theorem dX12_screw_32 : decode cX12_screw 32 = .ok (.aload_n 0, 1) := by decide +kernel
theorem dX12_screw_33 : decode cX12_screw 33 = .ok (.iload_n 2, 1) := by decide +kernel
theorem dX12_screw_34 : decode cX12_screw 34 = .ok (.invokestatic 81, 3) := by decide +kernel
theorem dX12_screw_37 : decode cX12_screw 37 = .ok (.iadd, 1) := by decide +kernel
theorem dX12_screw_38 : decode cX12_screw 38 = .ok (.istore_n 3, 1) := by decide +kernel
theorem dX12_screw_39 : decode cX12_screw 39 = .ok (.aload_n 0, 1) := by decide +kernel
theorem dX12_screw_40 : decode cX12_screw 40 = .ok (.iload_n 2, 1) := by decide +kernel
theorem dX12_screw_41 : decode cX12_screw 41 = .ok (.iconst 1, 1) := by decide +kernel
theorem dX12_screw_42 : decode cX12_screw 42 = .ok (.invokestatic 53, 3) := by decide +kernel
theorem dX12_screw_45 : decode cX12_screw 45 = .ok (.iload_n 3, 1) := by decide +kernel
theorem dX12_screw_46 : decode cX12_screw 46 = .ok (.bipush 9, 2) := by decide +kernel
theorem dX12_screw_48 : decode cX12_screw 48 = .ok (.if_icmp .le 8, 3) := by decide +kernel
theorem dX12_screw_51 : decode cX12_screw 51 = .ok (.bipush 9, 2) := by decide +kernel
theorem dX12_screw_53 : decode cX12_screw 53 = .ok (.goto 4, 3) := by decide +kernel
theorem dX12_screw_56 : decode cX12_screw 56 = .ok (.iload_n 3, 1) := by decide +kernel
theorem dX12_screw_57 : decode cX12_screw 57 = .ok (.iastore, 1) := by decide +kernel
theorem dX12_screw_58 : decode cX12_screw 58 = .ok (.aload_n 0, 1) := by decide +kernel
theorem dX12_screw_59 : decode cX12_screw 59 = .ok (.iload_n 2, 1) := by decide +kernel
theorem dX12_screw_60 : decode cX12_screw 60 = .ok (.iconst 1, 1) := by decide +kernel
theorem dX12_screw_61 : decode cX12_screw 61 = .ok (.invokestatic 53, 3) := by decide +kernel
theorem dX12_screw_64 : decode cX12_screw 64 = .ok (.iaload, 1) := by decide +kernel
theorem dX12_screw_65 : decode cX12_screw 65 = .ok (.ireturn, 1) := by decide +kernel
theorem dX12_puts_0 : decode cX12_puts 0 = .ok (.aload_n 0, 1) := by decide +kernel
theorem dX12_puts_1 : decode cX12_puts 1 = .ok (.iload_n 1, 1) := by decide +kernel
theorem dX12_puts_2 : decode cX12_puts 2 = .ok (.iconst 4, 1) := by decide +kernel
theorem dX12_puts_3 : decode cX12_puts 3 = .ok (.invokestatic 53, 3) := by decide +kernel
theorem dX12_puts_6 : decode cX12_puts 6 = .ok (.iload_n 2, 1) := by decide +kernel
theorem dX12_puts_7 : decode cX12_puts 7 = .ok (.iastore, 1) := by decide +kernel
theorem dX12_puts_8 : decode cX12_puts 8 = .ok (.aload_n 0, 1) := by decide +kernel
theorem dX12_puts_9 : decode cX12_puts 9 = .ok (.iload_n 1, 1) := by decide +kernel
theorem dX12_puts_10 : decode cX12_puts 10 = .ok (.iconst 5, 1) := by decide +kernel
theorem dX12_puts_11 : decode cX12_puts 11 = .ok (.invokestatic 53, 3) := by decide +kernel
theorem dX12_puts_14 : decode cX12_puts 14 = .ok (.iconst 0, 1) := by decide +kernel
theorem dX12_puts_15 : decode cX12_puts 15 = .ok (.iastore, 1) := by decide +kernel
theorem dX12_puts_16 : decode cX12_puts 16 = .ok (.return_, 1) := by decide +kernel
theorem dX12_here_0 : decode cX12_here 0 = .ok (.aload_n 0, 1) := by decide +kernel
theorem dX12_here_1 : decode cX12_here 1 = .ok (.getfield 85, 3) := by decide +kernel
theorem dX12_here_4 : decode cX12_here 4 = .ok (.aload_n 0, 1) := by decide +kernel
theorem dX12_here_5 : decode cX12_here 5 = .ok (.getfield 89, 3) := by decide +kernel
theorem dX12_here_8 : decode cX12_here 8 = .ok (.if_icmp .ge 24, 3) := by decide +kernel
theorem dX12_here_11 : decode cX12_here 11 = .ok (.aload_n 0, 1) := by decide +kernel
theorem dX12_here_12 : decode cX12_here 12 = .ok (.getfield 46, 3) := by decide +kernel
theorem dX12_here_15 : decode cX12_here 15 = .ok (.aload_n 0, 1) := by decide +kernel
theorem dX12_here_16 : decode cX12_here 16 = .ok (.getfield 92, 3) := by decide +kernel
theorem dX12_here_19 : decode cX12_here 19 = .ok (.aload_n 0, 1) := by decide +kernel
theorem dX12_here_20 : decode cX12_here 20 = .ok (.getfield 85, 3) := by decide +kernel
theorem dX12_here_23 : decode cX12_here 23 = .ok (.iadd, 1) := by decide +kernel
theorem dX12_here_24 : decode cX12_here 24 = .ok (.iaload, 1) := by decide +kernel
theorem dX12_here_25 : decode cX12_here 25 = .ok (.sipush 255, 3) := by decide +kernel
theorem dX12_here_28 : decode cX12_here 28 = .ok (.iand, 1) := by decide +kernel
theorem dX12_here_29 : decode cX12_here 29 = .ok (.goto 4, 3) := by decide +kernel
theorem dX12_here_32 : decode cX12_here 32 = .ok (.iconst (-1), 1) := by decide +kernel
theorem dX12_here_33 : decode cX12_here 33 = .ok (.ireturn, 1) := by decide +kernel
theorem dX12_readsNumber_0 : decode cX12_readsNumber 0 = .ok (.aload_n 0, 1) := by decide +kernel
theorem dX12_readsNumber_1 : decode cX12_readsNumber 1 = .ok (.getfield 22, 3) := by decide +kernel
theorem dX12_readsNumber_4 : decode cX12_readsNumber 4 = .ok (.iload_n 1, 1) := by decide +kernel
theorem dX12_readsNumber_5 : decode cX12_readsNumber 5 = .ok (.iconst 0, 1) := by decide +kernel
theorem dX12_readsNumber_6 : decode cX12_readsNumber 6 = .ok (.iastore, 1) := by decide +kernel
theorem dX12_readsNumber_7 : decode cX12_readsNumber 7 = .ok (.iconst 0, 1) := by decide +kernel
theorem dX12_readsNumber_8 : decode cX12_readsNumber 8 = .ok (.istore_n 3, 1) := by decide +kernel
theorem dX12_readsNumber_9 : decode cX12_readsNumber 9 = .ok (.iload_n 3, 1) := by decide +kernel
theorem dX12_readsNumber_10 : decode cX12_readsNumber 10 = .ok (.iload_n 2, 1) := by decide +kernel
theorem dX12_readsNumber_11 : decode cX12_readsNumber 11 = .ok (.if_icmp .ge 58, 3) := by decide +kernel
theorem dX12_readsNumber_14 : decode cX12_readsNumber 14 = .ok (.aload_n 0, 1) := by decide +kernel
theorem dX12_readsNumber_15 : decode cX12_readsNumber 15 = .ok (.invokevirtual 95, 3) := by decide +kernel
theorem dX12_readsNumber_18 : decode cX12_readsNumber 18 = .ok (.bipush 48, 2) := by decide +kernel
theorem dX12_readsNumber_20 : decode cX12_readsNumber 20 = .ok (.bipush 57, 2) := by decide +kernel
theorem dX12_readsNumber_22 : decode cX12_readsNumber 22 = .ok (.invokestatic 49, 3) := by decide +kernel
theorem dX12_readsNumber_25 : decode cX12_readsNumber 25 = .ok (.ifCond .ne 5, 3) := by decide +kernel
theorem dX12_readsNumber_28 : decode cX12_readsNumber 28 = .ok (.iconst 0, 1) := by decide +kernel
theorem dX12_readsNumber_29 : decode cX12_readsNumber 29 = .ok (.ireturn, 1) := by decide +kernel
theorem dX12_readsNumber_30 : decode cX12_readsNumber 30 = .ok (.aload_n 0, 1) := by decide +kernel
theorem dX12_readsNumber_31 : decode cX12_readsNumber 31 = .ok (.getfield 22, 3) := by decide +kernel
theorem dX12_readsNumber_34 : decode cX12_readsNumber 34 = .ok (.iload_n 1, 1) := by decide +kernel
theorem dX12_readsNumber_35 : decode cX12_readsNumber 35 = .ok (.bipush 10, 2) := by decide +kernel
theorem dX12_readsNumber_37 : decode cX12_readsNumber 37 = .ok (.aload_n 0, 1) := by decide +kernel
theorem dX12_readsNumber_38 : decode cX12_readsNumber 38 = .ok (.getfield 22, 3) := by decide +kernel
theorem dX12_readsNumber_41 : decode cX12_readsNumber 41 = .ok (.iload_n 1, 1) := by decide +kernel
theorem dX12_readsNumber_42 : decode cX12_readsNumber 42 = .ok (.iaload, 1) := by decide +kernel
theorem dX12_readsNumber_43 : decode cX12_readsNumber 43 = .ok (.imul, 1) := by decide +kernel
theorem dX12_readsNumber_44 : decode cX12_readsNumber 44 = .ok (.aload_n 0, 1) := by decide +kernel
theorem dX12_readsNumber_45 : decode cX12_readsNumber 45 = .ok (.invokevirtual 95, 3) := by decide +kernel
theorem dX12_readsNumber_48 : decode cX12_readsNumber 48 = .ok (.iadd, 1) := by decide +kernel
theorem dX12_readsNumber_49 : decode cX12_readsNumber 49 = .ok (.bipush 48, 2) := by decide +kernel
theorem dX12_readsNumber_51 : decode cX12_readsNumber 51 = .ok (.isub, 1) := by decide +kernel
theorem dX12_readsNumber_52 : decode cX12_readsNumber 52 = .ok (.iastore, 1) := by decide +kernel
theorem dX12_readsNumber_53 : decode cX12_readsNumber 53 = .ok (.aload_n 0, 1) := by decide +kernel
theorem dX12_readsNumber_54 : decode cX12_readsNumber 54 = .ok (.dup, 1) := by decide +kernel
theorem dX12_readsNumber_55 : decode cX12_readsNumber 55 = .ok (.getfield 85, 3) := by decide +kernel
theorem dX12_readsNumber_58 : decode cX12_readsNumber 58 = .ok (.iconst 1, 1) := by decide +kernel
theorem dX12_readsNumber_59 : decode cX12_readsNumber 59 = .ok (.iadd, 1) := by decide +kernel
theorem dX12_readsNumber_60 : decode cX12_readsNumber 60 = .ok (.putfield 85, 3) := by decide +kernel
theorem dX12_readsNumber_63 : decode cX12_readsNumber 63 = .ok (.iinc 3 1, 3) := by decide +kernel
theorem dX12_readsNumber_66 : decode cX12_readsNumber 66 = .ok (.goto (-57), 3) := by decide +kernel
theorem dX12_readsNumber_69 : decode cX12_readsNumber 69 = .ok (.iconst 1, 1) := by decide +kernel
theorem dX12_readsNumber_70 : decode cX12_readsNumber 70 = .ok (.ireturn, 1) := by decide +kernel
theorem dX12_readsStatement_0 : decode cX12_readsStatement 0 = .ok (.aload_n 0, 1) := by decide +kernel
theorem dX12_readsStatement_1 : decode cX12_readsStatement 1 = .ok (.invokevirtual 95, 3) := by decide +kernel
theorem dX12_readsStatement_4 : decode cX12_readsStatement 4 = .ok (.istore_n 1, 1) := by decide +kernel
theorem dX12_readsStatement_5 : decode cX12_readsStatement 5 = .ok (.aload_n 0, 1) := by decide +kernel
theorem dX12_readsStatement_6 : decode cX12_readsStatement 6 = .ok (.dup, 1) := by decide +kernel
theorem dX12_readsStatement_7 : decode cX12_readsStatement 7 = .ok (.getfield 85, 3) := by decide +kernel
theorem dX12_readsStatement_10 : decode cX12_readsStatement 10 = .ok (.iconst 1, 1) := by decide +kernel
theorem dX12_readsStatement_11 : decode cX12_readsStatement 11 = .ok (.iadd, 1) := by decide +kernel
theorem dX12_readsStatement_12 : decode cX12_readsStatement 12 = .ok (.putfield 85, 3) := by decide +kernel
theorem dX12_readsStatement_15 : decode cX12_readsStatement 15 = .ok (.iload_n 1, 1) := by decide +kernel
theorem dX12_readsStatement_16 : decode cX12_readsStatement 16 = .ok (.tableswitch 165 99 119 #[155, 145, 165, 165, 165, 155, 165, 165, 165, 155, 165, 165, 155, 100, 165, 145, 145, 155, 165, 165, 155], 100) := by decide +kernel
theorem dX12_readsStatement_116 : decode cX12_readsStatement 116 = .ok (.aload_n 0, 1) := by decide +kernel
theorem dX12_readsStatement_117 : decode cX12_readsStatement 117 = .ok (.iconst 0, 1) := by decide +kernel
theorem dX12_readsStatement_118 : decode cX12_readsStatement 118 = .ok (.iconst 1, 1) := by decide +kernel
theorem dX12_readsStatement_119 : decode cX12_readsStatement 119 = .ok (.invokevirtual 99, 3) := by decide +kernel
theorem dX12_readsStatement_122 : decode cX12_readsStatement 122 = .ok (.ifCond .eq 34, 3) := by decide +kernel
theorem dX12_readsStatement_125 : decode cX12_readsStatement 125 = .ok (.aload_n 0, 1) := by decide +kernel
theorem dX12_readsStatement_126 : decode cX12_readsStatement 126 = .ok (.iconst 1, 1) := by decide +kernel
theorem dX12_readsStatement_127 : decode cX12_readsStatement 127 = .ok (.iconst 1, 1) := by decide +kernel
theorem dX12_readsStatement_128 : decode cX12_readsStatement 128 = .ok (.invokevirtual 99, 3) := by decide +kernel
theorem dX12_readsStatement_131 : decode cX12_readsStatement 131 = .ok (.ifCond .eq 25, 3) := by decide +kernel
theorem dX12_readsStatement_134 : decode cX12_readsStatement 134 = .ok (.aload_n 0, 1) := by decide +kernel
theorem dX12_readsStatement_135 : decode cX12_readsStatement 135 = .ok (.iconst 2, 1) := by decide +kernel
theorem dX12_readsStatement_136 : decode cX12_readsStatement 136 = .ok (.iconst 1, 1) := by decide +kernel
theorem dX12_readsStatement_137 : decode cX12_readsStatement 137 = .ok (.invokevirtual 99, 3) := by decide +kernel
theorem dX12_readsStatement_140 : decode cX12_readsStatement 140 = .ok (.ifCond .eq 16, 3) := by decide +kernel
theorem dX12_readsStatement_143 : decode cX12_readsStatement 143 = .ok (.aload_n 0, 1) := by decide +kernel
theorem dX12_readsStatement_144 : decode cX12_readsStatement 144 = .ok (.iconst 3, 1) := by decide +kernel
theorem dX12_readsStatement_145 : decode cX12_readsStatement 145 = .ok (.iconst 1, 1) := by decide +kernel
theorem dX12_readsStatement_146 : decode cX12_readsStatement 146 = .ok (.invokevirtual 99, 3) := by decide +kernel
theorem dX12_readsStatement_149 : decode cX12_readsStatement 149 = .ok (.ifCond .eq 7, 3) := by decide +kernel
theorem dX12_readsStatement_152 : decode cX12_readsStatement 152 = .ok (.iconst 1, 1) := by decide +kernel
theorem dX12_readsStatement_153 : decode cX12_readsStatement 153 = .ok (.goto 4, 3) := by decide +kernel
theorem dX12_readsStatement_156 : decode cX12_readsStatement 156 = .ok (.iconst 0, 1) := by decide +kernel
theorem dX12_readsStatement_157 : decode cX12_readsStatement 157 = .ok (.istore_n 2, 1) := by decide +kernel
theorem dX12_readsStatement_158 : decode cX12_readsStatement 158 = .ok (.goto 35, 3) := by decide +kernel
theorem dX12_readsStatement_161 : decode cX12_readsStatement 161 = .ok (.aload_n 0, 1) := by decide +kernel
theorem dX12_readsStatement_162 : decode cX12_readsStatement 162 = .ok (.iconst 0, 1) := by decide +kernel
theorem dX12_readsStatement_163 : decode cX12_readsStatement 163 = .ok (.iconst 2, 1) := by decide +kernel
theorem dX12_readsStatement_164 : decode cX12_readsStatement 164 = .ok (.invokevirtual 99, 3) := by decide +kernel
theorem dX12_readsStatement_167 : decode cX12_readsStatement 167 = .ok (.istore_n 2, 1) := by decide +kernel
theorem dX12_readsStatement_168 : decode cX12_readsStatement 168 = .ok (.goto 25, 3) := by decide +kernel
theorem dX12_readsStatement_171 : decode cX12_readsStatement 171 = .ok (.aload_n 0, 1) := by decide +kernel
theorem dX12_readsStatement_172 : decode cX12_readsStatement 172 = .ok (.iconst 0, 1) := by decide +kernel
theorem dX12_readsStatement_173 : decode cX12_readsStatement 173 = .ok (.iconst 1, 1) := by decide +kernel
theorem dX12_readsStatement_174 : decode cX12_readsStatement 174 = .ok (.invokevirtual 99, 3) := by decide +kernel
theorem dX12_readsStatement_177 : decode cX12_readsStatement 177 = .ok (.istore_n 2, 1) := by decide +kernel
theorem dX12_readsStatement_178 : decode cX12_readsStatement 178 = .ok (.goto 15, 3) := by decide +kernel
theorem dX12_readsStatement_181 : decode cX12_readsStatement 181 = .ok (.aload_n 0, 1) := by decide +kernel
theorem dX12_readsStatement_182 : decode cX12_readsStatement 182 = .ok (.dup, 1) := by decide +kernel
theorem dX12_readsStatement_183 : decode cX12_readsStatement 183 = .ok (.getfield 85, 3) := by decide +kernel
theorem dX12_readsStatement_186 : decode cX12_readsStatement 186 = .ok (.iconst 1, 1) := by decide +kernel
theorem dX12_readsStatement_187 : decode cX12_readsStatement 187 = .ok (.isub, 1) := by decide +kernel
theorem dX12_readsStatement_188 : decode cX12_readsStatement 188 = .ok (.putfield 85, 3) := by decide +kernel
theorem dX12_readsStatement_191 : decode cX12_readsStatement 191 = .ok (.iconst 0, 1) := by decide +kernel
theorem dX12_readsStatement_192 : decode cX12_readsStatement 192 = .ok (.ireturn, 1) := by decide +kernel
theorem dX12_readsStatement_193 : decode cX12_readsStatement 193 = .ok (.iload_n 2, 1) := by decide +kernel
theorem dX12_readsStatement_194 : decode cX12_readsStatement 194 = .ok (.ifCond .eq 12, 3) := by decide +kernel
theorem dX12_readsStatement_197 : decode cX12_readsStatement 197 = .ok (.aload_n 0, 1) := by decide +kernel
theorem dX12_readsStatement_198 : decode cX12_readsStatement 198 = .ok (.invokevirtual 95, 3) := by decide +kernel
theorem dX12_readsStatement_201 : decode cX12_readsStatement 201 = .ok (.bipush 59, 2) := by decide +kernel
theorem dX12_readsStatement_203 : decode cX12_readsStatement 203 = .ok (.if_icmp .eq 5, 3) := by decide +kernel
theorem dX12_readsStatement_206 : decode cX12_readsStatement 206 = .ok (.iconst 0, 1) := by decide +kernel
theorem dX12_readsStatement_207 : decode cX12_readsStatement 207 = .ok (.ireturn, 1) := by decide +kernel
theorem dX12_readsStatement_208 : decode cX12_readsStatement 208 = .ok (.aload_n 0, 1) := by decide +kernel
theorem dX12_readsStatement_209 : decode cX12_readsStatement 209 = .ok (.dup, 1) := by decide +kernel
theorem dX12_readsStatement_210 : decode cX12_readsStatement 210 = .ok (.getfield 85, 3) := by decide +kernel
theorem dX12_readsStatement_213 : decode cX12_readsStatement 213 = .ok (.iconst 1, 1) := by decide +kernel
theorem dX12_readsStatement_214 : decode cX12_readsStatement 214 = .ok (.iadd, 1) := by decide +kernel
theorem dX12_readsStatement_215 : decode cX12_readsStatement 215 = .ok (.putfield 85, 3) := by decide +kernel
theorem dX12_readsStatement_218 : decode cX12_readsStatement 218 = .ok (.iconst 1, 1) := by decide +kernel
theorem dX12_readsStatement_219 : decode cX12_readsStatement 219 = .ok (.ireturn, 1) := by decide +kernel
theorem dX12_isThere_0 : decode cX12_isThere 0 = .ok (.aload_n 0, 1) := by decide +kernel
theorem dX12_isThere_1 : decode cX12_isThere 1 = .ok (.iload_n 1, 1) := by decide +kernel
theorem dX12_isThere_2 : decode cX12_isThere 2 = .ok (.invokevirtual 103, 3) := by decide +kernel
theorem dX12_isThere_5 : decode cX12_isThere 5 = .ok (.ifCond .eq 21, 3) := by decide +kernel
theorem dX12_isThere_8 : decode cX12_isThere 8 = .ok (.aload_n 0, 1) := by decide +kernel
theorem dX12_isThere_9 : decode cX12_isThere 9 = .ok (.getfield 9, 3) := by decide +kernel
theorem dX12_isThere_12 : decode cX12_isThere 12 = .ok (.iload_n 1, 1) := by decide +kernel
theorem dX12_isThere_13 : decode cX12_isThere 13 = .ok (.iconst 4, 1) := by decide +kernel
theorem dX12_isThere_14 : decode cX12_isThere 14 = .ok (.invokestatic 53, 3) := by decide +kernel
theorem dX12_isThere_17 : decode cX12_isThere 17 = .ok (.iaload, 1) := by decide +kernel
theorem dX12_isThere_18 : decode cX12_isThere 18 = .ok (.iconst 3, 1) := by decide +kernel
theorem dX12_isThere_19 : decode cX12_isThere 19 = .ok (.if_icmp .eq 7, 3) := by decide +kernel
theorem dX12_isThere_22 : decode cX12_isThere 22 = .ok (.iconst 1, 1) := by decide +kernel
theorem dX12_isThere_23 : decode cX12_isThere 23 = .ok (.goto 4, 3) := by decide +kernel
theorem dX12_isThere_26 : decode cX12_isThere 26 = .ok (.iconst 0, 1) := by decide +kernel
theorem dX12_isThere_27 : decode cX12_isThere 27 = .ok (.ireturn, 1) := by decide +kernel
theorem dX12_addsPart_0 : decode cX12_addsPart 0 = .ok (.aload_n 0, 1) := by decide +kernel
theorem dX12_addsPart_1 : decode cX12_addsPart 1 = .ok (.getfield 9, 3) := by decide +kernel
theorem dX12_addsPart_4 : decode cX12_addsPart 4 = .ok (.iconst 0, 1) := by decide +kernel
theorem dX12_addsPart_5 : decode cX12_addsPart 5 = .ok (.iaload, 1) := by decide +kernel
theorem dX12_addsPart_6 : decode cX12_addsPart 6 = .ok (.istore 5, 2) := by decide +kernel
theorem dX12_addsPart_8 : decode cX12_addsPart 8 = .ok (.aload_n 0, 1) := by decide +kernel
theorem dX12_addsPart_9 : decode cX12_addsPart 9 = .ok (.getfield 9, 3) := by decide +kernel
theorem dX12_addsPart_12 : decode cX12_addsPart 12 = .ok (.iload 5, 2) := by decide +kernel
theorem dX12_addsPart_14 : decode cX12_addsPart 14 = .ok (.iconst 0, 1) := by decide +kernel
theorem dX12_addsPart_15 : decode cX12_addsPart 15 = .ok (.invokestatic 53, 3) := by decide +kernel
theorem dX12_addsPart_18 : decode cX12_addsPart 18 = .ok (.iload_n 1, 1) := by decide +kernel
theorem dX12_addsPart_19 : decode cX12_addsPart 19 = .ok (.iastore, 1) := by decide +kernel
theorem dX12_addsPart_20 : decode cX12_addsPart 20 = .ok (.aload_n 0, 1) := by decide +kernel
theorem dX12_addsPart_21 : decode cX12_addsPart 21 = .ok (.getfield 9, 3) := by decide +kernel
theorem dX12_addsPart_24 : decode cX12_addsPart 24 = .ok (.iload 5, 2) := by decide +kernel
theorem dX12_addsPart_26 : decode cX12_addsPart 26 = .ok (.iconst 1, 1) := by decide +kernel
theorem dX12_addsPart_27 : decode cX12_addsPart 27 = .ok (.invokestatic 53, 3) := by decide +kernel
theorem dX12_addsPart_30 : decode cX12_addsPart 30 = .ok (.iload_n 2, 1) := by decide +kernel
theorem dX12_addsPart_31 : decode cX12_addsPart 31 = .ok (.iastore, 1) := by decide +kernel
theorem dX12_addsPart_32 : decode cX12_addsPart 32 = .ok (.aload_n 0, 1) := by decide +kernel
theorem dX12_addsPart_33 : decode cX12_addsPart 33 = .ok (.getfield 9, 3) := by decide +kernel
theorem dX12_addsPart_36 : decode cX12_addsPart 36 = .ok (.iload 5, 2) := by decide +kernel
theorem dX12_addsPart_38 : decode cX12_addsPart 38 = .ok (.iconst 2, 1) := by decide +kernel
theorem dX12_addsPart_39 : decode cX12_addsPart 39 = .ok (.invokestatic 53, 3) := by decide +kernel
theorem dX12_addsPart_42 : decode cX12_addsPart 42 = .ok (.iload_n 3, 1) := by decide +kernel
theorem dX12_addsPart_43 : decode cX12_addsPart 43 = .ok (.iastore, 1) := by decide +kernel
theorem dX12_addsPart_44 : decode cX12_addsPart 44 = .ok (.aload_n 0, 1) := by decide +kernel
theorem dX12_addsPart_45 : decode cX12_addsPart 45 = .ok (.getfield 9, 3) := by decide +kernel
theorem dX12_addsPart_48 : decode cX12_addsPart 48 = .ok (.iload 5, 2) := by decide +kernel
theorem dX12_addsPart_50 : decode cX12_addsPart 50 = .ok (.iconst 3, 1) := by decide +kernel
theorem dX12_addsPart_51 : decode cX12_addsPart 51 = .ok (.invokestatic 53, 3) := by decide +kernel
theorem dX12_addsPart_54 : decode cX12_addsPart 54 = .ok (.iload 4, 2) := by decide +kernel
theorem dX12_addsPart_56 : decode cX12_addsPart 56 = .ok (.iastore, 1) := by decide +kernel
theorem dX12_addsPart_57 : decode cX12_addsPart 57 = .ok (.aload_n 0, 1) := by decide +kernel
theorem dX12_addsPart_58 : decode cX12_addsPart 58 = .ok (.getfield 9, 3) := by decide +kernel
theorem dX12_addsPart_61 : decode cX12_addsPart 61 = .ok (.iload 5, 2) := by decide +kernel
theorem dX12_addsPart_63 : decode cX12_addsPart 63 = .ok (.iconst 0, 1) := by decide +kernel
theorem dX12_addsPart_64 : decode cX12_addsPart 64 = .ok (.invokestatic 107, 3) := by decide +kernel
theorem dX12_addsPart_67 : decode cX12_addsPart 67 = .ok (.aload_n 0, 1) := by decide +kernel
theorem dX12_addsPart_68 : decode cX12_addsPart 68 = .ok (.getfield 9, 3) := by decide +kernel
theorem dX12_addsPart_71 : decode cX12_addsPart 71 = .ok (.iconst 0, 1) := by decide +kernel
theorem dX12_addsPart_72 : decode cX12_addsPart 72 = .ok (.dup2, 1) := by decide +kernel
theorem dX12_addsPart_73 : decode cX12_addsPart 73 = .ok (.iaload, 1) := by decide +kernel
theorem dX12_addsPart_74 : decode cX12_addsPart 74 = .ok (.iconst 1, 1) := by decide +kernel
theorem dX12_addsPart_75 : decode cX12_addsPart 75 = .ok (.iadd, 1) := by decide +kernel
theorem dX12_addsPart_76 : decode cX12_addsPart 76 = .ok (.iastore, 1) := by decide +kernel
theorem dX12_addsPart_77 : decode cX12_addsPart 77 = .ok (.return_, 1) := by decide +kernel
theorem dX12_isDone_0 : decode cX12_isDone 0 = .ok (.aload_n 0, 1) := by decide +kernel
theorem dX12_isDone_1 : decode cX12_isDone 1 = .ok (.getfield 22, 3) := by decide +kernel
theorem dX12_isDone_4 : decode cX12_isDone 4 = .ok (.iconst 0, 1) := by decide +kernel
theorem dX12_isDone_5 : decode cX12_isDone 5 = .ok (.iaload, 1) := by decide +kernel
theorem dX12_isDone_6 : decode cX12_isDone 6 = .ok (.istore_n 2, 1) := by decide +kernel
theorem dX12_isDone_7 : decode cX12_isDone 7 = .ok (.iload_n 1, 1) := by decide +kernel
theorem dX12_isDone_8 : decode cX12_isDone 8 = .ok (.tableswitch 311 99 119 #[174, 311, 311, 311, 311, 220, 311, 311, 311, 183, 311, 311, 251, 100, 311, 201, 165, 290, 311, 311, 220], 100) := by decide +kernel
theorem dX12_isDone_108 : decode cX12_isDone 108 = .ok (.iload_n 2, 1) := by decide +kernel
theorem dX12_isDone_109 : decode cX12_isDone 109 = .ok (.bipush 8, 2) := by decide +kernel
theorem dX12_isDone_111 : decode cX12_isDone 111 = .ok (.if_icmp .ge 35, 3) := by decide +kernel
theorem dX12_isDone_114 : decode cX12_isDone 114 = .ok (.aload_n 0, 1) := by decide +kernel
theorem dX12_isDone_115 : decode cX12_isDone 115 = .ok (.getfield 22, 3) := by decide +kernel
theorem dX12_isDone_118 : decode cX12_isDone 118 = .ok (.iconst 2, 1) := by decide +kernel
theorem dX12_isDone_119 : decode cX12_isDone 119 = .ok (.iaload, 1) := by decide +kernel
theorem dX12_isDone_120 : decode cX12_isDone 120 = .ok (.invokestatic 111, 3) := by decide +kernel
theorem dX12_isDone_123 : decode cX12_isDone 123 = .ok (.ifCond .eq 23, 3) := by decide +kernel
theorem dX12_isDone_126 : decode cX12_isDone 126 = .ok (.aload_n 0, 1) := by decide +kernel
theorem dX12_isDone_127 : decode cX12_isDone 127 = .ok (.getfield 22, 3) := by decide +kernel
theorem dX12_isDone_130 : decode cX12_isDone 130 = .ok (.iconst 3, 1) := by decide +kernel
theorem dX12_isDone_131 : decode cX12_isDone 131 = .ok (.iaload, 1) := by decide +kernel
theorem dX12_isDone_132 : decode cX12_isDone 132 = .ok (.ifCond .eq 14, 3) := by decide +kernel
theorem dX12_isDone_135 : decode cX12_isDone 135 = .ok (.aload_n 0, 1) := by decide +kernel
theorem dX12_isDone_136 : decode cX12_isDone 136 = .ok (.getfield 9, 3) := by decide +kernel
theorem dX12_isDone_139 : decode cX12_isDone 139 = .ok (.iconst 0, 1) := by decide +kernel
theorem dX12_isDone_140 : decode cX12_isDone 140 = .ok (.iaload, 1) := by decide +kernel
theorem dX12_isDone_141 : decode cX12_isDone 141 = .ok (.bipush 7, 2) := by decide +kernel
theorem dX12_isDone_143 : decode cX12_isDone 143 = .ok (.if_icmp .ne 5, 3) := by decide +kernel
theorem dX12_isDone_146 : decode cX12_isDone 146 = .ok (.iconst 0, 1) := by decide +kernel
theorem dX12_isDone_147 : decode cX12_isDone 147 = .ok (.ireturn, 1) := by decide +kernel
theorem dX12_isDone_148 : decode cX12_isDone 148 = .ok (.aload_n 0, 1) := by decide +kernel
theorem dX12_isDone_149 : decode cX12_isDone 149 = .ok (.iload_n 2, 1) := by decide +kernel
theorem dX12_isDone_150 : decode cX12_isDone 150 = .ok (.aload_n 0, 1) := by decide +kernel
theorem dX12_isDone_151 : decode cX12_isDone 151 = .ok (.getfield 22, 3) := by decide +kernel
theorem dX12_isDone_154 : decode cX12_isDone 154 = .ok (.iconst 1, 1) := by decide +kernel
theorem dX12_isDone_155 : decode cX12_isDone 155 = .ok (.iaload, 1) := by decide +kernel
theorem dX12_isDone_156 : decode cX12_isDone 156 = .ok (.aload_n 0, 1) := by decide +kernel
theorem dX12_isDone_157 : decode cX12_isDone 157 = .ok (.getfield 22, 3) := by decide +kernel
theorem dX12_isDone_160 : decode cX12_isDone 160 = .ok (.iconst 2, 1) := by decide +kernel
theorem dX12_isDone_161 : decode cX12_isDone 161 = .ok (.iaload, 1) := by decide +kernel
theorem dX12_isDone_162 : decode cX12_isDone 162 = .ok (.aload_n 0, 1) := by decide +kernel
theorem dX12_isDone_163 : decode cX12_isDone 163 = .ok (.getfield 22, 3) := by decide +kernel
theorem dX12_isDone_166 : decode cX12_isDone 166 = .ok (.iconst 3, 1) := by decide +kernel
theorem dX12_isDone_167 : decode cX12_isDone 167 = .ok (.iaload, 1) := by decide +kernel
theorem dX12_isDone_168 : decode cX12_isDone 168 = .ok (.invokevirtual 114, 3) := by decide +kernel
theorem dX12_isDone_171 : decode cX12_isDone 171 = .ok (.iconst 1, 1) := by decide +kernel
theorem dX12_isDone_172 : decode cX12_isDone 172 = .ok (.ireturn, 1) := by decide +kernel
theorem dX12_isDone_173 : decode cX12_isDone 173 = .ok (.aload_n 0, 1) := by decide +kernel
theorem dX12_isDone_174 : decode cX12_isDone 174 = .ok (.getfield 9, 3) := by decide +kernel
theorem dX12_isDone_177 : decode cX12_isDone 177 = .ok (.iconst 2, 1) := by decide +kernel
theorem dX12_isDone_178 : decode cX12_isDone 178 = .ok (.iload_n 2, 1) := by decide +kernel
theorem dX12_isDone_179 : decode cX12_isDone 179 = .ok (.iastore, 1) := by decide +kernel
theorem dX12_isDone_180 : decode cX12_isDone 180 = .ok (.iconst 1, 1) := by decide +kernel
theorem dX12_isDone_181 : decode cX12_isDone 181 = .ok (.ireturn, 1) := by decide +kernel
theorem dX12_isDone_182 : decode cX12_isDone 182 = .ok (.aload_n 0, 1) := by decide +kernel
theorem dX12_isDone_183 : decode cX12_isDone 183 = .ok (.getfield 9, 3) := by decide +kernel
theorem dX12_isDone_186 : decode cX12_isDone 186 = .ok (.iconst 3, 1) := by decide +kernel
theorem dX12_isDone_187 : decode cX12_isDone 187 = .ok (.iload_n 2, 1) := by decide +kernel
theorem dX12_isDone_188 : decode cX12_isDone 188 = .ok (.iastore, 1) := by decide +kernel
theorem dX12_isDone_189 : decode cX12_isDone 189 = .ok (.iconst 1, 1) := by decide +kernel
theorem dX12_isDone_190 : decode cX12_isDone 190 = .ok (.ireturn, 1) := by decide +kernel
theorem dX12_isDone_191 : decode cX12_isDone 191 = .ok (.aload_n 0, 1) := by decide +kernel
theorem dX12_isDone_192 : decode cX12_isDone 192 = .ok (.getfield 9, 3) := by decide +kernel
theorem dX12_isDone_195 : decode cX12_isDone 195 = .ok (.iconst 4, 1) := by decide +kernel
theorem dX12_isDone_196 : decode cX12_isDone 196 = .ok (.iload_n 2, 1) := by decide +kernel
theorem dX12_isDone_197 : decode cX12_isDone 197 = .ok (.iastore, 1) := by decide +kernel
theorem dX12_isDone_198 : decode cX12_isDone 198 = .ok (.iload_n 2, 1) := by decide +kernel
theorem dX12_isDone_199 : decode cX12_isDone 199 = .ok (.iconst 5, 1) := by decide +kernel
theorem dX12_isDone_200 : decode cX12_isDone 200 = .ok (.if_icmp .gt 7, 3) := by decide +kernel
theorem dX12_isDone_203 : decode cX12_isDone 203 = .ok (.iconst 1, 1) := by decide +kernel
theorem dX12_isDone_204 : decode cX12_isDone 204 = .ok (.goto 4, 3) := by decide +kernel
theorem dX12_isDone_207 : decode cX12_isDone 207 = .ok (.iconst 0, 1) := by decide +kernel
theorem dX12_isDone_208 : decode cX12_isDone 208 = .ok (.ireturn, 1) := by decide +kernel
theorem dX12_isDone_209 : decode cX12_isDone 209 = .ok (.aload_n 0, 1) := by decide +kernel
theorem dX12_isDone_210 : decode cX12_isDone 210 = .ok (.getfield 9, 3) := by decide +kernel
theorem dX12_isDone_213 : decode cX12_isDone 213 = .ok (.iconst 5, 1) := by decide +kernel
theorem dX12_isDone_214 : decode cX12_isDone 214 = .ok (.iload_n 2, 1) := by decide +kernel
theorem dX12_isDone_215 : decode cX12_isDone 215 = .ok (.iastore, 1) := by decide +kernel
theorem dX12_isDone_216 : decode cX12_isDone 216 = .ok (.iload_n 2, 1) := by decide +kernel
theorem dX12_isDone_217 : decode cX12_isDone 217 = .ok (.bipush 40, 2) := by decide +kernel
theorem dX12_isDone_219 : decode cX12_isDone 219 = .ok (.if_icmp .gt 7, 3) := by decide +kernel
theorem dX12_isDone_222 : decode cX12_isDone 222 = .ok (.iconst 1, 1) := by decide +kernel
theorem dX12_isDone_223 : decode cX12_isDone 223 = .ok (.goto 4, 3) := by decide +kernel
theorem dX12_isDone_226 : decode cX12_isDone 226 = .ok (.iconst 0, 1) := by decide +kernel
theorem dX12_isDone_227 : decode cX12_isDone 227 = .ok (.ireturn, 1) := by decide +kernel
theorem dX12_isDone_228 : decode cX12_isDone 228 = .ok (.aload_n 0, 1) := by decide +kernel
theorem dX12_isDone_229 : decode cX12_isDone 229 = .ok (.iload_n 2, 1) := by decide +kernel
theorem dX12_isDone_230 : decode cX12_isDone 230 = .ok (.invokevirtual 118, 3) := by decide +kernel
theorem dX12_isDone_233 : decode cX12_isDone 233 = .ok (.ifCond .ne 5, 3) := by decide +kernel
theorem dX12_isDone_236 : decode cX12_isDone 236 = .ok (.iconst 0, 1) := by decide +kernel
theorem dX12_isDone_237 : decode cX12_isDone 237 = .ok (.ireturn, 1) := by decide +kernel
theorem dX12_isDone_238 : decode cX12_isDone 238 = .ok (.aload_n 0, 1) := by decide +kernel
theorem dX12_isDone_239 : decode cX12_isDone 239 = .ok (.getfield 9, 3) := by decide +kernel
theorem dX12_isDone_242 : decode cX12_isDone 242 = .ok (.iload_n 2, 1) := by decide +kernel
theorem dX12_isDone_243 : decode cX12_isDone 243 = .ok (.iload_n 1, 1) := by decide +kernel
theorem dX12_isDone_244 : decode cX12_isDone 244 = .ok (.bipush 104, 2) := by decide +kernel
theorem dX12_isDone_246 : decode cX12_isDone 246 = .ok (.if_icmp .ne 7, 3) := by decide +kernel
theorem dX12_isDone_249 : decode cX12_isDone 249 = .ok (.iconst 1, 1) := by decide +kernel
theorem dX12_isDone_250 : decode cX12_isDone 250 = .ok (.goto 4, 3) := by decide +kernel
theorem dX12_isDone_253 : decode cX12_isDone 253 = .ok (.iconst 2, 1) := by decide +kernel
theorem dX12_isDone_254 : decode cX12_isDone 254 = .ok (.invokestatic 107, 3) := by decide +kernel
theorem dX12_isDone_257 : decode cX12_isDone 257 = .ok (.iconst 1, 1) := by decide +kernel
theorem dX12_isDone_258 : decode cX12_isDone 258 = .ok (.ireturn, 1) := by decide +kernel
theorem dX12_isDone_259 : decode cX12_isDone 259 = .ok (.aload_n 0, 1) := by decide +kernel
theorem dX12_isDone_260 : decode cX12_isDone 260 = .ok (.iload_n 2, 1) := by decide +kernel
theorem dX12_isDone_261 : decode cX12_isDone 261 = .ok (.invokevirtual 103, 3) := by decide +kernel
theorem dX12_isDone_264 : decode cX12_isDone 264 = .ok (.ifCond .ne 5, 3) := by decide +kernel
theorem dX12_isDone_267 : decode cX12_isDone 267 = .ok (.iconst 0, 1) := by decide +kernel
theorem dX12_isDone_268 : decode cX12_isDone 268 = .ok (.ireturn, 1) := by decide +kernel
theorem dX12_isDone_269 : decode cX12_isDone 269 = .ok (.aload_n 0, 1) := by decide +kernel
theorem dX12_isDone_270 : decode cX12_isDone 270 = .ok (.getfield 9, 3) := by decide +kernel
theorem dX12_isDone_273 : decode cX12_isDone 273 = .ok (.iload_n 2, 1) := by decide +kernel
theorem dX12_isDone_274 : decode cX12_isDone 274 = .ok (.aload_n 0, 1) := by decide +kernel
theorem dX12_isDone_275 : decode cX12_isDone 275 = .ok (.getfield 9, 3) := by decide +kernel
theorem dX12_isDone_278 : decode cX12_isDone 278 = .ok (.iload_n 2, 1) := by decide +kernel
theorem dX12_isDone_279 : decode cX12_isDone 279 = .ok (.iconst 4, 1) := by decide +kernel
theorem dX12_isDone_280 : decode cX12_isDone 280 = .ok (.invokestatic 53, 3) := by decide +kernel
theorem dX12_isDone_283 : decode cX12_isDone 283 = .ok (.iaload, 1) := by decide +kernel
theorem dX12_isDone_284 : decode cX12_isDone 284 = .ok (.iconst 3, 1) := by decide +kernel
theorem dX12_isDone_285 : decode cX12_isDone 285 = .ok (.if_icmp .ne 7, 3) := by decide +kernel
theorem dX12_isDone_288 : decode cX12_isDone 288 = .ok (.iconst 0, 1) := by decide +kernel
theorem dX12_isDone_289 : decode cX12_isDone 289 = .ok (.goto 4, 3) := by decide +kernel
theorem dX12_isDone_292 : decode cX12_isDone 292 = .ok (.iconst 3, 1) := by decide +kernel
theorem dX12_isDone_293 : decode cX12_isDone 293 = .ok (.invokestatic 107, 3) := by decide +kernel
theorem dX12_isDone_296 : decode cX12_isDone 296 = .ok (.iconst 1, 1) := by decide +kernel
theorem dX12_isDone_297 : decode cX12_isDone 297 = .ok (.ireturn, 1) := by decide +kernel
theorem dX12_isDone_298 : decode cX12_isDone 298 = .ok (.aload_n 0, 1) := by decide +kernel
theorem dX12_isDone_299 : decode cX12_isDone 299 = .ok (.iload_n 2, 1) := by decide +kernel
theorem dX12_isDone_300 : decode cX12_isDone 300 = .ok (.invokevirtual 103, 3) := by decide +kernel
theorem dX12_isDone_303 : decode cX12_isDone 303 = .ok (.ifCond .ne 5, 3) := by decide +kernel
theorem dX12_isDone_306 : decode cX12_isDone 306 = .ok (.iconst 0, 1) := by decide +kernel
theorem dX12_isDone_307 : decode cX12_isDone 307 = .ok (.ireturn, 1) := by decide +kernel
theorem dX12_isDone_308 : decode cX12_isDone 308 = .ok (.aload_n 0, 1) := by decide +kernel
theorem dX12_isDone_309 : decode cX12_isDone 309 = .ok (.getfield 9, 3) := by decide +kernel
theorem dX12_isDone_312 : decode cX12_isDone 312 = .ok (.iload_n 2, 1) := by decide +kernel
theorem dX12_isDone_313 : decode cX12_isDone 313 = .ok (.invokestatic 121, 3) := by decide +kernel
theorem dX12_isDone_316 : decode cX12_isDone 316 = .ok (.istore_n 3, 1) := by decide +kernel
theorem dX12_isDone_317 : decode cX12_isDone 317 = .ok (.iconst 1, 1) := by decide +kernel
theorem dX12_isDone_318 : decode cX12_isDone 318 = .ok (.ireturn, 1) := by decide +kernel
theorem dX12_isDone_319 : decode cX12_isDone 319 = .ok (.iload_n 2, 1) := by decide +kernel
theorem dX12_isDone_320 : decode cX12_isDone 320 = .ok (.ifCond .eq 17, 3) := by decide +kernel
theorem dX12_isDone_323 : decode cX12_isDone 323 = .ok (.aload_n 0, 1) := by decide +kernel
theorem dX12_isDone_324 : decode cX12_isDone 324 = .ok (.getfield 9, 3) := by decide +kernel
theorem dX12_isDone_327 : decode cX12_isDone 327 = .ok (.iconst 1, 1) := by decide +kernel
theorem dX12_isDone_328 : decode cX12_isDone 328 = .ok (.iaload, 1) := by decide +kernel
theorem dX12_isDone_329 : decode cX12_isDone 329 = .ok (.iload_n 2, 1) := by decide +kernel
theorem dX12_isDone_330 : decode cX12_isDone 330 = .ok (.iadd, 1) := by decide +kernel
theorem dX12_isDone_331 : decode cX12_isDone 331 = .ok (.sipush 9999, 3) := by decide +kernel
theorem dX12_isDone_334 : decode cX12_isDone 334 = .ok (.if_icmp .le 5, 3) := by decide +kernel
theorem dX12_isDone_337 : decode cX12_isDone 337 = .ok (.iconst 0, 1) := by decide +kernel
theorem dX12_isDone_338 : decode cX12_isDone 338 = .ok (.ireturn, 1) := by decide +kernel
theorem dX12_isDone_339 : decode cX12_isDone 339 = .ok (.aload_n 0, 1) := by decide +kernel
theorem dX12_isDone_340 : decode cX12_isDone 340 = .ok (.getfield 9, 3) := by decide +kernel
theorem dX12_isDone_343 : decode cX12_isDone 343 = .ok (.invokestatic 124, 3) := by decide +kernel
theorem dX12_isDone_346 : decode cX12_isDone 346 = .ok (.istore_n 3, 1) := by decide +kernel
theorem dX12_isDone_347 : decode cX12_isDone 347 = .ok (.aload_n 0, 1) := by decide +kernel
theorem dX12_isDone_348 : decode cX12_isDone 348 = .ok (.getfield 9, 3) := by decide +kernel
theorem dX12_isDone_351 : decode cX12_isDone 351 = .ok (.iconst 1, 1) := by decide +kernel
theorem dX12_isDone_352 : decode cX12_isDone 352 = .ok (.dup2, 1) := by decide +kernel
theorem dX12_isDone_353 : decode cX12_isDone 353 = .ok (.iaload, 1) := by decide +kernel
theorem dX12_isDone_354 : decode cX12_isDone 354 = .ok (.iload_n 2, 1) := by decide +kernel
theorem dX12_isDone_355 : decode cX12_isDone 355 = .ok (.iadd, 1) := by decide +kernel
theorem dX12_isDone_356 : decode cX12_isDone 356 = .ok (.iastore, 1) := by decide +kernel
theorem dX12_isDone_357 : decode cX12_isDone 357 = .ok (.iconst 1, 1) := by decide +kernel
theorem dX12_isDone_358 : decode cX12_isDone 358 = .ok (.ireturn, 1) := by decide +kernel
theorem dX12_road_0 : decode cX12_road 0 = .ok (.aload_n 0, 1) := by decide +kernel
theorem dX12_road_1 : decode cX12_road 1 = .ok (.iload_n 1, 1) := by decide +kernel
theorem dX12_road_2 : decode cX12_road 2 = .ok (.iconst 0, 1) := by decide +kernel
theorem dX12_road_3 : decode cX12_road 3 = .ok (.invokevirtual 127, 3) := by decide +kernel
theorem dX12_road_6 : decode cX12_road 6 = .ok (.istore_n 2, 1) := by decide +kernel
theorem dX12_road_7 : decode cX12_road 7 = .ok (.iload_n 2, 1) := by decide +kernel
theorem dX12_road_8 : decode cX12_road 8 = .ok (.ifCond .eq 5, 3) := by decide +kernel
theorem dX12_road_11 : decode cX12_road 11 = .ok (.iload_n 2, 1) := by decide +kernel
theorem dX12_road_12 : decode cX12_road 12 = .ok (.ireturn, 1) := by decide +kernel
theorem dX12_road_13 : decode cX12_road 13 = .ok (.aload_n 0, 1) := by decide +kernel
theorem dX12_road_14 : decode cX12_road 14 = .ok (.bipush 100, 2) := by decide +kernel
theorem dX12_road_16 : decode cX12_road 16 = .ok (.iload_n 1, 1) := by decide +kernel
theorem dX12_road_17 : decode cX12_road 17 = .ok (.imul, 1) := by decide +kernel
theorem dX12_road_18 : decode cX12_road 18 = .ok (.putfield 92, 3) := by decide +kernel
theorem dX12_road_21 : decode cX12_road 21 = .ok (.aload_n 0, 1) := by decide +kernel
theorem dX12_road_22 : decode cX12_road 22 = .ok (.aload_n 0, 1) := by decide +kernel
theorem dX12_road_23 : decode cX12_road 23 = .ok (.getfield 43, 3) := by decide +kernel
theorem dX12_road_26 : decode cX12_road 26 = .ok (.iload_n 1, 1) := by decide +kernel
theorem dX12_road_27 : decode cX12_road 27 = .ok (.iaload, 1) := by decide +kernel
theorem dX12_road_28 : decode cX12_road 28 = .ok (.putfield 89, 3) := by decide +kernel
theorem dX12_road_31 : decode cX12_road 31 = .ok (.aload_n 0, 1) := by decide +kernel
theorem dX12_road_32 : decode cX12_road 32 = .ok (.iconst 0, 1) := by decide +kernel
theorem dX12_road_33 : decode cX12_road 33 = .ok (.putfield 85, 3) := by decide +kernel
theorem dX12_road_36 : decode cX12_road 36 = .ok (.iconst 0, 1) := by decide +kernel
theorem dX12_road_37 : decode cX12_road 37 = .ok (.istore_n 3, 1) := by decide +kernel
theorem dX12_road_38 : decode cX12_road 38 = .ok (.iconst 0, 1) := by decide +kernel
theorem dX12_road_39 : decode cX12_road 39 = .ok (.istore 4, 2) := by decide +kernel
theorem dX12_road_41 : decode cX12_road 41 = .ok (.aload_n 0, 1) := by decide +kernel
theorem dX12_road_42 : decode cX12_road 42 = .ok (.invokevirtual 130, 3) := by decide +kernel
theorem dX12_road_45 : decode cX12_road 45 = .ok (.ifCond .ne 13, 3) := by decide +kernel
theorem dX12_road_48 : decode cX12_road 48 = .ok (.sipush (-1000), 3) := by decide +kernel
theorem dX12_road_51 : decode cX12_road 51 = .ok (.aload_n 0, 1) := by decide +kernel
theorem dX12_road_52 : decode cX12_road 52 = .ok (.getfield 85, 3) := by decide +kernel
theorem dX12_road_55 : decode cX12_road 55 = .ok (.isub, 1) := by decide +kernel
theorem dX12_road_56 : decode cX12_road 56 = .ok (.istore 4, 2) := by decide +kernel
theorem dX12_road_58 : decode cX12_road 58 = .ok (.iinc 3 1, 3) := by decide +kernel
theorem dX12_road_61 : decode cX12_road 61 = .ok (.iload 4, 2) := by decide +kernel
theorem dX12_road_63 : decode cX12_road 63 = .ok (.ifCond .ne 14, 3) := by decide +kernel
theorem dX12_road_66 : decode cX12_road 66 = .ok (.aload_n 0, 1) := by decide +kernel
theorem dX12_road_67 : decode cX12_road 67 = .ok (.getfield 85, 3) := by decide +kernel
theorem dX12_road_70 : decode cX12_road 70 = .ok (.aload_n 0, 1) := by decide +kernel
theorem dX12_road_71 : decode cX12_road 71 = .ok (.getfield 89, 3) := by decide +kernel
theorem dX12_road_74 : decode cX12_road 74 = .ok (.if_icmp .lt (-33), 3) := by decide +kernel
theorem dX12_road_77 : decode cX12_road 77 = .ok (.aload_n 0, 1) := by decide +kernel
theorem dX12_road_78 : decode cX12_road 78 = .ok (.getfield 9, 3) := by decide +kernel
theorem dX12_road_81 : decode cX12_road 81 = .ok (.aload_n 0, 1) := by decide +kernel
theorem dX12_road_82 : decode cX12_road 82 = .ok (.getfield 19, 3) := by decide +kernel
theorem dX12_road_85 : decode cX12_road 85 = .ok (.invokestatic 134, 3) := by decide +kernel
theorem dX12_road_88 : decode cX12_road 88 = .ok (.aload_n 0, 1) := by decide +kernel
theorem dX12_road_89 : decode cX12_road 89 = .ok (.iconst 0, 1) := by decide +kernel
theorem dX12_road_90 : decode cX12_road 90 = .ok (.putfield 85, 3) := by decide +kernel
theorem dX12_road_93 : decode cX12_road 93 = .ok (.iload 4, 2) := by decide +kernel
theorem dX12_road_95 : decode cX12_road 95 = .ok (.ifCond .ne 66, 3) := by decide +kernel
theorem dX12_road_98 : decode cX12_road 98 = .ok (.aload_n 0, 1) := by decide +kernel
theorem dX12_road_99 : decode cX12_road 99 = .ok (.getfield 85, 3) := by decide +kernel
theorem dX12_road_102 : decode cX12_road 102 = .ok (.aload_n 0, 1) := by decide +kernel
theorem dX12_road_103 : decode cX12_road 103 = .ok (.getfield 89, 3) := by decide +kernel
theorem dX12_road_106 : decode cX12_road 106 = .ok (.if_icmp .ge 55, 3) := by decide +kernel
theorem dX12_road_109 : decode cX12_road 109 = .ok (.aload_n 0, 1) := by decide +kernel
theorem dX12_road_110 : decode cX12_road 110 = .ok (.getfield 85, 3) := by decide +kernel
theorem dX12_road_113 : decode cX12_road 113 = .ok (.istore 5, 2) := by decide +kernel
theorem dX12_road_115 : decode cX12_road 115 = .ok (.aload_n 0, 1) := by decide +kernel
theorem dX12_road_116 : decode cX12_road 116 = .ok (.invokevirtual 95, 3) := by decide +kernel
theorem dX12_road_119 : decode cX12_road 119 = .ok (.istore 6, 2) := by decide +kernel
theorem dX12_road_121 : decode cX12_road 121 = .ok (.aload_n 0, 1) := by decide +kernel
theorem dX12_road_122 : decode cX12_road 122 = .ok (.invokevirtual 130, 3) := by decide +kernel
theorem dX12_road_125 : decode cX12_road 125 = .ok (.istore 7, 2) := by decide +kernel
theorem dX12_road_127 : decode cX12_road 127 = .ok (.aload_n 0, 1) := by decide +kernel
theorem dX12_road_128 : decode cX12_road 128 = .ok (.iload 6, 2) := by decide +kernel
theorem dX12_road_130 : decode cX12_road 130 = .ok (.invokevirtual 138, 3) := by decide +kernel
theorem dX12_road_133 : decode cX12_road 133 = .ok (.ifCond .eq 6, 3) := by decide +kernel
theorem dX12_road_136 : decode cX12_road 136 = .ok (.goto (-43), 3) := by decide +kernel
theorem dX12_road_139 : decode cX12_road 139 = .ok (.sipush (-2000), 3) := by decide +kernel
theorem dX12_road_142 : decode cX12_road 142 = .ok (.iload 5, 2) := by decide +kernel
theorem dX12_road_144 : decode cX12_road 144 = .ok (.isub, 1) := by decide +kernel
theorem dX12_road_145 : decode cX12_road 145 = .ok (.istore 4, 2) := by decide +kernel
theorem dX12_road_147 : decode cX12_road 147 = .ok (.aload_n 0, 1) := by decide +kernel
theorem dX12_road_148 : decode cX12_road 148 = .ok (.getfield 19, 3) := by decide +kernel
theorem dX12_road_151 : decode cX12_road 151 = .ok (.aload_n 0, 1) := by decide +kernel
theorem dX12_road_152 : decode cX12_road 152 = .ok (.getfield 9, 3) := by decide +kernel
theorem dX12_road_155 : decode cX12_road 155 = .ok (.invokestatic 134, 3) := by decide +kernel
theorem dX12_road_158 : decode cX12_road 158 = .ok (.goto (-65), 3) := by decide +kernel
theorem dX12_road_161 : decode cX12_road 161 = .ok (.iload 4, 2) := by decide +kernel
theorem dX12_road_163 : decode cX12_road 163 = .ok (.ifCond .ne 7, 3) := by decide +kernel
theorem dX12_road_166 : decode cX12_road 166 = .ok (.iload_n 3, 1) := by decide +kernel
theorem dX12_road_167 : decode cX12_road 167 = .ok (.goto 5, 3) := by decide +kernel
theorem dX12_road_170 : decode cX12_road 170 = .ok (.iload 4, 2) := by decide +kernel
theorem dX12_road_172 : decode cX12_road 172 = .ok (.ireturn, 1) := by decide +kernel
theorem dX12_part_0 : decode cX12_part 0 = .ok (.aload_n 0, 1) := by decide +kernel
theorem dX12_part_1 : decode cX12_part 1 = .ok (.iload_n 1, 1) := by decide +kernel
theorem dX12_part_2 : decode cX12_part 2 = .ok (.invokevirtual 103, 3) := by decide +kernel
theorem dX12_part_5 : decode cX12_part 5 = .ok (.ifCond .eq 13, 3) := by decide +kernel
theorem dX12_part_8 : decode cX12_part 8 = .ok (.iload_n 2, 1) := by decide +kernel
theorem dX12_part_9 : decode cX12_part 9 = .ok (.iconst 0, 1) := by decide +kernel
theorem dX12_part_10 : decode cX12_part 10 = .ok (.bipush 7, 2) := by decide +kernel
theorem dX12_part_12 : decode cX12_part 12 = .ok (.invokestatic 49, 3) := by decide +kernel
theorem dX12_part_15 : decode cX12_part 15 = .ok (.ifCond .ne 5, 3) := by decide +kernel
theorem dX12_part_18 : decode cX12_part 18 = .ok (.iconst (-1), 1) := by decide +kernel
theorem dX12_part_19 : decode cX12_part 19 = .ok (.ireturn, 1) := by decide +kernel
theorem dX12_part_20 : decode cX12_part 20 = .ok (.iload_n 2, 1) := by decide +kernel
theorem dX12_part_21 : decode cX12_part 21 = .ok (.iconst 5, 1) := by decide +kernel
theorem dX12_part_22 : decode cX12_part 22 = .ok (.if_icmp .ge 16, 3) := by decide +kernel
theorem dX12_part_25 : decode cX12_part 25 = .ok (.aload_n 0, 1) := by decide +kernel
theorem dX12_part_26 : decode cX12_part 26 = .ok (.getfield 9, 3) := by decide +kernel
theorem dX12_part_29 : decode cX12_part 29 = .ok (.iload_n 1, 1) := by decide +kernel
theorem dX12_part_30 : decode cX12_part 30 = .ok (.iload_n 2, 1) := by decide +kernel
theorem dX12_part_31 : decode cX12_part 31 = .ok (.invokestatic 53, 3) := by decide +kernel
theorem dX12_part_34 : decode cX12_part 34 = .ok (.iaload, 1) := by decide +kernel
theorem dX12_part_35 : decode cX12_part 35 = .ok (.goto 50, 3) := by decide +kernel
theorem dX12_part_38 : decode cX12_part 38 = .ok (.iload_n 2, 1) := by decide +kernel
theorem dX12_part_39 : decode cX12_part 39 = .ok (.iconst 5, 1) := by decide +kernel
theorem dX12_part_40 : decode cX12_part 40 = .ok (.if_icmp .ne 20, 3) := by decide +kernel
theorem dX12_part_43 : decode cX12_part 43 = .ok (.aload_n 0, 1) := by decide +kernel
theorem dX12_part_44 : decode cX12_part 44 = .ok (.getfield 9, 3) := by decide +kernel
theorem dX12_part_47 : decode cX12_part 47 = .ok (.iload_n 1, 1) := by decide +kernel
theorem dX12_part_48 : decode cX12_part 48 = .ok (.aload_n 0, 1) := by decide +kernel
theorem dX12_part_49 : decode cX12_part 49 = .ok (.getfield 9, 3) := by decide +kernel
theorem dX12_part_52 : decode cX12_part 52 = .ok (.iconst 2, 1) := by decide +kernel
theorem dX12_part_53 : decode cX12_part 53 = .ok (.iaload, 1) := by decide +kernel
theorem dX12_part_54 : decode cX12_part 54 = .ok (.invokestatic 60, 3) := by decide +kernel
theorem dX12_part_57 : decode cX12_part 57 = .ok (.goto 28, 3) := by decide +kernel
theorem dX12_part_60 : decode cX12_part 60 = .ok (.iload_n 2, 1) := by decide +kernel
theorem dX12_part_61 : decode cX12_part 61 = .ok (.bipush 6, 2) := by decide +kernel
theorem dX12_part_63 : decode cX12_part 63 = .ok (.if_icmp .ne 14, 3) := by decide +kernel
theorem dX12_part_66 : decode cX12_part 66 = .ok (.aload_n 0, 1) := by decide +kernel
theorem dX12_part_67 : decode cX12_part 67 = .ok (.getfield 9, 3) := by decide +kernel
theorem dX12_part_70 : decode cX12_part 70 = .ok (.iload_n 1, 1) := by decide +kernel
theorem dX12_part_71 : decode cX12_part 71 = .ok (.invokestatic 141, 3) := by decide +kernel
theorem dX12_part_74 : decode cX12_part 74 = .ok (.goto 11, 3) := by decide +kernel
theorem dX12_part_77 : decode cX12_part 77 = .ok (.aload_n 0, 1) := by decide +kernel
theorem dX12_part_78 : decode cX12_part 78 = .ok (.getfield 9, 3) := by decide +kernel
theorem dX12_part_81 : decode cX12_part 81 = .ok (.iload_n 1, 1) := by decide +kernel
theorem dX12_part_82 : decode cX12_part 82 = .ok (.invokestatic 81, 3) := by decide +kernel
theorem dX12_part_85 : decode cX12_part 85 = .ok (.ireturn, 1) := by decide +kernel
theorem dX12_adds_0 : decode cX12_adds 0 = .ok (.iload_n 1, 1) := by decide +kernel
theorem dX12_adds_1 : decode cX12_adds 1 = .ok (.invokestatic 144, 3) := by decide +kernel
theorem dX12_adds_4 : decode cX12_adds 4 = .ok (.ifCond .eq 20, 3) := by decide +kernel
theorem dX12_adds_7 : decode cX12_adds 7 = .ok (.iload_n 2, 1) := by decide +kernel
theorem dX12_adds_8 : decode cX12_adds 8 = .ok (.invokestatic 111, 3) := by decide +kernel
theorem dX12_adds_11 : decode cX12_adds 11 = .ok (.ifCond .eq 13, 3) := by decide +kernel
theorem dX12_adds_14 : decode cX12_adds 14 = .ok (.iload_n 3, 1) := by decide +kernel
theorem dX12_adds_15 : decode cX12_adds 15 = .ok (.iconst 1, 1) := by decide +kernel
theorem dX12_adds_16 : decode cX12_adds 16 = .ok (.bipush 9, 2) := by decide +kernel
theorem dX12_adds_18 : decode cX12_adds 18 = .ok (.invokestatic 49, 3) := by decide +kernel
theorem dX12_adds_21 : decode cX12_adds 21 = .ok (.ifCond .ne 5, 3) := by decide +kernel
theorem dX12_adds_24 : decode cX12_adds 24 = .ok (.iconst (-1), 1) := by decide +kernel
theorem dX12_adds_25 : decode cX12_adds 25 = .ok (.ireturn, 1) := by decide +kernel
theorem dX12_adds_26 : decode cX12_adds 26 = .ok (.aload_n 0, 1) := by decide +kernel
theorem dX12_adds_27 : decode cX12_adds 27 = .ok (.iload_n 1, 1) := by decide +kernel
theorem dX12_adds_28 : decode cX12_adds 28 = .ok (.invokevirtual 147, 3) := by decide +kernel
theorem dX12_adds_31 : decode cX12_adds 31 = .ok (.istore 4, 2) := by decide +kernel
theorem dX12_adds_33 : decode cX12_adds 33 = .ok (.iload 4, 2) := by decide +kernel
theorem dX12_adds_35 : decode cX12_adds 35 = .ok (.ifCond .eq 6, 3) := by decide +kernel
theorem dX12_adds_38 : decode cX12_adds 38 = .ok (.iload 4, 2) := by decide +kernel
theorem dX12_adds_40 : decode cX12_adds 40 = .ok (.ireturn, 1) := by decide +kernel
theorem dX12_adds_41 : decode cX12_adds 41 = .ok (.aload_n 0, 1) := by decide +kernel
theorem dX12_adds_42 : decode cX12_adds 42 = .ok (.getfield 9, 3) := by decide +kernel
theorem dX12_adds_45 : decode cX12_adds 45 = .ok (.iconst 0, 1) := by decide +kernel
theorem dX12_adds_46 : decode cX12_adds 46 = .ok (.iaload, 1) := by decide +kernel
theorem dX12_adds_47 : decode cX12_adds 47 = .ok (.bipush 7, 2) := by decide +kernel
theorem dX12_adds_49 : decode cX12_adds 49 = .ok (.if_icmp .ne 6, 3) := by decide +kernel
theorem dX12_adds_52 : decode cX12_adds 52 = .ok (.bipush (-2), 2) := by decide +kernel
theorem dX12_adds_54 : decode cX12_adds 54 = .ok (.ireturn, 1) := by decide +kernel
theorem dX12_adds_55 : decode cX12_adds 55 = .ok (.aload_n 0, 1) := by decide +kernel
theorem dX12_adds_56 : decode cX12_adds 56 = .ok (.aload_n 0, 1) := by decide +kernel
theorem dX12_adds_57 : decode cX12_adds 57 = .ok (.getfield 34, 3) := by decide +kernel
theorem dX12_adds_60 : decode cX12_adds 60 = .ok (.iload_n 1, 1) := by decide +kernel
theorem dX12_adds_61 : decode cX12_adds 61 = .ok (.iaload, 1) := by decide +kernel
theorem dX12_adds_62 : decode cX12_adds 62 = .ok (.aload_n 0, 1) := by decide +kernel
theorem dX12_adds_63 : decode cX12_adds 63 = .ok (.getfield 37, 3) := by decide +kernel
theorem dX12_adds_66 : decode cX12_adds 66 = .ok (.iload_n 1, 1) := by decide +kernel
theorem dX12_adds_67 : decode cX12_adds 67 = .ok (.iaload, 1) := by decide +kernel
theorem dX12_adds_68 : decode cX12_adds 68 = .ok (.iload_n 2, 1) := by decide +kernel
theorem dX12_adds_69 : decode cX12_adds 69 = .ok (.iload_n 3, 1) := by decide +kernel
theorem dX12_adds_70 : decode cX12_adds 70 = .ok (.invokevirtual 114, 3) := by decide +kernel
theorem dX12_adds_73 : decode cX12_adds 73 = .ok (.aload_n 0, 1) := by decide +kernel
theorem dX12_adds_74 : decode cX12_adds 74 = .ok (.getfield 9, 3) := by decide +kernel
theorem dX12_adds_77 : decode cX12_adds 77 = .ok (.iconst 0, 1) := by decide +kernel
theorem dX12_adds_78 : decode cX12_adds 78 = .ok (.iaload, 1) := by decide +kernel
theorem dX12_adds_79 : decode cX12_adds 79 = .ok (.iconst 1, 1) := by decide +kernel
theorem dX12_adds_80 : decode cX12_adds 80 = .ok (.isub, 1) := by decide +kernel
theorem dX12_adds_81 : decode cX12_adds 81 = .ok (.ireturn, 1) := by decide +kernel
theorem dX12_holds_0 : decode cX12_holds 0 = .ok (.aload_n 0, 1) := by decide +kernel
theorem dX12_holds_1 : decode cX12_holds 1 = .ok (.iload_n 1, 1) := by decide +kernel
theorem dX12_holds_2 : decode cX12_holds 2 = .ok (.invokevirtual 103, 3) := by decide +kernel
theorem dX12_holds_5 : decode cX12_holds 5 = .ok (.ifCond .ne 5, 3) := by decide +kernel
theorem dX12_holds_8 : decode cX12_holds 8 = .ok (.iconst (-1), 1) := by decide +kernel
theorem dX12_holds_9 : decode cX12_holds 9 = .ok (.ireturn, 1) := by decide +kernel
theorem dX12_holds_10 : decode cX12_holds 10 = .ok (.aload_n 0, 1) := by decide +kernel
theorem dX12_holds_11 : decode cX12_holds 11 = .ok (.iload_n 1, 1) := by decide +kernel
theorem dX12_holds_12 : decode cX12_holds 12 = .ok (.invokevirtual 118, 3) := by decide +kernel
theorem dX12_holds_15 : decode cX12_holds 15 = .ok (.ifCond .ne 6, 3) := by decide +kernel
theorem dX12_holds_18 : decode cX12_holds 18 = .ok (.bipush (-3), 2) := by decide +kernel
theorem dX12_holds_20 : decode cX12_holds 20 = .ok (.ireturn, 1) := by decide +kernel
theorem dX12_holds_21 : decode cX12_holds 21 = .ok (.aload_n 0, 1) := by decide +kernel
theorem dX12_holds_22 : decode cX12_holds 22 = .ok (.getfield 9, 3) := by decide +kernel
theorem dX12_holds_25 : decode cX12_holds 25 = .ok (.iload_n 1, 1) := by decide +kernel
theorem dX12_holds_26 : decode cX12_holds 26 = .ok (.iconst 1, 1) := by decide +kernel
theorem dX12_holds_27 : decode cX12_holds 27 = .ok (.invokestatic 107, 3) := by decide +kernel
theorem dX12_holds_30 : decode cX12_holds 30 = .ok (.aload_n 0, 1) := by decide +kernel
theorem dX12_holds_31 : decode cX12_holds 31 = .ok (.getfield 9, 3) := by decide +kernel
theorem dX12_holds_34 : decode cX12_holds 34 = .ok (.iload_n 1, 1) := by decide +kernel
theorem dX12_holds_35 : decode cX12_holds 35 = .ok (.invokestatic 141, 3) := by decide +kernel
theorem dX12_holds_38 : decode cX12_holds 38 = .ok (.ireturn, 1) := by decide +kernel
theorem dX12_wedges_0 : decode cX12_wedges 0 = .ok (.aload_n 0, 1) := by decide +kernel
theorem dX12_wedges_1 : decode cX12_wedges 1 = .ok (.iload_n 1, 1) := by decide +kernel
theorem dX12_wedges_2 : decode cX12_wedges 2 = .ok (.invokevirtual 103, 3) := by decide +kernel
theorem dX12_wedges_5 : decode cX12_wedges 5 = .ok (.ifCond .ne 5, 3) := by decide +kernel
theorem dX12_wedges_8 : decode cX12_wedges 8 = .ok (.iconst (-1), 1) := by decide +kernel
theorem dX12_wedges_9 : decode cX12_wedges 9 = .ok (.ireturn, 1) := by decide +kernel
theorem dX12_wedges_10 : decode cX12_wedges 10 = .ok (.aload_n 0, 1) := by decide +kernel
theorem dX12_wedges_11 : decode cX12_wedges 11 = .ok (.iload_n 1, 1) := by decide +kernel
theorem dX12_wedges_12 : decode cX12_wedges 12 = .ok (.invokevirtual 118, 3) := by decide +kernel
theorem dX12_wedges_15 : decode cX12_wedges 15 = .ok (.ifCond .ne 6, 3) := by decide +kernel
theorem dX12_wedges_18 : decode cX12_wedges 18 = .ok (.bipush (-3), 2) := by decide +kernel
theorem dX12_wedges_20 : decode cX12_wedges 20 = .ok (.ireturn, 1) := by decide +kernel
theorem dX12_wedges_21 : decode cX12_wedges 21 = .ok (.aload_n 0, 1) := by decide +kernel
theorem dX12_wedges_22 : decode cX12_wedges 22 = .ok (.getfield 9, 3) := by decide +kernel
theorem dX12_wedges_25 : decode cX12_wedges 25 = .ok (.iload_n 1, 1) := by decide +kernel
theorem dX12_wedges_26 : decode cX12_wedges 26 = .ok (.iconst 4, 1) := by decide +kernel
theorem dX12_wedges_27 : decode cX12_wedges 27 = .ok (.invokestatic 53, 3) := by decide +kernel
theorem dX12_wedges_30 : decode cX12_wedges 30 = .ok (.iaload, 1) := by decide +kernel
theorem dX12_wedges_31 : decode cX12_wedges 31 = .ok (.istore_n 2, 1) := by decide +kernel
theorem dX12_wedges_32 : decode cX12_wedges 32 = .ok (.aload_n 0, 1) := by decide +kernel
theorem dX12_wedges_33 : decode cX12_wedges 33 = .ok (.getfield 9, 3) := by decide +kernel
theorem dX12_wedges_36 : decode cX12_wedges 36 = .ok (.iload_n 1, 1) := by decide +kernel
theorem dX12_wedges_37 : decode cX12_wedges 37 = .ok (.iconst 2, 1) := by decide +kernel
theorem dX12_wedges_38 : decode cX12_wedges 38 = .ok (.invokestatic 107, 3) := by decide +kernel
theorem dX12_wedges_41 : decode cX12_wedges 41 = .ok (.iload_n 2, 1) := by decide +kernel
theorem dX12_wedges_42 : decode cX12_wedges 42 = .ok (.ireturn, 1) := by decide +kernel
theorem dX12_outs_0 : decode cX12_outs 0 = .ok (.aload_n 0, 1) := by decide +kernel
theorem dX12_outs_1 : decode cX12_outs 1 = .ok (.iload_n 1, 1) := by decide +kernel
theorem dX12_outs_2 : decode cX12_outs 2 = .ok (.invokevirtual 103, 3) := by decide +kernel
theorem dX12_outs_5 : decode cX12_outs 5 = .ok (.ifCond .ne 5, 3) := by decide +kernel
theorem dX12_outs_8 : decode cX12_outs 8 = .ok (.iconst (-1), 1) := by decide +kernel
theorem dX12_outs_9 : decode cX12_outs 9 = .ok (.ireturn, 1) := by decide +kernel
theorem dX12_outs_10 : decode cX12_outs 10 = .ok (.aload_n 0, 1) := by decide +kernel
theorem dX12_outs_11 : decode cX12_outs 11 = .ok (.getfield 9, 3) := by decide +kernel
theorem dX12_outs_14 : decode cX12_outs 14 = .ok (.iload_n 1, 1) := by decide +kernel
theorem dX12_outs_15 : decode cX12_outs 15 = .ok (.aload_n 0, 1) := by decide +kernel
theorem dX12_outs_16 : decode cX12_outs 16 = .ok (.getfield 9, 3) := by decide +kernel
theorem dX12_outs_19 : decode cX12_outs 19 = .ok (.iload_n 1, 1) := by decide +kernel
theorem dX12_outs_20 : decode cX12_outs 20 = .ok (.iconst 4, 1) := by decide +kernel
theorem dX12_outs_21 : decode cX12_outs 21 = .ok (.invokestatic 53, 3) := by decide +kernel
theorem dX12_outs_24 : decode cX12_outs 24 = .ok (.iaload, 1) := by decide +kernel
theorem dX12_outs_25 : decode cX12_outs 25 = .ok (.iconst 3, 1) := by decide +kernel
theorem dX12_outs_26 : decode cX12_outs 26 = .ok (.if_icmp .ne 7, 3) := by decide +kernel
theorem dX12_outs_29 : decode cX12_outs 29 = .ok (.iconst 0, 1) := by decide +kernel
theorem dX12_outs_30 : decode cX12_outs 30 = .ok (.goto 4, 3) := by decide +kernel
theorem dX12_outs_33 : decode cX12_outs 33 = .ok (.iconst 3, 1) := by decide +kernel
theorem dX12_outs_34 : decode cX12_outs 34 = .ok (.invokestatic 107, 3) := by decide +kernel
theorem dX12_outs_37 : decode cX12_outs 37 = .ok (.aload_n 0, 1) := by decide +kernel
theorem dX12_outs_38 : decode cX12_outs 38 = .ok (.getfield 9, 3) := by decide +kernel
theorem dX12_outs_41 : decode cX12_outs 41 = .ok (.iload_n 1, 1) := by decide +kernel
theorem dX12_outs_42 : decode cX12_outs 42 = .ok (.iconst 4, 1) := by decide +kernel
theorem dX12_outs_43 : decode cX12_outs 43 = .ok (.invokestatic 53, 3) := by decide +kernel
theorem dX12_outs_46 : decode cX12_outs 46 = .ok (.iaload, 1) := by decide +kernel
theorem dX12_outs_47 : decode cX12_outs 47 = .ok (.ireturn, 1) := by decide +kernel
theorem dX12_screws_0 : decode cX12_screws 0 = .ok (.aload_n 0, 1) := by decide +kernel
theorem dX12_screws_1 : decode cX12_screws 1 = .ok (.iload_n 1, 1) := by decide +kernel
theorem dX12_screws_2 : decode cX12_screws 2 = .ok (.invokevirtual 103, 3) := by decide +kernel
theorem dX12_screws_5 : decode cX12_screws 5 = .ok (.ifCond .eq 14, 3) := by decide +kernel
theorem dX12_screws_8 : decode cX12_screws 8 = .ok (.aload_n 0, 1) := by decide +kernel
theorem dX12_screws_9 : decode cX12_screws 9 = .ok (.getfield 9, 3) := by decide +kernel
theorem dX12_screws_12 : decode cX12_screws 12 = .ok (.iload_n 1, 1) := by decide +kernel
theorem dX12_screws_13 : decode cX12_screws 13 = .ok (.invokestatic 121, 3) := by decide +kernel
theorem dX12_screws_16 : decode cX12_screws 16 = .ok (.goto 4, 3) := by decide +kernel
theorem dX12_screws_19 : decode cX12_screws 19 = .ok (.iconst (-1), 1) := by decide +kernel
theorem dX12_screws_20 : decode cX12_screws 20 = .ok (.ireturn, 1) := by decide +kernel
theorem dX12_set_0 : decode cX12_set 0 = .ok (.iload_n 1, 1) := by decide +kernel
theorem dX12_set_1 : decode cX12_set 1 = .ok (.iconst 0, 1) := by decide +kernel
theorem dX12_set_2 : decode cX12_set 2 = .ok (.iconst 3, 1) := by decide +kernel
theorem dX12_set_3 : decode cX12_set 3 = .ok (.invokestatic 49, 3) := by decide +kernel
theorem dX12_set_6 : decode cX12_set 6 = .ok (.ifCond .eq 41, 3) := by decide +kernel
theorem dX12_set_9 : decode cX12_set 9 = .ok (.iload_n 2, 1) := by decide +kernel
theorem dX12_set_10 : decode cX12_set 10 = .ok (.iconst 0, 1) := by decide +kernel
theorem dX12_set_11 : decode cX12_set 11 = .ok (.iload_n 1, 1) := by decide +kernel
theorem dX12_set_12 : decode cX12_set 12 = .ok (.ifCond .ne 8, 3) := by decide +kernel
theorem dX12_set_15 : decode cX12_set 15 = .ok (.bipush 99, 2) := by decide +kernel
theorem dX12_set_17 : decode cX12_set 17 = .ok (.goto 24, 3) := by decide +kernel
theorem dX12_set_20 : decode cX12_set 20 = .ok (.iload_n 1, 1) := by decide +kernel
theorem dX12_set_21 : decode cX12_set 21 = .ok (.iconst 1, 1) := by decide +kernel
theorem dX12_set_22 : decode cX12_set 22 = .ok (.if_icmp .ne 8, 3) := by decide +kernel
theorem dX12_set_25 : decode cX12_set 25 = .ok (.bipush 9, 2) := by decide +kernel
theorem dX12_set_27 : decode cX12_set 27 = .ok (.goto 14, 3) := by decide +kernel
theorem dX12_set_30 : decode cX12_set 30 = .ok (.iload_n 1, 1) := by decide +kernel
theorem dX12_set_31 : decode cX12_set 31 = .ok (.iconst 2, 1) := by decide +kernel
theorem dX12_set_32 : decode cX12_set 32 = .ok (.if_icmp .ne 7, 3) := by decide +kernel
theorem dX12_set_35 : decode cX12_set 35 = .ok (.iconst 5, 1) := by decide +kernel
theorem dX12_set_36 : decode cX12_set 36 = .ok (.goto 5, 3) := by decide +kernel
theorem dX12_set_39 : decode cX12_set 39 = .ok (.bipush 40, 2) := by decide +kernel
theorem dX12_set_41 : decode cX12_set 41 = .ok (.invokestatic 49, 3) := by decide +kernel
theorem dX12_set_44 : decode cX12_set 44 = .ok (.ifCond .ne 5, 3) := by decide +kernel
theorem dX12_set_47 : decode cX12_set 47 = .ok (.iconst (-1), 1) := by decide +kernel
theorem dX12_set_48 : decode cX12_set 48 = .ok (.ireturn, 1) := by decide +kernel
theorem dX12_set_49 : decode cX12_set 49 = .ok (.aload_n 0, 1) := by decide +kernel
theorem dX12_set_50 : decode cX12_set 50 = .ok (.getfield 9, 3) := by decide +kernel
theorem dX12_set_53 : decode cX12_set 53 = .ok (.iconst 2, 1) := by decide +kernel
theorem dX12_set_54 : decode cX12_set 54 = .ok (.iload_n 1, 1) := by decide +kernel
theorem dX12_set_55 : decode cX12_set 55 = .ok (.iadd, 1) := by decide +kernel
theorem dX12_set_56 : decode cX12_set 56 = .ok (.iaload, 1) := by decide +kernel
theorem dX12_set_57 : decode cX12_set 57 = .ok (.istore_n 3, 1) := by decide +kernel
theorem dX12_set_58 : decode cX12_set 58 = .ok (.aload_n 0, 1) := by decide +kernel
theorem dX12_set_59 : decode cX12_set 59 = .ok (.getfield 9, 3) := by decide +kernel
theorem dX12_set_62 : decode cX12_set 62 = .ok (.iconst 2, 1) := by decide +kernel
theorem dX12_set_63 : decode cX12_set 63 = .ok (.iload_n 1, 1) := by decide +kernel
theorem dX12_set_64 : decode cX12_set 64 = .ok (.iadd, 1) := by decide +kernel
theorem dX12_set_65 : decode cX12_set 65 = .ok (.iload_n 2, 1) := by decide +kernel
theorem dX12_set_66 : decode cX12_set 66 = .ok (.iastore, 1) := by decide +kernel
theorem dX12_set_67 : decode cX12_set 67 = .ok (.iload_n 3, 1) := by decide +kernel
theorem dX12_set_68 : decode cX12_set 68 = .ok (.ireturn, 1) := by decide +kernel
theorem dX12_drives_0 : decode cX12_drives 0 = .ok (.iload_n 1, 1) := by decide +kernel
theorem dX12_drives_1 : decode cX12_drives 1 = .ok (.iconst 1, 1) := by decide +kernel
theorem dX12_drives_2 : decode cX12_drives 2 = .ok (.bipush 99, 2) := by decide +kernel
theorem dX12_drives_4 : decode cX12_drives 4 = .ok (.invokestatic 49, 3) := by decide +kernel
theorem dX12_drives_7 : decode cX12_drives 7 = .ok (.ifCond .ne 5, 3) := by decide +kernel
theorem dX12_drives_10 : decode cX12_drives 10 = .ok (.iconst (-1), 1) := by decide +kernel
theorem dX12_drives_11 : decode cX12_drives 11 = .ok (.ireturn, 1) := by decide +kernel
theorem dX12_drives_12 : decode cX12_drives 12 = .ok (.aload_n 0, 1) := by decide +kernel
theorem dX12_drives_13 : decode cX12_drives 13 = .ok (.getfield 9, 3) := by decide +kernel
theorem dX12_drives_16 : decode cX12_drives 16 = .ok (.iconst 1, 1) := by decide +kernel
theorem dX12_drives_17 : decode cX12_drives 17 = .ok (.iaload, 1) := by decide +kernel
theorem dX12_drives_18 : decode cX12_drives 18 = .ok (.iload_n 1, 1) := by decide +kernel
theorem dX12_drives_19 : decode cX12_drives 19 = .ok (.iadd, 1) := by decide +kernel
theorem dX12_drives_20 : decode cX12_drives 20 = .ok (.sipush 9999, 3) := by decide +kernel
theorem dX12_drives_23 : decode cX12_drives 23 = .ok (.if_icmp .le 6, 3) := by decide +kernel
theorem dX12_drives_26 : decode cX12_drives 26 = .ok (.bipush (-3), 2) := by decide +kernel
theorem dX12_drives_28 : decode cX12_drives 28 = .ok (.ireturn, 1) := by decide +kernel
theorem dX12_drives_29 : decode cX12_drives 29 = .ok (.aload_n 0, 1) := by decide +kernel
theorem dX12_drives_30 : decode cX12_drives 30 = .ok (.getfield 9, 3) := by decide +kernel
theorem dX12_drives_33 : decode cX12_drives 33 = .ok (.iconst 1, 1) := by decide +kernel
theorem dX12_drives_34 : decode cX12_drives 34 = .ok (.dup2, 1) := by decide +kernel
theorem dX12_drives_35 : decode cX12_drives 35 = .ok (.iaload, 1) := by decide +kernel
theorem dX12_drives_36 : decode cX12_drives 36 = .ok (.iload_n 1, 1) := by decide +kernel
theorem dX12_drives_37 : decode cX12_drives 37 = .ok (.iadd, 1) := by decide +kernel
theorem dX12_drives_38 : decode cX12_drives 38 = .ok (.iastore, 1) := by decide +kernel
theorem dX12_drives_39 : decode cX12_drives 39 = .ok (.aload_n 0, 1) := by decide +kernel
theorem dX12_drives_40 : decode cX12_drives 40 = .ok (.getfield 9, 3) := by decide +kernel
theorem dX12_drives_43 : decode cX12_drives 43 = .ok (.invokestatic 124, 3) := by decide +kernel
theorem dX12_drives_46 : decode cX12_drives 46 = .ok (.ireturn, 1) := by decide +kernel
theorem dX12_heard_0 : decode cX12_heard 0 = .ok (.iload_n 1, 1) := by decide +kernel
theorem dX12_heard_1 : decode cX12_heard 1 = .ok (.invokestatic 111, 3) := by decide +kernel
theorem dX12_heard_4 : decode cX12_heard 4 = .ok (.ifCond .eq 25, 3) := by decide +kernel
theorem dX12_heard_7 : decode cX12_heard 7 = .ok (.iload_n 2, 1) := by decide +kernel
theorem dX12_heard_8 : decode cX12_heard 8 = .ok (.iconst 0, 1) := by decide +kernel
theorem dX12_heard_9 : decode cX12_heard 9 = .ok (.bipush 99, 2) := by decide +kernel
theorem dX12_heard_11 : decode cX12_heard 11 = .ok (.invokestatic 49, 3) := by decide +kernel
theorem dX12_heard_14 : decode cX12_heard 14 = .ok (.ifCond .eq 15, 3) := by decide +kernel
theorem dX12_heard_17 : decode cX12_heard 17 = .ok (.aload_n 0, 1) := by decide +kernel
theorem dX12_heard_18 : decode cX12_heard 18 = .ok (.getfield 9, 3) := by decide +kernel
theorem dX12_heard_21 : decode cX12_heard 21 = .ok (.iload_n 1, 1) := by decide +kernel
theorem dX12_heard_22 : decode cX12_heard 22 = .ok (.iload_n 2, 1) := by decide +kernel
theorem dX12_heard_23 : decode cX12_heard 23 = .ok (.invokestatic 74, 3) := by decide +kernel
theorem dX12_heard_26 : decode cX12_heard 26 = .ok (.goto 4, 3) := by decide +kernel
theorem dX12_heard_29 : decode cX12_heard 29 = .ok (.iconst (-1), 1) := by decide +kernel
theorem dX12_heard_30 : decode cX12_heard 30 = .ok (.ireturn, 1) := by decide +kernel
theorem dX12_loudest_0 : decode cX12_loudest 0 = .ok (.iload_n 1, 1) := by decide +kernel
theorem dX12_loudest_1 : decode cX12_loudest 1 = .ok (.invokestatic 111, 3) := by decide +kernel
theorem dX12_loudest_4 : decode cX12_loudest 4 = .ok (.ifCond .eq 14, 3) := by decide +kernel
theorem dX12_loudest_7 : decode cX12_loudest 7 = .ok (.aload_n 0, 1) := by decide +kernel
theorem dX12_loudest_8 : decode cX12_loudest 8 = .ok (.getfield 9, 3) := by decide +kernel
theorem dX12_loudest_11 : decode cX12_loudest 11 = .ok (.iload_n 1, 1) := by decide +kernel
theorem dX12_loudest_12 : decode cX12_loudest 12 = .ok (.invokestatic 150, 3) := by decide +kernel
theorem dX12_loudest_15 : decode cX12_loudest 15 = .ok (.goto 4, 3) := by decide +kernel
theorem dX12_loudest_18 : decode cX12_loudest 18 = .ok (.iconst (-1), 1) := by decide +kernel
theorem dX12_loudest_19 : decode cX12_loudest 19 = .ok (.ireturn, 1) := by decide +kernel
theorem dX12_paces_0 : decode cX12_paces 0 = .ok (.iload_n 1, 1) := by decide +kernel
theorem dX12_paces_1 : decode cX12_paces 1 = .ok (.invokestatic 111, 3) := by decide +kernel
theorem dX12_paces_4 : decode cX12_paces 4 = .ok (.ifCond .eq 12, 3) := by decide +kernel
theorem dX12_paces_7 : decode cX12_paces 7 = .ok (.iload_n 2, 1) := by decide +kernel
theorem dX12_paces_8 : decode cX12_paces 8 = .ok (.iconst 0, 1) := by decide +kernel
theorem dX12_paces_9 : decode cX12_paces 9 = .ok (.iconst 2, 1) := by decide +kernel
theorem dX12_paces_10 : decode cX12_paces 10 = .ok (.invokestatic 49, 3) := by decide +kernel
theorem dX12_paces_13 : decode cX12_paces 13 = .ok (.ifCond .ne 5, 3) := by decide +kernel
theorem dX12_paces_16 : decode cX12_paces 16 = .ok (.iconst (-1), 1) := by decide +kernel
theorem dX12_paces_17 : decode cX12_paces 17 = .ok (.ireturn, 1) := by decide +kernel
theorem dX12_paces_18 : decode cX12_paces 18 = .ok (.iconst 0, 1) := by decide +kernel
theorem dX12_paces_19 : decode cX12_paces 19 = .ok (.istore_n 3, 1) := by decide +kernel
theorem dX12_paces_20 : decode cX12_paces 20 = .ok (.bipush (-4), 2) := by decide +kernel
theorem dX12_paces_22 : decode cX12_paces 22 = .ok (.istore 4, 2) := by decide +kernel
theorem dX12_paces_24 : decode cX12_paces 24 = .ok (.bipush (-4), 2) := by decide +kernel
theorem dX12_paces_26 : decode cX12_paces 26 = .ok (.istore 5, 2) := by decide +kernel
theorem dX12_paces_28 : decode cX12_paces 28 = .ok (.iconst 0, 1) := by decide +kernel
theorem dX12_paces_29 : decode cX12_paces 29 = .ok (.istore 6, 2) := by decide +kernel
theorem dX12_paces_31 : decode cX12_paces 31 = .ok (.iload 6, 2) := by decide +kernel
theorem dX12_paces_33 : decode cX12_paces 33 = .ok (.bipush 100, 2) := by decide +kernel
theorem dX12_paces_35 : decode cX12_paces 35 = .ok (.if_icmp .ge 45, 3) := by decide +kernel
theorem dX12_paces_38 : decode cX12_paces 38 = .ok (.aload_n 0, 1) := by decide +kernel
theorem dX12_paces_39 : decode cX12_paces 39 = .ok (.getfield 9, 3) := by decide +kernel
theorem dX12_paces_42 : decode cX12_paces 42 = .ok (.iload_n 1, 1) := by decide +kernel
theorem dX12_paces_43 : decode cX12_paces 43 = .ok (.iload 6, 2) := by decide +kernel
theorem dX12_paces_45 : decode cX12_paces 45 = .ok (.invokestatic 74, 3) := by decide +kernel
theorem dX12_paces_48 : decode cX12_paces 48 = .ok (.ifCond .ne 6, 3) := by decide +kernel
theorem dX12_paces_51 : decode cX12_paces 51 = .ok (.goto 23, 3) := by decide +kernel
theorem dX12_paces_54 : decode cX12_paces 54 = .ok (.iload_n 3, 1) := by decide +kernel
theorem dX12_paces_55 : decode cX12_paces 55 = .ok (.ifCond .ne 8, 3) := by decide +kernel
theorem dX12_paces_58 : decode cX12_paces 58 = .ok (.iload 6, 2) := by decide +kernel
theorem dX12_paces_60 : decode cX12_paces 60 = .ok (.goto 5, 3) := by decide +kernel
theorem dX12_paces_63 : decode cX12_paces 63 = .ok (.iload 4, 2) := by decide +kernel
theorem dX12_paces_65 : decode cX12_paces 65 = .ok (.istore 4, 2) := by decide +kernel
theorem dX12_paces_67 : decode cX12_paces 67 = .ok (.iload 6, 2) := by decide +kernel
theorem dX12_paces_69 : decode cX12_paces 69 = .ok (.istore 5, 2) := by decide +kernel
theorem dX12_paces_71 : decode cX12_paces 71 = .ok (.iinc 3 1, 3) := by decide +kernel
theorem dX12_paces_74 : decode cX12_paces 74 = .ok (.iinc 6 1, 3) := by decide +kernel
theorem dX12_paces_77 : decode cX12_paces 77 = .ok (.goto (-46), 3) := by decide +kernel
theorem dX12_paces_80 : decode cX12_paces 80 = .ok (.iload_n 2, 1) := by decide +kernel
theorem dX12_paces_81 : decode cX12_paces 81 = .ok (.ifCond .ne 7, 3) := by decide +kernel
theorem dX12_paces_84 : decode cX12_paces 84 = .ok (.iload_n 3, 1) := by decide +kernel
theorem dX12_paces_85 : decode cX12_paces 85 = .ok (.goto 15, 3) := by decide +kernel
theorem dX12_paces_88 : decode cX12_paces 88 = .ok (.iload_n 2, 1) := by decide +kernel
theorem dX12_paces_89 : decode cX12_paces 89 = .ok (.iconst 1, 1) := by decide +kernel
theorem dX12_paces_90 : decode cX12_paces 90 = .ok (.if_icmp .ne 8, 3) := by decide +kernel
theorem dX12_paces_93 : decode cX12_paces 93 = .ok (.iload 4, 2) := by decide +kernel
theorem dX12_paces_95 : decode cX12_paces 95 = .ok (.goto 5, 3) := by decide +kernel
theorem dX12_paces_98 : decode cX12_paces 98 = .ok (.iload 5, 2) := by decide +kernel
theorem dX12_paces_100 : decode cX12_paces 100 = .ok (.ireturn, 1) := by decide +kernel
theorem dX12_silentFrom_0 : decode cX12_silentFrom 0 = .ok (.iload_n 1, 1) := by decide +kernel
theorem dX12_silentFrom_1 : decode cX12_silentFrom 1 = .ok (.invokestatic 111, 3) := by decide +kernel
theorem dX12_silentFrom_4 : decode cX12_silentFrom 4 = .ok (.ifCond .eq 13, 3) := by decide +kernel
theorem dX12_silentFrom_7 : decode cX12_silentFrom 7 = .ok (.iload_n 2, 1) := by decide +kernel
theorem dX12_silentFrom_8 : decode cX12_silentFrom 8 = .ok (.iconst 0, 1) := by decide +kernel
theorem dX12_silentFrom_9 : decode cX12_silentFrom 9 = .ok (.bipush 99, 2) := by decide +kernel
theorem dX12_silentFrom_11 : decode cX12_silentFrom 11 = .ok (.invokestatic 49, 3) := by decide +kernel
theorem dX12_silentFrom_14 : decode cX12_silentFrom 14 = .ok (.ifCond .ne 5, 3) := by decide +kernel
theorem dX12_silentFrom_17 : decode cX12_silentFrom 17 = .ok (.iconst (-1), 1) := by decide +kernel
theorem dX12_silentFrom_18 : decode cX12_silentFrom 18 = .ok (.ireturn, 1) := by decide +kernel
theorem dX12_silentFrom_19 : decode cX12_silentFrom 19 = .ok (.iload_n 2, 1) := by decide +kernel
theorem dX12_silentFrom_20 : decode cX12_silentFrom 20 = .ok (.istore_n 3, 1) := by decide +kernel
theorem dX12_silentFrom_21 : decode cX12_silentFrom 21 = .ok (.iload_n 3, 1) := by decide +kernel
theorem dX12_silentFrom_22 : decode cX12_silentFrom 22 = .ok (.bipush 100, 2) := by decide +kernel
theorem dX12_silentFrom_24 : decode cX12_silentFrom 24 = .ok (.if_icmp .ge 23, 3) := by decide +kernel
theorem dX12_silentFrom_27 : decode cX12_silentFrom 27 = .ok (.aload_n 0, 1) := by decide +kernel
theorem dX12_silentFrom_28 : decode cX12_silentFrom 28 = .ok (.getfield 9, 3) := by decide +kernel
theorem dX12_silentFrom_31 : decode cX12_silentFrom 31 = .ok (.iload_n 1, 1) := by decide +kernel
theorem dX12_silentFrom_32 : decode cX12_silentFrom 32 = .ok (.iload_n 3, 1) := by decide +kernel
theorem dX12_silentFrom_33 : decode cX12_silentFrom 33 = .ok (.invokestatic 74, 3) := by decide +kernel
theorem dX12_silentFrom_36 : decode cX12_silentFrom 36 = .ok (.ifCond .ne 5, 3) := by decide +kernel
theorem dX12_silentFrom_39 : decode cX12_silentFrom 39 = .ok (.iload_n 3, 1) := by decide +kernel
theorem dX12_silentFrom_40 : decode cX12_silentFrom 40 = .ok (.ireturn, 1) := by decide +kernel
theorem dX12_silentFrom_41 : decode cX12_silentFrom 41 = .ok (.iinc 3 1, 3) := by decide +kernel
theorem dX12_silentFrom_44 : decode cX12_silentFrom 44 = .ok (.goto (-23), 3) := by decide +kernel
theorem dX12_silentFrom_47 : decode cX12_silentFrom 47 = .ok (.bipush (-4), 2) := by decide +kernel
theorem dX12_silentFrom_49 : decode cX12_silentFrom 49 = .ok (.ireturn, 1) := by decide +kernel
theorem dX12_bits_0 : decode cX12_bits 0 = .ok (.iconst 0, 1) := by decide +kernel
theorem dX12_bits_1 : decode cX12_bits 1 = .ok (.istore_n 1, 1) := by decide +kernel
theorem dX12_bits_2 : decode cX12_bits 2 = .ok (.iconst 0, 1) := by decide +kernel
theorem dX12_bits_3 : decode cX12_bits 3 = .ok (.istore_n 2, 1) := by decide +kernel
theorem dX12_bits_4 : decode cX12_bits 4 = .ok (.iload_n 2, 1) := by decide +kernel
theorem dX12_bits_5 : decode cX12_bits 5 = .ok (.bipush 7, 2) := by decide +kernel
theorem dX12_bits_7 : decode cX12_bits 7 = .ok (.if_icmp .ge 17, 3) := by decide +kernel
theorem dX12_bits_10 : decode cX12_bits 10 = .ok (.iload_n 1, 1) := by decide +kernel
theorem dX12_bits_11 : decode cX12_bits 11 = .ok (.iload_n 0, 1) := by decide +kernel
theorem dX12_bits_12 : decode cX12_bits 12 = .ok (.iload_n 2, 1) := by decide +kernel
theorem dX12_bits_13 : decode cX12_bits 13 = .ok (.ishr, 1) := by decide +kernel
theorem dX12_bits_14 : decode cX12_bits 14 = .ok (.iconst 1, 1) := by decide +kernel
theorem dX12_bits_15 : decode cX12_bits 15 = .ok (.iand, 1) := by decide +kernel
theorem dX12_bits_16 : decode cX12_bits 16 = .ok (.iadd, 1) := by decide +kernel
theorem dX12_bits_17 : decode cX12_bits 17 = .ok (.istore_n 1, 1) := by decide +kernel
theorem dX12_bits_18 : decode cX12_bits 18 = .ok (.iinc 2 1, 3) := by decide +kernel
theorem dX12_bits_21 : decode cX12_bits 21 = .ok (.goto (-17), 3) := by decide +kernel
theorem dX12_bits_24 : decode cX12_bits 24 = .ok (.iload_n 1, 1) := by decide +kernel
theorem dX12_bits_25 : decode cX12_bits 25 = .ok (.ireturn, 1) := by decide +kernel
theorem dX12_holdAll_0 : decode cX12_holdAll 0 = .ok (.iload_n 1, 1) := by decide +kernel
theorem dX12_holdAll_1 : decode cX12_holdAll 1 = .ok (.iconst 0, 1) := by decide +kernel
theorem dX12_holdAll_2 : decode cX12_holdAll 2 = .ok (.iconst 1, 1) := by decide +kernel
theorem dX12_holdAll_3 : decode cX12_holdAll 3 = .ok (.invokestatic 49, 3) := by decide +kernel
theorem dX12_holdAll_6 : decode cX12_holdAll 6 = .ok (.ifCond .ne 5, 3) := by decide +kernel
theorem dX12_holdAll_9 : decode cX12_holdAll 9 = .ok (.iconst (-1), 1) := by decide +kernel
theorem dX12_holdAll_10 : decode cX12_holdAll 10 = .ok (.ireturn, 1) := by decide +kernel
theorem dX12_holdAll_11 : decode cX12_holdAll 11 = .ok (.iconst (-1), 1) := by decide +kernel
theorem dX12_holdAll_12 : decode cX12_holdAll 12 = .ok (.istore_n 2, 1) := by decide +kernel
theorem dX12_holdAll_13 : decode cX12_holdAll 13 = .ok (.iconst 0, 1) := by decide +kernel
theorem dX12_holdAll_14 : decode cX12_holdAll 14 = .ok (.istore_n 3, 1) := by decide +kernel
theorem dX12_holdAll_15 : decode cX12_holdAll 15 = .ok (.iload_n 3, 1) := by decide +kernel
theorem dX12_holdAll_16 : decode cX12_holdAll 16 = .ok (.iconst 1, 1) := by decide +kernel
theorem dX12_holdAll_17 : decode cX12_holdAll 17 = .ok (.aload_n 0, 1) := by decide +kernel
theorem dX12_holdAll_18 : decode cX12_holdAll 18 = .ok (.getfield 9, 3) := by decide +kernel
theorem dX12_holdAll_21 : decode cX12_holdAll 21 = .ok (.iconst 0, 1) := by decide +kernel
theorem dX12_holdAll_22 : decode cX12_holdAll 22 = .ok (.iaload, 1) := by decide +kernel
theorem dX12_holdAll_23 : decode cX12_holdAll 23 = .ok (.ishl, 1) := by decide +kernel
theorem dX12_holdAll_24 : decode cX12_holdAll 24 = .ok (.if_icmp .ge 126, 3) := by decide +kernel
theorem dX12_holdAll_27 : decode cX12_holdAll 27 = .ok (.iload_n 2, 1) := by decide +kernel
theorem dX12_holdAll_28 : decode cX12_holdAll 28 = .ok (.ifCond .lt 17, 3) := by decide +kernel
theorem dX12_holdAll_31 : decode cX12_holdAll 31 = .ok (.iload_n 3, 1) := by decide +kernel
theorem dX12_holdAll_32 : decode cX12_holdAll 32 = .ok (.invokestatic 153, 3) := by decide +kernel
theorem dX12_holdAll_35 : decode cX12_holdAll 35 = .ok (.iload_n 2, 1) := by decide +kernel
theorem dX12_holdAll_36 : decode cX12_holdAll 36 = .ok (.invokestatic 153, 3) := by decide +kernel
theorem dX12_holdAll_39 : decode cX12_holdAll 39 = .ok (.if_icmp .lt 6, 3) := by decide +kernel
theorem dX12_holdAll_42 : decode cX12_holdAll 42 = .ok (.goto 102, 3) := by decide +kernel
theorem dX12_holdAll_45 : decode cX12_holdAll 45 = .ok (.aload_n 0, 1) := by decide +kernel
theorem dX12_holdAll_46 : decode cX12_holdAll 46 = .ok (.getfield 9, 3) := by decide +kernel
theorem dX12_holdAll_49 : decode cX12_holdAll 49 = .ok (.aload_n 0, 1) := by decide +kernel
theorem dX12_holdAll_50 : decode cX12_holdAll 50 = .ok (.getfield 13, 3) := by decide +kernel
theorem dX12_holdAll_53 : decode cX12_holdAll 53 = .ok (.invokestatic 134, 3) := by decide +kernel
theorem dX12_holdAll_56 : decode cX12_holdAll 56 = .ok (.iconst 1, 1) := by decide +kernel
theorem dX12_holdAll_57 : decode cX12_holdAll 57 = .ok (.istore 4, 2) := by decide +kernel
theorem dX12_holdAll_59 : decode cX12_holdAll 59 = .ok (.iconst 0, 1) := by decide +kernel
theorem dX12_holdAll_60 : decode cX12_holdAll 60 = .ok (.istore 5, 2) := by decide +kernel
theorem dX12_holdAll_62 : decode cX12_holdAll 62 = .ok (.iload 5, 2) := by decide +kernel
theorem dX12_holdAll_64 : decode cX12_holdAll 64 = .ok (.aload_n 0, 1) := by decide +kernel
theorem dX12_holdAll_65 : decode cX12_holdAll 65 = .ok (.getfield 9, 3) := by decide +kernel
theorem dX12_holdAll_68 : decode cX12_holdAll 68 = .ok (.iconst 0, 1) := by decide +kernel
theorem dX12_holdAll_69 : decode cX12_holdAll 69 = .ok (.iaload, 1) := by decide +kernel
theorem dX12_holdAll_70 : decode cX12_holdAll 70 = .ok (.if_icmp .ge 57, 3) := by decide +kernel
theorem dX12_holdAll_73 : decode cX12_holdAll 73 = .ok (.iload_n 3, 1) := by decide +kernel
theorem dX12_holdAll_74 : decode cX12_holdAll 74 = .ok (.iload 5, 2) := by decide +kernel
theorem dX12_holdAll_76 : decode cX12_holdAll 76 = .ok (.ishr, 1) := by decide +kernel
theorem dX12_holdAll_77 : decode cX12_holdAll 77 = .ok (.iconst 1, 1) := by decide +kernel
theorem dX12_holdAll_78 : decode cX12_holdAll 78 = .ok (.iand, 1) := by decide +kernel
theorem dX12_holdAll_79 : decode cX12_holdAll 79 = .ok (.ifCond .ne 6, 3) := by decide +kernel
theorem dX12_holdAll_82 : decode cX12_holdAll 82 = .ok (.goto 39, 3) := by decide +kernel
theorem dX12_holdAll_85 : decode cX12_holdAll 85 = .ok (.iload 4, 2) := by decide +kernel
theorem dX12_holdAll_87 : decode cX12_holdAll 87 = .ok (.aload_n 0, 1) := by decide +kernel
theorem dX12_holdAll_88 : decode cX12_holdAll 88 = .ok (.getfield 9, 3) := by decide +kernel
theorem dX12_holdAll_91 : decode cX12_holdAll 91 = .ok (.iload 5, 2) := by decide +kernel
theorem dX12_holdAll_93 : decode cX12_holdAll 93 = .ok (.iconst 4, 1) := by decide +kernel
theorem dX12_holdAll_94 : decode cX12_holdAll 94 = .ok (.invokestatic 53, 3) := by decide +kernel
theorem dX12_holdAll_97 : decode cX12_holdAll 97 = .ok (.iaload, 1) := by decide +kernel
theorem dX12_holdAll_98 : decode cX12_holdAll 98 = .ok (.ifCond .ne 7, 3) := by decide +kernel
theorem dX12_holdAll_101 : decode cX12_holdAll 101 = .ok (.iconst 1, 1) := by decide +kernel
theorem dX12_holdAll_102 : decode cX12_holdAll 102 = .ok (.goto 4, 3) := by decide +kernel
theorem dX12_holdAll_105 : decode cX12_holdAll 105 = .ok (.iconst 0, 1) := by decide +kernel
theorem dX12_holdAll_106 : decode cX12_holdAll 106 = .ok (.iand, 1) := by decide +kernel
theorem dX12_holdAll_107 : decode cX12_holdAll 107 = .ok (.istore 4, 2) := by decide +kernel
theorem dX12_holdAll_109 : decode cX12_holdAll 109 = .ok (.aload_n 0, 1) := by decide +kernel
theorem dX12_holdAll_110 : decode cX12_holdAll 110 = .ok (.getfield 13, 3) := by decide +kernel
theorem dX12_holdAll_113 : decode cX12_holdAll 113 = .ok (.iload 5, 2) := by decide +kernel
theorem dX12_holdAll_115 : decode cX12_holdAll 115 = .ok (.iconst 4, 1) := by decide +kernel
theorem dX12_holdAll_116 : decode cX12_holdAll 116 = .ok (.invokestatic 53, 3) := by decide +kernel
theorem dX12_holdAll_119 : decode cX12_holdAll 119 = .ok (.iconst 1, 1) := by decide +kernel
theorem dX12_holdAll_120 : decode cX12_holdAll 120 = .ok (.iastore, 1) := by decide +kernel
theorem dX12_holdAll_121 : decode cX12_holdAll 121 = .ok (.iinc 5 1, 3) := by decide +kernel
theorem dX12_holdAll_124 : decode cX12_holdAll 124 = .ok (.goto (-62), 3) := by decide +kernel
theorem dX12_holdAll_127 : decode cX12_holdAll 127 = .ok (.iload 4, 2) := by decide +kernel
theorem dX12_holdAll_129 : decode cX12_holdAll 129 = .ok (.ifCond .eq 15, 3) := by decide +kernel
theorem dX12_holdAll_132 : decode cX12_holdAll 132 = .ok (.aload_n 0, 1) := by decide +kernel
theorem dX12_holdAll_133 : decode cX12_holdAll 133 = .ok (.getfield 13, 3) := by decide +kernel
theorem dX12_holdAll_136 : decode cX12_holdAll 136 = .ok (.invokestatic 77, 3) := by decide +kernel
theorem dX12_holdAll_139 : decode cX12_holdAll 139 = .ok (.ifCond .ne 5, 3) := by decide +kernel
theorem dX12_holdAll_142 : decode cX12_holdAll 142 = .ok (.iload_n 3, 1) := by decide +kernel
theorem dX12_holdAll_143 : decode cX12_holdAll 143 = .ok (.istore_n 2, 1) := by decide +kernel
theorem dX12_holdAll_144 : decode cX12_holdAll 144 = .ok (.iinc 3 1, 3) := by decide +kernel
theorem dX12_holdAll_147 : decode cX12_holdAll 147 = .ok (.goto (-132), 3) := by decide +kernel
theorem dX12_holdAll_150 : decode cX12_holdAll 150 = .ok (.iload_n 1, 1) := by decide +kernel
theorem dX12_holdAll_151 : decode cX12_holdAll 151 = .ok (.ifCond .ne 5, 3) := by decide +kernel
theorem dX12_holdAll_154 : decode cX12_holdAll 154 = .ok (.iload_n 2, 1) := by decide +kernel
theorem dX12_holdAll_155 : decode cX12_holdAll 155 = .ok (.ireturn, 1) := by decide +kernel
theorem dX12_holdAll_156 : decode cX12_holdAll 156 = .ok (.iconst 0, 1) := by decide +kernel
theorem dX12_holdAll_157 : decode cX12_holdAll 157 = .ok (.istore_n 3, 1) := by decide +kernel
theorem dX12_holdAll_158 : decode cX12_holdAll 158 = .ok (.iconst 0, 1) := by decide +kernel
theorem dX12_holdAll_159 : decode cX12_holdAll 159 = .ok (.istore 4, 2) := by decide +kernel
theorem dX12_holdAll_161 : decode cX12_holdAll 161 = .ok (.iload 4, 2) := by decide +kernel
theorem dX12_holdAll_163 : decode cX12_holdAll 163 = .ok (.aload_n 0, 1) := by decide +kernel
theorem dX12_holdAll_164 : decode cX12_holdAll 164 = .ok (.getfield 9, 3) := by decide +kernel
theorem dX12_holdAll_167 : decode cX12_holdAll 167 = .ok (.iconst 0, 1) := by decide +kernel
theorem dX12_holdAll_168 : decode cX12_holdAll 168 = .ok (.iaload, 1) := by decide +kernel
theorem dX12_holdAll_169 : decode cX12_holdAll 169 = .ok (.if_icmp .ge 35, 3) := by decide +kernel
theorem dX12_holdAll_172 : decode cX12_holdAll 172 = .ok (.iload_n 3, 1) := by decide +kernel
theorem dX12_holdAll_173 : decode cX12_holdAll 173 = .ok (.iload_n 2, 1) := by decide +kernel
theorem dX12_holdAll_174 : decode cX12_holdAll 174 = .ok (.iload 4, 2) := by decide +kernel
theorem dX12_holdAll_176 : decode cX12_holdAll 176 = .ok (.ishr, 1) := by decide +kernel
theorem dX12_holdAll_177 : decode cX12_holdAll 177 = .ok (.iconst 1, 1) := by decide +kernel
theorem dX12_holdAll_178 : decode cX12_holdAll 178 = .ok (.iand, 1) := by decide +kernel
theorem dX12_holdAll_179 : decode cX12_holdAll 179 = .ok (.iconst 1, 1) := by decide +kernel
theorem dX12_holdAll_180 : decode cX12_holdAll 180 = .ok (.if_icmp .ne 15, 3) := by decide +kernel
theorem dX12_holdAll_183 : decode cX12_holdAll 183 = .ok (.aload_n 0, 1) := by decide +kernel
theorem dX12_holdAll_184 : decode cX12_holdAll 184 = .ok (.getfield 9, 3) := by decide +kernel
theorem dX12_holdAll_187 : decode cX12_holdAll 187 = .ok (.iload 4, 2) := by decide +kernel
theorem dX12_holdAll_189 : decode cX12_holdAll 189 = .ok (.invokestatic 141, 3) := by decide +kernel
theorem dX12_holdAll_192 : decode cX12_holdAll 192 = .ok (.goto 4, 3) := by decide +kernel
theorem dX12_holdAll_195 : decode cX12_holdAll 195 = .ok (.iconst 0, 1) := by decide +kernel
theorem dX12_holdAll_196 : decode cX12_holdAll 196 = .ok (.iadd, 1) := by decide +kernel
theorem dX12_holdAll_197 : decode cX12_holdAll 197 = .ok (.istore_n 3, 1) := by decide +kernel
theorem dX12_holdAll_198 : decode cX12_holdAll 198 = .ok (.iinc 4 1, 3) := by decide +kernel
theorem dX12_holdAll_201 : decode cX12_holdAll 201 = .ok (.goto (-40), 3) := by decide +kernel
theorem dX12_holdAll_204 : decode cX12_holdAll 204 = .ok (.iload_n 3, 1) := by decide +kernel
theorem dX12_holdAll_205 : decode cX12_holdAll 205 = .ok (.ireturn, 1) := by decide +kernel
theorem dX12_radio_0 : decode cX12_radio 0 = .ok (.iload_n 1, 1) := by decide +kernel
theorem dX12_radio_1 : decode cX12_radio 1 = .ok (.invokestatic 111, 3) := by decide +kernel
theorem dX12_radio_4 : decode cX12_radio 4 = .ok (.ifCond .ne 5, 3) := by decide +kernel
theorem dX12_radio_7 : decode cX12_radio 7 = .ok (.iconst (-1), 1) := by decide +kernel
theorem dX12_radio_8 : decode cX12_radio 8 = .ok (.ireturn, 1) := by decide +kernel
theorem dX12_radio_9 : decode cX12_radio 9 = .ok (.aload_n 0, 1) := by decide +kernel
theorem dX12_radio_10 : decode cX12_radio 10 = .ok (.getfield 9, 3) := by decide +kernel
theorem dX12_radio_13 : decode cX12_radio 13 = .ok (.iload_n 1, 1) := by decide +kernel
theorem dX12_radio_14 : decode cX12_radio 14 = .ok (.aload_n 0, 1) := by decide +kernel
theorem dX12_radio_15 : decode cX12_radio 15 = .ok (.getfield 9, 3) := by decide +kernel
theorem dX12_radio_18 : decode cX12_radio 18 = .ok (.iconst 2, 1) := by decide +kernel
theorem dX12_radio_19 : decode cX12_radio 19 = .ok (.iaload, 1) := by decide +kernel
theorem dX12_radio_20 : decode cX12_radio 20 = .ok (.invokestatic 71, 3) := by decide +kernel
theorem dX12_radio_23 : decode cX12_radio 23 = .ok (.istore_n 2, 1) := by decide +kernel
theorem dX12_radio_24 : decode cX12_radio 24 = .ok (.iload_n 2, 1) := by decide +kernel
theorem dX12_radio_25 : decode cX12_radio 25 = .ok (.bipush 40, 2) := by decide +kernel
theorem dX12_radio_27 : decode cX12_radio 27 = .ok (.if_icmp .le 8, 3) := by decide +kernel
theorem dX12_radio_30 : decode cX12_radio 30 = .ok (.bipush (-4), 2) := by decide +kernel
theorem dX12_radio_32 : decode cX12_radio 32 = .ok (.goto 4, 3) := by decide +kernel
theorem dX12_radio_35 : decode cX12_radio 35 = .ok (.iload_n 2, 1) := by decide +kernel
theorem dX12_radio_36 : decode cX12_radio 36 = .ok (.ireturn, 1) := by decide +kernel
theorem dX12_wanted_0 : decode cX12_wanted 0 = .ok (.iload_n 1, 1) := by decide +kernel
theorem dX12_wanted_1 : decode cX12_wanted 1 = .ok (.iconst 0, 1) := by decide +kernel
theorem dX12_wanted_2 : decode cX12_wanted 2 = .ok (.iconst 1, 1) := by decide +kernel
theorem dX12_wanted_3 : decode cX12_wanted 3 = .ok (.invokestatic 49, 3) := by decide +kernel
theorem dX12_wanted_6 : decode cX12_wanted 6 = .ok (.ifCond .ne 5, 3) := by decide +kernel
theorem dX12_wanted_9 : decode cX12_wanted 9 = .ok (.iconst (-1), 1) := by decide +kernel
theorem dX12_wanted_10 : decode cX12_wanted 10 = .ok (.ireturn, 1) := by decide +kernel
theorem dX12_wanted_11 : decode cX12_wanted 11 = .ok (.aload_n 0, 1) := by decide +kernel
theorem dX12_wanted_12 : decode cX12_wanted 12 = .ok (.getfield 9, 3) := by decide +kernel
theorem dX12_wanted_15 : decode cX12_wanted 15 = .ok (.aload_n 0, 1) := by decide +kernel
theorem dX12_wanted_16 : decode cX12_wanted 16 = .ok (.getfield 13, 3) := by decide +kernel
theorem dX12_wanted_19 : decode cX12_wanted 19 = .ok (.invokestatic 134, 3) := by decide +kernel
theorem dX12_wanted_22 : decode cX12_wanted 22 = .ok (.bipush (-4), 2) := by decide +kernel
theorem dX12_wanted_24 : decode cX12_wanted 24 = .ok (.istore_n 2, 1) := by decide +kernel
theorem dX12_wanted_25 : decode cX12_wanted 25 = .ok (.iconst 0, 1) := by decide +kernel
theorem dX12_wanted_26 : decode cX12_wanted 26 = .ok (.istore_n 3, 1) := by decide +kernel
theorem dX12_wanted_27 : decode cX12_wanted 27 = .ok (.iload_n 3, 1) := by decide +kernel
theorem dX12_wanted_28 : decode cX12_wanted 28 = .ok (.iload_n 1, 1) := by decide +kernel
theorem dX12_wanted_29 : decode cX12_wanted 29 = .ok (.ifCond .ne 8, 3) := by decide +kernel
theorem dX12_wanted_32 : decode cX12_wanted 32 = .ok (.bipush 6, 2) := by decide +kernel
theorem dX12_wanted_34 : decode cX12_wanted 34 = .ok (.goto 5, 3) := by decide +kernel
theorem dX12_wanted_37 : decode cX12_wanted 37 = .ok (.bipush 10, 2) := by decide +kernel
theorem dX12_wanted_39 : decode cX12_wanted 39 = .ok (.if_icmp .ge 55, 3) := by decide +kernel
theorem dX12_wanted_42 : decode cX12_wanted 42 = .ok (.iload_n 1, 1) := by decide +kernel
theorem dX12_wanted_43 : decode cX12_wanted 43 = .ok (.ifCond .ne 9, 3) := by decide +kernel
theorem dX12_wanted_46 : decode cX12_wanted 46 = .ok (.iconst 5, 1) := by decide +kernel
theorem dX12_wanted_47 : decode cX12_wanted 47 = .ok (.iload_n 3, 1) := by decide +kernel
theorem dX12_wanted_48 : decode cX12_wanted 48 = .ok (.isub, 1) := by decide +kernel
theorem dX12_wanted_49 : decode cX12_wanted 49 = .ok (.goto 4, 3) := by decide +kernel
theorem dX12_wanted_52 : decode cX12_wanted 52 = .ok (.iload_n 3, 1) := by decide +kernel
theorem dX12_wanted_53 : decode cX12_wanted 53 = .ok (.istore 4, 2) := by decide +kernel
theorem dX12_wanted_55 : decode cX12_wanted 55 = .ok (.aload_n 0, 1) := by decide +kernel
theorem dX12_wanted_56 : decode cX12_wanted 56 = .ok (.getfield 13, 3) := by decide +kernel
theorem dX12_wanted_59 : decode cX12_wanted 59 = .ok (.iload_n 1, 1) := by decide +kernel
theorem dX12_wanted_60 : decode cX12_wanted 60 = .ok (.ifCond .ne 7, 3) := by decide +kernel
theorem dX12_wanted_63 : decode cX12_wanted 63 = .ok (.iconst 4, 1) := by decide +kernel
theorem dX12_wanted_64 : decode cX12_wanted 64 = .ok (.goto 4, 3) := by decide +kernel
theorem dX12_wanted_67 : decode cX12_wanted 67 = .ok (.iconst 3, 1) := by decide +kernel
theorem dX12_wanted_68 : decode cX12_wanted 68 = .ok (.iload 4, 2) := by decide +kernel
theorem dX12_wanted_70 : decode cX12_wanted 70 = .ok (.iastore, 1) := by decide +kernel
theorem dX12_wanted_71 : decode cX12_wanted 71 = .ok (.aload_n 0, 1) := by decide +kernel
theorem dX12_wanted_72 : decode cX12_wanted 72 = .ok (.getfield 13, 3) := by decide +kernel
theorem dX12_wanted_75 : decode cX12_wanted 75 = .ok (.invokestatic 77, 3) := by decide +kernel
theorem dX12_wanted_78 : decode cX12_wanted 78 = .ok (.ifCond .ne 8, 3) := by decide +kernel
theorem dX12_wanted_81 : decode cX12_wanted 81 = .ok (.iload 4, 2) := by decide +kernel
theorem dX12_wanted_83 : decode cX12_wanted 83 = .ok (.goto 4, 3) := by decide +kernel
theorem dX12_wanted_86 : decode cX12_wanted 86 = .ok (.iload_n 2, 1) := by decide +kernel
theorem dX12_wanted_87 : decode cX12_wanted 87 = .ok (.istore_n 2, 1) := by decide +kernel
theorem dX12_wanted_88 : decode cX12_wanted 88 = .ok (.iinc 3 1, 3) := by decide +kernel
theorem dX12_wanted_91 : decode cX12_wanted 91 = .ok (.goto (-64), 3) := by decide +kernel
theorem dX12_wanted_94 : decode cX12_wanted 94 = .ok (.iload_n 2, 1) := by decide +kernel
theorem dX12_wanted_95 : decode cX12_wanted 95 = .ok (.ireturn, 1) := by decide +kernel
theorem dX12_bestSeat_0 : decode cX12_bestSeat 0 = .ok (.iconst 0, 1) := by decide +kernel
theorem dX12_bestSeat_1 : decode cX12_bestSeat 1 = .ok (.istore_n 1, 1) := by decide +kernel
theorem dX12_bestSeat_2 : decode cX12_bestSeat 2 = .ok (.iconst 1, 1) := by decide +kernel
theorem dX12_bestSeat_3 : decode cX12_bestSeat 3 = .ok (.istore_n 2, 1) := by decide +kernel
theorem dX12_bestSeat_4 : decode cX12_bestSeat 4 = .ok (.iload_n 2, 1) := by decide +kernel
theorem dX12_bestSeat_5 : decode cX12_bestSeat 5 = .ok (.iconst 4, 1) := by decide +kernel
theorem dX12_bestSeat_6 : decode cX12_bestSeat 6 = .ok (.if_icmp .ge 42, 3) := by decide +kernel
theorem dX12_bestSeat_9 : decode cX12_bestSeat 9 = .ok (.aload_n 0, 1) := by decide +kernel
theorem dX12_bestSeat_10 : decode cX12_bestSeat 10 = .ok (.getfield 9, 3) := by decide +kernel
theorem dX12_bestSeat_13 : decode cX12_bestSeat 13 = .ok (.iload_n 2, 1) := by decide +kernel
theorem dX12_bestSeat_14 : decode cX12_bestSeat 14 = .ok (.aload_n 0, 1) := by decide +kernel
theorem dX12_bestSeat_15 : decode cX12_bestSeat 15 = .ok (.getfield 9, 3) := by decide +kernel
theorem dX12_bestSeat_18 : decode cX12_bestSeat 18 = .ok (.iconst 2, 1) := by decide +kernel
theorem dX12_bestSeat_19 : decode cX12_bestSeat 19 = .ok (.iaload, 1) := by decide +kernel
theorem dX12_bestSeat_20 : decode cX12_bestSeat 20 = .ok (.invokestatic 74, 3) := by decide +kernel
theorem dX12_bestSeat_23 : decode cX12_bestSeat 23 = .ok (.aload_n 0, 1) := by decide +kernel
theorem dX12_bestSeat_24 : decode cX12_bestSeat 24 = .ok (.getfield 9, 3) := by decide +kernel
theorem dX12_bestSeat_27 : decode cX12_bestSeat 27 = .ok (.iload_n 1, 1) := by decide +kernel
theorem dX12_bestSeat_28 : decode cX12_bestSeat 28 = .ok (.aload_n 0, 1) := by decide +kernel
theorem dX12_bestSeat_29 : decode cX12_bestSeat 29 = .ok (.getfield 9, 3) := by decide +kernel
theorem dX12_bestSeat_32 : decode cX12_bestSeat 32 = .ok (.iconst 2, 1) := by decide +kernel
theorem dX12_bestSeat_33 : decode cX12_bestSeat 33 = .ok (.iaload, 1) := by decide +kernel
theorem dX12_bestSeat_34 : decode cX12_bestSeat 34 = .ok (.invokestatic 74, 3) := by decide +kernel
theorem dX12_bestSeat_37 : decode cX12_bestSeat 37 = .ok (.if_icmp .le 5, 3) := by decide +kernel
theorem dX12_bestSeat_40 : decode cX12_bestSeat 40 = .ok (.iload_n 2, 1) := by decide +kernel
theorem dX12_bestSeat_41 : decode cX12_bestSeat 41 = .ok (.istore_n 1, 1) := by decide +kernel
theorem dX12_bestSeat_42 : decode cX12_bestSeat 42 = .ok (.iinc 2 1, 3) := by decide +kernel
theorem dX12_bestSeat_45 : decode cX12_bestSeat 45 = .ok (.goto (-41), 3) := by decide +kernel
theorem dX12_bestSeat_48 : decode cX12_bestSeat 48 = .ok (.iload_n 1, 1) := by decide +kernel
theorem dX12_bestSeat_49 : decode cX12_bestSeat 49 = .ok (.ireturn, 1) := by decide +kernel
theorem dX12_wrongPairs_0 : decode cX12_wrongPairs 0 = .ok (.aload_n 0, 1) := by decide +kernel
theorem dX12_wrongPairs_1 : decode cX12_wrongPairs 1 = .ok (.iload_n 1, 1) := by decide +kernel
theorem dX12_wrongPairs_2 : decode cX12_wrongPairs 2 = .ok (.iconst (-1), 1) := by decide +kernel
theorem dX12_wrongPairs_3 : decode cX12_wrongPairs 3 = .ok (.invokevirtual 127, 3) := by decide +kernel
theorem dX12_wrongPairs_6 : decode cX12_wrongPairs 6 = .ok (.istore_n 2, 1) := by decide +kernel
theorem dX12_wrongPairs_7 : decode cX12_wrongPairs 7 = .ok (.iload_n 2, 1) := by decide +kernel
theorem dX12_wrongPairs_8 : decode cX12_wrongPairs 8 = .ok (.ifCond .eq 5, 3) := by decide +kernel
theorem dX12_wrongPairs_11 : decode cX12_wrongPairs 11 = .ok (.iload_n 2, 1) := by decide +kernel
theorem dX12_wrongPairs_12 : decode cX12_wrongPairs 12 = .ok (.ireturn, 1) := by decide +kernel
theorem dX12_wrongPairs_13 : decode cX12_wrongPairs 13 = .ok (.aload_n 0, 1) := by decide +kernel
theorem dX12_wrongPairs_14 : decode cX12_wrongPairs 14 = .ok (.getfield 43, 3) := by decide +kernel
theorem dX12_wrongPairs_17 : decode cX12_wrongPairs 17 = .ok (.iload_n 1, 1) := by decide +kernel
theorem dX12_wrongPairs_18 : decode cX12_wrongPairs 18 = .ok (.iaload, 1) := by decide +kernel
theorem dX12_wrongPairs_19 : decode cX12_wrongPairs 19 = .ok (.iconst 2, 1) := by decide +kernel
theorem dX12_wrongPairs_20 : decode cX12_wrongPairs 20 = .ok (.irem, 1) := by decide +kernel
theorem dX12_wrongPairs_21 : decode cX12_wrongPairs 21 = .ok (.iconst 1, 1) := by decide +kernel
theorem dX12_wrongPairs_22 : decode cX12_wrongPairs 22 = .ok (.if_icmp .ne 6, 3) := by decide +kernel
theorem dX12_wrongPairs_25 : decode cX12_wrongPairs 25 = .ok (.bipush (-13), 2) := by decide +kernel
theorem dX12_wrongPairs_27 : decode cX12_wrongPairs 27 = .ok (.ireturn, 1) := by decide +kernel
theorem dX12_wrongPairs_28 : decode cX12_wrongPairs 28 = .ok (.iconst 0, 1) := by decide +kernel
theorem dX12_wrongPairs_29 : decode cX12_wrongPairs 29 = .ok (.istore_n 3, 1) := by decide +kernel
theorem dX12_wrongPairs_30 : decode cX12_wrongPairs 30 = .ok (.iload_n 3, 1) := by decide +kernel
theorem dX12_wrongPairs_31 : decode cX12_wrongPairs 31 = .ok (.aload_n 0, 1) := by decide +kernel
theorem dX12_wrongPairs_32 : decode cX12_wrongPairs 32 = .ok (.getfield 43, 3) := by decide +kernel
theorem dX12_wrongPairs_35 : decode cX12_wrongPairs 35 = .ok (.iload_n 1, 1) := by decide +kernel
theorem dX12_wrongPairs_36 : decode cX12_wrongPairs 36 = .ok (.iaload, 1) := by decide +kernel
theorem dX12_wrongPairs_37 : decode cX12_wrongPairs 37 = .ok (.if_icmp .ge 53, 3) := by decide +kernel
theorem dX12_wrongPairs_40 : decode cX12_wrongPairs 40 = .ok (.aload_n 0, 1) := by decide +kernel
theorem dX12_wrongPairs_41 : decode cX12_wrongPairs 41 = .ok (.getfield 46, 3) := by decide +kernel
theorem dX12_wrongPairs_44 : decode cX12_wrongPairs 44 = .ok (.bipush 100, 2) := by decide +kernel
theorem dX12_wrongPairs_46 : decode cX12_wrongPairs 46 = .ok (.iload_n 1, 1) := by decide +kernel
theorem dX12_wrongPairs_47 : decode cX12_wrongPairs 47 = .ok (.imul, 1) := by decide +kernel
theorem dX12_wrongPairs_48 : decode cX12_wrongPairs 48 = .ok (.iload_n 3, 1) := by decide +kernel
theorem dX12_wrongPairs_49 : decode cX12_wrongPairs 49 = .ok (.iadd, 1) := by decide +kernel
theorem dX12_wrongPairs_50 : decode cX12_wrongPairs 50 = .ok (.iaload, 1) := by decide +kernel
theorem dX12_wrongPairs_51 : decode cX12_wrongPairs 51 = .ok (.iconst 0, 1) := by decide +kernel
theorem dX12_wrongPairs_52 : decode cX12_wrongPairs 52 = .ok (.bipush 99, 2) := by decide +kernel
theorem dX12_wrongPairs_54 : decode cX12_wrongPairs 54 = .ok (.invokestatic 49, 3) := by decide +kernel
theorem dX12_wrongPairs_57 : decode cX12_wrongPairs 57 = .ok (.ifCond .eq 24, 3) := by decide +kernel
theorem dX12_wrongPairs_60 : decode cX12_wrongPairs 60 = .ok (.aload_n 0, 1) := by decide +kernel
theorem dX12_wrongPairs_61 : decode cX12_wrongPairs 61 = .ok (.getfield 46, 3) := by decide +kernel
theorem dX12_wrongPairs_64 : decode cX12_wrongPairs 64 = .ok (.bipush 100, 2) := by decide +kernel
theorem dX12_wrongPairs_66 : decode cX12_wrongPairs 66 = .ok (.iload_n 1, 1) := by decide +kernel
theorem dX12_wrongPairs_67 : decode cX12_wrongPairs 67 = .ok (.imul, 1) := by decide +kernel
theorem dX12_wrongPairs_68 : decode cX12_wrongPairs 68 = .ok (.iload_n 3, 1) := by decide +kernel
theorem dX12_wrongPairs_69 : decode cX12_wrongPairs 69 = .ok (.iadd, 1) := by decide +kernel
theorem dX12_wrongPairs_70 : decode cX12_wrongPairs 70 = .ok (.iconst 1, 1) := by decide +kernel
theorem dX12_wrongPairs_71 : decode cX12_wrongPairs 71 = .ok (.iadd, 1) := by decide +kernel
theorem dX12_wrongPairs_72 : decode cX12_wrongPairs 72 = .ok (.iaload, 1) := by decide +kernel
theorem dX12_wrongPairs_73 : decode cX12_wrongPairs 73 = .ok (.iconst 0, 1) := by decide +kernel
theorem dX12_wrongPairs_74 : decode cX12_wrongPairs 74 = .ok (.iconst 1, 1) := by decide +kernel
theorem dX12_wrongPairs_75 : decode cX12_wrongPairs 75 = .ok (.invokestatic 49, 3) := by decide +kernel
theorem dX12_wrongPairs_78 : decode cX12_wrongPairs 78 = .ok (.ifCond .ne 6, 3) := by decide +kernel
theorem dX12_wrongPairs_81 : decode cX12_wrongPairs 81 = .ok (.bipush (-13), 2) := by decide +kernel
theorem dX12_wrongPairs_83 : decode cX12_wrongPairs 83 = .ok (.ireturn, 1) := by decide +kernel
theorem dX12_wrongPairs_84 : decode cX12_wrongPairs 84 = .ok (.iinc 3 2, 3) := by decide +kernel
theorem dX12_wrongPairs_87 : decode cX12_wrongPairs 87 = .ok (.goto (-57), 3) := by decide +kernel
theorem dX12_wrongPairs_90 : decode cX12_wrongPairs 90 = .ok (.iconst 0, 1) := by decide +kernel
theorem dX12_wrongPairs_91 : decode cX12_wrongPairs 91 = .ok (.ireturn, 1) := by decide +kernel
theorem dX12_isTold_0 : decode cX12_isTold 0 = .ok (.iconst 0, 1) := by decide +kernel
theorem dX12_isTold_1 : decode cX12_isTold 1 = .ok (.istore_n 3, 1) := by decide +kernel
theorem dX12_isTold_2 : decode cX12_isTold 2 = .ok (.iload_n 3, 1) := by decide +kernel
theorem dX12_isTold_3 : decode cX12_isTold 3 = .ok (.aload_n 0, 1) := by decide +kernel
theorem dX12_isTold_4 : decode cX12_isTold 4 = .ok (.getfield 43, 3) := by decide +kernel
theorem dX12_isTold_7 : decode cX12_isTold 7 = .ok (.iload_n 1, 1) := by decide +kernel
theorem dX12_isTold_8 : decode cX12_isTold 8 = .ok (.iaload, 1) := by decide +kernel
theorem dX12_isTold_9 : decode cX12_isTold 9 = .ok (.if_icmp .ge 104, 3) := by decide +kernel
theorem dX12_isTold_12 : decode cX12_isTold 12 = .ok (.iconst 0, 1) := by decide +kernel
theorem dX12_isTold_13 : decode cX12_isTold 13 = .ok (.istore 4, 2) := by decide +kernel
theorem dX12_isTold_15 : decode cX12_isTold 15 = .ok (.iconst 0, 1) := by decide +kernel
theorem dX12_isTold_16 : decode cX12_isTold 16 = .ok (.istore 5, 2) := by decide +kernel
theorem dX12_isTold_18 : decode cX12_isTold 18 = .ok (.iload 5, 2) := by decide +kernel
theorem dX12_isTold_20 : decode cX12_isTold 20 = .ok (.aload_n 0, 1) := by decide +kernel
theorem dX12_isTold_21 : decode cX12_isTold 21 = .ok (.getfield 9, 3) := by decide +kernel
theorem dX12_isTold_24 : decode cX12_isTold 24 = .ok (.iconst 0, 1) := by decide +kernel
theorem dX12_isTold_25 : decode cX12_isTold 25 = .ok (.iaload, 1) := by decide +kernel
theorem dX12_isTold_26 : decode cX12_isTold 26 = .ok (.if_icmp .ge 52, 3) := by decide +kernel
theorem dX12_isTold_29 : decode cX12_isTold 29 = .ok (.iload 4, 2) := by decide +kernel
theorem dX12_isTold_31 : decode cX12_isTold 31 = .ok (.iload_n 2, 1) := by decide +kernel
theorem dX12_isTold_32 : decode cX12_isTold 32 = .ok (.iload 5, 2) := by decide +kernel
theorem dX12_isTold_34 : decode cX12_isTold 34 = .ok (.ishr, 1) := by decide +kernel
theorem dX12_isTold_35 : decode cX12_isTold 35 = .ok (.iconst 1, 1) := by decide +kernel
theorem dX12_isTold_36 : decode cX12_isTold 36 = .ok (.iand, 1) := by decide +kernel
theorem dX12_isTold_37 : decode cX12_isTold 37 = .ok (.iconst 1, 1) := by decide +kernel
theorem dX12_isTold_38 : decode cX12_isTold 38 = .ok (.if_icmp .ne 30, 3) := by decide +kernel
theorem dX12_isTold_41 : decode cX12_isTold 41 = .ok (.aload_n 0, 1) := by decide +kernel
theorem dX12_isTold_42 : decode cX12_isTold 42 = .ok (.getfield 9, 3) := by decide +kernel
theorem dX12_isTold_45 : decode cX12_isTold 45 = .ok (.iload 5, 2) := by decide +kernel
theorem dX12_isTold_47 : decode cX12_isTold 47 = .ok (.aload_n 0, 1) := by decide +kernel
theorem dX12_isTold_48 : decode cX12_isTold 48 = .ok (.getfield 46, 3) := by decide +kernel
theorem dX12_isTold_51 : decode cX12_isTold 51 = .ok (.bipush 100, 2) := by decide +kernel
theorem dX12_isTold_53 : decode cX12_isTold 53 = .ok (.iload_n 1, 1) := by decide +kernel
theorem dX12_isTold_54 : decode cX12_isTold 54 = .ok (.imul, 1) := by decide +kernel
theorem dX12_isTold_55 : decode cX12_isTold 55 = .ok (.iload_n 3, 1) := by decide +kernel
theorem dX12_isTold_56 : decode cX12_isTold 56 = .ok (.iadd, 1) := by decide +kernel
theorem dX12_isTold_57 : decode cX12_isTold 57 = .ok (.iaload, 1) := by decide +kernel
theorem dX12_isTold_58 : decode cX12_isTold 58 = .ok (.invokestatic 60, 3) := by decide +kernel
theorem dX12_isTold_61 : decode cX12_isTold 61 = .ok (.ifCond .le 7, 3) := by decide +kernel
theorem dX12_isTold_64 : decode cX12_isTold 64 = .ok (.iconst 1, 1) := by decide +kernel
theorem dX12_isTold_65 : decode cX12_isTold 65 = .ok (.goto 4, 3) := by decide +kernel
theorem dX12_isTold_68 : decode cX12_isTold 68 = .ok (.iconst 0, 1) := by decide +kernel
theorem dX12_isTold_69 : decode cX12_isTold 69 = .ok (.ior, 1) := by decide +kernel
theorem dX12_isTold_70 : decode cX12_isTold 70 = .ok (.istore 4, 2) := by decide +kernel
theorem dX12_isTold_72 : decode cX12_isTold 72 = .ok (.iinc 5 1, 3) := by decide +kernel
theorem dX12_isTold_75 : decode cX12_isTold 75 = .ok (.goto (-57), 3) := by decide +kernel
theorem dX12_isTold_78 : decode cX12_isTold 78 = .ok (.iload 4, 2) := by decide +kernel
theorem dX12_isTold_80 : decode cX12_isTold 80 = .ok (.aload_n 0, 1) := by decide +kernel
theorem dX12_isTold_81 : decode cX12_isTold 81 = .ok (.getfield 46, 3) := by decide +kernel
theorem dX12_isTold_84 : decode cX12_isTold 84 = .ok (.bipush 100, 2) := by decide +kernel
theorem dX12_isTold_86 : decode cX12_isTold 86 = .ok (.iload_n 1, 1) := by decide +kernel
theorem dX12_isTold_87 : decode cX12_isTold 87 = .ok (.imul, 1) := by decide +kernel
theorem dX12_isTold_88 : decode cX12_isTold 88 = .ok (.iload_n 3, 1) := by decide +kernel
theorem dX12_isTold_89 : decode cX12_isTold 89 = .ok (.iadd, 1) := by decide +kernel
theorem dX12_isTold_90 : decode cX12_isTold 90 = .ok (.iconst 1, 1) := by decide +kernel
theorem dX12_isTold_91 : decode cX12_isTold 91 = .ok (.iadd, 1) := by decide +kernel
theorem dX12_isTold_92 : decode cX12_isTold 92 = .ok (.iaload, 1) := by decide +kernel
theorem dX12_isTold_93 : decode cX12_isTold 93 = .ok (.iconst 1, 1) := by decide +kernel
theorem dX12_isTold_94 : decode cX12_isTold 94 = .ok (.if_icmp .ne 7, 3) := by decide +kernel
theorem dX12_isTold_97 : decode cX12_isTold 97 = .ok (.iconst 1, 1) := by decide +kernel
theorem dX12_isTold_98 : decode cX12_isTold 98 = .ok (.goto 4, 3) := by decide +kernel
theorem dX12_isTold_101 : decode cX12_isTold 101 = .ok (.iconst 0, 1) := by decide +kernel
theorem dX12_isTold_102 : decode cX12_isTold 102 = .ok (.if_icmp .eq 5, 3) := by decide +kernel
theorem dX12_isTold_105 : decode cX12_isTold 105 = .ok (.iconst 0, 1) := by decide +kernel
theorem dX12_isTold_106 : decode cX12_isTold 106 = .ok (.ireturn, 1) := by decide +kernel
theorem dX12_isTold_107 : decode cX12_isTold 107 = .ok (.iinc 3 2, 3) := by decide +kernel
theorem dX12_isTold_110 : decode cX12_isTold 110 = .ok (.goto (-108), 3) := by decide +kernel
theorem dX12_isTold_113 : decode cX12_isTold 113 = .ok (.iconst 1, 1) := by decide +kernel
theorem dX12_isTold_114 : decode cX12_isTold 114 = .ok (.ireturn, 1) := by decide +kernel
theorem dX12_whichOf_0 : decode cX12_whichOf 0 = .ok (.iconst 0, 1) := by decide +kernel
theorem dX12_whichOf_1 : decode cX12_whichOf 1 = .ok (.istore_n 2, 1) := by decide +kernel
theorem dX12_whichOf_2 : decode cX12_whichOf 2 = .ok (.iconst 0, 1) := by decide +kernel
theorem dX12_whichOf_3 : decode cX12_whichOf 3 = .ok (.istore_n 3, 1) := by decide +kernel
theorem dX12_whichOf_4 : decode cX12_whichOf 4 = .ok (.iload_n 3, 1) := by decide +kernel
theorem dX12_whichOf_5 : decode cX12_whichOf 5 = .ok (.aload_n 0, 1) := by decide +kernel
theorem dX12_whichOf_6 : decode cX12_whichOf 6 = .ok (.getfield 9, 3) := by decide +kernel
theorem dX12_whichOf_9 : decode cX12_whichOf 9 = .ok (.iconst 0, 1) := by decide +kernel
theorem dX12_whichOf_10 : decode cX12_whichOf 10 = .ok (.iaload, 1) := by decide +kernel
theorem dX12_whichOf_11 : decode cX12_whichOf 11 = .ok (.if_icmp .ge 30, 3) := by decide +kernel
theorem dX12_whichOf_14 : decode cX12_whichOf 14 = .ok (.iload_n 2, 1) := by decide +kernel
theorem dX12_whichOf_15 : decode cX12_whichOf 15 = .ok (.aload_n 0, 1) := by decide +kernel
theorem dX12_whichOf_16 : decode cX12_whichOf 16 = .ok (.iload_n 1, 1) := by decide +kernel
theorem dX12_whichOf_17 : decode cX12_whichOf 17 = .ok (.iconst 1, 1) := by decide +kernel
theorem dX12_whichOf_18 : decode cX12_whichOf 18 = .ok (.iload_n 3, 1) := by decide +kernel
theorem dX12_whichOf_19 : decode cX12_whichOf 19 = .ok (.ishl, 1) := by decide +kernel
theorem dX12_whichOf_20 : decode cX12_whichOf 20 = .ok (.invokevirtual 156, 3) := by decide +kernel
theorem dX12_whichOf_23 : decode cX12_whichOf 23 = .ok (.ifCond .eq 9, 3) := by decide +kernel
theorem dX12_whichOf_26 : decode cX12_whichOf 26 = .ok (.iconst 1, 1) := by decide +kernel
theorem dX12_whichOf_27 : decode cX12_whichOf 27 = .ok (.iload_n 3, 1) := by decide +kernel
theorem dX12_whichOf_28 : decode cX12_whichOf 28 = .ok (.ishl, 1) := by decide +kernel
theorem dX12_whichOf_29 : decode cX12_whichOf 29 = .ok (.goto 4, 3) := by decide +kernel
theorem dX12_whichOf_32 : decode cX12_whichOf 32 = .ok (.iconst 0, 1) := by decide +kernel
theorem dX12_whichOf_33 : decode cX12_whichOf 33 = .ok (.ior, 1) := by decide +kernel
theorem dX12_whichOf_34 : decode cX12_whichOf 34 = .ok (.istore_n 2, 1) := by decide +kernel
theorem dX12_whichOf_35 : decode cX12_whichOf 35 = .ok (.iinc 3 1, 3) := by decide +kernel
theorem dX12_whichOf_38 : decode cX12_whichOf 38 = .ok (.goto (-34), 3) := by decide +kernel
theorem dX12_whichOf_41 : decode cX12_whichOf 41 = .ok (.iload_n 2, 1) := by decide +kernel
theorem dX12_whichOf_42 : decode cX12_whichOf 42 = .ok (.ireturn, 1) := by decide +kernel
theorem dX12_which_0 : decode cX12_which 0 = .ok (.iload_n 2, 1) := by decide +kernel
theorem dX12_which_1 : decode cX12_which 1 = .ok (.iconst 0, 1) := by decide +kernel
theorem dX12_which_2 : decode cX12_which 2 = .ok (.iconst 1, 1) := by decide +kernel
theorem dX12_which_3 : decode cX12_which 3 = .ok (.invokestatic 49, 3) := by decide +kernel
theorem dX12_which_6 : decode cX12_which 6 = .ok (.ifCond .ne 5, 3) := by decide +kernel
theorem dX12_which_9 : decode cX12_which 9 = .ok (.iconst (-1), 1) := by decide +kernel
theorem dX12_which_10 : decode cX12_which 10 = .ok (.ireturn, 1) := by decide +kernel
theorem dX12_which_11 : decode cX12_which 11 = .ok (.aload_n 0, 1) := by decide +kernel
theorem dX12_which_12 : decode cX12_which 12 = .ok (.iload_n 1, 1) := by decide +kernel
theorem dX12_which_13 : decode cX12_which 13 = .ok (.invokevirtual 159, 3) := by decide +kernel
theorem dX12_which_16 : decode cX12_which 16 = .ok (.istore_n 3, 1) := by decide +kernel
theorem dX12_which_17 : decode cX12_which 17 = .ok (.iload_n 3, 1) := by decide +kernel
theorem dX12_which_18 : decode cX12_which 18 = .ok (.ifCond .eq 5, 3) := by decide +kernel
theorem dX12_which_21 : decode cX12_which 21 = .ok (.iload_n 3, 1) := by decide +kernel
theorem dX12_which_22 : decode cX12_which 22 = .ok (.ireturn, 1) := by decide +kernel
theorem dX12_which_23 : decode cX12_which 23 = .ok (.iload_n 2, 1) := by decide +kernel
theorem dX12_which_24 : decode cX12_which 24 = .ok (.ifCond .ne 11, 3) := by decide +kernel
theorem dX12_which_27 : decode cX12_which 27 = .ok (.aload_n 0, 1) := by decide +kernel
theorem dX12_which_28 : decode cX12_which 28 = .ok (.iload_n 1, 1) := by decide +kernel
theorem dX12_which_29 : decode cX12_which 29 = .ok (.invokevirtual 162, 3) := by decide +kernel
theorem dX12_which_32 : decode cX12_which 32 = .ok (.goto 11, 3) := by decide +kernel
theorem dX12_which_35 : decode cX12_which 35 = .ok (.aload_n 0, 1) := by decide +kernel
theorem dX12_which_36 : decode cX12_which 36 = .ok (.iload_n 1, 1) := by decide +kernel
theorem dX12_which_37 : decode cX12_which 37 = .ok (.invokevirtual 162, 3) := by decide +kernel
theorem dX12_which_40 : decode cX12_which 40 = .ok (.invokestatic 153, 3) := by decide +kernel
theorem dX12_which_43 : decode cX12_which 43 = .ok (.ireturn, 1) := by decide +kernel
theorem dX12_two_0 : decode cX12_two 0 = .ok (.iload_n 2, 1) := by decide +kernel
theorem dX12_two_1 : decode cX12_two 1 = .ok (.iconst 0, 1) := by decide +kernel
theorem dX12_two_2 : decode cX12_two 2 = .ok (.iconst 1, 1) := by decide +kernel
theorem dX12_two_3 : decode cX12_two 3 = .ok (.invokestatic 49, 3) := by decide +kernel
theorem dX12_two_6 : decode cX12_two 6 = .ok (.ifCond .ne 5, 3) := by decide +kernel
theorem dX12_two_9 : decode cX12_two 9 = .ok (.iconst (-1), 1) := by decide +kernel
theorem dX12_two_10 : decode cX12_two 10 = .ok (.ireturn, 1) := by decide +kernel
theorem dX12_two_11 : decode cX12_two 11 = .ok (.aload_n 0, 1) := by decide +kernel
theorem dX12_two_12 : decode cX12_two 12 = .ok (.iload_n 1, 1) := by decide +kernel
theorem dX12_two_13 : decode cX12_two 13 = .ok (.invokevirtual 159, 3) := by decide +kernel
theorem dX12_two_16 : decode cX12_two 16 = .ok (.istore_n 3, 1) := by decide +kernel
theorem dX12_two_17 : decode cX12_two 17 = .ok (.iload_n 3, 1) := by decide +kernel
theorem dX12_two_18 : decode cX12_two 18 = .ok (.ifCond .eq 5, 3) := by decide +kernel
theorem dX12_two_21 : decode cX12_two 21 = .ok (.iload_n 3, 1) := by decide +kernel
theorem dX12_two_22 : decode cX12_two 22 = .ok (.ireturn, 1) := by decide +kernel
theorem dX12_two_23 : decode cX12_two 23 = .ok (.aload_n 0, 1) := by decide +kernel
theorem dX12_two_24 : decode cX12_two 24 = .ok (.iload_n 1, 1) := by decide +kernel
theorem dX12_two_25 : decode cX12_two 25 = .ok (.invokevirtual 162, 3) := by decide +kernel
theorem dX12_two_28 : decode cX12_two 28 = .ok (.istore 4, 2) := by decide +kernel
theorem dX12_two_30 : decode cX12_two 30 = .ok (.iconst 0, 1) := by decide +kernel
theorem dX12_two_31 : decode cX12_two 31 = .ok (.istore 5, 2) := by decide +kernel
theorem dX12_two_33 : decode cX12_two 33 = .ok (.bipush (-4), 2) := by decide +kernel
theorem dX12_two_35 : decode cX12_two 35 = .ok (.istore 6, 2) := by decide +kernel
theorem dX12_two_37 : decode cX12_two 37 = .ok (.iconst 0, 1) := by decide +kernel
theorem dX12_two_38 : decode cX12_two 38 = .ok (.istore 7, 2) := by decide +kernel
theorem dX12_two_40 : decode cX12_two 40 = .ok (.iload 7, 2) := by decide +kernel
theorem dX12_two_42 : decode cX12_two 42 = .ok (.aload_n 0, 1) := by decide +kernel
theorem dX12_two_43 : decode cX12_two 43 = .ok (.getfield 9, 3) := by decide +kernel
theorem dX12_two_46 : decode cX12_two 46 = .ok (.iconst 0, 1) := by decide +kernel
theorem dX12_two_47 : decode cX12_two 47 = .ok (.iaload, 1) := by decide +kernel
theorem dX12_two_48 : decode cX12_two 48 = .ok (.if_icmp .ge 87, 3) := by decide +kernel
theorem dX12_two_51 : decode cX12_two 51 = .ok (.iload 7, 2) := by decide +kernel
theorem dX12_two_53 : decode cX12_two 53 = .ok (.iconst 1, 1) := by decide +kernel
theorem dX12_two_54 : decode cX12_two 54 = .ok (.iadd, 1) := by decide +kernel
theorem dX12_two_55 : decode cX12_two 55 = .ok (.istore 8, 2) := by decide +kernel
theorem dX12_two_57 : decode cX12_two 57 = .ok (.iload 8, 2) := by decide +kernel
theorem dX12_two_59 : decode cX12_two 59 = .ok (.aload_n 0, 1) := by decide +kernel
theorem dX12_two_60 : decode cX12_two 60 = .ok (.getfield 9, 3) := by decide +kernel
theorem dX12_two_63 : decode cX12_two 63 = .ok (.iconst 0, 1) := by decide +kernel
theorem dX12_two_64 : decode cX12_two 64 = .ok (.iaload, 1) := by decide +kernel
theorem dX12_two_65 : decode cX12_two 65 = .ok (.if_icmp .ge 64, 3) := by decide +kernel
theorem dX12_two_68 : decode cX12_two 68 = .ok (.iconst 1, 1) := by decide +kernel
theorem dX12_two_69 : decode cX12_two 69 = .ok (.iload 7, 2) := by decide +kernel
theorem dX12_two_71 : decode cX12_two 71 = .ok (.ishl, 1) := by decide +kernel
theorem dX12_two_72 : decode cX12_two 72 = .ok (.iconst 1, 1) := by decide +kernel
theorem dX12_two_73 : decode cX12_two 73 = .ok (.iload 8, 2) := by decide +kernel
theorem dX12_two_75 : decode cX12_two 75 = .ok (.ishl, 1) := by decide +kernel
theorem dX12_two_76 : decode cX12_two 76 = .ok (.ior, 1) := by decide +kernel
theorem dX12_two_77 : decode cX12_two 77 = .ok (.istore 9, 2) := by decide +kernel
theorem dX12_two_79 : decode cX12_two 79 = .ok (.iload 4, 2) := by decide +kernel
theorem dX12_two_81 : decode cX12_two 81 = .ok (.iload 9, 2) := by decide +kernel
theorem dX12_two_83 : decode cX12_two 83 = .ok (.iand, 1) := by decide +kernel
theorem dX12_two_84 : decode cX12_two 84 = .ok (.ifCond .ne 39, 3) := by decide +kernel
theorem dX12_two_87 : decode cX12_two 87 = .ok (.aload_n 0, 1) := by decide +kernel
theorem dX12_two_88 : decode cX12_two 88 = .ok (.iload_n 1, 1) := by decide +kernel
theorem dX12_two_89 : decode cX12_two 89 = .ok (.iload 9, 2) := by decide +kernel
theorem dX12_two_91 : decode cX12_two 91 = .ok (.invokevirtual 156, 3) := by decide +kernel
theorem dX12_two_94 : decode cX12_two 94 = .ok (.ifCond .ne 6, 3) := by decide +kernel
theorem dX12_two_97 : decode cX12_two 97 = .ok (.goto 26, 3) := by decide +kernel
theorem dX12_two_100 : decode cX12_two 100 = .ok (.iload 5, 2) := by decide +kernel
theorem dX12_two_102 : decode cX12_two 102 = .ok (.ifCond .ne 14, 3) := by decide +kernel
theorem dX12_two_105 : decode cX12_two 105 = .ok (.bipush 10, 2) := by decide +kernel
theorem dX12_two_107 : decode cX12_two 107 = .ok (.iload 7, 2) := by decide +kernel
theorem dX12_two_109 : decode cX12_two 109 = .ok (.imul, 1) := by decide +kernel
theorem dX12_two_110 : decode cX12_two 110 = .ok (.iload 8, 2) := by decide +kernel
theorem dX12_two_112 : decode cX12_two 112 = .ok (.iadd, 1) := by decide +kernel
theorem dX12_two_113 : decode cX12_two 113 = .ok (.goto 5, 3) := by decide +kernel
theorem dX12_two_116 : decode cX12_two 116 = .ok (.iload 6, 2) := by decide +kernel
theorem dX12_two_118 : decode cX12_two 118 = .ok (.istore 6, 2) := by decide +kernel
theorem dX12_two_120 : decode cX12_two 120 = .ok (.iinc 5 1, 3) := by decide +kernel
theorem dX12_two_123 : decode cX12_two 123 = .ok (.iinc 8 1, 3) := by decide +kernel
theorem dX12_two_126 : decode cX12_two 126 = .ok (.goto (-69), 3) := by decide +kernel
theorem dX12_two_129 : decode cX12_two 129 = .ok (.iinc 7 1, 3) := by decide +kernel
theorem dX12_two_132 : decode cX12_two 132 = .ok (.goto (-92), 3) := by decide +kernel
theorem dX12_two_135 : decode cX12_two 135 = .ok (.iload_n 2, 1) := by decide +kernel
theorem dX12_two_136 : decode cX12_two 136 = .ok (.ifCond .ne 8, 3) := by decide +kernel
theorem dX12_two_139 : decode cX12_two 139 = .ok (.iload 5, 2) := by decide +kernel
theorem dX12_two_141 : decode cX12_two 141 = .ok (.goto 5, 3) := by decide +kernel
theorem dX12_two_144 : decode cX12_two 144 = .ok (.iload 6, 2) := by decide +kernel
theorem dX12_two_146 : decode cX12_two 146 = .ok (.ireturn, 1) := by decide +kernel
theorem dX12_tryNext_0 : decode cX12_tryNext 0 = .ok (.aload_n 0, 1) := by decide +kernel
theorem dX12_tryNext_1 : decode cX12_tryNext 1 = .ok (.iload_n 1, 1) := by decide +kernel
theorem dX12_tryNext_2 : decode cX12_tryNext 2 = .ok (.invokevirtual 159, 3) := by decide +kernel
theorem dX12_tryNext_5 : decode cX12_tryNext 5 = .ok (.istore_n 2, 1) := by decide +kernel
theorem dX12_tryNext_6 : decode cX12_tryNext 6 = .ok (.iload_n 2, 1) := by decide +kernel
theorem dX12_tryNext_7 : decode cX12_tryNext 7 = .ok (.ifCond .eq 5, 3) := by decide +kernel
theorem dX12_tryNext_10 : decode cX12_tryNext 10 = .ok (.iload_n 2, 1) := by decide +kernel
theorem dX12_tryNext_11 : decode cX12_tryNext 11 = .ok (.ireturn, 1) := by decide +kernel
theorem dX12_tryNext_12 : decode cX12_tryNext 12 = .ok (.aload_n 0, 1) := by decide +kernel
theorem dX12_tryNext_13 : decode cX12_tryNext 13 = .ok (.iload_n 1, 1) := by decide +kernel
theorem dX12_tryNext_14 : decode cX12_tryNext 14 = .ok (.invokevirtual 162, 3) := by decide +kernel
theorem dX12_tryNext_17 : decode cX12_tryNext 17 = .ok (.istore_n 3, 1) := by decide +kernel
theorem dX12_tryNext_18 : decode cX12_tryNext 18 = .ok (.iload_n 3, 1) := by decide +kernel
theorem dX12_tryNext_19 : decode cX12_tryNext 19 = .ok (.invokestatic 153, 3) := by decide +kernel
theorem dX12_tryNext_22 : decode cX12_tryNext 22 = .ok (.iconst 2, 1) := by decide +kernel
theorem dX12_tryNext_23 : decode cX12_tryNext 23 = .ok (.if_icmp .ge 6, 3) := by decide +kernel
theorem dX12_tryNext_26 : decode cX12_tryNext 26 = .ok (.bipush (-4), 2) := by decide +kernel
theorem dX12_tryNext_28 : decode cX12_tryNext 28 = .ok (.ireturn, 1) := by decide +kernel
theorem dX12_tryNext_29 : decode cX12_tryNext 29 = .ok (.iconst 0, 1) := by decide +kernel
theorem dX12_tryNext_30 : decode cX12_tryNext 30 = .ok (.istore 4, 2) := by decide +kernel
theorem dX12_tryNext_32 : decode cX12_tryNext 32 = .ok (.iconst (-1), 1) := by decide +kernel
theorem dX12_tryNext_33 : decode cX12_tryNext 33 = .ok (.istore 5, 2) := by decide +kernel
theorem dX12_tryNext_35 : decode cX12_tryNext 35 = .ok (.iconst 0, 1) := by decide +kernel
theorem dX12_tryNext_36 : decode cX12_tryNext 36 = .ok (.istore 6, 2) := by decide +kernel
theorem dX12_tryNext_38 : decode cX12_tryNext 38 = .ok (.iload 6, 2) := by decide +kernel
theorem dX12_tryNext_40 : decode cX12_tryNext 40 = .ok (.bipush 100, 2) := by decide +kernel
theorem dX12_tryNext_42 : decode cX12_tryNext 42 = .ok (.if_icmp .ge 130, 3) := by decide +kernel
theorem dX12_tryNext_45 : decode cX12_tryNext 45 = .ok (.iconst 0, 1) := by decide +kernel
theorem dX12_tryNext_46 : decode cX12_tryNext 46 = .ok (.istore 7, 2) := by decide +kernel
theorem dX12_tryNext_48 : decode cX12_tryNext 48 = .ok (.iconst 0, 1) := by decide +kernel
theorem dX12_tryNext_49 : decode cX12_tryNext 49 = .ok (.istore 8, 2) := by decide +kernel
theorem dX12_tryNext_51 : decode cX12_tryNext 51 = .ok (.iconst 0, 1) := by decide +kernel
theorem dX12_tryNext_52 : decode cX12_tryNext 52 = .ok (.istore 9, 2) := by decide +kernel
theorem dX12_tryNext_54 : decode cX12_tryNext 54 = .ok (.iload 9, 2) := by decide +kernel
theorem dX12_tryNext_56 : decode cX12_tryNext 56 = .ok (.aload_n 0, 1) := by decide +kernel
theorem dX12_tryNext_57 : decode cX12_tryNext 57 = .ok (.getfield 9, 3) := by decide +kernel
theorem dX12_tryNext_60 : decode cX12_tryNext 60 = .ok (.iconst 0, 1) := by decide +kernel
theorem dX12_tryNext_61 : decode cX12_tryNext 61 = .ok (.iaload, 1) := by decide +kernel
theorem dX12_tryNext_62 : decode cX12_tryNext 62 = .ok (.if_icmp .ge 70, 3) := by decide +kernel
theorem dX12_tryNext_65 : decode cX12_tryNext 65 = .ok (.iload_n 3, 1) := by decide +kernel
theorem dX12_tryNext_66 : decode cX12_tryNext 66 = .ok (.iload 9, 2) := by decide +kernel
theorem dX12_tryNext_68 : decode cX12_tryNext 68 = .ok (.ishr, 1) := by decide +kernel
theorem dX12_tryNext_69 : decode cX12_tryNext 69 = .ok (.iconst 1, 1) := by decide +kernel
theorem dX12_tryNext_70 : decode cX12_tryNext 70 = .ok (.iand, 1) := by decide +kernel
theorem dX12_tryNext_71 : decode cX12_tryNext 71 = .ok (.ifCond .ne 6, 3) := by decide +kernel
theorem dX12_tryNext_74 : decode cX12_tryNext 74 = .ok (.goto 52, 3) := by decide +kernel
theorem dX12_tryNext_77 : decode cX12_tryNext 77 = .ok (.aload_n 0, 1) := by decide +kernel
theorem dX12_tryNext_78 : decode cX12_tryNext 78 = .ok (.getfield 9, 3) := by decide +kernel
theorem dX12_tryNext_81 : decode cX12_tryNext 81 = .ok (.iload 9, 2) := by decide +kernel
theorem dX12_tryNext_83 : decode cX12_tryNext 83 = .ok (.iload 6, 2) := by decide +kernel
theorem dX12_tryNext_85 : decode cX12_tryNext 85 = .ok (.invokestatic 60, 3) := by decide +kernel
theorem dX12_tryNext_88 : decode cX12_tryNext 88 = .ok (.ifCond .le 22, 3) := by decide +kernel
theorem dX12_tryNext_91 : decode cX12_tryNext 91 = .ok (.iload 7, 2) := by decide +kernel
theorem dX12_tryNext_93 : decode cX12_tryNext 93 = .ok (.aload_n 0, 1) := by decide +kernel
theorem dX12_tryNext_94 : decode cX12_tryNext 94 = .ok (.getfield 9, 3) := by decide +kernel
theorem dX12_tryNext_97 : decode cX12_tryNext 97 = .ok (.iload 9, 2) := by decide +kernel
theorem dX12_tryNext_99 : decode cX12_tryNext 99 = .ok (.iconst 3, 1) := by decide +kernel
theorem dX12_tryNext_100 : decode cX12_tryNext 100 = .ok (.invokestatic 53, 3) := by decide +kernel
theorem dX12_tryNext_103 : decode cX12_tryNext 103 = .ok (.iaload, 1) := by decide +kernel
theorem dX12_tryNext_104 : decode cX12_tryNext 104 = .ok (.iadd, 1) := by decide +kernel
theorem dX12_tryNext_105 : decode cX12_tryNext 105 = .ok (.istore 7, 2) := by decide +kernel
theorem dX12_tryNext_107 : decode cX12_tryNext 107 = .ok (.goto 19, 3) := by decide +kernel
theorem dX12_tryNext_110 : decode cX12_tryNext 110 = .ok (.iload 8, 2) := by decide +kernel
theorem dX12_tryNext_112 : decode cX12_tryNext 112 = .ok (.aload_n 0, 1) := by decide +kernel
theorem dX12_tryNext_113 : decode cX12_tryNext 113 = .ok (.getfield 9, 3) := by decide +kernel
theorem dX12_tryNext_116 : decode cX12_tryNext 116 = .ok (.iload 9, 2) := by decide +kernel
theorem dX12_tryNext_118 : decode cX12_tryNext 118 = .ok (.iconst 3, 1) := by decide +kernel
theorem dX12_tryNext_119 : decode cX12_tryNext 119 = .ok (.invokestatic 53, 3) := by decide +kernel
theorem dX12_tryNext_122 : decode cX12_tryNext 122 = .ok (.iaload, 1) := by decide +kernel
theorem dX12_tryNext_123 : decode cX12_tryNext 123 = .ok (.iadd, 1) := by decide +kernel
theorem dX12_tryNext_124 : decode cX12_tryNext 124 = .ok (.istore 8, 2) := by decide +kernel
theorem dX12_tryNext_126 : decode cX12_tryNext 126 = .ok (.iinc 9 1, 3) := by decide +kernel
theorem dX12_tryNext_129 : decode cX12_tryNext 129 = .ok (.goto (-75), 3) := by decide +kernel
theorem dX12_tryNext_132 : decode cX12_tryNext 132 = .ok (.iload 7, 2) := by decide +kernel
theorem dX12_tryNext_134 : decode cX12_tryNext 134 = .ok (.iload 8, 2) := by decide +kernel
theorem dX12_tryNext_136 : decode cX12_tryNext 136 = .ok (.if_icmp .ge 8, 3) := by decide +kernel
theorem dX12_tryNext_139 : decode cX12_tryNext 139 = .ok (.iload 7, 2) := by decide +kernel
theorem dX12_tryNext_141 : decode cX12_tryNext 141 = .ok (.goto 5, 3) := by decide +kernel
theorem dX12_tryNext_144 : decode cX12_tryNext 144 = .ok (.iload 8, 2) := by decide +kernel
theorem dX12_tryNext_146 : decode cX12_tryNext 146 = .ok (.istore 9, 2) := by decide +kernel
theorem dX12_tryNext_148 : decode cX12_tryNext 148 = .ok (.iload 9, 2) := by decide +kernel
theorem dX12_tryNext_150 : decode cX12_tryNext 150 = .ok (.iload 5, 2) := by decide +kernel
theorem dX12_tryNext_152 : decode cX12_tryNext 152 = .ok (.if_icmp .gt 6, 3) := by decide +kernel
theorem dX12_tryNext_155 : decode cX12_tryNext 155 = .ok (.goto 11, 3) := by decide +kernel
theorem dX12_tryNext_158 : decode cX12_tryNext 158 = .ok (.iload 6, 2) := by decide +kernel
theorem dX12_tryNext_160 : decode cX12_tryNext 160 = .ok (.istore 4, 2) := by decide +kernel
theorem dX12_tryNext_162 : decode cX12_tryNext 162 = .ok (.iload 9, 2) := by decide +kernel
theorem dX12_tryNext_164 : decode cX12_tryNext 164 = .ok (.istore 5, 2) := by decide +kernel
theorem dX12_tryNext_166 : decode cX12_tryNext 166 = .ok (.iinc 6 1, 3) := by decide +kernel
theorem dX12_tryNext_169 : decode cX12_tryNext 169 = .ok (.goto (-131), 3) := by decide +kernel
theorem dX12_tryNext_172 : decode cX12_tryNext 172 = .ok (.iload 4, 2) := by decide +kernel
theorem dX12_tryNext_174 : decode cX12_tryNext 174 = .ok (.ireturn, 1) := by decide +kernel
theorem dX12_weightOf_0 : decode cX12_weightOf 0 = .ok (.iconst 0, 1) := by decide +kernel
theorem dX12_weightOf_1 : decode cX12_weightOf 1 = .ok (.istore_n 2, 1) := by decide +kernel
theorem dX12_weightOf_2 : decode cX12_weightOf 2 = .ok (.iconst 0, 1) := by decide +kernel
theorem dX12_weightOf_3 : decode cX12_weightOf 3 = .ok (.istore_n 3, 1) := by decide +kernel
theorem dX12_weightOf_4 : decode cX12_weightOf 4 = .ok (.iload_n 3, 1) := by decide +kernel
theorem dX12_weightOf_5 : decode cX12_weightOf 5 = .ok (.aload_n 0, 1) := by decide +kernel
theorem dX12_weightOf_6 : decode cX12_weightOf 6 = .ok (.getfield 9, 3) := by decide +kernel
theorem dX12_weightOf_9 : decode cX12_weightOf 9 = .ok (.iconst 0, 1) := by decide +kernel
theorem dX12_weightOf_10 : decode cX12_weightOf 10 = .ok (.iaload, 1) := by decide +kernel
theorem dX12_weightOf_11 : decode cX12_weightOf 11 = .ok (.if_icmp .ge 35, 3) := by decide +kernel
theorem dX12_weightOf_14 : decode cX12_weightOf 14 = .ok (.iload_n 2, 1) := by decide +kernel
theorem dX12_weightOf_15 : decode cX12_weightOf 15 = .ok (.iload_n 1, 1) := by decide +kernel
theorem dX12_weightOf_16 : decode cX12_weightOf 16 = .ok (.iload_n 3, 1) := by decide +kernel
theorem dX12_weightOf_17 : decode cX12_weightOf 17 = .ok (.ishr, 1) := by decide +kernel
theorem dX12_weightOf_18 : decode cX12_weightOf 18 = .ok (.iconst 1, 1) := by decide +kernel
theorem dX12_weightOf_19 : decode cX12_weightOf 19 = .ok (.iand, 1) := by decide +kernel
theorem dX12_weightOf_20 : decode cX12_weightOf 20 = .ok (.iconst 1, 1) := by decide +kernel
theorem dX12_weightOf_21 : decode cX12_weightOf 21 = .ok (.if_icmp .ne 16, 3) := by decide +kernel
theorem dX12_weightOf_24 : decode cX12_weightOf 24 = .ok (.aload_n 0, 1) := by decide +kernel
theorem dX12_weightOf_25 : decode cX12_weightOf 25 = .ok (.getfield 9, 3) := by decide +kernel
theorem dX12_weightOf_28 : decode cX12_weightOf 28 = .ok (.iload_n 3, 1) := by decide +kernel
theorem dX12_weightOf_29 : decode cX12_weightOf 29 = .ok (.iconst 3, 1) := by decide +kernel
theorem dX12_weightOf_30 : decode cX12_weightOf 30 = .ok (.invokestatic 53, 3) := by decide +kernel
theorem dX12_weightOf_33 : decode cX12_weightOf 33 = .ok (.iaload, 1) := by decide +kernel
theorem dX12_weightOf_34 : decode cX12_weightOf 34 = .ok (.goto 4, 3) := by decide +kernel
theorem dX12_weightOf_37 : decode cX12_weightOf 37 = .ok (.iconst 0, 1) := by decide +kernel
theorem dX12_weightOf_38 : decode cX12_weightOf 38 = .ok (.iadd, 1) := by decide +kernel
theorem dX12_weightOf_39 : decode cX12_weightOf 39 = .ok (.istore_n 2, 1) := by decide +kernel
theorem dX12_weightOf_40 : decode cX12_weightOf 40 = .ok (.iinc 3 1, 3) := by decide +kernel
theorem dX12_weightOf_43 : decode cX12_weightOf 43 = .ok (.goto (-39), 3) := by decide +kernel
theorem dX12_weightOf_46 : decode cX12_weightOf 46 = .ok (.iload_n 2, 1) := by decide +kernel
theorem dX12_weightOf_47 : decode cX12_weightOf 47 = .ok (.ireturn, 1) := by decide +kernel
theorem dX12_halvesOf_0 : decode cX12_halvesOf 0 = .ok (.iconst 1, 1) := by decide +kernel
theorem dX12_halvesOf_1 : decode cX12_halvesOf 1 = .ok (.istore_n 2, 1) := by decide +kernel
theorem dX12_halvesOf_2 : decode cX12_halvesOf 2 = .ok (.iload_n 2, 1) := by decide +kernel
theorem dX12_halvesOf_3 : decode cX12_halvesOf 3 = .ok (.iload_n 1, 1) := by decide +kernel
theorem dX12_halvesOf_4 : decode cX12_halvesOf 4 = .ok (.if_icmp .gt 117, 3) := by decide +kernel
theorem dX12_halvesOf_7 : decode cX12_halvesOf 7 = .ok (.iload_n 2, 1) := by decide +kernel
theorem dX12_halvesOf_8 : decode cX12_halvesOf 8 = .ok (.iload_n 1, 1) := by decide +kernel
theorem dX12_halvesOf_9 : decode cX12_halvesOf 9 = .ok (.iconst (-1), 1) := by decide +kernel
theorem dX12_halvesOf_10 : decode cX12_halvesOf 10 = .ok (.ixor, 1) := by decide +kernel
theorem dX12_halvesOf_11 : decode cX12_halvesOf 11 = .ok (.iand, 1) := by decide +kernel
theorem dX12_halvesOf_12 : decode cX12_halvesOf 12 = .ok (.ifCond .eq 6, 3) := by decide +kernel
theorem dX12_halvesOf_15 : decode cX12_halvesOf 15 = .ok (.goto 100, 3) := by decide +kernel
theorem dX12_halvesOf_18 : decode cX12_halvesOf 18 = .ok (.aload_n 0, 1) := by decide +kernel
theorem dX12_halvesOf_19 : decode cX12_halvesOf 19 = .ok (.getfield 25, 3) := by decide +kernel
theorem dX12_halvesOf_22 : decode cX12_halvesOf 22 = .ok (.iload_n 2, 1) := by decide +kernel
theorem dX12_halvesOf_23 : decode cX12_halvesOf 23 = .ok (.iload_n 2, 1) := by decide +kernel
theorem dX12_halvesOf_24 : decode cX12_halvesOf 24 = .ok (.invokestatic 153, 3) := by decide +kernel
theorem dX12_halvesOf_27 : decode cX12_halvesOf 27 = .ok (.iconst 1, 1) := by decide +kernel
theorem dX12_halvesOf_28 : decode cX12_halvesOf 28 = .ok (.if_icmp .ne 7, 3) := by decide +kernel
theorem dX12_halvesOf_31 : decode cX12_halvesOf 31 = .ok (.iconst 0, 1) := by decide +kernel
theorem dX12_halvesOf_32 : decode cX12_halvesOf 32 = .ok (.goto 5, 3) := by decide +kernel
theorem dX12_halvesOf_35 : decode cX12_halvesOf 35 = .ok (.ldc 165, 2) := by decide +kernel
theorem dX12_halvesOf_37 : decode cX12_halvesOf 37 = .ok (.iastore, 1) := by decide +kernel
theorem dX12_halvesOf_38 : decode cX12_halvesOf 38 = .ok (.iconst 1, 1) := by decide +kernel
theorem dX12_halvesOf_39 : decode cX12_halvesOf 39 = .ok (.istore_n 3, 1) := by decide +kernel
theorem dX12_halvesOf_40 : decode cX12_halvesOf 40 = .ok (.iload_n 3, 1) := by decide +kernel
theorem dX12_halvesOf_41 : decode cX12_halvesOf 41 = .ok (.iload_n 2, 1) := by decide +kernel
theorem dX12_halvesOf_42 : decode cX12_halvesOf 42 = .ok (.if_icmp .ge 73, 3) := by decide +kernel
theorem dX12_halvesOf_45 : decode cX12_halvesOf 45 = .ok (.iload_n 3, 1) := by decide +kernel
theorem dX12_halvesOf_46 : decode cX12_halvesOf 46 = .ok (.iload_n 2, 1) := by decide +kernel
theorem dX12_halvesOf_47 : decode cX12_halvesOf 47 = .ok (.iconst (-1), 1) := by decide +kernel
theorem dX12_halvesOf_48 : decode cX12_halvesOf 48 = .ok (.ixor, 1) := by decide +kernel
theorem dX12_halvesOf_49 : decode cX12_halvesOf 49 = .ok (.iand, 1) := by decide +kernel
theorem dX12_halvesOf_50 : decode cX12_halvesOf 50 = .ok (.ifCond .eq 6, 3) := by decide +kernel
theorem dX12_halvesOf_53 : decode cX12_halvesOf 53 = .ok (.goto 56, 3) := by decide +kernel
theorem dX12_halvesOf_56 : decode cX12_halvesOf 56 = .ok (.aload_n 0, 1) := by decide +kernel
theorem dX12_halvesOf_57 : decode cX12_halvesOf 57 = .ok (.getfield 25, 3) := by decide +kernel
theorem dX12_halvesOf_60 : decode cX12_halvesOf 60 = .ok (.iload_n 3, 1) := by decide +kernel
theorem dX12_halvesOf_61 : decode cX12_halvesOf 61 = .ok (.iaload, 1) := by decide +kernel
theorem dX12_halvesOf_62 : decode cX12_halvesOf 62 = .ok (.aload_n 0, 1) := by decide +kernel
theorem dX12_halvesOf_63 : decode cX12_halvesOf 63 = .ok (.getfield 25, 3) := by decide +kernel
theorem dX12_halvesOf_66 : decode cX12_halvesOf 66 = .ok (.iload_n 2, 1) := by decide +kernel
theorem dX12_halvesOf_67 : decode cX12_halvesOf 67 = .ok (.iload_n 3, 1) := by decide +kernel
theorem dX12_halvesOf_68 : decode cX12_halvesOf 68 = .ok (.iconst (-1), 1) := by decide +kernel
theorem dX12_halvesOf_69 : decode cX12_halvesOf 69 = .ok (.ixor, 1) := by decide +kernel
theorem dX12_halvesOf_70 : decode cX12_halvesOf 70 = .ok (.iand, 1) := by decide +kernel
theorem dX12_halvesOf_71 : decode cX12_halvesOf 71 = .ok (.iaload, 1) := by decide +kernel
theorem dX12_halvesOf_72 : decode cX12_halvesOf 72 = .ok (.iadd, 1) := by decide +kernel
theorem dX12_halvesOf_73 : decode cX12_halvesOf 73 = .ok (.aload_n 0, 1) := by decide +kernel
theorem dX12_halvesOf_74 : decode cX12_halvesOf 74 = .ok (.iload_n 2, 1) := by decide +kernel
theorem dX12_halvesOf_75 : decode cX12_halvesOf 75 = .ok (.invokevirtual 166, 3) := by decide +kernel
theorem dX12_halvesOf_78 : decode cX12_halvesOf 78 = .ok (.iadd, 1) := by decide +kernel
theorem dX12_halvesOf_79 : decode cX12_halvesOf 79 = .ok (.istore 4, 2) := by decide +kernel
theorem dX12_halvesOf_81 : decode cX12_halvesOf 81 = .ok (.aload_n 0, 1) := by decide +kernel
theorem dX12_halvesOf_82 : decode cX12_halvesOf 82 = .ok (.getfield 25, 3) := by decide +kernel
theorem dX12_halvesOf_85 : decode cX12_halvesOf 85 = .ok (.iload_n 2, 1) := by decide +kernel
theorem dX12_halvesOf_86 : decode cX12_halvesOf 86 = .ok (.iload 4, 2) := by decide +kernel
theorem dX12_halvesOf_88 : decode cX12_halvesOf 88 = .ok (.aload_n 0, 1) := by decide +kernel
theorem dX12_halvesOf_89 : decode cX12_halvesOf 89 = .ok (.getfield 25, 3) := by decide +kernel
theorem dX12_halvesOf_92 : decode cX12_halvesOf 92 = .ok (.iload_n 2, 1) := by decide +kernel
theorem dX12_halvesOf_93 : decode cX12_halvesOf 93 = .ok (.iaload, 1) := by decide +kernel
theorem dX12_halvesOf_94 : decode cX12_halvesOf 94 = .ok (.if_icmp .ge 8, 3) := by decide +kernel
theorem dX12_halvesOf_97 : decode cX12_halvesOf 97 = .ok (.iload 4, 2) := by decide +kernel
theorem dX12_halvesOf_99 : decode cX12_halvesOf 99 = .ok (.goto 9, 3) := by decide +kernel
theorem dX12_halvesOf_102 : decode cX12_halvesOf 102 = .ok (.aload_n 0, 1) := by decide +kernel
theorem dX12_halvesOf_103 : decode cX12_halvesOf 103 = .ok (.getfield 25, 3) := by decide +kernel
theorem dX12_halvesOf_106 : decode cX12_halvesOf 106 = .ok (.iload_n 2, 1) := by decide +kernel
theorem dX12_halvesOf_107 : decode cX12_halvesOf 107 = .ok (.iaload, 1) := by decide +kernel
theorem dX12_halvesOf_108 : decode cX12_halvesOf 108 = .ok (.iastore, 1) := by decide +kernel
theorem dX12_halvesOf_109 : decode cX12_halvesOf 109 = .ok (.iinc 3 1, 3) := by decide +kernel
theorem dX12_halvesOf_112 : decode cX12_halvesOf 112 = .ok (.goto (-72), 3) := by decide +kernel
theorem dX12_halvesOf_115 : decode cX12_halvesOf 115 = .ok (.iinc 2 1, 3) := by decide +kernel
theorem dX12_halvesOf_118 : decode cX12_halvesOf 118 = .ok (.goto (-116), 3) := by decide +kernel
theorem dX12_halvesOf_121 : decode cX12_halvesOf 121 = .ok (.aload_n 0, 1) := by decide +kernel
theorem dX12_halvesOf_122 : decode cX12_halvesOf 122 = .ok (.getfield 25, 3) := by decide +kernel
theorem dX12_halvesOf_125 : decode cX12_halvesOf 125 = .ok (.iload_n 1, 1) := by decide +kernel
theorem dX12_halvesOf_126 : decode cX12_halvesOf 126 = .ok (.iaload, 1) := by decide +kernel
theorem dX12_halvesOf_127 : decode cX12_halvesOf 127 = .ok (.ireturn, 1) := by decide +kernel
theorem dX12_oneByOneOf_0 : decode cX12_oneByOneOf 0 = .ok (.iload_n 1, 1) := by decide +kernel
theorem dX12_oneByOneOf_1 : decode cX12_oneByOneOf 1 = .ok (.istore_n 2, 1) := by decide +kernel
theorem dX12_oneByOneOf_2 : decode cX12_oneByOneOf 2 = .ok (.iconst 0, 1) := by decide +kernel
theorem dX12_oneByOneOf_3 : decode cX12_oneByOneOf 3 = .ok (.istore_n 3, 1) := by decide +kernel
theorem dX12_oneByOneOf_4 : decode cX12_oneByOneOf 4 = .ok (.iconst 1, 1) := by decide +kernel
theorem dX12_oneByOneOf_5 : decode cX12_oneByOneOf 5 = .ok (.istore 4, 2) := by decide +kernel
theorem dX12_oneByOneOf_7 : decode cX12_oneByOneOf 7 = .ok (.iload_n 2, 1) := by decide +kernel
theorem dX12_oneByOneOf_8 : decode cX12_oneByOneOf 8 = .ok (.ifCond .eq 114, 3) := by decide +kernel
theorem dX12_oneByOneOf_11 : decode cX12_oneByOneOf 11 = .ok (.bipush (-4), 2) := by decide +kernel
theorem dX12_oneByOneOf_13 : decode cX12_oneByOneOf 13 = .ok (.istore 5, 2) := by decide +kernel
theorem dX12_oneByOneOf_15 : decode cX12_oneByOneOf 15 = .ok (.iconst 0, 1) := by decide +kernel
theorem dX12_oneByOneOf_16 : decode cX12_oneByOneOf 16 = .ok (.istore 6, 2) := by decide +kernel
theorem dX12_oneByOneOf_18 : decode cX12_oneByOneOf 18 = .ok (.iload 6, 2) := by decide +kernel
theorem dX12_oneByOneOf_20 : decode cX12_oneByOneOf 20 = .ok (.aload_n 0, 1) := by decide +kernel
theorem dX12_oneByOneOf_21 : decode cX12_oneByOneOf 21 = .ok (.getfield 9, 3) := by decide +kernel
theorem dX12_oneByOneOf_24 : decode cX12_oneByOneOf 24 = .ok (.iconst 0, 1) := by decide +kernel
theorem dX12_oneByOneOf_25 : decode cX12_oneByOneOf 25 = .ok (.iaload, 1) := by decide +kernel
theorem dX12_oneByOneOf_26 : decode cX12_oneByOneOf 26 = .ok (.if_icmp .ge 53, 3) := by decide +kernel
theorem dX12_oneByOneOf_29 : decode cX12_oneByOneOf 29 = .ok (.iload_n 2, 1) := by decide +kernel
theorem dX12_oneByOneOf_30 : decode cX12_oneByOneOf 30 = .ok (.iload 6, 2) := by decide +kernel
theorem dX12_oneByOneOf_32 : decode cX12_oneByOneOf 32 = .ok (.ishr, 1) := by decide +kernel
theorem dX12_oneByOneOf_33 : decode cX12_oneByOneOf 33 = .ok (.iconst 1, 1) := by decide +kernel
theorem dX12_oneByOneOf_34 : decode cX12_oneByOneOf 34 = .ok (.iand, 1) := by decide +kernel
theorem dX12_oneByOneOf_35 : decode cX12_oneByOneOf 35 = .ok (.iconst 1, 1) := by decide +kernel
theorem dX12_oneByOneOf_36 : decode cX12_oneByOneOf 36 = .ok (.if_icmp .ne 37, 3) := by decide +kernel
theorem dX12_oneByOneOf_39 : decode cX12_oneByOneOf 39 = .ok (.iload 5, 2) := by decide +kernel
theorem dX12_oneByOneOf_41 : decode cX12_oneByOneOf 41 = .ok (.ifCond .lt 28, 3) := by decide +kernel
theorem dX12_oneByOneOf_44 : decode cX12_oneByOneOf 44 = .ok (.aload_n 0, 1) := by decide +kernel
theorem dX12_oneByOneOf_45 : decode cX12_oneByOneOf 45 = .ok (.getfield 9, 3) := by decide +kernel
theorem dX12_oneByOneOf_48 : decode cX12_oneByOneOf 48 = .ok (.iload 6, 2) := by decide +kernel
theorem dX12_oneByOneOf_50 : decode cX12_oneByOneOf 50 = .ok (.iconst 3, 1) := by decide +kernel
theorem dX12_oneByOneOf_51 : decode cX12_oneByOneOf 51 = .ok (.invokestatic 53, 3) := by decide +kernel
theorem dX12_oneByOneOf_54 : decode cX12_oneByOneOf 54 = .ok (.iaload, 1) := by decide +kernel
theorem dX12_oneByOneOf_55 : decode cX12_oneByOneOf 55 = .ok (.aload_n 0, 1) := by decide +kernel
theorem dX12_oneByOneOf_56 : decode cX12_oneByOneOf 56 = .ok (.getfield 9, 3) := by decide +kernel
theorem dX12_oneByOneOf_59 : decode cX12_oneByOneOf 59 = .ok (.iload 5, 2) := by decide +kernel
theorem dX12_oneByOneOf_61 : decode cX12_oneByOneOf 61 = .ok (.iconst 3, 1) := by decide +kernel
theorem dX12_oneByOneOf_62 : decode cX12_oneByOneOf 62 = .ok (.invokestatic 53, 3) := by decide +kernel
theorem dX12_oneByOneOf_65 : decode cX12_oneByOneOf 65 = .ok (.iaload, 1) := by decide +kernel
theorem dX12_oneByOneOf_66 : decode cX12_oneByOneOf 66 = .ok (.if_icmp .le 7, 3) := by decide +kernel
theorem dX12_oneByOneOf_69 : decode cX12_oneByOneOf 69 = .ok (.iload 6, 2) := by decide +kernel
theorem dX12_oneByOneOf_71 : decode cX12_oneByOneOf 71 = .ok (.istore 5, 2) := by decide +kernel
theorem dX12_oneByOneOf_73 : decode cX12_oneByOneOf 73 = .ok (.iinc 6 1, 3) := by decide +kernel
theorem dX12_oneByOneOf_76 : decode cX12_oneByOneOf 76 = .ok (.goto (-58), 3) := by decide +kernel
theorem dX12_oneByOneOf_79 : decode cX12_oneByOneOf 79 = .ok (.iload_n 2, 1) := by decide +kernel
theorem dX12_oneByOneOf_80 : decode cX12_oneByOneOf 80 = .ok (.iconst 1, 1) := by decide +kernel
theorem dX12_oneByOneOf_81 : decode cX12_oneByOneOf 81 = .ok (.iload 5, 2) := by decide +kernel
theorem dX12_oneByOneOf_83 : decode cX12_oneByOneOf 83 = .ok (.ishl, 1) := by decide +kernel
theorem dX12_oneByOneOf_84 : decode cX12_oneByOneOf 84 = .ok (.iconst (-1), 1) := by decide +kernel
theorem dX12_oneByOneOf_85 : decode cX12_oneByOneOf 85 = .ok (.ixor, 1) := by decide +kernel
theorem dX12_oneByOneOf_86 : decode cX12_oneByOneOf 86 = .ok (.iand, 1) := by decide +kernel
theorem dX12_oneByOneOf_87 : decode cX12_oneByOneOf 87 = .ok (.istore_n 2, 1) := by decide +kernel
theorem dX12_oneByOneOf_88 : decode cX12_oneByOneOf 88 = .ok (.iload_n 3, 1) := by decide +kernel
theorem dX12_oneByOneOf_89 : decode cX12_oneByOneOf 89 = .ok (.iload_n 2, 1) := by decide +kernel
theorem dX12_oneByOneOf_90 : decode cX12_oneByOneOf 90 = .ok (.ifCond .ne 10, 3) := by decide +kernel
theorem dX12_oneByOneOf_93 : decode cX12_oneByOneOf 93 = .ok (.iload 4, 2) := by decide +kernel
theorem dX12_oneByOneOf_95 : decode cX12_oneByOneOf 95 = .ok (.iconst 1, 1) := by decide +kernel
theorem dX12_oneByOneOf_96 : decode cX12_oneByOneOf 96 = .ok (.isub, 1) := by decide +kernel
theorem dX12_oneByOneOf_97 : decode cX12_oneByOneOf 97 = .ok (.goto 5, 3) := by decide +kernel
theorem dX12_oneByOneOf_100 : decode cX12_oneByOneOf 100 = .ok (.iload 4, 2) := by decide +kernel
theorem dX12_oneByOneOf_102 : decode cX12_oneByOneOf 102 = .ok (.aload_n 0, 1) := by decide +kernel
theorem dX12_oneByOneOf_103 : decode cX12_oneByOneOf 103 = .ok (.getfield 9, 3) := by decide +kernel
theorem dX12_oneByOneOf_106 : decode cX12_oneByOneOf 106 = .ok (.iload 5, 2) := by decide +kernel
theorem dX12_oneByOneOf_108 : decode cX12_oneByOneOf 108 = .ok (.iconst 3, 1) := by decide +kernel
theorem dX12_oneByOneOf_109 : decode cX12_oneByOneOf 109 = .ok (.invokestatic 53, 3) := by decide +kernel
theorem dX12_oneByOneOf_112 : decode cX12_oneByOneOf 112 = .ok (.iaload, 1) := by decide +kernel
theorem dX12_oneByOneOf_113 : decode cX12_oneByOneOf 113 = .ok (.imul, 1) := by decide +kernel
theorem dX12_oneByOneOf_114 : decode cX12_oneByOneOf 114 = .ok (.iadd, 1) := by decide +kernel
theorem dX12_oneByOneOf_115 : decode cX12_oneByOneOf 115 = .ok (.istore_n 3, 1) := by decide +kernel
theorem dX12_oneByOneOf_116 : decode cX12_oneByOneOf 116 = .ok (.iinc 4 1, 3) := by decide +kernel
theorem dX12_oneByOneOf_119 : decode cX12_oneByOneOf 119 = .ok (.goto (-112), 3) := by decide +kernel
theorem dX12_oneByOneOf_122 : decode cX12_oneByOneOf 122 = .ok (.iload_n 3, 1) := by decide +kernel
theorem dX12_oneByOneOf_123 : decode cX12_oneByOneOf 123 = .ok (.ireturn, 1) := by decide +kernel
theorem dX12_isSet_0 : decode cX12_isSet 0 = .ok (.iload_n 1, 1) := by decide +kernel
theorem dX12_isSet_1 : decode cX12_isSet 1 = .ok (.iconst 1, 1) := by decide +kernel
theorem dX12_isSet_2 : decode cX12_isSet 2 = .ok (.if_icmp .lt 19, 3) := by decide +kernel
theorem dX12_isSet_5 : decode cX12_isSet 5 = .ok (.iload_n 1, 1) := by decide +kernel
theorem dX12_isSet_6 : decode cX12_isSet 6 = .ok (.iconst 1, 1) := by decide +kernel
theorem dX12_isSet_7 : decode cX12_isSet 7 = .ok (.aload_n 0, 1) := by decide +kernel
theorem dX12_isSet_8 : decode cX12_isSet 8 = .ok (.getfield 9, 3) := by decide +kernel
theorem dX12_isSet_11 : decode cX12_isSet 11 = .ok (.iconst 0, 1) := by decide +kernel
theorem dX12_isSet_12 : decode cX12_isSet 12 = .ok (.iaload, 1) := by decide +kernel
theorem dX12_isSet_13 : decode cX12_isSet 13 = .ok (.ishl, 1) := by decide +kernel
theorem dX12_isSet_14 : decode cX12_isSet 14 = .ok (.if_icmp .ge 7, 3) := by decide +kernel
theorem dX12_isSet_17 : decode cX12_isSet 17 = .ok (.iconst 1, 1) := by decide +kernel
theorem dX12_isSet_18 : decode cX12_isSet 18 = .ok (.goto 4, 3) := by decide +kernel
theorem dX12_isSet_21 : decode cX12_isSet 21 = .ok (.iconst 0, 1) := by decide +kernel
theorem dX12_isSet_22 : decode cX12_isSet 22 = .ok (.ireturn, 1) := by decide +kernel
theorem dX12_gcd_0 : decode cX12_gcd 0 = .ok (.lload_n 0, 1) := by decide +kernel
theorem dX12_gcd_1 : decode cX12_gcd 1 = .ok (.lstore 4, 2) := by decide +kernel
theorem dX12_gcd_3 : decode cX12_gcd 3 = .ok (.lload_n 2, 1) := by decide +kernel
theorem dX12_gcd_4 : decode cX12_gcd 4 = .ok (.lstore 6, 2) := by decide +kernel
theorem dX12_gcd_6 : decode cX12_gcd 6 = .ok (.lload 6, 2) := by decide +kernel
theorem dX12_gcd_8 : decode cX12_gcd 8 = .ok (.lconst 0, 1) := by decide +kernel
theorem dX12_gcd_9 : decode cX12_gcd 9 = .ok (.lcmp, 1) := by decide +kernel
theorem dX12_gcd_10 : decode cX12_gcd 10 = .ok (.ifCond .eq 21, 3) := by decide +kernel
theorem dX12_gcd_13 : decode cX12_gcd 13 = .ok (.lload 4, 2) := by decide +kernel
theorem dX12_gcd_15 : decode cX12_gcd 15 = .ok (.lload 6, 2) := by decide +kernel
theorem dX12_gcd_17 : decode cX12_gcd 17 = .ok (.lrem, 1) := by decide +kernel
theorem dX12_gcd_18 : decode cX12_gcd 18 = .ok (.lstore 8, 2) := by decide +kernel
theorem dX12_gcd_20 : decode cX12_gcd 20 = .ok (.lload 6, 2) := by decide +kernel
theorem dX12_gcd_22 : decode cX12_gcd 22 = .ok (.lstore 4, 2) := by decide +kernel
theorem dX12_gcd_24 : decode cX12_gcd 24 = .ok (.lload 8, 2) := by decide +kernel
theorem dX12_gcd_26 : decode cX12_gcd 26 = .ok (.lstore 6, 2) := by decide +kernel
theorem dX12_gcd_28 : decode cX12_gcd 28 = .ok (.goto (-22), 3) := by decide +kernel
theorem dX12_gcd_31 : decode cX12_gcd 31 = .ok (.lload 4, 2) := by decide +kernel
theorem dX12_gcd_33 : decode cX12_gcd 33 = .ok (.lreturn, 1) := by decide +kernel
theorem dX12_partOf_0 : decode cX12_partOf 0 = .ok (.lload_n 0, 1) := by decide +kernel
theorem dX12_partOf_1 : decode cX12_partOf 1 = .ok (.lconst 0, 1) := by decide +kernel
theorem dX12_partOf_2 : decode cX12_partOf 2 = .ok (.lcmp, 1) := by decide +kernel
theorem dX12_partOf_3 : decode cX12_partOf 3 = .ok (.ifCond .ne 7, 3) := by decide +kernel
theorem dX12_partOf_6 : decode cX12_partOf 6 = .ok (.iload 4, 2) := by decide +kernel
theorem dX12_partOf_8 : decode cX12_partOf 8 = .ok (.i2l, 1) := by decide +kernel
theorem dX12_partOf_9 : decode cX12_partOf 9 = .ok (.lreturn, 1) := by decide +kernel
theorem dX12_partOf_10 : decode cX12_partOf 10 = .ok (.iload 4, 2) := by decide +kernel
theorem dX12_partOf_12 : decode cX12_partOf 12 = .ok (.ifCond .ne 7, 3) := by decide +kernel
theorem dX12_partOf_15 : decode cX12_partOf 15 = .ok (.lload_n 0, 1) := by decide +kernel
theorem dX12_partOf_16 : decode cX12_partOf 16 = .ok (.goto 4, 3) := by decide +kernel
theorem dX12_partOf_19 : decode cX12_partOf 19 = .ok (.lload_n 2, 1) := by decide +kernel
theorem dX12_partOf_20 : decode cX12_partOf 20 = .ok (.lload_n 0, 1) := by decide +kernel
theorem dX12_partOf_21 : decode cX12_partOf 21 = .ok (.lload_n 2, 1) := by decide +kernel
theorem dX12_partOf_22 : decode cX12_partOf 22 = .ok (.invokestatic 169, 3) := by decide +kernel
theorem dX12_partOf_25 : decode cX12_partOf 25 = .ok (.ldiv, 1) := by decide +kernel
theorem dX12_partOf_26 : decode cX12_partOf 26 = .ok (.lreturn, 1) := by decide +kernel
theorem dX12_halves_0 : decode cX12_halves 0 = .ok (.aload_n 0, 1) := by decide +kernel
theorem dX12_halves_1 : decode cX12_halves 1 = .ok (.iload_n 1, 1) := by decide +kernel
theorem dX12_halves_2 : decode cX12_halves 2 = .ok (.invokevirtual 173, 3) := by decide +kernel
theorem dX12_halves_5 : decode cX12_halves 5 = .ok (.ifCond .eq 31, 3) := by decide +kernel
theorem dX12_halves_8 : decode cX12_halves 8 = .ok (.iload_n 2, 1) := by decide +kernel
theorem dX12_halves_9 : decode cX12_halves 9 = .ok (.iconst 0, 1) := by decide +kernel
theorem dX12_halves_10 : decode cX12_halves 10 = .ok (.iconst 1, 1) := by decide +kernel
theorem dX12_halves_11 : decode cX12_halves 11 = .ok (.invokestatic 49, 3) := by decide +kernel
theorem dX12_halves_14 : decode cX12_halves 14 = .ok (.ifCond .eq 22, 3) := by decide +kernel
theorem dX12_halves_17 : decode cX12_halves 17 = .ok (.aload_n 0, 1) := by decide +kernel
theorem dX12_halves_18 : decode cX12_halves 18 = .ok (.iload_n 1, 1) := by decide +kernel
theorem dX12_halves_19 : decode cX12_halves 19 = .ok (.invokevirtual 176, 3) := by decide +kernel
theorem dX12_halves_22 : decode cX12_halves 22 = .ok (.i2l, 1) := by decide +kernel
theorem dX12_halves_23 : decode cX12_halves 23 = .ok (.aload_n 0, 1) := by decide +kernel
theorem dX12_halves_24 : decode cX12_halves 24 = .ok (.iload_n 1, 1) := by decide +kernel
theorem dX12_halves_25 : decode cX12_halves 25 = .ok (.invokevirtual 166, 3) := by decide +kernel
theorem dX12_halves_28 : decode cX12_halves 28 = .ok (.i2l, 1) := by decide +kernel
theorem dX12_halves_29 : decode cX12_halves 29 = .ok (.iload_n 2, 1) := by decide +kernel
theorem dX12_halves_30 : decode cX12_halves 30 = .ok (.invokestatic 179, 3) := by decide +kernel
theorem dX12_halves_33 : decode cX12_halves 33 = .ok (.goto 6, 3) := by decide +kernel
theorem dX12_halves_36 : decode cX12_halves 36 = .ok (.ldc2_w 183, 3) := by decide +kernel
theorem dX12_halves_39 : decode cX12_halves 39 = .ok (.lreturn, 1) := by decide +kernel
theorem dX12_oneByOne_0 : decode cX12_oneByOne 0 = .ok (.aload_n 0, 1) := by decide +kernel
theorem dX12_oneByOne_1 : decode cX12_oneByOne 1 = .ok (.iload_n 1, 1) := by decide +kernel
theorem dX12_oneByOne_2 : decode cX12_oneByOne 2 = .ok (.invokevirtual 173, 3) := by decide +kernel
theorem dX12_oneByOne_5 : decode cX12_oneByOne 5 = .ok (.ifCond .eq 31, 3) := by decide +kernel
theorem dX12_oneByOne_8 : decode cX12_oneByOne 8 = .ok (.iload_n 2, 1) := by decide +kernel
theorem dX12_oneByOne_9 : decode cX12_oneByOne 9 = .ok (.iconst 0, 1) := by decide +kernel
theorem dX12_oneByOne_10 : decode cX12_oneByOne 10 = .ok (.iconst 1, 1) := by decide +kernel
theorem dX12_oneByOne_11 : decode cX12_oneByOne 11 = .ok (.invokestatic 49, 3) := by decide +kernel
theorem dX12_oneByOne_14 : decode cX12_oneByOne 14 = .ok (.ifCond .eq 22, 3) := by decide +kernel
theorem dX12_oneByOne_17 : decode cX12_oneByOne 17 = .ok (.aload_n 0, 1) := by decide +kernel
theorem dX12_oneByOne_18 : decode cX12_oneByOne 18 = .ok (.iload_n 1, 1) := by decide +kernel
theorem dX12_oneByOne_19 : decode cX12_oneByOne 19 = .ok (.invokevirtual 185, 3) := by decide +kernel
theorem dX12_oneByOne_22 : decode cX12_oneByOne 22 = .ok (.i2l, 1) := by decide +kernel
theorem dX12_oneByOne_23 : decode cX12_oneByOne 23 = .ok (.aload_n 0, 1) := by decide +kernel
theorem dX12_oneByOne_24 : decode cX12_oneByOne 24 = .ok (.iload_n 1, 1) := by decide +kernel
theorem dX12_oneByOne_25 : decode cX12_oneByOne 25 = .ok (.invokevirtual 166, 3) := by decide +kernel
theorem dX12_oneByOne_28 : decode cX12_oneByOne 28 = .ok (.i2l, 1) := by decide +kernel
theorem dX12_oneByOne_29 : decode cX12_oneByOne 29 = .ok (.iload_n 2, 1) := by decide +kernel
theorem dX12_oneByOne_30 : decode cX12_oneByOne 30 = .ok (.invokestatic 179, 3) := by decide +kernel
theorem dX12_oneByOne_33 : decode cX12_oneByOne 33 = .ok (.goto 6, 3) := by decide +kernel
theorem dX12_oneByOne_36 : decode cX12_oneByOne 36 = .ok (.ldc2_w 183, 3) := by decide +kernel
theorem dX12_oneByOne_39 : decode cX12_oneByOne 39 = .ok (.lreturn, 1) := by decide +kernel
theorem dX12_worse_0 : decode cX12_worse 0 = .ok (.aload_n 0, 1) := by decide +kernel
theorem dX12_worse_1 : decode cX12_worse 1 = .ok (.iload_n 1, 1) := by decide +kernel
theorem dX12_worse_2 : decode cX12_worse 2 = .ok (.invokevirtual 173, 3) := by decide +kernel
theorem dX12_worse_5 : decode cX12_worse 5 = .ok (.ifCond .eq 17, 3) := by decide +kernel
theorem dX12_worse_8 : decode cX12_worse 8 = .ok (.aload_n 0, 1) := by decide +kernel
theorem dX12_worse_9 : decode cX12_worse 9 = .ok (.iload_n 1, 1) := by decide +kernel
theorem dX12_worse_10 : decode cX12_worse 10 = .ok (.invokevirtual 185, 3) := by decide +kernel
theorem dX12_worse_13 : decode cX12_worse 13 = .ok (.aload_n 0, 1) := by decide +kernel
theorem dX12_worse_14 : decode cX12_worse 14 = .ok (.iload_n 1, 1) := by decide +kernel
theorem dX12_worse_15 : decode cX12_worse 15 = .ok (.invokevirtual 176, 3) := by decide +kernel
theorem dX12_worse_18 : decode cX12_worse 18 = .ok (.isub, 1) := by decide +kernel
theorem dX12_worse_19 : decode cX12_worse 19 = .ok (.goto 4, 3) := by decide +kernel
theorem dX12_worse_22 : decode cX12_worse 22 = .ok (.iconst (-1), 1) := by decide +kernel
theorem dX12_worse_23 : decode cX12_worse 23 = .ok (.ireturn, 1) := by decide +kernel
theorem dX12_timesFigures_0 : decode cX12_timesFigures 0 = .ok (.iconst 0, 1) := by decide +kernel
theorem dX12_timesFigures_1 : decode cX12_timesFigures 1 = .ok (.istore_n 2, 1) := by decide +kernel
theorem dX12_timesFigures_2 : decode cX12_timesFigures 2 = .ok (.iconst 0, 1) := by decide +kernel
theorem dX12_timesFigures_3 : decode cX12_timesFigures 3 = .ok (.istore_n 3, 1) := by decide +kernel
theorem dX12_timesFigures_4 : decode cX12_timesFigures 4 = .ok (.iload_n 3, 1) := by decide +kernel
theorem dX12_timesFigures_5 : decode cX12_timesFigures 5 = .ok (.bipush 78, 2) := by decide +kernel
theorem dX12_timesFigures_7 : decode cX12_timesFigures 7 = .ok (.if_icmp .ge 54, 3) := by decide +kernel
theorem dX12_timesFigures_10 : decode cX12_timesFigures 10 = .ok (.aload_n 0, 1) := by decide +kernel
theorem dX12_timesFigures_11 : decode cX12_timesFigures 11 = .ok (.getfield 28, 3) := by decide +kernel
theorem dX12_timesFigures_14 : decode cX12_timesFigures 14 = .ok (.iload_n 3, 1) := by decide +kernel
theorem dX12_timesFigures_15 : decode cX12_timesFigures 15 = .ok (.iaload, 1) := by decide +kernel
theorem dX12_timesFigures_16 : decode cX12_timesFigures 16 = .ok (.iload_n 1, 1) := by decide +kernel
theorem dX12_timesFigures_17 : decode cX12_timesFigures 17 = .ok (.imul, 1) := by decide +kernel
theorem dX12_timesFigures_18 : decode cX12_timesFigures 18 = .ok (.iload_n 2, 1) := by decide +kernel
theorem dX12_timesFigures_19 : decode cX12_timesFigures 19 = .ok (.iadd, 1) := by decide +kernel
theorem dX12_timesFigures_20 : decode cX12_timesFigures 20 = .ok (.istore 4, 2) := by decide +kernel
theorem dX12_timesFigures_22 : decode cX12_timesFigures 22 = .ok (.aload_n 0, 1) := by decide +kernel
theorem dX12_timesFigures_23 : decode cX12_timesFigures 23 = .ok (.getfield 28, 3) := by decide +kernel
theorem dX12_timesFigures_26 : decode cX12_timesFigures 26 = .ok (.iload_n 3, 1) := by decide +kernel
theorem dX12_timesFigures_27 : decode cX12_timesFigures 27 = .ok (.iload 4, 2) := by decide +kernel
theorem dX12_timesFigures_29 : decode cX12_timesFigures 29 = .ok (.bipush 10, 2) := by decide +kernel
theorem dX12_timesFigures_31 : decode cX12_timesFigures 31 = .ok (.irem, 1) := by decide +kernel
theorem dX12_timesFigures_32 : decode cX12_timesFigures 32 = .ok (.iastore, 1) := by decide +kernel
theorem dX12_timesFigures_33 : decode cX12_timesFigures 33 = .ok (.iload 4, 2) := by decide +kernel
theorem dX12_timesFigures_35 : decode cX12_timesFigures 35 = .ok (.bipush 10, 2) := by decide +kernel
theorem dX12_timesFigures_37 : decode cX12_timesFigures 37 = .ok (.idiv, 1) := by decide +kernel
theorem dX12_timesFigures_38 : decode cX12_timesFigures 38 = .ok (.istore_n 2, 1) := by decide +kernel
theorem dX12_timesFigures_39 : decode cX12_timesFigures 39 = .ok (.aload_n 0, 1) := by decide +kernel
theorem dX12_timesFigures_40 : decode cX12_timesFigures 40 = .ok (.getfield 28, 3) := by decide +kernel
theorem dX12_timesFigures_43 : decode cX12_timesFigures 43 = .ok (.iload_n 3, 1) := by decide +kernel
theorem dX12_timesFigures_44 : decode cX12_timesFigures 44 = .ok (.iaload, 1) := by decide +kernel
theorem dX12_timesFigures_45 : decode cX12_timesFigures 45 = .ok (.ifCond .eq 10, 3) := by decide +kernel
theorem dX12_timesFigures_48 : decode cX12_timesFigures 48 = .ok (.aload_n 0, 1) := by decide +kernel
theorem dX12_timesFigures_49 : decode cX12_timesFigures 49 = .ok (.iload_n 3, 1) := by decide +kernel
theorem dX12_timesFigures_50 : decode cX12_timesFigures 50 = .ok (.iconst 1, 1) := by decide +kernel
theorem dX12_timesFigures_51 : decode cX12_timesFigures 51 = .ok (.iadd, 1) := by decide +kernel
theorem dX12_timesFigures_52 : decode cX12_timesFigures 52 = .ok (.putfield 188, 3) := by decide +kernel
theorem dX12_timesFigures_55 : decode cX12_timesFigures 55 = .ok (.iinc 3 1, 3) := by decide +kernel
theorem dX12_timesFigures_58 : decode cX12_timesFigures 58 = .ok (.goto (-54), 3) := by decide +kernel
theorem dX12_timesFigures_61 : decode cX12_timesFigures 61 = .ok (.return_, 1) := by decide +kernel
theorem dX12_isWithinTen_0 : decode cX12_isWithinTen 0 = .ok (.aload_n 0, 1) := by decide +kernel
theorem dX12_isWithinTen_1 : decode cX12_isWithinTen 1 = .ok (.getfield 188, 3) := by decide +kernel
theorem dX12_isWithinTen_4 : decode cX12_isWithinTen 4 = .ok (.iload_n 1, 1) := by decide +kernel
theorem dX12_isWithinTen_5 : decode cX12_isWithinTen 5 = .ok (.if_icmp .gt 5, 3) := by decide +kernel
theorem dX12_isWithinTen_8 : decode cX12_isWithinTen 8 = .ok (.iconst 1, 1) := by decide +kernel
theorem dX12_isWithinTen_9 : decode cX12_isWithinTen 9 = .ok (.ireturn, 1) := by decide +kernel
theorem dX12_isWithinTen_10 : decode cX12_isWithinTen 10 = .ok (.aload_n 0, 1) := by decide +kernel
theorem dX12_isWithinTen_11 : decode cX12_isWithinTen 11 = .ok (.getfield 188, 3) := by decide +kernel
theorem dX12_isWithinTen_14 : decode cX12_isWithinTen 14 = .ok (.iload_n 1, 1) := by decide +kernel
theorem dX12_isWithinTen_15 : decode cX12_isWithinTen 15 = .ok (.iconst 1, 1) := by decide +kernel
theorem dX12_isWithinTen_16 : decode cX12_isWithinTen 16 = .ok (.iadd, 1) := by decide +kernel
theorem dX12_isWithinTen_17 : decode cX12_isWithinTen 17 = .ok (.if_icmp .gt 13, 3) := by decide +kernel
theorem dX12_isWithinTen_20 : decode cX12_isWithinTen 20 = .ok (.aload_n 0, 1) := by decide +kernel
theorem dX12_isWithinTen_21 : decode cX12_isWithinTen 21 = .ok (.getfield 28, 3) := by decide +kernel
theorem dX12_isWithinTen_24 : decode cX12_isWithinTen 24 = .ok (.iload_n 1, 1) := by decide +kernel
theorem dX12_isWithinTen_25 : decode cX12_isWithinTen 25 = .ok (.iaload, 1) := by decide +kernel
theorem dX12_isWithinTen_26 : decode cX12_isWithinTen 26 = .ok (.iconst 1, 1) := by decide +kernel
theorem dX12_isWithinTen_27 : decode cX12_isWithinTen 27 = .ok (.if_icmp .eq 5, 3) := by decide +kernel
theorem dX12_isWithinTen_30 : decode cX12_isWithinTen 30 = .ok (.iconst 0, 1) := by decide +kernel
theorem dX12_isWithinTen_31 : decode cX12_isWithinTen 31 = .ok (.ireturn, 1) := by decide +kernel
theorem dX12_isWithinTen_32 : decode cX12_isWithinTen 32 = .ok (.iconst 0, 1) := by decide +kernel
theorem dX12_isWithinTen_33 : decode cX12_isWithinTen 33 = .ok (.istore_n 2, 1) := by decide +kernel
theorem dX12_isWithinTen_34 : decode cX12_isWithinTen 34 = .ok (.iload_n 2, 1) := by decide +kernel
theorem dX12_isWithinTen_35 : decode cX12_isWithinTen 35 = .ok (.iload_n 1, 1) := by decide +kernel
theorem dX12_isWithinTen_36 : decode cX12_isWithinTen 36 = .ok (.if_icmp .ge 20, 3) := by decide +kernel
theorem dX12_isWithinTen_39 : decode cX12_isWithinTen 39 = .ok (.aload_n 0, 1) := by decide +kernel
theorem dX12_isWithinTen_40 : decode cX12_isWithinTen 40 = .ok (.getfield 28, 3) := by decide +kernel
theorem dX12_isWithinTen_43 : decode cX12_isWithinTen 43 = .ok (.iload_n 2, 1) := by decide +kernel
theorem dX12_isWithinTen_44 : decode cX12_isWithinTen 44 = .ok (.iaload, 1) := by decide +kernel
theorem dX12_isWithinTen_45 : decode cX12_isWithinTen 45 = .ok (.ifCond .eq 5, 3) := by decide +kernel
theorem dX12_isWithinTen_48 : decode cX12_isWithinTen 48 = .ok (.iconst 0, 1) := by decide +kernel
theorem dX12_isWithinTen_49 : decode cX12_isWithinTen 49 = .ok (.ireturn, 1) := by decide +kernel
theorem dX12_isWithinTen_50 : decode cX12_isWithinTen 50 = .ok (.iinc 2 1, 3) := by decide +kernel
theorem dX12_isWithinTen_53 : decode cX12_isWithinTen 53 = .ok (.goto (-19), 3) := by decide +kernel
theorem dX12_isWithinTen_56 : decode cX12_isWithinTen 56 = .ok (.iconst 1, 1) := by decide +kernel
theorem dX12_isWithinTen_57 : decode cX12_isWithinTen 57 = .ok (.ireturn, 1) := by decide +kernel
theorem dX12_gone_0 : decode cX12_gone 0 = .ok (.iload_n 1, 1) := by decide +kernel
theorem dX12_gone_1 : decode cX12_gone 1 = .ok (.iconst 1, 1) := by decide +kernel
theorem dX12_gone_2 : decode cX12_gone 2 = .ok (.bipush 9, 2) := by decide +kernel
theorem dX12_gone_4 : decode cX12_gone 4 = .ok (.invokestatic 49, 3) := by decide +kernel
theorem dX12_gone_7 : decode cX12_gone 7 = .ok (.ifCond .eq 13, 3) := by decide +kernel
theorem dX12_gone_10 : decode cX12_gone 10 = .ok (.iload_n 2, 1) := by decide +kernel
theorem dX12_gone_11 : decode cX12_gone 11 = .ok (.iconst 2, 1) := by decide +kernel
theorem dX12_gone_12 : decode cX12_gone 12 = .ok (.bipush 50, 2) := by decide +kernel
theorem dX12_gone_14 : decode cX12_gone 14 = .ok (.invokestatic 49, 3) := by decide +kernel
theorem dX12_gone_17 : decode cX12_gone 17 = .ok (.ifCond .ne 5, 3) := by decide +kernel
theorem dX12_gone_20 : decode cX12_gone 20 = .ok (.iconst (-1), 1) := by decide +kernel
theorem dX12_gone_21 : decode cX12_gone 21 = .ok (.ireturn, 1) := by decide +kernel
theorem dX12_gone_22 : decode cX12_gone 22 = .ok (.iconst 0, 1) := by decide +kernel
theorem dX12_gone_23 : decode cX12_gone 23 = .ok (.istore_n 3, 1) := by decide +kernel
theorem dX12_gone_24 : decode cX12_gone 24 = .ok (.iload_n 3, 1) := by decide +kernel
theorem dX12_gone_25 : decode cX12_gone 25 = .ok (.bipush 80, 2) := by decide +kernel
theorem dX12_gone_27 : decode cX12_gone 27 = .ok (.if_icmp .ge 24, 3) := by decide +kernel
theorem dX12_gone_30 : decode cX12_gone 30 = .ok (.aload_n 0, 1) := by decide +kernel
theorem dX12_gone_31 : decode cX12_gone 31 = .ok (.getfield 28, 3) := by decide +kernel
theorem dX12_gone_34 : decode cX12_gone 34 = .ok (.iload_n 3, 1) := by decide +kernel
theorem dX12_gone_35 : decode cX12_gone 35 = .ok (.iload_n 3, 1) := by decide +kernel
theorem dX12_gone_36 : decode cX12_gone 36 = .ok (.ifCond .ne 7, 3) := by decide +kernel
theorem dX12_gone_39 : decode cX12_gone 39 = .ok (.iconst 1, 1) := by decide +kernel
theorem dX12_gone_40 : decode cX12_gone 40 = .ok (.goto 4, 3) := by decide +kernel
theorem dX12_gone_43 : decode cX12_gone 43 = .ok (.iconst 0, 1) := by decide +kernel
theorem dX12_gone_44 : decode cX12_gone 44 = .ok (.iastore, 1) := by decide +kernel
theorem dX12_gone_45 : decode cX12_gone 45 = .ok (.iinc 3 1, 3) := by decide +kernel
theorem dX12_gone_48 : decode cX12_gone 48 = .ok (.goto (-24), 3) := by decide +kernel
theorem dX12_gone_51 : decode cX12_gone 51 = .ok (.aload_n 0, 1) := by decide +kernel
theorem dX12_gone_52 : decode cX12_gone 52 = .ok (.iconst 0, 1) := by decide +kernel
theorem dX12_gone_53 : decode cX12_gone 53 = .ok (.putfield 188, 3) := by decide +kernel
theorem dX12_gone_56 : decode cX12_gone 56 = .ok (.aload_n 0, 1) := by decide +kernel
theorem dX12_gone_57 : decode cX12_gone 57 = .ok (.iload_n 2, 1) := by decide +kernel
theorem dX12_gone_58 : decode cX12_gone 58 = .ok (.iconst 1, 1) := by decide +kernel
theorem dX12_gone_59 : decode cX12_gone 59 = .ok (.isub, 1) := by decide +kernel
theorem dX12_gone_60 : decode cX12_gone 60 = .ok (.invokevirtual 191, 3) := by decide +kernel
theorem dX12_gone_63 : decode cX12_gone 63 = .ok (.iconst 0, 1) := by decide +kernel
theorem dX12_gone_64 : decode cX12_gone 64 = .ok (.istore_n 3, 1) := by decide +kernel
theorem dX12_gone_65 : decode cX12_gone 65 = .ok (.iload_n 3, 1) := by decide +kernel
theorem dX12_gone_66 : decode cX12_gone 66 = .ok (.bipush 60, 2) := by decide +kernel
theorem dX12_gone_68 : decode cX12_gone 68 = .ok (.if_icmp .gt 32, 3) := by decide +kernel
theorem dX12_gone_71 : decode cX12_gone 71 = .ok (.aload_n 0, 1) := by decide +kernel
theorem dX12_gone_72 : decode cX12_gone 72 = .ok (.iload_n 3, 1) := by decide +kernel
theorem dX12_gone_73 : decode cX12_gone 73 = .ok (.invokevirtual 195, 3) := by decide +kernel
theorem dX12_gone_76 : decode cX12_gone 76 = .ok (.ifCond .eq 5, 3) := by decide +kernel
theorem dX12_gone_79 : decode cX12_gone 79 = .ok (.iload_n 3, 1) := by decide +kernel
theorem dX12_gone_80 : decode cX12_gone 80 = .ok (.ireturn, 1) := by decide +kernel
theorem dX12_gone_81 : decode cX12_gone 81 = .ok (.aload_n 0, 1) := by decide +kernel
theorem dX12_gone_82 : decode cX12_gone 82 = .ok (.iconst 0, 1) := by decide +kernel
theorem dX12_gone_83 : decode cX12_gone 83 = .ok (.putfield 188, 3) := by decide +kernel
theorem dX12_gone_86 : decode cX12_gone 86 = .ok (.aload_n 0, 1) := by decide +kernel
theorem dX12_gone_87 : decode cX12_gone 87 = .ok (.bipush 10, 2) := by decide +kernel
theorem dX12_gone_89 : decode cX12_gone 89 = .ok (.iload_n 1, 1) := by decide +kernel
theorem dX12_gone_90 : decode cX12_gone 90 = .ok (.isub, 1) := by decide +kernel
theorem dX12_gone_91 : decode cX12_gone 91 = .ok (.invokevirtual 191, 3) := by decide +kernel
theorem dX12_gone_94 : decode cX12_gone 94 = .ok (.iinc 3 1, 3) := by decide +kernel
theorem dX12_gone_97 : decode cX12_gone 97 = .ok (.goto (-32), 3) := by decide +kernel
theorem dX12_gone_100 : decode cX12_gone 100 = .ok (.bipush (-4), 2) := by decide +kernel
theorem dX12_gone_102 : decode cX12_gone 102 = .ok (.ireturn, 1) := by decide +kernel
theorem dX12_wrongEar_0 : decode cX12_wrongEar 0 = .ok (.iload_n 2, 1) := by decide +kernel
theorem dX12_wrongEar_1 : decode cX12_wrongEar 1 = .ok (.iconst 0, 1) := by decide +kernel
theorem dX12_wrongEar_2 : decode cX12_wrongEar 2 = .ok (.bipush 9, 2) := by decide +kernel
theorem dX12_wrongEar_4 : decode cX12_wrongEar 4 = .ok (.invokestatic 49, 3) := by decide +kernel
theorem dX12_wrongEar_7 : decode cX12_wrongEar 7 = .ok (.ifCond .ne 5, 3) := by decide +kernel
theorem dX12_wrongEar_10 : decode cX12_wrongEar 10 = .ok (.iconst (-1), 1) := by decide +kernel
theorem dX12_wrongEar_11 : decode cX12_wrongEar 11 = .ok (.ireturn, 1) := by decide +kernel
theorem dX12_wrongEar_12 : decode cX12_wrongEar 12 = .ok (.aload_n 0, 1) := by decide +kernel
theorem dX12_wrongEar_13 : decode cX12_wrongEar 13 = .ok (.iload_n 1, 1) := by decide +kernel
theorem dX12_wrongEar_14 : decode cX12_wrongEar 14 = .ok (.iconst (-1), 1) := by decide +kernel
theorem dX12_wrongEar_15 : decode cX12_wrongEar 15 = .ok (.invokevirtual 127, 3) := by decide +kernel
theorem dX12_wrongEar_18 : decode cX12_wrongEar 18 = .ok (.istore_n 3, 1) := by decide +kernel
theorem dX12_wrongEar_19 : decode cX12_wrongEar 19 = .ok (.iload_n 3, 1) := by decide +kernel
theorem dX12_wrongEar_20 : decode cX12_wrongEar 20 = .ok (.ifCond .eq 5, 3) := by decide +kernel
theorem dX12_wrongEar_23 : decode cX12_wrongEar 23 = .ok (.iload_n 3, 1) := by decide +kernel
theorem dX12_wrongEar_24 : decode cX12_wrongEar 24 = .ok (.ireturn, 1) := by decide +kernel
theorem dX12_wrongEar_25 : decode cX12_wrongEar 25 = .ok (.aload_n 0, 1) := by decide +kernel
theorem dX12_wrongEar_26 : decode cX12_wrongEar 26 = .ok (.getfield 43, 3) := by decide +kernel
theorem dX12_wrongEar_29 : decode cX12_wrongEar 29 = .ok (.iload_n 1, 1) := by decide +kernel
theorem dX12_wrongEar_30 : decode cX12_wrongEar 30 = .ok (.iaload, 1) := by decide +kernel
theorem dX12_wrongEar_31 : decode cX12_wrongEar 31 = .ok (.bipush 8, 2) := by decide +kernel
theorem dX12_wrongEar_33 : decode cX12_wrongEar 33 = .ok (.if_icmp .le 6, 3) := by decide +kernel
theorem dX12_wrongEar_36 : decode cX12_wrongEar 36 = .ok (.bipush (-13), 2) := by decide +kernel
theorem dX12_wrongEar_38 : decode cX12_wrongEar 38 = .ok (.ireturn, 1) := by decide +kernel
theorem dX12_wrongEar_39 : decode cX12_wrongEar 39 = .ok (.iconst 0, 1) := by decide +kernel
theorem dX12_wrongEar_40 : decode cX12_wrongEar 40 = .ok (.istore 4, 2) := by decide +kernel
theorem dX12_wrongEar_42 : decode cX12_wrongEar 42 = .ok (.iload 4, 2) := by decide +kernel
theorem dX12_wrongEar_44 : decode cX12_wrongEar 44 = .ok (.aload_n 0, 1) := by decide +kernel
theorem dX12_wrongEar_45 : decode cX12_wrongEar 45 = .ok (.getfield 43, 3) := by decide +kernel
theorem dX12_wrongEar_48 : decode cX12_wrongEar 48 = .ok (.iload_n 1, 1) := by decide +kernel
theorem dX12_wrongEar_49 : decode cX12_wrongEar 49 = .ok (.iaload, 1) := by decide +kernel
theorem dX12_wrongEar_50 : decode cX12_wrongEar 50 = .ok (.if_icmp .ge 30, 3) := by decide +kernel
theorem dX12_wrongEar_53 : decode cX12_wrongEar 53 = .ok (.aload_n 0, 1) := by decide +kernel
theorem dX12_wrongEar_54 : decode cX12_wrongEar 54 = .ok (.getfield 46, 3) := by decide +kernel
theorem dX12_wrongEar_57 : decode cX12_wrongEar 57 = .ok (.bipush 100, 2) := by decide +kernel
theorem dX12_wrongEar_59 : decode cX12_wrongEar 59 = .ok (.iload_n 1, 1) := by decide +kernel
theorem dX12_wrongEar_60 : decode cX12_wrongEar 60 = .ok (.imul, 1) := by decide +kernel
theorem dX12_wrongEar_61 : decode cX12_wrongEar 61 = .ok (.iload 4, 2) := by decide +kernel
theorem dX12_wrongEar_63 : decode cX12_wrongEar 63 = .ok (.iadd, 1) := by decide +kernel
theorem dX12_wrongEar_64 : decode cX12_wrongEar 64 = .ok (.iaload, 1) := by decide +kernel
theorem dX12_wrongEar_65 : decode cX12_wrongEar 65 = .ok (.invokestatic 111, 3) := by decide +kernel
theorem dX12_wrongEar_68 : decode cX12_wrongEar 68 = .ok (.ifCond .ne 6, 3) := by decide +kernel
theorem dX12_wrongEar_71 : decode cX12_wrongEar 71 = .ok (.bipush (-13), 2) := by decide +kernel
theorem dX12_wrongEar_73 : decode cX12_wrongEar 73 = .ok (.ireturn, 1) := by decide +kernel
theorem dX12_wrongEar_74 : decode cX12_wrongEar 74 = .ok (.iinc 4 1, 3) := by decide +kernel
theorem dX12_wrongEar_77 : decode cX12_wrongEar 77 = .ok (.goto (-35), 3) := by decide +kernel
theorem dX12_wrongEar_80 : decode cX12_wrongEar 80 = .ok (.iconst 0, 1) := by decide +kernel
theorem dX12_wrongEar_81 : decode cX12_wrongEar 81 = .ok (.ireturn, 1) := by decide +kernel
theorem dX12_earOf_0 : decode cX12_earOf 0 = .ok (.lconst 1, 1) := by decide +kernel
theorem dX12_earOf_1 : decode cX12_earOf 1 = .ok (.lstore 4, 2) := by decide +kernel
theorem dX12_earOf_3 : decode cX12_earOf 3 = .ok (.iconst 0, 1) := by decide +kernel
theorem dX12_earOf_4 : decode cX12_earOf 4 = .ok (.istore 6, 2) := by decide +kernel
theorem dX12_earOf_6 : decode cX12_earOf 6 = .ok (.iload 6, 2) := by decide +kernel
theorem dX12_earOf_8 : decode cX12_earOf 8 = .ok (.aload_n 0, 1) := by decide +kernel
theorem dX12_earOf_9 : decode cX12_earOf 9 = .ok (.getfield 43, 3) := by decide +kernel
theorem dX12_earOf_12 : decode cX12_earOf 12 = .ok (.iload_n 1, 1) := by decide +kernel
theorem dX12_earOf_13 : decode cX12_earOf 13 = .ok (.iaload, 1) := by decide +kernel
theorem dX12_earOf_14 : decode cX12_earOf 14 = .ok (.if_icmp .ge 42, 3) := by decide +kernel
theorem dX12_earOf_17 : decode cX12_earOf 17 = .ok (.lload 4, 2) := by decide +kernel
theorem dX12_earOf_19 : decode cX12_earOf 19 = .ok (.aload_n 0, 1) := by decide +kernel
theorem dX12_earOf_20 : decode cX12_earOf 20 = .ok (.getfield 46, 3) := by decide +kernel
theorem dX12_earOf_23 : decode cX12_earOf 23 = .ok (.bipush 100, 2) := by decide +kernel
theorem dX12_earOf_25 : decode cX12_earOf 25 = .ok (.iload_n 1, 1) := by decide +kernel
theorem dX12_earOf_26 : decode cX12_earOf 26 = .ok (.imul, 1) := by decide +kernel
theorem dX12_earOf_27 : decode cX12_earOf 27 = .ok (.iload 6, 2) := by decide +kernel
theorem dX12_earOf_29 : decode cX12_earOf 29 = .ok (.iadd, 1) := by decide +kernel
theorem dX12_earOf_30 : decode cX12_earOf 30 = .ok (.iaload, 1) := by decide +kernel
theorem dX12_earOf_31 : decode cX12_earOf 31 = .ok (.iload_n 3, 1) := by decide +kernel
theorem dX12_earOf_32 : decode cX12_earOf 32 = .ok (.if_icmp .ne 10, 3) := by decide +kernel
theorem dX12_earOf_35 : decode cX12_earOf 35 = .ok (.iconst 3, 1) := by decide +kernel
theorem dX12_earOf_36 : decode cX12_earOf 36 = .ok (.iload_n 2, 1) := by decide +kernel
theorem dX12_earOf_37 : decode cX12_earOf 37 = .ok (.imul, 1) := by decide +kernel
theorem dX12_earOf_38 : decode cX12_earOf 38 = .ok (.i2l, 1) := by decide +kernel
theorem dX12_earOf_39 : decode cX12_earOf 39 = .ok (.goto 8, 3) := by decide +kernel
theorem dX12_earOf_42 : decode cX12_earOf 42 = .ok (.bipush 10, 2) := by decide +kernel
theorem dX12_earOf_44 : decode cX12_earOf 44 = .ok (.iload_n 2, 1) := by decide +kernel
theorem dX12_earOf_45 : decode cX12_earOf 45 = .ok (.isub, 1) := by decide +kernel
theorem dX12_earOf_46 : decode cX12_earOf 46 = .ok (.i2l, 1) := by decide +kernel
theorem dX12_earOf_47 : decode cX12_earOf 47 = .ok (.lmul, 1) := by decide +kernel
theorem dX12_earOf_48 : decode cX12_earOf 48 = .ok (.lstore 4, 2) := by decide +kernel
theorem dX12_earOf_50 : decode cX12_earOf 50 = .ok (.iinc 6 1, 3) := by decide +kernel
theorem dX12_earOf_53 : decode cX12_earOf 53 = .ok (.goto (-47), 3) := by decide +kernel
theorem dX12_earOf_56 : decode cX12_earOf 56 = .ok (.lload 4, 2) := by decide +kernel
theorem dX12_earOf_58 : decode cX12_earOf 58 = .ok (.lreturn, 1) := by decide +kernel
theorem dX12_ear_0 : decode cX12_ear 0 = .ok (.iload_n 3, 1) := by decide +kernel
theorem dX12_ear_1 : decode cX12_ear 1 = .ok (.invokestatic 111, 3) := by decide +kernel
theorem dX12_ear_4 : decode cX12_ear 4 = .ok (.ifCond .eq 13, 3) := by decide +kernel
theorem dX12_ear_7 : decode cX12_ear 7 = .ok (.iload 4, 2) := by decide +kernel
theorem dX12_ear_9 : decode cX12_ear 9 = .ok (.iconst 0, 1) := by decide +kernel
theorem dX12_ear_10 : decode cX12_ear 10 = .ok (.iconst 1, 1) := by decide +kernel
theorem dX12_ear_11 : decode cX12_ear 11 = .ok (.invokestatic 49, 3) := by decide +kernel
theorem dX12_ear_14 : decode cX12_ear 14 = .ok (.ifCond .ne 7, 3) := by decide +kernel
theorem dX12_ear_17 : decode cX12_ear 17 = .ok (.ldc2_w 183, 3) := by decide +kernel
theorem dX12_ear_20 : decode cX12_ear 20 = .ok (.lreturn, 1) := by decide +kernel
theorem dX12_ear_21 : decode cX12_ear 21 = .ok (.aload_n 0, 1) := by decide +kernel
theorem dX12_ear_22 : decode cX12_ear 22 = .ok (.iload_n 1, 1) := by decide +kernel
theorem dX12_ear_23 : decode cX12_ear 23 = .ok (.iload_n 2, 1) := by decide +kernel
theorem dX12_ear_24 : decode cX12_ear 24 = .ok (.invokevirtual 198, 3) := by decide +kernel
theorem dX12_ear_27 : decode cX12_ear 27 = .ok (.istore 5, 2) := by decide +kernel
theorem dX12_ear_29 : decode cX12_ear 29 = .ok (.iload 5, 2) := by decide +kernel
theorem dX12_ear_31 : decode cX12_ear 31 = .ok (.ifCond .eq 10, 3) := by decide +kernel
theorem dX12_ear_34 : decode cX12_ear 34 = .ok (.ldc 201, 2) := by decide +kernel
theorem dX12_ear_36 : decode cX12_ear 36 = .ok (.iload 5, 2) := by decide +kernel
theorem dX12_ear_38 : decode cX12_ear 38 = .ok (.iadd, 1) := by decide +kernel
theorem dX12_ear_39 : decode cX12_ear 39 = .ok (.i2l, 1) := by decide +kernel
theorem dX12_ear_40 : decode cX12_ear 40 = .ok (.lreturn, 1) := by decide +kernel
theorem dX12_ear_41 : decode cX12_ear 41 = .ok (.lconst 0, 1) := by decide +kernel
theorem dX12_ear_42 : decode cX12_ear 42 = .ok (.lstore 6, 2) := by decide +kernel
theorem dX12_ear_44 : decode cX12_ear 44 = .ok (.iconst 0, 1) := by decide +kernel
theorem dX12_ear_45 : decode cX12_ear 45 = .ok (.istore 8, 2) := by decide +kernel
theorem dX12_ear_47 : decode cX12_ear 47 = .ok (.iload 8, 2) := by decide +kernel
theorem dX12_ear_49 : decode cX12_ear 49 = .ok (.iconst 4, 1) := by decide +kernel
theorem dX12_ear_50 : decode cX12_ear 50 = .ok (.if_icmp .ge 22, 3) := by decide +kernel
theorem dX12_ear_53 : decode cX12_ear 53 = .ok (.lload 6, 2) := by decide +kernel
theorem dX12_ear_55 : decode cX12_ear 55 = .ok (.aload_n 0, 1) := by decide +kernel
theorem dX12_ear_56 : decode cX12_ear 56 = .ok (.iload_n 1, 1) := by decide +kernel
theorem dX12_ear_57 : decode cX12_ear 57 = .ok (.iload_n 2, 1) := by decide +kernel
theorem dX12_ear_58 : decode cX12_ear 58 = .ok (.iload 8, 2) := by decide +kernel
theorem dX12_ear_60 : decode cX12_ear 60 = .ok (.invokevirtual 202, 3) := by decide +kernel
theorem dX12_ear_63 : decode cX12_ear 63 = .ok (.ladd, 1) := by decide +kernel
theorem dX12_ear_64 : decode cX12_ear 64 = .ok (.lstore 6, 2) := by decide +kernel
theorem dX12_ear_66 : decode cX12_ear 66 = .ok (.iinc 8 1, 3) := by decide +kernel
theorem dX12_ear_69 : decode cX12_ear 69 = .ok (.goto (-22), 3) := by decide +kernel
theorem dX12_ear_72 : decode cX12_ear 72 = .ok (.aload_n 0, 1) := by decide +kernel
theorem dX12_ear_73 : decode cX12_ear 73 = .ok (.iload_n 1, 1) := by decide +kernel
theorem dX12_ear_74 : decode cX12_ear 74 = .ok (.iload_n 2, 1) := by decide +kernel
theorem dX12_ear_75 : decode cX12_ear 75 = .ok (.iload_n 3, 1) := by decide +kernel
theorem dX12_ear_76 : decode cX12_ear 76 = .ok (.invokevirtual 202, 3) := by decide +kernel
theorem dX12_ear_79 : decode cX12_ear 79 = .ok (.lload 6, 2) := by decide +kernel
theorem dX12_ear_81 : decode cX12_ear 81 = .ok (.iload 4, 2) := by decide +kernel
theorem dX12_ear_83 : decode cX12_ear 83 = .ok (.invokestatic 179, 3) := by decide +kernel
theorem dX12_ear_86 : decode cX12_ear 86 = .ok (.lreturn, 1) := by decide +kernel
theorem dX12_likeliest_0 : decode cX12_likeliest 0 = .ok (.aload_n 0, 1) := by decide +kernel
theorem dX12_likeliest_1 : decode cX12_likeliest 1 = .ok (.iload_n 1, 1) := by decide +kernel
theorem dX12_likeliest_2 : decode cX12_likeliest 2 = .ok (.iload_n 2, 1) := by decide +kernel
theorem dX12_likeliest_3 : decode cX12_likeliest 3 = .ok (.invokevirtual 198, 3) := by decide +kernel
theorem dX12_likeliest_6 : decode cX12_likeliest 6 = .ok (.istore_n 3, 1) := by decide +kernel
theorem dX12_likeliest_7 : decode cX12_likeliest 7 = .ok (.iload_n 3, 1) := by decide +kernel
theorem dX12_likeliest_8 : decode cX12_likeliest 8 = .ok (.ifCond .eq 5, 3) := by decide +kernel
theorem dX12_likeliest_11 : decode cX12_likeliest 11 = .ok (.iload_n 3, 1) := by decide +kernel
theorem dX12_likeliest_12 : decode cX12_likeliest 12 = .ok (.ireturn, 1) := by decide +kernel
theorem dX12_likeliest_13 : decode cX12_likeliest 13 = .ok (.iconst 0, 1) := by decide +kernel
theorem dX12_likeliest_14 : decode cX12_likeliest 14 = .ok (.istore 4, 2) := by decide +kernel
theorem dX12_likeliest_16 : decode cX12_likeliest 16 = .ok (.iconst 1, 1) := by decide +kernel
theorem dX12_likeliest_17 : decode cX12_likeliest 17 = .ok (.istore 5, 2) := by decide +kernel
theorem dX12_likeliest_19 : decode cX12_likeliest 19 = .ok (.iload 5, 2) := by decide +kernel
theorem dX12_likeliest_21 : decode cX12_likeliest 21 = .ok (.iconst 4, 1) := by decide +kernel
theorem dX12_likeliest_22 : decode cX12_likeliest 22 = .ok (.if_icmp .ge 33, 3) := by decide +kernel
theorem dX12_likeliest_25 : decode cX12_likeliest 25 = .ok (.aload_n 0, 1) := by decide +kernel
theorem dX12_likeliest_26 : decode cX12_likeliest 26 = .ok (.iload_n 1, 1) := by decide +kernel
theorem dX12_likeliest_27 : decode cX12_likeliest 27 = .ok (.iload_n 2, 1) := by decide +kernel
theorem dX12_likeliest_28 : decode cX12_likeliest 28 = .ok (.iload 5, 2) := by decide +kernel
theorem dX12_likeliest_30 : decode cX12_likeliest 30 = .ok (.invokevirtual 202, 3) := by decide +kernel
theorem dX12_likeliest_33 : decode cX12_likeliest 33 = .ok (.aload_n 0, 1) := by decide +kernel
theorem dX12_likeliest_34 : decode cX12_likeliest 34 = .ok (.iload_n 1, 1) := by decide +kernel
theorem dX12_likeliest_35 : decode cX12_likeliest 35 = .ok (.iload_n 2, 1) := by decide +kernel
theorem dX12_likeliest_36 : decode cX12_likeliest 36 = .ok (.iload 4, 2) := by decide +kernel
theorem dX12_likeliest_38 : decode cX12_likeliest 38 = .ok (.invokevirtual 202, 3) := by decide +kernel
theorem dX12_likeliest_41 : decode cX12_likeliest 41 = .ok (.lcmp, 1) := by decide +kernel
theorem dX12_likeliest_42 : decode cX12_likeliest 42 = .ok (.ifCond .le 7, 3) := by decide +kernel
theorem dX12_likeliest_45 : decode cX12_likeliest 45 = .ok (.iload 5, 2) := by decide +kernel
theorem dX12_likeliest_47 : decode cX12_likeliest 47 = .ok (.istore 4, 2) := by decide +kernel
theorem dX12_likeliest_49 : decode cX12_likeliest 49 = .ok (.iinc 5 1, 3) := by decide +kernel
theorem dX12_likeliest_52 : decode cX12_likeliest 52 = .ok (.goto (-33), 3) := by decide +kernel
theorem dX12_likeliest_55 : decode cX12_likeliest 55 = .ok (.iload 4, 2) := by decide +kernel
theorem dX12_likeliest_57 : decode cX12_likeliest 57 = .ok (.ireturn, 1) := by decide +kernel
theorem dX12_mends_0 : decode cX12_mends 0 = .ok (.iload_n 1, 1) := by decide +kernel
theorem dX12_mends_1 : decode cX12_mends 1 = .ok (.iconst 0, 1) := by decide +kernel
theorem dX12_mends_2 : decode cX12_mends 2 = .ok (.iconst 1, 1) := by decide +kernel
theorem dX12_mends_3 : decode cX12_mends 3 = .ok (.invokestatic 49, 3) := by decide +kernel
theorem dX12_mends_6 : decode cX12_mends 6 = .ok (.ifCond .ne 5, 3) := by decide +kernel
theorem dX12_mends_9 : decode cX12_mends 9 = .ok (.iconst (-1), 1) := by decide +kernel
theorem dX12_mends_10 : decode cX12_mends 10 = .ok (.ireturn, 1) := by decide +kernel
theorem dX12_mends_11 : decode cX12_mends 11 = .ok (.aload_n 0, 1) := by decide +kernel
theorem dX12_mends_12 : decode cX12_mends 12 = .ok (.getfield 9, 3) := by decide +kernel
theorem dX12_mends_15 : decode cX12_mends 15 = .ok (.aload_n 0, 1) := by decide +kernel
theorem dX12_mends_16 : decode cX12_mends 16 = .ok (.getfield 13, 3) := by decide +kernel
theorem dX12_mends_19 : decode cX12_mends 19 = .ok (.invokestatic 134, 3) := by decide +kernel
theorem dX12_mends_22 : decode cX12_mends 22 = .ok (.iconst 0, 1) := by decide +kernel
theorem dX12_mends_23 : decode cX12_mends 23 = .ok (.istore_n 2, 1) := by decide +kernel
theorem dX12_mends_24 : decode cX12_mends 24 = .ok (.aload_n 0, 1) := by decide +kernel
theorem dX12_mends_25 : decode cX12_mends 25 = .ok (.getfield 13, 3) := by decide +kernel
theorem dX12_mends_28 : decode cX12_mends 28 = .ok (.iconst 0, 1) := by decide +kernel
theorem dX12_mends_29 : decode cX12_mends 29 = .ok (.invokestatic 150, 3) := by decide +kernel
theorem dX12_mends_32 : decode cX12_mends 32 = .ok (.istore_n 3, 1) := by decide +kernel
theorem dX12_mends_33 : decode cX12_mends 33 = .ok (.iload_n 3, 1) := by decide +kernel
theorem dX12_mends_34 : decode cX12_mends 34 = .ok (.ifCond .lt 34, 3) := by decide +kernel
theorem dX12_mends_37 : decode cX12_mends 37 = .ok (.iload_n 2, 1) := by decide +kernel
theorem dX12_mends_38 : decode cX12_mends 38 = .ok (.bipush 60, 2) := by decide +kernel
theorem dX12_mends_40 : decode cX12_mends 40 = .ok (.if_icmp .ge 28, 3) := by decide +kernel
theorem dX12_mends_43 : decode cX12_mends 43 = .ok (.aload_n 0, 1) := by decide +kernel
theorem dX12_mends_44 : decode cX12_mends 44 = .ok (.getfield 13, 3) := by decide +kernel
theorem dX12_mends_47 : decode cX12_mends 47 = .ok (.iload_n 3, 1) := by decide +kernel
theorem dX12_mends_48 : decode cX12_mends 48 = .ok (.invokestatic 121, 3) := by decide +kernel
theorem dX12_mends_51 : decode cX12_mends 51 = .ok (.istore 4, 2) := by decide +kernel
theorem dX12_mends_53 : decode cX12_mends 53 = .ok (.iinc 2 1, 3) := by decide +kernel
theorem dX12_mends_56 : decode cX12_mends 56 = .ok (.aload_n 0, 1) := by decide +kernel
theorem dX12_mends_57 : decode cX12_mends 57 = .ok (.getfield 13, 3) := by decide +kernel
theorem dX12_mends_60 : decode cX12_mends 60 = .ok (.iconst 0, 1) := by decide +kernel
theorem dX12_mends_61 : decode cX12_mends 61 = .ok (.invokestatic 150, 3) := by decide +kernel
theorem dX12_mends_64 : decode cX12_mends 64 = .ok (.istore_n 3, 1) := by decide +kernel
theorem dX12_mends_65 : decode cX12_mends 65 = .ok (.goto (-32), 3) := by decide +kernel
theorem dX12_mends_68 : decode cX12_mends 68 = .ok (.iload_n 1, 1) := by decide +kernel
theorem dX12_mends_69 : decode cX12_mends 69 = .ok (.ifCond .ne 14, 3) := by decide +kernel
theorem dX12_mends_72 : decode cX12_mends 72 = .ok (.iload_n 3, 1) := by decide +kernel
theorem dX12_mends_73 : decode cX12_mends 73 = .ok (.ifCond .lt 8, 3) := by decide +kernel
theorem dX12_mends_76 : decode cX12_mends 76 = .ok (.bipush (-4), 2) := by decide +kernel
theorem dX12_mends_78 : decode cX12_mends 78 = .ok (.goto 4, 3) := by decide +kernel
theorem dX12_mends_81 : decode cX12_mends 81 = .ok (.iload_n 2, 1) := by decide +kernel
theorem dX12_mends_82 : decode cX12_mends 82 = .ok (.ireturn, 1) := by decide +kernel
theorem dX12_mends_83 : decode cX12_mends 83 = .ok (.aload_n 0, 1) := by decide +kernel
theorem dX12_mends_84 : decode cX12_mends 84 = .ok (.getfield 13, 3) := by decide +kernel
theorem dX12_mends_87 : decode cX12_mends 87 = .ok (.invokestatic 206, 3) := by decide +kernel
theorem dX12_mends_90 : decode cX12_mends 90 = .ok (.ireturn, 1) := by decide +kernel
theorem dX12_figuresOf_0 : decode cX12_figuresOf 0 = .ok (.iconst 0, 1) := by decide +kernel
theorem dX12_figuresOf_1 : decode cX12_figuresOf 1 = .ok (.istore_n 1, 1) := by decide +kernel
theorem dX12_figuresOf_2 : decode cX12_figuresOf 2 = .ok (.iconst 0, 1) := by decide +kernel
theorem dX12_figuresOf_3 : decode cX12_figuresOf 3 = .ok (.istore_n 2, 1) := by decide +kernel
theorem dX12_figuresOf_4 : decode cX12_figuresOf 4 = .ok (.iload_n 2, 1) := by decide +kernel
theorem dX12_figuresOf_5 : decode cX12_figuresOf 5 = .ok (.aload_n 0, 1) := by decide +kernel
theorem dX12_figuresOf_6 : decode cX12_figuresOf 6 = .ok (.iconst 0, 1) := by decide +kernel
theorem dX12_figuresOf_7 : decode cX12_figuresOf 7 = .ok (.iaload, 1) := by decide +kernel
theorem dX12_figuresOf_8 : decode cX12_figuresOf 8 = .ok (.if_icmp .ge 19, 3) := by decide +kernel
theorem dX12_figuresOf_11 : decode cX12_figuresOf 11 = .ok (.iload_n 1, 1) := by decide +kernel
theorem dX12_figuresOf_12 : decode cX12_figuresOf 12 = .ok (.aload_n 0, 1) := by decide +kernel
theorem dX12_figuresOf_13 : decode cX12_figuresOf 13 = .ok (.iload_n 2, 1) := by decide +kernel
theorem dX12_figuresOf_14 : decode cX12_figuresOf 14 = .ok (.iconst 1, 1) := by decide +kernel
theorem dX12_figuresOf_15 : decode cX12_figuresOf 15 = .ok (.invokestatic 53, 3) := by decide +kernel
theorem dX12_figuresOf_18 : decode cX12_figuresOf 18 = .ok (.iaload, 1) := by decide +kernel
theorem dX12_figuresOf_19 : decode cX12_figuresOf 19 = .ok (.iadd, 1) := by decide +kernel
theorem dX12_figuresOf_20 : decode cX12_figuresOf 20 = .ok (.istore_n 1, 1) := by decide +kernel
theorem dX12_figuresOf_21 : decode cX12_figuresOf 21 = .ok (.iinc 2 1, 3) := by decide +kernel
theorem dX12_figuresOf_24 : decode cX12_figuresOf 24 = .ok (.goto (-20), 3) := by decide +kernel
theorem dX12_figuresOf_27 : decode cX12_figuresOf 27 = .ok (.iload_n 1, 1) := by decide +kernel
theorem dX12_figuresOf_28 : decode cX12_figuresOf 28 = .ok (.ireturn, 1) := by decide +kernel
theorem dX12_mechanic_0 : decode cX12_mechanic 0 = .ok (.iload_n 1, 1) := by decide +kernel
theorem dX12_mechanic_1 : decode cX12_mechanic 1 = .ok (.iconst 0, 1) := by decide +kernel
theorem dX12_mechanic_2 : decode cX12_mechanic 2 = .ok (.bipush 9, 2) := by decide +kernel
theorem dX12_mechanic_4 : decode cX12_mechanic 4 = .ok (.invokestatic 49, 3) := by decide +kernel
theorem dX12_mechanic_7 : decode cX12_mechanic 7 = .ok (.ifCond .eq 33, 3) := by decide +kernel
theorem dX12_mechanic_10 : decode cX12_mechanic 10 = .ok (.iload_n 2, 1) := by decide +kernel
theorem dX12_mechanic_11 : decode cX12_mechanic 11 = .ok (.iconst 1, 1) := by decide +kernel
theorem dX12_mechanic_12 : decode cX12_mechanic 12 = .ok (.bipush 9, 2) := by decide +kernel
theorem dX12_mechanic_14 : decode cX12_mechanic 14 = .ok (.invokestatic 49, 3) := by decide +kernel
theorem dX12_mechanic_17 : decode cX12_mechanic 17 = .ok (.ifCond .eq 23, 3) := by decide +kernel
theorem dX12_mechanic_20 : decode cX12_mechanic 20 = .ok (.iload_n 3, 1) := by decide +kernel
theorem dX12_mechanic_21 : decode cX12_mechanic 21 = .ok (.iconst 0, 1) := by decide +kernel
theorem dX12_mechanic_22 : decode cX12_mechanic 22 = .ok (.bipush 99, 2) := by decide +kernel
theorem dX12_mechanic_24 : decode cX12_mechanic 24 = .ok (.invokestatic 49, 3) := by decide +kernel
theorem dX12_mechanic_27 : decode cX12_mechanic 27 = .ok (.ifCond .eq 13, 3) := by decide +kernel
theorem dX12_mechanic_30 : decode cX12_mechanic 30 = .ok (.iload 4, 2) := by decide +kernel
theorem dX12_mechanic_32 : decode cX12_mechanic 32 = .ok (.iconst 0, 1) := by decide +kernel
theorem dX12_mechanic_33 : decode cX12_mechanic 33 = .ok (.iconst 1, 1) := by decide +kernel
theorem dX12_mechanic_34 : decode cX12_mechanic 34 = .ok (.invokestatic 49, 3) := by decide +kernel
theorem dX12_mechanic_37 : decode cX12_mechanic 37 = .ok (.ifCond .ne 5, 3) := by decide +kernel
theorem dX12_mechanic_40 : decode cX12_mechanic 40 = .ok (.iconst (-1), 1) := by decide +kernel
theorem dX12_mechanic_41 : decode cX12_mechanic 41 = .ok (.ireturn, 1) := by decide +kernel
theorem dX12_mechanic_42 : decode cX12_mechanic 42 = .ok (.lconst 1, 1) := by decide +kernel
theorem dX12_mechanic_43 : decode cX12_mechanic 43 = .ok (.lstore 5, 2) := by decide +kernel
theorem dX12_mechanic_45 : decode cX12_mechanic 45 = .ok (.lconst 1, 1) := by decide +kernel
theorem dX12_mechanic_46 : decode cX12_mechanic 46 = .ok (.lstore 7, 2) := by decide +kernel
theorem dX12_mechanic_48 : decode cX12_mechanic 48 = .ok (.iconst 0, 1) := by decide +kernel
theorem dX12_mechanic_49 : decode cX12_mechanic 49 = .ok (.istore 9, 2) := by decide +kernel
theorem dX12_mechanic_51 : decode cX12_mechanic 51 = .ok (.iload 9, 2) := by decide +kernel
theorem dX12_mechanic_53 : decode cX12_mechanic 53 = .ok (.bipush 10, 2) := by decide +kernel
theorem dX12_mechanic_55 : decode cX12_mechanic 55 = .ok (.if_icmp .ge 60, 3) := by decide +kernel
theorem dX12_mechanic_58 : decode cX12_mechanic 58 = .ok (.lload 5, 2) := by decide +kernel
theorem dX12_mechanic_60 : decode cX12_mechanic 60 = .ok (.lload 7, 2) := by decide +kernel
theorem dX12_mechanic_62 : decode cX12_mechanic 62 = .ok (.lsub, 1) := by decide +kernel
theorem dX12_mechanic_63 : decode cX12_mechanic 63 = .ok (.ldc2_w 209, 3) := by decide +kernel
theorem dX12_mechanic_66 : decode cX12_mechanic 66 = .ok (.lmul, 1) := by decide +kernel
theorem dX12_mechanic_67 : decode cX12_mechanic 67 = .ok (.iload_n 2, 1) := by decide +kernel
theorem dX12_mechanic_68 : decode cX12_mechanic 68 = .ok (.i2l, 1) := by decide +kernel
theorem dX12_mechanic_69 : decode cX12_mechanic 69 = .ok (.lload 5, 2) := by decide +kernel
theorem dX12_mechanic_71 : decode cX12_mechanic 71 = .ok (.lmul, 1) := by decide +kernel
theorem dX12_mechanic_72 : decode cX12_mechanic 72 = .ok (.lcmp, 1) := by decide +kernel
theorem dX12_mechanic_73 : decode cX12_mechanic 73 = .ok (.ifCond .lt 18, 3) := by decide +kernel
theorem dX12_mechanic_76 : decode cX12_mechanic 76 = .ok (.iload 4, 2) := by decide +kernel
theorem dX12_mechanic_78 : decode cX12_mechanic 78 = .ok (.ifCond .ne 8, 3) := by decide +kernel
theorem dX12_mechanic_81 : decode cX12_mechanic 81 = .ok (.iload 9, 2) := by decide +kernel
theorem dX12_mechanic_83 : decode cX12_mechanic 83 = .ok (.goto 7, 3) := by decide +kernel
theorem dX12_mechanic_86 : decode cX12_mechanic 86 = .ok (.iload 9, 2) := by decide +kernel
theorem dX12_mechanic_88 : decode cX12_mechanic 88 = .ok (.iload_n 3, 1) := by decide +kernel
theorem dX12_mechanic_89 : decode cX12_mechanic 89 = .ok (.imul, 1) := by decide +kernel
theorem dX12_mechanic_90 : decode cX12_mechanic 90 = .ok (.ireturn, 1) := by decide +kernel
theorem dX12_mechanic_91 : decode cX12_mechanic 91 = .ok (.lload 5, 2) := by decide +kernel
theorem dX12_mechanic_93 : decode cX12_mechanic 93 = .ok (.ldc2_w 209, 3) := by decide +kernel
theorem dX12_mechanic_96 : decode cX12_mechanic 96 = .ok (.lmul, 1) := by decide +kernel
theorem dX12_mechanic_97 : decode cX12_mechanic 97 = .ok (.lstore 5, 2) := by decide +kernel
theorem dX12_mechanic_99 : decode cX12_mechanic 99 = .ok (.lload 7, 2) := by decide +kernel
theorem dX12_mechanic_101 : decode cX12_mechanic 101 = .ok (.bipush 10, 2) := by decide +kernel
theorem dX12_mechanic_103 : decode cX12_mechanic 103 = .ok (.iload_n 1, 1) := by decide +kernel
theorem dX12_mechanic_104 : decode cX12_mechanic 104 = .ok (.isub, 1) := by decide +kernel
theorem dX12_mechanic_105 : decode cX12_mechanic 105 = .ok (.i2l, 1) := by decide +kernel
theorem dX12_mechanic_106 : decode cX12_mechanic 106 = .ok (.lmul, 1) := by decide +kernel
theorem dX12_mechanic_107 : decode cX12_mechanic 107 = .ok (.lstore 7, 2) := by decide +kernel
theorem dX12_mechanic_109 : decode cX12_mechanic 109 = .ok (.iinc 9 1, 3) := by decide +kernel
theorem dX12_mechanic_112 : decode cX12_mechanic 112 = .ok (.goto (-61), 3) := by decide +kernel
theorem dX12_mechanic_115 : decode cX12_mechanic 115 = .ok (.bipush (-4), 2) := by decide +kernel
theorem dX12_mechanic_117 : decode cX12_mechanic 117 = .ok (.ireturn, 1) := by decide +kernel
theorem dX12_worth_0 : decode cX12_worth 0 = .ok (.iload_n 1, 1) := by decide +kernel
theorem dX12_worth_1 : decode cX12_worth 1 = .ok (.iconst 0, 1) := by decide +kernel
theorem dX12_worth_2 : decode cX12_worth 2 = .ok (.sipush 9999, 3) := by decide +kernel
theorem dX12_worth_5 : decode cX12_worth 5 = .ok (.invokestatic 49, 3) := by decide +kernel
theorem dX12_worth_8 : decode cX12_worth 8 = .ok (.ifCond .ne 5, 3) := by decide +kernel
theorem dX12_worth_11 : decode cX12_worth 11 = .ok (.iconst (-1), 1) := by decide +kernel
theorem dX12_worth_12 : decode cX12_worth 12 = .ok (.ireturn, 1) := by decide +kernel
theorem dX12_worth_13 : decode cX12_worth 13 = .ok (.aload_n 0, 1) := by decide +kernel
theorem dX12_worth_14 : decode cX12_worth 14 = .ok (.getfield 9, 3) := by decide +kernel
theorem dX12_worth_17 : decode cX12_worth 17 = .ok (.invokestatic 77, 3) := by decide +kernel
theorem dX12_worth_20 : decode cX12_worth 20 = .ok (.istore_n 2, 1) := by decide +kernel
theorem dX12_worth_21 : decode cX12_worth 21 = .ok (.iload_n 2, 1) := by decide +kernel
theorem dX12_worth_22 : decode cX12_worth 22 = .ok (.ifCond .ne 6, 3) := by decide +kernel
theorem dX12_worth_25 : decode cX12_worth 25 = .ok (.bipush (-4), 2) := by decide +kernel
theorem dX12_worth_27 : decode cX12_worth 27 = .ok (.ireturn, 1) := by decide +kernel
theorem dX12_worth_28 : decode cX12_worth 28 = .ok (.iload_n 1, 1) := by decide +kernel
theorem dX12_worth_29 : decode cX12_worth 29 = .ok (.iload_n 2, 1) := by decide +kernel
theorem dX12_worth_30 : decode cX12_worth 30 = .ok (.idiv, 1) := by decide +kernel
theorem dX12_worth_31 : decode cX12_worth 31 = .ok (.bipush 99, 2) := by decide +kernel
theorem dX12_worth_33 : decode cX12_worth 33 = .ok (.if_icmp .le 8, 3) := by decide +kernel
theorem dX12_worth_36 : decode cX12_worth 36 = .ok (.bipush 99, 2) := by decide +kernel
theorem dX12_worth_38 : decode cX12_worth 38 = .ok (.goto 6, 3) := by decide +kernel
theorem dX12_worth_41 : decode cX12_worth 41 = .ok (.iload_n 1, 1) := by decide +kernel
theorem dX12_worth_42 : decode cX12_worth 42 = .ok (.iload_n 2, 1) := by decide +kernel
theorem dX12_worth_43 : decode cX12_worth 43 = .ok (.idiv, 1) := by decide +kernel
theorem dX12_worth_44 : decode cX12_worth 44 = .ok (.ireturn, 1) := by decide +kernel
theorem dX12_leastOf_0 : decode cX12_leastOf 0 = .ok (.iload_n 0, 1) := by decide +kernel
theorem dX12_leastOf_1 : decode cX12_leastOf 1 = .ok (.ifCond .ne 8, 3) := by decide +kernel
theorem dX12_leastOf_4 : decode cX12_leastOf 4 = .ok (.bipush (-128), 2) := by decide +kernel
theorem dX12_leastOf_6 : decode cX12_leastOf 6 = .ok (.goto 16, 3) := by decide +kernel
theorem dX12_leastOf_9 : decode cX12_leastOf 9 = .ok (.iload_n 0, 1) := by decide +kernel
theorem dX12_leastOf_10 : decode cX12_leastOf 10 = .ok (.iconst 1, 1) := by decide +kernel
theorem dX12_leastOf_11 : decode cX12_leastOf 11 = .ok (.if_icmp .ne 9, 3) := by decide +kernel
theorem dX12_leastOf_14 : decode cX12_leastOf 14 = .ok (.sipush (-32768), 3) := by decide +kernel
theorem dX12_leastOf_17 : decode cX12_leastOf 17 = .ok (.goto 5, 3) := by decide +kernel
theorem dX12_leastOf_20 : decode cX12_leastOf 20 = .ok (.ldc 211, 2) := by decide +kernel
theorem dX12_leastOf_22 : decode cX12_leastOf 22 = .ok (.ireturn, 1) := by decide +kernel
theorem dX12_quiet_0 : decode cX12_quiet 0 = .ok (.iload_n 2, 1) := by decide +kernel
theorem dX12_quiet_1 : decode cX12_quiet 1 = .ok (.iconst 0, 1) := by decide +kernel
theorem dX12_quiet_2 : decode cX12_quiet 2 = .ok (.iconst 1, 1) := by decide +kernel
theorem dX12_quiet_3 : decode cX12_quiet 3 = .ok (.invokestatic 49, 3) := by decide +kernel
theorem dX12_quiet_6 : decode cX12_quiet 6 = .ok (.ifCond .ne 5, 3) := by decide +kernel
theorem dX12_quiet_9 : decode cX12_quiet 9 = .ok (.iconst (-1), 1) := by decide +kernel
theorem dX12_quiet_10 : decode cX12_quiet 10 = .ok (.ireturn, 1) := by decide +kernel
theorem dX12_quiet_11 : decode cX12_quiet 11 = .ok (.aload_n 0, 1) := by decide +kernel
theorem dX12_quiet_12 : decode cX12_quiet 12 = .ok (.iload_n 1, 1) := by decide +kernel
theorem dX12_quiet_13 : decode cX12_quiet 13 = .ok (.iconst (-1), 1) := by decide +kernel
theorem dX12_quiet_14 : decode cX12_quiet 14 = .ok (.invokevirtual 127, 3) := by decide +kernel
theorem dX12_quiet_17 : decode cX12_quiet 17 = .ok (.istore_n 3, 1) := by decide +kernel
theorem dX12_quiet_18 : decode cX12_quiet 18 = .ok (.iload_n 3, 1) := by decide +kernel
theorem dX12_quiet_19 : decode cX12_quiet 19 = .ok (.ifCond .ne 21, 3) := by decide +kernel
theorem dX12_quiet_22 : decode cX12_quiet 22 = .ok (.aload_n 0, 1) := by decide +kernel
theorem dX12_quiet_23 : decode cX12_quiet 23 = .ok (.getfield 43, 3) := by decide +kernel
theorem dX12_quiet_26 : decode cX12_quiet 26 = .ok (.iload_n 1, 1) := by decide +kernel
theorem dX12_quiet_27 : decode cX12_quiet 27 = .ok (.iaload, 1) := by decide +kernel
theorem dX12_quiet_28 : decode cX12_quiet 28 = .ok (.aload_n 0, 1) := by decide +kernel
theorem dX12_quiet_29 : decode cX12_quiet 29 = .ok (.getfield 9, 3) := by decide +kernel
theorem dX12_quiet_32 : decode cX12_quiet 32 = .ok (.iconst 0, 1) := by decide +kernel
theorem dX12_quiet_33 : decode cX12_quiet 33 = .ok (.iaload, 1) := by decide +kernel
theorem dX12_quiet_34 : decode cX12_quiet 34 = .ok (.if_icmp .le 6, 3) := by decide +kernel
theorem dX12_quiet_37 : decode cX12_quiet 37 = .ok (.bipush (-13), 2) := by decide +kernel
theorem dX12_quiet_39 : decode cX12_quiet 39 = .ok (.istore_n 3, 1) := by decide +kernel
theorem dX12_quiet_40 : decode cX12_quiet 40 = .ok (.iload_n 3, 1) := by decide +kernel
theorem dX12_quiet_41 : decode cX12_quiet 41 = .ok (.ifCond .eq 5, 3) := by decide +kernel
theorem dX12_quiet_44 : decode cX12_quiet 44 = .ok (.iload_n 3, 1) := by decide +kernel
theorem dX12_quiet_45 : decode cX12_quiet 45 = .ok (.ireturn, 1) := by decide +kernel
theorem dX12_quiet_46 : decode cX12_quiet 46 = .ok (.aload_n 0, 1) := by decide +kernel
theorem dX12_quiet_47 : decode cX12_quiet 47 = .ok (.getfield 9, 3) := by decide +kernel
theorem dX12_quiet_50 : decode cX12_quiet 50 = .ok (.aload_n 0, 1) := by decide +kernel
theorem dX12_quiet_51 : decode cX12_quiet 51 = .ok (.getfield 13, 3) := by decide +kernel
theorem dX12_quiet_54 : decode cX12_quiet 54 = .ok (.invokestatic 134, 3) := by decide +kernel
theorem dX12_quiet_57 : decode cX12_quiet 57 = .ok (.iconst 0, 1) := by decide +kernel
theorem dX12_quiet_58 : decode cX12_quiet 58 = .ok (.istore 4, 2) := by decide +kernel
theorem dX12_quiet_60 : decode cX12_quiet 60 = .ok (.iload 4, 2) := by decide +kernel
theorem dX12_quiet_62 : decode cX12_quiet 62 = .ok (.aload_n 0, 1) := by decide +kernel
theorem dX12_quiet_63 : decode cX12_quiet 63 = .ok (.getfield 43, 3) := by decide +kernel
theorem dX12_quiet_66 : decode cX12_quiet 66 = .ok (.iload_n 1, 1) := by decide +kernel
theorem dX12_quiet_67 : decode cX12_quiet 67 = .ok (.iaload, 1) := by decide +kernel
theorem dX12_quiet_68 : decode cX12_quiet 68 = .ok (.if_icmp .ge 66, 3) := by decide +kernel
theorem dX12_quiet_71 : decode cX12_quiet 71 = .ok (.aload_n 0, 1) := by decide +kernel
theorem dX12_quiet_72 : decode cX12_quiet 72 = .ok (.getfield 46, 3) := by decide +kernel
theorem dX12_quiet_75 : decode cX12_quiet 75 = .ok (.bipush 100, 2) := by decide +kernel
theorem dX12_quiet_77 : decode cX12_quiet 77 = .ok (.iload_n 1, 1) := by decide +kernel
theorem dX12_quiet_78 : decode cX12_quiet 78 = .ok (.imul, 1) := by decide +kernel
theorem dX12_quiet_79 : decode cX12_quiet 79 = .ok (.iload 4, 2) := by decide +kernel
theorem dX12_quiet_81 : decode cX12_quiet 81 = .ok (.iadd, 1) := by decide +kernel
theorem dX12_quiet_82 : decode cX12_quiet 82 = .ok (.iaload, 1) := by decide +kernel
theorem dX12_quiet_83 : decode cX12_quiet 83 = .ok (.istore 5, 2) := by decide +kernel
theorem dX12_quiet_85 : decode cX12_quiet 85 = .ok (.iload 5, 2) := by decide +kernel
theorem dX12_quiet_87 : decode cX12_quiet 87 = .ok (.aload_n 0, 1) := by decide +kernel
theorem dX12_quiet_88 : decode cX12_quiet 88 = .ok (.getfield 40, 3) := by decide +kernel
theorem dX12_quiet_91 : decode cX12_quiet 91 = .ok (.iload_n 1, 1) := by decide +kernel
theorem dX12_quiet_92 : decode cX12_quiet 92 = .ok (.iaload, 1) := by decide +kernel
theorem dX12_quiet_93 : decode cX12_quiet 93 = .ok (.invokestatic 212, 3) := by decide +kernel
theorem dX12_quiet_96 : decode cX12_quiet 96 = .ok (.if_icmp .ne 6, 3) := by decide +kernel
theorem dX12_quiet_99 : decode cX12_quiet 99 = .ok (.goto 29, 3) := by decide +kernel
theorem dX12_quiet_102 : decode cX12_quiet 102 = .ok (.iload 5, 2) := by decide +kernel
theorem dX12_quiet_104 : decode cX12_quiet 104 = .ok (.iconst 0, 1) := by decide +kernel
theorem dX12_quiet_105 : decode cX12_quiet 105 = .ok (.iconst 3, 1) := by decide +kernel
theorem dX12_quiet_106 : decode cX12_quiet 106 = .ok (.invokestatic 49, 3) := by decide +kernel
theorem dX12_quiet_109 : decode cX12_quiet 109 = .ok (.ifCond .ne 6, 3) := by decide +kernel
theorem dX12_quiet_112 : decode cX12_quiet 112 = .ok (.bipush (-13), 2) := by decide +kernel
theorem dX12_quiet_114 : decode cX12_quiet 114 = .ok (.ireturn, 1) := by decide +kernel
theorem dX12_quiet_115 : decode cX12_quiet 115 = .ok (.aload_n 0, 1) := by decide +kernel
theorem dX12_quiet_116 : decode cX12_quiet 116 = .ok (.getfield 13, 3) := by decide +kernel
theorem dX12_quiet_119 : decode cX12_quiet 119 = .ok (.iload 4, 2) := by decide +kernel
theorem dX12_quiet_121 : decode cX12_quiet 121 = .ok (.iconst 4, 1) := by decide +kernel
theorem dX12_quiet_122 : decode cX12_quiet 122 = .ok (.invokestatic 53, 3) := by decide +kernel
theorem dX12_quiet_125 : decode cX12_quiet 125 = .ok (.iload 5, 2) := by decide +kernel
theorem dX12_quiet_127 : decode cX12_quiet 127 = .ok (.iastore, 1) := by decide +kernel
theorem dX12_quiet_128 : decode cX12_quiet 128 = .ok (.iinc 4 1, 3) := by decide +kernel
theorem dX12_quiet_131 : decode cX12_quiet 131 = .ok (.goto (-71), 3) := by decide +kernel
theorem dX12_quiet_134 : decode cX12_quiet 134 = .ok (.iconst 0, 1) := by decide +kernel
theorem dX12_quiet_135 : decode cX12_quiet 135 = .ok (.istore 4, 2) := by decide +kernel
theorem dX12_quiet_137 : decode cX12_quiet 137 = .ok (.bipush (-4), 2) := by decide +kernel
theorem dX12_quiet_139 : decode cX12_quiet 139 = .ok (.istore 5, 2) := by decide +kernel
theorem dX12_quiet_141 : decode cX12_quiet 141 = .ok (.iconst 0, 1) := by decide +kernel
theorem dX12_quiet_142 : decode cX12_quiet 142 = .ok (.istore 6, 2) := by decide +kernel
theorem dX12_quiet_144 : decode cX12_quiet 144 = .ok (.iload 6, 2) := by decide +kernel
theorem dX12_quiet_146 : decode cX12_quiet 146 = .ok (.bipush 100, 2) := by decide +kernel
theorem dX12_quiet_148 : decode cX12_quiet 148 = .ok (.if_icmp .ge 42, 3) := by decide +kernel
theorem dX12_quiet_151 : decode cX12_quiet 151 = .ok (.aload_n 0, 1) := by decide +kernel
theorem dX12_quiet_152 : decode cX12_quiet 152 = .ok (.getfield 13, 3) := by decide +kernel
theorem dX12_quiet_155 : decode cX12_quiet 155 = .ok (.iconst 0, 1) := by decide +kernel
theorem dX12_quiet_156 : decode cX12_quiet 156 = .ok (.iload 6, 2) := by decide +kernel
theorem dX12_quiet_158 : decode cX12_quiet 158 = .ok (.invokestatic 74, 3) := by decide +kernel
theorem dX12_quiet_161 : decode cX12_quiet 161 = .ok (.ifCond .le 6, 3) := by decide +kernel
theorem dX12_quiet_164 : decode cX12_quiet 164 = .ok (.goto 20, 3) := by decide +kernel
theorem dX12_quiet_167 : decode cX12_quiet 167 = .ok (.iload 4, 2) := by decide +kernel
theorem dX12_quiet_169 : decode cX12_quiet 169 = .ok (.ifCond .ne 8, 3) := by decide +kernel
theorem dX12_quiet_172 : decode cX12_quiet 172 = .ok (.iload 6, 2) := by decide +kernel
theorem dX12_quiet_174 : decode cX12_quiet 174 = .ok (.goto 5, 3) := by decide +kernel
theorem dX12_quiet_177 : decode cX12_quiet 177 = .ok (.iload 5, 2) := by decide +kernel
theorem dX12_quiet_179 : decode cX12_quiet 179 = .ok (.istore 5, 2) := by decide +kernel
theorem dX12_quiet_181 : decode cX12_quiet 181 = .ok (.iinc 4 1, 3) := by decide +kernel
theorem dX12_quiet_184 : decode cX12_quiet 184 = .ok (.iinc 6 1, 3) := by decide +kernel
theorem dX12_quiet_187 : decode cX12_quiet 187 = .ok (.goto (-43), 3) := by decide +kernel
theorem dX12_quiet_190 : decode cX12_quiet 190 = .ok (.iload_n 2, 1) := by decide +kernel
theorem dX12_quiet_191 : decode cX12_quiet 191 = .ok (.ifCond .ne 8, 3) := by decide +kernel
theorem dX12_quiet_194 : decode cX12_quiet 194 = .ok (.iload 4, 2) := by decide +kernel
theorem dX12_quiet_196 : decode cX12_quiet 196 = .ok (.goto 5, 3) := by decide +kernel
theorem dX12_quiet_199 : decode cX12_quiet 199 = .ok (.iload 5, 2) := by decide +kernel
theorem dX12_quiet_201 : decode cX12_quiet 201 = .ok (.ireturn, 1) := by decide +kernel
theorem dX12_wrongBy_0 : decode cX12_wrongBy 0 = .ok (.aload_n 0, 1) := by decide +kernel
theorem dX12_wrongBy_1 : decode cX12_wrongBy 1 = .ok (.getfield 9, 3) := by decide +kernel
theorem dX12_wrongBy_4 : decode cX12_wrongBy 4 = .ok (.aload_n 0, 1) := by decide +kernel
theorem dX12_wrongBy_5 : decode cX12_wrongBy 5 = .ok (.getfield 13, 3) := by decide +kernel
theorem dX12_wrongBy_8 : decode cX12_wrongBy 8 = .ok (.invokestatic 134, 3) := by decide +kernel
theorem dX12_wrongBy_11 : decode cX12_wrongBy 11 = .ok (.aload_n 0, 1) := by decide +kernel
theorem dX12_wrongBy_12 : decode cX12_wrongBy 12 = .ok (.getfield 13, 3) := by decide +kernel
theorem dX12_wrongBy_15 : decode cX12_wrongBy 15 = .ok (.iconst 4, 1) := by decide +kernel
theorem dX12_wrongBy_16 : decode cX12_wrongBy 16 = .ok (.iload_n 2, 1) := by decide +kernel
theorem dX12_wrongBy_17 : decode cX12_wrongBy 17 = .ok (.iastore, 1) := by decide +kernel
theorem dX12_wrongBy_18 : decode cX12_wrongBy 18 = .ok (.iconst 0, 1) := by decide +kernel
theorem dX12_wrongBy_19 : decode cX12_wrongBy 19 = .ok (.istore_n 3, 1) := by decide +kernel
theorem dX12_wrongBy_20 : decode cX12_wrongBy 20 = .ok (.iload_n 3, 1) := by decide +kernel
theorem dX12_wrongBy_21 : decode cX12_wrongBy 21 = .ok (.aload_n 0, 1) := by decide +kernel
theorem dX12_wrongBy_22 : decode cX12_wrongBy 22 = .ok (.getfield 43, 3) := by decide +kernel
theorem dX12_wrongBy_25 : decode cX12_wrongBy 25 = .ok (.iload_n 1, 1) := by decide +kernel
theorem dX12_wrongBy_26 : decode cX12_wrongBy 26 = .ok (.iaload, 1) := by decide +kernel
theorem dX12_wrongBy_27 : decode cX12_wrongBy 27 = .ok (.if_icmp .ge 52, 3) := by decide +kernel
theorem dX12_wrongBy_30 : decode cX12_wrongBy 30 = .ok (.aload_n 0, 1) := by decide +kernel
theorem dX12_wrongBy_31 : decode cX12_wrongBy 31 = .ok (.getfield 46, 3) := by decide +kernel
theorem dX12_wrongBy_34 : decode cX12_wrongBy 34 = .ok (.bipush 100, 2) := by decide +kernel
theorem dX12_wrongBy_36 : decode cX12_wrongBy 36 = .ok (.iload_n 1, 1) := by decide +kernel
theorem dX12_wrongBy_37 : decode cX12_wrongBy 37 = .ok (.imul, 1) := by decide +kernel
theorem dX12_wrongBy_38 : decode cX12_wrongBy 38 = .ok (.iload_n 3, 1) := by decide +kernel
theorem dX12_wrongBy_39 : decode cX12_wrongBy 39 = .ok (.iadd, 1) := by decide +kernel
theorem dX12_wrongBy_40 : decode cX12_wrongBy 40 = .ok (.iaload, 1) := by decide +kernel
theorem dX12_wrongBy_41 : decode cX12_wrongBy 41 = .ok (.istore 4, 2) := by decide +kernel
theorem dX12_wrongBy_43 : decode cX12_wrongBy 43 = .ok (.iload 4, 2) := by decide +kernel
theorem dX12_wrongBy_45 : decode cX12_wrongBy 45 = .ok (.aload_n 0, 1) := by decide +kernel
theorem dX12_wrongBy_46 : decode cX12_wrongBy 46 = .ok (.getfield 40, 3) := by decide +kernel
theorem dX12_wrongBy_49 : decode cX12_wrongBy 49 = .ok (.iload_n 1, 1) := by decide +kernel
theorem dX12_wrongBy_50 : decode cX12_wrongBy 50 = .ok (.iaload, 1) := by decide +kernel
theorem dX12_wrongBy_51 : decode cX12_wrongBy 51 = .ok (.invokestatic 212, 3) := by decide +kernel
theorem dX12_wrongBy_54 : decode cX12_wrongBy 54 = .ok (.if_icmp .eq 19, 3) := by decide +kernel
theorem dX12_wrongBy_57 : decode cX12_wrongBy 57 = .ok (.iload 4, 2) := by decide +kernel
theorem dX12_wrongBy_59 : decode cX12_wrongBy 59 = .ok (.aload_n 0, 1) := by decide +kernel
theorem dX12_wrongBy_60 : decode cX12_wrongBy 60 = .ok (.getfield 13, 3) := by decide +kernel
theorem dX12_wrongBy_63 : decode cX12_wrongBy 63 = .ok (.iconst 0, 1) := by decide +kernel
theorem dX12_wrongBy_64 : decode cX12_wrongBy 64 = .ok (.iload_n 3, 1) := by decide +kernel
theorem dX12_wrongBy_65 : decode cX12_wrongBy 65 = .ok (.invokestatic 74, 3) := by decide +kernel
theorem dX12_wrongBy_68 : decode cX12_wrongBy 68 = .ok (.if_icmp .eq 5, 3) := by decide +kernel
theorem dX12_wrongBy_71 : decode cX12_wrongBy 71 = .ok (.iload_n 3, 1) := by decide +kernel
theorem dX12_wrongBy_72 : decode cX12_wrongBy 72 = .ok (.ireturn, 1) := by decide +kernel
theorem dX12_wrongBy_73 : decode cX12_wrongBy 73 = .ok (.iinc 3 1, 3) := by decide +kernel
theorem dX12_wrongBy_76 : decode cX12_wrongBy 76 = .ok (.goto (-56), 3) := by decide +kernel
theorem dX12_wrongBy_79 : decode cX12_wrongBy 79 = .ok (.aload_n 0, 1) := by decide +kernel
theorem dX12_wrongBy_80 : decode cX12_wrongBy 80 = .ok (.getfield 43, 3) := by decide +kernel
theorem dX12_wrongBy_83 : decode cX12_wrongBy 83 = .ok (.iload_n 1, 1) := by decide +kernel
theorem dX12_wrongBy_84 : decode cX12_wrongBy 84 = .ok (.iaload, 1) := by decide +kernel
theorem dX12_wrongBy_85 : decode cX12_wrongBy 85 = .ok (.ireturn, 1) := by decide +kernel
theorem dX12_forged_0 : decode cX12_forged 0 = .ok (.aload_n 0, 1) := by decide +kernel
theorem dX12_forged_1 : decode cX12_forged 1 = .ok (.iload_n 1, 1) := by decide +kernel
theorem dX12_forged_2 : decode cX12_forged 2 = .ok (.iconst (-1), 1) := by decide +kernel
theorem dX12_forged_3 : decode cX12_forged 3 = .ok (.invokevirtual 127, 3) := by decide +kernel
theorem dX12_forged_6 : decode cX12_forged 6 = .ok (.istore_n 2, 1) := by decide +kernel
theorem dX12_forged_7 : decode cX12_forged 7 = .ok (.iload_n 2, 1) := by decide +kernel
theorem dX12_forged_8 : decode cX12_forged 8 = .ok (.ifCond .eq 5, 3) := by decide +kernel
theorem dX12_forged_11 : decode cX12_forged 11 = .ok (.iload_n 2, 1) := by decide +kernel
theorem dX12_forged_12 : decode cX12_forged 12 = .ok (.ireturn, 1) := by decide +kernel
theorem dX12_forged_13 : decode cX12_forged 13 = .ok (.iconst 0, 1) := by decide +kernel
theorem dX12_forged_14 : decode cX12_forged 14 = .ok (.istore_n 3, 1) := by decide +kernel
theorem dX12_forged_15 : decode cX12_forged 15 = .ok (.iconst 0, 1) := by decide +kernel
theorem dX12_forged_16 : decode cX12_forged 16 = .ok (.istore 4, 2) := by decide +kernel
theorem dX12_forged_18 : decode cX12_forged 18 = .ok (.iload 4, 2) := by decide +kernel
theorem dX12_forged_20 : decode cX12_forged 20 = .ok (.bipush 6, 2) := by decide +kernel
theorem dX12_forged_22 : decode cX12_forged 22 = .ok (.if_icmp .ge 21, 3) := by decide +kernel
theorem dX12_forged_25 : decode cX12_forged 25 = .ok (.iload_n 3, 1) := by decide +kernel
theorem dX12_forged_26 : decode cX12_forged 26 = .ok (.aload_n 0, 1) := by decide +kernel
theorem dX12_forged_27 : decode cX12_forged 27 = .ok (.iload_n 1, 1) := by decide +kernel
theorem dX12_forged_28 : decode cX12_forged 28 = .ok (.iload 4, 2) := by decide +kernel
theorem dX12_forged_30 : decode cX12_forged 30 = .ok (.invokevirtual 215, 3) := by decide +kernel
theorem dX12_forged_33 : decode cX12_forged 33 = .ok (.invokestatic 57, 3) := by decide +kernel
theorem dX12_forged_36 : decode cX12_forged 36 = .ok (.istore_n 3, 1) := by decide +kernel
theorem dX12_forged_37 : decode cX12_forged 37 = .ok (.iinc 4 1, 3) := by decide +kernel
theorem dX12_forged_40 : decode cX12_forged 40 = .ok (.goto (-22), 3) := by decide +kernel
theorem dX12_forged_43 : decode cX12_forged 43 = .ok (.iload_n 3, 1) := by decide +kernel
theorem dX12_forged_44 : decode cX12_forged 44 = .ok (.aload_n 0, 1) := by decide +kernel
theorem dX12_forged_45 : decode cX12_forged 45 = .ok (.getfield 43, 3) := by decide +kernel
theorem dX12_forged_48 : decode cX12_forged 48 = .ok (.iload_n 1, 1) := by decide +kernel
theorem dX12_forged_49 : decode cX12_forged 49 = .ok (.iaload, 1) := by decide +kernel
theorem dX12_forged_50 : decode cX12_forged 50 = .ok (.if_icmp .ne 8, 3) := by decide +kernel
theorem dX12_forged_53 : decode cX12_forged 53 = .ok (.bipush (-4), 2) := by decide +kernel
theorem dX12_forged_55 : decode cX12_forged 55 = .ok (.goto 4, 3) := by decide +kernel
theorem dX12_forged_58 : decode cX12_forged 58 = .ok (.iload_n 3, 1) := by decide +kernel
theorem dX12_forged_59 : decode cX12_forged 59 = .ok (.ireturn, 1) := by decide +kernel
theorem dX12_judge_0 : decode cX12_judge 0 = .ok (.aload_n 0, 1) := by decide +kernel
theorem dX12_judge_1 : decode cX12_judge 1 = .ok (.iload_n 1, 1) := by decide +kernel
theorem dX12_judge_2 : decode cX12_judge 2 = .ok (.iconst (-1), 1) := by decide +kernel
theorem dX12_judge_3 : decode cX12_judge 3 = .ok (.invokevirtual 127, 3) := by decide +kernel
theorem dX12_judge_6 : decode cX12_judge 6 = .ok (.istore_n 2, 1) := by decide +kernel
theorem dX12_judge_7 : decode cX12_judge 7 = .ok (.iload_n 2, 1) := by decide +kernel
theorem dX12_judge_8 : decode cX12_judge 8 = .ok (.ifCond .eq 5, 3) := by decide +kernel
theorem dX12_judge_11 : decode cX12_judge 11 = .ok (.iload_n 2, 1) := by decide +kernel
theorem dX12_judge_12 : decode cX12_judge 12 = .ok (.ireturn, 1) := by decide +kernel
theorem dX12_judge_13 : decode cX12_judge 13 = .ok (.aload_n 0, 1) := by decide +kernel
theorem dX12_judge_14 : decode cX12_judge 14 = .ok (.getfield 9, 3) := by decide +kernel
theorem dX12_judge_17 : decode cX12_judge 17 = .ok (.aload_n 0, 1) := by decide +kernel
theorem dX12_judge_18 : decode cX12_judge 18 = .ok (.getfield 13, 3) := by decide +kernel
theorem dX12_judge_21 : decode cX12_judge 21 = .ok (.invokestatic 134, 3) := by decide +kernel
theorem dX12_judge_24 : decode cX12_judge 24 = .ok (.iconst 0, 1) := by decide +kernel
theorem dX12_judge_25 : decode cX12_judge 25 = .ok (.istore_n 3, 1) := by decide +kernel
theorem dX12_judge_26 : decode cX12_judge 26 = .ok (.iload_n 3, 1) := by decide +kernel
theorem dX12_judge_27 : decode cX12_judge 27 = .ok (.aload_n 0, 1) := by decide +kernel
theorem dX12_judge_28 : decode cX12_judge 28 = .ok (.getfield 43, 3) := by decide +kernel
theorem dX12_judge_31 : decode cX12_judge 31 = .ok (.iload_n 1, 1) := by decide +kernel
theorem dX12_judge_32 : decode cX12_judge 32 = .ok (.iaload, 1) := by decide +kernel
theorem dX12_judge_33 : decode cX12_judge 33 = .ok (.if_icmp .ge 59, 3) := by decide +kernel
theorem dX12_judge_36 : decode cX12_judge 36 = .ok (.aload_n 0, 1) := by decide +kernel
theorem dX12_judge_37 : decode cX12_judge 37 = .ok (.getfield 13, 3) := by decide +kernel
theorem dX12_judge_40 : decode cX12_judge 40 = .ok (.invokestatic 124, 3) := by decide +kernel
theorem dX12_judge_43 : decode cX12_judge 43 = .ok (.istore 4, 2) := by decide +kernel
theorem dX12_judge_45 : decode cX12_judge 45 = .ok (.aload_n 0, 1) := by decide +kernel
theorem dX12_judge_46 : decode cX12_judge 46 = .ok (.getfield 46, 3) := by decide +kernel
theorem dX12_judge_49 : decode cX12_judge 49 = .ok (.bipush 100, 2) := by decide +kernel
theorem dX12_judge_51 : decode cX12_judge 51 = .ok (.iload_n 1, 1) := by decide +kernel
theorem dX12_judge_52 : decode cX12_judge 52 = .ok (.imul, 1) := by decide +kernel
theorem dX12_judge_53 : decode cX12_judge 53 = .ok (.iload_n 3, 1) := by decide +kernel
theorem dX12_judge_54 : decode cX12_judge 54 = .ok (.iadd, 1) := by decide +kernel
theorem dX12_judge_55 : decode cX12_judge 55 = .ok (.iaload, 1) := by decide +kernel
theorem dX12_judge_56 : decode cX12_judge 56 = .ok (.aload_n 0, 1) := by decide +kernel
theorem dX12_judge_57 : decode cX12_judge 57 = .ok (.getfield 40, 3) := by decide +kernel
theorem dX12_judge_60 : decode cX12_judge 60 = .ok (.iload_n 1, 1) := by decide +kernel
theorem dX12_judge_61 : decode cX12_judge 61 = .ok (.iaload, 1) := by decide +kernel
theorem dX12_judge_62 : decode cX12_judge 62 = .ok (.invokestatic 212, 3) := by decide +kernel
theorem dX12_judge_65 : decode cX12_judge 65 = .ok (.if_icmp .eq 21, 3) := by decide +kernel
theorem dX12_judge_68 : decode cX12_judge 68 = .ok (.aload_n 0, 1) := by decide +kernel
theorem dX12_judge_69 : decode cX12_judge 69 = .ok (.getfield 46, 3) := by decide +kernel
theorem dX12_judge_72 : decode cX12_judge 72 = .ok (.bipush 100, 2) := by decide +kernel
theorem dX12_judge_74 : decode cX12_judge 74 = .ok (.iload_n 1, 1) := by decide +kernel
theorem dX12_judge_75 : decode cX12_judge 75 = .ok (.imul, 1) := by decide +kernel
theorem dX12_judge_76 : decode cX12_judge 76 = .ok (.iload_n 3, 1) := by decide +kernel
theorem dX12_judge_77 : decode cX12_judge 77 = .ok (.iadd, 1) := by decide +kernel
theorem dX12_judge_78 : decode cX12_judge 78 = .ok (.iaload, 1) := by decide +kernel
theorem dX12_judge_79 : decode cX12_judge 79 = .ok (.iload 4, 2) := by decide +kernel
theorem dX12_judge_81 : decode cX12_judge 81 = .ok (.if_icmp .eq 5, 3) := by decide +kernel
theorem dX12_judge_84 : decode cX12_judge 84 = .ok (.iload_n 3, 1) := by decide +kernel
theorem dX12_judge_85 : decode cX12_judge 85 = .ok (.ireturn, 1) := by decide +kernel
theorem dX12_judge_86 : decode cX12_judge 86 = .ok (.iinc 3 1, 3) := by decide +kernel
theorem dX12_judge_89 : decode cX12_judge 89 = .ok (.goto (-63), 3) := by decide +kernel
theorem dX12_judge_92 : decode cX12_judge 92 = .ok (.bipush (-4), 2) := by decide +kernel
theorem dX12_judge_94 : decode cX12_judge 94 = .ok (.ireturn, 1) := by decide +kernel
theorem dX12_drawn_0 : decode cX12_drawn 0 = .ok (.aload_n 0, 1) := by decide +kernel
theorem dX12_drawn_1 : decode cX12_drawn 1 = .ok (.aload_n 0, 1) := by decide +kernel
theorem dX12_drawn_2 : decode cX12_drawn 2 = .ok (.getfield 218, 3) := by decide +kernel
theorem dX12_drawn_5 : decode cX12_drawn 5 = .ok (.ldc 221, 2) := by decide +kernel
theorem dX12_drawn_7 : decode cX12_drawn 7 = .ok (.imul, 1) := by decide +kernel
theorem dX12_drawn_8 : decode cX12_drawn 8 = .ok (.sipush 12345, 3) := by decide +kernel
theorem dX12_drawn_11 : decode cX12_drawn 11 = .ok (.iadd, 1) := by decide +kernel
theorem dX12_drawn_12 : decode cX12_drawn 12 = .ok (.putfield 218, 3) := by decide +kernel
theorem dX12_drawn_15 : decode cX12_drawn 15 = .ok (.aload_n 0, 1) := by decide +kernel
theorem dX12_drawn_16 : decode cX12_drawn 16 = .ok (.getfield 218, 3) := by decide +kernel
theorem dX12_drawn_19 : decode cX12_drawn 19 = .ok (.ldc 222, 2) := by decide +kernel
theorem dX12_drawn_21 : decode cX12_drawn 21 = .ok (.iand, 1) := by decide +kernel
theorem dX12_drawn_22 : decode cX12_drawn 22 = .ok (.ldc 223, 2) := by decide +kernel
theorem dX12_drawn_24 : decode cX12_drawn 24 = .ok (.idiv, 1) := by decide +kernel
theorem dX12_drawn_25 : decode cX12_drawn 25 = .ok (.iload_n 1, 1) := by decide +kernel
theorem dX12_drawn_26 : decode cX12_drawn 26 = .ok (.irem, 1) := by decide +kernel
theorem dX12_drawn_27 : decode cX12_drawn 27 = .ok (.ireturn, 1) := by decide +kernel
theorem dX12_winters_0 : decode cX12_winters 0 = .ok (.iload_n 1, 1) := by decide +kernel
theorem dX12_winters_1 : decode cX12_winters 1 = .ok (.iconst 1, 1) := by decide +kernel
theorem dX12_winters_2 : decode cX12_winters 2 = .ok (.bipush 20, 2) := by decide +kernel
theorem dX12_winters_4 : decode cX12_winters 4 = .ok (.invokestatic 49, 3) := by decide +kernel
theorem dX12_winters_7 : decode cX12_winters 7 = .ok (.ifCond .eq 12, 3) := by decide +kernel
theorem dX12_winters_10 : decode cX12_winters 10 = .ok (.iload_n 3, 1) := by decide +kernel
theorem dX12_winters_11 : decode cX12_winters 11 = .ok (.iconst 0, 1) := by decide +kernel
theorem dX12_winters_12 : decode cX12_winters 12 = .ok (.iconst 1, 1) := by decide +kernel
theorem dX12_winters_13 : decode cX12_winters 13 = .ok (.invokestatic 49, 3) := by decide +kernel
theorem dX12_winters_16 : decode cX12_winters 16 = .ok (.ifCond .ne 5, 3) := by decide +kernel
theorem dX12_winters_19 : decode cX12_winters 19 = .ok (.iconst (-1), 1) := by decide +kernel
theorem dX12_winters_20 : decode cX12_winters 20 = .ok (.ireturn, 1) := by decide +kernel
theorem dX12_winters_21 : decode cX12_winters 21 = .ok (.aload_n 0, 1) := by decide +kernel
theorem dX12_winters_22 : decode cX12_winters 22 = .ok (.iload_n 2, 1) := by decide +kernel
theorem dX12_winters_23 : decode cX12_winters 23 = .ok (.putfield 218, 3) := by decide +kernel
theorem dX12_winters_26 : decode cX12_winters 26 = .ok (.iconst 0, 1) := by decide +kernel
theorem dX12_winters_27 : decode cX12_winters 27 = .ok (.istore 4, 2) := by decide +kernel
theorem dX12_winters_29 : decode cX12_winters 29 = .ok (.iconst 0, 1) := by decide +kernel
theorem dX12_winters_30 : decode cX12_winters 30 = .ok (.istore 5, 2) := by decide +kernel
theorem dX12_winters_32 : decode cX12_winters 32 = .ok (.iload 5, 2) := by decide +kernel
theorem dX12_winters_34 : decode cX12_winters 34 = .ok (.iload_n 1, 1) := by decide +kernel
theorem dX12_winters_35 : decode cX12_winters 35 = .ok (.if_icmp .ge 94, 3) := by decide +kernel
theorem dX12_winters_38 : decode cX12_winters 38 = .ok (.aload_n 0, 1) := by decide +kernel
theorem dX12_winters_39 : decode cX12_winters 39 = .ok (.getfield 9, 3) := by decide +kernel
theorem dX12_winters_42 : decode cX12_winters 42 = .ok (.aload_n 0, 1) := by decide +kernel
theorem dX12_winters_43 : decode cX12_winters 43 = .ok (.getfield 13, 3) := by decide +kernel
theorem dX12_winters_46 : decode cX12_winters 46 = .ok (.invokestatic 134, 3) := by decide +kernel
theorem dX12_winters_49 : decode cX12_winters 49 = .ok (.iconst 0, 1) := by decide +kernel
theorem dX12_winters_50 : decode cX12_winters 50 = .ok (.istore 6, 2) := by decide +kernel
theorem dX12_winters_52 : decode cX12_winters 52 = .ok (.iload 6, 2) := by decide +kernel
theorem dX12_winters_54 : decode cX12_winters 54 = .ok (.bipush 10, 2) := by decide +kernel
theorem dX12_winters_56 : decode cX12_winters 56 = .ok (.if_icmp .ge 67, 3) := by decide +kernel
theorem dX12_winters_59 : decode cX12_winters 59 = .ok (.aload_n 0, 1) := by decide +kernel
theorem dX12_winters_60 : decode cX12_winters 60 = .ok (.getfield 13, 3) := by decide +kernel
theorem dX12_winters_63 : decode cX12_winters 63 = .ok (.iconst 2, 1) := by decide +kernel
theorem dX12_winters_64 : decode cX12_winters 64 = .ok (.aload_n 0, 1) := by decide +kernel
theorem dX12_winters_65 : decode cX12_winters 65 = .ok (.bipush 100, 2) := by decide +kernel
theorem dX12_winters_67 : decode cX12_winters 67 = .ok (.invokevirtual 224, 3) := by decide +kernel
theorem dX12_winters_70 : decode cX12_winters 70 = .ok (.iastore, 1) := by decide +kernel
theorem dX12_winters_71 : decode cX12_winters 71 = .ok (.aload_n 0, 1) := by decide +kernel
theorem dX12_winters_72 : decode cX12_winters 72 = .ok (.getfield 13, 3) := by decide +kernel
theorem dX12_winters_75 : decode cX12_winters 75 = .ok (.iconst 3, 1) := by decide +kernel
theorem dX12_winters_76 : decode cX12_winters 76 = .ok (.aload_n 0, 1) := by decide +kernel
theorem dX12_winters_77 : decode cX12_winters 77 = .ok (.bipush 10, 2) := by decide +kernel
theorem dX12_winters_79 : decode cX12_winters 79 = .ok (.invokevirtual 224, 3) := by decide +kernel
theorem dX12_winters_82 : decode cX12_winters 82 = .ok (.iastore, 1) := by decide +kernel
theorem dX12_winters_83 : decode cX12_winters 83 = .ok (.aload_n 0, 1) := by decide +kernel
theorem dX12_winters_84 : decode cX12_winters 84 = .ok (.getfield 13, 3) := by decide +kernel
theorem dX12_winters_87 : decode cX12_winters 87 = .ok (.invokestatic 124, 3) := by decide +kernel
theorem dX12_winters_90 : decode cX12_winters 90 = .ok (.istore 7, 2) := by decide +kernel
theorem dX12_winters_92 : decode cX12_winters 92 = .ok (.iload 4, 2) := by decide +kernel
theorem dX12_winters_94 : decode cX12_winters 94 = .ok (.iload_n 3, 1) := by decide +kernel
theorem dX12_winters_95 : decode cX12_winters 95 = .ok (.iconst 1, 1) := by decide +kernel
theorem dX12_winters_96 : decode cX12_winters 96 = .ok (.if_icmp .ne 8, 3) := by decide +kernel
theorem dX12_winters_99 : decode cX12_winters 99 = .ok (.iload 7, 2) := by decide +kernel
theorem dX12_winters_101 : decode cX12_winters 101 = .ok (.goto 13, 3) := by decide +kernel
theorem dX12_winters_104 : decode cX12_winters 104 = .ok (.iload 7, 2) := by decide +kernel
theorem dX12_winters_106 : decode cX12_winters 106 = .ok (.ifCond .le 7, 3) := by decide +kernel
theorem dX12_winters_109 : decode cX12_winters 109 = .ok (.iconst 1, 1) := by decide +kernel
theorem dX12_winters_110 : decode cX12_winters 110 = .ok (.goto 4, 3) := by decide +kernel
theorem dX12_winters_113 : decode cX12_winters 113 = .ok (.iconst 0, 1) := by decide +kernel
theorem dX12_winters_114 : decode cX12_winters 114 = .ok (.iadd, 1) := by decide +kernel
theorem dX12_winters_115 : decode cX12_winters 115 = .ok (.istore 4, 2) := by decide +kernel
theorem dX12_winters_117 : decode cX12_winters 117 = .ok (.iinc 6 1, 3) := by decide +kernel
theorem dX12_winters_120 : decode cX12_winters 120 = .ok (.goto (-68), 3) := by decide +kernel
theorem dX12_winters_123 : decode cX12_winters 123 = .ok (.iinc 5 1, 3) := by decide +kernel
theorem dX12_winters_126 : decode cX12_winters 126 = .ok (.goto (-94), 3) := by decide +kernel
theorem dX12_winters_129 : decode cX12_winters 129 = .ok (.iload 4, 2) := by decide +kernel
theorem dX12_winters_131 : decode cX12_winters 131 = .ok (.ireturn, 1) := by decide +kernel
theorem dX12_image_0 : decode cX12_image 0 = .ok (.aload_n 0, 1) := by decide +kernel
theorem dX12_image_1 : decode cX12_image 1 = .ok (.getfield 9, 3) := by decide +kernel
theorem dX12_image_4 : decode cX12_image 4 = .ok (.aload_n 0, 1) := by decide +kernel
theorem dX12_image_5 : decode cX12_image 5 = .ok (.getfield 16, 3) := by decide +kernel
theorem dX12_image_8 : decode cX12_image 8 = .ok (.invokestatic 134, 3) := by decide +kernel
theorem dX12_image_11 : decode cX12_image 11 = .ok (.aload_n 0, 1) := by decide +kernel
theorem dX12_image_12 : decode cX12_image 12 = .ok (.iconst 1, 1) := by decide +kernel
theorem dX12_image_13 : decode cX12_image 13 = .ok (.putfield 227, 3) := by decide +kernel
theorem dX12_image_16 : decode cX12_image 16 = .ok (.aload_n 0, 1) := by decide +kernel
theorem dX12_image_17 : decode cX12_image 17 = .ok (.getfield 9, 3) := by decide +kernel
theorem dX12_image_20 : decode cX12_image 20 = .ok (.iconst 1, 1) := by decide +kernel
theorem dX12_image_21 : decode cX12_image 21 = .ok (.iaload, 1) := by decide +kernel
theorem dX12_image_22 : decode cX12_image 22 = .ok (.ireturn, 1) := by decide +kernel
theorem dX12_restore_0 : decode cX12_restore 0 = .ok (.aload_n 0, 1) := by decide +kernel
theorem dX12_restore_1 : decode cX12_restore 1 = .ok (.getfield 227, 3) := by decide +kernel
theorem dX12_restore_4 : decode cX12_restore 4 = .ok (.ifCond .ne 6, 3) := by decide +kernel
theorem dX12_restore_7 : decode cX12_restore 7 = .ok (.bipush (-3), 2) := by decide +kernel
theorem dX12_restore_9 : decode cX12_restore 9 = .ok (.ireturn, 1) := by decide +kernel
theorem dX12_restore_10 : decode cX12_restore 10 = .ok (.aload_n 0, 1) := by decide +kernel
theorem dX12_restore_11 : decode cX12_restore 11 = .ok (.getfield 16, 3) := by decide +kernel
theorem dX12_restore_14 : decode cX12_restore 14 = .ok (.aload_n 0, 1) := by decide +kernel
theorem dX12_restore_15 : decode cX12_restore 15 = .ok (.getfield 9, 3) := by decide +kernel
theorem dX12_restore_18 : decode cX12_restore 18 = .ok (.invokestatic 134, 3) := by decide +kernel
theorem dX12_restore_21 : decode cX12_restore 21 = .ok (.aload_n 0, 1) := by decide +kernel
theorem dX12_restore_22 : decode cX12_restore 22 = .ok (.getfield 9, 3) := by decide +kernel
theorem dX12_restore_25 : decode cX12_restore 25 = .ok (.iconst 1, 1) := by decide +kernel
theorem dX12_restore_26 : decode cX12_restore 26 = .ok (.iaload, 1) := by decide +kernel
theorem dX12_restore_27 : decode cX12_restore 27 = .ok (.ireturn, 1) := by decide +kernel
theorem dX12_count_0 : decode cX12_count 0 = .ok (.iload_n 1, 1) := by decide +kernel
theorem dX12_count_1 : decode cX12_count 1 = .ok (.iconst 0, 1) := by decide +kernel
theorem dX12_count_2 : decode cX12_count 2 = .ok (.iconst 5, 1) := by decide +kernel
theorem dX12_count_3 : decode cX12_count 3 = .ok (.invokestatic 49, 3) := by decide +kernel
theorem dX12_count_6 : decode cX12_count 6 = .ok (.ifCond .eq 10, 3) := by decide +kernel
theorem dX12_count_9 : decode cX12_count 9 = .ok (.aload_n 0, 1) := by decide +kernel
theorem dX12_count_10 : decode cX12_count 10 = .ok (.getfield 9, 3) := by decide +kernel
theorem dX12_count_13 : decode cX12_count 13 = .ok (.iload_n 1, 1) := by decide +kernel
theorem dX12_count_14 : decode cX12_count 14 = .ok (.iaload, 1) := by decide +kernel
theorem dX12_count_15 : decode cX12_count 15 = .ok (.ireturn, 1) := by decide +kernel
theorem dX12_count_16 : decode cX12_count 16 = .ok (.iload_n 1, 1) := by decide +kernel
theorem dX12_count_17 : decode cX12_count 17 = .ok (.bipush 6, 2) := by decide +kernel
theorem dX12_count_19 : decode cX12_count 19 = .ok (.if_icmp .ne 11, 3) := by decide +kernel
theorem dX12_count_22 : decode cX12_count 22 = .ok (.aload_n 0, 1) := by decide +kernel
theorem dX12_count_23 : decode cX12_count 23 = .ok (.getfield 9, 3) := by decide +kernel
theorem dX12_count_26 : decode cX12_count 26 = .ok (.invokestatic 206, 3) := by decide +kernel
theorem dX12_count_29 : decode cX12_count 29 = .ok (.ireturn, 1) := by decide +kernel
theorem dX12_count_30 : decode cX12_count 30 = .ok (.iload_n 1, 1) := by decide +kernel
theorem dX12_count_31 : decode cX12_count 31 = .ok (.bipush 7, 2) := by decide +kernel
theorem dX12_count_33 : decode cX12_count 33 = .ok (.if_icmp .eq 5, 3) := by decide +kernel
theorem dX12_count_36 : decode cX12_count 36 = .ok (.iconst (-1), 1) := by decide +kernel
theorem dX12_count_37 : decode cX12_count 37 = .ok (.ireturn, 1) := by decide +kernel
theorem dX12_count_38 : decode cX12_count 38 = .ok (.iconst 0, 1) := by decide +kernel
theorem dX12_count_39 : decode cX12_count 39 = .ok (.istore_n 2, 1) := by decide +kernel
theorem dX12_count_40 : decode cX12_count 40 = .ok (.iconst 0, 1) := by decide +kernel
theorem dX12_count_41 : decode cX12_count 41 = .ok (.istore_n 3, 1) := by decide +kernel
theorem dX12_count_42 : decode cX12_count 42 = .ok (.iload_n 3, 1) := by decide +kernel
theorem dX12_count_43 : decode cX12_count 43 = .ok (.aload_n 0, 1) := by decide +kernel
theorem dX12_count_44 : decode cX12_count 44 = .ok (.getfield 9, 3) := by decide +kernel
theorem dX12_count_47 : decode cX12_count 47 = .ok (.iconst 0, 1) := by decide +kernel
theorem dX12_count_48 : decode cX12_count 48 = .ok (.iaload, 1) := by decide +kernel
theorem dX12_count_49 : decode cX12_count 49 = .ok (.if_icmp .ge 32, 3) := by decide +kernel
theorem dX12_count_52 : decode cX12_count 52 = .ok (.iload_n 2, 1) := by decide +kernel
theorem dX12_count_53 : decode cX12_count 53 = .ok (.aload_n 0, 1) := by decide +kernel
theorem dX12_count_54 : decode cX12_count 54 = .ok (.getfield 9, 3) := by decide +kernel
theorem dX12_count_57 : decode cX12_count 57 = .ok (.iload_n 3, 1) := by decide +kernel
theorem dX12_count_58 : decode cX12_count 58 = .ok (.iconst 4, 1) := by decide +kernel
theorem dX12_count_59 : decode cX12_count 59 = .ok (.invokestatic 53, 3) := by decide +kernel
theorem dX12_count_62 : decode cX12_count 62 = .ok (.iaload, 1) := by decide +kernel
theorem dX12_count_63 : decode cX12_count 63 = .ok (.ifCond .ne 9, 3) := by decide +kernel
theorem dX12_count_66 : decode cX12_count 66 = .ok (.iconst 1, 1) := by decide +kernel
theorem dX12_count_67 : decode cX12_count 67 = .ok (.iload_n 3, 1) := by decide +kernel
theorem dX12_count_68 : decode cX12_count 68 = .ok (.ishl, 1) := by decide +kernel
theorem dX12_count_69 : decode cX12_count 69 = .ok (.goto 4, 3) := by decide +kernel
theorem dX12_count_72 : decode cX12_count 72 = .ok (.iconst 0, 1) := by decide +kernel
theorem dX12_count_73 : decode cX12_count 73 = .ok (.ior, 1) := by decide +kernel
theorem dX12_count_74 : decode cX12_count 74 = .ok (.istore_n 2, 1) := by decide +kernel
theorem dX12_count_75 : decode cX12_count 75 = .ok (.iinc 3 1, 3) := by decide +kernel
theorem dX12_count_78 : decode cX12_count 78 = .ok (.goto (-36), 3) := by decide +kernel
theorem dX12_count_81 : decode cX12_count 81 = .ok (.iload_n 2, 1) := by decide +kernel
theorem dX12_count_82 : decode cX12_count 82 = .ok (.ireturn, 1) := by decide +kernel
theorem dX12_thrown_0 : decode cX12_thrown 0 = .ok (.aload_n 0, 1) := by decide +kernel
theorem dX12_thrown_1 : decode cX12_thrown 1 = .ok (.getfield 231, 3) := by decide +kernel
theorem dX12_thrown_4 : decode cX12_thrown 4 = .ok (.ireturn, 1) := by decide +kernel
theorem dX12_isShelf_0 : decode cX12_isShelf 0 = .ok (.iload_n 0, 1) := by decide +kernel
theorem dX12_isShelf_1 : decode cX12_isShelf 1 = .ok (.iconst 0, 1) := by decide +kernel
theorem dX12_isShelf_2 : decode cX12_isShelf 2 = .ok (.bipush 7, 2) := by decide +kernel
theorem dX12_isShelf_4 : decode cX12_isShelf 4 = .ok (.invokestatic 49, 3) := by decide +kernel
theorem dX12_isShelf_7 : decode cX12_isShelf 7 = .ok (.ireturn, 1) := by decide +kernel
theorem dX12_wrongRow_0 : decode cX12_wrongRow 0 = .ok (.iload_n 1, 1) := by decide +kernel
theorem dX12_wrongRow_1 : decode cX12_wrongRow 1 = .ok (.invokestatic 144, 3) := by decide +kernel
theorem dX12_wrongRow_4 : decode cX12_wrongRow 4 = .ok (.ifCond .ne 7, 3) := by decide +kernel
theorem dX12_wrongRow_7 : decode cX12_wrongRow 7 = .ok (.iconst (-1), 1) := by decide +kernel
theorem dX12_wrongRow_8 : decode cX12_wrongRow 8 = .ok (.goto 47, 3) := by decide +kernel
theorem dX12_wrongRow_11 : decode cX12_wrongRow 11 = .ok (.aload_n 0, 1) := by decide +kernel
theorem dX12_wrongRow_12 : decode cX12_wrongRow 12 = .ok (.getfield 31, 3) := by decide +kernel
theorem dX12_wrongRow_15 : decode cX12_wrongRow 15 = .ok (.iload_n 1, 1) := by decide +kernel
theorem dX12_wrongRow_16 : decode cX12_wrongRow 16 = .ok (.iaload, 1) := by decide +kernel
theorem dX12_wrongRow_17 : decode cX12_wrongRow 17 = .ok (.ifCond .ne 8, 3) := by decide +kernel
theorem dX12_wrongRow_20 : decode cX12_wrongRow 20 = .ok (.bipush (-11), 2) := by decide +kernel
theorem dX12_wrongRow_22 : decode cX12_wrongRow 22 = .ok (.goto 33, 3) := by decide +kernel
theorem dX12_wrongRow_25 : decode cX12_wrongRow 25 = .ok (.aload_n 0, 1) := by decide +kernel
theorem dX12_wrongRow_26 : decode cX12_wrongRow 26 = .ok (.getfield 31, 3) := by decide +kernel
theorem dX12_wrongRow_29 : decode cX12_wrongRow 29 = .ok (.iload_n 1, 1) := by decide +kernel
theorem dX12_wrongRow_30 : decode cX12_wrongRow 30 = .ok (.iaload, 1) := by decide +kernel
theorem dX12_wrongRow_31 : decode cX12_wrongRow 31 = .ok (.iconst 2, 1) := by decide +kernel
theorem dX12_wrongRow_32 : decode cX12_wrongRow 32 = .ok (.if_icmp .ne 17, 3) := by decide +kernel
theorem dX12_wrongRow_35 : decode cX12_wrongRow 35 = .ok (.iload_n 2, 1) := by decide +kernel
theorem dX12_wrongRow_36 : decode cX12_wrongRow 36 = .ok (.ifCond .lt 18, 3) := by decide +kernel
theorem dX12_wrongRow_39 : decode cX12_wrongRow 39 = .ok (.aload_n 0, 1) := by decide +kernel
theorem dX12_wrongRow_40 : decode cX12_wrongRow 40 = .ok (.getfield 40, 3) := by decide +kernel
theorem dX12_wrongRow_43 : decode cX12_wrongRow 43 = .ok (.iload_n 1, 1) := by decide +kernel
theorem dX12_wrongRow_44 : decode cX12_wrongRow 44 = .ok (.iaload, 1) := by decide +kernel
theorem dX12_wrongRow_45 : decode cX12_wrongRow 45 = .ok (.iload_n 2, 1) := by decide +kernel
theorem dX12_wrongRow_46 : decode cX12_wrongRow 46 = .ok (.if_icmp .eq 8, 3) := by decide +kernel
theorem dX12_wrongRow_49 : decode cX12_wrongRow 49 = .ok (.bipush (-12), 2) := by decide +kernel
theorem dX12_wrongRow_51 : decode cX12_wrongRow 51 = .ok (.goto 4, 3) := by decide +kernel
theorem dX12_wrongRow_54 : decode cX12_wrongRow 54 = .ok (.iconst 0, 1) := by decide +kernel
theorem dX12_wrongRow_55 : decode cX12_wrongRow 55 = .ok (.ireturn, 1) := by decide +kernel
theorem dX12_wrongKept_0 : decode cX12_wrongKept 0 = .ok (.iload_n 1, 1) := by decide +kernel
theorem dX12_wrongKept_1 : decode cX12_wrongKept 1 = .ok (.invokestatic 144, 3) := by decide +kernel
theorem dX12_wrongKept_4 : decode cX12_wrongKept 4 = .ok (.ifCond .ne 7, 3) := by decide +kernel
theorem dX12_wrongKept_7 : decode cX12_wrongKept 7 = .ok (.iconst (-1), 1) := by decide +kernel
theorem dX12_wrongKept_8 : decode cX12_wrongKept 8 = .ok (.goto 33, 3) := by decide +kernel
theorem dX12_wrongKept_11 : decode cX12_wrongKept 11 = .ok (.aload_n 0, 1) := by decide +kernel
theorem dX12_wrongKept_12 : decode cX12_wrongKept 12 = .ok (.getfield 31, 3) := by decide +kernel
theorem dX12_wrongKept_15 : decode cX12_wrongKept 15 = .ok (.iload_n 1, 1) := by decide +kernel
theorem dX12_wrongKept_16 : decode cX12_wrongKept 16 = .ok (.iaload, 1) := by decide +kernel
theorem dX12_wrongKept_17 : decode cX12_wrongKept 17 = .ok (.ifCond .ne 8, 3) := by decide +kernel
theorem dX12_wrongKept_20 : decode cX12_wrongKept 20 = .ok (.bipush (-11), 2) := by decide +kernel
theorem dX12_wrongKept_22 : decode cX12_wrongKept 22 = .ok (.goto 19, 3) := by decide +kernel
theorem dX12_wrongKept_25 : decode cX12_wrongKept 25 = .ok (.aload_n 0, 1) := by decide +kernel
theorem dX12_wrongKept_26 : decode cX12_wrongKept 26 = .ok (.getfield 31, 3) := by decide +kernel
theorem dX12_wrongKept_29 : decode cX12_wrongKept 29 = .ok (.iload_n 1, 1) := by decide +kernel
theorem dX12_wrongKept_30 : decode cX12_wrongKept 30 = .ok (.iaload, 1) := by decide +kernel
theorem dX12_wrongKept_31 : decode cX12_wrongKept 31 = .ok (.iconst 2, 1) := by decide +kernel
theorem dX12_wrongKept_32 : decode cX12_wrongKept 32 = .ok (.if_icmp .ne 8, 3) := by decide +kernel
theorem dX12_wrongKept_35 : decode cX12_wrongKept 35 = .ok (.bipush (-12), 2) := by decide +kernel
theorem dX12_wrongKept_37 : decode cX12_wrongKept 37 = .ok (.goto 4, 3) := by decide +kernel
theorem dX12_wrongKept_40 : decode cX12_wrongKept 40 = .ok (.iconst 0, 1) := by decide +kernel
theorem dX12_wrongKept_41 : decode cX12_wrongKept 41 = .ok (.ireturn, 1) := by decide +kernel
theorem dX12_keep_0 : decode cX12_keep 0 = .ok (.iload_n 1, 1) := by decide +kernel
theorem dX12_keep_1 : decode cX12_keep 1 = .ok (.invokestatic 144, 3) := by decide +kernel
theorem dX12_keep_4 : decode cX12_keep 4 = .ok (.ifCond .eq 38, 3) := by decide +kernel
theorem dX12_keep_7 : decode cX12_keep 7 = .ok (.iload_n 2, 1) := by decide +kernel
theorem dX12_keep_8 : decode cX12_keep 8 = .ok (.iconst 0, 1) := by decide +kernel
theorem dX12_keep_9 : decode cX12_keep 9 = .ok (.iconst 1, 1) := by decide +kernel
theorem dX12_keep_10 : decode cX12_keep 10 = .ok (.invokestatic 49, 3) := by decide +kernel
theorem dX12_keep_13 : decode cX12_keep 13 = .ok (.ifCond .eq 29, 3) := by decide +kernel
theorem dX12_keep_16 : decode cX12_keep 16 = .ok (.iload_n 2, 1) := by decide +kernel
theorem dX12_keep_17 : decode cX12_keep 17 = .ok (.iconst 1, 1) := by decide +kernel
theorem dX12_keep_18 : decode cX12_keep 18 = .ok (.if_icmp .ne 26, 3) := by decide +kernel
theorem dX12_keep_21 : decode cX12_keep 21 = .ok (.iload_n 3, 1) := by decide +kernel
theorem dX12_keep_22 : decode cX12_keep 22 = .ok (.iconst 0, 1) := by decide +kernel
theorem dX12_keep_23 : decode cX12_keep 23 = .ok (.bipush 7, 2) := by decide +kernel
theorem dX12_keep_25 : decode cX12_keep 25 = .ok (.invokestatic 49, 3) := by decide +kernel
theorem dX12_keep_28 : decode cX12_keep 28 = .ok (.ifCond .eq 14, 3) := by decide +kernel
theorem dX12_keep_31 : decode cX12_keep 31 = .ok (.iload 4, 2) := by decide +kernel
theorem dX12_keep_33 : decode cX12_keep 33 = .ok (.iconst 0, 1) := by decide +kernel
theorem dX12_keep_34 : decode cX12_keep 34 = .ok (.bipush 9, 2) := by decide +kernel
theorem dX12_keep_36 : decode cX12_keep 36 = .ok (.invokestatic 49, 3) := by decide +kernel
theorem dX12_keep_39 : decode cX12_keep 39 = .ok (.ifCond .ne 5, 3) := by decide +kernel
theorem dX12_keep_42 : decode cX12_keep 42 = .ok (.iconst (-1), 1) := by decide +kernel
theorem dX12_keep_43 : decode cX12_keep 43 = .ok (.ireturn, 1) := by decide +kernel
theorem dX12_keep_44 : decode cX12_keep 44 = .ok (.aload_n 0, 1) := by decide +kernel
theorem dX12_keep_45 : decode cX12_keep 45 = .ok (.getfield 31, 3) := by decide +kernel
theorem dX12_keep_48 : decode cX12_keep 48 = .ok (.iload_n 1, 1) := by decide +kernel
theorem dX12_keep_49 : decode cX12_keep 49 = .ok (.iload_n 2, 1) := by decide +kernel
theorem dX12_keep_50 : decode cX12_keep 50 = .ok (.iastore, 1) := by decide +kernel
theorem dX12_keep_51 : decode cX12_keep 51 = .ok (.aload_n 0, 1) := by decide +kernel
theorem dX12_keep_52 : decode cX12_keep 52 = .ok (.getfield 34, 3) := by decide +kernel
theorem dX12_keep_55 : decode cX12_keep 55 = .ok (.iload_n 1, 1) := by decide +kernel
theorem dX12_keep_56 : decode cX12_keep 56 = .ok (.iload_n 3, 1) := by decide +kernel
theorem dX12_keep_57 : decode cX12_keep 57 = .ok (.iastore, 1) := by decide +kernel
theorem dX12_keep_58 : decode cX12_keep 58 = .ok (.aload_n 0, 1) := by decide +kernel
theorem dX12_keep_59 : decode cX12_keep 59 = .ok (.getfield 37, 3) := by decide +kernel
theorem dX12_keep_62 : decode cX12_keep 62 = .ok (.iload_n 1, 1) := by decide +kernel
theorem dX12_keep_63 : decode cX12_keep 63 = .ok (.iload 4, 2) := by decide +kernel
theorem dX12_keep_65 : decode cX12_keep 65 = .ok (.iastore, 1) := by decide +kernel
theorem dX12_keep_66 : decode cX12_keep 66 = .ok (.iconst 0, 1) := by decide +kernel
theorem dX12_keep_67 : decode cX12_keep 67 = .ok (.ireturn, 1) := by decide +kernel
theorem dX12_row_0 : decode cX12_row 0 = .ok (.iload_n 1, 1) := by decide +kernel
theorem dX12_row_1 : decode cX12_row 1 = .ok (.invokestatic 144, 3) := by decide +kernel
theorem dX12_row_4 : decode cX12_row 4 = .ok (.ifCond .eq 18, 3) := by decide +kernel
theorem dX12_row_7 : decode cX12_row 7 = .ok (.iload_n 2, 1) := by decide +kernel
theorem dX12_row_8 : decode cX12_row 8 = .ok (.iconst 0, 1) := by decide +kernel
theorem dX12_row_9 : decode cX12_row 9 = .ok (.iconst 2, 1) := by decide +kernel
theorem dX12_row_10 : decode cX12_row 10 = .ok (.invokestatic 49, 3) := by decide +kernel
theorem dX12_row_13 : decode cX12_row 13 = .ok (.ifCond .eq 9, 3) := by decide +kernel
theorem dX12_row_16 : decode cX12_row 16 = .ok (.iload_n 3, 1) := by decide +kernel
theorem dX12_row_17 : decode cX12_row 17 = .ok (.bipush 100, 2) := by decide +kernel
theorem dX12_row_19 : decode cX12_row 19 = .ok (.if_icmp .le 5, 3) := by decide +kernel
theorem dX12_row_22 : decode cX12_row 22 = .ok (.iconst (-1), 1) := by decide +kernel
theorem dX12_row_23 : decode cX12_row 23 = .ok (.ireturn, 1) := by decide +kernel
theorem dX12_row_24 : decode cX12_row 24 = .ok (.iload_n 3, 1) := by decide +kernel
theorem dX12_row_25 : decode cX12_row 25 = .ok (.ifCond .ge 6, 3) := by decide +kernel
theorem dX12_row_28 : decode cX12_row 28 = .ok (.bipush (-14), 2) := by decide +kernel
theorem dX12_row_30 : decode cX12_row 30 = .ok (.ireturn, 1) := by decide +kernel
theorem dX12_row_31 : decode cX12_row 31 = .ok (.aload_n 0, 1) := by decide +kernel
theorem dX12_row_32 : decode cX12_row 32 = .ok (.getfield 31, 3) := by decide +kernel
theorem dX12_row_35 : decode cX12_row 35 = .ok (.iload_n 1, 1) := by decide +kernel
theorem dX12_row_36 : decode cX12_row 36 = .ok (.iconst 2, 1) := by decide +kernel
theorem dX12_row_37 : decode cX12_row 37 = .ok (.iastore, 1) := by decide +kernel
theorem dX12_row_38 : decode cX12_row 38 = .ok (.aload_n 0, 1) := by decide +kernel
theorem dX12_row_39 : decode cX12_row 39 = .ok (.getfield 40, 3) := by decide +kernel
theorem dX12_row_42 : decode cX12_row 42 = .ok (.iload_n 1, 1) := by decide +kernel
theorem dX12_row_43 : decode cX12_row 43 = .ok (.iload_n 2, 1) := by decide +kernel
theorem dX12_row_44 : decode cX12_row 44 = .ok (.iastore, 1) := by decide +kernel
theorem dX12_row_45 : decode cX12_row 45 = .ok (.aload_n 0, 1) := by decide +kernel
theorem dX12_row_46 : decode cX12_row 46 = .ok (.getfield 43, 3) := by decide +kernel
theorem dX12_row_49 : decode cX12_row 49 = .ok (.iload_n 1, 1) := by decide +kernel
theorem dX12_row_50 : decode cX12_row 50 = .ok (.iload_n 3, 1) := by decide +kernel
theorem dX12_row_51 : decode cX12_row 51 = .ok (.iastore, 1) := by decide +kernel
theorem dX12_row_52 : decode cX12_row 52 = .ok (.iconst 0, 1) := by decide +kernel
theorem dX12_row_53 : decode cX12_row 53 = .ok (.istore 4, 2) := by decide +kernel
theorem dX12_row_55 : decode cX12_row 55 = .ok (.iload 4, 2) := by decide +kernel
theorem dX12_row_57 : decode cX12_row 57 = .ok (.bipush 100, 2) := by decide +kernel
theorem dX12_row_59 : decode cX12_row 59 = .ok (.if_icmp .ge 22, 3) := by decide +kernel
theorem dX12_row_62 : decode cX12_row 62 = .ok (.aload_n 0, 1) := by decide +kernel
theorem dX12_row_63 : decode cX12_row 63 = .ok (.getfield 46, 3) := by decide +kernel
theorem dX12_row_66 : decode cX12_row 66 = .ok (.bipush 100, 2) := by decide +kernel
theorem dX12_row_68 : decode cX12_row 68 = .ok (.iload_n 1, 1) := by decide +kernel
theorem dX12_row_69 : decode cX12_row 69 = .ok (.imul, 1) := by decide +kernel
theorem dX12_row_70 : decode cX12_row 70 = .ok (.iload 4, 2) := by decide +kernel
theorem dX12_row_72 : decode cX12_row 72 = .ok (.iadd, 1) := by decide +kernel
theorem dX12_row_73 : decode cX12_row 73 = .ok (.iconst 0, 1) := by decide +kernel
theorem dX12_row_74 : decode cX12_row 74 = .ok (.iastore, 1) := by decide +kernel
theorem dX12_row_75 : decode cX12_row 75 = .ok (.iinc 4 1, 3) := by decide +kernel
theorem dX12_row_78 : decode cX12_row 78 = .ok (.goto (-23), 3) := by decide +kernel
theorem dX12_row_81 : decode cX12_row 81 = .ok (.iconst 0, 1) := by decide +kernel
theorem dX12_row_82 : decode cX12_row 82 = .ok (.ireturn, 1) := by decide +kernel
theorem dX12_put_0 : decode cX12_put 0 = .ok (.aload_n 0, 1) := by decide +kernel
theorem dX12_put_1 : decode cX12_put 1 = .ok (.iload_n 1, 1) := by decide +kernel
theorem dX12_put_2 : decode cX12_put 2 = .ok (.iconst (-1), 1) := by decide +kernel
theorem dX12_put_3 : decode cX12_put 3 = .ok (.invokevirtual 127, 3) := by decide +kernel
theorem dX12_put_6 : decode cX12_put 6 = .ok (.istore 4, 2) := by decide +kernel
theorem dX12_put_8 : decode cX12_put 8 = .ok (.iload 4, 2) := by decide +kernel
theorem dX12_put_10 : decode cX12_put 10 = .ok (.ifCond .eq 6, 3) := by decide +kernel
theorem dX12_put_13 : decode cX12_put 13 = .ok (.iload 4, 2) := by decide +kernel
theorem dX12_put_15 : decode cX12_put 15 = .ok (.ireturn, 1) := by decide +kernel
theorem dX12_put_16 : decode cX12_put 16 = .ok (.iload_n 2, 1) := by decide +kernel
theorem dX12_put_17 : decode cX12_put 17 = .ok (.iconst 0, 1) := by decide +kernel
theorem dX12_put_18 : decode cX12_put 18 = .ok (.aload_n 0, 1) := by decide +kernel
theorem dX12_put_19 : decode cX12_put 19 = .ok (.getfield 43, 3) := by decide +kernel
theorem dX12_put_22 : decode cX12_put 22 = .ok (.iload_n 1, 1) := by decide +kernel
theorem dX12_put_23 : decode cX12_put 23 = .ok (.iaload, 1) := by decide +kernel
theorem dX12_put_24 : decode cX12_put 24 = .ok (.iconst 1, 1) := by decide +kernel
theorem dX12_put_25 : decode cX12_put 25 = .ok (.isub, 1) := by decide +kernel
theorem dX12_put_26 : decode cX12_put 26 = .ok (.invokestatic 49, 3) := by decide +kernel
theorem dX12_put_29 : decode cX12_put 29 = .ok (.ifCond .ne 6, 3) := by decide +kernel
theorem dX12_put_32 : decode cX12_put 32 = .ok (.bipush (-13), 2) := by decide +kernel
theorem dX12_put_34 : decode cX12_put 34 = .ok (.ireturn, 1) := by decide +kernel
theorem dX12_put_35 : decode cX12_put 35 = .ok (.aload_n 0, 1) := by decide +kernel
theorem dX12_put_36 : decode cX12_put 36 = .ok (.getfield 46, 3) := by decide +kernel
theorem dX12_put_39 : decode cX12_put 39 = .ok (.bipush 100, 2) := by decide +kernel
theorem dX12_put_41 : decode cX12_put 41 = .ok (.iload_n 1, 1) := by decide +kernel
theorem dX12_put_42 : decode cX12_put 42 = .ok (.imul, 1) := by decide +kernel
theorem dX12_put_43 : decode cX12_put 43 = .ok (.iload_n 2, 1) := by decide +kernel
theorem dX12_put_44 : decode cX12_put 44 = .ok (.iadd, 1) := by decide +kernel
theorem dX12_put_45 : decode cX12_put 45 = .ok (.aload_n 0, 1) := by decide +kernel
theorem dX12_put_46 : decode cX12_put 46 = .ok (.getfield 40, 3) := by decide +kernel
theorem dX12_put_49 : decode cX12_put 49 = .ok (.iload_n 1, 1) := by decide +kernel
theorem dX12_put_50 : decode cX12_put 50 = .ok (.iaload, 1) := by decide +kernel
theorem dX12_put_51 : decode cX12_put 51 = .ok (.ifCond .ne 8, 3) := by decide +kernel
theorem dX12_put_54 : decode cX12_put 54 = .ok (.iload_n 3, 1) := by decide +kernel
theorem dX12_put_55 : decode cX12_put 55 = .ok (.i2b, 1) := by decide +kernel
theorem dX12_put_56 : decode cX12_put 56 = .ok (.goto 19, 3) := by decide +kernel
theorem dX12_put_59 : decode cX12_put 59 = .ok (.aload_n 0, 1) := by decide +kernel
theorem dX12_put_60 : decode cX12_put 60 = .ok (.getfield 40, 3) := by decide +kernel
theorem dX12_put_63 : decode cX12_put 63 = .ok (.iload_n 1, 1) := by decide +kernel
theorem dX12_put_64 : decode cX12_put 64 = .ok (.iaload, 1) := by decide +kernel
theorem dX12_put_65 : decode cX12_put 65 = .ok (.iconst 1, 1) := by decide +kernel
theorem dX12_put_66 : decode cX12_put 66 = .ok (.if_icmp .ne 8, 3) := by decide +kernel
theorem dX12_put_69 : decode cX12_put 69 = .ok (.iload_n 3, 1) := by decide +kernel
theorem dX12_put_70 : decode cX12_put 70 = .ok (.i2s, 1) := by decide +kernel
theorem dX12_put_71 : decode cX12_put 71 = .ok (.goto 4, 3) := by decide +kernel
theorem dX12_put_74 : decode cX12_put 74 = .ok (.iload_n 3, 1) := by decide +kernel
theorem dX12_put_75 : decode cX12_put 75 = .ok (.iastore, 1) := by decide +kernel
theorem dX12_put_76 : decode cX12_put 76 = .ok (.iconst 0, 1) := by decide +kernel
theorem dX12_put_77 : decode cX12_put 77 = .ok (.ireturn, 1) := by decide +kernel
theorem dX12_element_0 : decode cX12_element 0 = .ok (.aload_n 0, 1) := by decide +kernel
theorem dX12_element_1 : decode cX12_element 1 = .ok (.iload_n 1, 1) := by decide +kernel
theorem dX12_element_2 : decode cX12_element 2 = .ok (.invokestatic 144, 3) := by decide +kernel
theorem dX12_element_5 : decode cX12_element 5 = .ok (.ifCond .ne 7, 3) := by decide +kernel
theorem dX12_element_8 : decode cX12_element 8 = .ok (.iconst 1, 1) := by decide +kernel
theorem dX12_element_9 : decode cX12_element 9 = .ok (.goto 34, 3) := by decide +kernel
theorem dX12_element_12 : decode cX12_element 12 = .ok (.aload_n 0, 1) := by decide +kernel
theorem dX12_element_13 : decode cX12_element 13 = .ok (.getfield 31, 3) := by decide +kernel
theorem dX12_element_16 : decode cX12_element 16 = .ok (.iload_n 1, 1) := by decide +kernel
theorem dX12_element_17 : decode cX12_element 17 = .ok (.iaload, 1) := by decide +kernel
theorem dX12_element_18 : decode cX12_element 18 = .ok (.iconst 2, 1) := by decide +kernel
theorem dX12_element_19 : decode cX12_element 19 = .ok (.if_icmp .ne 19, 3) := by decide +kernel
theorem dX12_element_22 : decode cX12_element 22 = .ok (.iload_n 2, 1) := by decide +kernel
theorem dX12_element_23 : decode cX12_element 23 = .ok (.iconst 0, 1) := by decide +kernel
theorem dX12_element_24 : decode cX12_element 24 = .ok (.aload_n 0, 1) := by decide +kernel
theorem dX12_element_25 : decode cX12_element 25 = .ok (.getfield 43, 3) := by decide +kernel
theorem dX12_element_28 : decode cX12_element 28 = .ok (.iload_n 1, 1) := by decide +kernel
theorem dX12_element_29 : decode cX12_element 29 = .ok (.iaload, 1) := by decide +kernel
theorem dX12_element_30 : decode cX12_element 30 = .ok (.iconst 1, 1) := by decide +kernel
theorem dX12_element_31 : decode cX12_element 31 = .ok (.isub, 1) := by decide +kernel
theorem dX12_element_32 : decode cX12_element 32 = .ok (.invokestatic 49, 3) := by decide +kernel
theorem dX12_element_35 : decode cX12_element 35 = .ok (.ifCond .ne 7, 3) := by decide +kernel
theorem dX12_element_38 : decode cX12_element 38 = .ok (.iconst 2, 1) := by decide +kernel
theorem dX12_element_39 : decode cX12_element 39 = .ok (.goto 4, 3) := by decide +kernel
theorem dX12_element_42 : decode cX12_element 42 = .ok (.iconst 0, 1) := by decide +kernel
theorem dX12_element_43 : decode cX12_element 43 = .ok (.putfield 231, 3) := by decide +kernel
theorem dX12_element_46 : decode cX12_element 46 = .ok (.aload_n 0, 1) := by decide +kernel
theorem dX12_element_47 : decode cX12_element 47 = .ok (.getfield 231, 3) := by decide +kernel
theorem dX12_element_50 : decode cX12_element 50 = .ok (.ifCond .ne 18, 3) := by decide +kernel
theorem dX12_element_53 : decode cX12_element 53 = .ok (.aload_n 0, 1) := by decide +kernel
theorem dX12_element_54 : decode cX12_element 54 = .ok (.getfield 46, 3) := by decide +kernel
theorem dX12_element_57 : decode cX12_element 57 = .ok (.bipush 100, 2) := by decide +kernel
theorem dX12_element_59 : decode cX12_element 59 = .ok (.iload_n 1, 1) := by decide +kernel
theorem dX12_element_60 : decode cX12_element 60 = .ok (.imul, 1) := by decide +kernel
theorem dX12_element_61 : decode cX12_element 61 = .ok (.iload_n 2, 1) := by decide +kernel
theorem dX12_element_62 : decode cX12_element 62 = .ok (.iadd, 1) := by decide +kernel
theorem dX12_element_63 : decode cX12_element 63 = .ok (.iaload, 1) := by decide +kernel
theorem dX12_element_64 : decode cX12_element 64 = .ok (.i2l, 1) := by decide +kernel
theorem dX12_element_65 : decode cX12_element 65 = .ok (.goto 4, 3) := by decide +kernel
theorem dX12_element_68 : decode cX12_element 68 = .ok (.lconst 0, 1) := by decide +kernel
theorem dX12_element_69 : decode cX12_element 69 = .ok (.lreturn, 1) := by decide +kernel
theorem dX12_copy_0 : decode cX12_copy 0 = .ok (.iload_n 1, 1) := by decide +kernel
theorem dX12_copy_1 : decode cX12_copy 1 = .ok (.invokestatic 144, 3) := by decide +kernel
theorem dX12_copy_4 : decode cX12_copy 4 = .ok (.ifCond .eq 10, 3) := by decide +kernel
theorem dX12_copy_7 : decode cX12_copy 7 = .ok (.iload_n 3, 1) := by decide +kernel
theorem dX12_copy_8 : decode cX12_copy 8 = .ok (.invokestatic 144, 3) := by decide +kernel
theorem dX12_copy_11 : decode cX12_copy 11 = .ok (.ifCond .ne 5, 3) := by decide +kernel
theorem dX12_copy_14 : decode cX12_copy 14 = .ok (.iconst (-1), 1) := by decide +kernel
theorem dX12_copy_15 : decode cX12_copy 15 = .ok (.ireturn, 1) := by decide +kernel
theorem dX12_copy_16 : decode cX12_copy 16 = .ok (.aload_n 0, 1) := by decide +kernel
theorem dX12_copy_17 : decode cX12_copy 17 = .ok (.getfield 31, 3) := by decide +kernel
theorem dX12_copy_20 : decode cX12_copy 20 = .ok (.iload_n 1, 1) := by decide +kernel
theorem dX12_copy_21 : decode cX12_copy 21 = .ok (.iaload, 1) := by decide +kernel
theorem dX12_copy_22 : decode cX12_copy 22 = .ok (.ifCond .eq 12, 3) := by decide +kernel
theorem dX12_copy_25 : decode cX12_copy 25 = .ok (.aload_n 0, 1) := by decide +kernel
theorem dX12_copy_26 : decode cX12_copy 26 = .ok (.getfield 31, 3) := by decide +kernel
theorem dX12_copy_29 : decode cX12_copy 29 = .ok (.iload_n 3, 1) := by decide +kernel
theorem dX12_copy_30 : decode cX12_copy 30 = .ok (.iaload, 1) := by decide +kernel
theorem dX12_copy_31 : decode cX12_copy 31 = .ok (.ifCond .ne 6, 3) := by decide +kernel
theorem dX12_copy_34 : decode cX12_copy 34 = .ok (.bipush (-11), 2) := by decide +kernel
theorem dX12_copy_36 : decode cX12_copy 36 = .ok (.ireturn, 1) := by decide +kernel
theorem dX12_copy_37 : decode cX12_copy 37 = .ok (.aload_n 0, 1) := by decide +kernel
theorem dX12_copy_38 : decode cX12_copy 38 = .ok (.getfield 31, 3) := by decide +kernel
theorem dX12_copy_41 : decode cX12_copy 41 = .ok (.iload_n 1, 1) := by decide +kernel
theorem dX12_copy_42 : decode cX12_copy 42 = .ok (.iaload, 1) := by decide +kernel
theorem dX12_copy_43 : decode cX12_copy 43 = .ok (.iconst 2, 1) := by decide +kernel
theorem dX12_copy_44 : decode cX12_copy 44 = .ok (.if_icmp .ne 28, 3) := by decide +kernel
theorem dX12_copy_47 : decode cX12_copy 47 = .ok (.aload_n 0, 1) := by decide +kernel
theorem dX12_copy_48 : decode cX12_copy 48 = .ok (.getfield 31, 3) := by decide +kernel
theorem dX12_copy_51 : decode cX12_copy 51 = .ok (.iload_n 3, 1) := by decide +kernel
theorem dX12_copy_52 : decode cX12_copy 52 = .ok (.iaload, 1) := by decide +kernel
theorem dX12_copy_53 : decode cX12_copy 53 = .ok (.iconst 2, 1) := by decide +kernel
theorem dX12_copy_54 : decode cX12_copy 54 = .ok (.if_icmp .ne 18, 3) := by decide +kernel
theorem dX12_copy_57 : decode cX12_copy 57 = .ok (.aload_n 0, 1) := by decide +kernel
theorem dX12_copy_58 : decode cX12_copy 58 = .ok (.getfield 40, 3) := by decide +kernel
theorem dX12_copy_61 : decode cX12_copy 61 = .ok (.iload_n 1, 1) := by decide +kernel
theorem dX12_copy_62 : decode cX12_copy 62 = .ok (.iaload, 1) := by decide +kernel
theorem dX12_copy_63 : decode cX12_copy 63 = .ok (.aload_n 0, 1) := by decide +kernel
theorem dX12_copy_64 : decode cX12_copy 64 = .ok (.getfield 40, 3) := by decide +kernel
theorem dX12_copy_67 : decode cX12_copy 67 = .ok (.iload_n 3, 1) := by decide +kernel
theorem dX12_copy_68 : decode cX12_copy 68 = .ok (.iaload, 1) := by decide +kernel
theorem dX12_copy_69 : decode cX12_copy 69 = .ok (.if_icmp .eq 6, 3) := by decide +kernel
theorem dX12_copy_72 : decode cX12_copy 72 = .ok (.bipush (-12), 2) := by decide +kernel
theorem dX12_copy_74 : decode cX12_copy 74 = .ok (.ireturn, 1) := by decide +kernel
theorem dX12_copy_75 : decode cX12_copy 75 = .ok (.iload 5, 2) := by decide +kernel
theorem dX12_copy_77 : decode cX12_copy 77 = .ok (.ifCond .lt 39, 3) := by decide +kernel
theorem dX12_copy_80 : decode cX12_copy 80 = .ok (.iload_n 2, 1) := by decide +kernel
theorem dX12_copy_81 : decode cX12_copy 81 = .ok (.ifCond .lt 35, 3) := by decide +kernel
theorem dX12_copy_84 : decode cX12_copy 84 = .ok (.iload 4, 2) := by decide +kernel
theorem dX12_copy_86 : decode cX12_copy 86 = .ok (.ifCond .lt 30, 3) := by decide +kernel
theorem dX12_copy_89 : decode cX12_copy 89 = .ok (.iload 5, 2) := by decide +kernel
theorem dX12_copy_91 : decode cX12_copy 91 = .ok (.aload_n 0, 1) := by decide +kernel
theorem dX12_copy_92 : decode cX12_copy 92 = .ok (.getfield 43, 3) := by decide +kernel
theorem dX12_copy_95 : decode cX12_copy 95 = .ok (.iload_n 1, 1) := by decide +kernel
theorem dX12_copy_96 : decode cX12_copy 96 = .ok (.iaload, 1) := by decide +kernel
theorem dX12_copy_97 : decode cX12_copy 97 = .ok (.iload_n 2, 1) := by decide +kernel
theorem dX12_copy_98 : decode cX12_copy 98 = .ok (.isub, 1) := by decide +kernel
theorem dX12_copy_99 : decode cX12_copy 99 = .ok (.if_icmp .gt 17, 3) := by decide +kernel
theorem dX12_copy_102 : decode cX12_copy 102 = .ok (.iload 5, 2) := by decide +kernel
theorem dX12_copy_104 : decode cX12_copy 104 = .ok (.aload_n 0, 1) := by decide +kernel
theorem dX12_copy_105 : decode cX12_copy 105 = .ok (.getfield 43, 3) := by decide +kernel
theorem dX12_copy_108 : decode cX12_copy 108 = .ok (.iload_n 3, 1) := by decide +kernel
theorem dX12_copy_109 : decode cX12_copy 109 = .ok (.iaload, 1) := by decide +kernel
theorem dX12_copy_110 : decode cX12_copy 110 = .ok (.iload 4, 2) := by decide +kernel
theorem dX12_copy_112 : decode cX12_copy 112 = .ok (.isub, 1) := by decide +kernel
theorem dX12_copy_113 : decode cX12_copy 113 = .ok (.if_icmp .le 6, 3) := by decide +kernel
theorem dX12_copy_116 : decode cX12_copy 116 = .ok (.bipush (-13), 2) := by decide +kernel
theorem dX12_copy_118 : decode cX12_copy 118 = .ok (.ireturn, 1) := by decide +kernel
theorem dX12_copy_119 : decode cX12_copy 119 = .ok (.iconst 0, 1) := by decide +kernel
theorem dX12_copy_120 : decode cX12_copy 120 = .ok (.istore 6, 2) := by decide +kernel
theorem dX12_copy_122 : decode cX12_copy 122 = .ok (.iload 6, 2) := by decide +kernel
theorem dX12_copy_124 : decode cX12_copy 124 = .ok (.iload 5, 2) := by decide +kernel
theorem dX12_copy_126 : decode cX12_copy 126 = .ok (.if_icmp .ge 58, 3) := by decide +kernel
theorem dX12_copy_129 : decode cX12_copy 129 = .ok (.iload_n 2, 1) := by decide +kernel
theorem dX12_copy_130 : decode cX12_copy 130 = .ok (.iload 4, 2) := by decide +kernel
theorem dX12_copy_132 : decode cX12_copy 132 = .ok (.if_icmp .le 8, 3) := by decide +kernel
theorem dX12_copy_135 : decode cX12_copy 135 = .ok (.iload 6, 2) := by decide +kernel
theorem dX12_copy_137 : decode cX12_copy 137 = .ok (.goto 10, 3) := by decide +kernel
theorem dX12_copy_140 : decode cX12_copy 140 = .ok (.iload 5, 2) := by decide +kernel
theorem dX12_copy_142 : decode cX12_copy 142 = .ok (.iconst 1, 1) := by decide +kernel
theorem dX12_copy_143 : decode cX12_copy 143 = .ok (.isub, 1) := by decide +kernel
theorem dX12_copy_144 : decode cX12_copy 144 = .ok (.iload 6, 2) := by decide +kernel
theorem dX12_copy_146 : decode cX12_copy 146 = .ok (.isub, 1) := by decide +kernel
theorem dX12_copy_147 : decode cX12_copy 147 = .ok (.istore 7, 2) := by decide +kernel
theorem dX12_copy_149 : decode cX12_copy 149 = .ok (.aload_n 0, 1) := by decide +kernel
theorem dX12_copy_150 : decode cX12_copy 150 = .ok (.getfield 46, 3) := by decide +kernel
theorem dX12_copy_153 : decode cX12_copy 153 = .ok (.bipush 100, 2) := by decide +kernel
theorem dX12_copy_155 : decode cX12_copy 155 = .ok (.iload_n 3, 1) := by decide +kernel
theorem dX12_copy_156 : decode cX12_copy 156 = .ok (.imul, 1) := by decide +kernel
theorem dX12_copy_157 : decode cX12_copy 157 = .ok (.iload 4, 2) := by decide +kernel
theorem dX12_copy_159 : decode cX12_copy 159 = .ok (.iadd, 1) := by decide +kernel
theorem dX12_copy_160 : decode cX12_copy 160 = .ok (.iload 7, 2) := by decide +kernel
theorem dX12_copy_162 : decode cX12_copy 162 = .ok (.iadd, 1) := by decide +kernel
theorem dX12_copy_163 : decode cX12_copy 163 = .ok (.aload_n 0, 1) := by decide +kernel
theorem dX12_copy_164 : decode cX12_copy 164 = .ok (.getfield 46, 3) := by decide +kernel
theorem dX12_copy_167 : decode cX12_copy 167 = .ok (.bipush 100, 2) := by decide +kernel
theorem dX12_copy_169 : decode cX12_copy 169 = .ok (.iload_n 1, 1) := by decide +kernel
theorem dX12_copy_170 : decode cX12_copy 170 = .ok (.imul, 1) := by decide +kernel
theorem dX12_copy_171 : decode cX12_copy 171 = .ok (.iload_n 2, 1) := by decide +kernel
theorem dX12_copy_172 : decode cX12_copy 172 = .ok (.iadd, 1) := by decide +kernel
theorem dX12_copy_173 : decode cX12_copy 173 = .ok (.iload 7, 2) := by decide +kernel
theorem dX12_copy_175 : decode cX12_copy 175 = .ok (.iadd, 1) := by decide +kernel
theorem dX12_copy_176 : decode cX12_copy 176 = .ok (.iaload, 1) := by decide +kernel
theorem dX12_copy_177 : decode cX12_copy 177 = .ok (.iastore, 1) := by decide +kernel
theorem dX12_copy_178 : decode cX12_copy 178 = .ok (.iinc 6 1, 3) := by decide +kernel
theorem dX12_copy_181 : decode cX12_copy 181 = .ok (.goto (-59), 3) := by decide +kernel
theorem dX12_copy_184 : decode cX12_copy 184 = .ok (.iload 5, 2) := by decide +kernel
theorem dX12_copy_186 : decode cX12_copy 186 = .ok (.ireturn, 1) := by decide +kernel
theorem dX12_costBy_0 : decode cX12_costBy 0 = .ok (.iload_n 0, 1) := by decide +kernel
theorem dX12_costBy_1 : decode cX12_costBy 1 = .ok (.tableswitch 65 1 7 #[43, 45, 49, 51, 54, 58, 60], 43) := by decide +kernel
theorem dX12_costBy_44 : decode cX12_costBy 44 = .ok (.iconst 2, 1) := by decide +kernel
theorem dX12_costBy_45 : decode cX12_costBy 45 = .ok (.ireturn, 1) := by decide +kernel
theorem dX12_costBy_46 : decode cX12_costBy 46 = .ok (.iconst 3, 1) := by decide +kernel
theorem dX12_costBy_47 : decode cX12_costBy 47 = .ok (.iload_n 1, 1) := by decide +kernel
theorem dX12_costBy_48 : decode cX12_costBy 48 = .ok (.iadd, 1) := by decide +kernel
theorem dX12_costBy_49 : decode cX12_costBy 49 = .ok (.ireturn, 1) := by decide +kernel
theorem dX12_costBy_50 : decode cX12_costBy 50 = .ok (.iconst 4, 1) := by decide +kernel
theorem dX12_costBy_51 : decode cX12_costBy 51 = .ok (.ireturn, 1) := by decide +kernel
theorem dX12_costBy_52 : decode cX12_costBy 52 = .ok (.bipush 9, 2) := by decide +kernel
theorem dX12_costBy_54 : decode cX12_costBy 54 = .ok (.ireturn, 1) := by decide +kernel
theorem dX12_costBy_55 : decode cX12_costBy 55 = .ok (.iconst 5, 1) := by decide +kernel
theorem dX12_costBy_56 : decode cX12_costBy 56 = .ok (.iload_n 1, 1) := by decide +kernel
theorem dX12_costBy_57 : decode cX12_costBy 57 = .ok (.iadd, 1) := by decide +kernel
theorem dX12_costBy_58 : decode cX12_costBy 58 = .ok (.ireturn, 1) := by decide +kernel
theorem dX12_costBy_59 : decode cX12_costBy 59 = .ok (.iconst 4, 1) := by decide +kernel
theorem dX12_costBy_60 : decode cX12_costBy 60 = .ok (.ireturn, 1) := by decide +kernel
theorem dX12_costBy_61 : decode cX12_costBy 61 = .ok (.bipush 9, 2) := by decide +kernel
theorem dX12_costBy_63 : decode cX12_costBy 63 = .ok (.iload_n 1, 1) := by decide +kernel
theorem dX12_costBy_64 : decode cX12_costBy 64 = .ok (.iadd, 1) := by decide +kernel
theorem dX12_costBy_65 : decode cX12_costBy 65 = .ok (.ireturn, 1) := by decide +kernel
theorem dX12_costBy_66 : decode cX12_costBy 66 = .ok (.iconst 3, 1) := by decide +kernel
theorem dX12_costBy_67 : decode cX12_costBy 67 = .ok (.ireturn, 1) := by decide +kernel
theorem dX12_cost_0 : decode cX12_cost 0 = .ok (.aload_n 0, 1) := by decide +kernel
theorem dX12_cost_1 : decode cX12_cost 1 = .ok (.iload_n 1, 1) := by decide +kernel
theorem dX12_cost_2 : decode cX12_cost 2 = .ok (.invokevirtual 147, 3) := by decide +kernel
theorem dX12_cost_5 : decode cX12_cost 5 = .ok (.istore_n 2, 1) := by decide +kernel
theorem dX12_cost_6 : decode cX12_cost 6 = .ok (.iload_n 2, 1) := by decide +kernel
theorem dX12_cost_7 : decode cX12_cost 7 = .ok (.ifCond .eq 7, 3) := by decide +kernel
theorem dX12_cost_10 : decode cX12_cost 10 = .ok (.iload_n 2, 1) := by decide +kernel
theorem dX12_cost_11 : decode cX12_cost 11 = .ok (.goto 18, 3) := by decide +kernel
theorem dX12_cost_14 : decode cX12_cost 14 = .ok (.aload_n 0, 1) := by decide +kernel
theorem dX12_cost_15 : decode cX12_cost 15 = .ok (.getfield 34, 3) := by decide +kernel
theorem dX12_cost_18 : decode cX12_cost 18 = .ok (.iload_n 1, 1) := by decide +kernel
theorem dX12_cost_19 : decode cX12_cost 19 = .ok (.iaload, 1) := by decide +kernel
theorem dX12_cost_20 : decode cX12_cost 20 = .ok (.aload_n 0, 1) := by decide +kernel
theorem dX12_cost_21 : decode cX12_cost 21 = .ok (.getfield 37, 3) := by decide +kernel
theorem dX12_cost_24 : decode cX12_cost 24 = .ok (.iload_n 1, 1) := by decide +kernel
theorem dX12_cost_25 : decode cX12_cost 25 = .ok (.iaload, 1) := by decide +kernel
theorem dX12_cost_26 : decode cX12_cost 26 = .ok (.invokestatic 234, 3) := by decide +kernel
theorem dX12_cost_29 : decode cX12_cost 29 = .ok (.ireturn, 1) := by decide +kernel
theorem dX12_toss_0 : decode cX12_toss 0 = .ok (.aload_n 0, 1) := by decide +kernel
theorem dX12_toss_1 : decode cX12_toss 1 = .ok (.iload_n 1, 1) := by decide +kernel
theorem dX12_toss_2 : decode cX12_toss 2 = .ok (.invokevirtual 147, 3) := by decide +kernel
theorem dX12_toss_5 : decode cX12_toss 5 = .ok (.istore_n 2, 1) := by decide +kernel
theorem dX12_toss_6 : decode cX12_toss 6 = .ok (.iload_n 2, 1) := by decide +kernel
theorem dX12_toss_7 : decode cX12_toss 7 = .ok (.ifCond .eq 5, 3) := by decide +kernel
theorem dX12_toss_10 : decode cX12_toss 10 = .ok (.iload_n 2, 1) := by decide +kernel
theorem dX12_toss_11 : decode cX12_toss 11 = .ok (.ireturn, 1) := by decide +kernel
theorem dX12_toss_12 : decode cX12_toss 12 = .ok (.aload_n 0, 1) := by decide +kernel
theorem dX12_toss_13 : decode cX12_toss 13 = .ok (.getfield 34, 3) := by decide +kernel
theorem dX12_toss_16 : decode cX12_toss 16 = .ok (.iload_n 1, 1) := by decide +kernel
theorem dX12_toss_17 : decode cX12_toss 17 = .ok (.iaload, 1) := by decide +kernel
theorem dX12_toss_18 : decode cX12_toss 18 = .ok (.istore_n 3, 1) := by decide +kernel
theorem dX12_toss_19 : decode cX12_toss 19 = .ok (.aload_n 0, 1) := by decide +kernel
theorem dX12_toss_20 : decode cX12_toss 20 = .ok (.getfield 37, 3) := by decide +kernel
theorem dX12_toss_23 : decode cX12_toss 23 = .ok (.iload_n 1, 1) := by decide +kernel
theorem dX12_toss_24 : decode cX12_toss 24 = .ok (.iaload, 1) := by decide +kernel
theorem dX12_toss_25 : decode cX12_toss 25 = .ok (.istore 4, 2) := by decide +kernel
theorem dX12_toss_27 : decode cX12_toss 27 = .ok (.iload_n 3, 1) := by decide +kernel
theorem dX12_toss_28 : decode cX12_toss 28 = .ok (.bipush 6, 2) := by decide +kernel
theorem dX12_toss_30 : decode cX12_toss 30 = .ok (.if_icmp .eq 8, 3) := by decide +kernel
theorem dX12_toss_33 : decode cX12_toss 33 = .ok (.iload 4, 2) := by decide +kernel
theorem dX12_toss_35 : decode cX12_toss 35 = .ok (.ifCond .ne 6, 3) := by decide +kernel
theorem dX12_toss_38 : decode cX12_toss 38 = .ok (.bipush (-15), 2) := by decide +kernel
theorem dX12_toss_40 : decode cX12_toss 40 = .ok (.ireturn, 1) := by decide +kernel
theorem dX12_toss_41 : decode cX12_toss 41 = .ok (.iload_n 3, 1) := by decide +kernel
theorem dX12_toss_42 : decode cX12_toss 42 = .ok (.iconst 5, 1) := by decide +kernel
theorem dX12_toss_43 : decode cX12_toss 43 = .ok (.if_icmp .ne 16, 3) := by decide +kernel
theorem dX12_toss_46 : decode cX12_toss 46 = .ok (.sipush 200, 3) := by decide +kernel
theorem dX12_toss_49 : decode cX12_toss 49 = .ok (.iload_n 3, 1) := by decide +kernel
theorem dX12_toss_50 : decode cX12_toss 50 = .ok (.iload 4, 2) := by decide +kernel
theorem dX12_toss_52 : decode cX12_toss 52 = .ok (.invokestatic 234, 3) := by decide +kernel
theorem dX12_toss_55 : decode cX12_toss 55 = .ok (.iadd, 1) := by decide +kernel
theorem dX12_toss_56 : decode cX12_toss 56 = .ok (.goto 18, 3) := by decide +kernel
theorem dX12_toss_59 : decode cX12_toss 59 = .ok (.iload_n 3, 1) := by decide +kernel
theorem dX12_toss_60 : decode cX12_toss 60 = .ok (.iconst 2, 1) := by decide +kernel
theorem dX12_toss_61 : decode cX12_toss 61 = .ok (.if_icmp .ne 11, 3) := by decide +kernel
theorem dX12_toss_64 : decode cX12_toss 64 = .ok (.bipush 100, 2) := by decide +kernel
theorem dX12_toss_66 : decode cX12_toss 66 = .ok (.iload 4, 2) := by decide +kernel
theorem dX12_toss_68 : decode cX12_toss 68 = .ok (.iadd, 1) := by decide +kernel
theorem dX12_toss_69 : decode cX12_toss 69 = .ok (.goto 5, 3) := by decide +kernel
theorem dX12_toss_72 : decode cX12_toss 72 = .ok (.iload 4, 2) := by decide +kernel
theorem dX12_toss_74 : decode cX12_toss 74 = .ok (.ireturn, 1) := by decide +kernel
