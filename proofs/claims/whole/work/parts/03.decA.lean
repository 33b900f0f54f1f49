theorem dX0_init_0 : decode cX0_init 0 = .ok (.aload_n 0, 1) := by decide +kernel
theorem dX0_init_1 : decode cX0_init 1 = .ok (.invokespecial 3, 3) := by decide +kernel
theorem dX0_init_4 : decode cX0_init 4 = .ok (.aload_n 0, 1) := by decide +kernel
theorem dX0_init_5 : decode cX0_init 5 = .ok (.aload_n 1, 1) := by decide +kernel
theorem dX0_init_6 : decode cX0_init 6 = .ok (.putfield 9, 3) := by decide +kernel
theorem dX0_init_9 : decode cX0_init 9 = .ok (.aload_n 0, 1) := by decide +kernel
theorem dX0_init_10 : decode cX0_init 10 = .ok (.bipush 7, 2) := by decide +kernel
theorem dX0_init_12 : decode cX0_init 12 = .ok (.newarray .int, 2) := by decide +kernel
theorem dX0_init_14 : decode cX0_init 14 = .ok (.putfield 15, 3) := by decide +kernel
theorem dX0_init_17 : decode cX0_init 17 = .ok (.aload_n 0, 1) := by decide +kernel
theorem dX0_init_18 : decode cX0_init 18 = .ok (.bipush 7, 2) := by decide +kernel
theorem dX0_init_20 : decode cX0_init 20 = .ok (.newarray .int, 2) := by decide +kernel
theorem dX0_init_22 : decode cX0_init 22 = .ok (.putfield 19, 3) := by decide +kernel
theorem dX0_init_25 : decode cX0_init 25 = .ok (.aload_n 0, 1) := by decide +kernel
theorem dX0_init_26 : decode cX0_init 26 = .ok (.bipush 7, 2) := by decide +kernel
theorem dX0_init_28 : decode cX0_init 28 = .ok (.newarray .int, 2) := by decide +kernel
theorem dX0_init_30 : decode cX0_init 30 = .ok (.putfield 22, 3) := by decide +kernel
theorem dX0_init_33 : decode cX0_init 33 = .ok (.aload_n 0, 1) := by decide +kernel
theorem dX0_init_34 : decode cX0_init 34 = .ok (.bipush 7, 2) := by decide +kernel
theorem dX0_init_36 : decode cX0_init 36 = .ok (.newarray .int, 2) := by decide +kernel
theorem dX0_init_38 : decode cX0_init 38 = .ok (.putfield 25, 3) := by decide +kernel
theorem dX0_init_41 : decode cX0_init 41 = .ok (.aload_n 0, 1) := by decide +kernel
theorem dX0_init_42 : decode cX0_init 42 = .ok (.bipush 7, 2) := by decide +kernel
theorem dX0_init_44 : decode cX0_init 44 = .ok (.newarray .int, 2) := by decide +kernel
theorem dX0_init_46 : decode cX0_init 46 = .ok (.putfield 28, 3) := by decide +kernel
theorem dX0_init_49 : decode cX0_init 49 = .ok (.aload_n 0, 1) := by decide +kernel
theorem dX0_init_50 : decode cX0_init 50 = .ok (.bipush 7, 2) := by decide +kernel
theorem dX0_init_52 : decode cX0_init 52 = .ok (.newarray .int, 2) := by decide +kernel
theorem dX0_init_54 : decode cX0_init 54 = .ok (.putfield 31, 3) := by decide +kernel
theorem dX0_init_57 : decode cX0_init 57 = .ok (.aload_n 0, 1) := by decide +kernel
theorem dX0_init_58 : decode cX0_init 58 = .ok (.iconst 4, 1) := by decide +kernel
theorem dX0_init_59 : decode cX0_init 59 = .ok (.newarray .int, 2) := by decide +kernel
theorem dX0_init_61 : decode cX0_init 61 = .ok (.dup, 1) := by decide +kernel
theorem dX0_init_62 : decode cX0_init 62 = .ok (.iconst 0, 1) := by decide +kernel
theorem dX0_init_63 : decode cX0_init 63 = .ok (.bipush 50, 2) := by decide +kernel
theorem dX0_init_65 : decode cX0_init 65 = .ok (.iastore, 1) := by decide +kernel
theorem dX0_init_66 : decode cX0_init 66 = .ok (.dup, 1) := by decide +kernel
theorem dX0_init_67 : decode cX0_init 67 = .ok (.iconst 1, 1) := by decide +kernel
theorem dX0_init_68 : decode cX0_init 68 = .ok (.iconst 5, 1) := by decide +kernel
theorem dX0_init_69 : decode cX0_init 69 = .ok (.iastore, 1) := by decide +kernel
theorem dX0_init_70 : decode cX0_init 70 = .ok (.dup, 1) := by decide +kernel
theorem dX0_init_71 : decode cX0_init 71 = .ok (.iconst 2, 1) := by decide +kernel
theorem dX0_init_72 : decode cX0_init 72 = .ok (.iconst 0, 1) := by decide +kernel
theorem dX0_init_73 : decode cX0_init 73 = .ok (.iastore, 1) := by decide +kernel
theorem dX0_init_74 : decode cX0_init 74 = .ok (.dup, 1) := by decide +kernel
theorem dX0_init_75 : decode cX0_init 75 = .ok (.iconst 3, 1) := by decide +kernel
theorem dX0_init_76 : decode cX0_init 76 = .ok (.iconst 0, 1) := by decide +kernel
theorem dX0_init_77 : decode cX0_init 77 = .ok (.iastore, 1) := by decide +kernel
theorem dX0_init_78 : decode cX0_init 78 = .ok (.putfield 34, 3) := by decide +kernel
theorem dX0_init_81 : decode cX0_init 81 = .ok (.aload_n 0, 1) := by decide +kernel
theorem dX0_init_82 : decode cX0_init 82 = .ok (.iconst 0, 1) := by decide +kernel
theorem dX0_init_83 : decode cX0_init 83 = .ok (.putfield 37, 3) := by decide +kernel
theorem dX0_init_86 : decode cX0_init 86 = .ok (.aload_n 0, 1) := by decide +kernel
theorem dX0_init_87 : decode cX0_init 87 = .ok (.iconst 0, 1) := by decide +kernel
theorem dX0_init_88 : decode cX0_init 88 = .ok (.putfield 41, 3) := by decide +kernel
theorem dX0_init_91 : decode cX0_init 91 = .ok (.return_, 1) := by decide +kernel
theorem dX0_becomes_0 : decode cX0_becomes 0 = .ok (.aload_n 1, 1) := by decide +kernel
theorem dX0_becomes_1 : decode cX0_becomes 1 = .ok (.getfield 15, 3) := by decide +kernel
theorem dX0_becomes_4 : decode cX0_becomes 4 = .ok (.iconst 0, 1) := by decide +kernel
theorem dX0_becomes_5 : decode cX0_becomes 5 = .ok (.aload_n 0, 1) := by decide +kernel
theorem dX0_becomes_6 : decode cX0_becomes 6 = .ok (.getfield 15, 3) := by decide +kernel
theorem dX0_becomes_9 : decode cX0_becomes 9 = .ok (.iconst 0, 1) := by decide +kernel
theorem dX0_becomes_10 : decode cX0_becomes 10 = .ok (.bipush 7, 2) := by decide +kernel
theorem dX0_becomes_12 : decode cX0_becomes 12 = .ok (.invokestatic 44, 3) := by decide +kernel
theorem dX0_becomes_15 : decode cX0_becomes 15 = .ok (.aload_n 1, 1) := by decide +kernel
theorem dX0_becomes_16 : decode cX0_becomes 16 = .ok (.getfield 19, 3) := by decide +kernel
theorem dX0_becomes_19 : decode cX0_becomes 19 = .ok (.iconst 0, 1) := by decide +kernel
theorem dX0_becomes_20 : decode cX0_becomes 20 = .ok (.aload_n 0, 1) := by decide +kernel
theorem dX0_becomes_21 : decode cX0_becomes 21 = .ok (.getfield 19, 3) := by decide +kernel
theorem dX0_becomes_24 : decode cX0_becomes 24 = .ok (.iconst 0, 1) := by decide +kernel
theorem dX0_becomes_25 : decode cX0_becomes 25 = .ok (.bipush 7, 2) := by decide +kernel
theorem dX0_becomes_27 : decode cX0_becomes 27 = .ok (.invokestatic 44, 3) := by decide +kernel
theorem dX0_becomes_30 : decode cX0_becomes 30 = .ok (.aload_n 1, 1) := by decide +kernel
theorem dX0_becomes_31 : decode cX0_becomes 31 = .ok (.getfield 22, 3) := by decide +kernel
theorem dX0_becomes_34 : decode cX0_becomes 34 = .ok (.iconst 0, 1) := by decide +kernel
theorem dX0_becomes_35 : decode cX0_becomes 35 = .ok (.aload_n 0, 1) := by decide +kernel
theorem dX0_becomes_36 : decode cX0_becomes 36 = .ok (.getfield 22, 3) := by decide +kernel
theorem dX0_becomes_39 : decode cX0_becomes 39 = .ok (.iconst 0, 1) := by decide +kernel
theorem dX0_becomes_40 : decode cX0_becomes 40 = .ok (.bipush 7, 2) := by decide +kernel
theorem dX0_becomes_42 : decode cX0_becomes 42 = .ok (.invokestatic 44, 3) := by decide +kernel
theorem dX0_becomes_45 : decode cX0_becomes 45 = .ok (.aload_n 1, 1) := by decide +kernel
theorem dX0_becomes_46 : decode cX0_becomes 46 = .ok (.getfield 25, 3) := by decide +kernel
theorem dX0_becomes_49 : decode cX0_becomes 49 = .ok (.iconst 0, 1) := by decide +kernel
theorem dX0_becomes_50 : decode cX0_becomes 50 = .ok (.aload_n 0, 1) := by decide +kernel
theorem dX0_becomes_51 : decode cX0_becomes 51 = .ok (.getfield 25, 3) := by decide +kernel
theorem dX0_becomes_54 : decode cX0_becomes 54 = .ok (.iconst 0, 1) := by decide +kernel
theorem dX0_becomes_55 : decode cX0_becomes 55 = .ok (.bipush 7, 2) := by decide +kernel
theorem dX0_becomes_57 : decode cX0_becomes 57 = .ok (.invokestatic 44, 3) := by decide +kernel
theorem dX0_becomes_60 : decode cX0_becomes 60 = .ok (.aload_n 1, 1) := by decide +kernel
theorem dX0_becomes_61 : decode cX0_becomes 61 = .ok (.getfield 28, 3) := by decide +kernel
theorem dX0_becomes_64 : decode cX0_becomes 64 = .ok (.iconst 0, 1) := by decide +kernel
theorem dX0_becomes_65 : decode cX0_becomes 65 = .ok (.aload_n 0, 1) := by decide +kernel
theorem dX0_becomes_66 : decode cX0_becomes 66 = .ok (.getfield 28, 3) := by decide +kernel
theorem dX0_becomes_69 : decode cX0_becomes 69 = .ok (.iconst 0, 1) := by decide +kernel
theorem dX0_becomes_70 : decode cX0_becomes 70 = .ok (.bipush 7, 2) := by decide +kernel
theorem dX0_becomes_72 : decode cX0_becomes 72 = .ok (.invokestatic 44, 3) := by decide +kernel
theorem dX0_becomes_75 : decode cX0_becomes 75 = .ok (.aload_n 1, 1) := by decide +kernel
theorem dX0_becomes_76 : decode cX0_becomes 76 = .ok (.getfield 31, 3) := by decide +kernel
theorem dX0_becomes_79 : decode cX0_becomes 79 = .ok (.iconst 0, 1) := by decide +kernel
theorem dX0_becomes_80 : decode cX0_becomes 80 = .ok (.aload_n 0, 1) := by decide +kernel
theorem dX0_becomes_81 : decode cX0_becomes 81 = .ok (.getfield 31, 3) := by decide +kernel
theorem dX0_becomes_84 : decode cX0_becomes 84 = .ok (.iconst 0, 1) := by decide +kernel
theorem dX0_becomes_85 : decode cX0_becomes 85 = .ok (.bipush 7, 2) := by decide +kernel
theorem dX0_becomes_87 : decode cX0_becomes 87 = .ok (.invokestatic 44, 3) := by decide +kernel
theorem dX0_becomes_90 : decode cX0_becomes 90 = .ok (.aload_n 1, 1) := by decide +kernel
theorem dX0_becomes_91 : decode cX0_becomes 91 = .ok (.getfield 34, 3) := by decide +kernel
theorem dX0_becomes_94 : decode cX0_becomes 94 = .ok (.iconst 0, 1) := by decide +kernel
theorem dX0_becomes_95 : decode cX0_becomes 95 = .ok (.aload_n 0, 1) := by decide +kernel
theorem dX0_becomes_96 : decode cX0_becomes 96 = .ok (.getfield 34, 3) := by decide +kernel
theorem dX0_becomes_99 : decode cX0_becomes 99 = .ok (.iconst 0, 1) := by decide +kernel
theorem dX0_becomes_100 : decode cX0_becomes 100 = .ok (.aload_n 0, 1) := by decide +kernel
theorem dX0_becomes_101 : decode cX0_becomes 101 = .ok (.getfield 34, 3) := by decide +kernel
theorem dX0_becomes_104 : decode cX0_becomes 104 = .ok (.arraylength, 1) := by decide +kernel
theorem dX0_becomes_105 : decode cX0_becomes 105 = .ok (.invokestatic 44, 3) := by decide +kernel
theorem dX0_becomes_108 : decode cX0_becomes 108 = .ok (.aload_n 0, 1) := by decide +kernel
theorem dX0_becomes_109 : decode cX0_becomes 109 = .ok (.aload_n 1, 1) := by decide +kernel
theorem dX0_becomes_110 : decode cX0_becomes 110 = .ok (.getfield 37, 3) := by decide +kernel
theorem dX0_becomes_113 : decode cX0_becomes 113 = .ok (.putfield 37, 3) := by decide +kernel
theorem dX0_becomes_116 : decode cX0_becomes 116 = .ok (.aload_n 0, 1) := by decide +kernel
theorem dX0_becomes_117 : decode cX0_becomes 117 = .ok (.aload_n 1, 1) := by decide +kernel
theorem dX0_becomes_118 : decode cX0_becomes 118 = .ok (.getfield 41, 3) := by decide +kernel
theorem dX0_becomes_121 : decode cX0_becomes 121 = .ok (.putfield 41, 3) := by decide +kernel
theorem dX0_becomes_124 : decode cX0_becomes 124 = .ok (.return_, 1) := by decide +kernel
theorem dX0_has_0 : decode cX0_has 0 = .ok (.iload_n 1, 1) := by decide +kernel
theorem dX0_has_1 : decode cX0_has 1 = .ok (.ifCond .lt 15, 3) := by decide +kernel
theorem dX0_has_4 : decode cX0_has 4 = .ok (.iload_n 1, 1) := by decide +kernel
theorem dX0_has_5 : decode cX0_has 5 = .ok (.aload_n 0, 1) := by decide +kernel
theorem dX0_has_6 : decode cX0_has 6 = .ok (.getfield 37, 3) := by decide +kernel
theorem dX0_has_9 : decode cX0_has 9 = .ok (.if_icmp .ge 7, 3) := by decide +kernel
theorem dX0_has_12 : decode cX0_has 12 = .ok (.iconst 1, 1) := by decide +kernel
theorem dX0_has_13 : decode cX0_has 13 = .ok (.goto 4, 3) := by decide +kernel
theorem dX0_has_16 : decode cX0_has 16 = .ok (.iconst 0, 1) := by decide +kernel
theorem dX0_has_17 : decode cX0_has 17 = .ok (.ireturn, 1) := by decide +kernel
theorem dX0_takeIn_0 : decode cX0_takeIn 0 = .ok (.iload_n 1, 1) := by decide +kernel
theorem dX0_takeIn_1 : decode cX0_takeIn 1 = .ok (.iconst 0, 1) := by decide +kernel
theorem dX0_takeIn_2 : decode cX0_takeIn 2 = .ok (.bipush 7, 2) := by decide +kernel
theorem dX0_takeIn_4 : decode cX0_takeIn 4 = .ok (.invokestatic 50, 3) := by decide +kernel
theorem dX0_takeIn_7 : decode cX0_takeIn 7 = .ok (.ifCond .eq 31, 3) := by decide +kernel
theorem dX0_takeIn_10 : decode cX0_takeIn 10 = .ok (.iload_n 2, 1) := by decide +kernel
theorem dX0_takeIn_11 : decode cX0_takeIn 11 = .ok (.iconst 0, 1) := by decide +kernel
theorem dX0_takeIn_12 : decode cX0_takeIn 12 = .ok (.bipush 9, 2) := by decide +kernel
theorem dX0_takeIn_14 : decode cX0_takeIn 14 = .ok (.invokestatic 50, 3) := by decide +kernel
theorem dX0_takeIn_17 : decode cX0_takeIn 17 = .ok (.ifCond .eq 21, 3) := by decide +kernel
theorem dX0_takeIn_20 : decode cX0_takeIn 20 = .ok (.iload_n 3, 1) := by decide +kernel
theorem dX0_takeIn_21 : decode cX0_takeIn 21 = .ok (.invokestatic 54, 3) := by decide +kernel
theorem dX0_takeIn_24 : decode cX0_takeIn 24 = .ok (.ifCond .eq 14, 3) := by decide +kernel
theorem dX0_takeIn_27 : decode cX0_takeIn 27 = .ok (.iload 4, 2) := by decide +kernel
theorem dX0_takeIn_29 : decode cX0_takeIn 29 = .ok (.iconst 1, 1) := by decide +kernel
theorem dX0_takeIn_30 : decode cX0_takeIn 30 = .ok (.bipush 9, 2) := by decide +kernel
theorem dX0_takeIn_32 : decode cX0_takeIn 32 = .ok (.invokestatic 50, 3) := by decide +kernel
theorem dX0_takeIn_35 : decode cX0_takeIn 35 = .ok (.ifCond .ne 5, 3) := by decide +kernel
theorem dX0_takeIn_38 : decode cX0_takeIn 38 = .ok (.iconst (-1), 1) := by decide +kernel
theorem dX0_takeIn_39 : decode cX0_takeIn 39 = .ok (.ireturn, 1) := by decide +kernel
theorem dX0_takeIn_40 : decode cX0_takeIn 40 = .ok (.aload_n 0, 1) := by decide +kernel
theorem dX0_takeIn_41 : decode cX0_takeIn 41 = .ok (.getfield 37, 3) := by decide +kernel
theorem dX0_takeIn_44 : decode cX0_takeIn 44 = .ok (.bipush 7, 2) := by decide +kernel
theorem dX0_takeIn_46 : decode cX0_takeIn 46 = .ok (.if_icmp .lt 6, 3) := by decide +kernel
theorem dX0_takeIn_49 : decode cX0_takeIn 49 = .ok (.bipush (-2), 2) := by decide +kernel
theorem dX0_takeIn_51 : decode cX0_takeIn 51 = .ok (.ireturn, 1) := by decide +kernel
theorem dX0_takeIn_52 : decode cX0_takeIn 52 = .ok (.aload_n 0, 1) := by decide +kernel
theorem dX0_takeIn_53 : decode cX0_takeIn 53 = .ok (.getfield 15, 3) := by decide +kernel
theorem dX0_takeIn_56 : decode cX0_takeIn 56 = .ok (.aload_n 0, 1) := by decide +kernel
theorem dX0_takeIn_57 : decode cX0_takeIn 57 = .ok (.getfield 37, 3) := by decide +kernel
theorem dX0_takeIn_60 : decode cX0_takeIn 60 = .ok (.iload_n 1, 1) := by decide +kernel
theorem dX0_takeIn_61 : decode cX0_takeIn 61 = .ok (.iastore, 1) := by decide +kernel
theorem dX0_takeIn_62 : decode cX0_takeIn 62 = .ok (.aload_n 0, 1) := by decide +kernel
theorem dX0_takeIn_63 : decode cX0_takeIn 63 = .ok (.getfield 19, 3) := by decide +kernel
theorem dX0_takeIn_66 : decode cX0_takeIn 66 = .ok (.aload_n 0, 1) := by decide +kernel
theorem dX0_takeIn_67 : decode cX0_takeIn 67 = .ok (.getfield 37, 3) := by decide +kernel
theorem dX0_takeIn_70 : decode cX0_takeIn 70 = .ok (.iload_n 2, 1) := by decide +kernel
theorem dX0_takeIn_71 : decode cX0_takeIn 71 = .ok (.iastore, 1) := by decide +kernel
theorem dX0_takeIn_72 : decode cX0_takeIn 72 = .ok (.aload_n 0, 1) := by decide +kernel
theorem dX0_takeIn_73 : decode cX0_takeIn 73 = .ok (.getfield 22, 3) := by decide +kernel
theorem dX0_takeIn_76 : decode cX0_takeIn 76 = .ok (.aload_n 0, 1) := by decide +kernel
theorem dX0_takeIn_77 : decode cX0_takeIn 77 = .ok (.getfield 37, 3) := by decide +kernel
theorem dX0_takeIn_80 : decode cX0_takeIn 80 = .ok (.iload_n 3, 1) := by decide +kernel
theorem dX0_takeIn_81 : decode cX0_takeIn 81 = .ok (.iastore, 1) := by decide +kernel
theorem dX0_takeIn_82 : decode cX0_takeIn 82 = .ok (.aload_n 0, 1) := by decide +kernel
theorem dX0_takeIn_83 : decode cX0_takeIn 83 = .ok (.getfield 25, 3) := by decide +kernel
theorem dX0_takeIn_86 : decode cX0_takeIn 86 = .ok (.aload_n 0, 1) := by decide +kernel
theorem dX0_takeIn_87 : decode cX0_takeIn 87 = .ok (.getfield 37, 3) := by decide +kernel
theorem dX0_takeIn_90 : decode cX0_takeIn 90 = .ok (.iload 4, 2) := by decide +kernel
theorem dX0_takeIn_92 : decode cX0_takeIn 92 = .ok (.iastore, 1) := by decide +kernel
theorem dX0_takeIn_93 : decode cX0_takeIn 93 = .ok (.aload_n 0, 1) := by decide +kernel
theorem dX0_takeIn_94 : decode cX0_takeIn 94 = .ok (.getfield 28, 3) := by decide +kernel
theorem dX0_takeIn_97 : decode cX0_takeIn 97 = .ok (.aload_n 0, 1) := by decide +kernel
theorem dX0_takeIn_98 : decode cX0_takeIn 98 = .ok (.getfield 37, 3) := by decide +kernel
theorem dX0_takeIn_101 : decode cX0_takeIn 101 = .ok (.iconst 0, 1) := by decide +kernel
theorem dX0_takeIn_102 : decode cX0_takeIn 102 = .ok (.iastore, 1) := by decide +kernel
theorem dX0_takeIn_103 : decode cX0_takeIn 103 = .ok (.aload_n 0, 1) := by decide +kernel
theorem dX0_takeIn_104 : decode cX0_takeIn 104 = .ok (.getfield 31, 3) := by decide +kernel
theorem dX0_takeIn_107 : decode cX0_takeIn 107 = .ok (.aload_n 0, 1) := by decide +kernel
theorem dX0_takeIn_108 : decode cX0_takeIn 108 = .ok (.getfield 37, 3) := by decide +kernel
theorem dX0_takeIn_111 : decode cX0_takeIn 111 = .ok (.iconst 0, 1) := by decide +kernel
theorem dX0_takeIn_112 : decode cX0_takeIn 112 = .ok (.iastore, 1) := by decide +kernel
theorem dX0_takeIn_113 : decode cX0_takeIn 113 = .ok (.aload_n 0, 1) := by decide +kernel
theorem dX0_takeIn_114 : decode cX0_takeIn 114 = .ok (.dup, 1) := by decide +kernel
theorem dX0_takeIn_115 : decode cX0_takeIn 115 = .ok (.getfield 37, 3) := by decide +kernel
theorem dX0_takeIn_118 : decode cX0_takeIn 118 = .ok (.iconst 1, 1) := by decide +kernel
theorem dX0_takeIn_119 : decode cX0_takeIn 119 = .ok (.iadd, 1) := by decide +kernel
theorem dX0_takeIn_120 : decode cX0_takeIn 120 = .ok (.putfield 37, 3) := by decide +kernel
theorem dX0_takeIn_123 : decode cX0_takeIn 123 = .ok (.aload_n 0, 1) := by decide +kernel
theorem dX0_takeIn_124 : decode cX0_takeIn 124 = .ok (.getfield 37, 3) := by decide +kernel
theorem dX0_takeIn_127 : decode cX0_takeIn 127 = .ok (.iconst 1, 1) := by decide +kernel
theorem dX0_takeIn_128 : decode cX0_takeIn 128 = .ok (.isub, 1) := by decide +kernel
theorem dX0_takeIn_129 : decode cX0_takeIn 129 = .ok (.ireturn, 1) := by decide +kernel
theorem dX0_hold_0 : decode cX0_hold 0 = .ok (.aload_n 0, 1) := by decide +kernel
theorem dX0_hold_1 : decode cX0_hold 1 = .ok (.iload_n 1, 1) := by decide +kernel
theorem dX0_hold_2 : decode cX0_hold 2 = .ok (.invokevirtual 58, 3) := by decide +kernel
theorem dX0_hold_5 : decode cX0_hold 5 = .ok (.ifCond .ne 5, 3) := by decide +kernel
theorem dX0_hold_8 : decode cX0_hold 8 = .ok (.iconst (-1), 1) := by decide +kernel
theorem dX0_hold_9 : decode cX0_hold 9 = .ok (.ireturn, 1) := by decide +kernel
theorem dX0_hold_10 : decode cX0_hold 10 = .ok (.aload_n 0, 1) := by decide +kernel
theorem dX0_hold_11 : decode cX0_hold 11 = .ok (.getfield 28, 3) := by decide +kernel
theorem dX0_hold_14 : decode cX0_hold 14 = .ok (.iload_n 1, 1) := by decide +kernel
theorem dX0_hold_15 : decode cX0_hold 15 = .ok (.iaload, 1) := by decide +kernel
theorem dX0_hold_16 : decode cX0_hold 16 = .ok (.iconst 3, 1) := by decide +kernel
theorem dX0_hold_17 : decode cX0_hold 17 = .ok (.if_icmp .ne 6, 3) := by decide +kernel
theorem dX0_hold_20 : decode cX0_hold 20 = .ok (.bipush (-3), 2) := by decide +kernel
theorem dX0_hold_22 : decode cX0_hold 22 = .ok (.ireturn, 1) := by decide +kernel
theorem dX0_hold_23 : decode cX0_hold 23 = .ok (.aload_n 0, 1) := by decide +kernel
theorem dX0_hold_24 : decode cX0_hold 24 = .ok (.getfield 28, 3) := by decide +kernel
theorem dX0_hold_27 : decode cX0_hold 27 = .ok (.iload_n 1, 1) := by decide +kernel
theorem dX0_hold_28 : decode cX0_hold 28 = .ok (.iconst 1, 1) := by decide +kernel
theorem dX0_hold_29 : decode cX0_hold 29 = .ok (.iastore, 1) := by decide +kernel
theorem dX0_hold_30 : decode cX0_hold 30 = .ok (.aload_n 0, 1) := by decide +kernel
theorem dX0_hold_31 : decode cX0_hold 31 = .ok (.iload_n 1, 1) := by decide +kernel
theorem dX0_hold_32 : decode cX0_hold 32 = .ok (.invokevirtual 61, 3) := by decide +kernel
theorem dX0_hold_35 : decode cX0_hold 35 = .ok (.aload_n 0, 1) := by decide +kernel
theorem dX0_hold_36 : decode cX0_hold 36 = .ok (.getfield 19, 3) := by decide +kernel
theorem dX0_hold_39 : decode cX0_hold 39 = .ok (.iload_n 1, 1) := by decide +kernel
theorem dX0_hold_40 : decode cX0_hold 40 = .ok (.iaload, 1) := by decide +kernel
theorem dX0_hold_41 : decode cX0_hold 41 = .ok (.invokevirtual 65, 3) := by decide +kernel
theorem dX0_hold_44 : decode cX0_hold 44 = .ok (.ireturn, 1) := by decide +kernel
theorem dX0_wedge_0 : decode cX0_wedge 0 = .ok (.aload_n 0, 1) := by decide +kernel
theorem dX0_wedge_1 : decode cX0_wedge 1 = .ok (.iload_n 1, 1) := by decide +kernel
theorem dX0_wedge_2 : decode cX0_wedge 2 = .ok (.invokevirtual 58, 3) := by decide +kernel
theorem dX0_wedge_5 : decode cX0_wedge 5 = .ok (.ifCond .ne 5, 3) := by decide +kernel
theorem dX0_wedge_8 : decode cX0_wedge 8 = .ok (.iconst (-1), 1) := by decide +kernel
theorem dX0_wedge_9 : decode cX0_wedge 9 = .ok (.ireturn, 1) := by decide +kernel
theorem dX0_wedge_10 : decode cX0_wedge 10 = .ok (.aload_n 0, 1) := by decide +kernel
theorem dX0_wedge_11 : decode cX0_wedge 11 = .ok (.getfield 28, 3) := by decide +kernel
theorem dX0_wedge_14 : decode cX0_wedge 14 = .ok (.iload_n 1, 1) := by decide +kernel
theorem dX0_wedge_15 : decode cX0_wedge 15 = .ok (.iaload, 1) := by decide +kernel
theorem dX0_wedge_16 : decode cX0_wedge 16 = .ok (.iconst 3, 1) := by decide +kernel
theorem dX0_wedge_17 : decode cX0_wedge 17 = .ok (.if_icmp .ne 6, 3) := by decide +kernel
theorem dX0_wedge_20 : decode cX0_wedge 20 = .ok (.bipush (-3), 2) := by decide +kernel
theorem dX0_wedge_22 : decode cX0_wedge 22 = .ok (.ireturn, 1) := by decide +kernel
theorem dX0_wedge_23 : decode cX0_wedge 23 = .ok (.aload_n 0, 1) := by decide +kernel
theorem dX0_wedge_24 : decode cX0_wedge 24 = .ok (.getfield 28, 3) := by decide +kernel
theorem dX0_wedge_27 : decode cX0_wedge 27 = .ok (.iload_n 1, 1) := by decide +kernel
theorem dX0_wedge_28 : decode cX0_wedge 28 = .ok (.iaload, 1) := by decide +kernel
theorem dX0_wedge_29 : decode cX0_wedge 29 = .ok (.istore_n 2, 1) := by decide +kernel
theorem dX0_wedge_30 : decode cX0_wedge 30 = .ok (.aload_n 0, 1) := by decide +kernel
theorem dX0_wedge_31 : decode cX0_wedge 31 = .ok (.getfield 28, 3) := by decide +kernel
theorem dX0_wedge_34 : decode cX0_wedge 34 = .ok (.iload_n 1, 1) := by decide +kernel
theorem dX0_wedge_35 : decode cX0_wedge 35 = .ok (.iconst 2, 1) := by decide +kernel
theorem dX0_wedge_36 : decode cX0_wedge 36 = .ok (.iastore, 1) := by decide +kernel
theorem dX0_wedge_37 : decode cX0_wedge 37 = .ok (.aload_n 0, 1) := by decide +kernel
theorem dX0_wedge_38 : decode cX0_wedge 38 = .ok (.getfield 31, 3) := by decide +kernel
theorem dX0_wedge_41 : decode cX0_wedge 41 = .ok (.iload_n 1, 1) := by decide +kernel
theorem dX0_wedge_42 : decode cX0_wedge 42 = .ok (.iconst 0, 1) := by decide +kernel
theorem dX0_wedge_43 : decode cX0_wedge 43 = .ok (.iastore, 1) := by decide +kernel
theorem dX0_wedge_44 : decode cX0_wedge 44 = .ok (.iload_n 2, 1) := by decide +kernel
theorem dX0_wedge_45 : decode cX0_wedge 45 = .ok (.ireturn, 1) := by decide +kernel
theorem dX0_takeOut_0 : decode cX0_takeOut 0 = .ok (.aload_n 0, 1) := by decide +kernel
theorem dX0_takeOut_1 : decode cX0_takeOut 1 = .ok (.iload_n 1, 1) := by decide +kernel
theorem dX0_takeOut_2 : decode cX0_takeOut 2 = .ok (.invokevirtual 58, 3) := by decide +kernel
theorem dX0_takeOut_5 : decode cX0_takeOut 5 = .ok (.ifCond .ne 5, 3) := by decide +kernel
theorem dX0_takeOut_8 : decode cX0_takeOut 8 = .ok (.iconst (-1), 1) := by decide +kernel
theorem dX0_takeOut_9 : decode cX0_takeOut 9 = .ok (.ireturn, 1) := by decide +kernel
theorem dX0_takeOut_10 : decode cX0_takeOut 10 = .ok (.aload_n 0, 1) := by decide +kernel
theorem dX0_takeOut_11 : decode cX0_takeOut 11 = .ok (.getfield 28, 3) := by decide +kernel
theorem dX0_takeOut_14 : decode cX0_takeOut 14 = .ok (.iload_n 1, 1) := by decide +kernel
theorem dX0_takeOut_15 : decode cX0_takeOut 15 = .ok (.aload_n 0, 1) := by decide +kernel
theorem dX0_takeOut_16 : decode cX0_takeOut 16 = .ok (.getfield 28, 3) := by decide +kernel
theorem dX0_takeOut_19 : decode cX0_takeOut 19 = .ok (.iload_n 1, 1) := by decide +kernel
theorem dX0_takeOut_20 : decode cX0_takeOut 20 = .ok (.iaload, 1) := by decide +kernel
theorem dX0_takeOut_21 : decode cX0_takeOut 21 = .ok (.iconst 3, 1) := by decide +kernel
theorem dX0_takeOut_22 : decode cX0_takeOut 22 = .ok (.if_icmp .ne 7, 3) := by decide +kernel
theorem dX0_takeOut_25 : decode cX0_takeOut 25 = .ok (.iconst 0, 1) := by decide +kernel
theorem dX0_takeOut_26 : decode cX0_takeOut 26 = .ok (.goto 4, 3) := by decide +kernel
theorem dX0_takeOut_29 : decode cX0_takeOut 29 = .ok (.iconst 3, 1) := by decide +kernel
theorem dX0_takeOut_30 : decode cX0_takeOut 30 = .ok (.iastore, 1) := by decide +kernel
theorem dX0_takeOut_31 : decode cX0_takeOut 31 = .ok (.aload_n 0, 1) := by decide +kernel
theorem dX0_takeOut_32 : decode cX0_takeOut 32 = .ok (.getfield 28, 3) := by decide +kernel
theorem dX0_takeOut_35 : decode cX0_takeOut 35 = .ok (.iload_n 1, 1) := by decide +kernel
theorem dX0_takeOut_36 : decode cX0_takeOut 36 = .ok (.iaload, 1) := by decide +kernel
theorem dX0_takeOut_37 : decode cX0_takeOut 37 = .ok (.ireturn, 1) := by decide +kernel
theorem dX0_screw_0 : decode cX0_screw 0 = .ok (.aload_n 0, 1) := by decide +kernel
theorem dX0_screw_1 : decode cX0_screw 1 = .ok (.iload_n 1, 1) := by decide +kernel
theorem dX0_screw_2 : decode cX0_screw 2 = .ok (.invokevirtual 58, 3) := by decide +kernel
theorem dX0_screw_5 : decode cX0_screw 5 = .ok (.ifCond .ne 5, 3) := by decide +kernel
theorem dX0_screw_8 : decode cX0_screw 8 = .ok (.iconst (-1), 1) := by decide +kernel
theorem dX0_screw_9 : decode cX0_screw 9 = .ok (.ireturn, 1) := by decide +kernel
theorem dX0_screw_10 : decode cX0_screw 10 = .ok (.aload_n 0, 1) := by decide +kernel
theorem dX0_screw_11 : decode cX0_screw 11 = .ok (.getfield 19, 3) := by decide +kernel
theorem dX0_screw_14 : decode cX0_screw 14 = .ok (.iload_n 1, 1) := by decide +kernel
theorem dX0_screw_15 : decode cX0_screw 15 = .ok (.iconst 0, 1) := by decide +kernel
theorem dX0_screw_16 : decode cX0_screw 16 = .ok (.iastore, 1) := by decide +kernel
theorem dX0_screw_17 : decode cX0_screw 17 = .ok (.iload_n 1, 1) := by decide +kernel
theorem dX0_screw_18 : decode cX0_screw 18 = .ok (.iconst 1, 1) := by decide +kernel
theorem dX0_screw_19 : decode cX0_screw 19 = .ok (.iadd, 1) := by decide +kernel
theorem dX0_screw_20 : decode cX0_screw 20 = .ok (.aload_n 0, 1) := by decide +kernel
theorem dX0_screw_21 : decode cX0_screw 21 = .ok (.getfield 37, 3) := by decide +kernel
theorem dX0_screw_24 : decode cX0_screw 24 = .ok (.if_icmp .ge 9, 3) := by decide +kernel
theorem dX0_screw_27 : decode cX0_screw 27 = .ok (.iload_n 1, 1) := by decide +kernel
theorem dX0_screw_28 : decode cX0_screw 28 = .ok (.iconst 1, 1) := by decide +kernel
theorem dX0_screw_29 : decode cX0_screw 29 = .ok (.iadd, 1) := by decide +kernel
theorem dX0_screw_30 : decode cX0_screw 30 = .ok (.goto 4, 3) := by decide +kernel
theorem dX0_screw_33 : decode cX0_screw 33 = .ok (.iconst 0, 1) := by decide +kernel
theorem dX0_screw_34 : decode cX0_screw 34 = .ok (.istore_n 2, 1) := by decide +kernel
theorem dX0_screw_35 : decode cX0_screw 35 = .ok (.iload_n 2, 1) := by decide +kernel
theorem dX0_screw_36 : decode cX0_screw 36 = .ok (.iload_n 1, 1) := by decide +kernel
theorem dX0_screw_37 : decode cX0_screw 37 = .ok (.if_icmp .eq 29, 3) := by decide +kernel
theorem dX0_screw_40 : decode cX0_screw 40 = .ok (.aload_n 0, 1) := by decide +kernel
theorem dX0_screw_41 : decode cX0_screw 41 = .ok (.getfield 19, 3) := by decide +kernel
theorem dX0_screw_44 : decode cX0_screw 44 = .ok (.iload_n 2, 1) := by decide +kernel
theorem dX0_screw_45 : decode cX0_screw 45 = .ok (.bipush 9, 2) := by decide +kernel
theorem dX0_screw_47 : decode cX0_screw 47 = .ok (.aload_n 0, 1) := by decide +kernel
theorem dX0_screw_48 : decode cX0_screw 48 = .ok (.getfield 19, 3) := by decide +kernel
theorem dX0_screw_51 : decode cX0_screw 51 = .ok (.iload_n 2, 1) := by decide +kernel
theorem dX0_screw_52 : decode cX0_screw 52 = .ok (.iaload, 1) := by decide +kernel
theorem dX0_screw_53 : decode cX0_screw 53 = .ok (.aload_n 0, 1) := by decide +kernel
theorem dX0_screw_54 : decode cX0_screw 54 = .ok (.iload_n 2, 1) := by decide +kernel
theorem dX0_screw_55 : decode cX0_screw 55 = .ok (.invokevirtual 61, 3) := by decide +kernel
theorem dX0_screw_58 : decode cX0_screw 58 = .ok (.invokevirtual 71, 3) := by decide +kernel
theorem dX0_screw_61 : decode cX0_screw 61 = .ok (.iadd, 1) := by decide +kernel
theorem dX0_screw_62 : decode cX0_screw 62 = .ok (.invokestatic 75, 3) := by decide +kernel
theorem dX0_screw_65 : decode cX0_screw 65 = .ok (.iastore, 1) := by decide +kernel
theorem dX0_screw_66 : decode cX0_screw 66 = .ok (.aload_n 0, 1) := by decide +kernel
theorem dX0_screw_67 : decode cX0_screw 67 = .ok (.getfield 19, 3) := by decide +kernel
theorem dX0_screw_70 : decode cX0_screw 70 = .ok (.iload_n 2, 1) := by decide +kernel
theorem dX0_screw_71 : decode cX0_screw 71 = .ok (.iaload, 1) := by decide +kernel
theorem dX0_screw_72 : decode cX0_screw 72 = .ok (.ireturn, 1) := by decide +kernel
theorem dX0_change_0 : decode cX0_change 0 = .ok (.iload_n 1, 1) := by decide +kernel
theorem dX0_change_1 : decode cX0_change 1 = .ok (.iconst 0, 1) := by decide +kernel
theorem dX0_change_2 : decode cX0_change 2 = .ok (.iconst 3, 1) := by decide +kernel
theorem dX0_change_3 : decode cX0_change 3 = .ok (.invokestatic 50, 3) := by decide +kernel
theorem dX0_change_6 : decode cX0_change 6 = .ok (.ifCond .eq 16, 3) := by decide +kernel
theorem dX0_change_9 : decode cX0_change 9 = .ok (.iload_n 2, 1) := by decide +kernel
theorem dX0_change_10 : decode cX0_change 10 = .ok (.iconst 0, 1) := by decide +kernel
theorem dX0_change_11 : decode cX0_change 11 = .ok (.getstatic 81, 3) := by decide +kernel
theorem dX0_change_14 : decode cX0_change 14 = .ok (.iload_n 1, 1) := by decide +kernel
theorem dX0_change_15 : decode cX0_change 15 = .ok (.iaload, 1) := by decide +kernel
theorem dX0_change_16 : decode cX0_change 16 = .ok (.invokestatic 50, 3) := by decide +kernel
theorem dX0_change_19 : decode cX0_change 19 = .ok (.ifCond .ne 5, 3) := by decide +kernel
theorem dX0_change_22 : decode cX0_change 22 = .ok (.iconst (-1), 1) := by decide +kernel
theorem dX0_change_23 : decode cX0_change 23 = .ok (.ireturn, 1) := by decide +kernel
theorem dX0_change_24 : decode cX0_change 24 = .ok (.aload_n 0, 1) := by decide +kernel
theorem dX0_change_25 : decode cX0_change 25 = .ok (.getfield 34, 3) := by decide +kernel
theorem dX0_change_28 : decode cX0_change 28 = .ok (.iload_n 1, 1) := by decide +kernel
theorem dX0_change_29 : decode cX0_change 29 = .ok (.iaload, 1) := by decide +kernel
theorem dX0_change_30 : decode cX0_change 30 = .ok (.istore_n 3, 1) := by decide +kernel
theorem dX0_change_31 : decode cX0_change 31 = .ok (.aload_n 0, 1) := by decide +kernel
theorem dX0_change_32 : decode cX0_change 32 = .ok (.getfield 34, 3) := by decide +kernel
theorem dX0_change_35 : decode cX0_change 35 = .ok (.iload_n 1, 1) := by decide +kernel
theorem dX0_change_36 : decode cX0_change 36 = .ok (.iload_n 2, 1) := by decide +kernel
theorem dX0_change_37 : decode cX0_change 37 = .ok (.iastore, 1) := by decide +kernel
theorem dX0_change_38 : decode cX0_change 38 = .ok (.iload_n 3, 1) := by decide +kernel
theorem dX0_change_39 : decode cX0_change 39 = .ok (.ireturn, 1) := by decide +kernel
theorem dX0_drive_0 : decode cX0_drive 0 = .ok (.iload_n 1, 1) := by decide +kernel
theorem dX0_drive_1 : decode cX0_drive 1 = .ok (.iconst 1, 1) := by decide +kernel
theorem dX0_drive_2 : decode cX0_drive 2 = .ok (.bipush 99, 2) := by decide +kernel
theorem dX0_drive_4 : decode cX0_drive 4 = .ok (.invokestatic 50, 3) := by decide +kernel
theorem dX0_drive_7 : decode cX0_drive 7 = .ok (.ifCond .ne 5, 3) := by decide +kernel
theorem dX0_drive_10 : decode cX0_drive 10 = .ok (.iconst (-1), 1) := by decide +kernel
theorem dX0_drive_11 : decode cX0_drive 11 = .ok (.ireturn, 1) := by decide +kernel
theorem dX0_drive_12 : decode cX0_drive 12 = .ok (.aload_n 0, 1) := by decide +kernel
theorem dX0_drive_13 : decode cX0_drive 13 = .ok (.getfield 41, 3) := by decide +kernel
theorem dX0_drive_16 : decode cX0_drive 16 = .ok (.iload_n 1, 1) := by decide +kernel
theorem dX0_drive_17 : decode cX0_drive 17 = .ok (.iadd, 1) := by decide +kernel
theorem dX0_drive_18 : decode cX0_drive 18 = .ok (.sipush 9999, 3) := by decide +kernel
theorem dX0_drive_21 : decode cX0_drive 21 = .ok (.if_icmp .le 6, 3) := by decide +kernel
theorem dX0_drive_24 : decode cX0_drive 24 = .ok (.bipush (-3), 2) := by decide +kernel
theorem dX0_drive_26 : decode cX0_drive 26 = .ok (.ireturn, 1) := by decide +kernel
theorem dX0_drive_27 : decode cX0_drive 27 = .ok (.aload_n 0, 1) := by decide +kernel
theorem dX0_drive_28 : decode cX0_drive 28 = .ok (.dup, 1) := by decide +kernel
theorem dX0_drive_29 : decode cX0_drive 29 = .ok (.getfield 41, 3) := by decide +kernel
theorem dX0_drive_32 : decode cX0_drive 32 = .ok (.iload_n 1, 1) := by decide +kernel
theorem dX0_drive_33 : decode cX0_drive 33 = .ok (.iadd, 1) := by decide +kernel
theorem dX0_drive_34 : decode cX0_drive 34 = .ok (.putfield 41, 3) := by decide +kernel
theorem dX0_drive_37 : decode cX0_drive 37 = .ok (.aload_n 0, 1) := by decide +kernel
theorem dX0_drive_38 : decode cX0_drive 38 = .ok (.invokevirtual 84, 3) := by decide +kernel
theorem dX0_drive_41 : decode cX0_drive 41 = .ok (.iconst 0, 1) := by decide +kernel
theorem dX0_drive_42 : decode cX0_drive 42 = .ok (.ireturn, 1) := by decide +kernel
theorem dX0_endDrive_0 : decode cX0_endDrive 0 = .ok (.iconst 0, 1) := by decide +kernel
theorem dX0_endDrive_1 : decode cX0_endDrive 1 = .ok (.istore_n 1, 1) := by decide +kernel
theorem dX0_endDrive_2 : decode cX0_endDrive 2 = .ok (.iload_n 1, 1) := by decide +kernel
theorem dX0_endDrive_3 : decode cX0_endDrive 3 = .ok (.aload_n 0, 1) := by decide +kernel
theorem dX0_endDrive_4 : decode cX0_endDrive 4 = .ok (.getfield 37, 3) := by decide +kernel
theorem dX0_endDrive_7 : decode cX0_endDrive 7 = .ok (.if_icmp .ge 70, 3) := by decide +kernel
theorem dX0_endDrive_10 : decode cX0_endDrive 10 = .ok (.aload_n 0, 1) := by decide +kernel
theorem dX0_endDrive_11 : decode cX0_endDrive 11 = .ok (.getfield 28, 3) := by decide +kernel
theorem dX0_endDrive_14 : decode cX0_endDrive 14 = .ok (.iload_n 1, 1) := by decide +kernel
theorem dX0_endDrive_15 : decode cX0_endDrive 15 = .ok (.iaload, 1) := by decide +kernel
theorem dX0_endDrive_16 : decode cX0_endDrive 16 = .ok (.iconst 1, 1) := by decide +kernel
theorem dX0_endDrive_17 : decode cX0_endDrive 17 = .ok (.if_icmp .ne 13, 3) := by decide +kernel
theorem dX0_endDrive_20 : decode cX0_endDrive 20 = .ok (.aload_n 0, 1) := by decide +kernel
theorem dX0_endDrive_21 : decode cX0_endDrive 21 = .ok (.getfield 28, 3) := by decide +kernel
theorem dX0_endDrive_24 : decode cX0_endDrive 24 = .ok (.iload_n 1, 1) := by decide +kernel
theorem dX0_endDrive_25 : decode cX0_endDrive 25 = .ok (.iconst 0, 1) := by decide +kernel
theorem dX0_endDrive_26 : decode cX0_endDrive 26 = .ok (.iastore, 1) := by decide +kernel
theorem dX0_endDrive_27 : decode cX0_endDrive 27 = .ok (.goto 44, 3) := by decide +kernel
theorem dX0_endDrive_30 : decode cX0_endDrive 30 = .ok (.aload_n 0, 1) := by decide +kernel
theorem dX0_endDrive_31 : decode cX0_endDrive 31 = .ok (.getfield 28, 3) := by decide +kernel
theorem dX0_endDrive_34 : decode cX0_endDrive 34 = .ok (.iload_n 1, 1) := by decide +kernel
theorem dX0_endDrive_35 : decode cX0_endDrive 35 = .ok (.iaload, 1) := by decide +kernel
theorem dX0_endDrive_36 : decode cX0_endDrive 36 = .ok (.iconst 2, 1) := by decide +kernel
theorem dX0_endDrive_37 : decode cX0_endDrive 37 = .ok (.if_icmp .ne 34, 3) := by decide +kernel
theorem dX0_endDrive_40 : decode cX0_endDrive 40 = .ok (.aload_n 0, 1) := by decide +kernel
theorem dX0_endDrive_41 : decode cX0_endDrive 41 = .ok (.getfield 31, 3) := by decide +kernel
theorem dX0_endDrive_44 : decode cX0_endDrive 44 = .ok (.iload_n 1, 1) := by decide +kernel
theorem dX0_endDrive_45 : decode cX0_endDrive 45 = .ok (.dup2, 1) := by decide +kernel
theorem dX0_endDrive_46 : decode cX0_endDrive 46 = .ok (.iaload, 1) := by decide +kernel
theorem dX0_endDrive_47 : decode cX0_endDrive 47 = .ok (.iconst 1, 1) := by decide +kernel
theorem dX0_endDrive_48 : decode cX0_endDrive 48 = .ok (.iadd, 1) := by decide +kernel
theorem dX0_endDrive_49 : decode cX0_endDrive 49 = .ok (.iastore, 1) := by decide +kernel
theorem dX0_endDrive_50 : decode cX0_endDrive 50 = .ok (.aload_n 0, 1) := by decide +kernel
theorem dX0_endDrive_51 : decode cX0_endDrive 51 = .ok (.getfield 28, 3) := by decide +kernel
theorem dX0_endDrive_54 : decode cX0_endDrive 54 = .ok (.iload_n 1, 1) := by decide +kernel
theorem dX0_endDrive_55 : decode cX0_endDrive 55 = .ok (.aload_n 0, 1) := by decide +kernel
theorem dX0_endDrive_56 : decode cX0_endDrive 56 = .ok (.getfield 31, 3) := by decide +kernel
theorem dX0_endDrive_59 : decode cX0_endDrive 59 = .ok (.iload_n 1, 1) := by decide +kernel
theorem dX0_endDrive_60 : decode cX0_endDrive 60 = .ok (.iaload, 1) := by decide +kernel
theorem dX0_endDrive_61 : decode cX0_endDrive 61 = .ok (.iconst 2, 1) := by decide +kernel
theorem dX0_endDrive_62 : decode cX0_endDrive 62 = .ok (.if_icmp .lt 7, 3) := by decide +kernel
theorem dX0_endDrive_65 : decode cX0_endDrive 65 = .ok (.iconst 0, 1) := by decide +kernel
theorem dX0_endDrive_66 : decode cX0_endDrive 66 = .ok (.goto 4, 3) := by decide +kernel
theorem dX0_endDrive_69 : decode cX0_endDrive 69 = .ok (.iconst 2, 1) := by decide +kernel
theorem dX0_endDrive_70 : decode cX0_endDrive 70 = .ok (.iastore, 1) := by decide +kernel
theorem dX0_endDrive_71 : decode cX0_endDrive 71 = .ok (.iinc 1 1, 3) := by decide +kernel
theorem dX0_endDrive_74 : decode cX0_endDrive 74 = .ok (.goto (-72), 3) := by decide +kernel
theorem dX0_endDrive_77 : decode cX0_endDrive 77 = .ok (.return_, 1) := by decide +kernel
theorem dX0_takeStates_0 : decode cX0_takeStates 0 = .ok (.iconst 0, 1) := by decide +kernel
theorem dX0_takeStates_1 : decode cX0_takeStates 1 = .ok (.istore_n 2, 1) := by decide +kernel
theorem dX0_takeStates_2 : decode cX0_takeStates 2 = .ok (.iload_n 2, 1) := by decide +kernel
theorem dX0_takeStates_3 : decode cX0_takeStates 3 = .ok (.aload_n 0, 1) := by decide +kernel
theorem dX0_takeStates_4 : decode cX0_takeStates 4 = .ok (.getfield 37, 3) := by decide +kernel
theorem dX0_takeStates_7 : decode cX0_takeStates 7 = .ok (.if_icmp .ge 37, 3) := by decide +kernel
theorem dX0_takeStates_10 : decode cX0_takeStates 10 = .ok (.iload_n 2, 1) := by decide +kernel
theorem dX0_takeStates_11 : decode cX0_takeStates 11 = .ok (.aload_n 1, 1) := by decide +kernel
theorem dX0_takeStates_12 : decode cX0_takeStates 12 = .ok (.getfield 87, 3) := by decide +kernel
theorem dX0_takeStates_15 : decode cX0_takeStates 15 = .ok (.if_icmp .ge 29, 3) := by decide +kernel
theorem dX0_takeStates_18 : decode cX0_takeStates 18 = .ok (.aload_n 1, 1) := by decide +kernel
theorem dX0_takeStates_19 : decode cX0_takeStates 19 = .ok (.iload_n 2, 1) := by decide +kernel
theorem dX0_takeStates_20 : decode cX0_takeStates 20 = .ok (.invokevirtual 92, 3) := by decide +kernel
theorem dX0_takeStates_23 : decode cX0_takeStates 23 = .ok (.ifCond .ne 15, 3) := by decide +kernel
theorem dX0_takeStates_26 : decode cX0_takeStates 26 = .ok (.aload_n 0, 1) := by decide +kernel
theorem dX0_takeStates_27 : decode cX0_takeStates 27 = .ok (.getfield 28, 3) := by decide +kernel
theorem dX0_takeStates_30 : decode cX0_takeStates 30 = .ok (.iload_n 2, 1) := by decide +kernel
theorem dX0_takeStates_31 : decode cX0_takeStates 31 = .ok (.aload_n 1, 1) := by decide +kernel
theorem dX0_takeStates_32 : decode cX0_takeStates 32 = .ok (.getfield 95, 3) := by decide +kernel
theorem dX0_takeStates_35 : decode cX0_takeStates 35 = .ok (.iload_n 2, 1) := by decide +kernel
theorem dX0_takeStates_36 : decode cX0_takeStates 36 = .ok (.iaload, 1) := by decide +kernel
theorem dX0_takeStates_37 : decode cX0_takeStates 37 = .ok (.iastore, 1) := by decide +kernel
theorem dX0_takeStates_38 : decode cX0_takeStates 38 = .ok (.iinc 2 1, 3) := by decide +kernel
theorem dX0_takeStates_41 : decode cX0_takeStates 41 = .ok (.goto (-39), 3) := by decide +kernel
theorem dX0_takeStates_44 : decode cX0_takeStates 44 = .ok (.return_, 1) := by decide +kernel
theorem dX0_kindOf_0 : decode cX0_kindOf 0 = .ok (.aload_n 0, 1) := by decide +kernel
theorem dX0_kindOf_1 : decode cX0_kindOf 1 = .ok (.getfield 9, 3) := by decide +kernel
theorem dX0_kindOf_4 : decode cX0_kindOf 4 = .ok (.aload_n 0, 1) := by decide +kernel
theorem dX0_kindOf_5 : decode cX0_kindOf 5 = .ok (.iload_n 1, 1) := by decide +kernel
theorem dX0_kindOf_6 : decode cX0_kindOf 6 = .ok (.invokevirtual 58, 3) := by decide +kernel
theorem dX0_kindOf_9 : decode cX0_kindOf 9 = .ok (.ifCond .eq 12, 3) := by decide +kernel
theorem dX0_kindOf_12 : decode cX0_kindOf 12 = .ok (.aload_n 0, 1) := by decide +kernel
theorem dX0_kindOf_13 : decode cX0_kindOf 13 = .ok (.getfield 15, 3) := by decide +kernel
theorem dX0_kindOf_16 : decode cX0_kindOf 16 = .ok (.iload_n 1, 1) := by decide +kernel
theorem dX0_kindOf_17 : decode cX0_kindOf 17 = .ok (.iaload, 1) := by decide +kernel
theorem dX0_kindOf_18 : decode cX0_kindOf 18 = .ok (.goto 4, 3) := by decide +kernel
theorem dX0_kindOf_21 : decode cX0_kindOf 21 = .ok (.iconst 0, 1) := by decide +kernel
theorem dX0_kindOf_22 : decode cX0_kindOf 22 = .ok (.aaload, 1) := by decide +kernel
theorem dX0_kindOf_23 : decode cX0_kindOf 23 = .ok (.areturn, 1) := by decide +kernel
theorem dX0_loudNow_0 : decode cX0_loudNow 0 = .ok (.aload_n 0, 1) := by decide +kernel
theorem dX0_loudNow_1 : decode cX0_loudNow 1 = .ok (.iload_n 1, 1) := by decide +kernel
theorem dX0_loudNow_2 : decode cX0_loudNow 2 = .ok (.invokevirtual 58, 3) := by decide +kernel
theorem dX0_loudNow_5 : decode cX0_loudNow 5 = .ok (.ifCond .eq 38, 3) := by decide +kernel
theorem dX0_loudNow_8 : decode cX0_loudNow 8 = .ok (.aload_n 0, 1) := by decide +kernel
theorem dX0_loudNow_9 : decode cX0_loudNow 9 = .ok (.iload_n 1, 1) := by decide +kernel
theorem dX0_loudNow_10 : decode cX0_loudNow 10 = .ok (.invokevirtual 61, 3) := by decide +kernel
theorem dX0_loudNow_13 : decode cX0_loudNow 13 = .ok (.aload_n 0, 1) := by decide +kernel
theorem dX0_loudNow_14 : decode cX0_loudNow 14 = .ok (.getfield 19, 3) := by decide +kernel
theorem dX0_loudNow_17 : decode cX0_loudNow 17 = .ok (.iload_n 1, 1) := by decide +kernel
theorem dX0_loudNow_18 : decode cX0_loudNow 18 = .ok (.iaload, 1) := by decide +kernel
theorem dX0_loudNow_19 : decode cX0_loudNow 19 = .ok (.aload_n 0, 1) := by decide +kernel
theorem dX0_loudNow_20 : decode cX0_loudNow 20 = .ok (.getfield 34, 3) := by decide +kernel
theorem dX0_loudNow_23 : decode cX0_loudNow 23 = .ok (.iconst 0, 1) := by decide +kernel
theorem dX0_loudNow_24 : decode cX0_loudNow 24 = .ok (.iaload, 1) := by decide +kernel
theorem dX0_loudNow_25 : decode cX0_loudNow 25 = .ok (.aload_n 0, 1) := by decide +kernel
theorem dX0_loudNow_26 : decode cX0_loudNow 26 = .ok (.getfield 34, 3) := by decide +kernel
theorem dX0_loudNow_29 : decode cX0_loudNow 29 = .ok (.iconst 1, 1) := by decide +kernel
theorem dX0_loudNow_30 : decode cX0_loudNow 30 = .ok (.iaload, 1) := by decide +kernel
theorem dX0_loudNow_31 : decode cX0_loudNow 31 = .ok (.aload_n 0, 1) := by decide +kernel
theorem dX0_loudNow_32 : decode cX0_loudNow 32 = .ok (.getfield 34, 3) := by decide +kernel
theorem dX0_loudNow_35 : decode cX0_loudNow 35 = .ok (.iconst 2, 1) := by decide +kernel
theorem dX0_loudNow_36 : decode cX0_loudNow 36 = .ok (.iaload, 1) := by decide +kernel
theorem dX0_loudNow_37 : decode cX0_loudNow 37 = .ok (.invokevirtual 98, 3) := by decide +kernel
theorem dX0_loudNow_40 : decode cX0_loudNow 40 = .ok (.goto 4, 3) := by decide +kernel
theorem dX0_loudNow_43 : decode cX0_loudNow 43 = .ok (.iconst 0, 1) := by decide +kernel
theorem dX0_loudNow_44 : decode cX0_loudNow 44 = .ok (.ireturn, 1) := by decide +kernel
theorem dX0_seconds_0 : decode cX0_seconds 0 = .ok (.aload_n 0, 1) := by decide +kernel
theorem dX0_seconds_1 : decode cX0_seconds 1 = .ok (.iload_n 1, 1) := by decide +kernel
theorem dX0_seconds_2 : decode cX0_seconds 2 = .ok (.invokevirtual 58, 3) := by decide +kernel
theorem dX0_seconds_5 : decode cX0_seconds 5 = .ok (.ifCond .eq 20, 3) := by decide +kernel
theorem dX0_seconds_8 : decode cX0_seconds 8 = .ok (.aload_n 0, 1) := by decide +kernel
theorem dX0_seconds_9 : decode cX0_seconds 9 = .ok (.iload_n 1, 1) := by decide +kernel
theorem dX0_seconds_10 : decode cX0_seconds 10 = .ok (.invokevirtual 61, 3) := by decide +kernel
theorem dX0_seconds_13 : decode cX0_seconds 13 = .ok (.aload_n 0, 1) := by decide +kernel
theorem dX0_seconds_14 : decode cX0_seconds 14 = .ok (.getfield 19, 3) := by decide +kernel
theorem dX0_seconds_17 : decode cX0_seconds 17 = .ok (.iload_n 1, 1) := by decide +kernel
theorem dX0_seconds_18 : decode cX0_seconds 18 = .ok (.iaload, 1) := by decide +kernel
theorem dX0_seconds_19 : decode cX0_seconds 19 = .ok (.invokevirtual 65, 3) := by decide +kernel
theorem dX0_seconds_22 : decode cX0_seconds 22 = .ok (.goto 4, 3) := by decide +kernel
theorem dX0_seconds_25 : decode cX0_seconds 25 = .ok (.iconst 0, 1) := by decide +kernel
theorem dX0_seconds_26 : decode cX0_seconds 26 = .ok (.ireturn, 1) := by decide +kernel
theorem dX0_loosening_0 : decode cX0_loosening 0 = .ok (.aload_n 0, 1) := by decide +kernel
theorem dX0_loosening_1 : decode cX0_loosening 1 = .ok (.iload_n 1, 1) := by decide +kernel
theorem dX0_loosening_2 : decode cX0_loosening 2 = .ok (.invokevirtual 61, 3) := by decide +kernel
theorem dX0_loosening_5 : decode cX0_loosening 5 = .ok (.invokevirtual 71, 3) := by decide +kernel
theorem dX0_loosening_8 : decode cX0_loosening 8 = .ok (.ireturn, 1) := by decide +kernel
theorem dX0_soundThere_0 : decode cX0_soundThere 0 = .ok (.aload_n 0, 1) := by decide +kernel
theorem dX0_soundThere_1 : decode cX0_soundThere 1 = .ok (.iload_n 1, 1) := by decide +kernel
theorem dX0_soundThere_2 : decode cX0_soundThere 2 = .ok (.invokevirtual 58, 3) := by decide +kernel
theorem dX0_soundThere_5 : decode cX0_soundThere 5 = .ok (.ifCond .eq 12, 3) := by decide +kernel
theorem dX0_soundThere_8 : decode cX0_soundThere 8 = .ok (.aload_n 0, 1) := by decide +kernel
theorem dX0_soundThere_9 : decode cX0_soundThere 9 = .ok (.getfield 28, 3) := by decide +kernel
theorem dX0_soundThere_12 : decode cX0_soundThere 12 = .ok (.iload_n 1, 1) := by decide +kernel
theorem dX0_soundThere_13 : decode cX0_soundThere 13 = .ok (.iaload, 1) := by decide +kernel
theorem dX0_soundThere_14 : decode cX0_soundThere 14 = .ok (.ifCond .eq 5, 3) := by decide +kernel
theorem dX0_soundThere_17 : decode cX0_soundThere 17 = .ok (.iconst 0, 1) := by decide +kernel
theorem dX0_soundThere_18 : decode cX0_soundThere 18 = .ok (.ireturn, 1) := by decide +kernel
theorem dX0_soundThere_19 : decode cX0_soundThere 19 = .ok (.aload_n 0, 1) := by decide +kernel
theorem dX0_soundThere_20 : decode cX0_soundThere 20 = .ok (.iload_n 1, 1) := by decide +kernel
theorem dX0_soundThere_21 : decode cX0_soundThere 21 = .ok (.invokevirtual 61, 3) := by decide +kernel
theorem dX0_soundThere_24 : decode cX0_soundThere 24 = .ok (.aload_n 0, 1) := by decide +kernel
theorem dX0_soundThere_25 : decode cX0_soundThere 25 = .ok (.getfield 19, 3) := by decide +kernel
theorem dX0_soundThere_28 : decode cX0_soundThere 28 = .ok (.iload_n 1, 1) := by decide +kernel
theorem dX0_soundThere_29 : decode cX0_soundThere 29 = .ok (.iaload, 1) := by decide +kernel
theorem dX0_soundThere_30 : decode cX0_soundThere 30 = .ok (.iload_n 3, 1) := by decide +kernel
theorem dX0_soundThere_31 : decode cX0_soundThere 31 = .ok (.aload_n 0, 1) := by decide +kernel
theorem dX0_soundThere_32 : decode cX0_soundThere 32 = .ok (.getfield 34, 3) := by decide +kernel
theorem dX0_soundThere_35 : decode cX0_soundThere 35 = .ok (.iconst 1, 1) := by decide +kernel
theorem dX0_soundThere_36 : decode cX0_soundThere 36 = .ok (.iaload, 1) := by decide +kernel
theorem dX0_soundThere_37 : decode cX0_soundThere 37 = .ok (.aload_n 0, 1) := by decide +kernel
theorem dX0_soundThere_38 : decode cX0_soundThere 38 = .ok (.getfield 34, 3) := by decide +kernel
theorem dX0_soundThere_41 : decode cX0_soundThere 41 = .ok (.iconst 2, 1) := by decide +kernel
theorem dX0_soundThere_42 : decode cX0_soundThere 42 = .ok (.iaload, 1) := by decide +kernel
theorem dX0_soundThere_43 : decode cX0_soundThere 43 = .ok (.invokevirtual 98, 3) := by decide +kernel
theorem dX0_soundThere_46 : decode cX0_soundThere 46 = .ok (.istore 4, 2) := by decide +kernel
theorem dX0_soundThere_48 : decode cX0_soundThere 48 = .ok (.iconst 0, 1) := by decide +kernel
theorem dX0_soundThere_49 : decode cX0_soundThere 49 = .ok (.iload 4, 2) := by decide +kernel
theorem dX0_soundThere_51 : decode cX0_soundThere 51 = .ok (.iload_n 2, 1) := by decide +kernel
theorem dX0_soundThere_52 : decode cX0_soundThere 52 = .ok (.aload_n 0, 1) := by decide +kernel
theorem dX0_soundThere_53 : decode cX0_soundThere 53 = .ok (.getfield 22, 3) := by decide +kernel
theorem dX0_soundThere_56 : decode cX0_soundThere 56 = .ok (.iload_n 1, 1) := by decide +kernel
theorem dX0_soundThere_57 : decode cX0_soundThere 57 = .ok (.iaload, 1) := by decide +kernel
theorem dX0_soundThere_58 : decode cX0_soundThere 58 = .ok (.isub, 1) := by decide +kernel
theorem dX0_soundThere_59 : decode cX0_soundThere 59 = .ok (.invokestatic 102, 3) := by decide +kernel
theorem dX0_soundThere_62 : decode cX0_soundThere 62 = .ok (.isub, 1) := by decide +kernel
theorem dX0_soundThere_63 : decode cX0_soundThere 63 = .ok (.invokestatic 105, 3) := by decide +kernel
theorem dX0_soundThere_66 : decode cX0_soundThere 66 = .ok (.ireturn, 1) := by decide +kernel
theorem dX0_soundOfAllBut_0 : decode cX0_soundOfAllBut 0 = .ok (.iconst 0, 1) := by decide +kernel
theorem dX0_soundOfAllBut_1 : decode cX0_soundOfAllBut 1 = .ok (.istore 4, 2) := by decide +kernel
theorem dX0_soundOfAllBut_3 : decode cX0_soundOfAllBut 3 = .ok (.iconst 0, 1) := by decide +kernel
theorem dX0_soundOfAllBut_4 : decode cX0_soundOfAllBut 4 = .ok (.istore 5, 2) := by decide +kernel
theorem dX0_soundOfAllBut_6 : decode cX0_soundOfAllBut 6 = .ok (.iload 5, 2) := by decide +kernel
theorem dX0_soundOfAllBut_8 : decode cX0_soundOfAllBut 8 = .ok (.aload_n 0, 1) := by decide +kernel
theorem dX0_soundOfAllBut_9 : decode cX0_soundOfAllBut 9 = .ok (.getfield 37, 3) := by decide +kernel
theorem dX0_soundOfAllBut_12 : decode cX0_soundOfAllBut 12 = .ok (.if_icmp .ge 31, 3) := by decide +kernel
theorem dX0_soundOfAllBut_15 : decode cX0_soundOfAllBut 15 = .ok (.iload_n 1, 1) := by decide +kernel
theorem dX0_soundOfAllBut_16 : decode cX0_soundOfAllBut 16 = .ok (.iload 5, 2) := by decide +kernel
theorem dX0_soundOfAllBut_18 : decode cX0_soundOfAllBut 18 = .ok (.ishr, 1) := by decide +kernel
theorem dX0_soundOfAllBut_19 : decode cX0_soundOfAllBut 19 = .ok (.iconst 1, 1) := by decide +kernel
theorem dX0_soundOfAllBut_20 : decode cX0_soundOfAllBut 20 = .ok (.iand, 1) := by decide +kernel
theorem dX0_soundOfAllBut_21 : decode cX0_soundOfAllBut 21 = .ok (.ifCond .ne 16, 3) := by decide +kernel
theorem dX0_soundOfAllBut_24 : decode cX0_soundOfAllBut 24 = .ok (.iload 4, 2) := by decide +kernel
theorem dX0_soundOfAllBut_26 : decode cX0_soundOfAllBut 26 = .ok (.aload_n 0, 1) := by decide +kernel
theorem dX0_soundOfAllBut_27 : decode cX0_soundOfAllBut 27 = .ok (.iload 5, 2) := by decide +kernel
theorem dX0_soundOfAllBut_29 : decode cX0_soundOfAllBut 29 = .ok (.iload_n 2, 1) := by decide +kernel
theorem dX0_soundOfAllBut_30 : decode cX0_soundOfAllBut 30 = .ok (.iload_n 3, 1) := by decide +kernel
theorem dX0_soundOfAllBut_31 : decode cX0_soundOfAllBut 31 = .ok (.invokevirtual 108, 3) := by decide +kernel
theorem dX0_soundOfAllBut_34 : decode cX0_soundOfAllBut 34 = .ok (.iadd, 1) := by decide +kernel
theorem dX0_soundOfAllBut_35 : decode cX0_soundOfAllBut 35 = .ok (.istore 4, 2) := by decide +kernel
theorem dX0_soundOfAllBut_37 : decode cX0_soundOfAllBut 37 = .ok (.iinc 5 1, 3) := by decide +kernel
theorem dX0_soundOfAllBut_40 : decode cX0_soundOfAllBut 40 = .ok (.goto (-34), 3) := by decide +kernel
theorem dX0_soundOfAllBut_43 : decode cX0_soundOfAllBut 43 = .ok (.iload 4, 2) := by decide +kernel
theorem dX0_soundOfAllBut_45 : decode cX0_soundOfAllBut 45 = .ok (.ireturn, 1) := by decide +kernel
theorem dX0_heardAt_0 : decode cX0_heardAt 0 = .ok (.iconst 0, 1) := by decide +kernel
theorem dX0_heardAt_1 : decode cX0_heardAt 1 = .ok (.aload_n 0, 1) := by decide +kernel
theorem dX0_heardAt_2 : decode cX0_heardAt 2 = .ok (.iconst 0, 1) := by decide +kernel
theorem dX0_heardAt_3 : decode cX0_heardAt 3 = .ok (.iload_n 1, 1) := by decide +kernel
theorem dX0_heardAt_4 : decode cX0_heardAt 4 = .ok (.iload_n 2, 1) := by decide +kernel
theorem dX0_heardAt_5 : decode cX0_heardAt 5 = .ok (.invokevirtual 112, 3) := by decide +kernel
theorem dX0_heardAt_8 : decode cX0_heardAt 8 = .ok (.aload_n 0, 1) := by decide +kernel
theorem dX0_heardAt_9 : decode cX0_heardAt 9 = .ok (.getfield 34, 3) := by decide +kernel
theorem dX0_heardAt_12 : decode cX0_heardAt 12 = .ok (.iconst 3, 1) := by decide +kernel
theorem dX0_heardAt_13 : decode cX0_heardAt 13 = .ok (.iaload, 1) := by decide +kernel
theorem dX0_heardAt_14 : decode cX0_heardAt 14 = .ok (.isub, 1) := by decide +kernel
theorem dX0_heardAt_15 : decode cX0_heardAt 15 = .ok (.invokestatic 105, 3) := by decide +kernel
theorem dX0_heardAt_18 : decode cX0_heardAt 18 = .ok (.ireturn, 1) := by decide +kernel
theorem dX0_heardNow_0 : decode cX0_heardNow 0 = .ok (.iconst 0, 1) := by decide +kernel
theorem dX0_heardNow_1 : decode cX0_heardNow 1 = .ok (.aload_n 0, 1) := by decide +kernel
theorem dX0_heardNow_2 : decode cX0_heardNow 2 = .ok (.iconst 0, 1) := by decide +kernel
theorem dX0_heardNow_3 : decode cX0_heardNow 3 = .ok (.iload_n 1, 1) := by decide +kernel
theorem dX0_heardNow_4 : decode cX0_heardNow 4 = .ok (.aload_n 0, 1) := by decide +kernel
theorem dX0_heardNow_5 : decode cX0_heardNow 5 = .ok (.getfield 34, 3) := by decide +kernel
theorem dX0_heardNow_8 : decode cX0_heardNow 8 = .ok (.iconst 0, 1) := by decide +kernel
theorem dX0_heardNow_9 : decode cX0_heardNow 9 = .ok (.iaload, 1) := by decide +kernel
theorem dX0_heardNow_10 : decode cX0_heardNow 10 = .ok (.invokevirtual 112, 3) := by decide +kernel
theorem dX0_heardNow_13 : decode cX0_heardNow 13 = .ok (.aload_n 0, 1) := by decide +kernel
theorem dX0_heardNow_14 : decode cX0_heardNow 14 = .ok (.getfield 34, 3) := by decide +kernel
theorem dX0_heardNow_17 : decode cX0_heardNow 17 = .ok (.iconst 3, 1) := by decide +kernel
theorem dX0_heardNow_18 : decode cX0_heardNow 18 = .ok (.iaload, 1) := by decide +kernel
theorem dX0_heardNow_19 : decode cX0_heardNow 19 = .ok (.isub, 1) := by decide +kernel
theorem dX0_heardNow_20 : decode cX0_heardNow 20 = .ok (.invokestatic 105, 3) := by decide +kernel
theorem dX0_heardNow_23 : decode cX0_heardNow 23 = .ok (.ireturn, 1) := by decide +kernel
theorem dX0_loudestAt_0 : decode cX0_loudestAt 0 = .ok (.bipush (-4), 2) := by decide +kernel
theorem dX0_loudestAt_2 : decode cX0_loudestAt 2 = .ok (.istore_n 2, 1) := by decide +kernel
theorem dX0_loudestAt_3 : decode cX0_loudestAt 3 = .ok (.iconst 0, 1) := by decide +kernel
theorem dX0_loudestAt_4 : decode cX0_loudestAt 4 = .ok (.istore_n 3, 1) := by decide +kernel
theorem dX0_loudestAt_5 : decode cX0_loudestAt 5 = .ok (.iconst 0, 1) := by decide +kernel
theorem dX0_loudestAt_6 : decode cX0_loudestAt 6 = .ok (.istore 4, 2) := by decide +kernel
theorem dX0_loudestAt_8 : decode cX0_loudestAt 8 = .ok (.iload 4, 2) := by decide +kernel
theorem dX0_loudestAt_10 : decode cX0_loudestAt 10 = .ok (.aload_n 0, 1) := by decide +kernel
theorem dX0_loudestAt_11 : decode cX0_loudestAt 11 = .ok (.getfield 37, 3) := by decide +kernel
theorem dX0_loudestAt_14 : decode cX0_loudestAt 14 = .ok (.if_icmp .ge 36, 3) := by decide +kernel
theorem dX0_loudestAt_17 : decode cX0_loudestAt 17 = .ok (.aload_n 0, 1) := by decide +kernel
theorem dX0_loudestAt_18 : decode cX0_loudestAt 18 = .ok (.iload 4, 2) := by decide +kernel
theorem dX0_loudestAt_20 : decode cX0_loudestAt 20 = .ok (.iload_n 1, 1) := by decide +kernel
theorem dX0_loudestAt_21 : decode cX0_loudestAt 21 = .ok (.aload_n 0, 1) := by decide +kernel
theorem dX0_loudestAt_22 : decode cX0_loudestAt 22 = .ok (.getfield 34, 3) := by decide +kernel
theorem dX0_loudestAt_25 : decode cX0_loudestAt 25 = .ok (.iconst 0, 1) := by decide +kernel
theorem dX0_loudestAt_26 : decode cX0_loudestAt 26 = .ok (.iaload, 1) := by decide +kernel
theorem dX0_loudestAt_27 : decode cX0_loudestAt 27 = .ok (.invokevirtual 108, 3) := by decide +kernel
theorem dX0_loudestAt_30 : decode cX0_loudestAt 30 = .ok (.istore 5, 2) := by decide +kernel
theorem dX0_loudestAt_32 : decode cX0_loudestAt 32 = .ok (.iload 5, 2) := by decide +kernel
theorem dX0_loudestAt_34 : decode cX0_loudestAt 34 = .ok (.iload_n 3, 1) := by decide +kernel
theorem dX0_loudestAt_35 : decode cX0_loudestAt 35 = .ok (.if_icmp .le 9, 3) := by decide +kernel
theorem dX0_loudestAt_38 : decode cX0_loudestAt 38 = .ok (.iload 5, 2) := by decide +kernel
theorem dX0_loudestAt_40 : decode cX0_loudestAt 40 = .ok (.istore_n 3, 1) := by decide +kernel
theorem dX0_loudestAt_41 : decode cX0_loudestAt 41 = .ok (.iload 4, 2) := by decide +kernel
theorem dX0_loudestAt_43 : decode cX0_loudestAt 43 = .ok (.istore_n 2, 1) := by decide +kernel
theorem dX0_loudestAt_44 : decode cX0_loudestAt 44 = .ok (.iinc 4 1, 3) := by decide +kernel
theorem dX0_loudestAt_47 : decode cX0_loudestAt 47 = .ok (.goto (-39), 3) := by decide +kernel
theorem dX0_loudestAt_50 : decode cX0_loudestAt 50 = .ok (.iload_n 2, 1) := by decide +kernel
theorem dX0_loudestAt_51 : decode cX0_loudestAt 51 = .ok (.ireturn, 1) := by decide +kernel
theorem dX0_fewestToHold_0 : decode cX0_fewestToHold 0 = .ok (.aload_n 0, 1) := by decide +kernel
theorem dX0_fewestToHold_1 : decode cX0_fewestToHold 1 = .ok (.invokevirtual 115, 3) := by decide +kernel
theorem dX0_fewestToHold_4 : decode cX0_fewestToHold 4 = .ok (.istore_n 1, 1) := by decide +kernel
theorem dX0_fewestToHold_5 : decode cX0_fewestToHold 5 = .ok (.iload_n 1, 1) := by decide +kernel
theorem dX0_fewestToHold_6 : decode cX0_fewestToHold 6 = .ok (.istore_n 2, 1) := by decide +kernel
theorem dX0_fewestToHold_7 : decode cX0_fewestToHold 7 = .ok (.iconst 0, 1) := by decide +kernel
theorem dX0_fewestToHold_8 : decode cX0_fewestToHold 8 = .ok (.istore_n 3, 1) := by decide +kernel
theorem dX0_fewestToHold_9 : decode cX0_fewestToHold 9 = .ok (.iload_n 3, 1) := by decide +kernel
theorem dX0_fewestToHold_10 : decode cX0_fewestToHold 10 = .ok (.iconst 1, 1) := by decide +kernel
theorem dX0_fewestToHold_11 : decode cX0_fewestToHold 11 = .ok (.aload_n 0, 1) := by decide +kernel
theorem dX0_fewestToHold_12 : decode cX0_fewestToHold 12 = .ok (.getfield 37, 3) := by decide +kernel
theorem dX0_fewestToHold_15 : decode cX0_fewestToHold 15 = .ok (.ishl, 1) := by decide +kernel
theorem dX0_fewestToHold_16 : decode cX0_fewestToHold 16 = .ok (.if_icmp .ge 51, 3) := by decide +kernel
theorem dX0_fewestToHold_19 : decode cX0_fewestToHold 19 = .ok (.iload_n 3, 1) := by decide +kernel
theorem dX0_fewestToHold_20 : decode cX0_fewestToHold 20 = .ok (.iload_n 1, 1) := by decide +kernel
theorem dX0_fewestToHold_21 : decode cX0_fewestToHold 21 = .ok (.iconst (-1), 1) := by decide +kernel
theorem dX0_fewestToHold_22 : decode cX0_fewestToHold 22 = .ok (.ixor, 1) := by decide +kernel
theorem dX0_fewestToHold_23 : decode cX0_fewestToHold 23 = .ok (.iand, 1) := by decide +kernel
theorem dX0_fewestToHold_24 : decode cX0_fewestToHold 24 = .ok (.ifCond .ne 37, 3) := by decide +kernel
theorem dX0_fewestToHold_27 : decode cX0_fewestToHold 27 = .ok (.iload_n 3, 1) := by decide +kernel
theorem dX0_fewestToHold_28 : decode cX0_fewestToHold 28 = .ok (.invokestatic 118, 3) := by decide +kernel
theorem dX0_fewestToHold_31 : decode cX0_fewestToHold 31 = .ok (.iload_n 2, 1) := by decide +kernel
theorem dX0_fewestToHold_32 : decode cX0_fewestToHold 32 = .ok (.invokestatic 118, 3) := by decide +kernel
theorem dX0_fewestToHold_35 : decode cX0_fewestToHold 35 = .ok (.if_icmp .ge 26, 3) := by decide +kernel
theorem dX0_fewestToHold_38 : decode cX0_fewestToHold 38 = .ok (.aload_n 0, 1) := by decide +kernel
theorem dX0_fewestToHold_39 : decode cX0_fewestToHold 39 = .ok (.iload_n 3, 1) := by decide +kernel
theorem dX0_fewestToHold_40 : decode cX0_fewestToHold 40 = .ok (.iconst 0, 1) := by decide +kernel
theorem dX0_fewestToHold_41 : decode cX0_fewestToHold 41 = .ok (.aload_n 0, 1) := by decide +kernel
theorem dX0_fewestToHold_42 : decode cX0_fewestToHold 42 = .ok (.getfield 34, 3) := by decide +kernel
theorem dX0_fewestToHold_45 : decode cX0_fewestToHold 45 = .ok (.iconst 0, 1) := by decide +kernel
theorem dX0_fewestToHold_46 : decode cX0_fewestToHold 46 = .ok (.iaload, 1) := by decide +kernel
theorem dX0_fewestToHold_47 : decode cX0_fewestToHold 47 = .ok (.invokevirtual 112, 3) := by decide +kernel
theorem dX0_fewestToHold_50 : decode cX0_fewestToHold 50 = .ok (.aload_n 0, 1) := by decide +kernel
theorem dX0_fewestToHold_51 : decode cX0_fewestToHold 51 = .ok (.getfield 34, 3) := by decide +kernel
theorem dX0_fewestToHold_54 : decode cX0_fewestToHold 54 = .ok (.iconst 3, 1) := by decide +kernel
theorem dX0_fewestToHold_55 : decode cX0_fewestToHold 55 = .ok (.iaload, 1) := by decide +kernel
theorem dX0_fewestToHold_56 : decode cX0_fewestToHold 56 = .ok (.if_icmp .gt 5, 3) := by decide +kernel
theorem dX0_fewestToHold_59 : decode cX0_fewestToHold 59 = .ok (.iload_n 3, 1) := by decide +kernel
theorem dX0_fewestToHold_60 : decode cX0_fewestToHold 60 = .ok (.istore_n 2, 1) := by decide +kernel
theorem dX0_fewestToHold_61 : decode cX0_fewestToHold 61 = .ok (.iinc 3 1, 3) := by decide +kernel
theorem dX0_fewestToHold_64 : decode cX0_fewestToHold 64 = .ok (.goto (-55), 3) := by decide +kernel
theorem dX0_fewestToHold_67 : decode cX0_fewestToHold 67 = .ok (.iload_n 2, 1) := by decide +kernel
theorem dX0_fewestToHold_68 : decode cX0_fewestToHold 68 = .ok (.ireturn, 1) := by decide +kernel
theorem dX0_secondsOf_0 : decode cX0_secondsOf 0 = .ok (.iconst 0, 1) := by decide +kernel
theorem dX0_secondsOf_1 : decode cX0_secondsOf 1 = .ok (.istore_n 2, 1) := by decide +kernel
theorem dX0_secondsOf_2 : decode cX0_secondsOf 2 = .ok (.iconst 0, 1) := by decide +kernel
theorem dX0_secondsOf_3 : decode cX0_secondsOf 3 = .ok (.istore_n 3, 1) := by decide +kernel
theorem dX0_secondsOf_4 : decode cX0_secondsOf 4 = .ok (.iload_n 3, 1) := by decide +kernel
theorem dX0_secondsOf_5 : decode cX0_secondsOf 5 = .ok (.aload_n 0, 1) := by decide +kernel
theorem dX0_secondsOf_6 : decode cX0_secondsOf 6 = .ok (.getfield 37, 3) := by decide +kernel
theorem dX0_secondsOf_9 : decode cX0_secondsOf 9 = .ok (.if_icmp .ge 30, 3) := by decide +kernel
theorem dX0_secondsOf_12 : decode cX0_secondsOf 12 = .ok (.iload_n 2, 1) := by decide +kernel
theorem dX0_secondsOf_13 : decode cX0_secondsOf 13 = .ok (.iload_n 1, 1) := by decide +kernel
theorem dX0_secondsOf_14 : decode cX0_secondsOf 14 = .ok (.iload_n 3, 1) := by decide +kernel
theorem dX0_secondsOf_15 : decode cX0_secondsOf 15 = .ok (.ishr, 1) := by decide +kernel
theorem dX0_secondsOf_16 : decode cX0_secondsOf 16 = .ok (.iconst 1, 1) := by decide +kernel
theorem dX0_secondsOf_17 : decode cX0_secondsOf 17 = .ok (.iand, 1) := by decide +kernel
theorem dX0_secondsOf_18 : decode cX0_secondsOf 18 = .ok (.iconst 1, 1) := by decide +kernel
theorem dX0_secondsOf_19 : decode cX0_secondsOf 19 = .ok (.if_icmp .ne 11, 3) := by decide +kernel
theorem dX0_secondsOf_22 : decode cX0_secondsOf 22 = .ok (.aload_n 0, 1) := by decide +kernel
theorem dX0_secondsOf_23 : decode cX0_secondsOf 23 = .ok (.iload_n 3, 1) := by decide +kernel
theorem dX0_secondsOf_24 : decode cX0_secondsOf 24 = .ok (.invokevirtual 123, 3) := by decide +kernel
theorem dX0_secondsOf_27 : decode cX0_secondsOf 27 = .ok (.goto 4, 3) := by decide +kernel
theorem dX0_secondsOf_30 : decode cX0_secondsOf 30 = .ok (.iconst 0, 1) := by decide +kernel
theorem dX0_secondsOf_31 : decode cX0_secondsOf 31 = .ok (.iadd, 1) := by decide +kernel
theorem dX0_secondsOf_32 : decode cX0_secondsOf 32 = .ok (.istore_n 2, 1) := by decide +kernel
theorem dX0_secondsOf_33 : decode cX0_secondsOf 33 = .ok (.iinc 3 1, 3) := by decide +kernel
theorem dX0_secondsOf_36 : decode cX0_secondsOf 36 = .ok (.goto (-32), 3) := by decide +kernel
theorem dX0_secondsOf_39 : decode cX0_secondsOf 39 = .ok (.iload_n 2, 1) := by decide +kernel
theorem dX0_secondsOf_40 : decode cX0_secondsOf 40 = .ok (.ireturn, 1) := by decide +kernel
theorem dX0_weightOf_0 : decode cX0_weightOf 0 = .ok (.iconst 0, 1) := by decide +kernel
theorem dX0_weightOf_1 : decode cX0_weightOf 1 = .ok (.istore_n 2, 1) := by decide +kernel
theorem dX0_weightOf_2 : decode cX0_weightOf 2 = .ok (.iconst 0, 1) := by decide +kernel
theorem dX0_weightOf_3 : decode cX0_weightOf 3 = .ok (.istore_n 3, 1) := by decide +kernel
theorem dX0_weightOf_4 : decode cX0_weightOf 4 = .ok (.iload_n 3, 1) := by decide +kernel
theorem dX0_weightOf_5 : decode cX0_weightOf 5 = .ok (.aload_n 0, 1) := by decide +kernel
theorem dX0_weightOf_6 : decode cX0_weightOf 6 = .ok (.getfield 37, 3) := by decide +kernel
theorem dX0_weightOf_9 : decode cX0_weightOf 9 = .ok (.if_icmp .ge 31, 3) := by decide +kernel
theorem dX0_weightOf_12 : decode cX0_weightOf 12 = .ok (.iload_n 2, 1) := by decide +kernel
theorem dX0_weightOf_13 : decode cX0_weightOf 13 = .ok (.iload_n 1, 1) := by decide +kernel
theorem dX0_weightOf_14 : decode cX0_weightOf 14 = .ok (.iload_n 3, 1) := by decide +kernel
theorem dX0_weightOf_15 : decode cX0_weightOf 15 = .ok (.ishr, 1) := by decide +kernel
theorem dX0_weightOf_16 : decode cX0_weightOf 16 = .ok (.iconst 1, 1) := by decide +kernel
theorem dX0_weightOf_17 : decode cX0_weightOf 17 = .ok (.iand, 1) := by decide +kernel
theorem dX0_weightOf_18 : decode cX0_weightOf 18 = .ok (.iconst 1, 1) := by decide +kernel
theorem dX0_weightOf_19 : decode cX0_weightOf 19 = .ok (.if_icmp .ne 12, 3) := by decide +kernel
theorem dX0_weightOf_22 : decode cX0_weightOf 22 = .ok (.aload_n 0, 1) := by decide +kernel
theorem dX0_weightOf_23 : decode cX0_weightOf 23 = .ok (.getfield 25, 3) := by decide +kernel
theorem dX0_weightOf_26 : decode cX0_weightOf 26 = .ok (.iload_n 3, 1) := by decide +kernel
theorem dX0_weightOf_27 : decode cX0_weightOf 27 = .ok (.iaload, 1) := by decide +kernel
theorem dX0_weightOf_28 : decode cX0_weightOf 28 = .ok (.goto 4, 3) := by decide +kernel
theorem dX0_weightOf_31 : decode cX0_weightOf 31 = .ok (.iconst 0, 1) := by decide +kernel
theorem dX0_weightOf_32 : decode cX0_weightOf 32 = .ok (.iadd, 1) := by decide +kernel
theorem dX0_weightOf_33 : decode cX0_weightOf 33 = .ok (.istore_n 2, 1) := by decide +kernel
theorem dX0_weightOf_34 : decode cX0_weightOf 34 = .ok (.iinc 3 1, 3) := by decide +kernel
theorem dX0_weightOf_37 : decode cX0_weightOf 37 = .ok (.goto (-33), 3) := by decide +kernel
theorem dX0_weightOf_40 : decode cX0_weightOf 40 = .ok (.iload_n 2, 1) := by decide +kernel
theorem dX0_weightOf_41 : decode cX0_weightOf 41 = .ok (.ireturn, 1) := by decide +kernel
theorem dX0_allFigures_0 : decode cX0_allFigures 0 = .ok (.iconst 0, 1) := by decide +kernel
theorem dX0_allFigures_1 : decode cX0_allFigures 1 = .ok (.istore_n 1, 1) := by decide +kernel
theorem dX0_allFigures_2 : decode cX0_allFigures 2 = .ok (.iconst 0, 1) := by decide +kernel
theorem dX0_allFigures_3 : decode cX0_allFigures 3 = .ok (.istore_n 2, 1) := by decide +kernel
theorem dX0_allFigures_4 : decode cX0_allFigures 4 = .ok (.iload_n 2, 1) := by decide +kernel
theorem dX0_allFigures_5 : decode cX0_allFigures 5 = .ok (.aload_n 0, 1) := by decide +kernel
theorem dX0_allFigures_6 : decode cX0_allFigures 6 = .ok (.getfield 37, 3) := by decide +kernel
theorem dX0_allFigures_9 : decode cX0_allFigures 9 = .ok (.if_icmp .ge 18, 3) := by decide +kernel
theorem dX0_allFigures_12 : decode cX0_allFigures 12 = .ok (.iload_n 1, 1) := by decide +kernel
theorem dX0_allFigures_13 : decode cX0_allFigures 13 = .ok (.aload_n 0, 1) := by decide +kernel
theorem dX0_allFigures_14 : decode cX0_allFigures 14 = .ok (.getfield 19, 3) := by decide +kernel
theorem dX0_allFigures_17 : decode cX0_allFigures 17 = .ok (.iload_n 2, 1) := by decide +kernel
theorem dX0_allFigures_18 : decode cX0_allFigures 18 = .ok (.iaload, 1) := by decide +kernel
theorem dX0_allFigures_19 : decode cX0_allFigures 19 = .ok (.iadd, 1) := by decide +kernel
theorem dX0_allFigures_20 : decode cX0_allFigures 20 = .ok (.istore_n 1, 1) := by decide +kernel
theorem dX0_allFigures_21 : decode cX0_allFigures 21 = .ok (.iinc 2 1, 3) := by decide +kernel
theorem dX0_allFigures_24 : decode cX0_allFigures 24 = .ok (.goto (-20), 3) := by decide +kernel
theorem dX0_allFigures_27 : decode cX0_allFigures 27 = .ok (.iload_n 1, 1) := by decide +kernel
theorem dX0_allFigures_28 : decode cX0_allFigures 28 = .ok (.ireturn, 1) := by decide +kernel
theorem dX0_freeOnes_0 : decode cX0_freeOnes 0 = .ok (.iconst 0, 1) := by decide +kernel
theorem dX0_freeOnes_1 : decode cX0_freeOnes 1 = .ok (.istore_n 1, 1) := by decide +kernel
theorem dX0_freeOnes_2 : decode cX0_freeOnes 2 = .ok (.iconst 0, 1) := by decide +kernel
theorem dX0_freeOnes_3 : decode cX0_freeOnes 3 = .ok (.istore_n 2, 1) := by decide +kernel
theorem dX0_freeOnes_4 : decode cX0_freeOnes 4 = .ok (.iload_n 2, 1) := by decide +kernel
theorem dX0_freeOnes_5 : decode cX0_freeOnes 5 = .ok (.aload_n 0, 1) := by decide +kernel
theorem dX0_freeOnes_6 : decode cX0_freeOnes 6 = .ok (.getfield 37, 3) := by decide +kernel
theorem dX0_freeOnes_9 : decode cX0_freeOnes 9 = .ok (.if_icmp .ge 28, 3) := by decide +kernel
theorem dX0_freeOnes_12 : decode cX0_freeOnes 12 = .ok (.iload_n 1, 1) := by decide +kernel
theorem dX0_freeOnes_13 : decode cX0_freeOnes 13 = .ok (.aload_n 0, 1) := by decide +kernel
theorem dX0_freeOnes_14 : decode cX0_freeOnes 14 = .ok (.getfield 28, 3) := by decide +kernel
theorem dX0_freeOnes_17 : decode cX0_freeOnes 17 = .ok (.iload_n 2, 1) := by decide +kernel
theorem dX0_freeOnes_18 : decode cX0_freeOnes 18 = .ok (.iaload, 1) := by decide +kernel
theorem dX0_freeOnes_19 : decode cX0_freeOnes 19 = .ok (.ifCond .ne 9, 3) := by decide +kernel
theorem dX0_freeOnes_22 : decode cX0_freeOnes 22 = .ok (.iconst 1, 1) := by decide +kernel
theorem dX0_freeOnes_23 : decode cX0_freeOnes 23 = .ok (.iload_n 2, 1) := by decide +kernel
theorem dX0_freeOnes_24 : decode cX0_freeOnes 24 = .ok (.ishl, 1) := by decide +kernel
theorem dX0_freeOnes_25 : decode cX0_freeOnes 25 = .ok (.goto 4, 3) := by decide +kernel
theorem dX0_freeOnes_28 : decode cX0_freeOnes 28 = .ok (.iconst 0, 1) := by decide +kernel
theorem dX0_freeOnes_29 : decode cX0_freeOnes 29 = .ok (.ior, 1) := by decide +kernel
theorem dX0_freeOnes_30 : decode cX0_freeOnes 30 = .ok (.istore_n 1, 1) := by decide +kernel
theorem dX0_freeOnes_31 : decode cX0_freeOnes 31 = .ok (.iinc 2 1, 3) := by decide +kernel
theorem dX0_freeOnes_34 : decode cX0_freeOnes 34 = .ok (.goto (-30), 3) := by decide +kernel
theorem dX0_freeOnes_37 : decode cX0_freeOnes 37 = .ok (.iload_n 1, 1) := by decide +kernel
theorem dX0_freeOnes_38 : decode cX0_freeOnes 38 = .ok (.ireturn, 1) := by decide +kernel
theorem dX0_rattlingAt_0 : decode cX0_rattlingAt 0 = .ok (.iconst 0, 1) := by decide +kernel
theorem dX0_rattlingAt_1 : decode cX0_rattlingAt 1 = .ok (.istore_n 2, 1) := by decide +kernel
theorem dX0_rattlingAt_2 : decode cX0_rattlingAt 2 = .ok (.iconst 0, 1) := by decide +kernel
theorem dX0_rattlingAt_3 : decode cX0_rattlingAt 3 = .ok (.istore_n 3, 1) := by decide +kernel
theorem dX0_rattlingAt_4 : decode cX0_rattlingAt 4 = .ok (.iload_n 3, 1) := by decide +kernel
theorem dX0_rattlingAt_5 : decode cX0_rattlingAt 5 = .ok (.aload_n 0, 1) := by decide +kernel
theorem dX0_rattlingAt_6 : decode cX0_rattlingAt 6 = .ok (.getfield 37, 3) := by decide +kernel
theorem dX0_rattlingAt_9 : decode cX0_rattlingAt 9 = .ok (.if_icmp .ge 53, 3) := by decide +kernel
theorem dX0_rattlingAt_12 : decode cX0_rattlingAt 12 = .ok (.aload_n 0, 1) := by decide +kernel
theorem dX0_rattlingAt_13 : decode cX0_rattlingAt 13 = .ok (.iload_n 3, 1) := by decide +kernel
theorem dX0_rattlingAt_14 : decode cX0_rattlingAt 14 = .ok (.invokevirtual 61, 3) := by decide +kernel
theorem dX0_rattlingAt_17 : decode cX0_rattlingAt 17 = .ok (.aload_n 0, 1) := by decide +kernel
theorem dX0_rattlingAt_18 : decode cX0_rattlingAt 18 = .ok (.getfield 19, 3) := by decide +kernel
theorem dX0_rattlingAt_21 : decode cX0_rattlingAt 21 = .ok (.iload_n 3, 1) := by decide +kernel
theorem dX0_rattlingAt_22 : decode cX0_rattlingAt 22 = .ok (.iaload, 1) := by decide +kernel
theorem dX0_rattlingAt_23 : decode cX0_rattlingAt 23 = .ok (.iload_n 1, 1) := by decide +kernel
theorem dX0_rattlingAt_24 : decode cX0_rattlingAt 24 = .ok (.aload_n 0, 1) := by decide +kernel
theorem dX0_rattlingAt_25 : decode cX0_rattlingAt 25 = .ok (.getfield 34, 3) := by decide +kernel
theorem dX0_rattlingAt_28 : decode cX0_rattlingAt 28 = .ok (.iconst 1, 1) := by decide +kernel
theorem dX0_rattlingAt_29 : decode cX0_rattlingAt 29 = .ok (.iaload, 1) := by decide +kernel
theorem dX0_rattlingAt_30 : decode cX0_rattlingAt 30 = .ok (.aload_n 0, 1) := by decide +kernel
theorem dX0_rattlingAt_31 : decode cX0_rattlingAt 31 = .ok (.getfield 34, 3) := by decide +kernel
theorem dX0_rattlingAt_34 : decode cX0_rattlingAt 34 = .ok (.iconst 2, 1) := by decide +kernel
theorem dX0_rattlingAt_35 : decode cX0_rattlingAt 35 = .ok (.iaload, 1) := by decide +kernel
theorem dX0_rattlingAt_36 : decode cX0_rattlingAt 36 = .ok (.invokevirtual 98, 3) := by decide +kernel
theorem dX0_rattlingAt_39 : decode cX0_rattlingAt 39 = .ok (.istore 4, 2) := by decide +kernel
theorem dX0_rattlingAt_41 : decode cX0_rattlingAt 41 = .ok (.iload_n 2, 1) := by decide +kernel
theorem dX0_rattlingAt_42 : decode cX0_rattlingAt 42 = .ok (.iload 4, 2) := by decide +kernel
theorem dX0_rattlingAt_44 : decode cX0_rattlingAt 44 = .ok (.ifCond .le 9, 3) := by decide +kernel
theorem dX0_rattlingAt_47 : decode cX0_rattlingAt 47 = .ok (.iconst 1, 1) := by decide +kernel
theorem dX0_rattlingAt_48 : decode cX0_rattlingAt 48 = .ok (.iload_n 3, 1) := by decide +kernel
theorem dX0_rattlingAt_49 : decode cX0_rattlingAt 49 = .ok (.ishl, 1) := by decide +kernel
theorem dX0_rattlingAt_50 : decode cX0_rattlingAt 50 = .ok (.goto 4, 3) := by decide +kernel
theorem dX0_rattlingAt_53 : decode cX0_rattlingAt 53 = .ok (.iconst 0, 1) := by decide +kernel
theorem dX0_rattlingAt_54 : decode cX0_rattlingAt 54 = .ok (.ior, 1) := by decide +kernel
theorem dX0_rattlingAt_55 : decode cX0_rattlingAt 55 = .ok (.istore_n 2, 1) := by decide +kernel
theorem dX0_rattlingAt_56 : decode cX0_rattlingAt 56 = .ok (.iinc 3 1, 3) := by decide +kernel
theorem dX0_rattlingAt_59 : decode cX0_rattlingAt 59 = .ok (.goto (-55), 3) := by decide +kernel
theorem dX0_rattlingAt_62 : decode cX0_rattlingAt 62 = .ok (.iload_n 2, 1) := by decide +kernel
theorem dX0_rattlingAt_63 : decode cX0_rattlingAt 63 = .ok (.ireturn, 1) := by decide +kernel
theorem dX0_doesJust_0 : decode cX0_doesJust 0 = .ok (.iconst 0, 1) := by decide +kernel
theorem dX0_doesJust_1 : decode cX0_doesJust 1 = .ok (.istore_n 3, 1) := by decide +kernel
theorem dX0_doesJust_2 : decode cX0_doesJust 2 = .ok (.iload_n 3, 1) := by decide +kernel
theorem dX0_doesJust_3 : decode cX0_doesJust 3 = .ok (.iconst 1, 1) := by decide +kernel
theorem dX0_doesJust_4 : decode cX0_doesJust 4 = .ok (.iadd, 1) := by decide +kernel
theorem dX0_doesJust_5 : decode cX0_doesJust 5 = .ok (.aload_n 1, 1) := by decide +kernel
theorem dX0_doesJust_6 : decode cX0_doesJust 6 = .ok (.getfield 87, 3) := by decide +kernel
theorem dX0_doesJust_9 : decode cX0_doesJust 9 = .ok (.if_icmp .ge 55, 3) := by decide +kernel
theorem dX0_doesJust_12 : decode cX0_doesJust 12 = .ok (.iload_n 2, 1) := by decide +kernel
theorem dX0_doesJust_13 : decode cX0_doesJust 13 = .ok (.aload_n 0, 1) := by decide +kernel
theorem dX0_doesJust_14 : decode cX0_doesJust 14 = .ok (.aload_n 1, 1) := by decide +kernel
theorem dX0_doesJust_15 : decode cX0_doesJust 15 = .ok (.getfield 95, 3) := by decide +kernel
theorem dX0_doesJust_18 : decode cX0_doesJust 18 = .ok (.iload_n 3, 1) := by decide +kernel
theorem dX0_doesJust_19 : decode cX0_doesJust 19 = .ok (.iaload, 1) := by decide +kernel
theorem dX0_doesJust_20 : decode cX0_doesJust 20 = .ok (.invokevirtual 126, 3) := by decide +kernel
theorem dX0_doesJust_23 : decode cX0_doesJust 23 = .ok (.iand, 1) := by decide +kernel
theorem dX0_doesJust_24 : decode cX0_doesJust 24 = .ok (.ifCond .eq 7, 3) := by decide +kernel
theorem dX0_doesJust_27 : decode cX0_doesJust 27 = .ok (.iconst 1, 1) := by decide +kernel
theorem dX0_doesJust_28 : decode cX0_doesJust 28 = .ok (.goto 4, 3) := by decide +kernel
theorem dX0_doesJust_31 : decode cX0_doesJust 31 = .ok (.iconst 0, 1) := by decide +kernel
theorem dX0_doesJust_32 : decode cX0_doesJust 32 = .ok (.istore 4, 2) := by decide +kernel
theorem dX0_doesJust_34 : decode cX0_doesJust 34 = .ok (.iload 4, 2) := by decide +kernel
theorem dX0_doesJust_36 : decode cX0_doesJust 36 = .ok (.aload_n 1, 1) := by decide +kernel
theorem dX0_doesJust_37 : decode cX0_doesJust 37 = .ok (.getfield 95, 3) := by decide +kernel
theorem dX0_doesJust_40 : decode cX0_doesJust 40 = .ok (.iload_n 3, 1) := by decide +kernel
theorem dX0_doesJust_41 : decode cX0_doesJust 41 = .ok (.iconst 1, 1) := by decide +kernel
theorem dX0_doesJust_42 : decode cX0_doesJust 42 = .ok (.iadd, 1) := by decide +kernel
theorem dX0_doesJust_43 : decode cX0_doesJust 43 = .ok (.iaload, 1) := by decide +kernel
theorem dX0_doesJust_44 : decode cX0_doesJust 44 = .ok (.iconst 1, 1) := by decide +kernel
theorem dX0_doesJust_45 : decode cX0_doesJust 45 = .ok (.if_icmp .ne 7, 3) := by decide +kernel
theorem dX0_doesJust_48 : decode cX0_doesJust 48 = .ok (.iconst 1, 1) := by decide +kernel
theorem dX0_doesJust_49 : decode cX0_doesJust 49 = .ok (.goto 4, 3) := by decide +kernel
theorem dX0_doesJust_52 : decode cX0_doesJust 52 = .ok (.iconst 0, 1) := by decide +kernel
theorem dX0_doesJust_53 : decode cX0_doesJust 53 = .ok (.if_icmp .eq 5, 3) := by decide +kernel
theorem dX0_doesJust_56 : decode cX0_doesJust 56 = .ok (.iconst 0, 1) := by decide +kernel
theorem dX0_doesJust_57 : decode cX0_doesJust 57 = .ok (.ireturn, 1) := by decide +kernel
theorem dX0_doesJust_58 : decode cX0_doesJust 58 = .ok (.iinc 3 2, 3) := by decide +kernel
theorem dX0_doesJust_61 : decode cX0_doesJust 61 = .ok (.goto (-59), 3) := by decide +kernel
theorem dX0_doesJust_64 : decode cX0_doesJust 64 = .ok (.iconst 1, 1) := by decide +kernel
theorem dX0_doesJust_65 : decode cX0_doesJust 65 = .ok (.ireturn, 1) := by decide +kernel
theorem dX1_init_0 : decode cX1_init 0 = .ok (.aload_n 0, 1) := by decide +kernel
theorem dX1_init_1 : decode cX1_init 1 = .ok (.invokespecial 1, 3) := by decide +kernel
theorem dX1_init_4 : decode cX1_init 4 = .ok (.return_, 1) := by decide +kernel
theorem dX1_loudness_0 : decode cX1_loudness 0 = .ok (.iconst 0, 1) := by decide +kernel
theorem dX1_loudness_1 : decode cX1_loudness 1 = .ok (.ireturn, 1) := by decide +kernel
theorem dX1_loosensBy_0 : decode cX1_loosensBy 0 = .ok (.iconst 0, 1) := by decide +kernel
theorem dX1_loosensBy_1 : decode cX1_loosensBy 1 = .ok (.ireturn, 1) := by decide +kernel
theorem dX1_price_0 : decode cX1_price 0 = .ok (.aload_n 0, 1) := by decide +kernel
theorem dX1_price_1 : decode cX1_price 1 = .ok (.iload_n 1, 1) := by decide +kernel
theorem dX1_price_2 : decode cX1_price 2 = .ok (.invokespecial 7, 3) := by decide +kernel
theorem dX1_price_5 : decode cX1_price 5 = .ok (.iconst 1, 1) := by decide +kernel
theorem dX1_price_6 : decode cX1_price 6 = .ok (.iadd, 1) := by decide +kernel
theorem dX1_price_7 : decode cX1_price 7 = .ok (.ireturn, 1) := by decide +kernel
theorem dX1_fail_0 : decode cX1_fail 0 = .ok (.return_, 1) := by decide +kernel
theorem dX2_init_0 : decode cX2_init 0 = .ok (.aload_n 0, 1) := by decide +kernel
theorem dX2_init_1 : decode cX2_init 1 = .ok (.invokespecial 1, 3) := by decide +kernel
theorem dX2_init_4 : decode cX2_init 4 = .ok (.return_, 1) := by decide +kernel
theorem dX2_loudness_0 : decode cX2_loudness 0 = .ok (.iconst 2, 1) := by decide +kernel
theorem dX2_loudness_1 : decode cX2_loudness 1 = .ok (.aload_n 0, 1) := by decide +kernel
theorem dX2_loudness_2 : decode cX2_loudness 2 = .ok (.iload_n 1, 1) := by decide +kernel
theorem dX2_loudness_3 : decode cX2_loudness 3 = .ok (.iload_n 2, 1) := by decide +kernel
theorem dX2_loudness_4 : decode cX2_loudness 4 = .ok (.iload_n 3, 1) := by decide +kernel
theorem dX2_loudness_5 : decode cX2_loudness 5 = .ok (.iload 4, 2) := by decide +kernel
theorem dX2_loudness_7 : decode cX2_loudness 7 = .ok (.invokespecial 7, 3) := by decide +kernel
theorem dX2_loudness_10 : decode cX2_loudness 10 = .ok (.imul, 1) := by decide +kernel
theorem dX2_loudness_11 : decode cX2_loudness 11 = .ok (.ireturn, 1) := by decide +kernel
theorem dX2_price_0 : decode cX2_price 0 = .ok (.aload_n 0, 1) := by decide +kernel
theorem dX2_price_1 : decode cX2_price 1 = .ok (.iload_n 1, 1) := by decide +kernel
theorem dX2_price_2 : decode cX2_price 2 = .ok (.invokespecial 11, 3) := by decide +kernel
theorem dX2_price_5 : decode cX2_price 5 = .ok (.iload_n 1, 1) := by decide +kernel
theorem dX2_price_6 : decode cX2_price 6 = .ok (.iadd, 1) := by decide +kernel
theorem dX2_price_7 : decode cX2_price 7 = .ok (.ireturn, 1) := by decide +kernel
theorem dX3_init_0 : decode cX3_init 0 = .ok (.aload_n 0, 1) := by decide +kernel
theorem dX3_init_1 : decode cX3_init 1 = .ok (.invokespecial 1, 3) := by decide +kernel
theorem dX3_init_4 : decode cX3_init 4 = .ok (.return_, 1) := by decide +kernel
theorem dX3_loudness_0 : decode cX3_loudness 0 = .ok (.aload_n 0, 1) := by decide +kernel
theorem dX3_loudness_1 : decode cX3_loudness 1 = .ok (.iload_n 1, 1) := by decide +kernel
theorem dX3_loudness_2 : decode cX3_loudness 2 = .ok (.iload_n 2, 1) := by decide +kernel
theorem dX3_loudness_3 : decode cX3_loudness 3 = .ok (.iload_n 3, 1) := by decide +kernel
theorem dX3_loudness_4 : decode cX3_loudness 4 = .ok (.iload 4, 2) := by decide +kernel
theorem dX3_loudness_6 : decode cX3_loudness 6 = .ok (.invokespecial 7, 3) := by decide +kernel
theorem dX3_loudness_9 : decode cX3_loudness 9 = .ok (.istore 5, 2) := by decide +kernel
theorem dX3_loudness_11 : decode cX3_loudness 11 = .ok (.iload 5, 2) := by decide +kernel
theorem dX3_loudness_13 : decode cX3_loudness 13 = .ok (.ifCond .le 16, 3) := by decide +kernel
theorem dX3_loudness_16 : decode cX3_loudness 16 = .ok (.iload_n 2, 1) := by decide +kernel
theorem dX3_loudness_17 : decode cX3_loudness 17 = .ok (.iconst 2, 1) := by decide +kernel
theorem dX3_loudness_18 : decode cX3_loudness 18 = .ok (.irem, 1) := by decide +kernel
theorem dX3_loudness_19 : decode cX3_loudness 19 = .ok (.ifCond .ne 10, 3) := by decide +kernel
theorem dX3_loudness_22 : decode cX3_loudness 22 = .ok (.iload 5, 2) := by decide +kernel
theorem dX3_loudness_24 : decode cX3_loudness 24 = .ok (.iconst 3, 1) := by decide +kernel
theorem dX3_loudness_25 : decode cX3_loudness 25 = .ok (.iadd, 1) := by decide +kernel
theorem dX3_loudness_26 : decode cX3_loudness 26 = .ok (.goto 5, 3) := by decide +kernel
theorem dX3_loudness_29 : decode cX3_loudness 29 = .ok (.iload 5, 2) := by decide +kernel
theorem dX3_loudness_31 : decode cX3_loudness 31 = .ok (.ireturn, 1) := by decide +kernel
theorem dX3_secondsToHold_0 : decode cX3_secondsToHold 0 = .ok (.aload_n 0, 1) := by decide +kernel
theorem dX3_secondsToHold_1 : decode cX3_secondsToHold 1 = .ok (.iload_n 1, 1) := by decide +kernel
theorem dX3_secondsToHold_2 : decode cX3_secondsToHold 2 = .ok (.invokespecial 11, 3) := by decide +kernel
theorem dX3_secondsToHold_5 : decode cX3_secondsToHold 5 = .ok (.iconst 2, 1) := by decide +kernel
theorem dX3_secondsToHold_6 : decode cX3_secondsToHold 6 = .ok (.iadd, 1) := by decide +kernel
theorem dX3_secondsToHold_7 : decode cX3_secondsToHold 7 = .ok (.ireturn, 1) := by decide +kernel
theorem dX3_price_0 : decode cX3_price 0 = .ok (.aload_n 0, 1) := by decide +kernel
theorem dX3_price_1 : decode cX3_price 1 = .ok (.iload_n 1, 1) := by decide +kernel
theorem dX3_price_2 : decode cX3_price 2 = .ok (.invokespecial 15, 3) := by decide +kernel
theorem dX3_price_5 : decode cX3_price 5 = .ok (.iconst 2, 1) := by decide +kernel
theorem dX3_price_6 : decode cX3_price 6 = .ok (.iadd, 1) := by decide +kernel
theorem dX3_price_7 : decode cX3_price 7 = .ok (.ireturn, 1) := by decide +kernel
theorem dX3_fail_0 : decode cX3_fail 0 = .ok (.iload_n 1, 1) := by decide +kernel
theorem dX3_fail_1 : decode cX3_fail 1 = .ok (.ifCond .le 11, 3) := by decide +kernel
theorem dX3_fail_4 : decode cX3_fail 4 = .ok (.new 18, 3) := by decide +kernel
theorem dX3_fail_7 : decode cX3_fail 7 = .ok (.dup, 1) := by decide +kernel
theorem dX3_fail_8 : decode cX3_fail 8 = .ok (.invokespecial 20, 3) := by decide +kernel
theorem dX3_fail_11 : decode cX3_fail 11 = .ok (.athrow, 1) := by decide +kernel
theorem dX3_fail_12 : decode cX3_fail 12 = .ok (.return_, 1) := by decide +kernel
theorem dX4_init_0 : decode cX4_init 0 = .ok (.aload_n 0, 1) := by decide +kernel
theorem dX4_init_1 : decode cX4_init 1 = .ok (.invokespecial 1, 3) := by decide +kernel
theorem dX4_init_4 : decode cX4_init 4 = .ok (.return_, 1) := by decide +kernel
theorem dX4_loudness_0 : decode cX4_loudness 0 = .ok (.iload_n 3, 1) := by decide +kernel
theorem dX4_loudness_1 : decode cX4_loudness 1 = .ok (.iconst 5, 1) := by decide +kernel
theorem dX4_loudness_2 : decode cX4_loudness 2 = .ok (.if_icmp .lt 15, 3) := by decide +kernel
theorem dX4_loudness_5 : decode cX4_loudness 5 = .ok (.aload_n 0, 1) := by decide +kernel
theorem dX4_loudness_6 : decode cX4_loudness 6 = .ok (.iload_n 1, 1) := by decide +kernel
theorem dX4_loudness_7 : decode cX4_loudness 7 = .ok (.iload_n 2, 1) := by decide +kernel
theorem dX4_loudness_8 : decode cX4_loudness 8 = .ok (.iload_n 3, 1) := by decide +kernel
theorem dX4_loudness_9 : decode cX4_loudness 9 = .ok (.iload 4, 2) := by decide +kernel
theorem dX4_loudness_11 : decode cX4_loudness 11 = .ok (.invokespecial 7, 3) := by decide +kernel
theorem dX4_loudness_14 : decode cX4_loudness 14 = .ok (.goto 4, 3) := by decide +kernel
theorem dX4_loudness_17 : decode cX4_loudness 17 = .ok (.iconst 0, 1) := by decide +kernel
theorem dX4_loudness_18 : decode cX4_loudness 18 = .ok (.ireturn, 1) := by decide +kernel
theorem dX4_secondsToHold_0 : decode cX4_secondsToHold 0 = .ok (.iconst 2, 1) := by decide +kernel
theorem dX4_secondsToHold_1 : decode cX4_secondsToHold 1 = .ok (.aload_n 0, 1) := by decide +kernel
theorem dX4_secondsToHold_2 : decode cX4_secondsToHold 2 = .ok (.iload_n 1, 1) := by decide +kernel
theorem dX4_secondsToHold_3 : decode cX4_secondsToHold 3 = .ok (.invokespecial 11, 3) := by decide +kernel
theorem dX4_secondsToHold_6 : decode cX4_secondsToHold 6 = .ok (.imul, 1) := by decide +kernel
theorem dX4_secondsToHold_7 : decode cX4_secondsToHold 7 = .ok (.ireturn, 1) := by decide +kernel
theorem dX4_price_0 : decode cX4_price 0 = .ok (.iconst 2, 1) := by decide +kernel
theorem dX4_price_1 : decode cX4_price 1 = .ok (.aload_n 0, 1) := by decide +kernel
theorem dX4_price_2 : decode cX4_price 2 = .ok (.iload_n 1, 1) := by decide +kernel
theorem dX4_price_3 : decode cX4_price 3 = .ok (.invokespecial 15, 3) := by decide +kernel
theorem dX4_price_6 : decode cX4_price 6 = .ok (.imul, 1) := by decide +kernel
theorem dX4_price_7 : decode cX4_price 7 = .ok (.ireturn, 1) := by decide +kernel
theorem dX5_init_0 : decode cX5_init 0 = .ok (.aload_n 0, 1) := by decide +kernel
theorem dX5_init_1 : decode cX5_init 1 = .ok (.invokespecial 1, 3) := by decide +kernel
theorem dX5_init_4 : decode cX5_init 4 = .ok (.return_, 1) := by decide +kernel
theorem dX5_loudness_0 : decode cX5_loudness 0 = .ok (.iconst 0, 1) := by decide +kernel
theorem dX5_loudness_1 : decode cX5_loudness 1 = .ok (.aload_n 0, 1) := by decide +kernel
theorem dX5_loudness_2 : decode cX5_loudness 2 = .ok (.iload_n 1, 1) := by decide +kernel
theorem dX5_loudness_3 : decode cX5_loudness 3 = .ok (.iload_n 2, 1) := by decide +kernel
theorem dX5_loudness_4 : decode cX5_loudness 4 = .ok (.iload_n 3, 1) := by decide +kernel
theorem dX5_loudness_5 : decode cX5_loudness 5 = .ok (.iload 4, 2) := by decide +kernel
theorem dX5_loudness_7 : decode cX5_loudness 7 = .ok (.invokespecial 7, 3) := by decide +kernel
theorem dX5_loudness_10 : decode cX5_loudness 10 = .ok (.iload 4, 2) := by decide +kernel
theorem dX5_loudness_12 : decode cX5_loudness 12 = .ok (.isub, 1) := by decide +kernel
theorem dX5_loudness_13 : decode cX5_loudness 13 = .ok (.invokestatic 11, 3) := by decide +kernel
theorem dX5_loudness_16 : decode cX5_loudness 16 = .ok (.ireturn, 1) := by decide +kernel
theorem dX5_secondsToHold_0 : decode cX5_secondsToHold 0 = .ok (.aload_n 0, 1) := by decide +kernel
theorem dX5_secondsToHold_1 : decode cX5_secondsToHold 1 = .ok (.iload_n 1, 1) := by decide +kernel
theorem dX5_secondsToHold_2 : decode cX5_secondsToHold 2 = .ok (.invokespecial 17, 3) := by decide +kernel
theorem dX5_secondsToHold_5 : decode cX5_secondsToHold 5 = .ok (.iconst 5, 1) := by decide +kernel
theorem dX5_secondsToHold_6 : decode cX5_secondsToHold 6 = .ok (.iadd, 1) := by decide +kernel
theorem dX5_secondsToHold_7 : decode cX5_secondsToHold 7 = .ok (.ireturn, 1) := by decide +kernel
theorem dX5_price_0 : decode cX5_price 0 = .ok (.aload_n 0, 1) := by decide +kernel
theorem dX5_price_1 : decode cX5_price 1 = .ok (.iload_n 1, 1) := by decide +kernel
theorem dX5_price_2 : decode cX5_price 2 = .ok (.invokespecial 21, 3) := by decide +kernel
theorem dX5_price_5 : decode cX5_price 5 = .ok (.bipush 6, 2) := by decide +kernel
theorem dX5_price_7 : decode cX5_price 7 = .ok (.iadd, 1) := by decide +kernel
theorem dX5_price_8 : decode cX5_price 8 = .ok (.ireturn, 1) := by decide +kernel
theorem dX6_init_0 : decode cX6_init 0 = .ok (.aload_n 0, 1) := by decide +kernel
theorem dX6_init_1 : decode cX6_init 1 = .ok (.invokespecial 1, 3) := by decide +kernel
theorem dX6_init_4 : decode cX6_init 4 = .ok (.return_, 1) := by decide +kernel
theorem dX6_loudness_0 : decode cX6_loudness 0 = .ok (.iload_n 2, 1) := by decide +kernel
theorem dX6_loudness_1 : decode cX6_loudness 1 = .ok (.bipush 30, 2) := by decide +kernel
theorem dX6_loudness_3 : decode cX6_loudness 3 = .ok (.if_icmp .lt 7, 3) := by decide +kernel
theorem dX6_loudness_6 : decode cX6_loudness 6 = .ok (.iload_n 1, 1) := by decide +kernel
theorem dX6_loudness_7 : decode cX6_loudness 7 = .ok (.goto 4, 3) := by decide +kernel
theorem dX6_loudness_10 : decode cX6_loudness 10 = .ok (.iconst 0, 1) := by decide +kernel
theorem dX6_loudness_11 : decode cX6_loudness 11 = .ok (.ireturn, 1) := by decide +kernel
theorem dX6_secondsToHold_0 : decode cX6_secondsToHold 0 = .ok (.aload_n 0, 1) := by decide +kernel
theorem dX6_secondsToHold_1 : decode cX6_secondsToHold 1 = .ok (.iload_n 1, 1) := by decide +kernel
theorem dX6_secondsToHold_2 : decode cX6_secondsToHold 2 = .ok (.invokespecial 7, 3) := by decide +kernel
theorem dX6_secondsToHold_5 : decode cX6_secondsToHold 5 = .ok (.iconst 4, 1) := by decide +kernel
theorem dX6_secondsToHold_6 : decode cX6_secondsToHold 6 = .ok (.isub, 1) := by decide +kernel
theorem dX6_secondsToHold_7 : decode cX6_secondsToHold 7 = .ok (.ireturn, 1) := by decide +kernel
theorem dX6_loosensBy_0 : decode cX6_loosensBy 0 = .ok (.aload_n 0, 1) := by decide +kernel
theorem dX6_loosensBy_1 : decode cX6_loosensBy 1 = .ok (.invokespecial 11, 3) := by decide +kernel
theorem dX6_loosensBy_4 : decode cX6_loosensBy 4 = .ok (.iconst 2, 1) := by decide +kernel
theorem dX6_loosensBy_5 : decode cX6_loosensBy 5 = .ok (.iadd, 1) := by decide +kernel
theorem dX6_loosensBy_6 : decode cX6_loosensBy 6 = .ok (.ireturn, 1) := by decide +kernel
theorem dX6_price_0 : decode cX6_price 0 = .ok (.aload_n 0, 1) := by decide +kernel
theorem dX6_price_1 : decode cX6_price 1 = .ok (.iload_n 1, 1) := by decide +kernel
theorem dX6_price_2 : decode cX6_price 2 = .ok (.invokespecial 15, 3) := by decide +kernel
theorem dX6_price_5 : decode cX6_price 5 = .ok (.iconst 1, 1) := by decide +kernel
theorem dX6_price_6 : decode cX6_price 6 = .ok (.isub, 1) := by decide +kernel
theorem dX6_price_7 : decode cX6_price 7 = .ok (.ireturn, 1) := by decide +kernel
theorem dX7_init_0 : decode cX7_init 0 = .ok (.aload_n 0, 1) := by decide +kernel
theorem dX7_init_1 : decode cX7_init 1 = .ok (.invokespecial 1, 3) := by decide +kernel
theorem dX7_init_4 : decode cX7_init 4 = .ok (.return_, 1) := by decide +kernel
theorem dX7_loudness_0 : decode cX7_loudness 0 = .ok (.iload_n 2, 1) := by decide +kernel
theorem dX7_loudness_1 : decode cX7_loudness 1 = .ok (.bipush 48, 2) := by decide +kernel
theorem dX7_loudness_3 : decode cX7_loudness 3 = .ok (.if_icmp .lt 13, 3) := by decide +kernel
theorem dX7_loudness_6 : decode cX7_loudness 6 = .ok (.iload_n 2, 1) := by decide +kernel
theorem dX7_loudness_7 : decode cX7_loudness 7 = .ok (.bipush 53, 2) := by decide +kernel
theorem dX7_loudness_9 : decode cX7_loudness 9 = .ok (.if_icmp .gt 7, 3) := by decide +kernel
theorem dX7_loudness_12 : decode cX7_loudness 12 = .ok (.iload_n 1, 1) := by decide +kernel
theorem dX7_loudness_13 : decode cX7_loudness 13 = .ok (.goto 4, 3) := by decide +kernel
theorem dX7_loudness_16 : decode cX7_loudness 16 = .ok (.iconst 0, 1) := by decide +kernel
theorem dX7_loudness_17 : decode cX7_loudness 17 = .ok (.ireturn, 1) := by decide +kernel
theorem dX7_secondsToHold_0 : decode cX7_secondsToHold 0 = .ok (.bipush 10, 2) := by decide +kernel
theorem dX7_secondsToHold_2 : decode cX7_secondsToHold 2 = .ok (.ireturn, 1) := by decide +kernel
theorem dX7_loosensBy_0 : decode cX7_loosensBy 0 = .ok (.iconst 1, 1) := by decide +kernel
theorem dX7_loosensBy_1 : decode cX7_loosensBy 1 = .ok (.ireturn, 1) := by decide +kernel
theorem dX7_price_0 : decode cX7_price 0 = .ok (.iconst 3, 1) := by decide +kernel
theorem dX7_price_1 : decode cX7_price 1 = .ok (.ireturn, 1) := by decide +kernel
theorem dX7_fail_0 : decode cX7_fail 0 = .ok (.iload_n 1, 1) := by decide +kernel
theorem dX7_fail_1 : decode cX7_fail 1 = .ok (.ifCond .le 11, 3) := by decide +kernel
theorem dX7_fail_4 : decode cX7_fail 4 = .ok (.new 7, 3) := by decide +kernel
theorem dX7_fail_7 : decode cX7_fail 7 = .ok (.dup, 1) := by decide +kernel
theorem dX7_fail_8 : decode cX7_fail 8 = .ok (.invokespecial 9, 3) := by decide +kernel
theorem dX7_fail_11 : decode cX7_fail 11 = .ok (.athrow, 1) := by decide +kernel
theorem dX7_fail_12 : decode cX7_fail 12 = .ok (.return_, 1) := by decide +kernel
theorem dX8_digitsBehind_0 : decode cX8_digitsBehind 0 = .ok (.iload_n 0, 1) := by decide +kernel
theorem dX8_digitsBehind_1 : decode cX8_digitsBehind 1 = .ok (.tableswitch 105 99 119 #[103, 101, 105, 105, 105, 103, 105, 105, 105, 103, 105, 105, 103, 99, 105, 101, 101, 103, 105, 105, 103], 99) := by decide +kernel
theorem dX8_digitsBehind_100 : decode cX8_digitsBehind 100 = .ok (.iconst 4, 1) := by decide +kernel
theorem dX8_digitsBehind_101 : decode cX8_digitsBehind 101 = .ok (.ireturn, 1) := by decide +kernel
theorem dX8_digitsBehind_102 : decode cX8_digitsBehind 102 = .ok (.iconst 2, 1) := by decide +kernel
theorem dX8_digitsBehind_103 : decode cX8_digitsBehind 103 = .ok (.ireturn, 1) := by decide +kernel
theorem dX8_digitsBehind_104 : decode cX8_digitsBehind 104 = .ok (.iconst 1, 1) := by decide +kernel
theorem dX8_digitsBehind_105 : decode cX8_digitsBehind 105 = .ok (.ireturn, 1) := by decide +kernel
theorem dX8_digitsBehind_106 : decode cX8_digitsBehind 106 = .ok (.iconst 0, 1) := by decide +kernel
theorem dX8_digitsBehind_107 : decode cX8_digitsBehind 107 = .ok (.ireturn, 1) := by decide +kernel
theorem dX8_placeOfFormFault_0 : decode cX8_placeOfFormFault 0 = .ok (.iconst 0, 1) := by decide +kernel
theorem dX8_placeOfFormFault_1 : decode cX8_placeOfFormFault 1 = .ok (.istore_n 1, 1) := by decide +kernel
theorem dX8_placeOfFormFault_2 : decode cX8_placeOfFormFault 2 = .ok (.iconst 0, 1) := by decide +kernel
theorem dX8_placeOfFormFault_3 : decode cX8_placeOfFormFault 3 = .ok (.istore_n 2, 1) := by decide +kernel
theorem dX8_placeOfFormFault_4 : decode cX8_placeOfFormFault 4 = .ok (.iconst 0, 1) := by decide +kernel
theorem dX8_placeOfFormFault_5 : decode cX8_placeOfFormFault 5 = .ok (.istore_n 3, 1) := by decide +kernel
theorem dX8_placeOfFormFault_6 : decode cX8_placeOfFormFault 6 = .ok (.iload_n 3, 1) := by decide +kernel
theorem dX8_placeOfFormFault_7 : decode cX8_placeOfFormFault 7 = .ok (.aload_n 0, 1) := by decide +kernel
theorem dX8_placeOfFormFault_8 : decode cX8_placeOfFormFault 8 = .ok (.getfield 9, 3) := by decide +kernel
theorem dX8_placeOfFormFault_11 : decode cX8_placeOfFormFault 11 = .ok (.if_icmp .ge 77, 3) := by decide +kernel
theorem dX8_placeOfFormFault_14 : decode cX8_placeOfFormFault 14 = .ok (.iload_n 1, 1) := by decide +kernel
theorem dX8_placeOfFormFault_15 : decode cX8_placeOfFormFault 15 = .ok (.ifCond .ne 29, 3) := by decide +kernel
theorem dX8_placeOfFormFault_18 : decode cX8_placeOfFormFault 18 = .ok (.aload_n 0, 1) := by decide +kernel
theorem dX8_placeOfFormFault_19 : decode cX8_placeOfFormFault 19 = .ok (.getfield 15, 3) := by decide +kernel
theorem dX8_placeOfFormFault_22 : decode cX8_placeOfFormFault 22 = .ok (.iload_n 3, 1) := by decide +kernel
theorem dX8_placeOfFormFault_23 : decode cX8_placeOfFormFault 23 = .ok (.iaload, 1) := by decide +kernel
theorem dX8_placeOfFormFault_24 : decode cX8_placeOfFormFault 24 = .ok (.invokestatic 19, 3) := by decide +kernel
theorem dX8_placeOfFormFault_27 : decode cX8_placeOfFormFault 27 = .ok (.istore_n 2, 1) := by decide +kernel
theorem dX8_placeOfFormFault_28 : decode cX8_placeOfFormFault 28 = .ok (.iload_n 2, 1) := by decide +kernel
theorem dX8_placeOfFormFault_29 : decode cX8_placeOfFormFault 29 = .ok (.ifCond .le 7, 3) := by decide +kernel
theorem dX8_placeOfFormFault_32 : decode cX8_placeOfFormFault 32 = .ok (.iconst 1, 1) := by decide +kernel
theorem dX8_placeOfFormFault_33 : decode cX8_placeOfFormFault 33 = .ok (.goto 4, 3) := by decide +kernel
theorem dX8_placeOfFormFault_36 : decode cX8_placeOfFormFault 36 = .ok (.iconst 0, 1) := by decide +kernel
theorem dX8_placeOfFormFault_37 : decode cX8_placeOfFormFault 37 = .ok (.istore_n 1, 1) := by decide +kernel
theorem dX8_placeOfFormFault_38 : decode cX8_placeOfFormFault 38 = .ok (.iload_n 1, 1) := by decide +kernel
theorem dX8_placeOfFormFault_39 : decode cX8_placeOfFormFault 39 = .ok (.ifCond .ne 43, 3) := by decide +kernel
theorem dX8_placeOfFormFault_42 : decode cX8_placeOfFormFault 42 = .ok (.iload_n 3, 1) := by decide +kernel
theorem dX8_placeOfFormFault_43 : decode cX8_placeOfFormFault 43 = .ok (.ireturn, 1) := by decide +kernel
theorem dX8_placeOfFormFault_44 : decode cX8_placeOfFormFault 44 = .ok (.iload_n 2, 1) := by decide +kernel
theorem dX8_placeOfFormFault_45 : decode cX8_placeOfFormFault 45 = .ok (.ifCond .le 19, 3) := by decide +kernel
theorem dX8_placeOfFormFault_48 : decode cX8_placeOfFormFault 48 = .ok (.aload_n 0, 1) := by decide +kernel
theorem dX8_placeOfFormFault_49 : decode cX8_placeOfFormFault 49 = .ok (.iload_n 3, 1) := by decide +kernel
theorem dX8_placeOfFormFault_50 : decode cX8_placeOfFormFault 50 = .ok (.invokevirtual 25, 3) := by decide +kernel
theorem dX8_placeOfFormFault_53 : decode cX8_placeOfFormFault 53 = .ok (.ifCond .ne 5, 3) := by decide +kernel
theorem dX8_placeOfFormFault_56 : decode cX8_placeOfFormFault 56 = .ok (.iload_n 3, 1) := by decide +kernel
theorem dX8_placeOfFormFault_57 : decode cX8_placeOfFormFault 57 = .ok (.ireturn, 1) := by decide +kernel
theorem dX8_placeOfFormFault_58 : decode cX8_placeOfFormFault 58 = .ok (.iinc 2 (-1), 3) := by decide +kernel
theorem dX8_placeOfFormFault_61 : decode cX8_placeOfFormFault 61 = .ok (.goto 21, 3) := by decide +kernel
theorem dX8_placeOfFormFault_64 : decode cX8_placeOfFormFault 64 = .ok (.aload_n 0, 1) := by decide +kernel
theorem dX8_placeOfFormFault_65 : decode cX8_placeOfFormFault 65 = .ok (.getfield 15, 3) := by decide +kernel
theorem dX8_placeOfFormFault_68 : decode cX8_placeOfFormFault 68 = .ok (.iload_n 3, 1) := by decide +kernel
theorem dX8_placeOfFormFault_69 : decode cX8_placeOfFormFault 69 = .ok (.iaload, 1) := by decide +kernel
theorem dX8_placeOfFormFault_70 : decode cX8_placeOfFormFault 70 = .ok (.bipush 59, 2) := by decide +kernel
theorem dX8_placeOfFormFault_72 : decode cX8_placeOfFormFault 72 = .ok (.if_icmp .ne 8, 3) := by decide +kernel
theorem dX8_placeOfFormFault_75 : decode cX8_placeOfFormFault 75 = .ok (.iconst 0, 1) := by decide +kernel
theorem dX8_placeOfFormFault_76 : decode cX8_placeOfFormFault 76 = .ok (.istore_n 1, 1) := by decide +kernel
theorem dX8_placeOfFormFault_77 : decode cX8_placeOfFormFault 77 = .ok (.goto 5, 3) := by decide +kernel
theorem dX8_placeOfFormFault_80 : decode cX8_placeOfFormFault 80 = .ok (.iload_n 3, 1) := by decide +kernel
theorem dX8_placeOfFormFault_81 : decode cX8_placeOfFormFault 81 = .ok (.ireturn, 1) := by decide +kernel
theorem dX8_placeOfFormFault_82 : decode cX8_placeOfFormFault 82 = .ok (.iinc 3 1, 3) := by decide +kernel
theorem dX8_placeOfFormFault_85 : decode cX8_placeOfFormFault 85 = .ok (.goto (-79), 3) := by decide +kernel
theorem dX8_placeOfFormFault_88 : decode cX8_placeOfFormFault 88 = .ok (.iload_n 1, 1) := by decide +kernel
theorem dX8_placeOfFormFault_89 : decode cX8_placeOfFormFault 89 = .ok (.ifCond .ne 10, 3) := by decide +kernel
theorem dX8_placeOfFormFault_92 : decode cX8_placeOfFormFault 92 = .ok (.aload_n 0, 1) := by decide +kernel
theorem dX8_placeOfFormFault_93 : decode cX8_placeOfFormFault 93 = .ok (.getfield 9, 3) := by decide +kernel
theorem dX8_placeOfFormFault_96 : decode cX8_placeOfFormFault 96 = .ok (.ifCond .ne 10, 3) := by decide +kernel
theorem dX8_placeOfFormFault_99 : decode cX8_placeOfFormFault 99 = .ok (.aload_n 0, 1) := by decide +kernel
theorem dX8_placeOfFormFault_100 : decode cX8_placeOfFormFault 100 = .ok (.getfield 9, 3) := by decide +kernel
theorem dX8_placeOfFormFault_103 : decode cX8_placeOfFormFault 103 = .ok (.goto 4, 3) := by decide +kernel
theorem dX8_placeOfFormFault_106 : decode cX8_placeOfFormFault 106 = .ok (.iconst (-1), 1) := by decide +kernel
theorem dX8_placeOfFormFault_107 : decode cX8_placeOfFormFault 107 = .ok (.ireturn, 1) := by decide +kernel
theorem dX8_follow_0 : decode cX8_follow 0 = .ok (.iconst 0, 1) := by decide +kernel
theorem dX8_follow_1 : decode cX8_follow 1 = .ok (.istore_n 2, 1) := by decide +kernel
theorem dX8_follow_2 : decode cX8_follow 2 = .ok (.iconst 0, 1) := by decide +kernel
theorem dX8_follow_3 : decode cX8_follow 3 = .ok (.istore_n 3, 1) := by decide +kernel
theorem dX8_follow_4 : decode cX8_follow 4 = .ok (.iload_n 3, 1) := by decide +kernel
theorem dX8_follow_5 : decode cX8_follow 5 = .ok (.aload_n 0, 1) := by decide +kernel
theorem dX8_follow_6 : decode cX8_follow 6 = .ok (.getfield 9, 3) := by decide +kernel
theorem dX8_follow_9 : decode cX8_follow 9 = .ok (.if_icmp .ge 38, 3) := by decide +kernel
theorem dX8_follow_12 : decode cX8_follow 12 = .ok (.aload_n 0, 1) := by decide +kernel
theorem dX8_follow_13 : decode cX8_follow 13 = .ok (.iload_n 3, 1) := by decide +kernel
theorem dX8_follow_14 : decode cX8_follow 14 = .ok (.aload_n 1, 1) := by decide +kernel
theorem dX8_follow_15 : decode cX8_follow 15 = .ok (.invokestatic 29, 3) := by decide +kernel
theorem dX8_follow_18 : decode cX8_follow 18 = .ok (.ifCond .ne 9, 3) := by decide +kernel
theorem dX8_follow_21 : decode cX8_follow 21 = .ok (.sipush (-2000), 3) := by decide +kernel
theorem dX8_follow_24 : decode cX8_follow 24 = .ok (.iload_n 3, 1) := by decide +kernel
theorem dX8_follow_25 : decode cX8_follow 25 = .ok (.isub, 1) := by decide +kernel
theorem dX8_follow_26 : decode cX8_follow 26 = .ok (.ireturn, 1) := by decide +kernel
theorem dX8_follow_27 : decode cX8_follow 27 = .ok (.iinc 2 1, 3) := by decide +kernel
theorem dX8_follow_30 : decode cX8_follow 30 = .ok (.iload_n 3, 1) := by decide +kernel
theorem dX8_follow_31 : decode cX8_follow 31 = .ok (.aload_n 0, 1) := by decide +kernel
theorem dX8_follow_32 : decode cX8_follow 32 = .ok (.getfield 15, 3) := by decide +kernel
theorem dX8_follow_35 : decode cX8_follow 35 = .ok (.iload_n 3, 1) := by decide +kernel
theorem dX8_follow_36 : decode cX8_follow 36 = .ok (.iaload, 1) := by decide +kernel
theorem dX8_follow_37 : decode cX8_follow 37 = .ok (.invokestatic 19, 3) := by decide +kernel
theorem dX8_follow_40 : decode cX8_follow 40 = .ok (.iconst 2, 1) := by decide +kernel
theorem dX8_follow_41 : decode cX8_follow 41 = .ok (.iadd, 1) := by decide +kernel
theorem dX8_follow_42 : decode cX8_follow 42 = .ok (.iadd, 1) := by decide +kernel
theorem dX8_follow_43 : decode cX8_follow 43 = .ok (.istore_n 3, 1) := by decide +kernel
theorem dX8_follow_44 : decode cX8_follow 44 = .ok (.goto (-40), 3) := by decide +kernel
theorem dX8_follow_47 : decode cX8_follow 47 = .ok (.iload_n 2, 1) := by decide +kernel
theorem dX8_follow_48 : decode cX8_follow 48 = .ok (.ireturn, 1) := by decide +kernel
theorem dX8_can_0 : decode cX8_can 0 = .ok (.aload_n 0, 1) := by decide +kernel
theorem dX8_can_1 : decode cX8_can 1 = .ok (.iload_n 1, 1) := by decide +kernel
theorem dX8_can_2 : decode cX8_can 2 = .ok (.iconst 1, 1) := by decide +kernel
theorem dX8_can_3 : decode cX8_can 3 = .ok (.iadd, 1) := by decide +kernel
theorem dX8_can_4 : decode cX8_can 4 = .ok (.aload_n 0, 1) := by decide +kernel
theorem dX8_can_5 : decode cX8_can 5 = .ok (.getfield 15, 3) := by decide +kernel
theorem dX8_can_8 : decode cX8_can 8 = .ok (.iload_n 1, 1) := by decide +kernel
theorem dX8_can_9 : decode cX8_can 9 = .ok (.iaload, 1) := by decide +kernel
theorem dX8_can_10 : decode cX8_can 10 = .ok (.invokestatic 19, 3) := by decide +kernel
theorem dX8_can_13 : decode cX8_can 13 = .ok (.invokevirtual 33, 3) := by decide +kernel
theorem dX8_can_16 : decode cX8_can 16 = .ok (.istore_n 3, 1) := by decide +kernel
theorem dX8_can_17 : decode cX8_can 17 = .ok (.aload_n 0, 1) := by decide +kernel
theorem dX8_can_18 : decode cX8_can 18 = .ok (.getfield 15, 3) := by decide +kernel
theorem dX8_can_21 : decode cX8_can 21 = .ok (.iload_n 1, 1) := by decide +kernel
theorem dX8_can_22 : decode cX8_can 22 = .ok (.iaload, 1) := by decide +kernel
theorem dX8_can_23 : decode cX8_can 23 = .ok (.tableswitch 263 99 119 #[148, 249, 263, 263, 263, 193, 263, 263, 263, 163, 263, 263, 221, 97, 263, 178, 133, 235, 263, 263, 207], 97) := by decide +kernel
theorem dX8_can_120 : decode cX8_can 120 = .ok (.aload_n 2, 1) := by decide +kernel
theorem dX8_can_121 : decode cX8_can 121 = .ok (.iload_n 3, 1) := by decide +kernel
theorem dX8_can_122 : decode cX8_can 122 = .ok (.sipush 1000, 3) := by decide +kernel
theorem dX8_can_125 : decode cX8_can 125 = .ok (.idiv, 1) := by decide +kernel
theorem dX8_can_126 : decode cX8_can 126 = .ok (.iload_n 3, 1) := by decide +kernel
theorem dX8_can_127 : decode cX8_can 127 = .ok (.bipush 100, 2) := by decide +kernel
theorem dX8_can_129 : decode cX8_can 129 = .ok (.idiv, 1) := by decide +kernel
theorem dX8_can_130 : decode cX8_can 130 = .ok (.bipush 10, 2) := by decide +kernel
theorem dX8_can_132 : decode cX8_can 132 = .ok (.irem, 1) := by decide +kernel
theorem dX8_can_133 : decode cX8_can 133 = .ok (.iload_n 3, 1) := by decide +kernel
theorem dX8_can_134 : decode cX8_can 134 = .ok (.bipush 10, 2) := by decide +kernel
theorem dX8_can_136 : decode cX8_can 136 = .ok (.idiv, 1) := by decide +kernel
theorem dX8_can_137 : decode cX8_can 137 = .ok (.bipush 10, 2) := by decide +kernel
theorem dX8_can_139 : decode cX8_can 139 = .ok (.irem, 1) := by decide +kernel
theorem dX8_can_140 : decode cX8_can 140 = .ok (.iload_n 3, 1) := by decide +kernel
theorem dX8_can_141 : decode cX8_can 141 = .ok (.bipush 10, 2) := by decide +kernel
theorem dX8_can_143 : decode cX8_can 143 = .ok (.irem, 1) := by decide +kernel
theorem dX8_can_144 : decode cX8_can 144 = .ok (.invokevirtual 37, 3) := by decide +kernel
theorem dX8_can_147 : decode cX8_can 147 = .ok (.ifCond .lt 7, 3) := by decide +kernel
theorem dX8_can_150 : decode cX8_can 150 = .ok (.iconst 1, 1) := by decide +kernel
theorem dX8_can_151 : decode cX8_can 151 = .ok (.goto 4, 3) := by decide +kernel
theorem dX8_can_154 : decode cX8_can 154 = .ok (.iconst 0, 1) := by decide +kernel
theorem dX8_can_155 : decode cX8_can 155 = .ok (.ireturn, 1) := by decide +kernel
theorem dX8_can_156 : decode cX8_can 156 = .ok (.aload_n 2, 1) := by decide +kernel
theorem dX8_can_157 : decode cX8_can 157 = .ok (.iconst 0, 1) := by decide +kernel
theorem dX8_can_158 : decode cX8_can 158 = .ok (.iload_n 3, 1) := by decide +kernel
theorem dX8_can_159 : decode cX8_can 159 = .ok (.invokevirtual 43, 3) := by decide +kernel
theorem dX8_can_162 : decode cX8_can 162 = .ok (.ifCond .lt 7, 3) := by decide +kernel
theorem dX8_can_165 : decode cX8_can 165 = .ok (.iconst 1, 1) := by decide +kernel
theorem dX8_can_166 : decode cX8_can 166 = .ok (.goto 4, 3) := by decide +kernel
theorem dX8_can_169 : decode cX8_can 169 = .ok (.iconst 0, 1) := by decide +kernel
theorem dX8_can_170 : decode cX8_can 170 = .ok (.ireturn, 1) := by decide +kernel
theorem dX8_can_171 : decode cX8_can 171 = .ok (.aload_n 2, 1) := by decide +kernel
theorem dX8_can_172 : decode cX8_can 172 = .ok (.iconst 1, 1) := by decide +kernel
theorem dX8_can_173 : decode cX8_can 173 = .ok (.iload_n 3, 1) := by decide +kernel
theorem dX8_can_174 : decode cX8_can 174 = .ok (.invokevirtual 43, 3) := by decide +kernel
theorem dX8_can_177 : decode cX8_can 177 = .ok (.ifCond .lt 7, 3) := by decide +kernel
theorem dX8_can_180 : decode cX8_can 180 = .ok (.iconst 1, 1) := by decide +kernel
theorem dX8_can_181 : decode cX8_can 181 = .ok (.goto 4, 3) := by decide +kernel
theorem dX8_can_184 : decode cX8_can 184 = .ok (.iconst 0, 1) := by decide +kernel
theorem dX8_can_185 : decode cX8_can 185 = .ok (.ireturn, 1) := by decide +kernel
theorem dX8_can_186 : decode cX8_can 186 = .ok (.aload_n 2, 1) := by decide +kernel
theorem dX8_can_187 : decode cX8_can 187 = .ok (.iconst 2, 1) := by decide +kernel
theorem dX8_can_188 : decode cX8_can 188 = .ok (.iload_n 3, 1) := by decide +kernel
theorem dX8_can_189 : decode cX8_can 189 = .ok (.invokevirtual 43, 3) := by decide +kernel
theorem dX8_can_192 : decode cX8_can 192 = .ok (.ifCond .lt 7, 3) := by decide +kernel
theorem dX8_can_195 : decode cX8_can 195 = .ok (.iconst 1, 1) := by decide +kernel
theorem dX8_can_196 : decode cX8_can 196 = .ok (.goto 4, 3) := by decide +kernel
theorem dX8_can_199 : decode cX8_can 199 = .ok (.iconst 0, 1) := by decide +kernel
theorem dX8_can_200 : decode cX8_can 200 = .ok (.ireturn, 1) := by decide +kernel
theorem dX8_can_201 : decode cX8_can 201 = .ok (.aload_n 2, 1) := by decide +kernel
theorem dX8_can_202 : decode cX8_can 202 = .ok (.iconst 3, 1) := by decide +kernel
theorem dX8_can_203 : decode cX8_can 203 = .ok (.iload_n 3, 1) := by decide +kernel
theorem dX8_can_204 : decode cX8_can 204 = .ok (.invokevirtual 43, 3) := by decide +kernel
theorem dX8_can_207 : decode cX8_can 207 = .ok (.ifCond .lt 7, 3) := by decide +kernel
theorem dX8_can_210 : decode cX8_can 210 = .ok (.iconst 1, 1) := by decide +kernel
theorem dX8_can_211 : decode cX8_can 211 = .ok (.goto 4, 3) := by decide +kernel
theorem dX8_can_214 : decode cX8_can 214 = .ok (.iconst 0, 1) := by decide +kernel
theorem dX8_can_215 : decode cX8_can 215 = .ok (.ireturn, 1) := by decide +kernel
theorem dX8_can_216 : decode cX8_can 216 = .ok (.aload_n 2, 1) := by decide +kernel
theorem dX8_can_217 : decode cX8_can 217 = .ok (.iload_n 3, 1) := by decide +kernel
theorem dX8_can_218 : decode cX8_can 218 = .ok (.invokevirtual 46, 3) := by decide +kernel
theorem dX8_can_221 : decode cX8_can 221 = .ok (.ifCond .lt 7, 3) := by decide +kernel
theorem dX8_can_224 : decode cX8_can 224 = .ok (.iconst 1, 1) := by decide +kernel
theorem dX8_can_225 : decode cX8_can 225 = .ok (.goto 4, 3) := by decide +kernel
theorem dX8_can_228 : decode cX8_can 228 = .ok (.iconst 0, 1) := by decide +kernel
theorem dX8_can_229 : decode cX8_can 229 = .ok (.ireturn, 1) := by decide +kernel
theorem dX8_can_230 : decode cX8_can 230 = .ok (.aload_n 2, 1) := by decide +kernel
theorem dX8_can_231 : decode cX8_can 231 = .ok (.iload_n 3, 1) := by decide +kernel
theorem dX8_can_232 : decode cX8_can 232 = .ok (.invokevirtual 49, 3) := by decide +kernel
theorem dX8_can_235 : decode cX8_can 235 = .ok (.ifCond .lt 7, 3) := by decide +kernel
theorem dX8_can_238 : decode cX8_can 238 = .ok (.iconst 1, 1) := by decide +kernel
theorem dX8_can_239 : decode cX8_can 239 = .ok (.goto 4, 3) := by decide +kernel
theorem dX8_can_242 : decode cX8_can 242 = .ok (.iconst 0, 1) := by decide +kernel
theorem dX8_can_243 : decode cX8_can 243 = .ok (.ireturn, 1) := by decide +kernel
theorem dX8_can_244 : decode cX8_can 244 = .ok (.aload_n 2, 1) := by decide +kernel
theorem dX8_can_245 : decode cX8_can 245 = .ok (.iload_n 3, 1) := by decide +kernel
theorem dX8_can_246 : decode cX8_can 246 = .ok (.invokevirtual 52, 3) := by decide +kernel
theorem dX8_can_249 : decode cX8_can 249 = .ok (.ifCond .lt 7, 3) := by decide +kernel
theorem dX8_can_252 : decode cX8_can 252 = .ok (.iconst 1, 1) := by decide +kernel
theorem dX8_can_253 : decode cX8_can 253 = .ok (.goto 4, 3) := by decide +kernel
theorem dX8_can_256 : decode cX8_can 256 = .ok (.iconst 0, 1) := by decide +kernel
theorem dX8_can_257 : decode cX8_can 257 = .ok (.ireturn, 1) := by decide +kernel
theorem dX8_can_258 : decode cX8_can 258 = .ok (.aload_n 2, 1) := by decide +kernel
theorem dX8_can_259 : decode cX8_can 259 = .ok (.iload_n 3, 1) := by decide +kernel
theorem dX8_can_260 : decode cX8_can 260 = .ok (.invokevirtual 55, 3) := by decide +kernel
theorem dX8_can_263 : decode cX8_can 263 = .ok (.ifCond .lt 7, 3) := by decide +kernel
theorem dX8_can_266 : decode cX8_can 266 = .ok (.iconst 1, 1) := by decide +kernel
theorem dX8_can_267 : decode cX8_can 267 = .ok (.goto 4, 3) := by decide +kernel
theorem dX8_can_270 : decode cX8_can 270 = .ok (.iconst 0, 1) := by decide +kernel
theorem dX8_can_271 : decode cX8_can 271 = .ok (.ireturn, 1) := by decide +kernel
theorem dX8_can_272 : decode cX8_can 272 = .ok (.aload_n 2, 1) := by decide +kernel
theorem dX8_can_273 : decode cX8_can 273 = .ok (.iload_n 3, 1) := by decide +kernel
theorem dX8_can_274 : decode cX8_can 274 = .ok (.invokevirtual 58, 3) := by decide +kernel
theorem dX8_can_277 : decode cX8_can 277 = .ok (.ifCond .lt 7, 3) := by decide +kernel
theorem dX8_can_280 : decode cX8_can 280 = .ok (.iconst 1, 1) := by decide +kernel
theorem dX8_can_281 : decode cX8_can 281 = .ok (.goto 4, 3) := by decide +kernel
theorem dX8_can_284 : decode cX8_can 284 = .ok (.iconst 0, 1) := by decide +kernel
theorem dX8_can_285 : decode cX8_can 285 = .ok (.ireturn, 1) := by decide +kernel
theorem dX8_can_286 : decode cX8_can 286 = .ok (.iconst 0, 1) := by decide +kernel
theorem dX8_can_287 : decode cX8_can 287 = .ok (.ireturn, 1) := by decide +kernel
theorem dX9_init_0 : decode cX9_init 0 = .ok (.aload_n 0, 1) := by decide +kernel
theorem dX9_init_1 : decode cX9_init 1 = .ok (.invokespecial 3, 3) := by decide +kernel
theorem dX9_init_4 : decode cX9_init 4 = .ok (.aload_n 0, 1) := by decide +kernel
theorem dX9_init_5 : decode cX9_init 5 = .ok (.iconst 0, 1) := by decide +kernel
theorem dX9_init_6 : decode cX9_init 6 = .ok (.putfield 11, 3) := by decide +kernel
theorem dX9_init_9 : decode cX9_init 9 = .ok (.aload_n 0, 1) := by decide +kernel
theorem dX9_init_10 : decode cX9_init 10 = .ok (.iconst 0, 1) := by decide +kernel
theorem dX9_init_11 : decode cX9_init 11 = .ok (.putfield 15, 3) := by decide +kernel
theorem dX9_init_14 : decode cX9_init 14 = .ok (.aload_n 0, 1) := by decide +kernel
theorem dX9_init_15 : decode cX9_init 15 = .ok (.iconst 0, 1) := by decide +kernel
theorem dX9_init_16 : decode cX9_init 16 = .ok (.putfield 18, 3) := by decide +kernel
theorem dX9_init_19 : decode cX9_init 19 = .ok (.aload_n 0, 1) := by decide +kernel
theorem dX9_init_20 : decode cX9_init 20 = .ok (.iconst 0, 1) := by decide +kernel
theorem dX9_init_21 : decode cX9_init 21 = .ok (.putfield 21, 3) := by decide +kernel
theorem dX9_init_24 : decode cX9_init 24 = .ok (.aload_n 0, 1) := by decide +kernel
theorem dX9_init_25 : decode cX9_init 25 = .ok (.iconst 0, 1) := by decide +kernel
theorem dX9_init_26 : decode cX9_init 26 = .ok (.putfield 24, 3) := by decide +kernel
theorem dX9_init_29 : decode cX9_init 29 = .ok (.aload_n 0, 1) := by decide +kernel
theorem dX9_init_30 : decode cX9_init 30 = .ok (.bipush 100, 2) := by decide +kernel
theorem dX9_init_32 : decode cX9_init 32 = .ok (.newarray .int, 2) := by decide +kernel
theorem dX9_init_34 : decode cX9_init 34 = .ok (.putfield 27, 3) := by decide +kernel
theorem dX9_init_37 : decode cX9_init 37 = .ok (.return_, 1) := by decide +kernel
theorem dX9_clear_0 : decode cX9_clear 0 = .ok (.aload_n 0, 1) := by decide +kernel
theorem dX9_clear_1 : decode cX9_clear 1 = .ok (.iconst 0, 1) := by decide +kernel
theorem dX9_clear_2 : decode cX9_clear 2 = .ok (.putfield 11, 3) := by decide +kernel
theorem dX9_clear_5 : decode cX9_clear 5 = .ok (.aload_n 0, 1) := by decide +kernel
theorem dX9_clear_6 : decode cX9_clear 6 = .ok (.iconst 0, 1) := by decide +kernel
theorem dX9_clear_7 : decode cX9_clear 7 = .ok (.putfield 24, 3) := by decide +kernel
theorem dX9_clear_10 : decode cX9_clear 10 = .ok (.return_, 1) := by decide +kernel
theorem dX9_takeKind_0 : decode cX9_takeKind 0 = .ok (.aload_n 0, 1) := by decide +kernel
theorem dX9_takeKind_1 : decode cX9_takeKind 1 = .ok (.iconst 1, 1) := by decide +kernel
theorem dX9_takeKind_2 : decode cX9_takeKind 2 = .ok (.putfield 11, 3) := by decide +kernel
theorem dX9_takeKind_5 : decode cX9_takeKind 5 = .ok (.aload_n 0, 1) := by decide +kernel
theorem dX9_takeKind_6 : decode cX9_takeKind 6 = .ok (.iload_n 1, 1) := by decide +kernel
theorem dX9_takeKind_7 : decode cX9_takeKind 7 = .ok (.putfield 15, 3) := by decide +kernel
theorem dX9_takeKind_10 : decode cX9_takeKind 10 = .ok (.aload_n 0, 1) := by decide +kernel
theorem dX9_takeKind_11 : decode cX9_takeKind 11 = .ok (.iload_n 2, 1) := by decide +kernel
theorem dX9_takeKind_12 : decode cX9_takeKind 12 = .ok (.putfield 18, 3) := by decide +kernel
theorem dX9_takeKind_15 : decode cX9_takeKind 15 = .ok (.aload_n 0, 1) := by decide +kernel
theorem dX9_takeKind_16 : decode cX9_takeKind 16 = .ok (.iconst 0, 1) := by decide +kernel
theorem dX9_takeKind_17 : decode cX9_takeKind 17 = .ok (.putfield 24, 3) := by decide +kernel
theorem dX9_takeKind_20 : decode cX9_takeKind 20 = .ok (.return_, 1) := by decide +kernel
theorem dX9_takeRow_0 : decode cX9_takeRow 0 = .ok (.aload_n 0, 1) := by decide +kernel
theorem dX9_takeRow_1 : decode cX9_takeRow 1 = .ok (.iconst 2, 1) := by decide +kernel
theorem dX9_takeRow_2 : decode cX9_takeRow 2 = .ok (.putfield 11, 3) := by decide +kernel
theorem dX9_takeRow_5 : decode cX9_takeRow 5 = .ok (.aload_n 0, 1) := by decide +kernel
theorem dX9_takeRow_6 : decode cX9_takeRow 6 = .ok (.iload_n 1, 1) := by decide +kernel
theorem dX9_takeRow_7 : decode cX9_takeRow 7 = .ok (.putfield 21, 3) := by decide +kernel
theorem dX9_takeRow_10 : decode cX9_takeRow 10 = .ok (.aload_n 0, 1) := by decide +kernel
theorem dX9_takeRow_11 : decode cX9_takeRow 11 = .ok (.iload_n 2, 1) := by decide +kernel
theorem dX9_takeRow_12 : decode cX9_takeRow 12 = .ok (.putfield 24, 3) := by decide +kernel
theorem dX9_takeRow_15 : decode cX9_takeRow 15 = .ok (.iconst 0, 1) := by decide +kernel
theorem dX9_takeRow_16 : decode cX9_takeRow 16 = .ok (.istore_n 3, 1) := by decide +kernel
theorem dX9_takeRow_17 : decode cX9_takeRow 17 = .ok (.iload_n 3, 1) := by decide +kernel
theorem dX9_takeRow_18 : decode cX9_takeRow 18 = .ok (.aload_n 0, 1) := by decide +kernel
theorem dX9_takeRow_19 : decode cX9_takeRow 19 = .ok (.getfield 27, 3) := by decide +kernel
theorem dX9_takeRow_22 : decode cX9_takeRow 22 = .ok (.arraylength, 1) := by decide +kernel
theorem dX9_takeRow_23 : decode cX9_takeRow 23 = .ok (.if_icmp .ge 16, 3) := by decide +kernel
theorem dX9_takeRow_26 : decode cX9_takeRow 26 = .ok (.aload_n 0, 1) := by decide +kernel
theorem dX9_takeRow_27 : decode cX9_takeRow 27 = .ok (.getfield 27, 3) := by decide +kernel
theorem dX9_takeRow_30 : decode cX9_takeRow 30 = .ok (.iload_n 3, 1) := by decide +kernel
theorem dX9_takeRow_31 : decode cX9_takeRow 31 = .ok (.iconst 0, 1) := by decide +kernel
theorem dX9_takeRow_32 : decode cX9_takeRow 32 = .ok (.iastore, 1) := by decide +kernel
theorem dX9_takeRow_33 : decode cX9_takeRow 33 = .ok (.iinc 3 1, 3) := by decide +kernel
theorem dX9_takeRow_36 : decode cX9_takeRow 36 = .ok (.goto (-19), 3) := by decide +kernel
theorem dX9_takeRow_39 : decode cX9_takeRow 39 = .ok (.return_, 1) := by decide +kernel
theorem dX9_isEmpty_0 : decode cX9_isEmpty 0 = .ok (.aload_n 0, 1) := by decide +kernel
theorem dX9_isEmpty_1 : decode cX9_isEmpty 1 = .ok (.getfield 11, 3) := by decide +kernel
theorem dX9_isEmpty_4 : decode cX9_isEmpty 4 = .ok (.ifCond .ne 7, 3) := by decide +kernel
theorem dX9_isEmpty_7 : decode cX9_isEmpty 7 = .ok (.iconst 1, 1) := by decide +kernel
theorem dX9_isEmpty_8 : decode cX9_isEmpty 8 = .ok (.goto 4, 3) := by decide +kernel
theorem dX9_isEmpty_11 : decode cX9_isEmpty 11 = .ok (.iconst 0, 1) := by decide +kernel
theorem dX9_isEmpty_12 : decode cX9_isEmpty 12 = .ok (.ireturn, 1) := by decide +kernel
theorem dX9_refusalAsKind_0 : decode cX9_refusalAsKind 0 = .ok (.aload_n 0, 1) := by decide +kernel
theorem dX9_refusalAsKind_1 : decode cX9_refusalAsKind 1 = .ok (.getfield 11, 3) := by decide +kernel
theorem dX9_refusalAsKind_4 : decode cX9_refusalAsKind 4 = .ok (.ifCond .ne 8, 3) := by decide +kernel
theorem dX9_refusalAsKind_7 : decode cX9_refusalAsKind 7 = .ok (.bipush (-11), 2) := by decide +kernel
theorem dX9_refusalAsKind_9 : decode cX9_refusalAsKind 9 = .ok (.goto 17, 3) := by decide +kernel
theorem dX9_refusalAsKind_12 : decode cX9_refusalAsKind 12 = .ok (.aload_n 0, 1) := by decide +kernel
theorem dX9_refusalAsKind_13 : decode cX9_refusalAsKind 13 = .ok (.getfield 11, 3) := by decide +kernel
theorem dX9_refusalAsKind_16 : decode cX9_refusalAsKind 16 = .ok (.iconst 1, 1) := by decide +kernel
theorem dX9_refusalAsKind_17 : decode cX9_refusalAsKind 17 = .ok (.if_icmp .ne 7, 3) := by decide +kernel
theorem dX9_refusalAsKind_20 : decode cX9_refusalAsKind 20 = .ok (.iconst 0, 1) := by decide +kernel
theorem dX9_refusalAsKind_21 : decode cX9_refusalAsKind 21 = .ok (.goto 5, 3) := by decide +kernel
theorem dX9_refusalAsKind_24 : decode cX9_refusalAsKind 24 = .ok (.bipush (-12), 2) := by decide +kernel
theorem dX9_refusalAsKind_26 : decode cX9_refusalAsKind 26 = .ok (.ireturn, 1) := by decide +kernel
theorem dX9_refusalAsRow_0 : decode cX9_refusalAsRow 0 = .ok (.aload_n 0, 1) := by decide +kernel
theorem dX9_refusalAsRow_1 : decode cX9_refusalAsRow 1 = .ok (.getfield 11, 3) := by decide +kernel
theorem dX9_refusalAsRow_4 : decode cX9_refusalAsRow 4 = .ok (.ifCond .ne 8, 3) := by decide +kernel
theorem dX9_refusalAsRow_7 : decode cX9_refusalAsRow 7 = .ok (.bipush (-11), 2) := by decide +kernel
theorem dX9_refusalAsRow_9 : decode cX9_refusalAsRow 9 = .ok (.goto 17, 3) := by decide +kernel
theorem dX9_refusalAsRow_12 : decode cX9_refusalAsRow 12 = .ok (.aload_n 0, 1) := by decide +kernel
theorem dX9_refusalAsRow_13 : decode cX9_refusalAsRow 13 = .ok (.getfield 11, 3) := by decide +kernel
theorem dX9_refusalAsRow_16 : decode cX9_refusalAsRow 16 = .ok (.iconst 2, 1) := by decide +kernel
theorem dX9_refusalAsRow_17 : decode cX9_refusalAsRow 17 = .ok (.if_icmp .ne 7, 3) := by decide +kernel
theorem dX9_refusalAsRow_20 : decode cX9_refusalAsRow 20 = .ok (.iconst 0, 1) := by decide +kernel
theorem dX9_refusalAsRow_21 : decode cX9_refusalAsRow 21 = .ok (.goto 5, 3) := by decide +kernel
theorem dX9_refusalAsRow_24 : decode cX9_refusalAsRow 24 = .ok (.bipush (-12), 2) := by decide +kernel
theorem dX9_refusalAsRow_26 : decode cX9_refusalAsRow 26 = .ok (.ireturn, 1) := by decide +kernel
theorem dX9_hasPlace_0 : decode cX9_hasPlace 0 = .ok (.iload_n 1, 1) := by decide +kernel
theorem dX9_hasPlace_1 : decode cX9_hasPlace 1 = .ok (.ifCond .lt 15, 3) := by decide +kernel
theorem dX9_hasPlace_4 : decode cX9_hasPlace 4 = .ok (.iload_n 1, 1) := by decide +kernel
theorem dX9_hasPlace_5 : decode cX9_hasPlace 5 = .ok (.aload_n 0, 1) := by decide +kernel
theorem dX9_hasPlace_6 : decode cX9_hasPlace 6 = .ok (.getfield 24, 3) := by decide +kernel
theorem dX9_hasPlace_9 : decode cX9_hasPlace 9 = .ok (.if_icmp .ge 7, 3) := by decide +kernel
theorem dX9_hasPlace_12 : decode cX9_hasPlace 12 = .ok (.iconst 1, 1) := by decide +kernel
theorem dX9_hasPlace_13 : decode cX9_hasPlace 13 = .ok (.goto 4, 3) := by decide +kernel
theorem dX9_hasPlace_16 : decode cX9_hasPlace 16 = .ok (.iconst 0, 1) := by decide +kernel
theorem dX9_hasPlace_17 : decode cX9_hasPlace 17 = .ok (.ireturn, 1) := by decide +kernel
theorem dX9_hasStretch_0 : decode cX9_hasStretch 0 = .ok (.iload_n 1, 1) := by decide +kernel
theorem dX9_hasStretch_1 : decode cX9_hasStretch 1 = .ok (.ifCond .lt 29, 3) := by decide +kernel
theorem dX9_hasStretch_4 : decode cX9_hasStretch 4 = .ok (.iload_n 2, 1) := by decide +kernel
theorem dX9_hasStretch_5 : decode cX9_hasStretch 5 = .ok (.ifCond .lt 25, 3) := by decide +kernel
theorem dX9_hasStretch_8 : decode cX9_hasStretch 8 = .ok (.iload_n 1, 1) := by decide +kernel
theorem dX9_hasStretch_9 : decode cX9_hasStretch 9 = .ok (.aload_n 0, 1) := by decide +kernel
theorem dX9_hasStretch_10 : decode cX9_hasStretch 10 = .ok (.getfield 24, 3) := by decide +kernel
theorem dX9_hasStretch_13 : decode cX9_hasStretch 13 = .ok (.if_icmp .gt 17, 3) := by decide +kernel
theorem dX9_hasStretch_16 : decode cX9_hasStretch 16 = .ok (.iload_n 2, 1) := by decide +kernel
theorem dX9_hasStretch_17 : decode cX9_hasStretch 17 = .ok (.aload_n 0, 1) := by decide +kernel
theorem dX9_hasStretch_18 : decode cX9_hasStretch 18 = .ok (.getfield 24, 3) := by decide +kernel
theorem dX9_hasStretch_21 : decode cX9_hasStretch 21 = .ok (.iload_n 1, 1) := by decide +kernel
theorem dX9_hasStretch_22 : decode cX9_hasStretch 22 = .ok (.isub, 1) := by decide +kernel
theorem dX9_hasStretch_23 : decode cX9_hasStretch 23 = .ok (.if_icmp .gt 7, 3) := by decide +kernel
theorem dX9_hasStretch_26 : decode cX9_hasStretch 26 = .ok (.iconst 1, 1) := by decide +kernel
theorem dX9_hasStretch_27 : decode cX9_hasStretch 27 = .ok (.goto 4, 3) := by decide +kernel
theorem dX9_hasStretch_30 : decode cX9_hasStretch 30 = .ok (.iconst 0, 1) := by decide +kernel
theorem dX9_hasStretch_31 : decode cX9_hasStretch 31 = .ok (.ireturn, 1) := by decide +kernel
theorem dX9_store_0 : decode cX9_store 0 = .ok (.aload_n 0, 1) := by decide +kernel
theorem dX9_store_1 : decode cX9_store 1 = .ok (.iload_n 1, 1) := by decide +kernel
theorem dX9_store_2 : decode cX9_store 2 = .ok (.invokevirtual 31, 3) := by decide +kernel
theorem dX9_store_5 : decode cX9_store 5 = .ok (.ifCond .eq 35, 3) := by decide +kernel
theorem dX9_store_8 : decode cX9_store 8 = .ok (.aload_n 0, 1) := by decide +kernel
theorem dX9_store_9 : decode cX9_store 9 = .ok (.getfield 27, 3) := by decide +kernel
theorem dX9_store_12 : decode cX9_store 12 = .ok (.iload_n 1, 1) := by decide +kernel
theorem dX9_store_13 : decode cX9_store 13 = .ok (.aload_n 0, 1) := by decide +kernel
theorem dX9_store_14 : decode cX9_store 14 = .ok (.getfield 21, 3) := by decide +kernel
theorem dX9_store_17 : decode cX9_store 17 = .ok (.ifCond .ne 8, 3) := by decide +kernel
theorem dX9_store_20 : decode cX9_store 20 = .ok (.iload_n 2, 1) := by decide +kernel
theorem dX9_store_21 : decode cX9_store 21 = .ok (.i2b, 1) := by decide +kernel
theorem dX9_store_22 : decode cX9_store 22 = .ok (.goto 17, 3) := by decide +kernel
theorem dX9_store_25 : decode cX9_store 25 = .ok (.aload_n 0, 1) := by decide +kernel
theorem dX9_store_26 : decode cX9_store 26 = .ok (.getfield 21, 3) := by decide +kernel
theorem dX9_store_29 : decode cX9_store 29 = .ok (.iconst 1, 1) := by decide +kernel
theorem dX9_store_30 : decode cX9_store 30 = .ok (.if_icmp .ne 8, 3) := by decide +kernel
theorem dX9_store_33 : decode cX9_store 33 = .ok (.iload_n 2, 1) := by decide +kernel
theorem dX9_store_34 : decode cX9_store 34 = .ok (.i2s, 1) := by decide +kernel
theorem dX9_store_35 : decode cX9_store 35 = .ok (.goto 4, 3) := by decide +kernel
theorem dX9_store_38 : decode cX9_store 38 = .ok (.iload_n 2, 1) := by decide +kernel
theorem dX9_store_39 : decode cX9_store 39 = .ok (.iastore, 1) := by decide +kernel
theorem dX9_store_40 : decode cX9_store 40 = .ok (.return_, 1) := by decide +kernel
theorem dX9_skips_0 : decode cX9_skips 0 = .ok (.aload_n 0, 1) := by decide +kernel
theorem dX9_skips_1 : decode cX9_skips 1 = .ok (.getfield 21, 3) := by decide +kernel
theorem dX9_skips_4 : decode cX9_skips 4 = .ok (.ifCond .ne 8, 3) := by decide +kernel
theorem dX9_skips_7 : decode cX9_skips 7 = .ok (.bipush (-128), 2) := by decide +kernel
theorem dX9_skips_9 : decode cX9_skips 9 = .ok (.goto 19, 3) := by decide +kernel
theorem dX9_skips_12 : decode cX9_skips 12 = .ok (.aload_n 0, 1) := by decide +kernel
theorem dX9_skips_13 : decode cX9_skips 13 = .ok (.getfield 21, 3) := by decide +kernel
theorem dX9_skips_16 : decode cX9_skips 16 = .ok (.iconst 1, 1) := by decide +kernel
theorem dX9_skips_17 : decode cX9_skips 17 = .ok (.if_icmp .ne 9, 3) := by decide +kernel
theorem dX9_skips_20 : decode cX9_skips 20 = .ok (.sipush (-32768), 3) := by decide +kernel
theorem dX9_skips_23 : decode cX9_skips 23 = .ok (.goto 5, 3) := by decide +kernel
theorem dX9_skips_26 : decode cX9_skips 26 = .ok (.ldc 35, 2) := by decide +kernel
theorem dX9_skips_28 : decode cX9_skips 28 = .ok (.istore_n 2, 1) := by decide +kernel
theorem dX9_skips_29 : decode cX9_skips 29 = .ok (.aload_n 0, 1) := by decide +kernel
theorem dX9_skips_30 : decode cX9_skips 30 = .ok (.iload_n 1, 1) := by decide +kernel
theorem dX9_skips_31 : decode cX9_skips 31 = .ok (.invokevirtual 31, 3) := by decide +kernel
theorem dX9_skips_34 : decode cX9_skips 34 = .ok (.ifCond .eq 17, 3) := by decide +kernel
theorem dX9_skips_37 : decode cX9_skips 37 = .ok (.aload_n 0, 1) := by decide +kernel
theorem dX9_skips_38 : decode cX9_skips 38 = .ok (.getfield 27, 3) := by decide +kernel
theorem dX9_skips_41 : decode cX9_skips 41 = .ok (.iload_n 1, 1) := by decide +kernel
theorem dX9_skips_42 : decode cX9_skips 42 = .ok (.iaload, 1) := by decide +kernel
theorem dX9_skips_43 : decode cX9_skips 43 = .ok (.iload_n 2, 1) := by decide +kernel
theorem dX9_skips_44 : decode cX9_skips 44 = .ok (.if_icmp .ne 7, 3) := by decide +kernel
theorem dX9_skips_47 : decode cX9_skips 47 = .ok (.iconst 1, 1) := by decide +kernel
theorem dX9_skips_48 : decode cX9_skips 48 = .ok (.goto 4, 3) := by decide +kernel
theorem dX9_skips_51 : decode cX9_skips 51 = .ok (.iconst 0, 1) := by decide +kernel
theorem dX9_skips_52 : decode cX9_skips 52 = .ok (.ireturn, 1) := by decide +kernel
theorem dX9_isOfPairs_0 : decode cX9_isOfPairs 0 = .ok (.aload_n 0, 1) := by decide +kernel
theorem dX9_isOfPairs_1 : decode cX9_isOfPairs 1 = .ok (.getfield 24, 3) := by decide +kernel
theorem dX9_isOfPairs_4 : decode cX9_isOfPairs 4 = .ok (.iconst 2, 1) := by decide +kernel
theorem dX9_isOfPairs_5 : decode cX9_isOfPairs 5 = .ok (.irem, 1) := by decide +kernel
theorem dX9_isOfPairs_6 : decode cX9_isOfPairs 6 = .ok (.ifCond .eq 5, 3) := by decide +kernel
theorem dX9_isOfPairs_9 : decode cX9_isOfPairs 9 = .ok (.iconst 0, 1) := by decide +kernel
theorem dX9_isOfPairs_10 : decode cX9_isOfPairs 10 = .ok (.ireturn, 1) := by decide +kernel
theorem dX9_isOfPairs_11 : decode cX9_isOfPairs 11 = .ok (.iconst 0, 1) := by decide +kernel
theorem dX9_isOfPairs_12 : decode cX9_isOfPairs 12 = .ok (.istore_n 1, 1) := by decide +kernel
theorem dX9_isOfPairs_13 : decode cX9_isOfPairs 13 = .ok (.iload_n 1, 1) := by decide +kernel
theorem dX9_isOfPairs_14 : decode cX9_isOfPairs 14 = .ok (.iconst 1, 1) := by decide +kernel
theorem dX9_isOfPairs_15 : decode cX9_isOfPairs 15 = .ok (.iadd, 1) := by decide +kernel
theorem dX9_isOfPairs_16 : decode cX9_isOfPairs 16 = .ok (.aload_n 0, 1) := by decide +kernel
theorem dX9_isOfPairs_17 : decode cX9_isOfPairs 17 = .ok (.getfield 24, 3) := by decide +kernel
theorem dX9_isOfPairs_20 : decode cX9_isOfPairs 20 = .ok (.if_icmp .ge 37, 3) := by decide +kernel
theorem dX9_isOfPairs_23 : decode cX9_isOfPairs 23 = .ok (.aload_n 0, 1) := by decide +kernel
theorem dX9_isOfPairs_24 : decode cX9_isOfPairs 24 = .ok (.getfield 27, 3) := by decide +kernel
theorem dX9_isOfPairs_27 : decode cX9_isOfPairs 27 = .ok (.iload_n 1, 1) := by decide +kernel
theorem dX9_isOfPairs_28 : decode cX9_isOfPairs 28 = .ok (.iaload, 1) := by decide +kernel
theorem dX9_isOfPairs_29 : decode cX9_isOfPairs 29 = .ok (.invokestatic 36, 3) := by decide +kernel
theorem dX9_isOfPairs_32 : decode cX9_isOfPairs 32 = .ok (.ifCond .eq 17, 3) := by decide +kernel
theorem dX9_isOfPairs_35 : decode cX9_isOfPairs 35 = .ok (.aload_n 0, 1) := by decide +kernel
theorem dX9_isOfPairs_36 : decode cX9_isOfPairs 36 = .ok (.getfield 27, 3) := by decide +kernel
theorem dX9_isOfPairs_39 : decode cX9_isOfPairs 39 = .ok (.iload_n 1, 1) := by decide +kernel
theorem dX9_isOfPairs_40 : decode cX9_isOfPairs 40 = .ok (.iconst 1, 1) := by decide +kernel
theorem dX9_isOfPairs_41 : decode cX9_isOfPairs 41 = .ok (.iadd, 1) := by decide +kernel
theorem dX9_isOfPairs_42 : decode cX9_isOfPairs 42 = .ok (.iaload, 1) := by decide +kernel
theorem dX9_isOfPairs_43 : decode cX9_isOfPairs 43 = .ok (.invokestatic 39, 3) := by decide +kernel
theorem dX9_isOfPairs_46 : decode cX9_isOfPairs 46 = .ok (.ifCond .ne 5, 3) := by decide +kernel
theorem dX9_isOfPairs_49 : decode cX9_isOfPairs 49 = .ok (.iconst 0, 1) := by decide +kernel
theorem dX9_isOfPairs_50 : decode cX9_isOfPairs 50 = .ok (.ireturn, 1) := by decide +kernel
theorem dX9_isOfPairs_51 : decode cX9_isOfPairs 51 = .ok (.iinc 1 2, 3) := by decide +kernel
theorem dX9_isOfPairs_54 : decode cX9_isOfPairs 54 = .ok (.goto (-41), 3) := by decide +kernel
theorem dX9_isOfPairs_57 : decode cX9_isOfPairs 57 = .ok (.iconst 1, 1) := by decide +kernel
theorem dX9_isOfPairs_58 : decode cX9_isOfPairs 58 = .ok (.ireturn, 1) := by decide +kernel
theorem dX9_hasDigit_0 : decode cX9_hasDigit 0 = .ok (.aload_n 0, 1) := by decide +kernel
theorem dX9_hasDigit_1 : decode cX9_hasDigit 1 = .ok (.iload_n 1, 1) := by decide +kernel
theorem dX9_hasDigit_2 : decode cX9_hasDigit 2 = .ok (.invokevirtual 31, 3) := by decide +kernel
theorem dX9_hasDigit_5 : decode cX9_hasDigit 5 = .ok (.ifCond .eq 23, 3) := by decide +kernel
theorem dX9_hasDigit_8 : decode cX9_hasDigit 8 = .ok (.aload_n 0, 1) := by decide +kernel
theorem dX9_hasDigit_9 : decode cX9_hasDigit 9 = .ok (.getfield 27, 3) := by decide +kernel
theorem dX9_hasDigit_12 : decode cX9_hasDigit 12 = .ok (.iload_n 1, 1) := by decide +kernel
theorem dX9_hasDigit_13 : decode cX9_hasDigit 13 = .ok (.iaload, 1) := by decide +kernel
theorem dX9_hasDigit_14 : decode cX9_hasDigit 14 = .ok (.bipush 48, 2) := by decide +kernel
theorem dX9_hasDigit_16 : decode cX9_hasDigit 16 = .ok (.bipush 57, 2) := by decide +kernel
theorem dX9_hasDigit_18 : decode cX9_hasDigit 18 = .ok (.invokestatic 42, 3) := by decide +kernel
theorem dX9_hasDigit_21 : decode cX9_hasDigit 21 = .ok (.ifCond .eq 7, 3) := by decide +kernel
theorem dX9_hasDigit_24 : decode cX9_hasDigit 24 = .ok (.iconst 1, 1) := by decide +kernel
theorem dX9_hasDigit_25 : decode cX9_hasDigit 25 = .ok (.goto 4, 3) := by decide +kernel
theorem dX9_hasDigit_28 : decode cX9_hasDigit 28 = .ok (.iconst 0, 1) := by decide +kernel
theorem dX9_hasDigit_29 : decode cX9_hasDigit 29 = .ok (.ireturn, 1) := by decide +kernel
theorem dX9_number_0 : decode cX9_number 0 = .ok (.iconst 0, 1) := by decide +kernel
theorem dX9_number_1 : decode cX9_number 1 = .ok (.istore_n 3, 1) := by decide +kernel
theorem dX9_number_2 : decode cX9_number 2 = .ok (.iload_n 1, 1) := by decide +kernel
theorem dX9_number_3 : decode cX9_number 3 = .ok (.istore 4, 2) := by decide +kernel
theorem dX9_number_5 : decode cX9_number 5 = .ok (.iload 4, 2) := by decide +kernel
theorem dX9_number_7 : decode cX9_number 7 = .ok (.iload_n 1, 1) := by decide +kernel
theorem dX9_number_8 : decode cX9_number 8 = .ok (.iload_n 2, 1) := by decide +kernel
theorem dX9_number_9 : decode cX9_number 9 = .ok (.iadd, 1) := by decide +kernel
theorem dX9_number_10 : decode cX9_number 10 = .ok (.if_icmp .ge 34, 3) := by decide +kernel
theorem dX9_number_13 : decode cX9_number 13 = .ok (.aload_n 0, 1) := by decide +kernel
theorem dX9_number_14 : decode cX9_number 14 = .ok (.iload 4, 2) := by decide +kernel
theorem dX9_number_16 : decode cX9_number 16 = .ok (.invokevirtual 46, 3) := by decide +kernel
theorem dX9_number_19 : decode cX9_number 19 = .ok (.ifCond .eq 25, 3) := by decide +kernel
theorem dX9_number_22 : decode cX9_number 22 = .ok (.bipush 10, 2) := by decide +kernel
theorem dX9_number_24 : decode cX9_number 24 = .ok (.iload_n 3, 1) := by decide +kernel
theorem dX9_number_25 : decode cX9_number 25 = .ok (.imul, 1) := by decide +kernel
theorem dX9_number_26 : decode cX9_number 26 = .ok (.aload_n 0, 1) := by decide +kernel
theorem dX9_number_27 : decode cX9_number 27 = .ok (.getfield 27, 3) := by decide +kernel
theorem dX9_number_30 : decode cX9_number 30 = .ok (.iload 4, 2) := by decide +kernel
theorem dX9_number_32 : decode cX9_number 32 = .ok (.iaload, 1) := by decide +kernel
theorem dX9_number_33 : decode cX9_number 33 = .ok (.iadd, 1) := by decide +kernel
theorem dX9_number_34 : decode cX9_number 34 = .ok (.bipush 48, 2) := by decide +kernel
theorem dX9_number_36 : decode cX9_number 36 = .ok (.isub, 1) := by decide +kernel
theorem dX9_number_37 : decode cX9_number 37 = .ok (.istore_n 3, 1) := by decide +kernel
theorem dX9_number_38 : decode cX9_number 38 = .ok (.iinc 4 1, 3) := by decide +kernel
theorem dX9_number_41 : decode cX9_number 41 = .ok (.goto (-36), 3) := by decide +kernel
theorem dX9_number_44 : decode cX9_number 44 = .ok (.iload_n 3, 1) := by decide +kernel
theorem dX9_number_45 : decode cX9_number 45 = .ok (.ireturn, 1) := by decide +kernel
theorem dX10_init_0 : decode cX10_init 0 = .ok (.aload_n 0, 1) := by decide +kernel
theorem dX10_init_1 : decode cX10_init 1 = .ok (.invokespecial 1, 3) := by decide +kernel
theorem dX10_init_4 : decode cX10_init 4 = .ok (.return_, 1) := by decide +kernel
theorem dX10_loudness_0 : decode cX10_loudness 0 = .ok (.iconst 2, 1) := by decide +kernel
theorem dX10_loudness_1 : decode cX10_loudness 1 = .ok (.aload_n 0, 1) := by decide +kernel
theorem dX10_loudness_2 : decode cX10_loudness 2 = .ok (.iload_n 1, 1) := by decide +kernel
theorem dX10_loudness_3 : decode cX10_loudness 3 = .ok (.iload_n 2, 1) := by decide +kernel
theorem dX10_loudness_4 : decode cX10_loudness 4 = .ok (.iload_n 3, 1) := by decide +kernel
theorem dX10_loudness_5 : decode cX10_loudness 5 = .ok (.iload 4, 2) := by decide +kernel
theorem dX10_loudness_7 : decode cX10_loudness 7 = .ok (.invokespecial 7, 3) := by decide +kernel
theorem dX10_loudness_10 : decode cX10_loudness 10 = .ok (.imul, 1) := by decide +kernel
theorem dX10_loudness_11 : decode cX10_loudness 11 = .ok (.ireturn, 1) := by decide +kernel
theorem dX10_secondsToHold_0 : decode cX10_secondsToHold 0 = .ok (.aload_n 0, 1) := by decide +kernel
theorem dX10_secondsToHold_1 : decode cX10_secondsToHold 1 = .ok (.iload_n 1, 1) := by decide +kernel
theorem dX10_secondsToHold_2 : decode cX10_secondsToHold 2 = .ok (.invokespecial 11, 3) := by decide +kernel
theorem dX10_secondsToHold_5 : decode cX10_secondsToHold 5 = .ok (.iload_n 1, 1) := by decide +kernel
theorem dX10_secondsToHold_6 : decode cX10_secondsToHold 6 = .ok (.iadd, 1) := by decide +kernel
theorem dX10_secondsToHold_7 : decode cX10_secondsToHold 7 = .ok (.ireturn, 1) := by decide +kernel
theorem dX10_price_0 : decode cX10_price 0 = .ok (.aload_n 0, 1) := by decide +kernel
theorem dX10_price_1 : decode cX10_price 1 = .ok (.iload_n 1, 1) := by decide +kernel
theorem dX10_price_2 : decode cX10_price 2 = .ok (.invokespecial 15, 3) := by decide +kernel
theorem dX10_price_5 : decode cX10_price 5 = .ok (.iload_n 1, 1) := by decide +kernel
theorem dX10_price_6 : decode cX10_price 6 = .ok (.iadd, 1) := by decide +kernel
theorem dX10_price_7 : decode cX10_price 7 = .ok (.ireturn, 1) := by decide +kernel
theorem dX10_fail_0 : decode cX10_fail 0 = .ok (.iload_n 1, 1) := by decide +kernel
theorem dX10_fail_1 : decode cX10_fail 1 = .ok (.ifCond .le 11, 3) := by decide +kernel
theorem dX10_fail_4 : decode cX10_fail 4 = .ok (.new 18, 3) := by decide +kernel
theorem dX10_fail_7 : decode cX10_fail 7 = .ok (.dup, 1) := by decide +kernel
theorem dX10_fail_8 : decode cX10_fail 8 = .ok (.invokespecial 20, 3) := by decide +kernel
theorem dX10_fail_11 : decode cX10_fail 11 = .ok (.athrow, 1) := by decide +kernel
theorem dX10_fail_12 : decode cX10_fail 12 = .ok (.return_, 1) := by decide +kernel
theorem dJ6_bitCount_0f7a4_0 : decode cJ6_bitCount_0f7a4 0 = .ok (.iload_n 0, 1) := by decide +kernel
theorem dJ6_bitCount_0f7a4_1 : decode cJ6_bitCount_0f7a4 1 = .ok (.iload_n 0, 1) := by decide +kernel
theorem dJ6_bitCount_0f7a4_2 : decode cJ6_bitCount_0f7a4 2 = .ok (.iconst 1, 1) := by decide +kernel
theorem dJ6_bitCount_0f7a4_3 : decode cJ6_bitCount_0f7a4 3 = .ok (.iushr, 1) := by decide +kernel
theorem dJ6_bitCount_0f7a4_4 : decode cJ6_bitCount_0f7a4 4 = .ok (.ldc_w 265, 3) := by decide +kernel
theorem dJ6_bitCount_0f7a4_7 : decode cJ6_bitCount_0f7a4 7 = .ok (.iand, 1) := by decide +kernel
theorem dJ6_bitCount_0f7a4_8 : decode cJ6_bitCount_0f7a4 8 = .ok (.isub, 1) := by decide +kernel
theorem dJ6_bitCount_0f7a4_9 : decode cJ6_bitCount_0f7a4 9 = .ok (.istore_n 0, 1) := by decide +kernel
theorem dJ6_bitCount_0f7a4_10 : decode cJ6_bitCount_0f7a4 10 = .ok (.iload_n 0, 1) := by decide +kernel
theorem dJ6_bitCount_0f7a4_11 : decode cJ6_bitCount_0f7a4 11 = .ok (.ldc_w 266, 3) := by decide +kernel
theorem dJ6_bitCount_0f7a4_14 : decode cJ6_bitCount_0f7a4 14 = .ok (.iand, 1) := by decide +kernel
theorem dJ6_bitCount_0f7a4_15 : decode cJ6_bitCount_0f7a4 15 = .ok (.iload_n 0, 1) := by decide +kernel
theorem dJ6_bitCount_0f7a4_16 : decode cJ6_bitCount_0f7a4 16 = .ok (.iconst 2, 1) := by decide +kernel
theorem dJ6_bitCount_0f7a4_17 : decode cJ6_bitCount_0f7a4 17 = .ok (.iushr, 1) := by decide +kernel
theorem dJ6_bitCount_0f7a4_18 : decode cJ6_bitCount_0f7a4 18 = .ok (.ldc_w 266, 3) := by decide +kernel
theorem dJ6_bitCount_0f7a4_21 : decode cJ6_bitCount_0f7a4 21 = .ok (.iand, 1) := by decide +kernel
theorem dJ6_bitCount_0f7a4_22 : decode cJ6_bitCount_0f7a4 22 = .ok (.iadd, 1) := by decide +kernel
theorem dJ6_bitCount_0f7a4_23 : decode cJ6_bitCount_0f7a4 23 = .ok (.istore_n 0, 1) := by decide +kernel
theorem dJ6_bitCount_0f7a4_24 : decode cJ6_bitCount_0f7a4 24 = .ok (.iload_n 0, 1) := by decide +kernel
theorem dJ6_bitCount_0f7a4_25 : decode cJ6_bitCount_0f7a4 25 = .ok (.iload_n 0, 1) := by decide +kernel
theorem dJ6_bitCount_0f7a4_26 : decode cJ6_bitCount_0f7a4 26 = .ok (.iconst 4, 1) := by decide +kernel
theorem dJ6_bitCount_0f7a4_27 : decode cJ6_bitCount_0f7a4 27 = .ok (.iushr, 1) := by decide +kernel
theorem dJ6_bitCount_0f7a4_28 : decode cJ6_bitCount_0f7a4 28 = .ok (.iadd, 1) := by decide +kernel
theorem dJ6_bitCount_0f7a4_29 : decode cJ6_bitCount_0f7a4 29 = .ok (.ldc_w 267, 3) := by decide +kernel
theorem dJ6_bitCount_0f7a4_32 : decode cJ6_bitCount_0f7a4 32 = .ok (.iand, 1) := by decide +kernel
theorem dJ6_bitCount_0f7a4_33 : decode cJ6_bitCount_0f7a4 33 = .ok (.istore_n 0, 1) := by decide +kernel
theorem dJ6_bitCount_0f7a4_34 : decode cJ6_bitCount_0f7a4 34 = .ok (.iload_n 0, 1) := by decide +kernel
theorem dJ6_bitCount_0f7a4_35 : decode cJ6_bitCount_0f7a4 35 = .ok (.iload_n 0, 1) := by decide +kernel
theorem dJ6_bitCount_0f7a4_36 : decode cJ6_bitCount_0f7a4 36 = .ok (.bipush 8, 2) := by decide +kernel
theorem dJ6_bitCount_0f7a4_38 : decode cJ6_bitCount_0f7a4 38 = .ok (.iushr, 1) := by decide +kernel
theorem dJ6_bitCount_0f7a4_39 : decode cJ6_bitCount_0f7a4 39 = .ok (.iadd, 1) := by decide +kernel
theorem dJ6_bitCount_0f7a4_40 : decode cJ6_bitCount_0f7a4 40 = .ok (.istore_n 0, 1) := by decide +kernel
theorem dJ6_bitCount_0f7a4_41 : decode cJ6_bitCount_0f7a4 41 = .ok (.iload_n 0, 1) := by decide +kernel
theorem dJ6_bitCount_0f7a4_42 : decode cJ6_bitCount_0f7a4 42 = .ok (.iload_n 0, 1) := by decide +kernel
theorem dJ6_bitCount_0f7a4_43 : decode cJ6_bitCount_0f7a4 43 = .ok (.bipush 16, 2) := by decide +kernel
theorem dJ6_bitCount_0f7a4_45 : decode cJ6_bitCount_0f7a4 45 = .ok (.iushr, 1) := by decide +kernel
theorem dJ6_bitCount_0f7a4_46 : decode cJ6_bitCount_0f7a4 46 = .ok (.iadd, 1) := by decide +kernel
theorem dJ6_bitCount_0f7a4_47 : decode cJ6_bitCount_0f7a4 47 = .ok (.istore_n 0, 1) := by decide +kernel
theorem dJ6_bitCount_0f7a4_48 : decode cJ6_bitCount_0f7a4 48 = .ok (.iload_n 0, 1) := by decide +kernel
theorem dJ6_bitCount_0f7a4_49 : decode cJ6_bitCount_0f7a4 49 = .ok (.bipush 63, 2) := by decide +kernel
theorem dJ6_bitCount_0f7a4_51 : decode cJ6_bitCount_0f7a4 51 = .ok (.iand, 1) := by decide +kernel
theorem dJ6_bitCount_0f7a4_52 : decode cJ6_bitCount_0f7a4 52 = .ok (.ireturn, 1) := by decide +kernel
theorem dJ9_abs_0f7a4_0 : decode cJ9_abs_0f7a4 0 = .ok (.iload_n 0, 1) := by decide +kernel
theorem dJ9_abs_0f7a4_1 : decode cJ9_abs_0f7a4 1 = .ok (.ifCond .ge 8, 3) := by decide +kernel
theorem dJ9_abs_0f7a4_4 : decode cJ9_abs_0f7a4 4 = .ok (.iload_n 0, 1) := by decide +kernel
theorem dJ9_abs_0f7a4_5 : decode cJ9_abs_0f7a4 5 = .ok (.ineg, 1) := by decide +kernel
theorem dJ9_abs_0f7a4_6 : decode cJ9_abs_0f7a4 6 = .ok (.goto 4, 3) := by decide +kernel
theorem dJ9_abs_0f7a4_9 : decode cJ9_abs_0f7a4 9 = .ok (.iload_n 0, 1) := by decide +kernel
theorem dJ9_abs_0f7a4_10 : decode cJ9_abs_0f7a4 10 = .ok (.ireturn, 1) := by decide +kernel
theorem dJ9_max_7cf53_0 : decode cJ9_max_7cf53 0 = .ok (.iload_n 0, 1) := by decide +kernel
theorem dJ9_max_7cf53_1 : decode cJ9_max_7cf53 1 = .ok (.iload_n 1, 1) := by decide +kernel
theorem dJ9_max_7cf53_2 : decode cJ9_max_7cf53 2 = .ok (.if_icmp .lt 7, 3) := by decide +kernel
theorem dJ9_max_7cf53_5 : decode cJ9_max_7cf53 5 = .ok (.iload_n 0, 1) := by decide +kernel
theorem dJ9_max_7cf53_6 : decode cJ9_max_7cf53 6 = .ok (.goto 4, 3) := by decide +kernel
theorem dJ9_max_7cf53_9 : decode cJ9_max_7cf53 9 = .ok (.iload_n 1, 1) := by decide +kernel
theorem dJ9_max_7cf53_10 : decode cJ9_max_7cf53 10 = .ok (.ireturn, 1) := by decide +kernel
theorem dJ9_min_7cf53_0 : decode cJ9_min_7cf53 0 = .ok (.iload_n 0, 1) := by decide +kernel
theorem dJ9_min_7cf53_1 : decode cJ9_min_7cf53 1 = .ok (.iload_n 1, 1) := by decide +kernel
theorem dJ9_min_7cf53_2 : decode cJ9_min_7cf53 2 = .ok (.if_icmp .gt 7, 3) := by decide +kernel
theorem dJ9_min_7cf53_5 : decode cJ9_min_7cf53 5 = .ok (.iload_n 0, 1) := by decide +kernel
theorem dJ9_min_7cf53_6 : decode cJ9_min_7cf53 6 = .ok (.goto 4, 3) := by decide +kernel
theorem dJ9_min_7cf53_9 : decode cJ9_min_7cf53 9 = .ok (.iload_n 1, 1) := by decide +kernel
theorem dJ9_min_7cf53_10 : decode cJ9_min_7cf53 10 = .ok (.ireturn, 1) := by decide +kernel
