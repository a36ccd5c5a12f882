/-! THE CONSTRUCTORS: what each leaves -/
theorem dX6_init_0 : decode cX6_init 0 = .ok (.aload_n 0, 1) := by decide +kernel
theorem dX6_init_1 : decode cX6_init 1 = .ok (.invokespecial 3, 3) := by decide +kernel
theorem dX6_init_4 : decode cX6_init 4 = .ok (.aload_n 0, 1) := by decide +kernel
theorem dX6_init_5 : decode cX6_init 5 = .ok (.iconst 3, 1) := by decide +kernel
theorem dX6_init_6 : decode cX6_init 6 = .ok (.newarray .int, 2) := by decide +kernel
theorem dX6_init_8 : decode cX6_init 8 = .ok (.putfield 9, 3) := by decide +kernel
theorem dX6_init_11 : decode cX6_init 11 = .ok (.iconst 0, 1) := by decide +kernel
theorem dX6_init_12 : decode cX6_init 12 = .ok (.istore_n 1, 1) := by decide +kernel
theorem dX6_init_13 : decode cX6_init 13 = .ok (.iload_n 1, 1) := by decide +kernel
theorem dX6_init_14 : decode cX6_init 14 = .ok (.iconst 3, 1) := by decide +kernel
theorem dX6_init_15 : decode cX6_init 15 = .ok (.if_icmp .ge 20, 3) := by decide +kernel
theorem dX6_init_18 : decode cX6_init 18 = .ok (.aload_n 0, 1) := by decide +kernel
theorem dX6_init_19 : decode cX6_init 19 = .ok (.getfield 9, 3) := by decide +kernel
theorem dX6_init_22 : decode cX6_init 22 = .ok (.iload_n 1, 1) := by decide +kernel
theorem dX6_init_23 : decode cX6_init 23 = .ok (.getstatic 15, 3) := by decide +kernel
theorem dX6_init_26 : decode cX6_init 26 = .ok (.iload_n 1, 1) := by decide +kernel
theorem dX6_init_27 : decode cX6_init 27 = .ok (.iaload, 1) := by decide +kernel
theorem dX6_init_28 : decode cX6_init 28 = .ok (.iastore, 1) := by decide +kernel
theorem dX6_init_29 : decode cX6_init 29 = .ok (.iinc 1 1, 3) := by decide +kernel
theorem dX6_init_32 : decode cX6_init 32 = .ok (.goto (-19), 3) := by decide +kernel
theorem dX6_init_35 : decode cX6_init 35 = .ok (.return_, 1) := by decide +kernel
theorem dX4_init_0 : decode cX4_init 0 = .ok (.aload_n 0, 1) := by decide +kernel
theorem dX4_init_1 : decode cX4_init 1 = .ok (.invokespecial 3, 3) := by decide +kernel
theorem dX4_init_4 : decode cX4_init 4 = .ok (.aload_n 0, 1) := by decide +kernel
theorem dX4_init_5 : decode cX4_init 5 = .ok (.bipush 8, 2) := by decide +kernel
theorem dX4_init_7 : decode cX4_init 7 = .ok (.newarray .int, 2) := by decide +kernel
theorem dX4_init_9 : decode cX4_init 9 = .ok (.putfield 9, 3) := by decide +kernel
theorem dX4_init_12 : decode cX4_init 12 = .ok (.aload_n 0, 1) := by decide +kernel
theorem dX4_init_13 : decode cX4_init 13 = .ok (.bipush 8, 2) := by decide +kernel
theorem dX4_init_15 : decode cX4_init 15 = .ok (.newarray .int, 2) := by decide +kernel
theorem dX4_init_17 : decode cX4_init 17 = .ok (.putfield 15, 3) := by decide +kernel
theorem dX4_init_20 : decode cX4_init 20 = .ok (.return_, 1) := by decide +kernel
theorem dX3_init_0 : decode cX3_init 0 = .ok (.aload_n 0, 1) := by decide +kernel
theorem dX3_init_1 : decode cX3_init 1 = .ok (.invokespecial 3, 3) := by decide +kernel
theorem dX3_init_4 : decode cX3_init 4 = .ok (.aload_n 0, 1) := by decide +kernel
theorem dX3_init_5 : decode cX3_init 5 = .ok (.bipush 60, 2) := by decide +kernel
theorem dX3_init_7 : decode cX3_init 7 = .ok (.newarray .int, 2) := by decide +kernel
theorem dX3_init_9 : decode cX3_init 9 = .ok (.putfield 9, 3) := by decide +kernel
theorem dX3_init_12 : decode cX3_init 12 = .ok (.return_, 1) := by decide +kernel
theorem dX5_init_0 : decode cX5_init 0 = .ok (.aload_n 0, 1) := by decide +kernel
theorem dX5_init_1 : decode cX5_init 1 = .ok (.invokespecial 3, 3) := by decide +kernel
theorem dX5_init_4 : decode cX5_init 4 = .ok (.return_, 1) := by decide +kernel
theorem dX8_init_0 : decode cX8_init 0 = .ok (.aload_n 0, 1) := by decide +kernel
theorem dX8_init_1 : decode cX8_init 1 = .ok (.invokespecial 3, 3) := by decide +kernel
theorem dX8_init_4 : decode cX8_init 4 = .ok (.aload_n 0, 1) := by decide +kernel
theorem dX8_init_5 : decode cX8_init 5 = .ok (.new 9, 3) := by decide +kernel
theorem dX8_init_8 : decode cX8_init 8 = .ok (.dup, 1) := by decide +kernel
theorem dX8_init_9 : decode cX8_init 9 = .ok (.invokespecial 11, 3) := by decide +kernel
theorem dX8_init_12 : decode cX8_init 12 = .ok (.putfield 12, 3) := by decide +kernel
theorem dX8_init_15 : decode cX8_init 15 = .ok (.aload_n 0, 1) := by decide +kernel
theorem dX8_init_16 : decode cX8_init 16 = .ok (.new 18, 3) := by decide +kernel
theorem dX8_init_19 : decode cX8_init 19 = .ok (.dup, 1) := by decide +kernel
theorem dX8_init_20 : decode cX8_init 20 = .ok (.invokespecial 20, 3) := by decide +kernel
theorem dX8_init_23 : decode cX8_init 23 = .ok (.putfield 21, 3) := by decide +kernel
theorem dX8_init_26 : decode cX8_init 26 = .ok (.return_, 1) := by decide +kernel
theorem dX7_init_0 : decode cX7_init 0 = .ok (.aload_n 0, 1) := by decide +kernel
theorem dX7_init_1 : decode cX7_init 1 = .ok (.invokespecial 3, 3) := by decide +kernel
theorem dX7_init_4 : decode cX7_init 4 = .ok (.aload_n 0, 1) := by decide +kernel
theorem dX7_init_5 : decode cX7_init 5 = .ok (.bipush 16, 2) := by decide +kernel
theorem dX7_init_7 : decode cX7_init 7 = .ok (.newarray .int, 2) := by decide +kernel
theorem dX7_init_9 : decode cX7_init 9 = .ok (.putfield 9, 3) := by decide +kernel
theorem dX7_init_12 : decode cX7_init 12 = .ok (.return_, 1) := by decide +kernel
theorem dX9_init_0 : decode cX9_init 0 = .ok (.aload_n 0, 1) := by decide +kernel
theorem dX9_init_1 : decode cX9_init 1 = .ok (.invokespecial 3, 3) := by decide +kernel
theorem dX9_init_4 : decode cX9_init 4 = .ok (.aload_n 0, 1) := by decide +kernel
theorem dX9_init_5 : decode cX9_init 5 = .ok (.sipush 360, 3) := by decide +kernel
theorem dX9_init_8 : decode cX9_init 8 = .ok (.newarray .int, 2) := by decide +kernel
theorem dX9_init_10 : decode cX9_init 10 = .ok (.putfield 9, 3) := by decide +kernel
theorem dX9_init_13 : decode cX9_init 13 = .ok (.aload_n 0, 1) := by decide +kernel
theorem dX9_init_14 : decode cX9_init 14 = .ok (.sipush 720, 3) := by decide +kernel
theorem dX9_init_17 : decode cX9_init 17 = .ok (.newarray .int, 2) := by decide +kernel
theorem dX9_init_19 : decode cX9_init 19 = .ok (.putfield 15, 3) := by decide +kernel
theorem dX9_init_22 : decode cX9_init 22 = .ok (.return_, 1) := by decide +kernel
theorem dX0_init_0 : decode cX0_init 0 = .ok (.aload_n 0, 1) := by decide +kernel
theorem dX0_init_1 : decode cX0_init 1 = .ok (.invokespecial 3, 3) := by decide +kernel
theorem dX0_init_4 : decode cX0_init 4 = .ok (.aload_n 0, 1) := by decide +kernel
theorem dX0_init_5 : decode cX0_init 5 = .ok (.bipush 100, 2) := by decide +kernel
theorem dX0_init_7 : decode cX0_init 7 = .ok (.newarray .int, 2) := by decide +kernel
theorem dX0_init_9 : decode cX0_init 9 = .ok (.putfield 9, 3) := by decide +kernel
theorem dX0_init_12 : decode cX0_init 12 = .ok (.return_, 1) := by decide +kernel
theorem dX1_init_0 : decode cX1_init 0 = .ok (.aload_n 0, 1) := by decide +kernel
theorem dX1_init_1 : decode cX1_init 1 = .ok (.invokespecial 1, 3) := by decide +kernel
theorem dX1_init_4 : decode cX1_init 4 = .ok (.aload_n 0, 1) := by decide +kernel
theorem dX1_init_5 : decode cX1_init 5 = .ok (.new 7, 3) := by decide +kernel
theorem dX1_init_8 : decode cX1_init 8 = .ok (.dup, 1) := by decide +kernel
theorem dX1_init_9 : decode cX1_init 9 = .ok (.invokespecial 9, 3) := by decide +kernel
theorem dX1_init_12 : decode cX1_init 12 = .ok (.putfield 10, 3) := by decide +kernel
theorem dX1_init_15 : decode cX1_init 15 = .ok (.aload_n 0, 1) := by decide +kernel
theorem dX1_init_16 : decode cX1_init 16 = .ok (.new 16, 3) := by decide +kernel
theorem dX1_init_19 : decode cX1_init 19 = .ok (.dup, 1) := by decide +kernel
theorem dX1_init_20 : decode cX1_init 20 = .ok (.invokespecial 18, 3) := by decide +kernel
theorem dX1_init_23 : decode cX1_init 23 = .ok (.putfield 19, 3) := by decide +kernel
theorem dX1_init_26 : decode cX1_init 26 = .ok (.return_, 1) := by decide +kernel
theorem dX10_init_0 : decode cX10_init 0 = .ok (.aload_n 0, 1) := by decide +kernel
theorem dX10_init_1 : decode cX10_init 1 = .ok (.invokespecial 3, 3) := by decide +kernel
theorem dX10_init_4 : decode cX10_init 4 = .ok (.aload_n 0, 1) := by decide +kernel
theorem dX10_init_5 : decode cX10_init 5 = .ok (.new 9, 3) := by decide +kernel
theorem dX10_init_8 : decode cX10_init 8 = .ok (.dup, 1) := by decide +kernel
theorem dX10_init_9 : decode cX10_init 9 = .ok (.invokespecial 11, 3) := by decide +kernel
theorem dX10_init_12 : decode cX10_init 12 = .ok (.putfield 12, 3) := by decide +kernel
theorem dX10_init_15 : decode cX10_init 15 = .ok (.aload_n 0, 1) := by decide +kernel
theorem dX10_init_16 : decode cX10_init 16 = .ok (.new 16, 3) := by decide +kernel
theorem dX10_init_19 : decode cX10_init 19 = .ok (.dup, 1) := by decide +kernel
theorem dX10_init_20 : decode cX10_init 20 = .ok (.invokespecial 18, 3) := by decide +kernel
theorem dX10_init_23 : decode cX10_init 23 = .ok (.putfield 19, 3) := by decide +kernel
theorem dX10_init_26 : decode cX10_init 26 = .ok (.aload_n 0, 1) := by decide +kernel
theorem dX10_init_27 : decode cX10_init 27 = .ok (.new 23, 3) := by decide +kernel
theorem dX10_init_30 : decode cX10_init 30 = .ok (.dup, 1) := by decide +kernel
theorem dX10_init_31 : decode cX10_init 31 = .ok (.invokespecial 25, 3) := by decide +kernel
theorem dX10_init_34 : decode cX10_init 34 = .ok (.putfield 26, 3) := by decide +kernel
theorem dX10_init_37 : decode cX10_init 37 = .ok (.aload_n 0, 1) := by decide +kernel
theorem dX10_init_38 : decode cX10_init 38 = .ok (.new 30, 3) := by decide +kernel
theorem dX10_init_41 : decode cX10_init 41 = .ok (.dup, 1) := by decide +kernel
theorem dX10_init_42 : decode cX10_init 42 = .ok (.invokespecial 32, 3) := by decide +kernel
theorem dX10_init_45 : decode cX10_init 45 = .ok (.putfield 33, 3) := by decide +kernel
theorem dX10_init_48 : decode cX10_init 48 = .ok (.aload_n 0, 1) := by decide +kernel
theorem dX10_init_49 : decode cX10_init 49 = .ok (.new 37, 3) := by decide +kernel
theorem dX10_init_52 : decode cX10_init 52 = .ok (.dup, 1) := by decide +kernel
theorem dX10_init_53 : decode cX10_init 53 = .ok (.invokespecial 39, 3) := by decide +kernel
theorem dX10_init_56 : decode cX10_init 56 = .ok (.putfield 40, 3) := by decide +kernel
theorem dX10_init_59 : decode cX10_init 59 = .ok (.aload_n 0, 1) := by decide +kernel
theorem dX10_init_60 : decode cX10_init 60 = .ok (.new 44, 3) := by decide +kernel
theorem dX10_init_63 : decode cX10_init 63 = .ok (.dup, 1) := by decide +kernel
theorem dX10_init_64 : decode cX10_init 64 = .ok (.invokespecial 46, 3) := by decide +kernel
theorem dX10_init_67 : decode cX10_init 67 = .ok (.putfield 47, 3) := by decide +kernel
theorem dX10_init_70 : decode cX10_init 70 = .ok (.aload_n 0, 1) := by decide +kernel
theorem dX10_init_71 : decode cX10_init 71 = .ok (.new 51, 3) := by decide +kernel
theorem dX10_init_74 : decode cX10_init 74 = .ok (.dup, 1) := by decide +kernel
theorem dX10_init_75 : decode cX10_init 75 = .ok (.invokespecial 53, 3) := by decide +kernel
theorem dX10_init_78 : decode cX10_init 78 = .ok (.putfield 54, 3) := by decide +kernel
theorem dX10_init_81 : decode cX10_init 81 = .ok (.aload_n 0, 1) := by decide +kernel
theorem dX10_init_82 : decode cX10_init 82 = .ok (.iconst 2, 1) := by decide +kernel
theorem dX10_init_83 : decode cX10_init 83 = .ok (.anewarray 58, 3) := by decide +kernel
theorem dX10_init_86 : decode cX10_init 86 = .ok (.putfield 60, 3) := by decide +kernel
theorem dX10_init_89 : decode cX10_init 89 = .ok (.iconst 0, 1) := by decide +kernel
theorem dX10_init_90 : decode cX10_init 90 = .ok (.istore_n 1, 1) := by decide +kernel
theorem dX10_init_91 : decode cX10_init 91 = .ok (.iload_n 1, 1) := by decide +kernel
theorem dX10_init_92 : decode cX10_init 92 = .ok (.iconst 2, 1) := by decide +kernel
theorem dX10_init_93 : decode cX10_init 93 = .ok (.if_icmp .ge 22, 3) := by decide +kernel
theorem dX10_init_96 : decode cX10_init 96 = .ok (.aload_n 0, 1) := by decide +kernel
theorem dX10_init_97 : decode cX10_init 97 = .ok (.getfield 60, 3) := by decide +kernel
theorem dX10_init_100 : decode cX10_init 100 = .ok (.iload_n 1, 1) := by decide +kernel
theorem dX10_init_101 : decode cX10_init 101 = .ok (.new 58, 3) := by decide +kernel
theorem dX10_init_104 : decode cX10_init 104 = .ok (.dup, 1) := by decide +kernel
theorem dX10_init_105 : decode cX10_init 105 = .ok (.invokespecial 64, 3) := by decide +kernel
theorem dX10_init_108 : decode cX10_init 108 = .ok (.aastore, 1) := by decide +kernel
theorem dX10_init_109 : decode cX10_init 109 = .ok (.iinc 1 1, 3) := by decide +kernel
theorem dX10_init_112 : decode cX10_init 112 = .ok (.goto (-21), 3) := by decide +kernel
theorem dX10_init_115 : decode cX10_init 115 = .ok (.return_, 1) := by decide +kernel
theorem dX11_init_0 : decode cX11_init 0 = .ok (.aload_n 0, 1) := by decide +kernel
theorem dX11_init_1 : decode cX11_init 1 = .ok (.invokespecial 1, 3) := by decide +kernel
theorem dX11_init_4 : decode cX11_init 4 = .ok (.aload_n 0, 1) := by decide +kernel
theorem dX11_init_5 : decode cX11_init 5 = .ok (.iconst 3, 1) := by decide +kernel
theorem dX11_init_6 : decode cX11_init 6 = .ok (.newarray .int, 2) := by decide +kernel
theorem dX11_init_8 : decode cX11_init 8 = .ok (.putfield 7, 3) := by decide +kernel
theorem dX11_init_11 : decode cX11_init 11 = .ok (.aload_n 0, 1) := by decide +kernel
theorem dX11_init_12 : decode cX11_init 12 = .ok (.bipush 8, 2) := by decide +kernel
theorem dX11_init_14 : decode cX11_init 14 = .ok (.newarray .int, 2) := by decide +kernel
theorem dX11_init_16 : decode cX11_init 16 = .ok (.putfield 13, 3) := by decide +kernel
theorem dX11_init_19 : decode cX11_init 19 = .ok (.aload_n 0, 1) := by decide +kernel
theorem dX11_init_20 : decode cX11_init 20 = .ok (.bipush 8, 2) := by decide +kernel
theorem dX11_init_22 : decode cX11_init 22 = .ok (.newarray .int, 2) := by decide +kernel
theorem dX11_init_24 : decode cX11_init 24 = .ok (.putfield 16, 3) := by decide +kernel
theorem dX11_init_27 : decode cX11_init 27 = .ok (.aload_n 0, 1) := by decide +kernel
theorem dX11_init_28 : decode cX11_init 28 = .ok (.bipush 60, 2) := by decide +kernel
theorem dX11_init_30 : decode cX11_init 30 = .ok (.newarray .int, 2) := by decide +kernel
theorem dX11_init_32 : decode cX11_init 32 = .ok (.putfield 19, 3) := by decide +kernel
theorem dX11_init_35 : decode cX11_init 35 = .ok (.aload_n 0, 1) := by decide +kernel
theorem dX11_init_36 : decode cX11_init 36 = .ok (.bipush 60, 2) := by decide +kernel
theorem dX11_init_38 : decode cX11_init 38 = .ok (.newarray .int, 2) := by decide +kernel
theorem dX11_init_40 : decode cX11_init 40 = .ok (.putfield 22, 3) := by decide +kernel
theorem dX11_init_43 : decode cX11_init 43 = .ok (.aload_n 0, 1) := by decide +kernel
theorem dX11_init_44 : decode cX11_init 44 = .ok (.bipush 60, 2) := by decide +kernel
theorem dX11_init_46 : decode cX11_init 46 = .ok (.newarray .int, 2) := by decide +kernel
theorem dX11_init_48 : decode cX11_init 48 = .ok (.putfield 25, 3) := by decide +kernel
theorem dX11_init_51 : decode cX11_init 51 = .ok (.aload_n 0, 1) := by decide +kernel
theorem dX11_init_52 : decode cX11_init 52 = .ok (.bipush 60, 2) := by decide +kernel
theorem dX11_init_54 : decode cX11_init 54 = .ok (.newarray .int, 2) := by decide +kernel
theorem dX11_init_56 : decode cX11_init 56 = .ok (.putfield 28, 3) := by decide +kernel
theorem dX11_init_59 : decode cX11_init 59 = .ok (.aload_n 0, 1) := by decide +kernel
theorem dX11_init_60 : decode cX11_init 60 = .ok (.bipush 60, 2) := by decide +kernel
theorem dX11_init_62 : decode cX11_init 62 = .ok (.newarray .int, 2) := by decide +kernel
theorem dX11_init_64 : decode cX11_init 64 = .ok (.putfield 31, 3) := by decide +kernel
theorem dX11_init_67 : decode cX11_init 67 = .ok (.aload_n 0, 1) := by decide +kernel
theorem dX11_init_68 : decode cX11_init 68 = .ok (.iconst 3, 1) := by decide +kernel
theorem dX11_init_69 : decode cX11_init 69 = .ok (.newarray .int, 2) := by decide +kernel
theorem dX11_init_71 : decode cX11_init 71 = .ok (.putfield 34, 3) := by decide +kernel
theorem dX11_init_74 : decode cX11_init 74 = .ok (.aload_n 0, 1) := by decide +kernel
theorem dX11_init_75 : decode cX11_init 75 = .ok (.bipush 6, 2) := by decide +kernel
theorem dX11_init_77 : decode cX11_init 77 = .ok (.newarray .int, 2) := by decide +kernel
theorem dX11_init_79 : decode cX11_init 79 = .ok (.putfield 37, 3) := by decide +kernel
theorem dX11_init_82 : decode cX11_init 82 = .ok (.aload_n 0, 1) := by decide +kernel
theorem dX11_init_83 : decode cX11_init 83 = .ok (.bipush 45, 2) := by decide +kernel
theorem dX11_init_85 : decode cX11_init 85 = .ok (.newarray .boolean, 2) := by decide +kernel
theorem dX11_init_87 : decode cX11_init 87 = .ok (.putfield 40, 3) := by decide +kernel
theorem dX11_init_90 : decode cX11_init 90 = .ok (.aload_n 0, 1) := by decide +kernel
theorem dX11_init_91 : decode cX11_init 91 = .ok (.bipush 45, 2) := by decide +kernel
theorem dX11_init_93 : decode cX11_init 93 = .ok (.newarray .int, 2) := by decide +kernel
theorem dX11_init_95 : decode cX11_init 95 = .ok (.putfield 44, 3) := by decide +kernel
theorem dX11_init_98 : decode cX11_init 98 = .ok (.aload_n 0, 1) := by decide +kernel
theorem dX11_init_99 : decode cX11_init 99 = .ok (.sipush 360, 3) := by decide +kernel
theorem dX11_init_102 : decode cX11_init 102 = .ok (.newarray .int, 2) := by decide +kernel
theorem dX11_init_104 : decode cX11_init 104 = .ok (.putfield 47, 3) := by decide +kernel
theorem dX11_init_107 : decode cX11_init 107 = .ok (.aload_n 0, 1) := by decide +kernel
theorem dX11_init_108 : decode cX11_init 108 = .ok (.sipush 360, 3) := by decide +kernel
theorem dX11_init_111 : decode cX11_init 111 = .ok (.newarray .int, 2) := by decide +kernel
theorem dX11_init_113 : decode cX11_init 113 = .ok (.putfield 50, 3) := by decide +kernel
theorem dX11_init_116 : decode cX11_init 116 = .ok (.aload_n 0, 1) := by decide +kernel
theorem dX11_init_117 : decode cX11_init 117 = .ok (.bipush 45, 2) := by decide +kernel
theorem dX11_init_119 : decode cX11_init 119 = .ok (.newarray .int, 2) := by decide +kernel
theorem dX11_init_121 : decode cX11_init 121 = .ok (.putfield 53, 3) := by decide +kernel
theorem dX11_init_124 : decode cX11_init 124 = .ok (.aload_n 0, 1) := by decide +kernel
theorem dX11_init_125 : decode cX11_init 125 = .ok (.sipush 2000, 3) := by decide +kernel
theorem dX11_init_128 : decode cX11_init 128 = .ok (.newarray .boolean, 2) := by decide +kernel
theorem dX11_init_130 : decode cX11_init 130 = .ok (.putfield 56, 3) := by decide +kernel
theorem dX11_init_133 : decode cX11_init 133 = .ok (.aload_n 0, 1) := by decide +kernel
theorem dX11_init_134 : decode cX11_init 134 = .ok (.bipush 81, 2) := by decide +kernel
theorem dX11_init_136 : decode cX11_init 136 = .ok (.newarray .long, 2) := by decide +kernel
theorem dX11_init_138 : decode cX11_init 138 = .ok (.putfield 59, 3) := by decide +kernel
theorem dX11_init_141 : decode cX11_init 141 = .ok (.aload_n 0, 1) := by decide +kernel
theorem dX11_init_142 : decode cX11_init 142 = .ok (.bipush 60, 2) := by decide +kernel
theorem dX11_init_144 : decode cX11_init 144 = .ok (.newarray .int, 2) := by decide +kernel
theorem dX11_init_146 : decode cX11_init 146 = .ok (.putfield 63, 3) := by decide +kernel
theorem dX11_init_149 : decode cX11_init 149 = .ok (.aload_n 0, 1) := by decide +kernel
theorem dX11_init_150 : decode cX11_init 150 = .ok (.iconst 2, 1) := by decide +kernel
theorem dX11_init_151 : decode cX11_init 151 = .ok (.newarray .boolean, 2) := by decide +kernel
theorem dX11_init_153 : decode cX11_init 153 = .ok (.putfield 66, 3) := by decide +kernel
theorem dX11_init_156 : decode cX11_init 156 = .ok (.iconst 0, 1) := by decide +kernel
theorem dX11_init_157 : decode cX11_init 157 = .ok (.istore_n 1, 1) := by decide +kernel
theorem dX11_init_158 : decode cX11_init 158 = .ok (.iload_n 1, 1) := by decide +kernel
theorem dX11_init_159 : decode cX11_init 159 = .ok (.iconst 3, 1) := by decide +kernel
theorem dX11_init_160 : decode cX11_init 160 = .ok (.if_icmp .ge 19, 3) := by decide +kernel
theorem dX11_init_163 : decode cX11_init 163 = .ok (.aload_n 0, 1) := by decide +kernel
theorem dX11_init_164 : decode cX11_init 164 = .ok (.getfield 7, 3) := by decide +kernel
theorem dX11_init_167 : decode cX11_init 167 = .ok (.iload_n 1, 1) := by decide +kernel
theorem dX11_init_168 : decode cX11_init 168 = .ok (.iload_n 1, 1) := by decide +kernel
theorem dX11_init_169 : decode cX11_init 169 = .ok (.invokestatic 69, 3) := by decide +kernel
theorem dX11_init_172 : decode cX11_init 172 = .ok (.iastore, 1) := by decide +kernel
theorem dX11_init_173 : decode cX11_init 173 = .ok (.iinc 1 1, 3) := by decide +kernel
theorem dX11_init_176 : decode cX11_init 176 = .ok (.goto (-18), 3) := by decide +kernel
theorem dX11_init_179 : decode cX11_init 179 = .ok (.return_, 1) := by decide +kernel
theorem dX11_home_0 : decode cX11_home 0 = .ok (.iload_n 0, 1) := by decide +kernel
theorem dX11_home_1 : decode cX11_home 1 = .ok (.ifCond .ne 8, 3) := by decide +kernel
theorem dX11_home_4 : decode cX11_home 4 = .ok (.bipush 10, 2) := by decide +kernel
theorem dX11_home_6 : decode cX11_home 6 = .ok (.goto 15, 3) := by decide +kernel
theorem dX11_home_9 : decode cX11_home 9 = .ok (.iload_n 0, 1) := by decide +kernel
theorem dX11_home_10 : decode cX11_home 10 = .ok (.iconst 1, 1) := by decide +kernel
theorem dX11_home_11 : decode cX11_home 11 = .ok (.if_icmp .ne 8, 3) := by decide +kernel
theorem dX11_home_14 : decode cX11_home 14 = .ok (.bipush 16, 2) := by decide +kernel
theorem dX11_home_16 : decode cX11_home 16 = .ok (.goto 5, 3) := by decide +kernel
theorem dX11_home_19 : decode cX11_home 19 = .ok (.bipush 24, 2) := by decide +kernel
theorem dX11_home_21 : decode cX11_home 21 = .ok (.ireturn, 1) := by decide +kernel
def cw_Table (ca : Nat → ClassId) (h0 : Nat) (q : Nat → Nat) : va_W := [(h0, .inr (5, [.ref (q 1), .int 0, .int 0, .int 0])), (q 1, .inl (ca 0, 3, .inl cn_first))]
def cw_Sights (ca : Nat → ClassId) (h0 : Nat) (q : Nat → Nat) : va_W := [(h0, .inr (3, [.ref (q 1), .ref (q 2), .int 0])), (q 1, .inl (ca 0, 8, .inl (fun _ => 0))), (q 2, .inl (ca 0, 8, .inl (fun _ => 0)))]
def cw_Pad (ca : Nat → ClassId) (h0 : Nat) (q : Nat → Nat) : va_W := [(h0, .inr (2, [.ref (q 1), .int 0])), (q 1, .inl (ca 0, 60, .inl (fun _ => 0)))]
def cw_Stroke (ca : Nat → ClassId) (h0 : Nat) (_ : Nat → Nat) : va_W := [(h0, .inr (4, [.int 0, .int 0, .int 0, .int 0, .int 0, .int 0, .int 0]))]
def cw_Trial (ca : Nat → ClassId) (h0 : Nat) (q : Nat → Nat) : va_W := [(h0, .inr (7, [.ref (q 1), .ref (q 3), .int 0, .int 0, .int 0, .int 0, .int 0, .int 0])), (q 1, .inr (5, [.ref (q 2), .int 0, .int 0, .int 0])), (q 2, .inl (ca 0, 3, .inl cn_first)), (q 3, .inr (4, [.int 0, .int 0, .int 0, .int 0, .int 0, .int 0, .int 0]))]
def cw_Track (ca : Nat → ClassId) (h0 : Nat) (q : Nat → Nat) : va_W := [(h0, .inr (6, [.ref (q 1), .int 0, .long 0])), (q 1, .inl (ca 0, 16, .inl (fun _ => 0)))]
def cw_Whence (ca : Nat → ClassId) (h0 : Nat) (q : Nat → Nat) : va_W := [(h0, .inr (8, [.ref (q 1), .int 0, .int 0, .int 0, .ref (q 2)])), (q 1, .inl (ca 0, 360, .inl (fun _ => 0))), (q 2, .inl (ca 0, 720, .inl (fun _ => 0)))]
def cw_Heaps (ca : Nat → ClassId) (h0 : Nat) (q : Nat → Nat) : va_W := [(h0, .inr (0, [.ref (q 1), .int 0])), (q 1, .inl (ca 0, 100, .inl (fun _ => 0)))]
def cw_Image (ca : Nat → ClassId) (h0 : Nat) (q : Nat → Nat) : va_W := [(h0, .inr (1, [.ref (q 1), .ref (q 3), .int 0])), (q 1, .inr (5, [.ref (q 2), .int 0, .int 0, .int 0])), (q 2, .inl (ca 0, 3, .inl cn_first)), (q 3, .inr (3, [.ref (q 4), .ref (q 5), .int 0])), (q 4, .inl (ca 0, 8, .inl (fun _ => 0))), (q 5, .inl (ca 0, 8, .inl (fun _ => 0)))]
def cw_Baize (ca : Nat → ClassId) (h0 : Nat) (q : Nat → Nat) : va_W := [(h0, .inr (9, [.ref (q 1), .ref (q 3), .ref (q 6), .ref (q 8), .ref (q 12), .ref (q 14), .ref (q 17), .ref (q 19)])), (q 1, .inr (5, [.ref (q 2), .int 0, .int 0, .int 0])), (q 2, .inl (ca 0, 3, .inl cn_first)), (q 3, .inr (3, [.ref (q 4), .ref (q 5), .int 0])), (q 4, .inl (ca 0, 8, .inl (fun _ => 0))), (q 5, .inl (ca 0, 8, .inl (fun _ => 0))), (q 6, .inr (2, [.ref (q 7), .int 0])), (q 7, .inl (ca 0, 60, .inl (fun _ => 0))), (q 8, .inr (7, [.ref (q 9), .ref (q 11), .int 0, .int 0, .int 0, .int 0, .int 0, .int 0])), (q 9, .inr (5, [.ref (q 10), .int 0, .int 0, .int 0])), (q 10, .inl (ca 0, 3, .inl cn_first)), (q 11, .inr (4, [.int 0, .int 0, .int 0, .int 0, .int 0, .int 0, .int 0])), (q 12, .inr (6, [.ref (q 13), .int 0, .long 0])), (q 13, .inl (ca 0, 16, .inl (fun _ => 0))), (q 14, .inr (8, [.ref (q 15), .int 0, .int 0, .int 0, .ref (q 16)])), (q 15, .inl (ca 0, 360, .inl (fun _ => 0))), (q 16, .inl (ca 0, 720, .inl (fun _ => 0))), (q 17, .inr (0, [.ref (q 18), .int 0])), (q 18, .inl (ca 0, 100, .inl (fun _ => 0))), (q 19, .inl (ca 3, 2, .inr (.inr (.inr (.inr (va_up (va_up (fun _ => none) (0 : Int32).toNatClampNeg (some (q 20))) (1 : Int32).toNatClampNeg (some (q 26)))))))), (q 20, .inr (1, [.ref (q 21), .ref (q 23), .int 0])), (q 21, .inr (5, [.ref (q 22), .int 0, .int 0, .int 0])), (q 22, .inl (ca 0, 3, .inl cn_first)), (q 23, .inr (3, [.ref (q 24), .ref (q 25), .int 0])), (q 24, .inl (ca 0, 8, .inl (fun _ => 0))), (q 25, .inl (ca 0, 8, .inl (fun _ => 0))), (q 26, .inr (1, [.ref (q 27), .ref (q 29), .int 0])), (q 27, .inr (5, [.ref (q 28), .int 0, .int 0, .int 0])), (q 28, .inl (ca 0, 3, .inl cn_first)), (q 29, .inr (3, [.ref (q 30), .ref (q 31), .int 0])), (q 30, .inl (ca 0, 8, .inl (fun _ => 0))), (q 31, .inl (ca 0, 8, .inl (fun _ => 0)))]
def cw_Model (ca : Nat → ClassId) (h0 : Nat) (q : Nat → Nat) : va_W := [(h0, .inr (10, [.ref (q 1), .int 0, .int 0, .int 0, .ref (q 2), .ref (q 3), .int 0, .ref (q 4), .int 0, .ref (q 5), .ref (q 6), .ref (q 7), .ref (q 8), .int 0, .int 0, .int 0, .int 0, .int 0, .int 0, .int 0, .int 0, .int 0, .int 0, .int 0, .int 0, .ref (q 9), .ref (q 10), .int 0, .int 0, .int 0, .ref (q 11), .ref (q 12), .ref (q 13), .ref (q 14), .int 0, .ref (q 15), .ref (q 16), .ref (q 17), .ref (q 18), .ref (q 19), .int 0, .int 0])), (q 1, .inl (ca 0, 3, .inl cn_first)), (q 2, .inl (ca 0, 8, .inl (fun _ => 0))), (q 3, .inl (ca 0, 8, .inl (fun _ => 0))), (q 4, .inl (ca 0, 60, .inl (fun _ => 0))), (q 5, .inl (ca 0, 60, .inl (fun _ => 0))), (q 6, .inl (ca 0, 60, .inl (fun _ => 0))), (q 7, .inl (ca 0, 60, .inl (fun _ => 0))), (q 8, .inl (ca 0, 60, .inl (fun _ => 0))), (q 9, .inl (ca 0, 3, .inl (fun _ => 0))), (q 10, .inl (ca 0, 6, .inl (fun _ => 0))), (q 11, .inl (ca 2, 45, .inl (fun _ => 0))), (q 12, .inl (ca 0, 45, .inl (fun _ => 0))), (q 13, .inl (ca 0, 360, .inl (fun _ => 0))), (q 14, .inl (ca 0, 360, .inl (fun _ => 0))), (q 15, .inl (ca 0, 45, .inl (fun _ => 0))), (q 16, .inl (ca 2, 2000, .inl (fun _ => 0))), (q 17, .inl (ca 1, 81, .inr (.inl (fun _ => 0)))), (q 18, .inl (ca 0, 60, .inl (fun _ => 0))), (q 19, .inl (ca 2, 2, .inl (fun _ => 0)))]
theorem cn_up3 {f : Nat → Int32} {i : Nat} (hi : i < 3) (h1 : ∀ k, k < i → f k = cn_first k) (h2 : ∀ k, i ≤ k → f k = 0) : (∀ k, k < i + 1 → upd f (nI i).toNatClampNeg (cn_first i) k = cn_first k) ∧ (∀ k, i + 1 ≤ k → upd f (nI i).toNatClampNeg (cn_first i) k = 0) := by
  have e : (nI i).toNatClampNeg = i := by
    rcases (show i = 0 ∨ i = 1 ∨ i = 2 by omega) with rfl | rfl | rfl <;> decide
  rw [e]
  refine ⟨fun k hk => ?_, fun k hk => ?_⟩
  · unfold upd
    split
    · rename_i h
      rw [h]
    · exact h1 k (by omega)
  · unfold upd
    rw [if_neg (by omega)]
    exact h2 k (by omega)
theorem cn_end3 {f : Nat → Int32} (h1 : ∀ k, k < 3 → f k = cn_first k) (h2 : ∀ k, 3 ≤ k → f k = 0) : f = cn_first := by
  funext k
  rcases Nat.lt_or_ge k 3 with h | h
  · exact h1 k h
  · rw [h2 k h]
    match k, h with
    | k + 3, _ => rfl
theorem cn_ge3 {i : Nat} (hi : i < 3) : ¬ (3 : Int32) ≤ nI i := by
  rcases (show i = 0 ∨ i = 1 ∨ i = 2 by omega) with rfl | rfl | rfl <;> decide
theorem cn_in3 {i : Nat} (hi : i < 3) : vp_in (nI i) 3 := by
  unfold vp_in
  rcases (show i = 0 ∨ i = 1 ∨ i = 2 by omega) with rfl | rfl | rfl <;> decide
theorem cn_fst {i : Nat} (hi : i < 3) : cn_first (nI i).toNatClampNeg = cn_first i := by
  rcases (show i = 0 ∨ i = 1 ∨ i = 2 by omega) with rfl | rfl | rfl <;> decide
set_option maxRecDepth 100000 in
theorem ct_Tloop {p : Program} {l : Launch} {e : Env} {R : Room} {s : State} {m : MethodId} {args : Array Value} {below : List Frame} {meth : Method} {c : Code} {Qf : State → Prop} {A : Nat → Prop} {D : va_G} {ca : Nat → ClassId} {tb cells slots h0 q : Nat} (F : cn_F RX6 cX6_init p s m args c A D ca tb 2) (hret : ∀ (H : Heap) (locs : List Loc) (ls : Array Slot), va_P D vwCl [(h0, .inr (5, [.ref q, .int 0, .int 0, .int 0])), (q, .inl (ca 0, 3, .inl cn_first))] H → va_D A [(h0, .inr (5, [.ref q, .int 0, .int 0, .int 0])), (q, .inl (ca 0, 3, .inl cn_first))] → va_S A s.heap H locs → W p l e R s m args below meth c H locs cells slots Qf (F0 m 35 ls [])) : ∀ (n i : Nat), i + n = 3 → ∀ f : Nat → Int32, (∀ k, k < i → f k = cn_first k) → (∀ k, i ≤ k → f k = 0) → ∀ (H : Heap) (locs : List Loc) (ls : Array Slot), va_P D vwCl [(h0, .inr (5, [.ref q, .int 0, .int 0, .int 0])), (q, .inl (ca 0, 3, .inl f))] H → va_D A [(h0, .inr (5, [.ref q, .int 0, .int 0, .int 0])), (q, .inl (ca 0, 3, .inl f))] → va_S A s.heap H locs → lv_has ls 2 [(1, .int (nI i)), (0, .ref h0)] → W p l e R s m args below meth c H locs cells slots Qf (F0 m 13 ls []) := by
  have F1 := F
  obtain ⟨hx, hb, hml, hown, hts, hnw, hK, hAO, hA, hZ, hT⟩ := F1
  intro n
  induction n with
  | zero =>
    intro i hi f h1 h2 H locs ls hP hD hS hl
    obtain rfl : i = 3 := by omega
    obtain rfl := cn_end3 h1 h2
    refine lv_iload_n hx hb dX6_init_13 rfl (lv_at hl 0 rfl) ?_
    refine lv_iconst (v := 3) hx hb dX6_init_14 (by decide) ?_
    exact lv_icmp_ge (tgt := 35) hx hb dX6_init_15 (by decide) (fun _ => hret H locs ls hP hD hS) (fun z => absurd (by decide) z)
  | succ n ih =>
    intro i hi f h1 h2 H locs ls hP hD hS hl
    have h3 : i < 3 := by omega
    obtain ⟨g1, g2⟩ := cn_up3 h3 h1 h2
    refine lv_iload_n hx hb dX6_init_13 rfl (lv_at hl 0 rfl) ?_
    refine lv_iconst (v := 3) hx hb dX6_init_14 (by decide) ?_
    refine lv_icmp_ge (tgt := 35) hx hb dX6_init_15 (by decide) (fun z => absurd z (cn_ge3 h3)) (fun _ => ?_)
    refine lv_aload_n hx hb dX6_init_18 rfl (lv_at hl 1 rfl) ?_
    refine va_get (ci := 5) (C := RX6) (T := TX6) (N := 4) (ref := RX6) (v := .ref q) hx hb hts bh_5 hown hK hP 0 rfl rfl 0 (by decide) (hts _ (bz_tb 75 (by decide +kernel) (by decide +kernel))) (fun _ h => h) rfl dX6_init_19 ?_
    refine lv_iload_n hx hb dX6_init_22 rfl (lv_at hl 0 rfl) ?_
    refine va_getsN (host := "BaizeCorps") hx hb hZ hS hown (va_Nw.use rfl (hnw _ (bz_nb 73 (by decide +kernel) rfl))) (fun _ h => h) dX6_init_23 ?_
    refine lv_iload_n hx hb dX6_init_26 rfl (lv_at hl 0 rfl) ?_
    refine va_ti (v := .int (cn_first i)) hx hb hT hS (cn_in3 h3) (congrArg Value.int (cn_fst h3)) dX6_init_27 ?_
    refine va_iast hx hb hK hP hD hS 1 0 rfl rfl (cn_in3 h3) dX6_init_28 (fun H locs hP hD hS => ?_)
    refine lv_iinc (v := nI (i + 1)) (lv' := [(1, .int (nI (i + 1))), (0, .ref h0)]) hx hb dX6_init_29 hl (k := 0) rfl (nI_add i 1) (by decide) rfl (fun ls hl => ?_)
    refine lv_goto (tgt := 13) hx hb dX6_init_32 (by decide) ?_
    exact ih (i + 1) (by omega) _ g1 g2 H locs ls hP hD hS hl
theorem ct_Table (l : Launch) (D : va_G) (ca : Nat → ClassId) (tb : Nat) : cn_R l D ca tb yX6_init cX6_init 2 1 12 1 3 5 [.null, .int 0, .int 0, .int 0] (cw_Table ca) := by
  refine cn_of (by decide +kernel) (by decide) rfl ?_
  intro p e s m args below meth c A h0 ls F hmn hl hP hD Qf hret
  have hS : va_S A s.heap s.heap [] := va_S.rf
  have F1 := F
  obtain ⟨hx, hb, hml, hown, hts, hnw, hK, hAO, hA, hZ, hT⟩ := F1
  refine cn_obj (idx := 3) F (lv_at hl 0 rfl) hl.1 (bz_tb 72 (by decide +kernel) (by decide +kernel)) (bz_tb 65 (by decide +kernel) (by decide +kernel)) (bz_tb 66 (by decide +kernel) (by decide +kernel)) dX6_init_0 dX6_init_1 (Nat.le_of_ble_eq_true rfl) (Nat.le_of_ble_eq_true rfl) ?_
  refine lv_aload_n hx hb dX6_init_4 rfl (lv_at hl 0 rfl) ?_
  refine lv_iconst (v := 3) hx hb dX6_init_5 (by decide) ?_
  refine cn_arr (atype := .int) (ty := .int) (t := 0) (N' := 3) (a0 := (3, .inl (fun _ => 0))) F hP hD hS rfl rfl (fun _ h => h) (bz_tb 97 (by decide +kernel) (by decide +kernel)) (fun _ => rfl) (by decide) (by decide) (Nat.le_of_ble_eq_true rfl) (Nat.le_of_ble_eq_true rfl) (Nat.le_of_ble_eq_true rfl) dX6_init_6 (fun a1 H hP hD hS => ?_)
  refine cn_put (T := TX6) (N := 4) (k := 0) (ty := tyX6 0) F hP hD hS rfl bh_5 tyX6 tyX6_ok nmX6 hmn (Nat.le_of_ble_eq_true rfl) (bz_tb 75 (by decide +kernel) (by decide +kernel)) rfl rfl (by decide +kernel) rfl rfl (Nat.le_of_ble_eq_true rfl) dX6_init_8 (fun H locs hP hD hS => ?_)
  refine lv_iconst (v := 0) hx hb dX6_init_11 (by decide) ?_
  refine lv_istore_n (lv' := [(1, .int 0), (0, .ref h0)]) hx hb dX6_init_12 rfl hl (by decide) rfl (fun ls hl => ?_)
  exact ct_Tloop (h0 := h0) (q := a1) F (fun H locs ls hP hD hS => hret (fun _ => a1) H _ _ _ hP hD hS dX6_init_35) 3 0 rfl (fun _ => 0) (fun k hk => absurd hk (Nat.not_lt_zero k)) (fun _ _ => rfl) H _ ls hP hD hS hl
theorem ct_Sights (l : Launch) (D : va_G) (ca : Nat → ClassId) (tb : Nat) : cn_R l D ca tb yX4_init cX4_init 1 1 12 2 16 3 [.null, .null, .int 0] (cw_Sights ca) := by
  refine cn_of (by decide +kernel) (by decide) rfl ?_
  intro p e s m args below meth c A h0 ls F hmn hl hP hD Qf hret
  have hS : va_S A s.heap s.heap [] := va_S.rf
  have F1 := F
  obtain ⟨hx, hb, hml, hown, hts, hnw, hK, hAO, hA, hZ, hT⟩ := F1
  refine cn_obj (idx := 3) F (lv_at hl 0 rfl) hl.1 (bz_tb 103 (by decide +kernel) (by decide +kernel)) (bz_tb 65 (by decide +kernel) (by decide +kernel)) (bz_tb 66 (by decide +kernel) (by decide +kernel)) dX4_init_0 dX4_init_1 (Nat.le_of_ble_eq_true rfl) (Nat.le_of_ble_eq_true rfl) ?_
  refine lv_aload_n hx hb dX4_init_4 rfl (lv_at hl 0 rfl) ?_
  refine lv_bipush (v := 8) hx hb dX4_init_5 (by decide) ?_
  refine cn_arr (atype := .int) (ty := .int) (t := 0) (N' := 8) (a0 := (8, .inl (fun _ => 0))) F hP hD hS rfl rfl (fun _ h => h) (bz_tb 97 (by decide +kernel) (by decide +kernel)) (fun _ => rfl) (by decide) (by decide) (Nat.le_of_ble_eq_true rfl) (Nat.le_of_ble_eq_true rfl) (Nat.le_of_ble_eq_true rfl) dX4_init_7 (fun a1 H hP hD hS => ?_)
  refine cn_put (T := TX4) (N := 3) (k := 0) (ty := tyX4 0) F hP hD hS rfl bh_3 tyX4 tyX4_ok nmX4 hmn (Nat.le_of_ble_eq_true rfl) (bz_tb 104 (by decide +kernel) (by decide +kernel)) rfl rfl (by decide +kernel) rfl rfl (Nat.le_of_ble_eq_true rfl) dX4_init_9 (fun H locs hP hD hS => ?_)
  refine lv_aload_n hx hb dX4_init_12 rfl (lv_at hl 0 rfl) ?_
  refine lv_bipush (v := 8) hx hb dX4_init_13 (by decide) ?_
  refine cn_arr (atype := .int) (ty := .int) (t := 0) (N' := 8) (a0 := (8, .inl (fun _ => 0))) F hP hD hS rfl rfl (fun _ h => h) (bz_tb 97 (by decide +kernel) (by decide +kernel)) (fun _ => rfl) (by decide) (by decide) (Nat.le_of_ble_eq_true rfl) (Nat.le_of_ble_eq_true rfl) (Nat.le_of_ble_eq_true rfl) dX4_init_15 (fun a2 H hP hD hS => ?_)
  refine cn_put (T := TX4) (N := 3) (k := 1) (ty := tyX4 1) F hP hD hS rfl bh_3 tyX4 tyX4_ok nmX4 hmn (Nat.le_of_ble_eq_true rfl) (bz_tb 105 (by decide +kernel) (by decide +kernel)) rfl rfl (by decide +kernel) rfl rfl (Nat.le_of_ble_eq_true rfl) dX4_init_17 (fun H locs hP hD hS => ?_)
  exact hret (fun k => [0, a1, a2].getD k 0) H _ _ _ hP hD hS dX4_init_20
theorem ct_Pad (l : Launch) (D : va_G) (ca : Nat → ClassId) (tb : Nat) : cn_R l D ca tb yX3_init cX3_init 1 1 12 1 60 2 [.null, .int 0] (cw_Pad ca) := by
  refine cn_of (by decide +kernel) (by decide) rfl ?_
  intro p e s m args below meth c A h0 ls F hmn hl hP hD Qf hret
  have hS : va_S A s.heap s.heap [] := va_S.rf
  have F1 := F
  obtain ⟨hx, hb, hml, hown, hts, hnw, hK, hAO, hA, hZ, hT⟩ := F1
  refine cn_obj (idx := 3) F (lv_at hl 0 rfl) hl.1 (bz_tb 120 (by decide +kernel) (by decide +kernel)) (bz_tb 65 (by decide +kernel) (by decide +kernel)) (bz_tb 66 (by decide +kernel) (by decide +kernel)) dX3_init_0 dX3_init_1 (Nat.le_of_ble_eq_true rfl) (Nat.le_of_ble_eq_true rfl) ?_
  refine lv_aload_n hx hb dX3_init_4 rfl (lv_at hl 0 rfl) ?_
  refine lv_bipush (v := 60) hx hb dX3_init_5 (by decide) ?_
  refine cn_arr (atype := .int) (ty := .int) (t := 0) (N' := 60) (a0 := (60, .inl (fun _ => 0))) F hP hD hS rfl rfl (fun _ h => h) (bz_tb 97 (by decide +kernel) (by decide +kernel)) (fun _ => rfl) (by decide) (by decide) (Nat.le_of_ble_eq_true rfl) (Nat.le_of_ble_eq_true rfl) (Nat.le_of_ble_eq_true rfl) dX3_init_7 (fun a1 H hP hD hS => ?_)
  refine cn_put (T := TX3) (N := 2) (k := 0) (ty := tyX3 0) F hP hD hS rfl bh_2 tyX3 tyX3_ok nmX3 hmn (Nat.le_of_ble_eq_true rfl) (bz_tb 121 (by decide +kernel) (by decide +kernel)) rfl rfl (by decide +kernel) rfl rfl (Nat.le_of_ble_eq_true rfl) dX3_init_9 (fun H locs hP hD hS => ?_)
  exact hret (fun k => [0, a1].getD k 0) H _ _ _ hP hD hS dX3_init_12
set_option maxRecDepth 100000 in
theorem ct_Stroke (l : Launch) (D : va_G) (ca : Nat → ClassId) (tb : Nat) : cn_R l D ca tb yX5_init cX5_init 1 1 12 0 0 4 [.int 0, .int 0, .int 0, .int 0, .int 0, .int 0, .int 0] (cw_Stroke ca) := by
  refine cn_of (by decide +kernel) (by decide) rfl ?_
  intro p e s m args below meth c A h0 ls F hmn hl hP hD Qf hret
  have hS : va_S A s.heap s.heap [] := va_S.rf
  have F1 := F
  obtain ⟨hx, hb, hml, hown, hts, hnw, hK, hAO, hA, hZ, hT⟩ := F1
  refine cn_obj (idx := 3) F (lv_at hl 0 rfl) hl.1 (bz_tb 143 (by decide +kernel) (by decide +kernel)) (bz_tb 65 (by decide +kernel) (by decide +kernel)) (bz_tb 66 (by decide +kernel) (by decide +kernel)) dX5_init_0 dX5_init_1 (Nat.le_of_ble_eq_true rfl) (Nat.le_of_ble_eq_true rfl) ?_
  exact hret (fun _ => 0) _ _ _ _ hP hD hS dX5_init_4
set_option maxRecDepth 100000 in
theorem ct_Trial (l : Launch) (D : va_G) (ca : Nat → ClassId) (tb : Nat) : cn_R l D ca tb yX8_init cX8_init 1 2 33 3 14 7 [.null, .null, .int 0, .int 0, .int 0, .int 0, .int 0, .int 0] (cw_Trial ca) := by
  refine cn_of (by decide +kernel) (by decide) rfl ?_
  intro p e s m args below meth c A h0 ls F hmn hl hP hD Qf hret
  have hS : va_S A s.heap s.heap [] := va_S.rf
  have F1 := F
  obtain ⟨hx, hb, hml, hown, hts, hnw, hK, hAO, hA, hZ, hT⟩ := F1
  refine cn_obj (idx := 3) F (lv_at hl 0 rfl) hl.1 (bz_tb 135 (by decide +kernel) (by decide +kernel)) (bz_tb 65 (by decide +kernel) (by decide +kernel)) (bz_tb 66 (by decide +kernel) (by decide +kernel)) dX8_init_0 dX8_init_1 (Nat.le_of_ble_eq_true rfl) (Nat.le_of_ble_eq_true rfl) ?_
  refine lv_aload_n hx hb dX8_init_4 rfl (lv_at hl 0 rfl) ?_
  refine cn_new (T := TX6) (N := 4) (i := 9) (j := 11) F hP hD hS (ct_Table l D ca tb) rfl bh_5 tyX6 tyX6_ok (bz_tb 136 (by decide +kernel) (by decide +kernel)) (bz_tb 68 (by decide +kernel) (by decide +kernel)) (bz_tb 46 (by decide +kernel) (by decide +kernel)) (fun k hk => by match k, hk with | 0, _ => rfl | 1, _ => rfl | 2, _ => rfl | 3, _ => rfl | k + 4, hk => exact absurd hk (by omega)) (Or.inl (bz_tb 137 (by decide +kernel) (by decide +kernel))) (bz_tb 70 (by decide +kernel) (by decide +kernel)) (bz_tb 71 (by decide +kernel) (by decide +kernel)) rfl (by decide +kernel) (Nat.le_of_ble_eq_true rfl) (Nat.le_of_ble_eq_true rfl) (Nat.le_of_ble_eq_true rfl) (Nat.le_of_ble_eq_true rfl) hl.1 (Nat.le_of_ble_eq_true rfl) dX8_init_5 dX8_init_8 dX8_init_9 (fun a1 q1 H locs hP hD hS => ?_)
  refine cn_put (T := TX8) (N := 8) (k := 0) (ty := tyX8 0) F hP hD hS rfl bh_7 tyX8 tyX8_ok nmX8 hmn (Nat.le_of_ble_eq_true rfl) (bz_tb 171 (by decide +kernel) (by decide +kernel)) rfl rfl (by decide +kernel) rfl rfl (Nat.le_of_ble_eq_true rfl) dX8_init_12 (fun H locs hP hD hS => ?_)
  refine lv_aload_n hx hb dX8_init_15 rfl (lv_at hl 0 rfl) ?_
  refine cn_new (T := TX5) (N := 7) (i := 18) (j := 20) F hP hD hS (ct_Stroke l D ca tb) rfl bh_4 tyX5 tyX5_ok (bz_tb 138 (by decide +kernel) (by decide +kernel)) (bz_tb 139 (by decide +kernel) (by decide +kernel)) (bz_tb 50 (by decide +kernel) (by decide +kernel)) (fun k hk => by match k, hk with | 0, _ => rfl | 1, _ => rfl | 2, _ => rfl | 3, _ => rfl | 4, _ => rfl | 5, _ => rfl | 6, _ => rfl | k + 7, hk => exact absurd hk (by omega)) (Or.inr ⟨"BaizeCorps", (bz_nb 140 (by decide +kernel) rfl)⟩) (bz_tb 141 (by decide +kernel) (by decide +kernel)) (bz_tb 142 (by decide +kernel) (by decide +kernel)) rfl (by decide +kernel) (Nat.le_of_ble_eq_true rfl) (Nat.le_of_ble_eq_true rfl) (Nat.le_of_ble_eq_true rfl) (Nat.le_of_ble_eq_true rfl) hl.1 (Nat.le_of_ble_eq_true rfl) dX8_init_16 dX8_init_19 dX8_init_20 (fun a2 q2 H locs hP hD hS => ?_)
  refine cn_put (T := TX8) (N := 8) (k := 1) (ty := tyX8 1) F hP hD hS rfl bh_7 tyX8 tyX8_ok nmX8 hmn (Nat.le_of_ble_eq_true rfl) (bz_tb 173 (by decide +kernel) (by decide +kernel)) rfl rfl (by decide +kernel) rfl rfl (Nat.le_of_ble_eq_true rfl) dX8_init_23 (fun H locs hP hD hS => ?_)
  exact hret (fun k => [0, a1, (q1 1), a2].getD k 0) H _ _ _ hP hD hS dX8_init_26
theorem ct_Track (l : Launch) (D : va_G) (ca : Nat → ClassId) (tb : Nat) : cn_R l D ca tb yX7_init cX7_init 1 1 12 1 16 6 [.null, .int 0, .long 0] (cw_Track ca) := by
  refine cn_of (by decide +kernel) (by decide) rfl ?_
  intro p e s m args below meth c A h0 ls F hmn hl hP hD Qf hret
  have hS : va_S A s.heap s.heap [] := va_S.rf
  have F1 := F
  obtain ⟨hx, hb, hml, hown, hts, hnw, hK, hAO, hA, hZ, hT⟩ := F1
  refine cn_obj (idx := 3) F (lv_at hl 0 rfl) hl.1 (bz_tb 208 (by decide +kernel) (by decide +kernel)) (bz_tb 65 (by decide +kernel) (by decide +kernel)) (bz_tb 66 (by decide +kernel) (by decide +kernel)) dX7_init_0 dX7_init_1 (Nat.le_of_ble_eq_true rfl) (Nat.le_of_ble_eq_true rfl) ?_
  refine lv_aload_n hx hb dX7_init_4 rfl (lv_at hl 0 rfl) ?_
  refine lv_bipush (v := 16) hx hb dX7_init_5 (by decide) ?_
  refine cn_arr (atype := .int) (ty := .int) (t := 0) (N' := 16) (a0 := (16, .inl (fun _ => 0))) F hP hD hS rfl rfl (fun _ h => h) (bz_tb 97 (by decide +kernel) (by decide +kernel)) (fun _ => rfl) (by decide) (by decide) (Nat.le_of_ble_eq_true rfl) (Nat.le_of_ble_eq_true rfl) (Nat.le_of_ble_eq_true rfl) dX7_init_7 (fun a1 H hP hD hS => ?_)
  refine cn_put (T := TX7) (N := 3) (k := 0) (ty := tyX7 0) F hP hD hS rfl bh_6 tyX7 tyX7_ok nmX7 hmn (Nat.le_of_ble_eq_true rfl) (bz_tb 209 (by decide +kernel) (by decide +kernel)) rfl rfl (by decide +kernel) rfl rfl (Nat.le_of_ble_eq_true rfl) dX7_init_9 (fun H locs hP hD hS => ?_)
  exact hret (fun k => [0, a1].getD k 0) H _ _ _ hP hD hS dX7_init_12
theorem ct_Whence (l : Launch) (D : va_G) (ca : Nat → ClassId) (tb : Nat) : cn_R l D ca tb yX9_init cX9_init 1 1 12 2 1080 8 [.null, .int 0, .int 0, .int 0, .null] (cw_Whence ca) := by
  refine cn_of (by decide +kernel) (by decide) rfl ?_
  intro p e s m args below meth c A h0 ls F hmn hl hP hD Qf hret
  have hS : va_S A s.heap s.heap [] := va_S.rf
  have F1 := F
  obtain ⟨hx, hb, hml, hown, hts, hnw, hK, hAO, hA, hZ, hT⟩ := F1
  refine cn_obj (idx := 3) F (lv_at hl 0 rfl) hl.1 (bz_tb 226 (by decide +kernel) (by decide +kernel)) (bz_tb 65 (by decide +kernel) (by decide +kernel)) (bz_tb 66 (by decide +kernel) (by decide +kernel)) dX9_init_0 dX9_init_1 (Nat.le_of_ble_eq_true rfl) (Nat.le_of_ble_eq_true rfl) ?_
  refine lv_aload_n hx hb dX9_init_4 rfl (lv_at hl 0 rfl) ?_
  refine lv_sipush (v := 360) hx hb dX9_init_5 (by decide) ?_
  refine cn_arr (atype := .int) (ty := .int) (t := 0) (N' := 360) (a0 := (360, .inl (fun _ => 0))) F hP hD hS rfl rfl (fun _ h => h) (bz_tb 97 (by decide +kernel) (by decide +kernel)) (fun _ => rfl) (by decide) (by decide) (Nat.le_of_ble_eq_true rfl) (Nat.le_of_ble_eq_true rfl) (Nat.le_of_ble_eq_true rfl) dX9_init_8 (fun a1 H hP hD hS => ?_)
  refine cn_put (T := TX9) (N := 5) (k := 0) (ty := tyX9 0) F hP hD hS rfl bh_8 tyX9 tyX9_ok nmX9 hmn (Nat.le_of_ble_eq_true rfl) (bz_tb 227 (by decide +kernel) (by decide +kernel)) rfl rfl (by decide +kernel) rfl rfl (Nat.le_of_ble_eq_true rfl) dX9_init_10 (fun H locs hP hD hS => ?_)
  refine lv_aload_n hx hb dX9_init_13 rfl (lv_at hl 0 rfl) ?_
  refine lv_sipush (v := 720) hx hb dX9_init_14 (by decide) ?_
  refine cn_arr (atype := .int) (ty := .int) (t := 0) (N' := 720) (a0 := (720, .inl (fun _ => 0))) F hP hD hS rfl rfl (fun _ h => h) (bz_tb 97 (by decide +kernel) (by decide +kernel)) (fun _ => rfl) (by decide) (by decide) (Nat.le_of_ble_eq_true rfl) (Nat.le_of_ble_eq_true rfl) (Nat.le_of_ble_eq_true rfl) dX9_init_17 (fun a2 H hP hD hS => ?_)
  refine cn_put (T := TX9) (N := 5) (k := 4) (ty := tyX9 4) F hP hD hS rfl bh_8 tyX9 tyX9_ok nmX9 hmn (Nat.le_of_ble_eq_true rfl) (bz_tb 235 (by decide +kernel) (by decide +kernel)) rfl rfl (by decide +kernel) rfl rfl (Nat.le_of_ble_eq_true rfl) dX9_init_19 (fun H locs hP hD hS => ?_)
  exact hret (fun k => [0, a1, a2].getD k 0) H _ _ _ hP hD hS dX9_init_22
theorem ct_Heaps (l : Launch) (D : va_G) (ca : Nat → ClassId) (tb : Nat) : cn_R l D ca tb yX0_init cX0_init 1 1 12 1 100 0 [.null, .int 0] (cw_Heaps ca) := by
  refine cn_of (by decide +kernel) (by decide) rfl ?_
  intro p e s m args below meth c A h0 ls F hmn hl hP hD Qf hret
  have hS : va_S A s.heap s.heap [] := va_S.rf
  have F1 := F
  obtain ⟨hx, hb, hml, hown, hts, hnw, hK, hAO, hA, hZ, hT⟩ := F1
  refine cn_obj (idx := 3) F (lv_at hl 0 rfl) hl.1 (bz_tb 252 (by decide +kernel) (by decide +kernel)) (bz_tb 65 (by decide +kernel) (by decide +kernel)) (bz_tb 66 (by decide +kernel) (by decide +kernel)) dX0_init_0 dX0_init_1 (Nat.le_of_ble_eq_true rfl) (Nat.le_of_ble_eq_true rfl) ?_
  refine lv_aload_n hx hb dX0_init_4 rfl (lv_at hl 0 rfl) ?_
  refine lv_bipush (v := 100) hx hb dX0_init_5 (by decide) ?_
  refine cn_arr (atype := .int) (ty := .int) (t := 0) (N' := 100) (a0 := (100, .inl (fun _ => 0))) F hP hD hS rfl rfl (fun _ h => h) (bz_tb 97 (by decide +kernel) (by decide +kernel)) (fun _ => rfl) (by decide) (by decide) (Nat.le_of_ble_eq_true rfl) (Nat.le_of_ble_eq_true rfl) (Nat.le_of_ble_eq_true rfl) dX0_init_7 (fun a1 H hP hD hS => ?_)
  refine cn_put (T := TX0) (N := 2) (k := 0) (ty := tyX0 0) F hP hD hS rfl bh_0 tyX0 tyX0_ok nmX0 hmn (Nat.le_of_ble_eq_true rfl) (bz_tb 253 (by decide +kernel) (by decide +kernel)) rfl rfl (by decide +kernel) rfl rfl (Nat.le_of_ble_eq_true rfl) dX0_init_9 (fun H locs hP hD hS => ?_)
  exact hret (fun k => [0, a1].getD k 0) H _ _ _ hP hD hS dX0_init_12
theorem ct_Image (l : Launch) (D : va_G) (ca : Nat → ClassId) (tb : Nat) : cn_R l D ca tb yX1_init cX1_init 1 2 33 5 26 1 [.null, .null, .int 0] (cw_Image ca) := by
  refine cn_of (by decide +kernel) (by decide) rfl ?_
  intro p e s m args below meth c A h0 ls F hmn hl hP hD Qf hret
  have hS : va_S A s.heap s.heap [] := va_S.rf
  have F1 := F
  obtain ⟨hx, hb, hml, hown, hts, hnw, hK, hAO, hA, hZ, hT⟩ := F1
  refine cn_obj (idx := 1) F (lv_at hl 0 rfl) hl.1 (bz_tb 266 (by decide +kernel) (by decide +kernel)) (bz_tb 65 (by decide +kernel) (by decide +kernel)) (bz_tb 66 (by decide +kernel) (by decide +kernel)) dX1_init_0 dX1_init_1 (Nat.le_of_ble_eq_true rfl) (Nat.le_of_ble_eq_true rfl) ?_
  refine lv_aload_n hx hb dX1_init_4 rfl (lv_at hl 0 rfl) ?_
  refine cn_new (T := TX6) (N := 4) (i := 7) (j := 9) F hP hD hS (ct_Table l D ca tb) rfl bh_5 tyX6 tyX6_ok (bz_tb 267 (by decide +kernel) (by decide +kernel)) (bz_tb 68 (by decide +kernel) (by decide +kernel)) (bz_tb 46 (by decide +kernel) (by decide +kernel)) (fun k hk => by match k, hk with | 0, _ => rfl | 1, _ => rfl | 2, _ => rfl | 3, _ => rfl | k + 4, hk => exact absurd hk (by omega)) (Or.inl (bz_tb 268 (by decide +kernel) (by decide +kernel))) (bz_tb 70 (by decide +kernel) (by decide +kernel)) (bz_tb 71 (by decide +kernel) (by decide +kernel)) rfl (by decide +kernel) (Nat.le_of_ble_eq_true rfl) (Nat.le_of_ble_eq_true rfl) (Nat.le_of_ble_eq_true rfl) (Nat.le_of_ble_eq_true rfl) hl.1 (Nat.le_of_ble_eq_true rfl) dX1_init_5 dX1_init_8 dX1_init_9 (fun a1 q1 H locs hP hD hS => ?_)
  refine cn_put (T := TX1) (N := 3) (k := 0) (ty := tyX1 0) F hP hD hS rfl bh_1 tyX1 tyX1_ok nmX1 hmn (Nat.le_of_ble_eq_true rfl) (bz_tb 271 (by decide +kernel) (by decide +kernel)) rfl rfl (by decide +kernel) rfl rfl (Nat.le_of_ble_eq_true rfl) dX1_init_12 (fun H locs hP hD hS => ?_)
  refine lv_aload_n hx hb dX1_init_15 rfl (lv_at hl 0 rfl) ?_
  refine cn_new (T := TX4) (N := 3) (i := 16) (j := 18) F hP hD hS (ct_Sights l D ca tb) rfl bh_3 tyX4 tyX4_ok (bz_tb 269 (by decide +kernel) (by decide +kernel)) (bz_tb 99 (by decide +kernel) (by decide +kernel)) (bz_tb 47 (by decide +kernel) (by decide +kernel)) (fun k hk => by match k, hk with | 0, _ => rfl | 1, _ => rfl | 2, _ => rfl | k + 3, hk => exact absurd hk (by omega)) (Or.inr ⟨"BaizeCorps", (bz_nb 270 (by decide +kernel) rfl)⟩) (bz_tb 101 (by decide +kernel) (by decide +kernel)) (bz_tb 102 (by decide +kernel) (by decide +kernel)) rfl (by decide +kernel) (Nat.le_of_ble_eq_true rfl) (Nat.le_of_ble_eq_true rfl) (Nat.le_of_ble_eq_true rfl) (Nat.le_of_ble_eq_true rfl) hl.1 (Nat.le_of_ble_eq_true rfl) dX1_init_16 dX1_init_19 dX1_init_20 (fun a2 q2 H locs hP hD hS => ?_)
  refine cn_put (T := TX1) (N := 3) (k := 1) (ty := tyX1 1) F hP hD hS rfl bh_1 tyX1 tyX1_ok nmX1 hmn (Nat.le_of_ble_eq_true rfl) (bz_tb 273 (by decide +kernel) (by decide +kernel)) rfl rfl (by decide +kernel) rfl rfl (Nat.le_of_ble_eq_true rfl) dX1_init_23 (fun H locs hP hD hS => ?_)
  exact hret (fun k => [0, a1, (q1 1), a2, (q2 1), (q2 2)].getD k 0) H _ _ _ hP hD hS dX1_init_26
