/-! each instruction decoded -/
theorem d_MT_init_0 : decode M_MT_init.2.1 0 = .ok (.aload_n 0, 1) := by decide +kernel
theorem d_MT_init_1 : decode M_MT_init.2.1 1 = .ok (.invokespecial 3, 3) := by decide +kernel
theorem d_MT_init_4 : decode M_MT_init.2.1 4 = .ok (.iload_n 1, 1) := by decide +kernel
theorem d_MT_init_5 : decode M_MT_init.2.1 5 = .ok (.invokestatic 9, 3) := by decide +kernel
theorem d_MT_init_8 : decode M_MT_init.2.1 8 = .ok (.ifCond .eq 7, 3) := by decide +kernel
theorem d_MT_init_11 : decode M_MT_init.2.1 11 = .ok (.iload_n 1, 1) := by decide +kernel
theorem d_MT_init_12 : decode M_MT_init.2.1 12 = .ok (.goto 4, 3) := by decide +kernel
theorem d_MT_init_15 : decode M_MT_init.2.1 15 = .ok (.iconst 0, 1) := by decide +kernel
theorem d_MT_init_16 : decode M_MT_init.2.1 16 = .ok (.istore_n 2, 1) := by decide +kernel
theorem d_MT_init_17 : decode M_MT_init.2.1 17 = .ok (.aload_n 0, 1) := by decide +kernel
theorem d_MT_init_18 : decode M_MT_init.2.1 18 = .ok (.new 13, 3) := by decide +kernel
theorem d_MT_init_21 : decode M_MT_init.2.1 21 = .ok (.dup, 1) := by decide +kernel
theorem d_MT_init_22 : decode M_MT_init.2.1 22 = .ok (.invokespecial 15, 3) := by decide +kernel
theorem d_MT_init_25 : decode M_MT_init.2.1 25 = .ok (.putfield 16, 3) := by decide +kernel
theorem d_MT_init_28 : decode M_MT_init.2.1 28 = .ok (.aload_n 0, 1) := by decide +kernel
theorem d_MT_init_29 : decode M_MT_init.2.1 29 = .ok (.new 20, 3) := by decide +kernel
theorem d_MT_init_32 : decode M_MT_init.2.1 32 = .ok (.dup, 1) := by decide +kernel
theorem d_MT_init_33 : decode M_MT_init.2.1 33 = .ok (.invokespecial 22, 3) := by decide +kernel
theorem d_MT_init_36 : decode M_MT_init.2.1 36 = .ok (.putfield 23, 3) := by decide +kernel
theorem d_MT_init_39 : decode M_MT_init.2.1 39 = .ok (.aload_n 0, 1) := by decide +kernel
theorem d_MT_init_40 : decode M_MT_init.2.1 40 = .ok (.new 27, 3) := by decide +kernel
theorem d_MT_init_43 : decode M_MT_init.2.1 43 = .ok (.dup, 1) := by decide +kernel
theorem d_MT_init_44 : decode M_MT_init.2.1 44 = .ok (.invokespecial 29, 3) := by decide +kernel
theorem d_MT_init_47 : decode M_MT_init.2.1 47 = .ok (.putfield 30, 3) := by decide +kernel
theorem d_MT_init_50 : decode M_MT_init.2.1 50 = .ok (.aload_n 0, 1) := by decide +kernel
theorem d_MT_init_51 : decode M_MT_init.2.1 51 = .ok (.new 34, 3) := by decide +kernel
theorem d_MT_init_54 : decode M_MT_init.2.1 54 = .ok (.dup, 1) := by decide +kernel
theorem d_MT_init_55 : decode M_MT_init.2.1 55 = .ok (.aload_n 0, 1) := by decide +kernel
theorem d_MT_init_56 : decode M_MT_init.2.1 56 = .ok (.getfield 16, 3) := by decide +kernel
theorem d_MT_init_59 : decode M_MT_init.2.1 59 = .ok (.invokespecial 36, 3) := by decide +kernel
theorem d_MT_init_62 : decode M_MT_init.2.1 62 = .ok (.putfield 39, 3) := by decide +kernel
theorem d_MT_init_65 : decode M_MT_init.2.1 65 = .ok (.aload_n 0, 1) := by decide +kernel
theorem d_MT_init_66 : decode M_MT_init.2.1 66 = .ok (.new 43, 3) := by decide +kernel
theorem d_MT_init_69 : decode M_MT_init.2.1 69 = .ok (.dup, 1) := by decide +kernel
theorem d_MT_init_70 : decode M_MT_init.2.1 70 = .ok (.aload_n 0, 1) := by decide +kernel
theorem d_MT_init_71 : decode M_MT_init.2.1 71 = .ok (.getfield 16, 3) := by decide +kernel
theorem d_MT_init_74 : decode M_MT_init.2.1 74 = .ok (.invokespecial 45, 3) := by decide +kernel
theorem d_MT_init_77 : decode M_MT_init.2.1 77 = .ok (.putfield 46, 3) := by decide +kernel
theorem d_MT_init_80 : decode M_MT_init.2.1 80 = .ok (.aload_n 0, 1) := by decide +kernel
theorem d_MT_init_81 : decode M_MT_init.2.1 81 = .ok (.new 50, 3) := by decide +kernel
theorem d_MT_init_84 : decode M_MT_init.2.1 84 = .ok (.dup, 1) := by decide +kernel
theorem d_MT_init_85 : decode M_MT_init.2.1 85 = .ok (.iload_n 2, 1) := by decide +kernel
theorem d_MT_init_86 : decode M_MT_init.2.1 86 = .ok (.aload_n 0, 1) := by decide +kernel
theorem d_MT_init_87 : decode M_MT_init.2.1 87 = .ok (.getfield 30, 3) := by decide +kernel
theorem d_MT_init_90 : decode M_MT_init.2.1 90 = .ok (.aload_n 0, 1) := by decide +kernel
theorem d_MT_init_91 : decode M_MT_init.2.1 91 = .ok (.getfield 39, 3) := by decide +kernel
theorem d_MT_init_94 : decode M_MT_init.2.1 94 = .ok (.aload_n 0, 1) := by decide +kernel
theorem d_MT_init_95 : decode M_MT_init.2.1 95 = .ok (.getfield 46, 3) := by decide +kernel
theorem d_MT_init_98 : decode M_MT_init.2.1 98 = .ok (.aload_n 0, 1) := by decide +kernel
theorem d_MT_init_99 : decode M_MT_init.2.1 99 = .ok (.getfield 23, 3) := by decide +kernel
theorem d_MT_init_102 : decode M_MT_init.2.1 102 = .ok (.invokespecial 52, 3) := by decide +kernel
theorem d_MT_init_105 : decode M_MT_init.2.1 105 = .ok (.putfield 55, 3) := by decide +kernel
theorem d_MT_init_108 : decode M_MT_init.2.1 108 = .ok (.aload_n 0, 1) := by decide +kernel
theorem d_MT_init_109 : decode M_MT_init.2.1 109 = .ok (.new 59, 3) := by decide +kernel
theorem d_MT_init_112 : decode M_MT_init.2.1 112 = .ok (.dup, 1) := by decide +kernel
theorem d_MT_init_113 : decode M_MT_init.2.1 113 = .ok (.aload_n 0, 1) := by decide +kernel
theorem d_MT_init_114 : decode M_MT_init.2.1 114 = .ok (.getfield 30, 3) := by decide +kernel
theorem d_MT_init_117 : decode M_MT_init.2.1 117 = .ok (.aload_n 0, 1) := by decide +kernel
theorem d_MT_init_118 : decode M_MT_init.2.1 118 = .ok (.getfield 39, 3) := by decide +kernel
theorem d_MT_init_121 : decode M_MT_init.2.1 121 = .ok (.aload_n 0, 1) := by decide +kernel
theorem d_MT_init_122 : decode M_MT_init.2.1 122 = .ok (.getfield 46, 3) := by decide +kernel
theorem d_MT_init_125 : decode M_MT_init.2.1 125 = .ok (.aload_n 0, 1) := by decide +kernel
theorem d_MT_init_126 : decode M_MT_init.2.1 126 = .ok (.getfield 55, 3) := by decide +kernel
theorem d_MT_init_129 : decode M_MT_init.2.1 129 = .ok (.aload_n 0, 1) := by decide +kernel
theorem d_MT_init_130 : decode M_MT_init.2.1 130 = .ok (.getfield 23, 3) := by decide +kernel
theorem d_MT_init_133 : decode M_MT_init.2.1 133 = .ok (.invokespecial 61, 3) := by decide +kernel
theorem d_MT_init_136 : decode M_MT_init.2.1 136 = .ok (.putfield 64, 3) := by decide +kernel
theorem d_MT_init_139 : decode M_MT_init.2.1 139 = .ok (.aload_n 0, 1) := by decide +kernel
theorem d_MT_init_140 : decode M_MT_init.2.1 140 = .ok (.new 68, 3) := by decide +kernel
theorem d_MT_init_143 : decode M_MT_init.2.1 143 = .ok (.dup, 1) := by decide +kernel
theorem d_MT_init_144 : decode M_MT_init.2.1 144 = .ok (.aload_n 0, 1) := by decide +kernel
theorem d_MT_init_145 : decode M_MT_init.2.1 145 = .ok (.getfield 30, 3) := by decide +kernel
theorem d_MT_init_148 : decode M_MT_init.2.1 148 = .ok (.aload_n 0, 1) := by decide +kernel
theorem d_MT_init_149 : decode M_MT_init.2.1 149 = .ok (.getfield 39, 3) := by decide +kernel
theorem d_MT_init_152 : decode M_MT_init.2.1 152 = .ok (.aload_n 0, 1) := by decide +kernel
theorem d_MT_init_153 : decode M_MT_init.2.1 153 = .ok (.getfield 23, 3) := by decide +kernel
theorem d_MT_init_156 : decode M_MT_init.2.1 156 = .ok (.invokespecial 70, 3) := by decide +kernel
theorem d_MT_init_159 : decode M_MT_init.2.1 159 = .ok (.putfield 73, 3) := by decide +kernel
theorem d_MT_init_162 : decode M_MT_init.2.1 162 = .ok (.return_, 1) := by decide +kernel
theorem d_MT_isRouter_0 : decode M_MT_isRouter.2.1 0 = .ok (.iload_n 0, 1) := by decide +kernel
theorem d_MT_isRouter_1 : decode M_MT_isRouter.2.1 1 = .ok (.ifCond .lt 13, 3) := by decide +kernel
theorem d_MT_isRouter_4 : decode M_MT_isRouter.2.1 4 = .ok (.iload_n 0, 1) := by decide +kernel
theorem d_MT_isRouter_5 : decode M_MT_isRouter.2.1 5 = .ok (.bipush 6, 2) := by decide +kernel
theorem d_MT_isRouter_7 : decode M_MT_isRouter.2.1 7 = .ok (.if_icmp .ge 7, 3) := by decide +kernel
theorem d_MT_isRouter_10 : decode M_MT_isRouter.2.1 10 = .ok (.iconst 1, 1) := by decide +kernel
theorem d_MT_isRouter_11 : decode M_MT_isRouter.2.1 11 = .ok (.goto 4, 3) := by decide +kernel
theorem d_MT_isRouter_14 : decode M_MT_isRouter.2.1 14 = .ok (.iconst 0, 1) := by decide +kernel
theorem d_MT_isRouter_15 : decode M_MT_isRouter.2.1 15 = .ok (.ireturn, 1) := by decide +kernel
theorem d_Tr_init_0 : decode M_Tr_init.2.1 0 = .ok (.aload_n 0, 1) := by decide +kernel
theorem d_Tr_init_1 : decode M_Tr_init.2.1 1 = .ok (.invokespecial 3, 3) := by decide +kernel
theorem d_Tr_init_4 : decode M_Tr_init.2.1 4 = .ok (.aload_n 0, 1) := by decide +kernel
theorem d_Tr_init_5 : decode M_Tr_init.2.1 5 = .ok (.iconst 3, 1) := by decide +kernel
theorem d_Tr_init_6 : decode M_Tr_init.2.1 6 = .ok (.bipush 6, 2) := by decide +kernel
theorem d_Tr_init_8 : decode M_Tr_init.2.1 8 = .ok (.multianewarray 9 2, 4) := by decide +kernel
theorem d_Tr_init_12 : decode M_Tr_init.2.1 12 = .ok (.putfield 11, 3) := by decide +kernel
theorem d_Tr_init_15 : decode M_Tr_init.2.1 15 = .ok (.aload_n 0, 1) := by decide +kernel
theorem d_Tr_init_16 : decode M_Tr_init.2.1 16 = .ok (.iconst 3, 1) := by decide +kernel
theorem d_Tr_init_17 : decode M_Tr_init.2.1 17 = .ok (.bipush 6, 2) := by decide +kernel
theorem d_Tr_init_19 : decode M_Tr_init.2.1 19 = .ok (.multianewarray 9 2, 4) := by decide +kernel
theorem d_Tr_init_23 : decode M_Tr_init.2.1 23 = .ok (.putfield 16, 3) := by decide +kernel
theorem d_Tr_init_26 : decode M_Tr_init.2.1 26 = .ok (.aload_n 0, 1) := by decide +kernel
theorem d_Tr_init_27 : decode M_Tr_init.2.1 27 = .ok (.bipush 18, 2) := by decide +kernel
theorem d_Tr_init_29 : decode M_Tr_init.2.1 29 = .ok (.bipush 6, 2) := by decide +kernel
theorem d_Tr_init_31 : decode M_Tr_init.2.1 31 = .ok (.multianewarray 9 2, 4) := by decide +kernel
theorem d_Tr_init_35 : decode M_Tr_init.2.1 35 = .ok (.putfield 19, 3) := by decide +kernel
theorem d_Tr_init_38 : decode M_Tr_init.2.1 38 = .ok (.aload_n 0, 1) := by decide +kernel
theorem d_Tr_init_39 : decode M_Tr_init.2.1 39 = .ok (.bipush 18, 2) := by decide +kernel
theorem d_Tr_init_41 : decode M_Tr_init.2.1 41 = .ok (.bipush 6, 2) := by decide +kernel
theorem d_Tr_init_43 : decode M_Tr_init.2.1 43 = .ok (.multianewarray 9 2, 4) := by decide +kernel
theorem d_Tr_init_47 : decode M_Tr_init.2.1 47 = .ok (.putfield 22, 3) := by decide +kernel
theorem d_Tr_init_50 : decode M_Tr_init.2.1 50 = .ok (.aload_n 0, 1) := by decide +kernel
theorem d_Tr_init_51 : decode M_Tr_init.2.1 51 = .ok (.bipush 18, 2) := by decide +kernel
theorem d_Tr_init_53 : decode M_Tr_init.2.1 53 = .ok (.bipush 6, 2) := by decide +kernel
theorem d_Tr_init_55 : decode M_Tr_init.2.1 55 = .ok (.multianewarray 9 2, 4) := by decide +kernel
theorem d_Tr_init_59 : decode M_Tr_init.2.1 59 = .ok (.putfield 25, 3) := by decide +kernel
theorem d_Tr_init_62 : decode M_Tr_init.2.1 62 = .ok (.aload_n 0, 1) := by decide +kernel
theorem d_Tr_init_63 : decode M_Tr_init.2.1 63 = .ok (.bipush 18, 2) := by decide +kernel
theorem d_Tr_init_65 : decode M_Tr_init.2.1 65 = .ok (.bipush 6, 2) := by decide +kernel
theorem d_Tr_init_67 : decode M_Tr_init.2.1 67 = .ok (.multianewarray 9 2, 4) := by decide +kernel
theorem d_Tr_init_71 : decode M_Tr_init.2.1 71 = .ok (.putfield 28, 3) := by decide +kernel
theorem d_Tr_init_74 : decode M_Tr_init.2.1 74 = .ok (.aload_n 0, 1) := by decide +kernel
theorem d_Tr_init_75 : decode M_Tr_init.2.1 75 = .ok (.bipush 6, 2) := by decide +kernel
theorem d_Tr_init_77 : decode M_Tr_init.2.1 77 = .ok (.newarray .int, 2) := by decide +kernel
theorem d_Tr_init_79 : decode M_Tr_init.2.1 79 = .ok (.putfield 31, 3) := by decide +kernel
theorem d_Tr_init_82 : decode M_Tr_init.2.1 82 = .ok (.aload_n 0, 1) := by decide +kernel
theorem d_Tr_init_83 : decode M_Tr_init.2.1 83 = .ok (.iload_n 1, 1) := by decide +kernel
theorem d_Tr_init_84 : decode M_Tr_init.2.1 84 = .ok (.putfield 35, 3) := by decide +kernel
theorem d_Tr_init_87 : decode M_Tr_init.2.1 87 = .ok (.aload_n 0, 1) := by decide +kernel
theorem d_Tr_init_88 : decode M_Tr_init.2.1 88 = .ok (.aload_n 2, 1) := by decide +kernel
theorem d_Tr_init_89 : decode M_Tr_init.2.1 89 = .ok (.putfield 39, 3) := by decide +kernel
theorem d_Tr_init_92 : decode M_Tr_init.2.1 92 = .ok (.aload_n 0, 1) := by decide +kernel
theorem d_Tr_init_93 : decode M_Tr_init.2.1 93 = .ok (.aload_n 3, 1) := by decide +kernel
theorem d_Tr_init_94 : decode M_Tr_init.2.1 94 = .ok (.putfield 43, 3) := by decide +kernel
theorem d_Tr_init_97 : decode M_Tr_init.2.1 97 = .ok (.aload_n 0, 1) := by decide +kernel
theorem d_Tr_init_98 : decode M_Tr_init.2.1 98 = .ok (.aload 4, 2) := by decide +kernel
theorem d_Tr_init_100 : decode M_Tr_init.2.1 100 = .ok (.putfield 47, 3) := by decide +kernel
theorem d_Tr_init_103 : decode M_Tr_init.2.1 103 = .ok (.aload_n 0, 1) := by decide +kernel
theorem d_Tr_init_104 : decode M_Tr_init.2.1 104 = .ok (.aload 5, 2) := by decide +kernel
theorem d_Tr_init_106 : decode M_Tr_init.2.1 106 = .ok (.putfield 51, 3) := by decide +kernel
theorem d_Tr_init_109 : decode M_Tr_init.2.1 109 = .ok (.iconst 0, 1) := by decide +kernel
theorem d_Tr_init_110 : decode M_Tr_init.2.1 110 = .ok (.istore 6, 2) := by decide +kernel
theorem d_Tr_init_112 : decode M_Tr_init.2.1 112 = .ok (.iload 6, 2) := by decide +kernel
theorem d_Tr_init_114 : decode M_Tr_init.2.1 114 = .ok (.iconst 3, 1) := by decide +kernel
theorem d_Tr_init_115 : decode M_Tr_init.2.1 115 = .ok (.if_icmp .ge 20, 3) := by decide +kernel
theorem d_Tr_init_118 : decode M_Tr_init.2.1 118 = .ok (.aload_n 0, 1) := by decide +kernel
theorem d_Tr_init_119 : decode M_Tr_init.2.1 119 = .ok (.getfield 11, 3) := by decide +kernel
theorem d_Tr_init_122 : decode M_Tr_init.2.1 122 = .ok (.iload 6, 2) := by decide +kernel
theorem d_Tr_init_124 : decode M_Tr_init.2.1 124 = .ok (.aaload, 1) := by decide +kernel
theorem d_Tr_init_125 : decode M_Tr_init.2.1 125 = .ok (.iconst (-1), 1) := by decide +kernel
theorem d_Tr_init_126 : decode M_Tr_init.2.1 126 = .ok (.invokestatic 55, 3) := by decide +kernel
theorem d_Tr_init_129 : decode M_Tr_init.2.1 129 = .ok (.iinc 6 1, 3) := by decide +kernel
theorem d_Tr_init_132 : decode M_Tr_init.2.1 132 = .ok (.goto (-20), 3) := by decide +kernel
theorem d_Tr_init_135 : decode M_Tr_init.2.1 135 = .ok (.iconst 0, 1) := by decide +kernel
theorem d_Tr_init_136 : decode M_Tr_init.2.1 136 = .ok (.istore 6, 2) := by decide +kernel
theorem d_Tr_init_138 : decode M_Tr_init.2.1 138 = .ok (.iload 6, 2) := by decide +kernel
theorem d_Tr_init_140 : decode M_Tr_init.2.1 140 = .ok (.bipush 18, 2) := by decide +kernel
theorem d_Tr_init_142 : decode M_Tr_init.2.1 142 = .ok (.if_icmp .ge 31, 3) := by decide +kernel
theorem d_Tr_init_145 : decode M_Tr_init.2.1 145 = .ok (.aload_n 0, 1) := by decide +kernel
theorem d_Tr_init_146 : decode M_Tr_init.2.1 146 = .ok (.getfield 19, 3) := by decide +kernel
theorem d_Tr_init_149 : decode M_Tr_init.2.1 149 = .ok (.iload 6, 2) := by decide +kernel
theorem d_Tr_init_151 : decode M_Tr_init.2.1 151 = .ok (.aaload, 1) := by decide +kernel
theorem d_Tr_init_152 : decode M_Tr_init.2.1 152 = .ok (.iconst (-1), 1) := by decide +kernel
theorem d_Tr_init_153 : decode M_Tr_init.2.1 153 = .ok (.invokestatic 55, 3) := by decide +kernel
theorem d_Tr_init_156 : decode M_Tr_init.2.1 156 = .ok (.aload_n 0, 1) := by decide +kernel
theorem d_Tr_init_157 : decode M_Tr_init.2.1 157 = .ok (.getfield 22, 3) := by decide +kernel
theorem d_Tr_init_160 : decode M_Tr_init.2.1 160 = .ok (.iload 6, 2) := by decide +kernel
theorem d_Tr_init_162 : decode M_Tr_init.2.1 162 = .ok (.aaload, 1) := by decide +kernel
theorem d_Tr_init_163 : decode M_Tr_init.2.1 163 = .ok (.iconst (-1), 1) := by decide +kernel
theorem d_Tr_init_164 : decode M_Tr_init.2.1 164 = .ok (.invokestatic 55, 3) := by decide +kernel
theorem d_Tr_init_167 : decode M_Tr_init.2.1 167 = .ok (.iinc 6 1, 3) := by decide +kernel
theorem d_Tr_init_170 : decode M_Tr_init.2.1 170 = .ok (.goto (-32), 3) := by decide +kernel
theorem d_Tr_init_173 : decode M_Tr_init.2.1 173 = .ok (.return_, 1) := by decide +kernel
theorem d_Pa_init_0 : decode M_Pa_init.2.1 0 = .ok (.aload_n 0, 1) := by decide +kernel
theorem d_Pa_init_1 : decode M_Pa_init.2.1 1 = .ok (.invokespecial 3, 3) := by decide +kernel
theorem d_Pa_init_4 : decode M_Pa_init.2.1 4 = .ok (.aload_n 0, 1) := by decide +kernel
theorem d_Pa_init_5 : decode M_Pa_init.2.1 5 = .ok (.bipush 6, 2) := by decide +kernel
theorem d_Pa_init_7 : decode M_Pa_init.2.1 7 = .ok (.newarray .int, 2) := by decide +kernel
theorem d_Pa_init_9 : decode M_Pa_init.2.1 9 = .ok (.putfield 9, 3) := by decide +kernel
theorem d_Pa_init_12 : decode M_Pa_init.2.1 12 = .ok (.aload_n 0, 1) := by decide +kernel
theorem d_Pa_init_13 : decode M_Pa_init.2.1 13 = .ok (.bipush 6, 2) := by decide +kernel
theorem d_Pa_init_15 : decode M_Pa_init.2.1 15 = .ok (.newarray .int, 2) := by decide +kernel
theorem d_Pa_init_17 : decode M_Pa_init.2.1 17 = .ok (.putfield 15, 3) := by decide +kernel
theorem d_Pa_init_20 : decode M_Pa_init.2.1 20 = .ok (.aload_n 0, 1) := by decide +kernel
theorem d_Pa_init_21 : decode M_Pa_init.2.1 21 = .ok (.iconst 0, 1) := by decide +kernel
theorem d_Pa_init_22 : decode M_Pa_init.2.1 22 = .ok (.putfield 18, 3) := by decide +kernel
theorem d_Pa_init_25 : decode M_Pa_init.2.1 25 = .ok (.aload_n 0, 1) := by decide +kernel
theorem d_Pa_init_26 : decode M_Pa_init.2.1 26 = .ok (.iconst 0, 1) := by decide +kernel
theorem d_Pa_init_27 : decode M_Pa_init.2.1 27 = .ok (.putfield 22, 3) := by decide +kernel
theorem d_Pa_init_30 : decode M_Pa_init.2.1 30 = .ok (.aload_n 0, 1) := by decide +kernel
theorem d_Pa_init_31 : decode M_Pa_init.2.1 31 = .ok (.iconst 0, 1) := by decide +kernel
theorem d_Pa_init_32 : decode M_Pa_init.2.1 32 = .ok (.putfield 25, 3) := by decide +kernel
theorem d_Pa_init_35 : decode M_Pa_init.2.1 35 = .ok (.aload_n 0, 1) := by decide +kernel
theorem d_Pa_init_36 : decode M_Pa_init.2.1 36 = .ok (.iconst 0, 1) := by decide +kernel
theorem d_Pa_init_37 : decode M_Pa_init.2.1 37 = .ok (.putfield 28, 3) := by decide +kernel
theorem d_Pa_init_40 : decode M_Pa_init.2.1 40 = .ok (.aload_n 0, 1) := by decide +kernel
theorem d_Pa_init_41 : decode M_Pa_init.2.1 41 = .ok (.iconst 0, 1) := by decide +kernel
theorem d_Pa_init_42 : decode M_Pa_init.2.1 42 = .ok (.putfield 31, 3) := by decide +kernel
theorem d_Pa_init_45 : decode M_Pa_init.2.1 45 = .ok (.aload_n 0, 1) := by decide +kernel
theorem d_Pa_init_46 : decode M_Pa_init.2.1 46 = .ok (.aload_n 1, 1) := by decide +kernel
theorem d_Pa_init_47 : decode M_Pa_init.2.1 47 = .ok (.putfield 34, 3) := by decide +kernel
theorem d_Pa_init_50 : decode M_Pa_init.2.1 50 = .ok (.aload_n 0, 1) := by decide +kernel
theorem d_Pa_init_51 : decode M_Pa_init.2.1 51 = .ok (.aload_n 2, 1) := by decide +kernel
theorem d_Pa_init_52 : decode M_Pa_init.2.1 52 = .ok (.putfield 38, 3) := by decide +kernel
theorem d_Pa_init_55 : decode M_Pa_init.2.1 55 = .ok (.aload_n 0, 1) := by decide +kernel
theorem d_Pa_init_56 : decode M_Pa_init.2.1 56 = .ok (.aload_n 3, 1) := by decide +kernel
theorem d_Pa_init_57 : decode M_Pa_init.2.1 57 = .ok (.putfield 42, 3) := by decide +kernel
theorem d_Pa_init_60 : decode M_Pa_init.2.1 60 = .ok (.aload_n 0, 1) := by decide +kernel
theorem d_Pa_init_61 : decode M_Pa_init.2.1 61 = .ok (.aload 4, 2) := by decide +kernel
theorem d_Pa_init_63 : decode M_Pa_init.2.1 63 = .ok (.putfield 46, 3) := by decide +kernel
theorem d_Pa_init_66 : decode M_Pa_init.2.1 66 = .ok (.aload_n 0, 1) := by decide +kernel
theorem d_Pa_init_67 : decode M_Pa_init.2.1 67 = .ok (.aload 5, 2) := by decide +kernel
theorem d_Pa_init_69 : decode M_Pa_init.2.1 69 = .ok (.putfield 50, 3) := by decide +kernel
theorem d_Pa_init_72 : decode M_Pa_init.2.1 72 = .ok (.return_, 1) := by decide +kernel
theorem d_Fi_init_0 : decode M_Fi_init.2.1 0 = .ok (.aload_n 0, 1) := by decide +kernel
theorem d_Fi_init_1 : decode M_Fi_init.2.1 1 = .ok (.invokespecial 3, 3) := by decide +kernel
theorem d_Fi_init_4 : decode M_Fi_init.2.1 4 = .ok (.aload_n 0, 1) := by decide +kernel
theorem d_Fi_init_5 : decode M_Fi_init.2.1 5 = .ok (.iconst 4, 1) := by decide +kernel
theorem d_Fi_init_6 : decode M_Fi_init.2.1 6 = .ok (.newarray .int, 2) := by decide +kernel
theorem d_Fi_init_8 : decode M_Fi_init.2.1 8 = .ok (.putfield 9, 3) := by decide +kernel
theorem d_Fi_init_11 : decode M_Fi_init.2.1 11 = .ok (.aload_n 0, 1) := by decide +kernel
theorem d_Fi_init_12 : decode M_Fi_init.2.1 12 = .ok (.iconst 4, 1) := by decide +kernel
theorem d_Fi_init_13 : decode M_Fi_init.2.1 13 = .ok (.newarray .int, 2) := by decide +kernel
theorem d_Fi_init_15 : decode M_Fi_init.2.1 15 = .ok (.putfield 15, 3) := by decide +kernel
theorem d_Fi_init_18 : decode M_Fi_init.2.1 18 = .ok (.aload_n 0, 1) := by decide +kernel
theorem d_Fi_init_19 : decode M_Fi_init.2.1 19 = .ok (.iconst 4, 1) := by decide +kernel
theorem d_Fi_init_20 : decode M_Fi_init.2.1 20 = .ok (.newarray .int, 2) := by decide +kernel
theorem d_Fi_init_22 : decode M_Fi_init.2.1 22 = .ok (.putfield 18, 3) := by decide +kernel
theorem d_Fi_init_25 : decode M_Fi_init.2.1 25 = .ok (.aload_n 0, 1) := by decide +kernel
theorem d_Fi_init_26 : decode M_Fi_init.2.1 26 = .ok (.iconst 4, 1) := by decide +kernel
theorem d_Fi_init_27 : decode M_Fi_init.2.1 27 = .ok (.newarray .int, 2) := by decide +kernel
theorem d_Fi_init_29 : decode M_Fi_init.2.1 29 = .ok (.putfield 21, 3) := by decide +kernel
theorem d_Fi_init_32 : decode M_Fi_init.2.1 32 = .ok (.aload_n 0, 1) := by decide +kernel
theorem d_Fi_init_33 : decode M_Fi_init.2.1 33 = .ok (.iconst 4, 1) := by decide +kernel
theorem d_Fi_init_34 : decode M_Fi_init.2.1 34 = .ok (.newarray .int, 2) := by decide +kernel
theorem d_Fi_init_36 : decode M_Fi_init.2.1 36 = .ok (.putfield 24, 3) := by decide +kernel
theorem d_Fi_init_39 : decode M_Fi_init.2.1 39 = .ok (.aload_n 0, 1) := by decide +kernel
theorem d_Fi_init_40 : decode M_Fi_init.2.1 40 = .ok (.iconst 4, 1) := by decide +kernel
theorem d_Fi_init_41 : decode M_Fi_init.2.1 41 = .ok (.bipush 6, 2) := by decide +kernel
theorem d_Fi_init_43 : decode M_Fi_init.2.1 43 = .ok (.multianewarray 27 2, 4) := by decide +kernel
theorem d_Fi_init_47 : decode M_Fi_init.2.1 47 = .ok (.putfield 29, 3) := by decide +kernel
theorem d_Fi_init_50 : decode M_Fi_init.2.1 50 = .ok (.aload_n 0, 1) := by decide +kernel
theorem d_Fi_init_51 : decode M_Fi_init.2.1 51 = .ok (.iconst 4, 1) := by decide +kernel
theorem d_Fi_init_52 : decode M_Fi_init.2.1 52 = .ok (.bipush 6, 2) := by decide +kernel
theorem d_Fi_init_54 : decode M_Fi_init.2.1 54 = .ok (.multianewarray 27 2, 4) := by decide +kernel
theorem d_Fi_init_58 : decode M_Fi_init.2.1 58 = .ok (.putfield 32, 3) := by decide +kernel
theorem d_Fi_init_61 : decode M_Fi_init.2.1 61 = .ok (.aload_n 0, 1) := by decide +kernel
theorem d_Fi_init_62 : decode M_Fi_init.2.1 62 = .ok (.bipush 6, 2) := by decide +kernel
theorem d_Fi_init_64 : decode M_Fi_init.2.1 64 = .ok (.newarray .int, 2) := by decide +kernel
theorem d_Fi_init_66 : decode M_Fi_init.2.1 66 = .ok (.putfield 35, 3) := by decide +kernel
theorem d_Fi_init_69 : decode M_Fi_init.2.1 69 = .ok (.aload_n 0, 1) := by decide +kernel
theorem d_Fi_init_70 : decode M_Fi_init.2.1 70 = .ok (.iconst 0, 1) := by decide +kernel
theorem d_Fi_init_71 : decode M_Fi_init.2.1 71 = .ok (.putfield 38, 3) := by decide +kernel
theorem d_Fi_init_74 : decode M_Fi_init.2.1 74 = .ok (.aload_n 0, 1) := by decide +kernel
theorem d_Fi_init_75 : decode M_Fi_init.2.1 75 = .ok (.iconst 1, 1) := by decide +kernel
theorem d_Fi_init_76 : decode M_Fi_init.2.1 76 = .ok (.putfield 42, 3) := by decide +kernel
theorem d_Fi_init_79 : decode M_Fi_init.2.1 79 = .ok (.aload_n 0, 1) := by decide +kernel
theorem d_Fi_init_80 : decode M_Fi_init.2.1 80 = .ok (.aload_n 1, 1) := by decide +kernel
theorem d_Fi_init_81 : decode M_Fi_init.2.1 81 = .ok (.putfield 45, 3) := by decide +kernel
theorem d_Fi_init_84 : decode M_Fi_init.2.1 84 = .ok (.aload_n 0, 1) := by decide +kernel
theorem d_Fi_init_85 : decode M_Fi_init.2.1 85 = .ok (.aload_n 2, 1) := by decide +kernel
theorem d_Fi_init_86 : decode M_Fi_init.2.1 86 = .ok (.putfield 49, 3) := by decide +kernel
theorem d_Fi_init_89 : decode M_Fi_init.2.1 89 = .ok (.aload_n 0, 1) := by decide +kernel
theorem d_Fi_init_90 : decode M_Fi_init.2.1 90 = .ok (.aload_n 3, 1) := by decide +kernel
theorem d_Fi_init_91 : decode M_Fi_init.2.1 91 = .ok (.putfield 53, 3) := by decide +kernel
theorem d_Fi_init_94 : decode M_Fi_init.2.1 94 = .ok (.return_, 1) := by decide +kernel
theorem d_MT_link_0 : decode M_MT_link.2.1 0 = .ok (.iload_n 1, 1) := by decide +kernel
theorem d_MT_link_1 : decode M_MT_link.2.1 1 = .ok (.invokestatic 9, 3) := by decide +kernel
theorem d_MT_link_4 : decode M_MT_link.2.1 4 = .ok (.ifCond .eq 15, 3) := by decide +kernel
theorem d_MT_link_7 : decode M_MT_link.2.1 7 = .ok (.iload_n 2, 1) := by decide +kernel
theorem d_MT_link_8 : decode M_MT_link.2.1 8 = .ok (.invokestatic 9, 3) := by decide +kernel
theorem d_MT_link_11 : decode M_MT_link.2.1 11 = .ok (.ifCond .eq 8, 3) := by decide +kernel
theorem d_MT_link_14 : decode M_MT_link.2.1 14 = .ok (.iload_n 1, 1) := by decide +kernel
theorem d_MT_link_15 : decode M_MT_link.2.1 15 = .ok (.iload_n 2, 1) := by decide +kernel
theorem d_MT_link_16 : decode M_MT_link.2.1 16 = .ok (.if_icmp .ne 5, 3) := by decide +kernel
theorem d_MT_link_19 : decode M_MT_link.2.1 19 = .ok (.iconst 0, 1) := by decide +kernel
theorem d_MT_link_20 : decode M_MT_link.2.1 20 = .ok (.ireturn, 1) := by decide +kernel
theorem d_MT_link_21 : decode M_MT_link.2.1 21 = .ok (.iload_n 3, 1) := by decide +kernel
theorem d_MT_link_22 : decode M_MT_link.2.1 22 = .ok (.ifCond .lt 22, 3) := by decide +kernel
theorem d_MT_link_25 : decode M_MT_link.2.1 25 = .ok (.iload_n 3, 1) := by decide +kernel
theorem d_MT_link_26 : decode M_MT_link.2.1 26 = .ok (.bipush 9, 2) := by decide +kernel
theorem d_MT_link_28 : decode M_MT_link.2.1 28 = .ok (.if_icmp .gt 16, 3) := by decide +kernel
theorem d_MT_link_31 : decode M_MT_link.2.1 31 = .ok (.iload_n 3, 1) := by decide +kernel
theorem d_MT_link_32 : decode M_MT_link.2.1 32 = .ok (.aload_n 0, 1) := by decide +kernel
theorem d_MT_link_33 : decode M_MT_link.2.1 33 = .ok (.getfield 30, 3) := by decide +kernel
theorem d_MT_link_36 : decode M_MT_link.2.1 36 = .ok (.iload_n 1, 1) := by decide +kernel
theorem d_MT_link_37 : decode M_MT_link.2.1 37 = .ok (.iload_n 2, 1) := by decide +kernel
theorem d_MT_link_38 : decode M_MT_link.2.1 38 = .ok (.invokevirtual 77, 3) := by decide +kernel
theorem d_MT_link_41 : decode M_MT_link.2.1 41 = .ok (.if_icmp .ne 5, 3) := by decide +kernel
theorem d_MT_link_44 : decode M_MT_link.2.1 44 = .ok (.iconst 0, 1) := by decide +kernel
theorem d_MT_link_45 : decode M_MT_link.2.1 45 = .ok (.ireturn, 1) := by decide +kernel
theorem d_MT_link_46 : decode M_MT_link.2.1 46 = .ok (.aload_n 0, 1) := by decide +kernel
theorem d_MT_link_47 : decode M_MT_link.2.1 47 = .ok (.getfield 30, 3) := by decide +kernel
theorem d_MT_link_50 : decode M_MT_link.2.1 50 = .ok (.iload_n 1, 1) := by decide +kernel
theorem d_MT_link_51 : decode M_MT_link.2.1 51 = .ok (.iload_n 2, 1) := by decide +kernel
theorem d_MT_link_52 : decode M_MT_link.2.1 52 = .ok (.iload_n 3, 1) := by decide +kernel
theorem d_MT_link_53 : decode M_MT_link.2.1 53 = .ok (.invokevirtual 81, 3) := by decide +kernel
theorem d_MT_link_56 : decode M_MT_link.2.1 56 = .ok (.aload_n 0, 1) := by decide +kernel
theorem d_MT_link_57 : decode M_MT_link.2.1 57 = .ok (.getfield 55, 3) := by decide +kernel
theorem d_MT_link_60 : decode M_MT_link.2.1 60 = .ok (.invokevirtual 85, 3) := by decide +kernel
theorem d_MT_link_63 : decode M_MT_link.2.1 63 = .ok (.iconst 1, 1) := by decide +kernel
theorem d_MT_link_64 : decode M_MT_link.2.1 64 = .ok (.ireturn, 1) := by decide +kernel
theorem d_Tr_settle_0 : decode M_Tr_settle.2.1 0 = .ok (.iconst 0, 1) := by decide +kernel
theorem d_Tr_settle_1 : decode M_Tr_settle.2.1 1 = .ok (.istore_n 1, 1) := by decide +kernel
theorem d_Tr_settle_2 : decode M_Tr_settle.2.1 2 = .ok (.iload_n 1, 1) := by decide +kernel
theorem d_Tr_settle_3 : decode M_Tr_settle.2.1 3 = .ok (.iconst 3, 1) := by decide +kernel
theorem d_Tr_settle_4 : decode M_Tr_settle.2.1 4 = .ok (.if_icmp .ge 14, 3) := by decide +kernel
theorem d_Tr_settle_7 : decode M_Tr_settle.2.1 7 = .ok (.aload_n 0, 1) := by decide +kernel
theorem d_Tr_settle_8 : decode M_Tr_settle.2.1 8 = .ok (.iload_n 1, 1) := by decide +kernel
theorem d_Tr_settle_9 : decode M_Tr_settle.2.1 9 = .ok (.invokevirtual 61, 3) := by decide +kernel
theorem d_Tr_settle_12 : decode M_Tr_settle.2.1 12 = .ok (.iinc 1 1, 3) := by decide +kernel
theorem d_Tr_settle_15 : decode M_Tr_settle.2.1 15 = .ok (.goto (-13), 3) := by decide +kernel
theorem d_Tr_settle_18 : decode M_Tr_settle.2.1 18 = .ok (.iconst 0, 1) := by decide +kernel
theorem d_Tr_settle_19 : decode M_Tr_settle.2.1 19 = .ok (.istore_n 1, 1) := by decide +kernel
theorem d_Tr_settle_20 : decode M_Tr_settle.2.1 20 = .ok (.iload_n 1, 1) := by decide +kernel
theorem d_Tr_settle_21 : decode M_Tr_settle.2.1 21 = .ok (.bipush 6, 2) := by decide +kernel
theorem d_Tr_settle_23 : decode M_Tr_settle.2.1 23 = .ok (.if_icmp .ge 34, 3) := by decide +kernel
theorem d_Tr_settle_26 : decode M_Tr_settle.2.1 26 = .ok (.iconst 0, 1) := by decide +kernel
theorem d_Tr_settle_27 : decode M_Tr_settle.2.1 27 = .ok (.istore_n 2, 1) := by decide +kernel
theorem d_Tr_settle_28 : decode M_Tr_settle.2.1 28 = .ok (.iload_n 2, 1) := by decide +kernel
theorem d_Tr_settle_29 : decode M_Tr_settle.2.1 29 = .ok (.iconst 3, 1) := by decide +kernel
theorem d_Tr_settle_30 : decode M_Tr_settle.2.1 30 = .ok (.if_icmp .ge 21, 3) := by decide +kernel
theorem d_Tr_settle_33 : decode M_Tr_settle.2.1 33 = .ok (.aload_n 0, 1) := by decide +kernel
theorem d_Tr_settle_34 : decode M_Tr_settle.2.1 34 = .ok (.iload_n 1, 1) := by decide +kernel
theorem d_Tr_settle_35 : decode M_Tr_settle.2.1 35 = .ok (.iload_n 2, 1) := by decide +kernel
theorem d_Tr_settle_36 : decode M_Tr_settle.2.1 36 = .ok (.invokevirtual 65, 3) := by decide +kernel
theorem d_Tr_settle_39 : decode M_Tr_settle.2.1 39 = .ok (.aload_n 0, 1) := by decide +kernel
theorem d_Tr_settle_40 : decode M_Tr_settle.2.1 40 = .ok (.iload_n 1, 1) := by decide +kernel
theorem d_Tr_settle_41 : decode M_Tr_settle.2.1 41 = .ok (.iload_n 2, 1) := by decide +kernel
theorem d_Tr_settle_42 : decode M_Tr_settle.2.1 42 = .ok (.invokevirtual 69, 3) := by decide +kernel
theorem d_Tr_settle_45 : decode M_Tr_settle.2.1 45 = .ok (.iinc 2 1, 3) := by decide +kernel
theorem d_Tr_settle_48 : decode M_Tr_settle.2.1 48 = .ok (.goto (-20), 3) := by decide +kernel
theorem d_Tr_settle_51 : decode M_Tr_settle.2.1 51 = .ok (.iinc 1 1, 3) := by decide +kernel
theorem d_Tr_settle_54 : decode M_Tr_settle.2.1 54 = .ok (.goto (-34), 3) := by decide +kernel
theorem d_Tr_settle_57 : decode M_Tr_settle.2.1 57 = .ok (.return_, 1) := by decide +kernel
theorem d_Tr_settleShared_0 : decode M_Tr_settleShared.2.1 0 = .ok (.aload_n 0, 1) := by decide +kernel
theorem d_Tr_settleShared_1 : decode M_Tr_settleShared.2.1 1 = .ok (.getfield 16, 3) := by decide +kernel
theorem d_Tr_settleShared_4 : decode M_Tr_settleShared.2.1 4 = .ok (.iload_n 1, 1) := by decide +kernel
theorem d_Tr_settleShared_5 : decode M_Tr_settleShared.2.1 5 = .ok (.aaload, 1) := by decide +kernel
theorem d_Tr_settleShared_6 : decode M_Tr_settleShared.2.1 6 = .ok (.astore_n 2, 1) := by decide +kernel
theorem d_Tr_settleShared_7 : decode M_Tr_settleShared.2.1 7 = .ok (.aload_n 2, 1) := by decide +kernel
theorem d_Tr_settleShared_8 : decode M_Tr_settleShared.2.1 8 = .ok (.iconst 0, 1) := by decide +kernel
theorem d_Tr_settleShared_9 : decode M_Tr_settleShared.2.1 9 = .ok (.invokestatic 55, 3) := by decide +kernel
theorem d_Tr_settleShared_12 : decode M_Tr_settleShared.2.1 12 = .ok (.iconst 0, 1) := by decide +kernel
theorem d_Tr_settleShared_13 : decode M_Tr_settleShared.2.1 13 = .ok (.istore_n 3, 1) := by decide +kernel
theorem d_Tr_settleShared_14 : decode M_Tr_settleShared.2.1 14 = .ok (.iload_n 3, 1) := by decide +kernel
theorem d_Tr_settleShared_15 : decode M_Tr_settleShared.2.1 15 = .ok (.bipush 6, 2) := by decide +kernel
theorem d_Tr_settleShared_17 : decode M_Tr_settleShared.2.1 17 = .ok (.if_icmp .ge 120, 3) := by decide +kernel
theorem d_Tr_settleShared_20 : decode M_Tr_settleShared.2.1 20 = .ok (.aload_n 0, 1) := by decide +kernel
theorem d_Tr_settleShared_21 : decode M_Tr_settleShared.2.1 21 = .ok (.getfield 39, 3) := by decide +kernel
theorem d_Tr_settleShared_24 : decode M_Tr_settleShared.2.1 24 = .ok (.aload_n 0, 1) := by decide +kernel
theorem d_Tr_settleShared_25 : decode M_Tr_settleShared.2.1 25 = .ok (.getfield 35, 3) := by decide +kernel
theorem d_Tr_settleShared_28 : decode M_Tr_settleShared.2.1 28 = .ok (.iload_n 3, 1) := by decide +kernel
theorem d_Tr_settleShared_29 : decode M_Tr_settleShared.2.1 29 = .ok (.invokevirtual 72, 3) := by decide +kernel
theorem d_Tr_settleShared_32 : decode M_Tr_settleShared.2.1 32 = .ok (.istore 4, 2) := by decide +kernel
theorem d_Tr_settleShared_34 : decode M_Tr_settleShared.2.1 34 = .ok (.aload_n 0, 1) := by decide +kernel
theorem d_Tr_settleShared_35 : decode M_Tr_settleShared.2.1 35 = .ok (.getfield 43, 3) := by decide +kernel
theorem d_Tr_settleShared_38 : decode M_Tr_settleShared.2.1 38 = .ok (.iload 4, 2) := by decide +kernel
theorem d_Tr_settleShared_40 : decode M_Tr_settleShared.2.1 40 = .ok (.iload_n 1, 1) := by decide +kernel
theorem d_Tr_settleShared_41 : decode M_Tr_settleShared.2.1 41 = .ok (.invokevirtual 78, 3) := by decide +kernel
theorem d_Tr_settleShared_44 : decode M_Tr_settleShared.2.1 44 = .ok (.ifCond .ne 10, 3) := by decide +kernel
theorem d_Tr_settleShared_47 : decode M_Tr_settleShared.2.1 47 = .ok (.aload_n 2, 1) := by decide +kernel
theorem d_Tr_settleShared_48 : decode M_Tr_settleShared.2.1 48 = .ok (.iload 4, 2) := by decide +kernel
theorem d_Tr_settleShared_50 : decode M_Tr_settleShared.2.1 50 = .ok (.iaload, 1) := by decide +kernel
theorem d_Tr_settleShared_51 : decode M_Tr_settleShared.2.1 51 = .ok (.ifCond .eq 7, 3) := by decide +kernel
theorem d_Tr_settleShared_54 : decode M_Tr_settleShared.2.1 54 = .ok (.iconst 1, 1) := by decide +kernel
theorem d_Tr_settleShared_55 : decode M_Tr_settleShared.2.1 55 = .ok (.goto 4, 3) := by decide +kernel
theorem d_Tr_settleShared_58 : decode M_Tr_settleShared.2.1 58 = .ok (.iconst 0, 1) := by decide +kernel
theorem d_Tr_settleShared_59 : decode M_Tr_settleShared.2.1 59 = .ok (.istore 5, 2) := by decide +kernel
theorem d_Tr_settleShared_61 : decode M_Tr_settleShared.2.1 61 = .ok (.iload 5, 2) := by decide +kernel
theorem d_Tr_settleShared_63 : decode M_Tr_settleShared.2.1 63 = .ok (.ifCond .eq 19, 3) := by decide +kernel
theorem d_Tr_settleShared_66 : decode M_Tr_settleShared.2.1 66 = .ok (.aload_n 0, 1) := by decide +kernel
theorem d_Tr_settleShared_67 : decode M_Tr_settleShared.2.1 67 = .ok (.getfield 39, 3) := by decide +kernel
theorem d_Tr_settleShared_70 : decode M_Tr_settleShared.2.1 70 = .ok (.iload 4, 2) := by decide +kernel
theorem d_Tr_settleShared_72 : decode M_Tr_settleShared.2.1 72 = .ok (.aload_n 0, 1) := by decide +kernel
theorem d_Tr_settleShared_73 : decode M_Tr_settleShared.2.1 73 = .ok (.getfield 35, 3) := by decide +kernel
theorem d_Tr_settleShared_76 : decode M_Tr_settleShared.2.1 76 = .ok (.invokevirtual 84, 3) := by decide +kernel
theorem d_Tr_settleShared_79 : decode M_Tr_settleShared.2.1 79 = .ok (.goto 4, 3) := by decide +kernel
theorem d_Tr_settleShared_82 : decode M_Tr_settleShared.2.1 82 = .ok (.iconst (-1), 1) := by decide +kernel
theorem d_Tr_settleShared_83 : decode M_Tr_settleShared.2.1 83 = .ok (.istore 6, 2) := by decide +kernel
theorem d_Tr_settleShared_85 : decode M_Tr_settleShared.2.1 85 = .ok (.iload 6, 2) := by decide +kernel
theorem d_Tr_settleShared_87 : decode M_Tr_settleShared.2.1 87 = .ok (.iconst (-1), 1) := by decide +kernel
theorem d_Tr_settleShared_88 : decode M_Tr_settleShared.2.1 88 = .ok (.if_icmp .eq 14, 3) := by decide +kernel
theorem d_Tr_settleShared_91 : decode M_Tr_settleShared.2.1 91 = .ok (.aload_n 2, 1) := by decide +kernel
theorem d_Tr_settleShared_92 : decode M_Tr_settleShared.2.1 92 = .ok (.iload 6, 2) := by decide +kernel
theorem d_Tr_settleShared_94 : decode M_Tr_settleShared.2.1 94 = .ok (.dup2, 1) := by decide +kernel
theorem d_Tr_settleShared_95 : decode M_Tr_settleShared.2.1 95 = .ok (.iaload, 1) := by decide +kernel
theorem d_Tr_settleShared_96 : decode M_Tr_settleShared.2.1 96 = .ok (.iconst 1, 1) := by decide +kernel
theorem d_Tr_settleShared_97 : decode M_Tr_settleShared.2.1 97 = .ok (.iload 4, 2) := by decide +kernel
theorem d_Tr_settleShared_99 : decode M_Tr_settleShared.2.1 99 = .ok (.ishl, 1) := by decide +kernel
theorem d_Tr_settleShared_100 : decode M_Tr_settleShared.2.1 100 = .ok (.ior, 1) := by decide +kernel
theorem d_Tr_settleShared_101 : decode M_Tr_settleShared.2.1 101 = .ok (.iastore, 1) := by decide +kernel
theorem d_Tr_settleShared_102 : decode M_Tr_settleShared.2.1 102 = .ok (.aload_n 0, 1) := by decide +kernel
theorem d_Tr_settleShared_103 : decode M_Tr_settleShared.2.1 103 = .ok (.iconst 0, 1) := by decide +kernel
theorem d_Tr_settleShared_104 : decode M_Tr_settleShared.2.1 104 = .ok (.iload 4, 2) := by decide +kernel
theorem d_Tr_settleShared_106 : decode M_Tr_settleShared.2.1 106 = .ok (.aload_n 0, 1) := by decide +kernel
theorem d_Tr_settleShared_107 : decode M_Tr_settleShared.2.1 107 = .ok (.getfield 11, 3) := by decide +kernel
theorem d_Tr_settleShared_110 : decode M_Tr_settleShared.2.1 110 = .ok (.iload_n 1, 1) := by decide +kernel
theorem d_Tr_settleShared_111 : decode M_Tr_settleShared.2.1 111 = .ok (.aaload, 1) := by decide +kernel
theorem d_Tr_settleShared_112 : decode M_Tr_settleShared.2.1 112 = .ok (.iload 4, 2) := by decide +kernel
theorem d_Tr_settleShared_114 : decode M_Tr_settleShared.2.1 114 = .ok (.iaload, 1) := by decide +kernel
theorem d_Tr_settleShared_115 : decode M_Tr_settleShared.2.1 115 = .ok (.iload 6, 2) := by decide +kernel
theorem d_Tr_settleShared_117 : decode M_Tr_settleShared.2.1 117 = .ok (.invokevirtual 87, 3) := by decide +kernel
theorem d_Tr_settleShared_120 : decode M_Tr_settleShared.2.1 120 = .ok (.aload_n 0, 1) := by decide +kernel
theorem d_Tr_settleShared_121 : decode M_Tr_settleShared.2.1 121 = .ok (.getfield 11, 3) := by decide +kernel
theorem d_Tr_settleShared_124 : decode M_Tr_settleShared.2.1 124 = .ok (.iload_n 1, 1) := by decide +kernel
theorem d_Tr_settleShared_125 : decode M_Tr_settleShared.2.1 125 = .ok (.aaload, 1) := by decide +kernel
theorem d_Tr_settleShared_126 : decode M_Tr_settleShared.2.1 126 = .ok (.iload 4, 2) := by decide +kernel
theorem d_Tr_settleShared_128 : decode M_Tr_settleShared.2.1 128 = .ok (.iload 6, 2) := by decide +kernel
theorem d_Tr_settleShared_130 : decode M_Tr_settleShared.2.1 130 = .ok (.iastore, 1) := by decide +kernel
theorem d_Tr_settleShared_131 : decode M_Tr_settleShared.2.1 131 = .ok (.iinc 3 1, 3) := by decide +kernel
theorem d_Tr_settleShared_134 : decode M_Tr_settleShared.2.1 134 = .ok (.goto (-120), 3) := by decide +kernel
theorem d_Tr_settleShared_137 : decode M_Tr_settleShared.2.1 137 = .ok (.return_, 1) := by decide +kernel
theorem d_Tr_announce_0 : decode M_Tr_announce.2.1 0 = .ok (.iload_n 3, 1) := by decide +kernel
theorem d_Tr_announce_1 : decode M_Tr_announce.2.1 1 = .ok (.iload 4, 2) := by decide +kernel
theorem d_Tr_announce_3 : decode M_Tr_announce.2.1 3 = .ok (.if_icmp .ne 4, 3) := by decide +kernel
theorem d_Tr_announce_6 : decode M_Tr_announce.2.1 6 = .ok (.return_, 1) := by decide +kernel
theorem d_Tr_announce_7 : decode M_Tr_announce.2.1 7 = .ok (.iload_n 3, 1) := by decide +kernel
theorem d_Tr_announce_8 : decode M_Tr_announce.2.1 8 = .ok (.iconst (-1), 1) := by decide +kernel
theorem d_Tr_announce_9 : decode M_Tr_announce.2.1 9 = .ok (.if_icmp .eq 25, 3) := by decide +kernel
theorem d_Tr_announce_12 : decode M_Tr_announce.2.1 12 = .ok (.aload_n 0, 1) := by decide +kernel
theorem d_Tr_announce_13 : decode M_Tr_announce.2.1 13 = .ok (.getfield 39, 3) := by decide +kernel
theorem d_Tr_announce_16 : decode M_Tr_announce.2.1 16 = .ok (.iload_n 2, 1) := by decide +kernel
theorem d_Tr_announce_17 : decode M_Tr_announce.2.1 17 = .ok (.iload_n 3, 1) := by decide +kernel
theorem d_Tr_announce_18 : decode M_Tr_announce.2.1 18 = .ok (.invokevirtual 106, 3) := by decide +kernel
theorem d_Tr_announce_21 : decode M_Tr_announce.2.1 21 = .ok (.ifCond .eq 13, 3) := by decide +kernel
theorem d_Tr_announce_24 : decode M_Tr_announce.2.1 24 = .ok (.aload_n 0, 1) := by decide +kernel
theorem d_Tr_announce_25 : decode M_Tr_announce.2.1 25 = .ok (.getfield 51, 3) := by decide +kernel
theorem d_Tr_announce_28 : decode M_Tr_announce.2.1 28 = .ok (.iload_n 1, 1) := by decide +kernel
theorem d_Tr_announce_29 : decode M_Tr_announce.2.1 29 = .ok (.iconst 1, 1) := by decide +kernel
theorem d_Tr_announce_30 : decode M_Tr_announce.2.1 30 = .ok (.iadd, 1) := by decide +kernel
theorem d_Tr_announce_31 : decode M_Tr_announce.2.1 31 = .ok (.invokevirtual 109, 3) := by decide +kernel
theorem d_Tr_announce_34 : decode M_Tr_announce.2.1 34 = .ok (.iload 4, 2) := by decide +kernel
theorem d_Tr_announce_36 : decode M_Tr_announce.2.1 36 = .ok (.iconst (-1), 1) := by decide +kernel
theorem d_Tr_announce_37 : decode M_Tr_announce.2.1 37 = .ok (.if_icmp .eq 11, 3) := by decide +kernel
theorem d_Tr_announce_40 : decode M_Tr_announce.2.1 40 = .ok (.aload_n 0, 1) := by decide +kernel
theorem d_Tr_announce_41 : decode M_Tr_announce.2.1 41 = .ok (.getfield 51, 3) := by decide +kernel
theorem d_Tr_announce_44 : decode M_Tr_announce.2.1 44 = .ok (.iload_n 1, 1) := by decide +kernel
theorem d_Tr_announce_45 : decode M_Tr_announce.2.1 45 = .ok (.invokevirtual 109, 3) := by decide +kernel
theorem d_Tr_announce_48 : decode M_Tr_announce.2.1 48 = .ok (.return_, 1) := by decide +kernel
theorem d_Tr_settleCuts_0 : decode M_Tr_settleCuts.2.1 0 = .ok (.iload_n 1, 1) := by decide +kernel
theorem d_Tr_settleCuts_1 : decode M_Tr_settleCuts.2.1 1 = .ok (.iload_n 2, 1) := by decide +kernel
theorem d_Tr_settleCuts_2 : decode M_Tr_settleCuts.2.1 2 = .ok (.invokestatic 91, 3) := by decide +kernel
theorem d_Tr_settleCuts_5 : decode M_Tr_settleCuts.2.1 5 = .ok (.istore_n 3, 1) := by decide +kernel
theorem d_Tr_settleCuts_6 : decode M_Tr_settleCuts.2.1 6 = .ok (.aload_n 0, 1) := by decide +kernel
theorem d_Tr_settleCuts_7 : decode M_Tr_settleCuts.2.1 7 = .ok (.getfield 25, 3) := by decide +kernel
theorem d_Tr_settleCuts_10 : decode M_Tr_settleCuts.2.1 10 = .ok (.iload_n 3, 1) := by decide +kernel
theorem d_Tr_settleCuts_11 : decode M_Tr_settleCuts.2.1 11 = .ok (.aaload, 1) := by decide +kernel
theorem d_Tr_settleCuts_12 : decode M_Tr_settleCuts.2.1 12 = .ok (.astore 4, 2) := by decide +kernel
theorem d_Tr_settleCuts_14 : decode M_Tr_settleCuts.2.1 14 = .ok (.iconst 0, 1) := by decide +kernel
theorem d_Tr_settleCuts_15 : decode M_Tr_settleCuts.2.1 15 = .ok (.istore 5, 2) := by decide +kernel
theorem d_Tr_settleCuts_17 : decode M_Tr_settleCuts.2.1 17 = .ok (.iconst 0, 1) := by decide +kernel
theorem d_Tr_settleCuts_18 : decode M_Tr_settleCuts.2.1 18 = .ok (.istore 6, 2) := by decide +kernel
theorem d_Tr_settleCuts_20 : decode M_Tr_settleCuts.2.1 20 = .ok (.iload 6, 2) := by decide +kernel
theorem d_Tr_settleCuts_22 : decode M_Tr_settleCuts.2.1 22 = .ok (.bipush 6, 2) := by decide +kernel
theorem d_Tr_settleCuts_24 : decode M_Tr_settleCuts.2.1 24 = .ok (.if_icmp .ge 156, 3) := by decide +kernel
theorem d_Tr_settleCuts_27 : decode M_Tr_settleCuts.2.1 27 = .ok (.aload_n 0, 1) := by decide +kernel
theorem d_Tr_settleCuts_28 : decode M_Tr_settleCuts.2.1 28 = .ok (.getfield 39, 3) := by decide +kernel
theorem d_Tr_settleCuts_31 : decode M_Tr_settleCuts.2.1 31 = .ok (.aload_n 0, 1) := by decide +kernel
theorem d_Tr_settleCuts_32 : decode M_Tr_settleCuts.2.1 32 = .ok (.getfield 35, 3) := by decide +kernel
theorem d_Tr_settleCuts_35 : decode M_Tr_settleCuts.2.1 35 = .ok (.iload 6, 2) := by decide +kernel
theorem d_Tr_settleCuts_37 : decode M_Tr_settleCuts.2.1 37 = .ok (.invokevirtual 72, 3) := by decide +kernel
theorem d_Tr_settleCuts_40 : decode M_Tr_settleCuts.2.1 40 = .ok (.istore 7, 2) := by decide +kernel
theorem d_Tr_settleCuts_42 : decode M_Tr_settleCuts.2.1 42 = .ok (.aload 4, 2) := by decide +kernel
theorem d_Tr_settleCuts_44 : decode M_Tr_settleCuts.2.1 44 = .ok (.iload 7, 2) := by decide +kernel
theorem d_Tr_settleCuts_46 : decode M_Tr_settleCuts.2.1 46 = .ok (.aload_n 0, 1) := by decide +kernel
theorem d_Tr_settleCuts_47 : decode M_Tr_settleCuts.2.1 47 = .ok (.getfield 16, 3) := by decide +kernel
theorem d_Tr_settleCuts_50 : decode M_Tr_settleCuts.2.1 50 = .ok (.iload_n 2, 1) := by decide +kernel
theorem d_Tr_settleCuts_51 : decode M_Tr_settleCuts.2.1 51 = .ok (.aaload, 1) := by decide +kernel
theorem d_Tr_settleCuts_52 : decode M_Tr_settleCuts.2.1 52 = .ok (.iload 7, 2) := by decide +kernel
theorem d_Tr_settleCuts_54 : decode M_Tr_settleCuts.2.1 54 = .ok (.iaload, 1) := by decide +kernel
theorem d_Tr_settleCuts_55 : decode M_Tr_settleCuts.2.1 55 = .ok (.iload 5, 2) := by decide +kernel
theorem d_Tr_settleCuts_57 : decode M_Tr_settleCuts.2.1 57 = .ok (.iconst (-1), 1) := by decide +kernel
theorem d_Tr_settleCuts_58 : decode M_Tr_settleCuts.2.1 58 = .ok (.ixor, 1) := by decide +kernel
theorem d_Tr_settleCuts_59 : decode M_Tr_settleCuts.2.1 59 = .ok (.iand, 1) := by decide +kernel
theorem d_Tr_settleCuts_60 : decode M_Tr_settleCuts.2.1 60 = .ok (.iastore, 1) := by decide +kernel
theorem d_Tr_settleCuts_61 : decode M_Tr_settleCuts.2.1 61 = .ok (.aload_n 0, 1) := by decide +kernel
theorem d_Tr_settleCuts_62 : decode M_Tr_settleCuts.2.1 62 = .ok (.getfield 43, 3) := by decide +kernel
theorem d_Tr_settleCuts_65 : decode M_Tr_settleCuts.2.1 65 = .ok (.iload 7, 2) := by decide +kernel
theorem d_Tr_settleCuts_67 : decode M_Tr_settleCuts.2.1 67 = .ok (.iload_n 2, 1) := by decide +kernel
theorem d_Tr_settleCuts_68 : decode M_Tr_settleCuts.2.1 68 = .ok (.invokevirtual 78, 3) := by decide +kernel
theorem d_Tr_settleCuts_71 : decode M_Tr_settleCuts.2.1 71 = .ok (.ifCond .eq 13, 3) := by decide +kernel
theorem d_Tr_settleCuts_74 : decode M_Tr_settleCuts.2.1 74 = .ok (.aload 4, 2) := by decide +kernel
theorem d_Tr_settleCuts_76 : decode M_Tr_settleCuts.2.1 76 = .ok (.iload 7, 2) := by decide +kernel
theorem d_Tr_settleCuts_78 : decode M_Tr_settleCuts.2.1 78 = .ok (.dup2, 1) := by decide +kernel
theorem d_Tr_settleCuts_79 : decode M_Tr_settleCuts.2.1 79 = .ok (.iaload, 1) := by decide +kernel
theorem d_Tr_settleCuts_80 : decode M_Tr_settleCuts.2.1 80 = .ok (.bipush 64, 2) := by decide +kernel
theorem d_Tr_settleCuts_82 : decode M_Tr_settleCuts.2.1 82 = .ok (.ior, 1) := by decide +kernel
theorem d_Tr_settleCuts_83 : decode M_Tr_settleCuts.2.1 83 = .ok (.iastore, 1) := by decide +kernel
theorem d_Tr_settleCuts_84 : decode M_Tr_settleCuts.2.1 84 = .ok (.aload 4, 2) := by decide +kernel
theorem d_Tr_settleCuts_86 : decode M_Tr_settleCuts.2.1 86 = .ok (.iload 7, 2) := by decide +kernel
theorem d_Tr_settleCuts_88 : decode M_Tr_settleCuts.2.1 88 = .ok (.iaload, 1) := by decide +kernel
theorem d_Tr_settleCuts_89 : decode M_Tr_settleCuts.2.1 89 = .ok (.ifCond .eq 14, 3) := by decide +kernel
theorem d_Tr_settleCuts_92 : decode M_Tr_settleCuts.2.1 92 = .ok (.aload_n 0, 1) := by decide +kernel
theorem d_Tr_settleCuts_93 : decode M_Tr_settleCuts.2.1 93 = .ok (.iload_n 3, 1) := by decide +kernel
theorem d_Tr_settleCuts_94 : decode M_Tr_settleCuts.2.1 94 = .ok (.iload_n 1, 1) := by decide +kernel
theorem d_Tr_settleCuts_95 : decode M_Tr_settleCuts.2.1 95 = .ok (.iload 7, 2) := by decide +kernel
theorem d_Tr_settleCuts_97 : decode M_Tr_settleCuts.2.1 97 = .ok (.invokevirtual 94, 3) := by decide +kernel
theorem d_Tr_settleCuts_100 : decode M_Tr_settleCuts.2.1 100 = .ok (.ifCond .eq 7, 3) := by decide +kernel
theorem d_Tr_settleCuts_103 : decode M_Tr_settleCuts.2.1 103 = .ok (.iconst 1, 1) := by decide +kernel
theorem d_Tr_settleCuts_104 : decode M_Tr_settleCuts.2.1 104 = .ok (.goto 4, 3) := by decide +kernel
theorem d_Tr_settleCuts_107 : decode M_Tr_settleCuts.2.1 107 = .ok (.iconst 0, 1) := by decide +kernel
theorem d_Tr_settleCuts_108 : decode M_Tr_settleCuts.2.1 108 = .ok (.istore 8, 2) := by decide +kernel
theorem d_Tr_settleCuts_110 : decode M_Tr_settleCuts.2.1 110 = .ok (.iload 8, 2) := by decide +kernel
theorem d_Tr_settleCuts_112 : decode M_Tr_settleCuts.2.1 112 = .ok (.ifCond .eq 15, 3) := by decide +kernel
theorem d_Tr_settleCuts_115 : decode M_Tr_settleCuts.2.1 115 = .ok (.aload_n 0, 1) := by decide +kernel
theorem d_Tr_settleCuts_116 : decode M_Tr_settleCuts.2.1 116 = .ok (.getfield 11, 3) := by decide +kernel
theorem d_Tr_settleCuts_119 : decode M_Tr_settleCuts.2.1 119 = .ok (.iload_n 2, 1) := by decide +kernel
theorem d_Tr_settleCuts_120 : decode M_Tr_settleCuts.2.1 120 = .ok (.aaload, 1) := by decide +kernel
theorem d_Tr_settleCuts_121 : decode M_Tr_settleCuts.2.1 121 = .ok (.iload 7, 2) := by decide +kernel
theorem d_Tr_settleCuts_123 : decode M_Tr_settleCuts.2.1 123 = .ok (.iaload, 1) := by decide +kernel
theorem d_Tr_settleCuts_124 : decode M_Tr_settleCuts.2.1 124 = .ok (.goto 4, 3) := by decide +kernel
theorem d_Tr_settleCuts_127 : decode M_Tr_settleCuts.2.1 127 = .ok (.iconst (-1), 1) := by decide +kernel
theorem d_Tr_settleCuts_128 : decode M_Tr_settleCuts.2.1 128 = .ok (.istore 9, 2) := by decide +kernel
theorem d_Tr_settleCuts_130 : decode M_Tr_settleCuts.2.1 130 = .ok (.iload 9, 2) := by decide +kernel
theorem d_Tr_settleCuts_132 : decode M_Tr_settleCuts.2.1 132 = .ok (.iconst (-1), 1) := by decide +kernel
theorem d_Tr_settleCuts_133 : decode M_Tr_settleCuts.2.1 133 = .ok (.if_icmp .eq 12, 3) := by decide +kernel
theorem d_Tr_settleCuts_136 : decode M_Tr_settleCuts.2.1 136 = .ok (.iload 5, 2) := by decide +kernel
theorem d_Tr_settleCuts_138 : decode M_Tr_settleCuts.2.1 138 = .ok (.iconst 1, 1) := by decide +kernel
theorem d_Tr_settleCuts_139 : decode M_Tr_settleCuts.2.1 139 = .ok (.iload 7, 2) := by decide +kernel
theorem d_Tr_settleCuts_141 : decode M_Tr_settleCuts.2.1 141 = .ok (.ishl, 1) := by decide +kernel
theorem d_Tr_settleCuts_142 : decode M_Tr_settleCuts.2.1 142 = .ok (.ior, 1) := by decide +kernel
theorem d_Tr_settleCuts_143 : decode M_Tr_settleCuts.2.1 143 = .ok (.istore 5, 2) := by decide +kernel
theorem d_Tr_settleCuts_145 : decode M_Tr_settleCuts.2.1 145 = .ok (.aload_n 0, 1) := by decide +kernel
theorem d_Tr_settleCuts_146 : decode M_Tr_settleCuts.2.1 146 = .ok (.iconst 4, 1) := by decide +kernel
theorem d_Tr_settleCuts_147 : decode M_Tr_settleCuts.2.1 147 = .ok (.iload 7, 2) := by decide +kernel
theorem d_Tr_settleCuts_149 : decode M_Tr_settleCuts.2.1 149 = .ok (.aload_n 0, 1) := by decide +kernel
theorem d_Tr_settleCuts_150 : decode M_Tr_settleCuts.2.1 150 = .ok (.getfield 19, 3) := by decide +kernel
theorem d_Tr_settleCuts_153 : decode M_Tr_settleCuts.2.1 153 = .ok (.iload_n 3, 1) := by decide +kernel
theorem d_Tr_settleCuts_154 : decode M_Tr_settleCuts.2.1 154 = .ok (.aaload, 1) := by decide +kernel
theorem d_Tr_settleCuts_155 : decode M_Tr_settleCuts.2.1 155 = .ok (.iload 7, 2) := by decide +kernel
theorem d_Tr_settleCuts_157 : decode M_Tr_settleCuts.2.1 157 = .ok (.iaload, 1) := by decide +kernel
theorem d_Tr_settleCuts_158 : decode M_Tr_settleCuts.2.1 158 = .ok (.iload 9, 2) := by decide +kernel
theorem d_Tr_settleCuts_160 : decode M_Tr_settleCuts.2.1 160 = .ok (.invokevirtual 87, 3) := by decide +kernel
theorem d_Tr_settleCuts_163 : decode M_Tr_settleCuts.2.1 163 = .ok (.aload_n 0, 1) := by decide +kernel
theorem d_Tr_settleCuts_164 : decode M_Tr_settleCuts.2.1 164 = .ok (.getfield 19, 3) := by decide +kernel
theorem d_Tr_settleCuts_167 : decode M_Tr_settleCuts.2.1 167 = .ok (.iload_n 3, 1) := by decide +kernel
theorem d_Tr_settleCuts_168 : decode M_Tr_settleCuts.2.1 168 = .ok (.aaload, 1) := by decide +kernel
theorem d_Tr_settleCuts_169 : decode M_Tr_settleCuts.2.1 169 = .ok (.iload 7, 2) := by decide +kernel
theorem d_Tr_settleCuts_171 : decode M_Tr_settleCuts.2.1 171 = .ok (.iload 9, 2) := by decide +kernel
theorem d_Tr_settleCuts_173 : decode M_Tr_settleCuts.2.1 173 = .ok (.iastore, 1) := by decide +kernel
theorem d_Tr_settleCuts_174 : decode M_Tr_settleCuts.2.1 174 = .ok (.iinc 6 1, 3) := by decide +kernel
theorem d_Tr_settleCuts_177 : decode M_Tr_settleCuts.2.1 177 = .ok (.goto (-157), 3) := by decide +kernel
theorem d_Tr_settleCuts_180 : decode M_Tr_settleCuts.2.1 180 = .ok (.return_, 1) := by decide +kernel
theorem d_MT_streamOf_0 : decode M_MT_streamOf.2.1 0 = .ok (.iload_n 0, 1) := by decide +kernel
theorem d_MT_streamOf_1 : decode M_MT_streamOf.2.1 1 = .ok (.iconst 3, 1) := by decide +kernel
theorem d_MT_streamOf_2 : decode M_MT_streamOf.2.1 2 = .ok (.imul, 1) := by decide +kernel
theorem d_MT_streamOf_3 : decode M_MT_streamOf.2.1 3 = .ok (.iload_n 1, 1) := by decide +kernel
theorem d_MT_streamOf_4 : decode M_MT_streamOf.2.1 4 = .ok (.iadd, 1) := by decide +kernel
theorem d_MT_streamOf_5 : decode M_MT_streamOf.2.1 5 = .ok (.ireturn, 1) := by decide +kernel
theorem d_Tr_takesElsewhere_0 : decode M_Tr_takesElsewhere.2.1 0 = .ok (.aload_n 0, 1) := by decide +kernel
theorem d_Tr_takesElsewhere_1 : decode M_Tr_takesElsewhere.2.1 1 = .ok (.getfield 47, 3) := by decide +kernel
theorem d_Tr_takesElsewhere_4 : decode M_Tr_takesElsewhere.2.1 4 = .ok (.iload_n 1, 1) := by decide +kernel
theorem d_Tr_takesElsewhere_5 : decode M_Tr_takesElsewhere.2.1 5 = .ok (.iload_n 3, 1) := by decide +kernel
theorem d_Tr_takesElsewhere_6 : decode M_Tr_takesElsewhere.2.1 6 = .ok (.invokevirtual 98, 3) := by decide +kernel
theorem d_Tr_takesElsewhere_9 : decode M_Tr_takesElsewhere.2.1 9 = .ok (.ifCond .eq 31, 3) := by decide +kernel
theorem d_Tr_takesElsewhere_12 : decode M_Tr_takesElsewhere.2.1 12 = .ok (.aload_n 0, 1) := by decide +kernel
theorem d_Tr_takesElsewhere_13 : decode M_Tr_takesElsewhere.2.1 13 = .ok (.getfield 39, 3) := by decide +kernel
theorem d_Tr_takesElsewhere_16 : decode M_Tr_takesElsewhere.2.1 16 = .ok (.iload_n 3, 1) := by decide +kernel
theorem d_Tr_takesElsewhere_17 : decode M_Tr_takesElsewhere.2.1 17 = .ok (.iload_n 2, 1) := by decide +kernel
theorem d_Tr_takesElsewhere_18 : decode M_Tr_takesElsewhere.2.1 18 = .ok (.invokevirtual 84, 3) := by decide +kernel
theorem d_Tr_takesElsewhere_21 : decode M_Tr_takesElsewhere.2.1 21 = .ok (.aload_n 0, 1) := by decide +kernel
theorem d_Tr_takesElsewhere_22 : decode M_Tr_takesElsewhere.2.1 22 = .ok (.getfield 39, 3) := by decide +kernel
theorem d_Tr_takesElsewhere_25 : decode M_Tr_takesElsewhere.2.1 25 = .ok (.iload_n 3, 1) := by decide +kernel
theorem d_Tr_takesElsewhere_26 : decode M_Tr_takesElsewhere.2.1 26 = .ok (.aload_n 0, 1) := by decide +kernel
theorem d_Tr_takesElsewhere_27 : decode M_Tr_takesElsewhere.2.1 27 = .ok (.getfield 35, 3) := by decide +kernel
theorem d_Tr_takesElsewhere_30 : decode M_Tr_takesElsewhere.2.1 30 = .ok (.invokevirtual 84, 3) := by decide +kernel
theorem d_Tr_takesElsewhere_33 : decode M_Tr_takesElsewhere.2.1 33 = .ok (.if_icmp .eq 7, 3) := by decide +kernel
theorem d_Tr_takesElsewhere_36 : decode M_Tr_takesElsewhere.2.1 36 = .ok (.iconst 1, 1) := by decide +kernel
theorem d_Tr_takesElsewhere_37 : decode M_Tr_takesElsewhere.2.1 37 = .ok (.goto 4, 3) := by decide +kernel
theorem d_Tr_takesElsewhere_40 : decode M_Tr_takesElsewhere.2.1 40 = .ok (.iconst 0, 1) := by decide +kernel
theorem d_Tr_takesElsewhere_41 : decode M_Tr_takesElsewhere.2.1 41 = .ok (.ireturn, 1) := by decide +kernel
theorem d_MT_holds_0 : decode M_MT_holds.2.1 0 = .ok (.iload_n 0, 1) := by decide +kernel
theorem d_MT_holds_1 : decode M_MT_holds.2.1 1 = .ok (.iload_n 1, 1) := by decide +kernel
theorem d_MT_holds_2 : decode M_MT_holds.2.1 2 = .ok (.ishr, 1) := by decide +kernel
theorem d_MT_holds_3 : decode M_MT_holds.2.1 3 = .ok (.iconst 1, 1) := by decide +kernel
theorem d_MT_holds_4 : decode M_MT_holds.2.1 4 = .ok (.iand, 1) := by decide +kernel
theorem d_MT_holds_5 : decode M_MT_holds.2.1 5 = .ok (.ifCond .eq 7, 3) := by decide +kernel
theorem d_MT_holds_8 : decode M_MT_holds.2.1 8 = .ok (.iconst 1, 1) := by decide +kernel
theorem d_MT_holds_9 : decode M_MT_holds.2.1 9 = .ok (.goto 4, 3) := by decide +kernel
theorem d_MT_holds_12 : decode M_MT_holds.2.1 12 = .ok (.iconst 0, 1) := by decide +kernel
theorem d_MT_holds_13 : decode M_MT_holds.2.1 13 = .ok (.ireturn, 1) := by decide +kernel
theorem d_Tr_settleSources_0 : decode M_Tr_settleSources.2.1 0 = .ok (.iload_n 1, 1) := by decide +kernel
theorem d_Tr_settleSources_1 : decode M_Tr_settleSources.2.1 1 = .ok (.iload_n 2, 1) := by decide +kernel
theorem d_Tr_settleSources_2 : decode M_Tr_settleSources.2.1 2 = .ok (.invokestatic 91, 3) := by decide +kernel
theorem d_Tr_settleSources_5 : decode M_Tr_settleSources.2.1 5 = .ok (.istore_n 3, 1) := by decide +kernel
theorem d_Tr_settleSources_6 : decode M_Tr_settleSources.2.1 6 = .ok (.aload_n 0, 1) := by decide +kernel
theorem d_Tr_settleSources_7 : decode M_Tr_settleSources.2.1 7 = .ok (.getfield 28, 3) := by decide +kernel
theorem d_Tr_settleSources_10 : decode M_Tr_settleSources.2.1 10 = .ok (.iload_n 3, 1) := by decide +kernel
theorem d_Tr_settleSources_11 : decode M_Tr_settleSources.2.1 11 = .ok (.aaload, 1) := by decide +kernel
theorem d_Tr_settleSources_12 : decode M_Tr_settleSources.2.1 12 = .ok (.astore 4, 2) := by decide +kernel
theorem d_Tr_settleSources_14 : decode M_Tr_settleSources.2.1 14 = .ok (.aload_n 0, 1) := by decide +kernel
theorem d_Tr_settleSources_15 : decode M_Tr_settleSources.2.1 15 = .ok (.getfield 31, 3) := by decide +kernel
theorem d_Tr_settleSources_18 : decode M_Tr_settleSources.2.1 18 = .ok (.iconst 0, 1) := by decide +kernel
theorem d_Tr_settleSources_19 : decode M_Tr_settleSources.2.1 19 = .ok (.invokestatic 55, 3) := by decide +kernel
theorem d_Tr_settleSources_22 : decode M_Tr_settleSources.2.1 22 = .ok (.iconst 0, 1) := by decide +kernel
theorem d_Tr_settleSources_23 : decode M_Tr_settleSources.2.1 23 = .ok (.istore 5, 2) := by decide +kernel
theorem d_Tr_settleSources_25 : decode M_Tr_settleSources.2.1 25 = .ok (.iload 5, 2) := by decide +kernel
theorem d_Tr_settleSources_27 : decode M_Tr_settleSources.2.1 27 = .ok (.bipush 6, 2) := by decide +kernel
theorem d_Tr_settleSources_29 : decode M_Tr_settleSources.2.1 29 = .ok (.if_icmp .ge 151, 3) := by decide +kernel
theorem d_Tr_settleSources_32 : decode M_Tr_settleSources.2.1 32 = .ok (.aload_n 0, 1) := by decide +kernel
theorem d_Tr_settleSources_33 : decode M_Tr_settleSources.2.1 33 = .ok (.getfield 39, 3) := by decide +kernel
theorem d_Tr_settleSources_36 : decode M_Tr_settleSources.2.1 36 = .ok (.iload_n 1, 1) := by decide +kernel
theorem d_Tr_settleSources_37 : decode M_Tr_settleSources.2.1 37 = .ok (.iload 5, 2) := by decide +kernel
theorem d_Tr_settleSources_39 : decode M_Tr_settleSources.2.1 39 = .ok (.invokevirtual 72, 3) := by decide +kernel
theorem d_Tr_settleSources_42 : decode M_Tr_settleSources.2.1 42 = .ok (.istore 6, 2) := by decide +kernel
theorem d_Tr_settleSources_44 : decode M_Tr_settleSources.2.1 44 = .ok (.aload 4, 2) := by decide +kernel
theorem d_Tr_settleSources_46 : decode M_Tr_settleSources.2.1 46 = .ok (.iload 6, 2) := by decide +kernel
theorem d_Tr_settleSources_48 : decode M_Tr_settleSources.2.1 48 = .ok (.aload_n 0, 1) := by decide +kernel
theorem d_Tr_settleSources_49 : decode M_Tr_settleSources.2.1 49 = .ok (.getfield 25, 3) := by decide +kernel
theorem d_Tr_settleSources_52 : decode M_Tr_settleSources.2.1 52 = .ok (.iload_n 3, 1) := by decide +kernel
theorem d_Tr_settleSources_53 : decode M_Tr_settleSources.2.1 53 = .ok (.aaload, 1) := by decide +kernel
theorem d_Tr_settleSources_54 : decode M_Tr_settleSources.2.1 54 = .ok (.iload 6, 2) := by decide +kernel
theorem d_Tr_settleSources_56 : decode M_Tr_settleSources.2.1 56 = .ok (.iaload, 1) := by decide +kernel
theorem d_Tr_settleSources_57 : decode M_Tr_settleSources.2.1 57 = .ok (.aload_n 0, 1) := by decide +kernel
theorem d_Tr_settleSources_58 : decode M_Tr_settleSources.2.1 58 = .ok (.getfield 31, 3) := by decide +kernel
theorem d_Tr_settleSources_61 : decode M_Tr_settleSources.2.1 61 = .ok (.iload 6, 2) := by decide +kernel
theorem d_Tr_settleSources_63 : decode M_Tr_settleSources.2.1 63 = .ok (.iaload, 1) := by decide +kernel
theorem d_Tr_settleSources_64 : decode M_Tr_settleSources.2.1 64 = .ok (.ior, 1) := by decide +kernel
theorem d_Tr_settleSources_65 : decode M_Tr_settleSources.2.1 65 = .ok (.iastore, 1) := by decide +kernel
theorem d_Tr_settleSources_66 : decode M_Tr_settleSources.2.1 66 = .ok (.aload_n 0, 1) := by decide +kernel
theorem d_Tr_settleSources_67 : decode M_Tr_settleSources.2.1 67 = .ok (.getfield 31, 3) := by decide +kernel
theorem d_Tr_settleSources_70 : decode M_Tr_settleSources.2.1 70 = .ok (.iload 6, 2) := by decide +kernel
theorem d_Tr_settleSources_72 : decode M_Tr_settleSources.2.1 72 = .ok (.iaload, 1) := by decide +kernel
theorem d_Tr_settleSources_73 : decode M_Tr_settleSources.2.1 73 = .ok (.ifCond .ne 24, 3) := by decide +kernel
theorem d_Tr_settleSources_76 : decode M_Tr_settleSources.2.1 76 = .ok (.aload_n 0, 1) := by decide +kernel
theorem d_Tr_settleSources_77 : decode M_Tr_settleSources.2.1 77 = .ok (.getfield 47, 3) := by decide +kernel
theorem d_Tr_settleSources_80 : decode M_Tr_settleSources.2.1 80 = .ok (.iload_n 3, 1) := by decide +kernel
theorem d_Tr_settleSources_81 : decode M_Tr_settleSources.2.1 81 = .ok (.iload 6, 2) := by decide +kernel
theorem d_Tr_settleSources_83 : decode M_Tr_settleSources.2.1 83 = .ok (.invokevirtual 103, 3) := by decide +kernel
theorem d_Tr_settleSources_86 : decode M_Tr_settleSources.2.1 86 = .ok (.ifCond .eq 15, 3) := by decide +kernel
theorem d_Tr_settleSources_89 : decode M_Tr_settleSources.2.1 89 = .ok (.aload 4, 2) := by decide +kernel
theorem d_Tr_settleSources_91 : decode M_Tr_settleSources.2.1 91 = .ok (.iload 6, 2) := by decide +kernel
theorem d_Tr_settleSources_93 : decode M_Tr_settleSources.2.1 93 = .ok (.iaload, 1) := by decide +kernel
theorem d_Tr_settleSources_94 : decode M_Tr_settleSources.2.1 94 = .ok (.ifCond .eq 7, 3) := by decide +kernel
theorem d_Tr_settleSources_97 : decode M_Tr_settleSources.2.1 97 = .ok (.iconst 1, 1) := by decide +kernel
theorem d_Tr_settleSources_98 : decode M_Tr_settleSources.2.1 98 = .ok (.goto 4, 3) := by decide +kernel
theorem d_Tr_settleSources_101 : decode M_Tr_settleSources.2.1 101 = .ok (.iconst 0, 1) := by decide +kernel
theorem d_Tr_settleSources_102 : decode M_Tr_settleSources.2.1 102 = .ok (.istore 7, 2) := by decide +kernel
theorem d_Tr_settleSources_104 : decode M_Tr_settleSources.2.1 104 = .ok (.iload 7, 2) := by decide +kernel
theorem d_Tr_settleSources_106 : decode M_Tr_settleSources.2.1 106 = .ok (.ifCond .eq 16, 3) := by decide +kernel
theorem d_Tr_settleSources_109 : decode M_Tr_settleSources.2.1 109 = .ok (.aload_n 0, 1) := by decide +kernel
theorem d_Tr_settleSources_110 : decode M_Tr_settleSources.2.1 110 = .ok (.getfield 39, 3) := by decide +kernel
theorem d_Tr_settleSources_113 : decode M_Tr_settleSources.2.1 113 = .ok (.iload 6, 2) := by decide +kernel
theorem d_Tr_settleSources_115 : decode M_Tr_settleSources.2.1 115 = .ok (.iload_n 1, 1) := by decide +kernel
theorem d_Tr_settleSources_116 : decode M_Tr_settleSources.2.1 116 = .ok (.invokevirtual 84, 3) := by decide +kernel
theorem d_Tr_settleSources_119 : decode M_Tr_settleSources.2.1 119 = .ok (.goto 4, 3) := by decide +kernel
theorem d_Tr_settleSources_122 : decode M_Tr_settleSources.2.1 122 = .ok (.iconst (-1), 1) := by decide +kernel
theorem d_Tr_settleSources_123 : decode M_Tr_settleSources.2.1 123 = .ok (.istore 8, 2) := by decide +kernel
theorem d_Tr_settleSources_125 : decode M_Tr_settleSources.2.1 125 = .ok (.iload 8, 2) := by decide +kernel
theorem d_Tr_settleSources_127 : decode M_Tr_settleSources.2.1 127 = .ok (.iconst (-1), 1) := by decide +kernel
theorem d_Tr_settleSources_128 : decode M_Tr_settleSources.2.1 128 = .ok (.if_icmp .eq 17, 3) := by decide +kernel
theorem d_Tr_settleSources_131 : decode M_Tr_settleSources.2.1 131 = .ok (.aload_n 0, 1) := by decide +kernel
theorem d_Tr_settleSources_132 : decode M_Tr_settleSources.2.1 132 = .ok (.getfield 31, 3) := by decide +kernel
theorem d_Tr_settleSources_135 : decode M_Tr_settleSources.2.1 135 = .ok (.iload 8, 2) := by decide +kernel
theorem d_Tr_settleSources_137 : decode M_Tr_settleSources.2.1 137 = .ok (.dup2, 1) := by decide +kernel
theorem d_Tr_settleSources_138 : decode M_Tr_settleSources.2.1 138 = .ok (.iaload, 1) := by decide +kernel
theorem d_Tr_settleSources_139 : decode M_Tr_settleSources.2.1 139 = .ok (.iconst 1, 1) := by decide +kernel
theorem d_Tr_settleSources_140 : decode M_Tr_settleSources.2.1 140 = .ok (.iload 6, 2) := by decide +kernel
theorem d_Tr_settleSources_142 : decode M_Tr_settleSources.2.1 142 = .ok (.ishl, 1) := by decide +kernel
theorem d_Tr_settleSources_143 : decode M_Tr_settleSources.2.1 143 = .ok (.ior, 1) := by decide +kernel
theorem d_Tr_settleSources_144 : decode M_Tr_settleSources.2.1 144 = .ok (.iastore, 1) := by decide +kernel
theorem d_Tr_settleSources_145 : decode M_Tr_settleSources.2.1 145 = .ok (.aload_n 0, 1) := by decide +kernel
theorem d_Tr_settleSources_146 : decode M_Tr_settleSources.2.1 146 = .ok (.iconst 2, 1) := by decide +kernel
theorem d_Tr_settleSources_147 : decode M_Tr_settleSources.2.1 147 = .ok (.iload 6, 2) := by decide +kernel
theorem d_Tr_settleSources_149 : decode M_Tr_settleSources.2.1 149 = .ok (.aload_n 0, 1) := by decide +kernel
theorem d_Tr_settleSources_150 : decode M_Tr_settleSources.2.1 150 = .ok (.getfield 22, 3) := by decide +kernel
theorem d_Tr_settleSources_153 : decode M_Tr_settleSources.2.1 153 = .ok (.iload_n 3, 1) := by decide +kernel
theorem d_Tr_settleSources_154 : decode M_Tr_settleSources.2.1 154 = .ok (.aaload, 1) := by decide +kernel
theorem d_Tr_settleSources_155 : decode M_Tr_settleSources.2.1 155 = .ok (.iload 6, 2) := by decide +kernel
theorem d_Tr_settleSources_157 : decode M_Tr_settleSources.2.1 157 = .ok (.iaload, 1) := by decide +kernel
theorem d_Tr_settleSources_158 : decode M_Tr_settleSources.2.1 158 = .ok (.iload 8, 2) := by decide +kernel
theorem d_Tr_settleSources_160 : decode M_Tr_settleSources.2.1 160 = .ok (.invokevirtual 87, 3) := by decide +kernel
theorem d_Tr_settleSources_163 : decode M_Tr_settleSources.2.1 163 = .ok (.aload_n 0, 1) := by decide +kernel
theorem d_Tr_settleSources_164 : decode M_Tr_settleSources.2.1 164 = .ok (.getfield 22, 3) := by decide +kernel
theorem d_Tr_settleSources_167 : decode M_Tr_settleSources.2.1 167 = .ok (.iload_n 3, 1) := by decide +kernel
theorem d_Tr_settleSources_168 : decode M_Tr_settleSources.2.1 168 = .ok (.aaload, 1) := by decide +kernel
theorem d_Tr_settleSources_169 : decode M_Tr_settleSources.2.1 169 = .ok (.iload 6, 2) := by decide +kernel
theorem d_Tr_settleSources_171 : decode M_Tr_settleSources.2.1 171 = .ok (.iload 8, 2) := by decide +kernel
theorem d_Tr_settleSources_173 : decode M_Tr_settleSources.2.1 173 = .ok (.iastore, 1) := by decide +kernel
theorem d_Tr_settleSources_174 : decode M_Tr_settleSources.2.1 174 = .ok (.iinc 5 1, 3) := by decide +kernel
theorem d_Tr_settleSources_177 : decode M_Tr_settleSources.2.1 177 = .ok (.goto (-152), 3) := by decide +kernel
theorem d_Tr_settleSources_180 : decode M_Tr_settleSources.2.1 180 = .ok (.return_, 1) := by decide +kernel
theorem d_MT_distance_0 : decode M_MT_distance.2.1 0 = .ok (.iload_n 1, 1) := by decide +kernel
theorem d_MT_distance_1 : decode M_MT_distance.2.1 1 = .ok (.invokestatic 9, 3) := by decide +kernel
theorem d_MT_distance_4 : decode M_MT_distance.2.1 4 = .ok (.ifCond .eq 22, 3) := by decide +kernel
theorem d_MT_distance_7 : decode M_MT_distance.2.1 7 = .ok (.iload_n 2, 1) := by decide +kernel
theorem d_MT_distance_8 : decode M_MT_distance.2.1 8 = .ok (.invokestatic 9, 3) := by decide +kernel
theorem d_MT_distance_11 : decode M_MT_distance.2.1 11 = .ok (.ifCond .eq 15, 3) := by decide +kernel
theorem d_MT_distance_14 : decode M_MT_distance.2.1 14 = .ok (.aload_n 0, 1) := by decide +kernel
theorem d_MT_distance_15 : decode M_MT_distance.2.1 15 = .ok (.getfield 30, 3) := by decide +kernel
theorem d_MT_distance_18 : decode M_MT_distance.2.1 18 = .ok (.iload_n 1, 1) := by decide +kernel
theorem d_MT_distance_19 : decode M_MT_distance.2.1 19 = .ok (.iload_n 2, 1) := by decide +kernel
theorem d_MT_distance_20 : decode M_MT_distance.2.1 20 = .ok (.invokevirtual 88, 3) := by decide +kernel
theorem d_MT_distance_23 : decode M_MT_distance.2.1 23 = .ok (.ifCond .ne 5, 3) := by decide +kernel
theorem d_MT_distance_26 : decode M_MT_distance.2.1 26 = .ok (.iconst (-1), 1) := by decide +kernel
theorem d_MT_distance_27 : decode M_MT_distance.2.1 27 = .ok (.ireturn, 1) := by decide +kernel
theorem d_MT_distance_28 : decode M_MT_distance.2.1 28 = .ok (.aload_n 0, 1) := by decide +kernel
theorem d_MT_distance_29 : decode M_MT_distance.2.1 29 = .ok (.getfield 30, 3) := by decide +kernel
theorem d_MT_distance_32 : decode M_MT_distance.2.1 32 = .ok (.iload_n 1, 1) := by decide +kernel
theorem d_MT_distance_33 : decode M_MT_distance.2.1 33 = .ok (.iload_n 2, 1) := by decide +kernel
theorem d_MT_distance_34 : decode M_MT_distance.2.1 34 = .ok (.invokevirtual 92, 3) := by decide +kernel
theorem d_MT_distance_37 : decode M_MT_distance.2.1 37 = .ok (.ireturn, 1) := by decide +kernel
theorem d_MT_hop_0 : decode M_MT_hop.2.1 0 = .ok (.iload_n 1, 1) := by decide +kernel
theorem d_MT_hop_1 : decode M_MT_hop.2.1 1 = .ok (.invokestatic 9, 3) := by decide +kernel
theorem d_MT_hop_4 : decode M_MT_hop.2.1 4 = .ok (.ifCond .eq 10, 3) := by decide +kernel
theorem d_MT_hop_7 : decode M_MT_hop.2.1 7 = .ok (.iload_n 2, 1) := by decide +kernel
theorem d_MT_hop_8 : decode M_MT_hop.2.1 8 = .ok (.invokestatic 9, 3) := by decide +kernel
theorem d_MT_hop_11 : decode M_MT_hop.2.1 11 = .ok (.ifCond .ne 5, 3) := by decide +kernel
theorem d_MT_hop_14 : decode M_MT_hop.2.1 14 = .ok (.iconst (-1), 1) := by decide +kernel
theorem d_MT_hop_15 : decode M_MT_hop.2.1 15 = .ok (.ireturn, 1) := by decide +kernel
theorem d_MT_hop_16 : decode M_MT_hop.2.1 16 = .ok (.aload_n 0, 1) := by decide +kernel
theorem d_MT_hop_17 : decode M_MT_hop.2.1 17 = .ok (.getfield 30, 3) := by decide +kernel
theorem d_MT_hop_20 : decode M_MT_hop.2.1 20 = .ok (.iload_n 1, 1) := by decide +kernel
theorem d_MT_hop_21 : decode M_MT_hop.2.1 21 = .ok (.iload_n 2, 1) := by decide +kernel
theorem d_MT_hop_22 : decode M_MT_hop.2.1 22 = .ok (.invokevirtual 95, 3) := by decide +kernel
theorem d_MT_hop_25 : decode M_MT_hop.2.1 25 = .ok (.ireturn, 1) := by decide +kernel
theorem d_MT_join_0 : decode M_MT_join.2.1 0 = .ok (.iload_n 1, 1) := by decide +kernel
theorem d_MT_join_1 : decode M_MT_join.2.1 1 = .ok (.invokestatic 9, 3) := by decide +kernel
theorem d_MT_join_4 : decode M_MT_join.2.1 4 = .ok (.ifCond .eq 30, 3) := by decide +kernel
theorem d_MT_join_7 : decode M_MT_join.2.1 7 = .ok (.iload_n 2, 1) := by decide +kernel
theorem d_MT_join_8 : decode M_MT_join.2.1 8 = .ok (.invokestatic 98, 3) := by decide +kernel
theorem d_MT_join_11 : decode M_MT_join.2.1 11 = .ok (.ifCond .eq 23, 3) := by decide +kernel
theorem d_MT_join_14 : decode M_MT_join.2.1 14 = .ok (.iload_n 3, 1) := by decide +kernel
theorem d_MT_join_15 : decode M_MT_join.2.1 15 = .ok (.invokestatic 101, 3) := by decide +kernel
theorem d_MT_join_18 : decode M_MT_join.2.1 18 = .ok (.ifCond .eq 16, 3) := by decide +kernel
theorem d_MT_join_21 : decode M_MT_join.2.1 21 = .ok (.aload_n 0, 1) := by decide +kernel
theorem d_MT_join_22 : decode M_MT_join.2.1 22 = .ok (.getfield 39, 3) := by decide +kernel
theorem d_MT_join_25 : decode M_MT_join.2.1 25 = .ok (.iload_n 1, 1) := by decide +kernel
theorem d_MT_join_26 : decode M_MT_join.2.1 26 = .ok (.iload_n 2, 1) := by decide +kernel
theorem d_MT_join_27 : decode M_MT_join.2.1 27 = .ok (.iload_n 3, 1) := by decide +kernel
theorem d_MT_join_28 : decode M_MT_join.2.1 28 = .ok (.invokevirtual 104, 3) := by decide +kernel
theorem d_MT_join_31 : decode M_MT_join.2.1 31 = .ok (.ifCond .eq 5, 3) := by decide +kernel
theorem d_MT_join_34 : decode M_MT_join.2.1 34 = .ok (.iconst 0, 1) := by decide +kernel
theorem d_MT_join_35 : decode M_MT_join.2.1 35 = .ok (.ireturn, 1) := by decide +kernel
theorem d_MT_join_36 : decode M_MT_join.2.1 36 = .ok (.aload_n 0, 1) := by decide +kernel
theorem d_MT_join_37 : decode M_MT_join.2.1 37 = .ok (.getfield 39, 3) := by decide +kernel
theorem d_MT_join_40 : decode M_MT_join.2.1 40 = .ok (.iload_n 1, 1) := by decide +kernel
theorem d_MT_join_41 : decode M_MT_join.2.1 41 = .ok (.iload_n 2, 1) := by decide +kernel
theorem d_MT_join_42 : decode M_MT_join.2.1 42 = .ok (.iload_n 3, 1) := by decide +kernel
theorem d_MT_join_43 : decode M_MT_join.2.1 43 = .ok (.invokevirtual 108, 3) := by decide +kernel
theorem d_MT_join_46 : decode M_MT_join.2.1 46 = .ok (.aload_n 0, 1) := by decide +kernel
theorem d_MT_join_47 : decode M_MT_join.2.1 47 = .ok (.getfield 55, 3) := by decide +kernel
theorem d_MT_join_50 : decode M_MT_join.2.1 50 = .ok (.invokevirtual 85, 3) := by decide +kernel
theorem d_MT_join_53 : decode M_MT_join.2.1 53 = .ok (.iconst 1, 1) := by decide +kernel
theorem d_MT_join_54 : decode M_MT_join.2.1 54 = .ok (.ireturn, 1) := by decide +kernel
theorem d_MT_isHost_0 : decode M_MT_isHost.2.1 0 = .ok (.iload_n 0, 1) := by decide +kernel
theorem d_MT_isHost_1 : decode M_MT_isHost.2.1 1 = .ok (.ifCond .lt 12, 3) := by decide +kernel
theorem d_MT_isHost_4 : decode M_MT_isHost.2.1 4 = .ok (.iload_n 0, 1) := by decide +kernel
theorem d_MT_isHost_5 : decode M_MT_isHost.2.1 5 = .ok (.iconst 4, 1) := by decide +kernel
theorem d_MT_isHost_6 : decode M_MT_isHost.2.1 6 = .ok (.if_icmp .ge 7, 3) := by decide +kernel
theorem d_MT_isHost_9 : decode M_MT_isHost.2.1 9 = .ok (.iconst 1, 1) := by decide +kernel
theorem d_MT_isHost_10 : decode M_MT_isHost.2.1 10 = .ok (.goto 4, 3) := by decide +kernel
theorem d_MT_isHost_13 : decode M_MT_isHost.2.1 13 = .ok (.iconst 0, 1) := by decide +kernel
theorem d_MT_isHost_14 : decode M_MT_isHost.2.1 14 = .ok (.ireturn, 1) := by decide +kernel
theorem d_MT_isGroup_0 : decode M_MT_isGroup.2.1 0 = .ok (.iload_n 0, 1) := by decide +kernel
theorem d_MT_isGroup_1 : decode M_MT_isGroup.2.1 1 = .ok (.ifCond .lt 12, 3) := by decide +kernel
theorem d_MT_isGroup_4 : decode M_MT_isGroup.2.1 4 = .ok (.iload_n 0, 1) := by decide +kernel
theorem d_MT_isGroup_5 : decode M_MT_isGroup.2.1 5 = .ok (.iconst 3, 1) := by decide +kernel
theorem d_MT_isGroup_6 : decode M_MT_isGroup.2.1 6 = .ok (.if_icmp .ge 7, 3) := by decide +kernel
theorem d_MT_isGroup_9 : decode M_MT_isGroup.2.1 9 = .ok (.iconst 1, 1) := by decide +kernel
theorem d_MT_isGroup_10 : decode M_MT_isGroup.2.1 10 = .ok (.goto 4, 3) := by decide +kernel
theorem d_MT_isGroup_13 : decode M_MT_isGroup.2.1 13 = .ok (.iconst 0, 1) := by decide +kernel
theorem d_MT_isGroup_14 : decode M_MT_isGroup.2.1 14 = .ok (.ireturn, 1) := by decide +kernel
theorem d_MT_leave_0 : decode M_MT_leave.2.1 0 = .ok (.iload_n 1, 1) := by decide +kernel
theorem d_MT_leave_1 : decode M_MT_leave.2.1 1 = .ok (.invokestatic 9, 3) := by decide +kernel
theorem d_MT_leave_4 : decode M_MT_leave.2.1 4 = .ok (.ifCond .eq 30, 3) := by decide +kernel
theorem d_MT_leave_7 : decode M_MT_leave.2.1 7 = .ok (.iload_n 2, 1) := by decide +kernel
theorem d_MT_leave_8 : decode M_MT_leave.2.1 8 = .ok (.invokestatic 98, 3) := by decide +kernel
theorem d_MT_leave_11 : decode M_MT_leave.2.1 11 = .ok (.ifCond .eq 23, 3) := by decide +kernel
theorem d_MT_leave_14 : decode M_MT_leave.2.1 14 = .ok (.iload_n 3, 1) := by decide +kernel
theorem d_MT_leave_15 : decode M_MT_leave.2.1 15 = .ok (.invokestatic 101, 3) := by decide +kernel
theorem d_MT_leave_18 : decode M_MT_leave.2.1 18 = .ok (.ifCond .eq 16, 3) := by decide +kernel
theorem d_MT_leave_21 : decode M_MT_leave.2.1 21 = .ok (.aload_n 0, 1) := by decide +kernel
theorem d_MT_leave_22 : decode M_MT_leave.2.1 22 = .ok (.getfield 39, 3) := by decide +kernel
theorem d_MT_leave_25 : decode M_MT_leave.2.1 25 = .ok (.iload_n 1, 1) := by decide +kernel
theorem d_MT_leave_26 : decode M_MT_leave.2.1 26 = .ok (.iload_n 2, 1) := by decide +kernel
theorem d_MT_leave_27 : decode M_MT_leave.2.1 27 = .ok (.iload_n 3, 1) := by decide +kernel
theorem d_MT_leave_28 : decode M_MT_leave.2.1 28 = .ok (.invokevirtual 104, 3) := by decide +kernel
theorem d_MT_leave_31 : decode M_MT_leave.2.1 31 = .ok (.ifCond .ne 5, 3) := by decide +kernel
theorem d_MT_leave_34 : decode M_MT_leave.2.1 34 = .ok (.iconst 0, 1) := by decide +kernel
theorem d_MT_leave_35 : decode M_MT_leave.2.1 35 = .ok (.ireturn, 1) := by decide +kernel
theorem d_MT_leave_36 : decode M_MT_leave.2.1 36 = .ok (.aload_n 0, 1) := by decide +kernel
theorem d_MT_leave_37 : decode M_MT_leave.2.1 37 = .ok (.getfield 39, 3) := by decide +kernel
theorem d_MT_leave_40 : decode M_MT_leave.2.1 40 = .ok (.iload_n 1, 1) := by decide +kernel
theorem d_MT_leave_41 : decode M_MT_leave.2.1 41 = .ok (.iload_n 2, 1) := by decide +kernel
theorem d_MT_leave_42 : decode M_MT_leave.2.1 42 = .ok (.iload_n 3, 1) := by decide +kernel
theorem d_MT_leave_43 : decode M_MT_leave.2.1 43 = .ok (.iload 4, 2) := by decide +kernel
theorem d_MT_leave_45 : decode M_MT_leave.2.1 45 = .ok (.invokevirtual 111, 3) := by decide +kernel
theorem d_MT_leave_48 : decode M_MT_leave.2.1 48 = .ok (.aload_n 0, 1) := by decide +kernel
theorem d_MT_leave_49 : decode M_MT_leave.2.1 49 = .ok (.getfield 55, 3) := by decide +kernel
theorem d_MT_leave_52 : decode M_MT_leave.2.1 52 = .ok (.invokevirtual 85, 3) := by decide +kernel
theorem d_MT_leave_55 : decode M_MT_leave.2.1 55 = .ok (.iconst 1, 1) := by decide +kernel
theorem d_MT_leave_56 : decode M_MT_leave.2.1 56 = .ok (.ireturn, 1) := by decide +kernel
theorem d_MT_marked_0 : decode M_MT_marked.2.1 0 = .ok (.iload_n 1, 1) := by decide +kernel
theorem d_MT_marked_1 : decode M_MT_marked.2.1 1 = .ok (.invokestatic 9, 3) := by decide +kernel
theorem d_MT_marked_4 : decode M_MT_marked.2.1 4 = .ok (.ifCond .eq 10, 3) := by decide +kernel
theorem d_MT_marked_7 : decode M_MT_marked.2.1 7 = .ok (.iload_n 2, 1) := by decide +kernel
theorem d_MT_marked_8 : decode M_MT_marked.2.1 8 = .ok (.invokestatic 101, 3) := by decide +kernel
theorem d_MT_marked_11 : decode M_MT_marked.2.1 11 = .ok (.ifCond .ne 5, 3) := by decide +kernel
theorem d_MT_marked_14 : decode M_MT_marked.2.1 14 = .ok (.iconst (-1), 1) := by decide +kernel
theorem d_MT_marked_15 : decode M_MT_marked.2.1 15 = .ok (.ireturn, 1) := by decide +kernel
theorem d_MT_marked_16 : decode M_MT_marked.2.1 16 = .ok (.aload_n 0, 1) := by decide +kernel
theorem d_MT_marked_17 : decode M_MT_marked.2.1 17 = .ok (.getfield 39, 3) := by decide +kernel
theorem d_MT_marked_20 : decode M_MT_marked.2.1 20 = .ok (.iload_n 1, 1) := by decide +kernel
theorem d_MT_marked_21 : decode M_MT_marked.2.1 21 = .ok (.iload_n 2, 1) := by decide +kernel
theorem d_MT_marked_22 : decode M_MT_marked.2.1 22 = .ok (.invokevirtual 115, 3) := by decide +kernel
theorem d_MT_marked_25 : decode M_MT_marked.2.1 25 = .ok (.ireturn, 1) := by decide +kernel
theorem d_MT_pass_0 : decode M_MT_pass.2.1 0 = .ok (.iload_n 1, 1) := by decide +kernel
theorem d_MT_pass_1 : decode M_MT_pass.2.1 1 = .ok (.iconst 1, 1) := by decide +kernel
theorem d_MT_pass_2 : decode M_MT_pass.2.1 2 = .ok (.if_icmp .lt 9, 3) := by decide +kernel
theorem d_MT_pass_5 : decode M_MT_pass.2.1 5 = .ok (.iload_n 1, 1) := by decide +kernel
theorem d_MT_pass_6 : decode M_MT_pass.2.1 6 = .ok (.bipush 10, 2) := by decide +kernel
theorem d_MT_pass_8 : decode M_MT_pass.2.1 8 = .ok (.if_icmp .le 5, 3) := by decide +kernel
theorem d_MT_pass_11 : decode M_MT_pass.2.1 11 = .ok (.iconst 0, 1) := by decide +kernel
theorem d_MT_pass_12 : decode M_MT_pass.2.1 12 = .ok (.ireturn, 1) := by decide +kernel
theorem d_MT_pass_13 : decode M_MT_pass.2.1 13 = .ok (.iconst 0, 1) := by decide +kernel
theorem d_MT_pass_14 : decode M_MT_pass.2.1 14 = .ok (.istore_n 2, 1) := by decide +kernel
theorem d_MT_pass_15 : decode M_MT_pass.2.1 15 = .ok (.iload_n 2, 1) := by decide +kernel
theorem d_MT_pass_16 : decode M_MT_pass.2.1 16 = .ok (.iload_n 1, 1) := by decide +kernel
theorem d_MT_pass_17 : decode M_MT_pass.2.1 17 = .ok (.if_icmp .ge 47, 3) := by decide +kernel
theorem d_MT_pass_20 : decode M_MT_pass.2.1 20 = .ok (.aload_n 0, 1) := by decide +kernel
theorem d_MT_pass_21 : decode M_MT_pass.2.1 21 = .ok (.getfield 16, 3) := by decide +kernel
theorem d_MT_pass_24 : decode M_MT_pass.2.1 24 = .ok (.invokevirtual 118, 3) := by decide +kernel
theorem d_MT_pass_27 : decode M_MT_pass.2.1 27 = .ok (.aload_n 0, 1) := by decide +kernel
theorem d_MT_pass_28 : decode M_MT_pass.2.1 28 = .ok (.getfield 46, 3) := by decide +kernel
theorem d_MT_pass_31 : decode M_MT_pass.2.1 31 = .ok (.invokevirtual 121, 3) := by decide +kernel
theorem d_MT_pass_34 : decode M_MT_pass.2.1 34 = .ok (.aload_n 0, 1) := by decide +kernel
theorem d_MT_pass_35 : decode M_MT_pass.2.1 35 = .ok (.getfield 16, 3) := by decide +kernel
theorem d_MT_pass_38 : decode M_MT_pass.2.1 38 = .ok (.invokevirtual 124, 3) := by decide +kernel
theorem d_MT_pass_41 : decode M_MT_pass.2.1 41 = .ok (.ifCond .eq 10, 3) := by decide +kernel
theorem d_MT_pass_44 : decode M_MT_pass.2.1 44 = .ok (.aload_n 0, 1) := by decide +kernel
theorem d_MT_pass_45 : decode M_MT_pass.2.1 45 = .ok (.getfield 39, 3) := by decide +kernel
theorem d_MT_pass_48 : decode M_MT_pass.2.1 48 = .ok (.invokevirtual 128, 3) := by decide +kernel
theorem d_MT_pass_51 : decode M_MT_pass.2.1 51 = .ok (.aload_n 0, 1) := by decide +kernel
theorem d_MT_pass_52 : decode M_MT_pass.2.1 52 = .ok (.getfield 55, 3) := by decide +kernel
theorem d_MT_pass_55 : decode M_MT_pass.2.1 55 = .ok (.invokevirtual 85, 3) := by decide +kernel
theorem d_MT_pass_58 : decode M_MT_pass.2.1 58 = .ok (.iinc 2 1, 3) := by decide +kernel
theorem d_MT_pass_61 : decode M_MT_pass.2.1 61 = .ok (.goto (-46), 3) := by decide +kernel
theorem d_MT_pass_64 : decode M_MT_pass.2.1 64 = .ok (.iconst 1, 1) := by decide +kernel
theorem d_MT_pass_65 : decode M_MT_pass.2.1 65 = .ok (.ireturn, 1) := by decide +kernel
theorem d_MT_send_0 : decode M_MT_send.2.1 0 = .ok (.iload_n 1, 1) := by decide +kernel
theorem d_MT_send_1 : decode M_MT_send.2.1 1 = .ok (.invokestatic 9, 3) := by decide +kernel
theorem d_MT_send_4 : decode M_MT_send.2.1 4 = .ok (.ifCond .eq 10, 3) := by decide +kernel
theorem d_MT_send_7 : decode M_MT_send.2.1 7 = .ok (.iload_n 2, 1) := by decide +kernel
theorem d_MT_send_8 : decode M_MT_send.2.1 8 = .ok (.invokestatic 101, 3) := by decide +kernel
theorem d_MT_send_11 : decode M_MT_send.2.1 11 = .ok (.ifCond .ne 5, 3) := by decide +kernel
theorem d_MT_send_14 : decode M_MT_send.2.1 14 = .ok (.iconst (-1), 1) := by decide +kernel
theorem d_MT_send_15 : decode M_MT_send.2.1 15 = .ok (.ireturn, 1) := by decide +kernel
theorem d_MT_send_16 : decode M_MT_send.2.1 16 = .ok (.aload_n 0, 1) := by decide +kernel
theorem d_MT_send_17 : decode M_MT_send.2.1 17 = .ok (.getfield 46, 3) := by decide +kernel
theorem d_MT_send_20 : decode M_MT_send.2.1 20 = .ok (.iload_n 1, 1) := by decide +kernel
theorem d_MT_send_21 : decode M_MT_send.2.1 21 = .ok (.iload_n 2, 1) := by decide +kernel
theorem d_MT_send_22 : decode M_MT_send.2.1 22 = .ok (.invokestatic 131, 3) := by decide +kernel
theorem d_MT_send_25 : decode M_MT_send.2.1 25 = .ok (.invokevirtual 134, 3) := by decide +kernel
theorem d_MT_send_28 : decode M_MT_send.2.1 28 = .ok (.ifCond .ne 5, 3) := by decide +kernel
theorem d_MT_send_31 : decode M_MT_send.2.1 31 = .ok (.iconst (-1), 1) := by decide +kernel
theorem d_MT_send_32 : decode M_MT_send.2.1 32 = .ok (.ireturn, 1) := by decide +kernel
theorem d_MT_send_33 : decode M_MT_send.2.1 33 = .ok (.aload_n 0, 1) := by decide +kernel
theorem d_MT_send_34 : decode M_MT_send.2.1 34 = .ok (.getfield 64, 3) := by decide +kernel
theorem d_MT_send_37 : decode M_MT_send.2.1 37 = .ok (.iload_n 1, 1) := by decide +kernel
theorem d_MT_send_38 : decode M_MT_send.2.1 38 = .ok (.iload_n 2, 1) := by decide +kernel
theorem d_MT_send_39 : decode M_MT_send.2.1 39 = .ok (.invokevirtual 137, 3) := by decide +kernel
theorem d_MT_send_42 : decode M_MT_send.2.1 42 = .ok (.aload_n 0, 1) := by decide +kernel
theorem d_MT_send_43 : decode M_MT_send.2.1 43 = .ok (.getfield 55, 3) := by decide +kernel
theorem d_MT_send_46 : decode M_MT_send.2.1 46 = .ok (.invokevirtual 85, 3) := by decide +kernel
theorem d_MT_send_49 : decode M_MT_send.2.1 49 = .ok (.aload_n 0, 1) := by decide +kernel
theorem d_MT_send_50 : decode M_MT_send.2.1 50 = .ok (.getfield 64, 3) := by decide +kernel
theorem d_MT_send_53 : decode M_MT_send.2.1 53 = .ok (.invokevirtual 141, 3) := by decide +kernel
theorem d_MT_send_56 : decode M_MT_send.2.1 56 = .ok (.invokestatic 145, 3) := by decide +kernel
theorem d_MT_send_59 : decode M_MT_send.2.1 59 = .ok (.ireturn, 1) := by decide +kernel
theorem d_Pa_dispatch_0 : decode M_Pa_dispatch.2.1 0 = .ok (.iload_n 1, 1) := by decide +kernel
theorem d_Pa_dispatch_1 : decode M_Pa_dispatch.2.1 1 = .ok (.iload_n 2, 1) := by decide +kernel
theorem d_Pa_dispatch_2 : decode M_Pa_dispatch.2.1 2 = .ok (.invokestatic 54, 3) := by decide +kernel
theorem d_Pa_dispatch_5 : decode M_Pa_dispatch.2.1 5 = .ok (.istore_n 3, 1) := by decide +kernel
theorem d_Pa_dispatch_6 : decode M_Pa_dispatch.2.1 6 = .ok (.aload_n 0, 1) := by decide +kernel
theorem d_Pa_dispatch_7 : decode M_Pa_dispatch.2.1 7 = .ok (.iconst 0, 1) := by decide +kernel
theorem d_Pa_dispatch_8 : decode M_Pa_dispatch.2.1 8 = .ok (.putfield 18, 3) := by decide +kernel
theorem d_Pa_dispatch_11 : decode M_Pa_dispatch.2.1 11 = .ok (.aload_n 0, 1) := by decide +kernel
theorem d_Pa_dispatch_12 : decode M_Pa_dispatch.2.1 12 = .ok (.iconst 0, 1) := by decide +kernel
theorem d_Pa_dispatch_13 : decode M_Pa_dispatch.2.1 13 = .ok (.putfield 22, 3) := by decide +kernel
theorem d_Pa_dispatch_16 : decode M_Pa_dispatch.2.1 16 = .ok (.aload_n 0, 1) := by decide +kernel
theorem d_Pa_dispatch_17 : decode M_Pa_dispatch.2.1 17 = .ok (.iconst 0, 1) := by decide +kernel
theorem d_Pa_dispatch_18 : decode M_Pa_dispatch.2.1 18 = .ok (.putfield 25, 3) := by decide +kernel
theorem d_Pa_dispatch_21 : decode M_Pa_dispatch.2.1 21 = .ok (.aload_n 0, 1) := by decide +kernel
theorem d_Pa_dispatch_22 : decode M_Pa_dispatch.2.1 22 = .ok (.aload_n 0, 1) := by decide +kernel
theorem d_Pa_dispatch_23 : decode M_Pa_dispatch.2.1 23 = .ok (.getfield 38, 3) := by decide +kernel
theorem d_Pa_dispatch_26 : decode M_Pa_dispatch.2.1 26 = .ok (.iload_n 1, 1) := by decide +kernel
theorem d_Pa_dispatch_27 : decode M_Pa_dispatch.2.1 27 = .ok (.iload_n 2, 1) := by decide +kernel
theorem d_Pa_dispatch_28 : decode M_Pa_dispatch.2.1 28 = .ok (.invokevirtual 58, 3) := by decide +kernel
theorem d_Pa_dispatch_31 : decode M_Pa_dispatch.2.1 31 = .ok (.ifCond .eq 9, 3) := by decide +kernel
theorem d_Pa_dispatch_34 : decode M_Pa_dispatch.2.1 34 = .ok (.iconst 1, 1) := by decide +kernel
theorem d_Pa_dispatch_35 : decode M_Pa_dispatch.2.1 35 = .ok (.iload_n 1, 1) := by decide +kernel
theorem d_Pa_dispatch_36 : decode M_Pa_dispatch.2.1 36 = .ok (.ishl, 1) := by decide +kernel
theorem d_Pa_dispatch_37 : decode M_Pa_dispatch.2.1 37 = .ok (.goto 4, 3) := by decide +kernel
theorem d_Pa_dispatch_40 : decode M_Pa_dispatch.2.1 40 = .ok (.iconst 0, 1) := by decide +kernel
theorem d_Pa_dispatch_41 : decode M_Pa_dispatch.2.1 41 = .ok (.putfield 28, 3) := by decide +kernel
theorem d_Pa_dispatch_44 : decode M_Pa_dispatch.2.1 44 = .ok (.aload_n 0, 1) := by decide +kernel
theorem d_Pa_dispatch_45 : decode M_Pa_dispatch.2.1 45 = .ok (.iload_n 3, 1) := by decide +kernel
theorem d_Pa_dispatch_46 : decode M_Pa_dispatch.2.1 46 = .ok (.iload_n 1, 1) := by decide +kernel
theorem d_Pa_dispatch_47 : decode M_Pa_dispatch.2.1 47 = .ok (.invokevirtual 64, 3) := by decide +kernel
theorem d_Pa_dispatch_50 : decode M_Pa_dispatch.2.1 50 = .ok (.aload_n 0, 1) := by decide +kernel
theorem d_Pa_dispatch_51 : decode M_Pa_dispatch.2.1 51 = .ok (.iload_n 3, 1) := by decide +kernel
theorem d_Pa_dispatch_52 : decode M_Pa_dispatch.2.1 52 = .ok (.iload_n 1, 1) := by decide +kernel
theorem d_Pa_dispatch_53 : decode M_Pa_dispatch.2.1 53 = .ok (.invokevirtual 68, 3) := by decide +kernel
theorem d_Pa_dispatch_56 : decode M_Pa_dispatch.2.1 56 = .ok (.istore 4, 2) := by decide +kernel
theorem d_Pa_dispatch_58 : decode M_Pa_dispatch.2.1 58 = .ok (.aload_n 0, 1) := by decide +kernel
theorem d_Pa_dispatch_59 : decode M_Pa_dispatch.2.1 59 = .ok (.getfield 46, 3) := by decide +kernel
theorem d_Pa_dispatch_62 : decode M_Pa_dispatch.2.1 62 = .ok (.iload_n 3, 1) := by decide +kernel
theorem d_Pa_dispatch_63 : decode M_Pa_dispatch.2.1 63 = .ok (.iload_n 1, 1) := by decide +kernel
theorem d_Pa_dispatch_64 : decode M_Pa_dispatch.2.1 64 = .ok (.invokevirtual 71, 3) := by decide +kernel
theorem d_Pa_dispatch_67 : decode M_Pa_dispatch.2.1 67 = .ok (.ifCond .eq 9, 3) := by decide +kernel
theorem d_Pa_dispatch_70 : decode M_Pa_dispatch.2.1 70 = .ok (.aload_n 0, 1) := by decide +kernel
theorem d_Pa_dispatch_71 : decode M_Pa_dispatch.2.1 71 = .ok (.iload_n 1, 1) := by decide +kernel
theorem d_Pa_dispatch_72 : decode M_Pa_dispatch.2.1 72 = .ok (.iconst (-1), 1) := by decide +kernel
theorem d_Pa_dispatch_73 : decode M_Pa_dispatch.2.1 73 = .ok (.invokevirtual 76, 3) := by decide +kernel
theorem d_Pa_dispatch_76 : decode M_Pa_dispatch.2.1 76 = .ok (.aload_n 0, 1) := by decide +kernel
theorem d_Pa_dispatch_77 : decode M_Pa_dispatch.2.1 77 = .ok (.getfield 46, 3) := by decide +kernel
theorem d_Pa_dispatch_80 : decode M_Pa_dispatch.2.1 80 = .ok (.invokevirtual 79, 3) := by decide +kernel
theorem d_Pa_dispatch_83 : decode M_Pa_dispatch.2.1 83 = .ok (.istore 5, 2) := by decide +kernel
theorem d_Pa_dispatch_85 : decode M_Pa_dispatch.2.1 85 = .ok (.iload 4, 2) := by decide +kernel
theorem d_Pa_dispatch_87 : decode M_Pa_dispatch.2.1 87 = .ok (.ifCond .eq 23, 3) := by decide +kernel
theorem d_Pa_dispatch_90 : decode M_Pa_dispatch.2.1 90 = .ok (.aload_n 0, 1) := by decide +kernel
theorem d_Pa_dispatch_91 : decode M_Pa_dispatch.2.1 91 = .ok (.getfield 42, 3) := by decide +kernel
theorem d_Pa_dispatch_94 : decode M_Pa_dispatch.2.1 94 = .ok (.iload_n 3, 1) := by decide +kernel
theorem d_Pa_dispatch_95 : decode M_Pa_dispatch.2.1 95 = .ok (.iload 5, 2) := by decide +kernel
theorem d_Pa_dispatch_97 : decode M_Pa_dispatch.2.1 97 = .ok (.invokevirtual 83, 3) := by decide +kernel
theorem d_Pa_dispatch_100 : decode M_Pa_dispatch.2.1 100 = .ok (.ifCond .ne 10, 3) := by decide +kernel
theorem d_Pa_dispatch_103 : decode M_Pa_dispatch.2.1 103 = .ok (.aload_n 0, 1) := by decide +kernel
theorem d_Pa_dispatch_104 : decode M_Pa_dispatch.2.1 104 = .ok (.iload 5, 2) := by decide +kernel
theorem d_Pa_dispatch_106 : decode M_Pa_dispatch.2.1 106 = .ok (.iconst (-1), 1) := by decide +kernel
theorem d_Pa_dispatch_107 : decode M_Pa_dispatch.2.1 107 = .ok (.invokevirtual 76, 3) := by decide +kernel
theorem d_Pa_dispatch_110 : decode M_Pa_dispatch.2.1 110 = .ok (.iconst 0, 1) := by decide +kernel
theorem d_Pa_dispatch_111 : decode M_Pa_dispatch.2.1 111 = .ok (.istore 6, 2) := by decide +kernel
theorem d_Pa_dispatch_113 : decode M_Pa_dispatch.2.1 113 = .ok (.iload 6, 2) := by decide +kernel
theorem d_Pa_dispatch_115 : decode M_Pa_dispatch.2.1 115 = .ok (.bipush 6, 2) := by decide +kernel
theorem d_Pa_dispatch_117 : decode M_Pa_dispatch.2.1 117 = .ok (.if_icmp .ge 26, 3) := by decide +kernel
theorem d_Pa_dispatch_120 : decode M_Pa_dispatch.2.1 120 = .ok (.iload 6, 2) := by decide +kernel
theorem d_Pa_dispatch_122 : decode M_Pa_dispatch.2.1 122 = .ok (.aload_n 0, 1) := by decide +kernel
theorem d_Pa_dispatch_123 : decode M_Pa_dispatch.2.1 123 = .ok (.getfield 18, 3) := by decide +kernel
theorem d_Pa_dispatch_126 : decode M_Pa_dispatch.2.1 126 = .ok (.if_icmp .ge 17, 3) := by decide +kernel
theorem d_Pa_dispatch_129 : decode M_Pa_dispatch.2.1 129 = .ok (.aload_n 0, 1) := by decide +kernel
theorem d_Pa_dispatch_130 : decode M_Pa_dispatch.2.1 130 = .ok (.iload_n 3, 1) := by decide +kernel
theorem d_Pa_dispatch_131 : decode M_Pa_dispatch.2.1 131 = .ok (.iload_n 1, 1) := by decide +kernel
theorem d_Pa_dispatch_132 : decode M_Pa_dispatch.2.1 132 = .ok (.iload 6, 2) := by decide +kernel
theorem d_Pa_dispatch_134 : decode M_Pa_dispatch.2.1 134 = .ok (.invokevirtual 88, 3) := by decide +kernel
theorem d_Pa_dispatch_137 : decode M_Pa_dispatch.2.1 137 = .ok (.iinc 6 1, 3) := by decide +kernel
theorem d_Pa_dispatch_140 : decode M_Pa_dispatch.2.1 140 = .ok (.goto (-27), 3) := by decide +kernel
theorem d_Pa_dispatch_143 : decode M_Pa_dispatch.2.1 143 = .ok (.aload_n 0, 1) := by decide +kernel
theorem d_Pa_dispatch_144 : decode M_Pa_dispatch.2.1 144 = .ok (.iload_n 3, 1) := by decide +kernel
theorem d_Pa_dispatch_145 : decode M_Pa_dispatch.2.1 145 = .ok (.iload_n 2, 1) := by decide +kernel
theorem d_Pa_dispatch_146 : decode M_Pa_dispatch.2.1 146 = .ok (.invokevirtual 92, 3) := by decide +kernel
theorem d_Pa_dispatch_149 : decode M_Pa_dispatch.2.1 149 = .ok (.aload_n 0, 1) := by decide +kernel
theorem d_Pa_dispatch_150 : decode M_Pa_dispatch.2.1 150 = .ok (.invokevirtual 95, 3) := by decide +kernel
theorem d_Pa_dispatch_153 : decode M_Pa_dispatch.2.1 153 = .ok (.return_, 1) := by decide +kernel
theorem d_Pa_switchJoined_0 : decode M_Pa_switchJoined.2.1 0 = .ok (.aload_n 0, 1) := by decide +kernel
theorem d_Pa_switchJoined_1 : decode M_Pa_switchJoined.2.1 1 = .ok (.getfield 42, 3) := by decide +kernel
theorem d_Pa_switchJoined_4 : decode M_Pa_switchJoined.2.1 4 = .ok (.iload_n 1, 1) := by decide +kernel
theorem d_Pa_switchJoined_5 : decode M_Pa_switchJoined.2.1 5 = .ok (.iload_n 2, 1) := by decide +kernel
theorem d_Pa_switchJoined_6 : decode M_Pa_switchJoined.2.1 6 = .ok (.invokevirtual 98, 3) := by decide +kernel
theorem d_Pa_switchJoined_9 : decode M_Pa_switchJoined.2.1 9 = .ok (.aload_n 0, 1) := by decide +kernel
theorem d_Pa_switchJoined_10 : decode M_Pa_switchJoined.2.1 10 = .ok (.getfield 46, 3) := by decide +kernel
theorem d_Pa_switchJoined_13 : decode M_Pa_switchJoined.2.1 13 = .ok (.iload_n 1, 1) := by decide +kernel
theorem d_Pa_switchJoined_14 : decode M_Pa_switchJoined.2.1 14 = .ok (.iload_n 2, 1) := by decide +kernel
theorem d_Pa_switchJoined_15 : decode M_Pa_switchJoined.2.1 15 = .ok (.invokevirtual 71, 3) := by decide +kernel
theorem d_Pa_switchJoined_18 : decode M_Pa_switchJoined.2.1 18 = .ok (.ifCond .eq 12, 3) := by decide +kernel
theorem d_Pa_switchJoined_21 : decode M_Pa_switchJoined.2.1 21 = .ok (.aload_n 0, 1) := by decide +kernel
theorem d_Pa_switchJoined_22 : decode M_Pa_switchJoined.2.1 22 = .ok (.getfield 42, 3) := by decide +kernel
theorem d_Pa_switchJoined_25 : decode M_Pa_switchJoined.2.1 25 = .ok (.iload_n 1, 1) := by decide +kernel
theorem d_Pa_switchJoined_26 : decode M_Pa_switchJoined.2.1 26 = .ok (.iload_n 2, 1) := by decide +kernel
theorem d_Pa_switchJoined_27 : decode M_Pa_switchJoined.2.1 27 = .ok (.invokevirtual 101, 3) := by decide +kernel
theorem d_Pa_switchJoined_30 : decode M_Pa_switchJoined.2.1 30 = .ok (.iconst 0, 1) := by decide +kernel
theorem d_Pa_switchJoined_31 : decode M_Pa_switchJoined.2.1 31 = .ok (.istore_n 3, 1) := by decide +kernel
theorem d_Pa_switchJoined_32 : decode M_Pa_switchJoined.2.1 32 = .ok (.iload_n 3, 1) := by decide +kernel
theorem d_Pa_switchJoined_33 : decode M_Pa_switchJoined.2.1 33 = .ok (.bipush 6, 2) := by decide +kernel
theorem d_Pa_switchJoined_35 : decode M_Pa_switchJoined.2.1 35 = .ok (.if_icmp .ge 31, 3) := by decide +kernel
theorem d_Pa_switchJoined_38 : decode M_Pa_switchJoined.2.1 38 = .ok (.aload_n 0, 1) := by decide +kernel
theorem d_Pa_switchJoined_39 : decode M_Pa_switchJoined.2.1 39 = .ok (.getfield 46, 3) := by decide +kernel
theorem d_Pa_switchJoined_42 : decode M_Pa_switchJoined.2.1 42 = .ok (.iload_n 1, 1) := by decide +kernel
theorem d_Pa_switchJoined_43 : decode M_Pa_switchJoined.2.1 43 = .ok (.iload_n 3, 1) := by decide +kernel
theorem d_Pa_switchJoined_44 : decode M_Pa_switchJoined.2.1 44 = .ok (.invokevirtual 104, 3) := by decide +kernel
theorem d_Pa_switchJoined_47 : decode M_Pa_switchJoined.2.1 47 = .ok (.iconst (-1), 1) := by decide +kernel
theorem d_Pa_switchJoined_48 : decode M_Pa_switchJoined.2.1 48 = .ok (.if_icmp .eq 12, 3) := by decide +kernel
theorem d_Pa_switchJoined_51 : decode M_Pa_switchJoined.2.1 51 = .ok (.aload_n 0, 1) := by decide +kernel
theorem d_Pa_switchJoined_52 : decode M_Pa_switchJoined.2.1 52 = .ok (.getfield 42, 3) := by decide +kernel
theorem d_Pa_switchJoined_55 : decode M_Pa_switchJoined.2.1 55 = .ok (.iload_n 1, 1) := by decide +kernel
theorem d_Pa_switchJoined_56 : decode M_Pa_switchJoined.2.1 56 = .ok (.iload_n 3, 1) := by decide +kernel
theorem d_Pa_switchJoined_57 : decode M_Pa_switchJoined.2.1 57 = .ok (.invokevirtual 101, 3) := by decide +kernel
theorem d_Pa_switchJoined_60 : decode M_Pa_switchJoined.2.1 60 = .ok (.iinc 3 1, 3) := by decide +kernel
theorem d_Pa_switchJoined_63 : decode M_Pa_switchJoined.2.1 63 = .ok (.goto (-31), 3) := by decide +kernel
theorem d_Pa_switchJoined_66 : decode M_Pa_switchJoined.2.1 66 = .ok (.return_, 1) := by decide +kernel
theorem d_Tr_outerList_0 : decode M_Tr_outerList.2.1 0 = .ok (.aload_n 0, 1) := by decide +kernel
theorem d_Tr_outerList_1 : decode M_Tr_outerList.2.1 1 = .ok (.getfield 28, 3) := by decide +kernel
theorem d_Tr_outerList_4 : decode M_Tr_outerList.2.1 4 = .ok (.iload_n 1, 1) := by decide +kernel
theorem d_Tr_outerList_5 : decode M_Tr_outerList.2.1 5 = .ok (.aaload, 1) := by decide +kernel
theorem d_Tr_outerList_6 : decode M_Tr_outerList.2.1 6 = .ok (.iload_n 2, 1) := by decide +kernel
theorem d_Tr_outerList_7 : decode M_Tr_outerList.2.1 7 = .ok (.iaload, 1) := by decide +kernel
theorem d_Tr_outerList_8 : decode M_Tr_outerList.2.1 8 = .ok (.ireturn, 1) := by decide +kernel
theorem d_Tr_sourceJoinOf_0 : decode M_Tr_sourceJoinOf.2.1 0 = .ok (.aload_n 0, 1) := by decide +kernel
theorem d_Tr_sourceJoinOf_1 : decode M_Tr_sourceJoinOf.2.1 1 = .ok (.getfield 22, 3) := by decide +kernel
theorem d_Tr_sourceJoinOf_4 : decode M_Tr_sourceJoinOf.2.1 4 = .ok (.iload_n 1, 1) := by decide +kernel
theorem d_Tr_sourceJoinOf_5 : decode M_Tr_sourceJoinOf.2.1 5 = .ok (.aaload, 1) := by decide +kernel
theorem d_Tr_sourceJoinOf_6 : decode M_Tr_sourceJoinOf.2.1 6 = .ok (.iload_n 2, 1) := by decide +kernel
theorem d_Tr_sourceJoinOf_7 : decode M_Tr_sourceJoinOf.2.1 7 = .ok (.iaload, 1) := by decide +kernel
theorem d_Tr_sourceJoinOf_8 : decode M_Tr_sourceJoinOf.2.1 8 = .ok (.ireturn, 1) := by decide +kernel
theorem d_Pa_register_0 : decode M_Pa_register.2.1 0 = .ok (.aload_n 0, 1) := by decide +kernel
theorem d_Pa_register_1 : decode M_Pa_register.2.1 1 = .ok (.getfield 46, 3) := by decide +kernel
theorem d_Pa_register_4 : decode M_Pa_register.2.1 4 = .ok (.invokevirtual 79, 3) := by decide +kernel
theorem d_Pa_register_7 : decode M_Pa_register.2.1 7 = .ok (.istore_n 3, 1) := by decide +kernel
theorem d_Pa_register_8 : decode M_Pa_register.2.1 8 = .ok (.iload_n 2, 1) := by decide +kernel
theorem d_Pa_register_9 : decode M_Pa_register.2.1 9 = .ok (.iload_n 3, 1) := by decide +kernel
theorem d_Pa_register_10 : decode M_Pa_register.2.1 10 = .ok (.if_icmp .eq 26, 3) := by decide +kernel
theorem d_Pa_register_13 : decode M_Pa_register.2.1 13 = .ok (.aload_n 0, 1) := by decide +kernel
theorem d_Pa_register_14 : decode M_Pa_register.2.1 14 = .ok (.getfield 34, 3) := by decide +kernel
theorem d_Pa_register_17 : decode M_Pa_register.2.1 17 = .ok (.iload_n 2, 1) := by decide +kernel
theorem d_Pa_register_18 : decode M_Pa_register.2.1 18 = .ok (.iload_n 3, 1) := by decide +kernel
theorem d_Pa_register_19 : decode M_Pa_register.2.1 19 = .ok (.invokevirtual 107, 3) := by decide +kernel
theorem d_Pa_register_22 : decode M_Pa_register.2.1 22 = .ok (.ifCond .eq 14, 3) := by decide +kernel
theorem d_Pa_register_25 : decode M_Pa_register.2.1 25 = .ok (.aload_n 0, 1) := by decide +kernel
theorem d_Pa_register_26 : decode M_Pa_register.2.1 26 = .ok (.getfield 42, 3) := by decide +kernel
theorem d_Pa_register_29 : decode M_Pa_register.2.1 29 = .ok (.iload_n 1, 1) := by decide +kernel
theorem d_Pa_register_30 : decode M_Pa_register.2.1 30 = .ok (.invokevirtual 112, 3) := by decide +kernel
theorem d_Pa_register_33 : decode M_Pa_register.2.1 33 = .ok (.ifCond .eq 5, 3) := by decide +kernel
theorem d_Pa_register_36 : decode M_Pa_register.2.1 36 = .ok (.iconst 0, 1) := by decide +kernel
theorem d_Pa_register_37 : decode M_Pa_register.2.1 37 = .ok (.ireturn, 1) := by decide +kernel
theorem d_Pa_register_38 : decode M_Pa_register.2.1 38 = .ok (.aload_n 0, 1) := by decide +kernel
theorem d_Pa_register_39 : decode M_Pa_register.2.1 39 = .ok (.getfield 50, 3) := by decide +kernel
theorem d_Pa_register_42 : decode M_Pa_register.2.1 42 = .ok (.bipush 6, 2) := by decide +kernel
theorem d_Pa_register_44 : decode M_Pa_register.2.1 44 = .ok (.invokevirtual 116, 3) := by decide +kernel
theorem d_Pa_register_47 : decode M_Pa_register.2.1 47 = .ok (.aload_n 0, 1) := by decide +kernel
theorem d_Pa_register_48 : decode M_Pa_register.2.1 48 = .ok (.getfield 42, 3) := by decide +kernel
theorem d_Pa_register_51 : decode M_Pa_register.2.1 51 = .ok (.iload_n 1, 1) := by decide +kernel
theorem d_Pa_register_52 : decode M_Pa_register.2.1 52 = .ok (.iload_n 3, 1) := by decide +kernel
theorem d_Pa_register_53 : decode M_Pa_register.2.1 53 = .ok (.invokevirtual 98, 3) := by decide +kernel
theorem d_Pa_register_56 : decode M_Pa_register.2.1 56 = .ok (.aload_n 0, 1) := by decide +kernel
theorem d_Pa_register_57 : decode M_Pa_register.2.1 57 = .ok (.getfield 42, 3) := by decide +kernel
theorem d_Pa_register_60 : decode M_Pa_register.2.1 60 = .ok (.iload_n 1, 1) := by decide +kernel
theorem d_Pa_register_61 : decode M_Pa_register.2.1 61 = .ok (.iload_n 3, 1) := by decide +kernel
theorem d_Pa_register_62 : decode M_Pa_register.2.1 62 = .ok (.invokevirtual 83, 3) := by decide +kernel
theorem d_Pa_register_65 : decode M_Pa_register.2.1 65 = .ok (.ifCond .ne 15, 3) := by decide +kernel
theorem d_Pa_register_68 : decode M_Pa_register.2.1 68 = .ok (.aload_n 0, 1) := by decide +kernel
theorem d_Pa_register_69 : decode M_Pa_register.2.1 69 = .ok (.getfield 46, 3) := by decide +kernel
theorem d_Pa_register_72 : decode M_Pa_register.2.1 72 = .ok (.iload_n 1, 1) := by decide +kernel
theorem d_Pa_register_73 : decode M_Pa_register.2.1 73 = .ok (.iload_n 3, 1) := by decide +kernel
theorem d_Pa_register_74 : decode M_Pa_register.2.1 74 = .ok (.invokevirtual 71, 3) := by decide +kernel
theorem d_Pa_register_77 : decode M_Pa_register.2.1 77 = .ok (.ifCond .ne 20, 3) := by decide +kernel
theorem d_Pa_register_80 : decode M_Pa_register.2.1 80 = .ok (.aload_n 0, 1) := by decide +kernel
theorem d_Pa_register_81 : decode M_Pa_register.2.1 81 = .ok (.getfield 50, 3) := by decide +kernel
theorem d_Pa_register_84 : decode M_Pa_register.2.1 84 = .ok (.bipush 7, 2) := by decide +kernel
theorem d_Pa_register_86 : decode M_Pa_register.2.1 86 = .ok (.invokevirtual 116, 3) := by decide +kernel
theorem d_Pa_register_89 : decode M_Pa_register.2.1 89 = .ok (.aload_n 0, 1) := by decide +kernel
theorem d_Pa_register_90 : decode M_Pa_register.2.1 90 = .ok (.getfield 42, 3) := by decide +kernel
theorem d_Pa_register_93 : decode M_Pa_register.2.1 93 = .ok (.iload_n 1, 1) := by decide +kernel
theorem d_Pa_register_94 : decode M_Pa_register.2.1 94 = .ok (.invokevirtual 122, 3) := by decide +kernel
theorem d_Pa_register_97 : decode M_Pa_register.2.1 97 = .ok (.iconst 1, 1) := by decide +kernel
theorem d_Pa_register_98 : decode M_Pa_register.2.1 98 = .ok (.ireturn, 1) := by decide +kernel
theorem d_Tr_meetingPoint_0 : decode M_Tr_meetingPoint.2.1 0 = .ok (.aload_n 0, 1) := by decide +kernel
theorem d_Tr_meetingPoint_1 : decode M_Tr_meetingPoint.2.1 1 = .ok (.getfield 35, 3) := by decide +kernel
theorem d_Tr_meetingPoint_4 : decode M_Tr_meetingPoint.2.1 4 = .ok (.ireturn, 1) := by decide +kernel
theorem d_Pa_carry_0 : decode M_Pa_carry.2.1 0 = .ok (.aload_n 0, 1) := by decide +kernel
theorem d_Pa_carry_1 : decode M_Pa_carry.2.1 1 = .ok (.getfield 18, 3) := by decide +kernel
theorem d_Pa_carry_4 : decode M_Pa_carry.2.1 4 = .ok (.bipush 6, 2) := by decide +kernel
theorem d_Pa_carry_6 : decode M_Pa_carry.2.1 6 = .ok (.if_icmp .lt 4, 3) := by decide +kernel
theorem d_Pa_carry_9 : decode M_Pa_carry.2.1 9 = .ok (.return_, 1) := by decide +kernel
theorem d_Pa_carry_10 : decode M_Pa_carry.2.1 10 = .ok (.aload_n 0, 1) := by decide +kernel
theorem d_Pa_carry_11 : decode M_Pa_carry.2.1 11 = .ok (.getfield 9, 3) := by decide +kernel
theorem d_Pa_carry_14 : decode M_Pa_carry.2.1 14 = .ok (.aload_n 0, 1) := by decide +kernel
theorem d_Pa_carry_15 : decode M_Pa_carry.2.1 15 = .ok (.getfield 18, 3) := by decide +kernel
theorem d_Pa_carry_18 : decode M_Pa_carry.2.1 18 = .ok (.iload_n 1, 1) := by decide +kernel
theorem d_Pa_carry_19 : decode M_Pa_carry.2.1 19 = .ok (.iastore, 1) := by decide +kernel
theorem d_Pa_carry_20 : decode M_Pa_carry.2.1 20 = .ok (.aload_n 0, 1) := by decide +kernel
theorem d_Pa_carry_21 : decode M_Pa_carry.2.1 21 = .ok (.getfield 15, 3) := by decide +kernel
theorem d_Pa_carry_24 : decode M_Pa_carry.2.1 24 = .ok (.aload_n 0, 1) := by decide +kernel
theorem d_Pa_carry_25 : decode M_Pa_carry.2.1 25 = .ok (.getfield 18, 3) := by decide +kernel
theorem d_Pa_carry_28 : decode M_Pa_carry.2.1 28 = .ok (.iload_n 2, 1) := by decide +kernel
theorem d_Pa_carry_29 : decode M_Pa_carry.2.1 29 = .ok (.iastore, 1) := by decide +kernel
theorem d_Pa_carry_30 : decode M_Pa_carry.2.1 30 = .ok (.aload_n 0, 1) := by decide +kernel
theorem d_Pa_carry_31 : decode M_Pa_carry.2.1 31 = .ok (.dup, 1) := by decide +kernel
theorem d_Pa_carry_32 : decode M_Pa_carry.2.1 32 = .ok (.getfield 18, 3) := by decide +kernel
theorem d_Pa_carry_35 : decode M_Pa_carry.2.1 35 = .ok (.iconst 1, 1) := by decide +kernel
theorem d_Pa_carry_36 : decode M_Pa_carry.2.1 36 = .ok (.iadd, 1) := by decide +kernel
theorem d_Pa_carry_37 : decode M_Pa_carry.2.1 37 = .ok (.putfield 18, 3) := by decide +kernel
theorem d_Pa_carry_40 : decode M_Pa_carry.2.1 40 = .ok (.return_, 1) := by decide +kernel
theorem d_Pa_putOut_0 : decode M_Pa_putOut.2.1 0 = .ok (.aload_n 0, 1) := by decide +kernel
theorem d_Pa_putOut_1 : decode M_Pa_putOut.2.1 1 = .ok (.getfield 9, 3) := by decide +kernel
theorem d_Pa_putOut_4 : decode M_Pa_putOut.2.1 4 = .ok (.iload_n 3, 1) := by decide +kernel
theorem d_Pa_putOut_5 : decode M_Pa_putOut.2.1 5 = .ok (.iaload, 1) := by decide +kernel
theorem d_Pa_putOut_6 : decode M_Pa_putOut.2.1 6 = .ok (.istore 4, 2) := by decide +kernel
theorem d_Pa_putOut_8 : decode M_Pa_putOut.2.1 8 = .ok (.aload_n 0, 1) := by decide +kernel
theorem d_Pa_putOut_9 : decode M_Pa_putOut.2.1 9 = .ok (.getfield 42, 3) := by decide +kernel
theorem d_Pa_putOut_12 : decode M_Pa_putOut.2.1 12 = .ok (.iload_n 1, 1) := by decide +kernel
theorem d_Pa_putOut_13 : decode M_Pa_putOut.2.1 13 = .ok (.iload 4, 2) := by decide +kernel
theorem d_Pa_putOut_15 : decode M_Pa_putOut.2.1 15 = .ok (.invokevirtual 83, 3) := by decide +kernel
theorem d_Pa_putOut_18 : decode M_Pa_putOut.2.1 18 = .ok (.ifCond .eq 16, 3) := by decide +kernel
theorem d_Pa_putOut_21 : decode M_Pa_putOut.2.1 21 = .ok (.aload_n 0, 1) := by decide +kernel
theorem d_Pa_putOut_22 : decode M_Pa_putOut.2.1 22 = .ok (.getfield 46, 3) := by decide +kernel
theorem d_Pa_putOut_25 : decode M_Pa_putOut.2.1 25 = .ok (.iload_n 1, 1) := by decide +kernel
theorem d_Pa_putOut_26 : decode M_Pa_putOut.2.1 26 = .ok (.iload 4, 2) := by decide +kernel
theorem d_Pa_putOut_28 : decode M_Pa_putOut.2.1 28 = .ok (.invokevirtual 71, 3) := by decide +kernel
theorem d_Pa_putOut_31 : decode M_Pa_putOut.2.1 31 = .ok (.goto 13, 3) := by decide +kernel
theorem d_Pa_putOut_34 : decode M_Pa_putOut.2.1 34 = .ok (.aload_n 0, 1) := by decide +kernel
theorem d_Pa_putOut_35 : decode M_Pa_putOut.2.1 35 = .ok (.getfield 46, 3) := by decide +kernel
theorem d_Pa_putOut_38 : decode M_Pa_putOut.2.1 38 = .ok (.iload_n 1, 1) := by decide +kernel
theorem d_Pa_putOut_39 : decode M_Pa_putOut.2.1 39 = .ok (.iload 4, 2) := by decide +kernel
theorem d_Pa_putOut_41 : decode M_Pa_putOut.2.1 41 = .ok (.invokevirtual 125, 3) := by decide +kernel
theorem d_Pa_putOut_44 : decode M_Pa_putOut.2.1 44 = .ok (.istore 5, 2) := by decide +kernel
theorem d_Pa_putOut_46 : decode M_Pa_putOut.2.1 46 = .ok (.iload 5, 2) := by decide +kernel
theorem d_Pa_putOut_48 : decode M_Pa_putOut.2.1 48 = .ok (.bipush 64, 2) := by decide +kernel
theorem d_Pa_putOut_50 : decode M_Pa_putOut.2.1 50 = .ok (.iand, 1) := by decide +kernel
theorem d_Pa_putOut_51 : decode M_Pa_putOut.2.1 51 = .ok (.ifCond .eq 22, 3) := by decide +kernel
theorem d_Pa_putOut_54 : decode M_Pa_putOut.2.1 54 = .ok (.iload 4, 2) := by decide +kernel
theorem d_Pa_putOut_56 : decode M_Pa_putOut.2.1 56 = .ok (.iload_n 2, 1) := by decide +kernel
theorem d_Pa_putOut_57 : decode M_Pa_putOut.2.1 57 = .ok (.if_icmp .eq 16, 3) := by decide +kernel
theorem d_Pa_putOut_60 : decode M_Pa_putOut.2.1 60 = .ok (.aload_n 0, 1) := by decide +kernel
theorem d_Pa_putOut_61 : decode M_Pa_putOut.2.1 61 = .ok (.dup, 1) := by decide +kernel
theorem d_Pa_putOut_62 : decode M_Pa_putOut.2.1 62 = .ok (.getfield 28, 3) := by decide +kernel
theorem d_Pa_putOut_65 : decode M_Pa_putOut.2.1 65 = .ok (.iconst 1, 1) := by decide +kernel
theorem d_Pa_putOut_66 : decode M_Pa_putOut.2.1 66 = .ok (.iload 4, 2) := by decide +kernel
theorem d_Pa_putOut_68 : decode M_Pa_putOut.2.1 68 = .ok (.ishl, 1) := by decide +kernel
theorem d_Pa_putOut_69 : decode M_Pa_putOut.2.1 69 = .ok (.ior, 1) := by decide +kernel
theorem d_Pa_putOut_70 : decode M_Pa_putOut.2.1 70 = .ok (.putfield 28, 3) := by decide +kernel
theorem d_Pa_putOut_73 : decode M_Pa_putOut.2.1 73 = .ok (.iconst 0, 1) := by decide +kernel
theorem d_Pa_putOut_74 : decode M_Pa_putOut.2.1 74 = .ok (.istore 6, 2) := by decide +kernel
theorem d_Pa_putOut_76 : decode M_Pa_putOut.2.1 76 = .ok (.iload 6, 2) := by decide +kernel
theorem d_Pa_putOut_78 : decode M_Pa_putOut.2.1 78 = .ok (.bipush 6, 2) := by decide +kernel
theorem d_Pa_putOut_80 : decode M_Pa_putOut.2.1 80 = .ok (.if_icmp .ge 40, 3) := by decide +kernel
theorem d_Pa_putOut_83 : decode M_Pa_putOut.2.1 83 = .ok (.iload 5, 2) := by decide +kernel
theorem d_Pa_putOut_85 : decode M_Pa_putOut.2.1 85 = .ok (.iload 6, 2) := by decide +kernel
theorem d_Pa_putOut_87 : decode M_Pa_putOut.2.1 87 = .ok (.invokestatic 128, 3) := by decide +kernel
theorem d_Pa_putOut_90 : decode M_Pa_putOut.2.1 90 = .ok (.ifCond .eq 24, 3) := by decide +kernel
theorem d_Pa_putOut_93 : decode M_Pa_putOut.2.1 93 = .ok (.iload 6, 2) := by decide +kernel
theorem d_Pa_putOut_95 : decode M_Pa_putOut.2.1 95 = .ok (.aload_n 0, 1) := by decide +kernel
theorem d_Pa_putOut_96 : decode M_Pa_putOut.2.1 96 = .ok (.getfield 15, 3) := by decide +kernel
theorem d_Pa_putOut_99 : decode M_Pa_putOut.2.1 99 = .ok (.iload_n 3, 1) := by decide +kernel
theorem d_Pa_putOut_100 : decode M_Pa_putOut.2.1 100 = .ok (.iaload, 1) := by decide +kernel
theorem d_Pa_putOut_101 : decode M_Pa_putOut.2.1 101 = .ok (.if_icmp .eq 13, 3) := by decide +kernel
theorem d_Pa_putOut_104 : decode M_Pa_putOut.2.1 104 = .ok (.aload_n 0, 1) := by decide +kernel
theorem d_Pa_putOut_105 : decode M_Pa_putOut.2.1 105 = .ok (.iload_n 1, 1) := by decide +kernel
theorem d_Pa_putOut_106 : decode M_Pa_putOut.2.1 106 = .ok (.iload_n 2, 1) := by decide +kernel
theorem d_Pa_putOut_107 : decode M_Pa_putOut.2.1 107 = .ok (.iload 4, 2) := by decide +kernel
theorem d_Pa_putOut_109 : decode M_Pa_putOut.2.1 109 = .ok (.iload 6, 2) := by decide +kernel
theorem d_Pa_putOut_111 : decode M_Pa_putOut.2.1 111 = .ok (.invokevirtual 131, 3) := by decide +kernel
theorem d_Pa_putOut_114 : decode M_Pa_putOut.2.1 114 = .ok (.iinc 6 1, 3) := by decide +kernel
theorem d_Pa_putOut_117 : decode M_Pa_putOut.2.1 117 = .ok (.goto (-41), 3) := by decide +kernel
theorem d_Pa_putOut_120 : decode M_Pa_putOut.2.1 120 = .ok (.return_, 1) := by decide +kernel
theorem d_Tr_innerList_0 : decode M_Tr_innerList.2.1 0 = .ok (.aload_n 0, 1) := by decide +kernel
theorem d_Tr_innerList_1 : decode M_Tr_innerList.2.1 1 = .ok (.getfield 25, 3) := by decide +kernel
theorem d_Tr_innerList_4 : decode M_Tr_innerList.2.1 4 = .ok (.iload_n 1, 1) := by decide +kernel
theorem d_Tr_innerList_5 : decode M_Tr_innerList.2.1 5 = .ok (.aaload, 1) := by decide +kernel
theorem d_Tr_innerList_6 : decode M_Tr_innerList.2.1 6 = .ok (.iload_n 2, 1) := by decide +kernel
theorem d_Tr_innerList_7 : decode M_Tr_innerList.2.1 7 = .ok (.iaload, 1) := by decide +kernel
theorem d_Tr_innerList_8 : decode M_Tr_innerList.2.1 8 = .ok (.ireturn, 1) := by decide +kernel
theorem d_Pa_cross_0 : decode M_Pa_cross.2.1 0 = .ok (.aload_n 0, 1) := by decide +kernel
theorem d_Pa_cross_1 : decode M_Pa_cross.2.1 1 = .ok (.dup, 1) := by decide +kernel
theorem d_Pa_cross_2 : decode M_Pa_cross.2.1 2 = .ok (.getfield 22, 3) := by decide +kernel
theorem d_Pa_cross_5 : decode M_Pa_cross.2.1 5 = .ok (.iconst 1, 1) := by decide +kernel
theorem d_Pa_cross_6 : decode M_Pa_cross.2.1 6 = .ok (.iadd, 1) := by decide +kernel
theorem d_Pa_cross_7 : decode M_Pa_cross.2.1 7 = .ok (.putfield 22, 3) := by decide +kernel
theorem d_Pa_cross_10 : decode M_Pa_cross.2.1 10 = .ok (.aload_n 0, 1) := by decide +kernel
theorem d_Pa_cross_11 : decode M_Pa_cross.2.1 11 = .ok (.getfield 42, 3) := by decide +kernel
theorem d_Pa_cross_14 : decode M_Pa_cross.2.1 14 = .ok (.iload_n 1, 1) := by decide +kernel
theorem d_Pa_cross_15 : decode M_Pa_cross.2.1 15 = .ok (.iload 4, 2) := by decide +kernel
theorem d_Pa_cross_17 : decode M_Pa_cross.2.1 17 = .ok (.invokevirtual 83, 3) := by decide +kernel
theorem d_Pa_cross_20 : decode M_Pa_cross.2.1 20 = .ok (.ifCond .eq 7, 3) := by decide +kernel
theorem d_Pa_cross_23 : decode M_Pa_cross.2.1 23 = .ok (.iload_n 2, 1) := by decide +kernel
theorem d_Pa_cross_24 : decode M_Pa_cross.2.1 24 = .ok (.goto 10, 3) := by decide +kernel
theorem d_Pa_cross_27 : decode M_Pa_cross.2.1 27 = .ok (.aload_n 0, 1) := by decide +kernel
theorem d_Pa_cross_28 : decode M_Pa_cross.2.1 28 = .ok (.getfield 46, 3) := by decide +kernel
theorem d_Pa_cross_31 : decode M_Pa_cross.2.1 31 = .ok (.invokevirtual 79, 3) := by decide +kernel
theorem d_Pa_cross_34 : decode M_Pa_cross.2.1 34 = .ok (.istore 5, 2) := by decide +kernel
theorem d_Pa_cross_36 : decode M_Pa_cross.2.1 36 = .ok (.iload 4, 2) := by decide +kernel
theorem d_Pa_cross_38 : decode M_Pa_cross.2.1 38 = .ok (.iload_n 2, 1) := by decide +kernel
theorem d_Pa_cross_39 : decode M_Pa_cross.2.1 39 = .ok (.if_icmp .eq 28, 3) := by decide +kernel
theorem d_Pa_cross_42 : decode M_Pa_cross.2.1 42 = .ok (.aload_n 0, 1) := by decide +kernel
theorem d_Pa_cross_43 : decode M_Pa_cross.2.1 43 = .ok (.getfield 34, 3) := by decide +kernel
theorem d_Pa_cross_46 : decode M_Pa_cross.2.1 46 = .ok (.iload 4, 2) := by decide +kernel
theorem d_Pa_cross_48 : decode M_Pa_cross.2.1 48 = .ok (.iload 5, 2) := by decide +kernel
theorem d_Pa_cross_50 : decode M_Pa_cross.2.1 50 = .ok (.invokevirtual 135, 3) := by decide +kernel
theorem d_Pa_cross_53 : decode M_Pa_cross.2.1 53 = .ok (.iload_n 3, 1) := by decide +kernel
theorem d_Pa_cross_54 : decode M_Pa_cross.2.1 54 = .ok (.if_icmp .ne 13, 3) := by decide +kernel
theorem d_Pa_cross_57 : decode M_Pa_cross.2.1 57 = .ok (.aload_n 0, 1) := by decide +kernel
theorem d_Pa_cross_58 : decode M_Pa_cross.2.1 58 = .ok (.iload 4, 2) := by decide +kernel
theorem d_Pa_cross_60 : decode M_Pa_cross.2.1 60 = .ok (.iload_n 3, 1) := by decide +kernel
theorem d_Pa_cross_61 : decode M_Pa_cross.2.1 61 = .ok (.invokevirtual 76, 3) := by decide +kernel
theorem d_Pa_cross_64 : decode M_Pa_cross.2.1 64 = .ok (.goto 13, 3) := by decide +kernel
theorem d_Pa_cross_67 : decode M_Pa_cross.2.1 67 = .ok (.aload_n 0, 1) := by decide +kernel
theorem d_Pa_cross_68 : decode M_Pa_cross.2.1 68 = .ok (.dup, 1) := by decide +kernel
theorem d_Pa_cross_69 : decode M_Pa_cross.2.1 69 = .ok (.getfield 25, 3) := by decide +kernel
theorem d_Pa_cross_72 : decode M_Pa_cross.2.1 72 = .ok (.iconst 1, 1) := by decide +kernel
theorem d_Pa_cross_73 : decode M_Pa_cross.2.1 73 = .ok (.iadd, 1) := by decide +kernel
theorem d_Pa_cross_74 : decode M_Pa_cross.2.1 74 = .ok (.putfield 25, 3) := by decide +kernel
theorem d_Pa_cross_77 : decode M_Pa_cross.2.1 77 = .ok (.return_, 1) := by decide +kernel
theorem d_Pa_renewCarriers_0 : decode M_Pa_renewCarriers.2.1 0 = .ok (.iconst 0, 1) := by decide +kernel
theorem d_Pa_renewCarriers_1 : decode M_Pa_renewCarriers.2.1 1 = .ok (.istore_n 3, 1) := by decide +kernel
theorem d_Pa_renewCarriers_2 : decode M_Pa_renewCarriers.2.1 2 = .ok (.iload_n 3, 1) := by decide +kernel
theorem d_Pa_renewCarriers_3 : decode M_Pa_renewCarriers.2.1 3 = .ok (.bipush 6, 2) := by decide +kernel
theorem d_Pa_renewCarriers_5 : decode M_Pa_renewCarriers.2.1 5 = .ok (.if_icmp .ge 61, 3) := by decide +kernel
theorem d_Pa_renewCarriers_8 : decode M_Pa_renewCarriers.2.1 8 = .ok (.iload_n 3, 1) := by decide +kernel
theorem d_Pa_renewCarriers_9 : decode M_Pa_renewCarriers.2.1 9 = .ok (.aload_n 0, 1) := by decide +kernel
theorem d_Pa_renewCarriers_10 : decode M_Pa_renewCarriers.2.1 10 = .ok (.getfield 18, 3) := by decide +kernel
theorem d_Pa_renewCarriers_13 : decode M_Pa_renewCarriers.2.1 13 = .ok (.if_icmp .ge 53, 3) := by decide +kernel
theorem d_Pa_renewCarriers_16 : decode M_Pa_renewCarriers.2.1 16 = .ok (.aload_n 0, 1) := by decide +kernel
theorem d_Pa_renewCarriers_17 : decode M_Pa_renewCarriers.2.1 17 = .ok (.getfield 9, 3) := by decide +kernel
theorem d_Pa_renewCarriers_20 : decode M_Pa_renewCarriers.2.1 20 = .ok (.iload_n 3, 1) := by decide +kernel
theorem d_Pa_renewCarriers_21 : decode M_Pa_renewCarriers.2.1 21 = .ok (.iaload, 1) := by decide +kernel
theorem d_Pa_renewCarriers_22 : decode M_Pa_renewCarriers.2.1 22 = .ok (.istore 4, 2) := by decide +kernel
theorem d_Pa_renewCarriers_24 : decode M_Pa_renewCarriers.2.1 24 = .ok (.aload_n 0, 1) := by decide +kernel
theorem d_Pa_renewCarriers_25 : decode M_Pa_renewCarriers.2.1 25 = .ok (.getfield 42, 3) := by decide +kernel
theorem d_Pa_renewCarriers_28 : decode M_Pa_renewCarriers.2.1 28 = .ok (.iload_n 1, 1) := by decide +kernel
theorem d_Pa_renewCarriers_29 : decode M_Pa_renewCarriers.2.1 29 = .ok (.iload 4, 2) := by decide +kernel
theorem d_Pa_renewCarriers_31 : decode M_Pa_renewCarriers.2.1 31 = .ok (.invokevirtual 83, 3) := by decide +kernel
theorem d_Pa_renewCarriers_34 : decode M_Pa_renewCarriers.2.1 34 = .ok (.ifCond .ne 26, 3) := by decide +kernel
theorem d_Pa_renewCarriers_37 : decode M_Pa_renewCarriers.2.1 37 = .ok (.aload_n 0, 1) := by decide +kernel
theorem d_Pa_renewCarriers_38 : decode M_Pa_renewCarriers.2.1 38 = .ok (.getfield 38, 3) := by decide +kernel
theorem d_Pa_renewCarriers_41 : decode M_Pa_renewCarriers.2.1 41 = .ok (.iload 4, 2) := by decide +kernel
theorem d_Pa_renewCarriers_43 : decode M_Pa_renewCarriers.2.1 43 = .ok (.iload_n 2, 1) := by decide +kernel
theorem d_Pa_renewCarriers_44 : decode M_Pa_renewCarriers.2.1 44 = .ok (.invokevirtual 58, 3) := by decide +kernel
theorem d_Pa_renewCarriers_47 : decode M_Pa_renewCarriers.2.1 47 = .ok (.ifCond .eq 13, 3) := by decide +kernel
theorem d_Pa_renewCarriers_50 : decode M_Pa_renewCarriers.2.1 50 = .ok (.aload_n 0, 1) := by decide +kernel
theorem d_Pa_renewCarriers_51 : decode M_Pa_renewCarriers.2.1 51 = .ok (.getfield 42, 3) := by decide +kernel
theorem d_Pa_renewCarriers_54 : decode M_Pa_renewCarriers.2.1 54 = .ok (.iload_n 1, 1) := by decide +kernel
theorem d_Pa_renewCarriers_55 : decode M_Pa_renewCarriers.2.1 55 = .ok (.iload 4, 2) := by decide +kernel
theorem d_Pa_renewCarriers_57 : decode M_Pa_renewCarriers.2.1 57 = .ok (.invokevirtual 98, 3) := by decide +kernel
theorem d_Pa_renewCarriers_60 : decode M_Pa_renewCarriers.2.1 60 = .ok (.iinc 3 1, 3) := by decide +kernel
theorem d_Pa_renewCarriers_63 : decode M_Pa_renewCarriers.2.1 63 = .ok (.goto (-61), 3) := by decide +kernel
theorem d_Pa_renewCarriers_66 : decode M_Pa_renewCarriers.2.1 66 = .ok (.return_, 1) := by decide +kernel
theorem d_Pa_listen_0 : decode M_Pa_listen.2.1 0 = .ok (.aload_n 0, 1) := by decide +kernel
theorem d_Pa_listen_1 : decode M_Pa_listen.2.1 1 = .ok (.iconst 0, 1) := by decide +kernel
theorem d_Pa_listen_2 : decode M_Pa_listen.2.1 2 = .ok (.putfield 31, 3) := by decide +kernel
theorem d_Pa_listen_5 : decode M_Pa_listen.2.1 5 = .ok (.iconst 0, 1) := by decide +kernel
theorem d_Pa_listen_6 : decode M_Pa_listen.2.1 6 = .ok (.istore_n 1, 1) := by decide +kernel
theorem d_Pa_listen_7 : decode M_Pa_listen.2.1 7 = .ok (.iload_n 1, 1) := by decide +kernel
theorem d_Pa_listen_8 : decode M_Pa_listen.2.1 8 = .ok (.bipush 6, 2) := by decide +kernel
theorem d_Pa_listen_10 : decode M_Pa_listen.2.1 10 = .ok (.if_icmp .ge 43, 3) := by decide +kernel
theorem d_Pa_listen_13 : decode M_Pa_listen.2.1 13 = .ok (.aload_n 0, 1) := by decide +kernel
theorem d_Pa_listen_14 : decode M_Pa_listen.2.1 14 = .ok (.getfield 28, 3) := by decide +kernel
theorem d_Pa_listen_17 : decode M_Pa_listen.2.1 17 = .ok (.iload_n 1, 1) := by decide +kernel
theorem d_Pa_listen_18 : decode M_Pa_listen.2.1 18 = .ok (.invokestatic 128, 3) := by decide +kernel
theorem d_Pa_listen_21 : decode M_Pa_listen.2.1 21 = .ok (.ifCond .eq 26, 3) := by decide +kernel
theorem d_Pa_listen_24 : decode M_Pa_listen.2.1 24 = .ok (.aload_n 0, 1) := by decide +kernel
theorem d_Pa_listen_25 : decode M_Pa_listen.2.1 25 = .ok (.getfield 38, 3) := by decide +kernel
theorem d_Pa_listen_28 : decode M_Pa_listen.2.1 28 = .ok (.iload_n 1, 1) := by decide +kernel
theorem d_Pa_listen_29 : decode M_Pa_listen.2.1 29 = .ok (.invokevirtual 138, 3) := by decide +kernel
theorem d_Pa_listen_32 : decode M_Pa_listen.2.1 32 = .ok (.ifCond .eq 15, 3) := by decide +kernel
theorem d_Pa_listen_35 : decode M_Pa_listen.2.1 35 = .ok (.aload_n 0, 1) := by decide +kernel
theorem d_Pa_listen_36 : decode M_Pa_listen.2.1 36 = .ok (.dup, 1) := by decide +kernel
theorem d_Pa_listen_37 : decode M_Pa_listen.2.1 37 = .ok (.getfield 31, 3) := by decide +kernel
theorem d_Pa_listen_40 : decode M_Pa_listen.2.1 40 = .ok (.iconst 1, 1) := by decide +kernel
theorem d_Pa_listen_41 : decode M_Pa_listen.2.1 41 = .ok (.iload_n 1, 1) := by decide +kernel
theorem d_Pa_listen_42 : decode M_Pa_listen.2.1 42 = .ok (.ishl, 1) := by decide +kernel
theorem d_Pa_listen_43 : decode M_Pa_listen.2.1 43 = .ok (.ior, 1) := by decide +kernel
theorem d_Pa_listen_44 : decode M_Pa_listen.2.1 44 = .ok (.putfield 31, 3) := by decide +kernel
theorem d_Pa_listen_47 : decode M_Pa_listen.2.1 47 = .ok (.iinc 1 1, 3) := by decide +kernel
theorem d_Pa_listen_50 : decode M_Pa_listen.2.1 50 = .ok (.goto (-43), 3) := by decide +kernel
theorem d_Pa_listen_53 : decode M_Pa_listen.2.1 53 = .ok (.return_, 1) := by decide +kernel
theorem d_Pa_heardBy_0 : decode M_Pa_heardBy.2.1 0 = .ok (.aload_n 0, 1) := by decide +kernel
theorem d_Pa_heardBy_1 : decode M_Pa_heardBy.2.1 1 = .ok (.getfield 31, 3) := by decide +kernel
theorem d_Pa_heardBy_4 : decode M_Pa_heardBy.2.1 4 = .ok (.ireturn, 1) := by decide +kernel
theorem d_MT_crossings_0 : decode M_MT_crossings.2.1 0 = .ok (.aload_n 0, 1) := by decide +kernel
theorem d_MT_crossings_1 : decode M_MT_crossings.2.1 1 = .ok (.getfield 64, 3) := by decide +kernel
theorem d_MT_crossings_4 : decode M_MT_crossings.2.1 4 = .ok (.invokevirtual 151, 3) := by decide +kernel
theorem d_MT_crossings_7 : decode M_MT_crossings.2.1 7 = .ok (.ireturn, 1) := by decide +kernel
theorem d_Pa_crossingCount_0 : decode M_Pa_crossingCount.2.1 0 = .ok (.aload_n 0, 1) := by decide +kernel
theorem d_Pa_crossingCount_1 : decode M_Pa_crossingCount.2.1 1 = .ok (.getfield 22, 3) := by decide +kernel
theorem d_Pa_crossingCount_4 : decode M_Pa_crossingCount.2.1 4 = .ok (.ireturn, 1) := by decide +kernel
theorem d_MT_drops_0 : decode M_MT_drops.2.1 0 = .ok (.aload_n 0, 1) := by decide +kernel
theorem d_MT_drops_1 : decode M_MT_drops.2.1 1 = .ok (.getfield 64, 3) := by decide +kernel
theorem d_MT_drops_4 : decode M_MT_drops.2.1 4 = .ok (.invokevirtual 154, 3) := by decide +kernel
theorem d_MT_drops_7 : decode M_MT_drops.2.1 7 = .ok (.ireturn, 1) := by decide +kernel
theorem d_Pa_dropCount_0 : decode M_Pa_dropCount.2.1 0 = .ok (.aload_n 0, 1) := by decide +kernel
theorem d_Pa_dropCount_1 : decode M_Pa_dropCount.2.1 1 = .ok (.getfield 25, 3) := by decide +kernel
theorem d_Pa_dropCount_4 : decode M_Pa_dropCount.2.1 4 = .ok (.ireturn, 1) := by decide +kernel
theorem d_MT_reached_0 : decode M_MT_reached.2.1 0 = .ok (.aload_n 0, 1) := by decide +kernel
theorem d_MT_reached_1 : decode M_MT_reached.2.1 1 = .ok (.getfield 64, 3) := by decide +kernel
theorem d_MT_reached_4 : decode M_MT_reached.2.1 4 = .ok (.invokevirtual 157, 3) := by decide +kernel
theorem d_MT_reached_7 : decode M_MT_reached.2.1 7 = .ok (.ireturn, 1) := by decide +kernel
theorem d_Pa_reachedLans_0 : decode M_Pa_reachedLans.2.1 0 = .ok (.aload_n 0, 1) := by decide +kernel
theorem d_Pa_reachedLans_1 : decode M_Pa_reachedLans.2.1 1 = .ok (.getfield 28, 3) := by decide +kernel
theorem d_Pa_reachedLans_4 : decode M_Pa_reachedLans.2.1 4 = .ok (.ireturn, 1) := by decide +kernel
theorem d_MT_heard_0 : decode M_MT_heard.2.1 0 = .ok (.aload_n 0, 1) := by decide +kernel
theorem d_MT_heard_1 : decode M_MT_heard.2.1 1 = .ok (.getfield 64, 3) := by decide +kernel
theorem d_MT_heard_4 : decode M_MT_heard.2.1 4 = .ok (.invokevirtual 141, 3) := by decide +kernel
theorem d_MT_heard_7 : decode M_MT_heard.2.1 7 = .ok (.ireturn, 1) := by decide +kernel
theorem d_MT_shared_0 : decode M_MT_shared.2.1 0 = .ok (.iload_n 1, 1) := by decide +kernel
theorem d_MT_shared_1 : decode M_MT_shared.2.1 1 = .ok (.invokestatic 9, 3) := by decide +kernel
theorem d_MT_shared_4 : decode M_MT_shared.2.1 4 = .ok (.ifCond .eq 10, 3) := by decide +kernel
theorem d_MT_shared_7 : decode M_MT_shared.2.1 7 = .ok (.iload_n 2, 1) := by decide +kernel
theorem d_MT_shared_8 : decode M_MT_shared.2.1 8 = .ok (.invokestatic 101, 3) := by decide +kernel
theorem d_MT_shared_11 : decode M_MT_shared.2.1 11 = .ok (.ifCond .ne 5, 3) := by decide +kernel
theorem d_MT_shared_14 : decode M_MT_shared.2.1 14 = .ok (.iconst (-1), 1) := by decide +kernel
theorem d_MT_shared_15 : decode M_MT_shared.2.1 15 = .ok (.ireturn, 1) := by decide +kernel
theorem d_MT_shared_16 : decode M_MT_shared.2.1 16 = .ok (.aload_n 0, 1) := by decide +kernel
theorem d_MT_shared_17 : decode M_MT_shared.2.1 17 = .ok (.getfield 55, 3) := by decide +kernel
theorem d_MT_shared_20 : decode M_MT_shared.2.1 20 = .ok (.iload_n 2, 1) := by decide +kernel
theorem d_MT_shared_21 : decode M_MT_shared.2.1 21 = .ok (.iload_n 1, 1) := by decide +kernel
theorem d_MT_shared_22 : decode M_MT_shared.2.1 22 = .ok (.invokevirtual 160, 3) := by decide +kernel
theorem d_MT_shared_25 : decode M_MT_shared.2.1 25 = .ok (.ireturn, 1) := by decide +kernel
theorem d_Tr_sharedJoinOf_0 : decode M_Tr_sharedJoinOf.2.1 0 = .ok (.aload_n 0, 1) := by decide +kernel
theorem d_Tr_sharedJoinOf_1 : decode M_Tr_sharedJoinOf.2.1 1 = .ok (.getfield 11, 3) := by decide +kernel
theorem d_Tr_sharedJoinOf_4 : decode M_Tr_sharedJoinOf.2.1 4 = .ok (.iload_n 1, 1) := by decide +kernel
theorem d_Tr_sharedJoinOf_5 : decode M_Tr_sharedJoinOf.2.1 5 = .ok (.aaload, 1) := by decide +kernel
theorem d_Tr_sharedJoinOf_6 : decode M_Tr_sharedJoinOf.2.1 6 = .ok (.iload_n 2, 1) := by decide +kernel
theorem d_Tr_sharedJoinOf_7 : decode M_Tr_sharedJoinOf.2.1 7 = .ok (.iaload, 1) := by decide +kernel
theorem d_Tr_sharedJoinOf_8 : decode M_Tr_sharedJoinOf.2.1 8 = .ok (.ireturn, 1) := by decide +kernel
theorem d_MT_entry_0 : decode M_MT_entry.2.1 0 = .ok (.iload_n 1, 1) := by decide +kernel
theorem d_MT_entry_1 : decode M_MT_entry.2.1 1 = .ok (.invokestatic 9, 3) := by decide +kernel
theorem d_MT_entry_4 : decode M_MT_entry.2.1 4 = .ok (.ifCond .eq 17, 3) := by decide +kernel
theorem d_MT_entry_7 : decode M_MT_entry.2.1 7 = .ok (.iload_n 2, 1) := by decide +kernel
theorem d_MT_entry_8 : decode M_MT_entry.2.1 8 = .ok (.invokestatic 9, 3) := by decide +kernel
theorem d_MT_entry_11 : decode M_MT_entry.2.1 11 = .ok (.ifCond .eq 10, 3) := by decide +kernel
theorem d_MT_entry_14 : decode M_MT_entry.2.1 14 = .ok (.iload_n 3, 1) := by decide +kernel
theorem d_MT_entry_15 : decode M_MT_entry.2.1 15 = .ok (.invokestatic 101, 3) := by decide +kernel
theorem d_MT_entry_18 : decode M_MT_entry.2.1 18 = .ok (.ifCond .ne 5, 3) := by decide +kernel
theorem d_MT_entry_21 : decode M_MT_entry.2.1 21 = .ok (.iconst (-1), 1) := by decide +kernel
theorem d_MT_entry_22 : decode M_MT_entry.2.1 22 = .ok (.ireturn, 1) := by decide +kernel
theorem d_MT_entry_23 : decode M_MT_entry.2.1 23 = .ok (.iload_n 2, 1) := by decide +kernel
theorem d_MT_entry_24 : decode M_MT_entry.2.1 24 = .ok (.iload_n 3, 1) := by decide +kernel
theorem d_MT_entry_25 : decode M_MT_entry.2.1 25 = .ok (.invokestatic 131, 3) := by decide +kernel
theorem d_MT_entry_28 : decode M_MT_entry.2.1 28 = .ok (.istore 4, 2) := by decide +kernel
theorem d_MT_entry_30 : decode M_MT_entry.2.1 30 = .ok (.bipush 16, 2) := by decide +kernel
theorem d_MT_entry_32 : decode M_MT_entry.2.1 32 = .ok (.aload_n 0, 1) := by decide +kernel
theorem d_MT_entry_33 : decode M_MT_entry.2.1 33 = .ok (.getfield 55, 3) := by decide +kernel
theorem d_MT_entry_36 : decode M_MT_entry.2.1 36 = .ok (.iload 4, 2) := by decide +kernel
theorem d_MT_entry_38 : decode M_MT_entry.2.1 38 = .ok (.iload_n 1, 1) := by decide +kernel
theorem d_MT_entry_39 : decode M_MT_entry.2.1 39 = .ok (.invokevirtual 163, 3) := by decide +kernel
theorem d_MT_entry_42 : decode M_MT_entry.2.1 42 = .ok (.invokestatic 145, 3) := by decide +kernel
theorem d_MT_entry_45 : decode M_MT_entry.2.1 45 = .ok (.imul, 1) := by decide +kernel
theorem d_MT_entry_46 : decode M_MT_entry.2.1 46 = .ok (.istore 5, 2) := by decide +kernel
theorem d_MT_entry_48 : decode M_MT_entry.2.1 48 = .ok (.aload_n 0, 1) := by decide +kernel
theorem d_MT_entry_49 : decode M_MT_entry.2.1 49 = .ok (.getfield 46, 3) := by decide +kernel
theorem d_MT_entry_52 : decode M_MT_entry.2.1 52 = .ok (.iload 4, 2) := by decide +kernel
theorem d_MT_entry_54 : decode M_MT_entry.2.1 54 = .ok (.iload_n 1, 1) := by decide +kernel
theorem d_MT_entry_55 : decode M_MT_entry.2.1 55 = .ok (.invokevirtual 166, 3) := by decide +kernel
theorem d_MT_entry_58 : decode M_MT_entry.2.1 58 = .ok (.ifCond .eq 6, 3) := by decide +kernel
theorem d_MT_entry_61 : decode M_MT_entry.2.1 61 = .ok (.iinc 5 1, 3) := by decide +kernel
theorem d_MT_entry_64 : decode M_MT_entry.2.1 64 = .ok (.aload_n 0, 1) := by decide +kernel
theorem d_MT_entry_65 : decode M_MT_entry.2.1 65 = .ok (.getfield 46, 3) := by decide +kernel
theorem d_MT_entry_68 : decode M_MT_entry.2.1 68 = .ok (.iload 4, 2) := by decide +kernel
theorem d_MT_entry_70 : decode M_MT_entry.2.1 70 = .ok (.iload_n 1, 1) := by decide +kernel
theorem d_MT_entry_71 : decode M_MT_entry.2.1 71 = .ok (.invokevirtual 169, 3) := by decide +kernel
theorem d_MT_entry_74 : decode M_MT_entry.2.1 74 = .ok (.ifCond .eq 6, 3) := by decide +kernel
theorem d_MT_entry_77 : decode M_MT_entry.2.1 77 = .ok (.iinc 5 2, 3) := by decide +kernel
theorem d_MT_entry_80 : decode M_MT_entry.2.1 80 = .ok (.aload_n 0, 1) := by decide +kernel
theorem d_MT_entry_81 : decode M_MT_entry.2.1 81 = .ok (.getfield 55, 3) := by decide +kernel
theorem d_MT_entry_84 : decode M_MT_entry.2.1 84 = .ok (.iload 4, 2) := by decide +kernel
theorem d_MT_entry_86 : decode M_MT_entry.2.1 86 = .ok (.iload_n 1, 1) := by decide +kernel
theorem d_MT_entry_87 : decode M_MT_entry.2.1 87 = .ok (.invokevirtual 172, 3) := by decide +kernel
theorem d_MT_entry_90 : decode M_MT_entry.2.1 90 = .ok (.iconst (-1), 1) := by decide +kernel
theorem d_MT_entry_91 : decode M_MT_entry.2.1 91 = .ok (.if_icmp .eq 6, 3) := by decide +kernel
theorem d_MT_entry_94 : decode M_MT_entry.2.1 94 = .ok (.iinc 5 4, 3) := by decide +kernel
theorem d_MT_entry_97 : decode M_MT_entry.2.1 97 = .ok (.aload_n 0, 1) := by decide +kernel
theorem d_MT_entry_98 : decode M_MT_entry.2.1 98 = .ok (.getfield 55, 3) := by decide +kernel
theorem d_MT_entry_101 : decode M_MT_entry.2.1 101 = .ok (.iload 4, 2) := by decide +kernel
theorem d_MT_entry_103 : decode M_MT_entry.2.1 103 = .ok (.iload_n 1, 1) := by decide +kernel
theorem d_MT_entry_104 : decode M_MT_entry.2.1 104 = .ok (.invokevirtual 175, 3) := by decide +kernel
theorem d_MT_entry_107 : decode M_MT_entry.2.1 107 = .ok (.iconst (-1), 1) := by decide +kernel
theorem d_MT_entry_108 : decode M_MT_entry.2.1 108 = .ok (.if_icmp .eq 6, 3) := by decide +kernel
theorem d_MT_entry_111 : decode M_MT_entry.2.1 111 = .ok (.iinc 5 8, 3) := by decide +kernel
theorem d_MT_entry_114 : decode M_MT_entry.2.1 114 = .ok (.iload 5, 2) := by decide +kernel
theorem d_MT_entry_116 : decode M_MT_entry.2.1 116 = .ok (.ireturn, 1) := by decide +kernel
theorem d_Tr_cutOf_0 : decode M_Tr_cutOf.2.1 0 = .ok (.aload_n 0, 1) := by decide +kernel
theorem d_Tr_cutOf_1 : decode M_Tr_cutOf.2.1 1 = .ok (.getfield 19, 3) := by decide +kernel
theorem d_Tr_cutOf_4 : decode M_Tr_cutOf.2.1 4 = .ok (.iload_n 1, 1) := by decide +kernel
theorem d_Tr_cutOf_5 : decode M_Tr_cutOf.2.1 5 = .ok (.aaload, 1) := by decide +kernel
theorem d_Tr_cutOf_6 : decode M_Tr_cutOf.2.1 6 = .ok (.iload_n 2, 1) := by decide +kernel
theorem d_Tr_cutOf_7 : decode M_Tr_cutOf.2.1 7 = .ok (.iaload, 1) := by decide +kernel
theorem d_Tr_cutOf_8 : decode M_Tr_cutOf.2.1 8 = .ok (.ireturn, 1) := by decide +kernel
theorem d_MT_messages_0 : decode M_MT_messages.2.1 0 = .ok (.iload_n 1, 1) := by decide +kernel
theorem d_MT_messages_1 : decode M_MT_messages.2.1 1 = .ok (.ifCond .lt 9, 3) := by decide +kernel
theorem d_MT_messages_4 : decode M_MT_messages.2.1 4 = .ok (.iload_n 1, 1) := by decide +kernel
theorem d_MT_messages_5 : decode M_MT_messages.2.1 5 = .ok (.bipush 10, 2) := by decide +kernel
theorem d_MT_messages_7 : decode M_MT_messages.2.1 7 = .ok (.if_icmp .lt 5, 3) := by decide +kernel
theorem d_MT_messages_10 : decode M_MT_messages.2.1 10 = .ok (.iconst (-1), 1) := by decide +kernel
theorem d_MT_messages_11 : decode M_MT_messages.2.1 11 = .ok (.ireturn, 1) := by decide +kernel
theorem d_MT_messages_12 : decode M_MT_messages.2.1 12 = .ok (.aload_n 0, 1) := by decide +kernel
theorem d_MT_messages_13 : decode M_MT_messages.2.1 13 = .ok (.getfield 23, 3) := by decide +kernel
theorem d_MT_messages_16 : decode M_MT_messages.2.1 16 = .ok (.iload_n 1, 1) := by decide +kernel
theorem d_MT_messages_17 : decode M_MT_messages.2.1 17 = .ok (.invokevirtual 178, 3) := by decide +kernel
theorem d_MT_messages_20 : decode M_MT_messages.2.1 20 = .ok (.ireturn, 1) := by decide +kernel
theorem d_MT_lose_0 : decode M_MT_lose.2.1 0 = .ok (.iload_n 1, 1) := by decide +kernel
theorem d_MT_lose_1 : decode M_MT_lose.2.1 1 = .ok (.invokestatic 9, 3) := by decide +kernel
theorem d_MT_lose_4 : decode M_MT_lose.2.1 4 = .ok (.ifCond .eq 13, 3) := by decide +kernel
theorem d_MT_lose_7 : decode M_MT_lose.2.1 7 = .ok (.iload_n 2, 1) := by decide +kernel
theorem d_MT_lose_8 : decode M_MT_lose.2.1 8 = .ok (.ifCond .lt 9, 3) := by decide +kernel
theorem d_MT_lose_11 : decode M_MT_lose.2.1 11 = .ok (.iload_n 2, 1) := by decide +kernel
theorem d_MT_lose_12 : decode M_MT_lose.2.1 12 = .ok (.bipush 9, 2) := by decide +kernel
theorem d_MT_lose_14 : decode M_MT_lose.2.1 14 = .ok (.if_icmp .le 5, 3) := by decide +kernel
theorem d_MT_lose_17 : decode M_MT_lose.2.1 17 = .ok (.iconst 0, 1) := by decide +kernel
theorem d_MT_lose_18 : decode M_MT_lose.2.1 18 = .ok (.ireturn, 1) := by decide +kernel
theorem d_MT_lose_19 : decode M_MT_lose.2.1 19 = .ok (.aload_n 0, 1) := by decide +kernel
theorem d_MT_lose_20 : decode M_MT_lose.2.1 20 = .ok (.getfield 39, 3) := by decide +kernel
theorem d_MT_lose_23 : decode M_MT_lose.2.1 23 = .ok (.iload_n 1, 1) := by decide +kernel
theorem d_MT_lose_24 : decode M_MT_lose.2.1 24 = .ok (.iload_n 2, 1) := by decide +kernel
theorem d_MT_lose_25 : decode M_MT_lose.2.1 25 = .ok (.invokevirtual 181, 3) := by decide +kernel
theorem d_MT_lose_28 : decode M_MT_lose.2.1 28 = .ok (.iconst 1, 1) := by decide +kernel
theorem d_MT_lose_29 : decode M_MT_lose.2.1 29 = .ok (.ireturn, 1) := by decide +kernel
theorem d_MT_publish_0 : decode M_MT_publish.2.1 0 = .ok (.iload_n 1, 1) := by decide +kernel
theorem d_MT_publish_1 : decode M_MT_publish.2.1 1 = .ok (.invokestatic 9, 3) := by decide +kernel
theorem d_MT_publish_4 : decode M_MT_publish.2.1 4 = .ok (.ifCond .eq 21, 3) := by decide +kernel
theorem d_MT_publish_7 : decode M_MT_publish.2.1 7 = .ok (.iload_n 2, 1) := by decide +kernel
theorem d_MT_publish_8 : decode M_MT_publish.2.1 8 = .ok (.invokestatic 101, 3) := by decide +kernel
theorem d_MT_publish_11 : decode M_MT_publish.2.1 11 = .ok (.ifCond .eq 14, 3) := by decide +kernel
theorem d_MT_publish_14 : decode M_MT_publish.2.1 14 = .ok (.iload_n 3, 1) := by decide +kernel
theorem d_MT_publish_15 : decode M_MT_publish.2.1 15 = .ok (.iconst 1, 1) := by decide +kernel
theorem d_MT_publish_16 : decode M_MT_publish.2.1 16 = .ok (.if_icmp .lt 9, 3) := by decide +kernel
theorem d_MT_publish_19 : decode M_MT_publish.2.1 19 = .ok (.iload_n 3, 1) := by decide +kernel
theorem d_MT_publish_20 : decode M_MT_publish.2.1 20 = .ok (.bipush 16, 2) := by decide +kernel
theorem d_MT_publish_22 : decode M_MT_publish.2.1 22 = .ok (.if_icmp .le 5, 3) := by decide +kernel
theorem d_MT_publish_25 : decode M_MT_publish.2.1 25 = .ok (.iconst (-1), 1) := by decide +kernel
theorem d_MT_publish_26 : decode M_MT_publish.2.1 26 = .ok (.ireturn, 1) := by decide +kernel
theorem d_MT_publish_27 : decode M_MT_publish.2.1 27 = .ok (.aload_n 0, 1) := by decide +kernel
theorem d_MT_publish_28 : decode M_MT_publish.2.1 28 = .ok (.getfield 73, 3) := by decide +kernel
theorem d_MT_publish_31 : decode M_MT_publish.2.1 31 = .ok (.invokevirtual 184, 3) := by decide +kernel
theorem d_MT_publish_34 : decode M_MT_publish.2.1 34 = .ok (.ifCond .eq 5, 3) := by decide +kernel
theorem d_MT_publish_37 : decode M_MT_publish.2.1 37 = .ok (.iconst (-1), 1) := by decide +kernel
theorem d_MT_publish_38 : decode M_MT_publish.2.1 38 = .ok (.ireturn, 1) := by decide +kernel
theorem d_MT_publish_39 : decode M_MT_publish.2.1 39 = .ok (.aload_n 0, 1) := by decide +kernel
theorem d_MT_publish_40 : decode M_MT_publish.2.1 40 = .ok (.getfield 73, 3) := by decide +kernel
theorem d_MT_publish_43 : decode M_MT_publish.2.1 43 = .ok (.iload_n 1, 1) := by decide +kernel
theorem d_MT_publish_44 : decode M_MT_publish.2.1 44 = .ok (.iload_n 2, 1) := by decide +kernel
theorem d_MT_publish_45 : decode M_MT_publish.2.1 45 = .ok (.iload_n 3, 1) := by decide +kernel
theorem d_MT_publish_46 : decode M_MT_publish.2.1 46 = .ok (.invokevirtual 187, 3) := by decide +kernel
theorem d_MT_publish_49 : decode M_MT_publish.2.1 49 = .ok (.ireturn, 1) := by decide +kernel
theorem d_Fi_isFull_0 : decode M_Fi_isFull.2.1 0 = .ok (.aload_n 0, 1) := by decide +kernel
theorem d_Fi_isFull_1 : decode M_Fi_isFull.2.1 1 = .ok (.getfield 38, 3) := by decide +kernel
theorem d_Fi_isFull_4 : decode M_Fi_isFull.2.1 4 = .ok (.iconst 4, 1) := by decide +kernel
theorem d_Fi_isFull_5 : decode M_Fi_isFull.2.1 5 = .ok (.if_icmp .lt 7, 3) := by decide +kernel
theorem d_Fi_isFull_8 : decode M_Fi_isFull.2.1 8 = .ok (.iconst 1, 1) := by decide +kernel
theorem d_Fi_isFull_9 : decode M_Fi_isFull.2.1 9 = .ok (.goto 4, 3) := by decide +kernel
theorem d_Fi_isFull_12 : decode M_Fi_isFull.2.1 12 = .ok (.iconst 0, 1) := by decide +kernel
theorem d_Fi_isFull_13 : decode M_Fi_isFull.2.1 13 = .ok (.ireturn, 1) := by decide +kernel
theorem d_Fi_create_0 : decode M_Fi_create.2.1 0 = .ok (.aload_n 0, 1) := by decide +kernel
theorem d_Fi_create_1 : decode M_Fi_create.2.1 1 = .ok (.getfield 9, 3) := by decide +kernel
theorem d_Fi_create_4 : decode M_Fi_create.2.1 4 = .ok (.aload_n 0, 1) := by decide +kernel
theorem d_Fi_create_5 : decode M_Fi_create.2.1 5 = .ok (.getfield 38, 3) := by decide +kernel
theorem d_Fi_create_8 : decode M_Fi_create.2.1 8 = .ok (.iload_n 1, 1) := by decide +kernel
theorem d_Fi_create_9 : decode M_Fi_create.2.1 9 = .ok (.iastore, 1) := by decide +kernel
theorem d_Fi_create_10 : decode M_Fi_create.2.1 10 = .ok (.aload_n 0, 1) := by decide +kernel
theorem d_Fi_create_11 : decode M_Fi_create.2.1 11 = .ok (.getfield 15, 3) := by decide +kernel
theorem d_Fi_create_14 : decode M_Fi_create.2.1 14 = .ok (.aload_n 0, 1) := by decide +kernel
theorem d_Fi_create_15 : decode M_Fi_create.2.1 15 = .ok (.getfield 38, 3) := by decide +kernel
theorem d_Fi_create_18 : decode M_Fi_create.2.1 18 = .ok (.iload_n 2, 1) := by decide +kernel
theorem d_Fi_create_19 : decode M_Fi_create.2.1 19 = .ok (.iastore, 1) := by decide +kernel
theorem d_Fi_create_20 : decode M_Fi_create.2.1 20 = .ok (.aload_n 0, 1) := by decide +kernel
theorem d_Fi_create_21 : decode M_Fi_create.2.1 21 = .ok (.getfield 18, 3) := by decide +kernel
theorem d_Fi_create_24 : decode M_Fi_create.2.1 24 = .ok (.aload_n 0, 1) := by decide +kernel
theorem d_Fi_create_25 : decode M_Fi_create.2.1 25 = .ok (.getfield 38, 3) := by decide +kernel
theorem d_Fi_create_28 : decode M_Fi_create.2.1 28 = .ok (.iload_n 3, 1) := by decide +kernel
theorem d_Fi_create_29 : decode M_Fi_create.2.1 29 = .ok (.iastore, 1) := by decide +kernel
theorem d_Fi_create_30 : decode M_Fi_create.2.1 30 = .ok (.aload_n 0, 1) := by decide +kernel
theorem d_Fi_create_31 : decode M_Fi_create.2.1 31 = .ok (.dup, 1) := by decide +kernel
theorem d_Fi_create_32 : decode M_Fi_create.2.1 32 = .ok (.getfield 38, 3) := by decide +kernel
theorem d_Fi_create_35 : decode M_Fi_create.2.1 35 = .ok (.iconst 1, 1) := by decide +kernel
theorem d_Fi_create_36 : decode M_Fi_create.2.1 36 = .ok (.iadd, 1) := by decide +kernel
theorem d_Fi_create_37 : decode M_Fi_create.2.1 37 = .ok (.putfield 38, 3) := by decide +kernel
theorem d_Fi_create_40 : decode M_Fi_create.2.1 40 = .ok (.aload_n 0, 1) := by decide +kernel
theorem d_Fi_create_41 : decode M_Fi_create.2.1 41 = .ok (.getfield 38, 3) := by decide +kernel
theorem d_Fi_create_44 : decode M_Fi_create.2.1 44 = .ok (.iconst 1, 1) := by decide +kernel
theorem d_Fi_create_45 : decode M_Fi_create.2.1 45 = .ok (.isub, 1) := by decide +kernel
theorem d_Fi_create_46 : decode M_Fi_create.2.1 46 = .ok (.ireturn, 1) := by decide +kernel
theorem d_MT_emit_0 : decode M_MT_emit.2.1 0 = .ok (.aload_n 0, 1) := by decide +kernel
theorem d_MT_emit_1 : decode M_MT_emit.2.1 1 = .ok (.getfield 73, 3) := by decide +kernel
theorem d_MT_emit_4 : decode M_MT_emit.2.1 4 = .ok (.iload_n 1, 1) := by decide +kernel
theorem d_MT_emit_5 : decode M_MT_emit.2.1 5 = .ok (.invokevirtual 191, 3) := by decide +kernel
theorem d_MT_emit_8 : decode M_MT_emit.2.1 8 = .ok (.ifCond .ne 5, 3) := by decide +kernel
theorem d_MT_emit_11 : decode M_MT_emit.2.1 11 = .ok (.iconst (-1), 1) := by decide +kernel
theorem d_MT_emit_12 : decode M_MT_emit.2.1 12 = .ok (.ireturn, 1) := by decide +kernel
theorem d_MT_emit_13 : decode M_MT_emit.2.1 13 = .ok (.aload_n 0, 1) := by decide +kernel
theorem d_MT_emit_14 : decode M_MT_emit.2.1 14 = .ok (.aload_n 0, 1) := by decide +kernel
theorem d_MT_emit_15 : decode M_MT_emit.2.1 15 = .ok (.getfield 73, 3) := by decide +kernel
theorem d_MT_emit_18 : decode M_MT_emit.2.1 18 = .ok (.iload_n 1, 1) := by decide +kernel
theorem d_MT_emit_19 : decode M_MT_emit.2.1 19 = .ok (.invokevirtual 194, 3) := by decide +kernel
theorem d_MT_emit_22 : decode M_MT_emit.2.1 22 = .ok (.aload_n 0, 1) := by decide +kernel
theorem d_MT_emit_23 : decode M_MT_emit.2.1 23 = .ok (.getfield 73, 3) := by decide +kernel
theorem d_MT_emit_26 : decode M_MT_emit.2.1 26 = .ok (.iload_n 1, 1) := by decide +kernel
theorem d_MT_emit_27 : decode M_MT_emit.2.1 27 = .ok (.invokevirtual 197, 3) := by decide +kernel
theorem d_MT_emit_30 : decode M_MT_emit.2.1 30 = .ok (.invokevirtual 200, 3) := by decide +kernel
theorem d_MT_emit_33 : decode M_MT_emit.2.1 33 = .ok (.iconst (-1), 1) := by decide +kernel
theorem d_MT_emit_34 : decode M_MT_emit.2.1 34 = .ok (.if_icmp .ne 5, 3) := by decide +kernel
theorem d_MT_emit_37 : decode M_MT_emit.2.1 37 = .ok (.iconst (-1), 1) := by decide +kernel
theorem d_MT_emit_38 : decode M_MT_emit.2.1 38 = .ok (.ireturn, 1) := by decide +kernel
theorem d_MT_emit_39 : decode M_MT_emit.2.1 39 = .ok (.aload_n 0, 1) := by decide +kernel
theorem d_MT_emit_40 : decode M_MT_emit.2.1 40 = .ok (.getfield 73, 3) := by decide +kernel
theorem d_MT_emit_43 : decode M_MT_emit.2.1 43 = .ok (.iload_n 1, 1) := by decide +kernel
theorem d_MT_emit_44 : decode M_MT_emit.2.1 44 = .ok (.invokevirtual 203, 3) := by decide +kernel
theorem d_MT_emit_47 : decode M_MT_emit.2.1 47 = .ok (.istore_n 2, 1) := by decide +kernel
theorem d_MT_emit_48 : decode M_MT_emit.2.1 48 = .ok (.aload_n 0, 1) := by decide +kernel
theorem d_MT_emit_49 : decode M_MT_emit.2.1 49 = .ok (.getfield 73, 3) := by decide +kernel
theorem d_MT_emit_52 : decode M_MT_emit.2.1 52 = .ok (.iload_n 1, 1) := by decide +kernel
theorem d_MT_emit_53 : decode M_MT_emit.2.1 53 = .ok (.iload_n 2, 1) := by decide +kernel
theorem d_MT_emit_54 : decode M_MT_emit.2.1 54 = .ok (.aload_n 0, 1) := by decide +kernel
theorem d_MT_emit_55 : decode M_MT_emit.2.1 55 = .ok (.getfield 64, 3) := by decide +kernel
theorem d_MT_emit_58 : decode M_MT_emit.2.1 58 = .ok (.invokevirtual 141, 3) := by decide +kernel
theorem d_MT_emit_61 : decode M_MT_emit.2.1 61 = .ok (.invokevirtual 206, 3) := by decide +kernel
theorem d_MT_emit_64 : decode M_MT_emit.2.1 64 = .ok (.iload_n 2, 1) := by decide +kernel
theorem d_MT_emit_65 : decode M_MT_emit.2.1 65 = .ok (.ireturn, 1) := by decide +kernel
theorem d_Fi_exists_0 : decode M_Fi_exists.2.1 0 = .ok (.iload_n 1, 1) := by decide +kernel
theorem d_Fi_exists_1 : decode M_Fi_exists.2.1 1 = .ok (.ifCond .lt 15, 3) := by decide +kernel
theorem d_Fi_exists_4 : decode M_Fi_exists.2.1 4 = .ok (.iload_n 1, 1) := by decide +kernel
theorem d_Fi_exists_5 : decode M_Fi_exists.2.1 5 = .ok (.aload_n 0, 1) := by decide +kernel
theorem d_Fi_exists_6 : decode M_Fi_exists.2.1 6 = .ok (.getfield 38, 3) := by decide +kernel
theorem d_Fi_exists_9 : decode M_Fi_exists.2.1 9 = .ok (.if_icmp .ge 7, 3) := by decide +kernel
theorem d_Fi_exists_12 : decode M_Fi_exists.2.1 12 = .ok (.iconst 1, 1) := by decide +kernel
theorem d_Fi_exists_13 : decode M_Fi_exists.2.1 13 = .ok (.goto 4, 3) := by decide +kernel
theorem d_Fi_exists_16 : decode M_Fi_exists.2.1 16 = .ok (.iconst 0, 1) := by decide +kernel
theorem d_Fi_exists_17 : decode M_Fi_exists.2.1 17 = .ok (.ireturn, 1) := by decide +kernel
theorem d_Fi_sourceOf_0 : decode M_Fi_sourceOf.2.1 0 = .ok (.aload_n 0, 1) := by decide +kernel
theorem d_Fi_sourceOf_1 : decode M_Fi_sourceOf.2.1 1 = .ok (.getfield 9, 3) := by decide +kernel
theorem d_Fi_sourceOf_4 : decode M_Fi_sourceOf.2.1 4 = .ok (.iload_n 1, 1) := by decide +kernel
theorem d_Fi_sourceOf_5 : decode M_Fi_sourceOf.2.1 5 = .ok (.iaload, 1) := by decide +kernel
theorem d_Fi_sourceOf_6 : decode M_Fi_sourceOf.2.1 6 = .ok (.ireturn, 1) := by decide +kernel
theorem d_Fi_groupOf_0 : decode M_Fi_groupOf.2.1 0 = .ok (.aload_n 0, 1) := by decide +kernel
theorem d_Fi_groupOf_1 : decode M_Fi_groupOf.2.1 1 = .ok (.getfield 15, 3) := by decide +kernel
theorem d_Fi_groupOf_4 : decode M_Fi_groupOf.2.1 4 = .ok (.iload_n 1, 1) := by decide +kernel
theorem d_Fi_groupOf_5 : decode M_Fi_groupOf.2.1 5 = .ok (.iaload, 1) := by decide +kernel
theorem d_Fi_groupOf_6 : decode M_Fi_groupOf.2.1 6 = .ok (.ireturn, 1) := by decide +kernel
theorem d_Fi_takeTurn_0 : decode M_Fi_takeTurn.2.1 0 = .ok (.iconst 0, 1) := by decide +kernel
theorem d_Fi_takeTurn_1 : decode M_Fi_takeTurn.2.1 1 = .ok (.istore_n 2, 1) := by decide +kernel
theorem d_Fi_takeTurn_2 : decode M_Fi_takeTurn.2.1 2 = .ok (.iload_n 2, 1) := by decide +kernel
theorem d_Fi_takeTurn_3 : decode M_Fi_takeTurn.2.1 3 = .ok (.aload_n 0, 1) := by decide +kernel
theorem d_Fi_takeTurn_4 : decode M_Fi_takeTurn.2.1 4 = .ok (.getfield 18, 3) := by decide +kernel
theorem d_Fi_takeTurn_7 : decode M_Fi_takeTurn.2.1 7 = .ok (.iload_n 1, 1) := by decide +kernel
theorem d_Fi_takeTurn_8 : decode M_Fi_takeTurn.2.1 8 = .ok (.iaload, 1) := by decide +kernel
theorem d_Fi_takeTurn_9 : decode M_Fi_takeTurn.2.1 9 = .ok (.if_icmp .ge 38, 3) := by decide +kernel
theorem d_Fi_takeTurn_12 : decode M_Fi_takeTurn.2.1 12 = .ok (.aload_n 0, 1) := by decide +kernel
theorem d_Fi_takeTurn_13 : decode M_Fi_takeTurn.2.1 13 = .ok (.getfield 24, 3) := by decide +kernel
theorem d_Fi_takeTurn_16 : decode M_Fi_takeTurn.2.1 16 = .ok (.iload_n 1, 1) := by decide +kernel
theorem d_Fi_takeTurn_17 : decode M_Fi_takeTurn.2.1 17 = .ok (.iaload, 1) := by decide +kernel
theorem d_Fi_takeTurn_18 : decode M_Fi_takeTurn.2.1 18 = .ok (.iload_n 2, 1) := by decide +kernel
theorem d_Fi_takeTurn_19 : decode M_Fi_takeTurn.2.1 19 = .ok (.invokestatic 57, 3) := by decide +kernel
theorem d_Fi_takeTurn_22 : decode M_Fi_takeTurn.2.1 22 = .ok (.ifCond .eq 19, 3) := by decide +kernel
theorem d_Fi_takeTurn_25 : decode M_Fi_takeTurn.2.1 25 = .ok (.aload_n 0, 1) := by decide +kernel
theorem d_Fi_takeTurn_26 : decode M_Fi_takeTurn.2.1 26 = .ok (.getfield 24, 3) := by decide +kernel
theorem d_Fi_takeTurn_29 : decode M_Fi_takeTurn.2.1 29 = .ok (.iload_n 1, 1) := by decide +kernel
theorem d_Fi_takeTurn_30 : decode M_Fi_takeTurn.2.1 30 = .ok (.dup2, 1) := by decide +kernel
theorem d_Fi_takeTurn_31 : decode M_Fi_takeTurn.2.1 31 = .ok (.iaload, 1) := by decide +kernel
theorem d_Fi_takeTurn_32 : decode M_Fi_takeTurn.2.1 32 = .ok (.iconst 1, 1) := by decide +kernel
theorem d_Fi_takeTurn_33 : decode M_Fi_takeTurn.2.1 33 = .ok (.iload_n 2, 1) := by decide +kernel
theorem d_Fi_takeTurn_34 : decode M_Fi_takeTurn.2.1 34 = .ok (.ishl, 1) := by decide +kernel
theorem d_Fi_takeTurn_35 : decode M_Fi_takeTurn.2.1 35 = .ok (.iconst (-1), 1) := by decide +kernel
theorem d_Fi_takeTurn_36 : decode M_Fi_takeTurn.2.1 36 = .ok (.ixor, 1) := by decide +kernel
theorem d_Fi_takeTurn_37 : decode M_Fi_takeTurn.2.1 37 = .ok (.iand, 1) := by decide +kernel
theorem d_Fi_takeTurn_38 : decode M_Fi_takeTurn.2.1 38 = .ok (.iastore, 1) := by decide +kernel
theorem d_Fi_takeTurn_39 : decode M_Fi_takeTurn.2.1 39 = .ok (.iload_n 2, 1) := by decide +kernel
theorem d_Fi_takeTurn_40 : decode M_Fi_takeTurn.2.1 40 = .ok (.ireturn, 1) := by decide +kernel
theorem d_Fi_takeTurn_41 : decode M_Fi_takeTurn.2.1 41 = .ok (.iinc 2 1, 3) := by decide +kernel
theorem d_Fi_takeTurn_44 : decode M_Fi_takeTurn.2.1 44 = .ok (.goto (-42), 3) := by decide +kernel
theorem d_Fi_takeTurn_47 : decode M_Fi_takeTurn.2.1 47 = .ok (.aload_n 0, 1) := by decide +kernel
theorem d_Fi_takeTurn_48 : decode M_Fi_takeTurn.2.1 48 = .ok (.getfield 21, 3) := by decide +kernel
theorem d_Fi_takeTurn_51 : decode M_Fi_takeTurn.2.1 51 = .ok (.iload_n 1, 1) := by decide +kernel
theorem d_Fi_takeTurn_52 : decode M_Fi_takeTurn.2.1 52 = .ok (.iaload, 1) := by decide +kernel
theorem d_Fi_takeTurn_53 : decode M_Fi_takeTurn.2.1 53 = .ok (.aload_n 0, 1) := by decide +kernel
theorem d_Fi_takeTurn_54 : decode M_Fi_takeTurn.2.1 54 = .ok (.getfield 18, 3) := by decide +kernel
theorem d_Fi_takeTurn_57 : decode M_Fi_takeTurn.2.1 57 = .ok (.iload_n 1, 1) := by decide +kernel
theorem d_Fi_takeTurn_58 : decode M_Fi_takeTurn.2.1 58 = .ok (.iaload, 1) := by decide +kernel
theorem d_Fi_takeTurn_59 : decode M_Fi_takeTurn.2.1 59 = .ok (.if_icmp .ne 10, 3) := by decide +kernel
theorem d_Fi_takeTurn_62 : decode M_Fi_takeTurn.2.1 62 = .ok (.aload_n 0, 1) := by decide +kernel
theorem d_Fi_takeTurn_63 : decode M_Fi_takeTurn.2.1 63 = .ok (.getfield 18, 3) := by decide +kernel
theorem d_Fi_takeTurn_66 : decode M_Fi_takeTurn.2.1 66 = .ok (.iload_n 1, 1) := by decide +kernel
theorem d_Fi_takeTurn_67 : decode M_Fi_takeTurn.2.1 67 = .ok (.iaload, 1) := by decide +kernel
theorem d_Fi_takeTurn_68 : decode M_Fi_takeTurn.2.1 68 = .ok (.ireturn, 1) := by decide +kernel
theorem d_Fi_takeTurn_69 : decode M_Fi_takeTurn.2.1 69 = .ok (.aload_n 0, 1) := by decide +kernel
theorem d_Fi_takeTurn_70 : decode M_Fi_takeTurn.2.1 70 = .ok (.getfield 21, 3) := by decide +kernel
theorem d_Fi_takeTurn_73 : decode M_Fi_takeTurn.2.1 73 = .ok (.iload_n 1, 1) := by decide +kernel
theorem d_Fi_takeTurn_74 : decode M_Fi_takeTurn.2.1 74 = .ok (.dup2, 1) := by decide +kernel
theorem d_Fi_takeTurn_75 : decode M_Fi_takeTurn.2.1 75 = .ok (.iaload, 1) := by decide +kernel
theorem d_Fi_takeTurn_76 : decode M_Fi_takeTurn.2.1 76 = .ok (.iconst 1, 1) := by decide +kernel
theorem d_Fi_takeTurn_77 : decode M_Fi_takeTurn.2.1 77 = .ok (.iadd, 1) := by decide +kernel
theorem d_Fi_takeTurn_78 : decode M_Fi_takeTurn.2.1 78 = .ok (.iastore, 1) := by decide +kernel
theorem d_Fi_takeTurn_79 : decode M_Fi_takeTurn.2.1 79 = .ok (.aload_n 0, 1) := by decide +kernel
theorem d_Fi_takeTurn_80 : decode M_Fi_takeTurn.2.1 80 = .ok (.getfield 21, 3) := by decide +kernel
theorem d_Fi_takeTurn_83 : decode M_Fi_takeTurn.2.1 83 = .ok (.iload_n 1, 1) := by decide +kernel
theorem d_Fi_takeTurn_84 : decode M_Fi_takeTurn.2.1 84 = .ok (.iaload, 1) := by decide +kernel
theorem d_Fi_takeTurn_85 : decode M_Fi_takeTurn.2.1 85 = .ok (.iconst 1, 1) := by decide +kernel
theorem d_Fi_takeTurn_86 : decode M_Fi_takeTurn.2.1 86 = .ok (.isub, 1) := by decide +kernel
theorem d_Fi_takeTurn_87 : decode M_Fi_takeTurn.2.1 87 = .ok (.ireturn, 1) := by decide +kernel
theorem d_Fi_deliver_0 : decode M_Fi_deliver.2.1 0 = .ok (.iconst 0, 1) := by decide +kernel
theorem d_Fi_deliver_1 : decode M_Fi_deliver.2.1 1 = .ok (.istore 4, 2) := by decide +kernel
theorem d_Fi_deliver_3 : decode M_Fi_deliver.2.1 3 = .ok (.iload 4, 2) := by decide +kernel
theorem d_Fi_deliver_5 : decode M_Fi_deliver.2.1 5 = .ok (.bipush 6, 2) := by decide +kernel
theorem d_Fi_deliver_7 : decode M_Fi_deliver.2.1 7 = .ok (.if_icmp .ge 44, 3) := by decide +kernel
theorem d_Fi_deliver_10 : decode M_Fi_deliver.2.1 10 = .ok (.iload_n 3, 1) := by decide +kernel
theorem d_Fi_deliver_11 : decode M_Fi_deliver.2.1 11 = .ok (.iload 4, 2) := by decide +kernel
theorem d_Fi_deliver_13 : decode M_Fi_deliver.2.1 13 = .ok (.invokestatic 57, 3) := by decide +kernel
theorem d_Fi_deliver_16 : decode M_Fi_deliver.2.1 16 = .ok (.ifCond .eq 29, 3) := by decide +kernel
theorem d_Fi_deliver_19 : decode M_Fi_deliver.2.1 19 = .ok (.aload_n 0, 1) := by decide +kernel
theorem d_Fi_deliver_20 : decode M_Fi_deliver.2.1 20 = .ok (.getfield 49, 3) := by decide +kernel
theorem d_Fi_deliver_23 : decode M_Fi_deliver.2.1 23 = .ok (.iload 4, 2) := by decide +kernel
theorem d_Fi_deliver_25 : decode M_Fi_deliver.2.1 25 = .ok (.aload_n 0, 1) := by decide +kernel
theorem d_Fi_deliver_26 : decode M_Fi_deliver.2.1 26 = .ok (.getfield 15, 3) := by decide +kernel
theorem d_Fi_deliver_29 : decode M_Fi_deliver.2.1 29 = .ok (.iload_n 1, 1) := by decide +kernel
theorem d_Fi_deliver_30 : decode M_Fi_deliver.2.1 30 = .ok (.iaload, 1) := by decide +kernel
theorem d_Fi_deliver_31 : decode M_Fi_deliver.2.1 31 = .ok (.invokevirtual 61, 3) := by decide +kernel
theorem d_Fi_deliver_34 : decode M_Fi_deliver.2.1 34 = .ok (.ifCond .eq 11, 3) := by decide +kernel
theorem d_Fi_deliver_37 : decode M_Fi_deliver.2.1 37 = .ok (.aload_n 0, 1) := by decide +kernel
theorem d_Fi_deliver_38 : decode M_Fi_deliver.2.1 38 = .ok (.iload_n 1, 1) := by decide +kernel
theorem d_Fi_deliver_39 : decode M_Fi_deliver.2.1 39 = .ok (.iload_n 2, 1) := by decide +kernel
theorem d_Fi_deliver_40 : decode M_Fi_deliver.2.1 40 = .ok (.iload 4, 2) := by decide +kernel
theorem d_Fi_deliver_42 : decode M_Fi_deliver.2.1 42 = .ok (.invokevirtual 66, 3) := by decide +kernel
theorem d_Fi_deliver_45 : decode M_Fi_deliver.2.1 45 = .ok (.iinc 4 1, 3) := by decide +kernel
theorem d_Fi_deliver_48 : decode M_Fi_deliver.2.1 48 = .ok (.goto (-45), 3) := by decide +kernel
theorem d_Fi_deliver_51 : decode M_Fi_deliver.2.1 51 = .ok (.return_, 1) := by decide +kernel
theorem d_Fi_store_0 : decode M_Fi_store.2.1 0 = .ok (.iload_n 2, 1) := by decide +kernel
theorem d_Fi_store_1 : decode M_Fi_store.2.1 1 = .ok (.aload_n 0, 1) := by decide +kernel
theorem d_Fi_store_2 : decode M_Fi_store.2.1 2 = .ok (.getfield 18, 3) := by decide +kernel
theorem d_Fi_store_5 : decode M_Fi_store.2.1 5 = .ok (.iload_n 1, 1) := by decide +kernel
theorem d_Fi_store_6 : decode M_Fi_store.2.1 6 = .ok (.iaload, 1) := by decide +kernel
theorem d_Fi_store_7 : decode M_Fi_store.2.1 7 = .ok (.if_icmp .ge 17, 3) := by decide +kernel
theorem d_Fi_store_10 : decode M_Fi_store.2.1 10 = .ok (.aload_n 0, 1) := by decide +kernel
theorem d_Fi_store_11 : decode M_Fi_store.2.1 11 = .ok (.getfield 29, 3) := by decide +kernel
theorem d_Fi_store_14 : decode M_Fi_store.2.1 14 = .ok (.iload_n 1, 1) := by decide +kernel
theorem d_Fi_store_15 : decode M_Fi_store.2.1 15 = .ok (.aaload, 1) := by decide +kernel
theorem d_Fi_store_16 : decode M_Fi_store.2.1 16 = .ok (.iload_n 3, 1) := by decide +kernel
theorem d_Fi_store_17 : decode M_Fi_store.2.1 17 = .ok (.dup2, 1) := by decide +kernel
theorem d_Fi_store_18 : decode M_Fi_store.2.1 18 = .ok (.iaload, 1) := by decide +kernel
theorem d_Fi_store_19 : decode M_Fi_store.2.1 19 = .ok (.iconst 1, 1) := by decide +kernel
theorem d_Fi_store_20 : decode M_Fi_store.2.1 20 = .ok (.iload_n 2, 1) := by decide +kernel
theorem d_Fi_store_21 : decode M_Fi_store.2.1 21 = .ok (.ishl, 1) := by decide +kernel
theorem d_Fi_store_22 : decode M_Fi_store.2.1 22 = .ok (.ior, 1) := by decide +kernel
theorem d_Fi_store_23 : decode M_Fi_store.2.1 23 = .ok (.iastore, 1) := by decide +kernel
theorem d_Fi_store_24 : decode M_Fi_store.2.1 24 = .ok (.aload_n 0, 1) := by decide +kernel
theorem d_Fi_store_25 : decode M_Fi_store.2.1 25 = .ok (.getfield 32, 3) := by decide +kernel
theorem d_Fi_store_28 : decode M_Fi_store.2.1 28 = .ok (.iload_n 1, 1) := by decide +kernel
theorem d_Fi_store_29 : decode M_Fi_store.2.1 29 = .ok (.aaload, 1) := by decide +kernel
theorem d_Fi_store_30 : decode M_Fi_store.2.1 30 = .ok (.iload_n 3, 1) := by decide +kernel
theorem d_Fi_store_31 : decode M_Fi_store.2.1 31 = .ok (.aload_n 0, 1) := by decide +kernel
theorem d_Fi_store_32 : decode M_Fi_store.2.1 32 = .ok (.getfield 32, 3) := by decide +kernel
theorem d_Fi_store_35 : decode M_Fi_store.2.1 35 = .ok (.iload_n 1, 1) := by decide +kernel
theorem d_Fi_store_36 : decode M_Fi_store.2.1 36 = .ok (.aaload, 1) := by decide +kernel
theorem d_Fi_store_37 : decode M_Fi_store.2.1 37 = .ok (.iload_n 3, 1) := by decide +kernel
theorem d_Fi_store_38 : decode M_Fi_store.2.1 38 = .ok (.iaload, 1) := by decide +kernel
theorem d_Fi_store_39 : decode M_Fi_store.2.1 39 = .ok (.iload_n 2, 1) := by decide +kernel
theorem d_Fi_store_40 : decode M_Fi_store.2.1 40 = .ok (.iconst 1, 1) := by decide +kernel
theorem d_Fi_store_41 : decode M_Fi_store.2.1 41 = .ok (.iadd, 1) := by decide +kernel
theorem d_Fi_store_42 : decode M_Fi_store.2.1 42 = .ok (.aload_n 0, 1) := by decide +kernel
theorem d_Fi_store_43 : decode M_Fi_store.2.1 43 = .ok (.getfield 18, 3) := by decide +kernel
theorem d_Fi_store_46 : decode M_Fi_store.2.1 46 = .ok (.iload_n 1, 1) := by decide +kernel
theorem d_Fi_store_47 : decode M_Fi_store.2.1 47 = .ok (.iaload, 1) := by decide +kernel
theorem d_Fi_store_48 : decode M_Fi_store.2.1 48 = .ok (.invokestatic 70, 3) := by decide +kernel
theorem d_Fi_store_51 : decode M_Fi_store.2.1 51 = .ok (.invokestatic 76, 3) := by decide +kernel
theorem d_Fi_store_54 : decode M_Fi_store.2.1 54 = .ok (.iastore, 1) := by decide +kernel
theorem d_Fi_store_55 : decode M_Fi_store.2.1 55 = .ok (.return_, 1) := by decide +kernel
theorem d_MT_requests_0 : decode M_MT_requests.2.1 0 = .ok (.aload_n 0, 1) := by decide +kernel
theorem d_MT_requests_1 : decode M_MT_requests.2.1 1 = .ok (.getfield 73, 3) := by decide +kernel
theorem d_MT_requests_4 : decode M_MT_requests.2.1 4 = .ok (.iload_n 1, 1) := by decide +kernel
theorem d_MT_requests_5 : decode M_MT_requests.2.1 5 = .ok (.invokevirtual 191, 3) := by decide +kernel
theorem d_MT_requests_8 : decode M_MT_requests.2.1 8 = .ok (.ifCond .ne 5, 3) := by decide +kernel
theorem d_MT_requests_11 : decode M_MT_requests.2.1 11 = .ok (.iconst (-1), 1) := by decide +kernel
theorem d_MT_requests_12 : decode M_MT_requests.2.1 12 = .ok (.ireturn, 1) := by decide +kernel
theorem d_MT_requests_13 : decode M_MT_requests.2.1 13 = .ok (.aload_n 0, 1) := by decide +kernel
theorem d_MT_requests_14 : decode M_MT_requests.2.1 14 = .ok (.getfield 73, 3) := by decide +kernel
theorem d_MT_requests_17 : decode M_MT_requests.2.1 17 = .ok (.iload_n 1, 1) := by decide +kernel
theorem d_MT_requests_18 : decode M_MT_requests.2.1 18 = .ok (.invokevirtual 209, 3) := by decide +kernel
theorem d_MT_requests_21 : decode M_MT_requests.2.1 21 = .ok (.ireturn, 1) := by decide +kernel
theorem d_Fi_askAgain_0 : decode M_Fi_askAgain.2.1 0 = .ok (.aload_n 0, 1) := by decide +kernel
theorem d_Fi_askAgain_1 : decode M_Fi_askAgain.2.1 1 = .ok (.iload_n 1, 1) := by decide +kernel
theorem d_Fi_askAgain_2 : decode M_Fi_askAgain.2.1 2 = .ok (.invokevirtual 79, 3) := by decide +kernel
theorem d_Fi_askAgain_5 : decode M_Fi_askAgain.2.1 5 = .ok (.iconst 0, 1) := by decide +kernel
theorem d_Fi_askAgain_6 : decode M_Fi_askAgain.2.1 6 = .ok (.istore_n 2, 1) := by decide +kernel
theorem d_Fi_askAgain_7 : decode M_Fi_askAgain.2.1 7 = .ok (.iconst 0, 1) := by decide +kernel
theorem d_Fi_askAgain_8 : decode M_Fi_askAgain.2.1 8 = .ok (.istore_n 3, 1) := by decide +kernel
theorem d_Fi_askAgain_9 : decode M_Fi_askAgain.2.1 9 = .ok (.iconst 0, 1) := by decide +kernel
theorem d_Fi_askAgain_10 : decode M_Fi_askAgain.2.1 10 = .ok (.istore 4, 2) := by decide +kernel
theorem d_Fi_askAgain_12 : decode M_Fi_askAgain.2.1 12 = .ok (.iload 4, 2) := by decide +kernel
theorem d_Fi_askAgain_14 : decode M_Fi_askAgain.2.1 14 = .ok (.bipush 8, 2) := by decide +kernel
theorem d_Fi_askAgain_16 : decode M_Fi_askAgain.2.1 16 = .ok (.if_icmp .ge 88, 3) := by decide +kernel
theorem d_Fi_askAgain_19 : decode M_Fi_askAgain.2.1 19 = .ok (.iconst 0, 1) := by decide +kernel
theorem d_Fi_askAgain_20 : decode M_Fi_askAgain.2.1 20 = .ok (.istore 5, 2) := by decide +kernel
theorem d_Fi_askAgain_22 : decode M_Fi_askAgain.2.1 22 = .ok (.iload 5, 2) := by decide +kernel
theorem d_Fi_askAgain_24 : decode M_Fi_askAgain.2.1 24 = .ok (.bipush 6, 2) := by decide +kernel
theorem d_Fi_askAgain_26 : decode M_Fi_askAgain.2.1 26 = .ok (.if_icmp .ge 72, 3) := by decide +kernel
theorem d_Fi_askAgain_29 : decode M_Fi_askAgain.2.1 29 = .ok (.aload_n 0, 1) := by decide +kernel
theorem d_Fi_askAgain_30 : decode M_Fi_askAgain.2.1 30 = .ok (.getfield 35, 3) := by decide +kernel
theorem d_Fi_askAgain_33 : decode M_Fi_askAgain.2.1 33 = .ok (.iload 5, 2) := by decide +kernel
theorem d_Fi_askAgain_35 : decode M_Fi_askAgain.2.1 35 = .ok (.iaload, 1) := by decide +kernel
theorem d_Fi_askAgain_36 : decode M_Fi_askAgain.2.1 36 = .ok (.iload 4, 2) := by decide +kernel
theorem d_Fi_askAgain_38 : decode M_Fi_askAgain.2.1 38 = .ok (.if_icmp .eq 6, 3) := by decide +kernel
theorem d_Fi_askAgain_41 : decode M_Fi_askAgain.2.1 41 = .ok (.goto 51, 3) := by decide +kernel
theorem d_Fi_askAgain_44 : decode M_Fi_askAgain.2.1 44 = .ok (.aload_n 0, 1) := by decide +kernel
theorem d_Fi_askAgain_45 : decode M_Fi_askAgain.2.1 45 = .ok (.iload_n 1, 1) := by decide +kernel
theorem d_Fi_askAgain_46 : decode M_Fi_askAgain.2.1 46 = .ok (.iload 5, 2) := by decide +kernel
theorem d_Fi_askAgain_48 : decode M_Fi_askAgain.2.1 48 = .ok (.invokevirtual 83, 3) := by decide +kernel
theorem d_Fi_askAgain_51 : decode M_Fi_askAgain.2.1 51 = .ok (.iload_n 2, 1) := by decide +kernel
theorem d_Fi_askAgain_52 : decode M_Fi_askAgain.2.1 52 = .ok (.iconst (-1), 1) := by decide +kernel
theorem d_Fi_askAgain_53 : decode M_Fi_askAgain.2.1 53 = .ok (.ixor, 1) := by decide +kernel
theorem d_Fi_askAgain_54 : decode M_Fi_askAgain.2.1 54 = .ok (.iand, 1) := by decide +kernel
theorem d_Fi_askAgain_55 : decode M_Fi_askAgain.2.1 55 = .ok (.ifCond .ne 15, 3) := by decide +kernel
theorem d_Fi_askAgain_58 : decode M_Fi_askAgain.2.1 58 = .ok (.aload_n 0, 1) := by decide +kernel
theorem d_Fi_askAgain_59 : decode M_Fi_askAgain.2.1 59 = .ok (.getfield 53, 3) := by decide +kernel
theorem d_Fi_askAgain_62 : decode M_Fi_askAgain.2.1 62 = .ok (.bipush 9, 2) := by decide +kernel
theorem d_Fi_askAgain_64 : decode M_Fi_askAgain.2.1 64 = .ok (.invokevirtual 86, 3) := by decide +kernel
theorem d_Fi_askAgain_67 : decode M_Fi_askAgain.2.1 67 = .ok (.goto 25, 3) := by decide +kernel
theorem d_Fi_askAgain_70 : decode M_Fi_askAgain.2.1 70 = .ok (.aload_n 0, 1) := by decide +kernel
theorem d_Fi_askAgain_71 : decode M_Fi_askAgain.2.1 71 = .ok (.getfield 53, 3) := by decide +kernel
theorem d_Fi_askAgain_74 : decode M_Fi_askAgain.2.1 74 = .ok (.bipush 8, 2) := by decide +kernel
theorem d_Fi_askAgain_76 : decode M_Fi_askAgain.2.1 76 = .ok (.invokevirtual 86, 3) := by decide +kernel
theorem d_Fi_askAgain_79 : decode M_Fi_askAgain.2.1 79 = .ok (.iinc 3 1, 3) := by decide +kernel
theorem d_Fi_askAgain_82 : decode M_Fi_askAgain.2.1 82 = .ok (.iload_n 2, 1) := by decide +kernel
theorem d_Fi_askAgain_83 : decode M_Fi_askAgain.2.1 83 = .ok (.aload_n 0, 1) := by decide +kernel
theorem d_Fi_askAgain_84 : decode M_Fi_askAgain.2.1 84 = .ok (.iload_n 1, 1) := by decide +kernel
theorem d_Fi_askAgain_85 : decode M_Fi_askAgain.2.1 85 = .ok (.iload 5, 2) := by decide +kernel
theorem d_Fi_askAgain_87 : decode M_Fi_askAgain.2.1 87 = .ok (.invokevirtual 83, 3) := by decide +kernel
theorem d_Fi_askAgain_90 : decode M_Fi_askAgain.2.1 90 = .ok (.ior, 1) := by decide +kernel
theorem d_Fi_askAgain_91 : decode M_Fi_askAgain.2.1 91 = .ok (.istore_n 2, 1) := by decide +kernel
theorem d_Fi_askAgain_92 : decode M_Fi_askAgain.2.1 92 = .ok (.iinc 5 1, 3) := by decide +kernel
theorem d_Fi_askAgain_95 : decode M_Fi_askAgain.2.1 95 = .ok (.goto (-73), 3) := by decide +kernel
theorem d_Fi_askAgain_98 : decode M_Fi_askAgain.2.1 98 = .ok (.iinc 4 1, 3) := by decide +kernel
theorem d_Fi_askAgain_101 : decode M_Fi_askAgain.2.1 101 = .ok (.goto (-89), 3) := by decide +kernel
theorem d_Fi_askAgain_104 : decode M_Fi_askAgain.2.1 104 = .ok (.aload_n 0, 1) := by decide +kernel
theorem d_Fi_askAgain_105 : decode M_Fi_askAgain.2.1 105 = .ok (.getfield 24, 3) := by decide +kernel
theorem d_Fi_askAgain_108 : decode M_Fi_askAgain.2.1 108 = .ok (.iload_n 1, 1) := by decide +kernel
theorem d_Fi_askAgain_109 : decode M_Fi_askAgain.2.1 109 = .ok (.dup2, 1) := by decide +kernel
theorem d_Fi_askAgain_110 : decode M_Fi_askAgain.2.1 110 = .ok (.iaload, 1) := by decide +kernel
theorem d_Fi_askAgain_111 : decode M_Fi_askAgain.2.1 111 = .ok (.iload_n 2, 1) := by decide +kernel
theorem d_Fi_askAgain_112 : decode M_Fi_askAgain.2.1 112 = .ok (.ior, 1) := by decide +kernel
theorem d_Fi_askAgain_113 : decode M_Fi_askAgain.2.1 113 = .ok (.iastore, 1) := by decide +kernel
theorem d_Fi_askAgain_114 : decode M_Fi_askAgain.2.1 114 = .ok (.iload_n 3, 1) := by decide +kernel
theorem d_Fi_askAgain_115 : decode M_Fi_askAgain.2.1 115 = .ok (.ireturn, 1) := by decide +kernel
theorem d_Fi_drawWaits_0 : decode M_Fi_drawWaits.2.1 0 = .ok (.iconst 0, 1) := by decide +kernel
theorem d_Fi_drawWaits_1 : decode M_Fi_drawWaits.2.1 1 = .ok (.istore_n 2, 1) := by decide +kernel
theorem d_Fi_drawWaits_2 : decode M_Fi_drawWaits.2.1 2 = .ok (.iload_n 2, 1) := by decide +kernel
theorem d_Fi_drawWaits_3 : decode M_Fi_drawWaits.2.1 3 = .ok (.bipush 6, 2) := by decide +kernel
theorem d_Fi_drawWaits_5 : decode M_Fi_drawWaits.2.1 5 = .ok (.if_icmp .ge 32, 3) := by decide +kernel
theorem d_Fi_drawWaits_8 : decode M_Fi_drawWaits.2.1 8 = .ok (.aload_n 0, 1) := by decide +kernel
theorem d_Fi_drawWaits_9 : decode M_Fi_drawWaits.2.1 9 = .ok (.getfield 35, 3) := by decide +kernel
theorem d_Fi_drawWaits_12 : decode M_Fi_drawWaits.2.1 12 = .ok (.iload_n 2, 1) := by decide +kernel
theorem d_Fi_drawWaits_13 : decode M_Fi_drawWaits.2.1 13 = .ok (.aload_n 0, 1) := by decide +kernel
theorem d_Fi_drawWaits_14 : decode M_Fi_drawWaits.2.1 14 = .ok (.iload_n 1, 1) := by decide +kernel
theorem d_Fi_drawWaits_15 : decode M_Fi_drawWaits.2.1 15 = .ok (.iload_n 2, 1) := by decide +kernel
theorem d_Fi_drawWaits_16 : decode M_Fi_drawWaits.2.1 16 = .ok (.invokevirtual 90, 3) := by decide +kernel
theorem d_Fi_drawWaits_19 : decode M_Fi_drawWaits.2.1 19 = .ok (.ifCond .eq 10, 3) := by decide +kernel
theorem d_Fi_drawWaits_22 : decode M_Fi_drawWaits.2.1 22 = .ok (.aload_n 0, 1) := by decide +kernel
theorem d_Fi_drawWaits_23 : decode M_Fi_drawWaits.2.1 23 = .ok (.invokevirtual 93, 3) := by decide +kernel
theorem d_Fi_drawWaits_26 : decode M_Fi_drawWaits.2.1 26 = .ok (.goto 4, 3) := by decide +kernel
theorem d_Fi_drawWaits_29 : decode M_Fi_drawWaits.2.1 29 = .ok (.iconst (-1), 1) := by decide +kernel
theorem d_Fi_drawWaits_30 : decode M_Fi_drawWaits.2.1 30 = .ok (.iastore, 1) := by decide +kernel
theorem d_Fi_drawWaits_31 : decode M_Fi_drawWaits.2.1 31 = .ok (.iinc 2 1, 3) := by decide +kernel
theorem d_Fi_drawWaits_34 : decode M_Fi_drawWaits.2.1 34 = .ok (.goto (-32), 3) := by decide +kernel
theorem d_Fi_drawWaits_37 : decode M_Fi_drawWaits.2.1 37 = .ok (.return_, 1) := by decide +kernel
theorem d_Fi_takesPart_0 : decode M_Fi_takesPart.2.1 0 = .ok (.aload_n 0, 1) := by decide +kernel
theorem d_Fi_takesPart_1 : decode M_Fi_takesPart.2.1 1 = .ok (.getfield 45, 3) := by decide +kernel
theorem d_Fi_takesPart_4 : decode M_Fi_takesPart.2.1 4 = .ok (.iload_n 2, 1) := by decide +kernel
theorem d_Fi_takesPart_5 : decode M_Fi_takesPart.2.1 5 = .ok (.aload_n 0, 1) := by decide +kernel
theorem d_Fi_takesPart_6 : decode M_Fi_takesPart.2.1 6 = .ok (.getfield 9, 3) := by decide +kernel
theorem d_Fi_takesPart_9 : decode M_Fi_takesPart.2.1 9 = .ok (.iload_n 1, 1) := by decide +kernel
theorem d_Fi_takesPart_10 : decode M_Fi_takesPart.2.1 10 = .ok (.iaload, 1) := by decide +kernel
theorem d_Fi_takesPart_11 : decode M_Fi_takesPart.2.1 11 = .ok (.invokevirtual 97, 3) := by decide +kernel
theorem d_Fi_takesPart_14 : decode M_Fi_takesPart.2.1 14 = .ok (.ifCond .eq 33, 3) := by decide +kernel
theorem d_Fi_takesPart_17 : decode M_Fi_takesPart.2.1 17 = .ok (.aload_n 0, 1) := by decide +kernel
theorem d_Fi_takesPart_18 : decode M_Fi_takesPart.2.1 18 = .ok (.getfield 49, 3) := by decide +kernel
theorem d_Fi_takesPart_21 : decode M_Fi_takesPart.2.1 21 = .ok (.iload_n 2, 1) := by decide +kernel
theorem d_Fi_takesPart_22 : decode M_Fi_takesPart.2.1 22 = .ok (.aload_n 0, 1) := by decide +kernel
theorem d_Fi_takesPart_23 : decode M_Fi_takesPart.2.1 23 = .ok (.getfield 15, 3) := by decide +kernel
theorem d_Fi_takesPart_26 : decode M_Fi_takesPart.2.1 26 = .ok (.iload_n 1, 1) := by decide +kernel
theorem d_Fi_takesPart_27 : decode M_Fi_takesPart.2.1 27 = .ok (.iaload, 1) := by decide +kernel
theorem d_Fi_takesPart_28 : decode M_Fi_takesPart.2.1 28 = .ok (.invokevirtual 61, 3) := by decide +kernel
theorem d_Fi_takesPart_31 : decode M_Fi_takesPart.2.1 31 = .ok (.ifCond .eq 16, 3) := by decide +kernel
theorem d_Fi_takesPart_34 : decode M_Fi_takesPart.2.1 34 = .ok (.aload_n 0, 1) := by decide +kernel
theorem d_Fi_takesPart_35 : decode M_Fi_takesPart.2.1 35 = .ok (.iload_n 1, 1) := by decide +kernel
theorem d_Fi_takesPart_36 : decode M_Fi_takesPart.2.1 36 = .ok (.iload_n 2, 1) := by decide +kernel
theorem d_Fi_takesPart_37 : decode M_Fi_takesPart.2.1 37 = .ok (.invokevirtual 83, 3) := by decide +kernel
theorem d_Fi_takesPart_40 : decode M_Fi_takesPart.2.1 40 = .ok (.ifCond .eq 7, 3) := by decide +kernel
theorem d_Fi_takesPart_43 : decode M_Fi_takesPart.2.1 43 = .ok (.iconst 1, 1) := by decide +kernel
theorem d_Fi_takesPart_44 : decode M_Fi_takesPart.2.1 44 = .ok (.goto 4, 3) := by decide +kernel
theorem d_Fi_takesPart_47 : decode M_Fi_takesPart.2.1 47 = .ok (.iconst 0, 1) := by decide +kernel
theorem d_Fi_takesPart_48 : decode M_Fi_takesPart.2.1 48 = .ok (.ireturn, 1) := by decide +kernel
theorem d_Fi_missingAt_0 : decode M_Fi_missingAt.2.1 0 = .ok (.iconst 1, 1) := by decide +kernel
theorem d_Fi_missingAt_1 : decode M_Fi_missingAt.2.1 1 = .ok (.aload_n 0, 1) := by decide +kernel
theorem d_Fi_missingAt_2 : decode M_Fi_missingAt.2.1 2 = .ok (.getfield 32, 3) := by decide +kernel
theorem d_Fi_missingAt_5 : decode M_Fi_missingAt.2.1 5 = .ok (.iload_n 1, 1) := by decide +kernel
theorem d_Fi_missingAt_6 : decode M_Fi_missingAt.2.1 6 = .ok (.aaload, 1) := by decide +kernel
theorem d_Fi_missingAt_7 : decode M_Fi_missingAt.2.1 7 = .ok (.iload_n 2, 1) := by decide +kernel
theorem d_Fi_missingAt_8 : decode M_Fi_missingAt.2.1 8 = .ok (.iaload, 1) := by decide +kernel
theorem d_Fi_missingAt_9 : decode M_Fi_missingAt.2.1 9 = .ok (.ishl, 1) := by decide +kernel
theorem d_Fi_missingAt_10 : decode M_Fi_missingAt.2.1 10 = .ok (.iconst 1, 1) := by decide +kernel
theorem d_Fi_missingAt_11 : decode M_Fi_missingAt.2.1 11 = .ok (.isub, 1) := by decide +kernel
theorem d_Fi_missingAt_12 : decode M_Fi_missingAt.2.1 12 = .ok (.aload_n 0, 1) := by decide +kernel
theorem d_Fi_missingAt_13 : decode M_Fi_missingAt.2.1 13 = .ok (.getfield 29, 3) := by decide +kernel
theorem d_Fi_missingAt_16 : decode M_Fi_missingAt.2.1 16 = .ok (.iload_n 1, 1) := by decide +kernel
theorem d_Fi_missingAt_17 : decode M_Fi_missingAt.2.1 17 = .ok (.aaload, 1) := by decide +kernel
theorem d_Fi_missingAt_18 : decode M_Fi_missingAt.2.1 18 = .ok (.iload_n 2, 1) := by decide +kernel
theorem d_Fi_missingAt_19 : decode M_Fi_missingAt.2.1 19 = .ok (.iaload, 1) := by decide +kernel
theorem d_Fi_missingAt_20 : decode M_Fi_missingAt.2.1 20 = .ok (.iconst (-1), 1) := by decide +kernel
theorem d_Fi_missingAt_21 : decode M_Fi_missingAt.2.1 21 = .ok (.ixor, 1) := by decide +kernel
theorem d_Fi_missingAt_22 : decode M_Fi_missingAt.2.1 22 = .ok (.iand, 1) := by decide +kernel
theorem d_Fi_missingAt_23 : decode M_Fi_missingAt.2.1 23 = .ok (.ireturn, 1) := by decide +kernel
theorem d_Fi_draw_0 : decode M_Fi_draw.2.1 0 = .ok (.aload_n 0, 1) := by decide +kernel
theorem d_Fi_draw_1 : decode M_Fi_draw.2.1 1 = .ok (.aload_n 0, 1) := by decide +kernel
theorem d_Fi_draw_2 : decode M_Fi_draw.2.1 2 = .ok (.getfield 42, 3) := by decide +kernel
theorem d_Fi_draw_5 : decode M_Fi_draw.2.1 5 = .ok (.ldc 102, 2) := by decide +kernel
theorem d_Fi_draw_7 : decode M_Fi_draw.2.1 7 = .ok (.imul, 1) := by decide +kernel
theorem d_Fi_draw_8 : decode M_Fi_draw.2.1 8 = .ok (.sipush 12345, 3) := by decide +kernel
theorem d_Fi_draw_11 : decode M_Fi_draw.2.1 11 = .ok (.iadd, 1) := by decide +kernel
theorem d_Fi_draw_12 : decode M_Fi_draw.2.1 12 = .ok (.putfield 42, 3) := by decide +kernel
theorem d_Fi_draw_15 : decode M_Fi_draw.2.1 15 = .ok (.aload_n 0, 1) := by decide +kernel
theorem d_Fi_draw_16 : decode M_Fi_draw.2.1 16 = .ok (.getfield 42, 3) := by decide +kernel
theorem d_Fi_draw_19 : decode M_Fi_draw.2.1 19 = .ok (.bipush 16, 2) := by decide +kernel
theorem d_Fi_draw_21 : decode M_Fi_draw.2.1 21 = .ok (.iushr, 1) := by decide +kernel
theorem d_Fi_draw_22 : decode M_Fi_draw.2.1 22 = .ok (.bipush 7, 2) := by decide +kernel
theorem d_Fi_draw_24 : decode M_Fi_draw.2.1 24 = .ok (.iand, 1) := by decide +kernel
theorem d_Fi_draw_25 : decode M_Fi_draw.2.1 25 = .ok (.ireturn, 1) := by decide +kernel
theorem d_MT_have_0 : decode M_MT_have.2.1 0 = .ok (.aload_n 0, 1) := by decide +kernel
theorem d_MT_have_1 : decode M_MT_have.2.1 1 = .ok (.getfield 73, 3) := by decide +kernel
theorem d_MT_have_4 : decode M_MT_have.2.1 4 = .ok (.iload_n 1, 1) := by decide +kernel
theorem d_MT_have_5 : decode M_MT_have.2.1 5 = .ok (.invokevirtual 191, 3) := by decide +kernel
theorem d_MT_have_8 : decode M_MT_have.2.1 8 = .ok (.ifCond .eq 10, 3) := by decide +kernel
theorem d_MT_have_11 : decode M_MT_have.2.1 11 = .ok (.iload_n 2, 1) := by decide +kernel
theorem d_MT_have_12 : decode M_MT_have.2.1 12 = .ok (.invokestatic 9, 3) := by decide +kernel
theorem d_MT_have_15 : decode M_MT_have.2.1 15 = .ok (.ifCond .ne 5, 3) := by decide +kernel
theorem d_MT_have_18 : decode M_MT_have.2.1 18 = .ok (.iconst (-1), 1) := by decide +kernel
theorem d_MT_have_19 : decode M_MT_have.2.1 19 = .ok (.ireturn, 1) := by decide +kernel
theorem d_MT_have_20 : decode M_MT_have.2.1 20 = .ok (.aload_n 0, 1) := by decide +kernel
theorem d_MT_have_21 : decode M_MT_have.2.1 21 = .ok (.getfield 73, 3) := by decide +kernel
theorem d_MT_have_24 : decode M_MT_have.2.1 24 = .ok (.iload_n 1, 1) := by decide +kernel
theorem d_MT_have_25 : decode M_MT_have.2.1 25 = .ok (.iload_n 2, 1) := by decide +kernel
theorem d_MT_have_26 : decode M_MT_have.2.1 26 = .ok (.invokevirtual 212, 3) := by decide +kernel
theorem d_MT_have_29 : decode M_MT_have.2.1 29 = .ok (.ireturn, 1) := by decide +kernel
theorem d_Fi_blocksAt_0 : decode M_Fi_blocksAt.2.1 0 = .ok (.aload_n 0, 1) := by decide +kernel
theorem d_Fi_blocksAt_1 : decode M_Fi_blocksAt.2.1 1 = .ok (.getfield 29, 3) := by decide +kernel
theorem d_Fi_blocksAt_4 : decode M_Fi_blocksAt.2.1 4 = .ok (.iload_n 1, 1) := by decide +kernel
theorem d_Fi_blocksAt_5 : decode M_Fi_blocksAt.2.1 5 = .ok (.aaload, 1) := by decide +kernel
theorem d_Fi_blocksAt_6 : decode M_Fi_blocksAt.2.1 6 = .ok (.iload_n 2, 1) := by decide +kernel
theorem d_Fi_blocksAt_7 : decode M_Fi_blocksAt.2.1 7 = .ok (.iaload, 1) := by decide +kernel
theorem d_Fi_blocksAt_8 : decode M_Fi_blocksAt.2.1 8 = .ok (.ireturn, 1) := by decide +kernel
