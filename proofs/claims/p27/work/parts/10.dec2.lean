theorem dX4_addThing_39 : decode cX4_addThing 39 = .ok (.getfield 326, 3) := by decide +kernel
theorem dX4_addThing_42 : decode cX4_addThing 42 = .ok (.invokevirtual 461, 3) := by decide +kernel
theorem dX4_addThing_45 : decode cX4_addThing 45 = .ok (.aload_n 2, 1) := by decide +kernel
theorem dX4_addThing_46 : decode cX4_addThing 46 = .ok (.aload 6, 2) := by decide +kernel
theorem dX4_addThing_48 : decode cX4_addThing 48 = .ok (.getfield 432, 3) := by decide +kernel
theorem dX4_addThing_51 : decode cX4_addThing 51 = .ok (.invokevirtual 465, 3) := by decide +kernel
theorem dX4_addThing_54 : decode cX4_addThing 54 = .ok (.ifCond .eq 12, 3) := by decide +kernel
theorem dX4_addThing_57 : decode cX4_addThing 57 = .ok (.aload_n 0, 1) := by decide +kernel
theorem dX4_addThing_58 : decode cX4_addThing 58 = .ok (.aload_n 1, 1) := by decide +kernel
theorem dX4_addThing_59 : decode cX4_addThing 59 = .ok (.aload_n 2, 1) := by decide +kernel
theorem dX4_addThing_60 : decode cX4_addThing 60 = .ok (.aload 6, 2) := by decide +kernel
theorem dX4_addThing_62 : decode cX4_addThing 62 = .ok (.invokevirtual 469, 3) := by decide +kernel
theorem dX4_addThing_65 : decode cX4_addThing 65 = .ok (.return_, 1) := by decide +kernel
theorem dX4_addThing_66 : decode cX4_addThing 66 = .ok (.iload 7, 2) := by decide +kernel
theorem dX4_addThing_68 : decode cX4_addThing 68 = .ok (.ifCond .eq 74, 3) := by decide +kernel
theorem dX4_addThing_71 : decode cX4_addThing 71 = .ok (.aload_n 2, 1) := by decide +kernel
theorem dX4_addThing_72 : decode cX4_addThing 72 = .ok (.iload 5, 2) := by decide +kernel
theorem dX4_addThing_74 : decode cX4_addThing 74 = .ok (.iconst 1, 1) := by decide +kernel
theorem dX4_addThing_75 : decode cX4_addThing 75 = .ok (.iadd, 1) := by decide +kernel
theorem dX4_addThing_76 : decode cX4_addThing 76 = .ok (.invokevirtual 465, 3) := by decide +kernel
theorem dX4_addThing_79 : decode cX4_addThing 79 = .ok (.ifCond .eq 63, 3) := by decide +kernel
theorem dX4_addThing_82 : decode cX4_addThing 82 = .ok (.aload 4, 2) := by decide +kernel
theorem dX4_addThing_84 : decode cX4_addThing 84 = .ok (.aload_n 3, 1) := by decide +kernel
theorem dX4_addThing_85 : decode cX4_addThing 85 = .ok (.getfield 432, 3) := by decide +kernel
theorem dX4_addThing_88 : decode cX4_addThing 88 = .ok (.iload 5, 2) := by decide +kernel
theorem dX4_addThing_90 : decode cX4_addThing 90 = .ok (.isub, 1) := by decide +kernel
theorem dX4_addThing_91 : decode cX4_addThing 91 = .ok (.putfield 432, 3) := by decide +kernel
theorem dX4_addThing_94 : decode cX4_addThing 94 = .ok (.aload 4, 2) := by decide +kernel
theorem dX4_addThing_96 : decode cX4_addThing 96 = .ok (.aload_n 3, 1) := by decide +kernel
theorem dX4_addThing_97 : decode cX4_addThing 97 = .ok (.getfield 435, 3) := by decide +kernel
theorem dX4_addThing_100 : decode cX4_addThing 100 = .ok (.putfield 435, 3) := by decide +kernel
theorem dX4_addThing_103 : decode cX4_addThing 103 = .ok (.aload 4, 2) := by decide +kernel
theorem dX4_addThing_105 : decode cX4_addThing 105 = .ok (.aload_n 3, 1) := by decide +kernel
theorem dX4_addThing_106 : decode cX4_addThing 106 = .ok (.getfield 438, 3) := by decide +kernel
theorem dX4_addThing_109 : decode cX4_addThing 109 = .ok (.putfield 438, 3) := by decide +kernel
theorem dX4_addThing_112 : decode cX4_addThing 112 = .ok (.aload_n 3, 1) := by decide +kernel
theorem dX4_addThing_113 : decode cX4_addThing 113 = .ok (.iload 5, 2) := by decide +kernel
theorem dX4_addThing_115 : decode cX4_addThing 115 = .ok (.iconst 1, 1) := by decide +kernel
theorem dX4_addThing_116 : decode cX4_addThing 116 = .ok (.iadd, 1) := by decide +kernel
theorem dX4_addThing_117 : decode cX4_addThing 117 = .ok (.putfield 432, 3) := by decide +kernel
theorem dX4_addThing_120 : decode cX4_addThing 120 = .ok (.aload_n 0, 1) := by decide +kernel
theorem dX4_addThing_121 : decode cX4_addThing 121 = .ok (.aload_n 1, 1) := by decide +kernel
theorem dX4_addThing_122 : decode cX4_addThing 122 = .ok (.aload_n 2, 1) := by decide +kernel
theorem dX4_addThing_123 : decode cX4_addThing 123 = .ok (.aload_n 3, 1) := by decide +kernel
theorem dX4_addThing_124 : decode cX4_addThing 124 = .ok (.invokevirtual 469, 3) := by decide +kernel
theorem dX4_addThing_127 : decode cX4_addThing 127 = .ok (.aload_n 0, 1) := by decide +kernel
theorem dX4_addThing_128 : decode cX4_addThing 128 = .ok (.aload_n 2, 1) := by decide +kernel
theorem dX4_addThing_129 : decode cX4_addThing 129 = .ok (.invokevirtual 419, 3) := by decide +kernel
theorem dX4_addThing_132 : decode cX4_addThing 132 = .ok (.aload 4, 2) := by decide +kernel
theorem dX4_addThing_134 : decode cX4_addThing 134 = .ok (.astore 6, 2) := by decide +kernel
theorem dX4_addThing_136 : decode cX4_addThing 136 = .ok (.iconst 0, 1) := by decide +kernel
theorem dX4_addThing_137 : decode cX4_addThing 137 = .ok (.istore 7, 2) := by decide +kernel
theorem dX4_addThing_139 : decode cX4_addThing 139 = .ok (.goto 49, 3) := by decide +kernel
theorem dX4_addThing_142 : decode cX4_addThing 142 = .ok (.aload_n 2, 1) := by decide +kernel
theorem dX4_addThing_143 : decode cX4_addThing 143 = .ok (.getfield 458, 3) := by decide +kernel
theorem dX4_addThing_146 : decode cX4_addThing 146 = .ok (.ifCond .le 11, 3) := by decide +kernel
theorem dX4_addThing_149 : decode cX4_addThing 149 = .ok (.aload_n 0, 1) := by decide +kernel
theorem dX4_addThing_150 : decode cX4_addThing 150 = .ok (.aload_n 2, 1) := by decide +kernel
theorem dX4_addThing_151 : decode cX4_addThing 151 = .ok (.invokevirtual 419, 3) := by decide +kernel
theorem dX4_addThing_154 : decode cX4_addThing 154 = .ok (.goto 34, 3) := by decide +kernel
theorem dX4_addThing_157 : decode cX4_addThing 157 = .ok (.aload_n 2, 1) := by decide +kernel
theorem dX4_addThing_158 : decode cX4_addThing 158 = .ok (.getfield 473, 3) := by decide +kernel
theorem dX4_addThing_161 : decode cX4_addThing 161 = .ok (.ifCond .eq 18, 3) := by decide +kernel
theorem dX4_addThing_164 : decode cX4_addThing 164 = .ok (.aload_n 2, 1) := by decide +kernel
theorem dX4_addThing_165 : decode cX4_addThing 165 = .ok (.aload_n 2, 1) := by decide +kernel
theorem dX4_addThing_166 : decode cX4_addThing 166 = .ok (.aload_n 2, 1) := by decide +kernel
theorem dX4_addThing_167 : decode cX4_addThing 167 = .ok (.getfield 326, 3) := by decide +kernel
theorem dX4_addThing_170 : decode cX4_addThing 170 = .ok (.invokevirtual 476, 3) := by decide +kernel
theorem dX4_addThing_173 : decode cX4_addThing 173 = .ok (.putfield 326, 3) := by decide +kernel
theorem dX4_addThing_176 : decode cX4_addThing 176 = .ok (.goto 12, 3) := by decide +kernel
theorem dX4_addThing_179 : decode cX4_addThing 179 = .ok (.aload_n 0, 1) := by decide +kernel
theorem dX4_addThing_180 : decode cX4_addThing 180 = .ok (.aload_n 1, 1) := by decide +kernel
theorem dX4_addThing_181 : decode cX4_addThing 181 = .ok (.aload_n 2, 1) := by decide +kernel
theorem dX4_addThing_182 : decode cX4_addThing 182 = .ok (.aload 6, 2) := by decide +kernel
theorem dX4_addThing_184 : decode cX4_addThing 184 = .ok (.invokevirtual 469, 3) := by decide +kernel
theorem dX4_addThing_187 : decode cX4_addThing 187 = .ok (.return_, 1) := by decide +kernel
theorem dX4_addThing_188 : decode cX4_addThing 188 = .ok (.iinc 8 1, 3) := by decide +kernel
theorem dX4_addThing_191 : decode cX4_addThing 191 = .ok (.goto (-173), 3) := by decide +kernel
theorem dX4_addThing_194 : decode cX4_addThing 194 = .ok (.return_, 1) := by decide +kernel
theorem dX4_putThing_0 : decode cX4_putThing 0 = .ok (.aload_n 2, 1) := by decide +kernel
theorem dX4_putThing_1 : decode cX4_putThing 1 = .ok (.getfield 458, 3) := by decide +kernel
theorem dX4_putThing_4 : decode cX4_putThing 4 = .ok (.ifCond .ne 39, 3) := by decide +kernel
theorem dX4_putThing_7 : decode cX4_putThing 7 = .ok (.aload_n 2, 1) := by decide +kernel
theorem dX4_putThing_8 : decode cX4_putThing 8 = .ok (.aload_n 0, 1) := by decide +kernel
theorem dX4_putThing_9 : decode cX4_putThing 9 = .ok (.aload_n 0, 1) := by decide +kernel
theorem dX4_putThing_10 : decode cX4_putThing 10 = .ok (.aload_n 1, 1) := by decide +kernel
theorem dX4_putThing_11 : decode cX4_putThing 11 = .ok (.invokevirtual 35, 3) := by decide +kernel
theorem dX4_putThing_14 : decode cX4_putThing 14 = .ok (.invokevirtual 479, 3) := by decide +kernel
theorem dX4_putThing_17 : decode cX4_putThing 17 = .ok (.putfield 483, 3) := by decide +kernel
theorem dX4_putThing_20 : decode cX4_putThing 20 = .ok (.aload_n 2, 1) := by decide +kernel
theorem dX4_putThing_21 : decode cX4_putThing 21 = .ok (.aload_n 3, 1) := by decide +kernel
theorem dX4_putThing_22 : decode cX4_putThing 22 = .ok (.getfield 435, 3) := by decide +kernel
theorem dX4_putThing_25 : decode cX4_putThing 25 = .ok (.putfield 484, 3) := by decide +kernel
theorem dX4_putThing_28 : decode cX4_putThing 28 = .ok (.aload_n 2, 1) := by decide +kernel
theorem dX4_putThing_29 : decode cX4_putThing 29 = .ok (.aload_n 3, 1) := by decide +kernel
theorem dX4_putThing_30 : decode cX4_putThing 30 = .ok (.getfield 438, 3) := by decide +kernel
theorem dX4_putThing_33 : decode cX4_putThing 33 = .ok (.putfield 485, 3) := by decide +kernel
theorem dX4_putThing_36 : decode cX4_putThing 36 = .ok (.aload_n 2, 1) := by decide +kernel
theorem dX4_putThing_37 : decode cX4_putThing 37 = .ok (.ldc_w 486, 3) := by decide +kernel
theorem dX4_putThing_40 : decode cX4_putThing 40 = .ok (.putfield 455, 3) := by decide +kernel
theorem dX4_putThing_43 : decode cX4_putThing 43 = .ok (.aload_n 3, 1) := by decide +kernel
theorem dX4_putThing_44 : decode cX4_putThing 44 = .ok (.aload_n 2, 1) := by decide +kernel
theorem dX4_putThing_45 : decode cX4_putThing 45 = .ok (.getfield 483, 3) := by decide +kernel
theorem dX4_putThing_48 : decode cX4_putThing 48 = .ok (.putfield 441, 3) := by decide +kernel
theorem dX4_putThing_51 : decode cX4_putThing 51 = .ok (.aload_n 3, 1) := by decide +kernel
theorem dX4_putThing_52 : decode cX4_putThing 52 = .ok (.aload_n 2, 1) := by decide +kernel
theorem dX4_putThing_53 : decode cX4_putThing 53 = .ok (.invokevirtual 487, 3) := by decide +kernel
theorem dX4_putThing_56 : decode cX4_putThing 56 = .ok (.putfield 452, 3) := by decide +kernel
theorem dX4_putThing_59 : decode cX4_putThing 59 = .ok (.aload_n 2, 1) := by decide +kernel
theorem dX4_putThing_60 : decode cX4_putThing 60 = .ok (.aload_n 3, 1) := by decide +kernel
theorem dX4_putThing_61 : decode cX4_putThing 61 = .ok (.getfield 452, 3) := by decide +kernel
theorem dX4_putThing_64 : decode cX4_putThing 64 = .ok (.aload_n 3, 1) := by decide +kernel
theorem dX4_putThing_65 : decode cX4_putThing 65 = .ok (.getfield 432, 3) := by decide +kernel
theorem dX4_putThing_68 : decode cX4_putThing 68 = .ok (.iadd, 1) := by decide +kernel
theorem dX4_putThing_69 : decode cX4_putThing 69 = .ok (.putfield 490, 3) := by decide +kernel
theorem dX4_putThing_72 : decode cX4_putThing 72 = .ok (.aload_n 2, 1) := by decide +kernel
theorem dX4_putThing_73 : decode cX4_putThing 73 = .ok (.aload_n 2, 1) := by decide +kernel
theorem dX4_putThing_74 : decode cX4_putThing 74 = .ok (.getfield 484, 3) := by decide +kernel
theorem dX4_putThing_77 : decode cX4_putThing 77 = .ok (.aload_n 3, 1) := by decide +kernel
theorem dX4_putThing_78 : decode cX4_putThing 78 = .ok (.getfield 435, 3) := by decide +kernel
theorem dX4_putThing_81 : decode cX4_putThing 81 = .ok (.invokestatic 188, 3) := by decide +kernel
theorem dX4_putThing_84 : decode cX4_putThing 84 = .ok (.putfield 484, 3) := by decide +kernel
theorem dX4_putThing_87 : decode cX4_putThing 87 = .ok (.aload_n 2, 1) := by decide +kernel
theorem dX4_putThing_88 : decode cX4_putThing 88 = .ok (.aload_n 2, 1) := by decide +kernel
theorem dX4_putThing_89 : decode cX4_putThing 89 = .ok (.getfield 485, 3) := by decide +kernel
theorem dX4_putThing_92 : decode cX4_putThing 92 = .ok (.aload_n 3, 1) := by decide +kernel
theorem dX4_putThing_93 : decode cX4_putThing 93 = .ok (.getfield 438, 3) := by decide +kernel
theorem dX4_putThing_96 : decode cX4_putThing 96 = .ok (.invokestatic 188, 3) := by decide +kernel
theorem dX4_putThing_99 : decode cX4_putThing 99 = .ok (.putfield 485, 3) := by decide +kernel
theorem dX4_putThing_102 : decode cX4_putThing 102 = .ok (.aload_n 2, 1) := by decide +kernel
theorem dX4_putThing_103 : decode cX4_putThing 103 = .ok (.dup, 1) := by decide +kernel
theorem dX4_putThing_104 : decode cX4_putThing 104 = .ok (.getfield 458, 3) := by decide +kernel
theorem dX4_putThing_107 : decode cX4_putThing 107 = .ok (.iconst 1, 1) := by decide +kernel
theorem dX4_putThing_108 : decode cX4_putThing 108 = .ok (.iadd, 1) := by decide +kernel
theorem dX4_putThing_109 : decode cX4_putThing 109 = .ok (.putfield 458, 3) := by decide +kernel
theorem dX4_putThing_112 : decode cX4_putThing 112 = .ok (.return_, 1) := by decide +kernel
theorem dX4_endLine_0 : decode cX4_endLine 0 = .ok (.aload_n 1, 1) := by decide +kernel
theorem dX4_endLine_1 : decode cX4_endLine 1 = .ok (.getfield 483, 3) := by decide +kernel
theorem dX4_endLine_4 : decode cX4_endLine 4 = .ok (.astore_n 2, 1) := by decide +kernel
theorem dX4_endLine_5 : decode cX4_endLine 5 = .ok (.aload_n 1, 1) := by decide +kernel
theorem dX4_endLine_6 : decode cX4_endLine 6 = .ok (.getfield 458, 3) := by decide +kernel
theorem dX4_endLine_9 : decode cX4_endLine 9 = .ok (.ifCond .eq 7, 3) := by decide +kernel
theorem dX4_endLine_12 : decode cX4_endLine 12 = .ok (.aload_n 2, 1) := by decide +kernel
theorem dX4_endLine_13 : decode cX4_endLine 13 = .ok (.ifnonnull 4, 3) := by decide +kernel
theorem dX4_endLine_16 : decode cX4_endLine 16 = .ok (.return_, 1) := by decide +kernel
theorem dX4_endLine_17 : decode cX4_endLine 17 = .ok (.aload_n 2, 1) := by decide +kernel
theorem dX4_endLine_18 : decode cX4_endLine 18 = .ok (.aload_n 1, 1) := by decide +kernel
theorem dX4_endLine_19 : decode cX4_endLine 19 = .ok (.getfield 351, 3) := by decide +kernel
theorem dX4_endLine_22 : decode cX4_endLine 22 = .ok (.i2l, 1) := by decide +kernel
theorem dX4_endLine_23 : decode cX4_endLine 23 = .ok (.putfield 493, 3) := by decide +kernel
theorem dX4_endLine_26 : decode cX4_endLine 26 = .ok (.aload_n 2, 1) := by decide +kernel
theorem dX4_endLine_27 : decode cX4_endLine 27 = .ok (.aload_n 1, 1) := by decide +kernel
theorem dX4_endLine_28 : decode cX4_endLine 28 = .ok (.getfield 326, 3) := by decide +kernel
theorem dX4_endLine_31 : decode cX4_endLine 31 = .ok (.putfield 496, 3) := by decide +kernel
theorem dX4_endLine_34 : decode cX4_endLine 34 = .ok (.aload_n 2, 1) := by decide +kernel
theorem dX4_endLine_35 : decode cX4_endLine 35 = .ok (.aload_n 1, 1) := by decide +kernel
theorem dX4_endLine_36 : decode cX4_endLine 36 = .ok (.getfield 490, 3) := by decide +kernel
theorem dX4_endLine_39 : decode cX4_endLine 39 = .ok (.putfield 497, 3) := by decide +kernel
theorem dX4_endLine_42 : decode cX4_endLine 42 = .ok (.aload_n 2, 1) := by decide +kernel
theorem dX4_endLine_43 : decode cX4_endLine 43 = .ok (.aload_n 1, 1) := by decide +kernel
theorem dX4_endLine_44 : decode cX4_endLine 44 = .ok (.getfield 484, 3) := by decide +kernel
theorem dX4_endLine_47 : decode cX4_endLine 47 = .ok (.putfield 498, 3) := by decide +kernel
theorem dX4_endLine_50 : decode cX4_endLine 50 = .ok (.aload_n 2, 1) := by decide +kernel
theorem dX4_endLine_51 : decode cX4_endLine 51 = .ok (.iconst 0, 1) := by decide +kernel
theorem dX4_endLine_52 : decode cX4_endLine 52 = .ok (.aload_n 1, 1) := by decide +kernel
theorem dX4_endLine_53 : decode cX4_endLine 53 = .ok (.getfield 484, 3) := by decide +kernel
theorem dX4_endLine_56 : decode cX4_endLine 56 = .ok (.aload_n 1, 1) := by decide +kernel
theorem dX4_endLine_57 : decode cX4_endLine 57 = .ok (.getfield 485, 3) := by decide +kernel
theorem dX4_endLine_60 : decode cX4_endLine 60 = .ok (.iadd, 1) := by decide +kernel
theorem dX4_endLine_61 : decode cX4_endLine 61 = .ok (.invokestatic 188, 3) := by decide +kernel
theorem dX4_endLine_64 : decode cX4_endLine 64 = .ok (.putfield 499, 3) := by decide +kernel
theorem dX4_endLine_67 : decode cX4_endLine 67 = .ok (.aload_n 1, 1) := by decide +kernel
theorem dX4_endLine_68 : decode cX4_endLine 68 = .ok (.aload_n 1, 1) := by decide +kernel
theorem dX4_endLine_69 : decode cX4_endLine 69 = .ok (.getfield 351, 3) := by decide +kernel
theorem dX4_endLine_72 : decode cX4_endLine 72 = .ok (.aload_n 1, 1) := by decide +kernel
theorem dX4_endLine_73 : decode cX4_endLine 73 = .ok (.getfield 490, 3) := by decide +kernel
theorem dX4_endLine_76 : decode cX4_endLine 76 = .ok (.iadd, 1) := by decide +kernel
theorem dX4_endLine_77 : decode cX4_endLine 77 = .ok (.invokevirtual 332, 3) := by decide +kernel
theorem dX4_endLine_80 : decode cX4_endLine 80 = .ok (.aload_n 1, 1) := by decide +kernel
theorem dX4_endLine_81 : decode cX4_endLine 81 = .ok (.aload_n 1, 1) := by decide +kernel
theorem dX4_endLine_82 : decode cX4_endLine 82 = .ok (.getfield 351, 3) := by decide +kernel
theorem dX4_endLine_85 : decode cX4_endLine 85 = .ok (.aload_n 1, 1) := by decide +kernel
theorem dX4_endLine_86 : decode cX4_endLine 86 = .ok (.getfield 455, 3) := by decide +kernel
theorem dX4_endLine_89 : decode cX4_endLine 89 = .ok (.iadd, 1) := by decide +kernel
theorem dX4_endLine_90 : decode cX4_endLine 90 = .ok (.invokevirtual 332, 3) := by decide +kernel
theorem dX4_endLine_93 : decode cX4_endLine 93 = .ok (.aload_n 1, 1) := by decide +kernel
theorem dX4_endLine_94 : decode cX4_endLine 94 = .ok (.dup, 1) := by decide +kernel
theorem dX4_endLine_95 : decode cX4_endLine 95 = .ok (.getfield 326, 3) := by decide +kernel
theorem dX4_endLine_98 : decode cX4_endLine 98 = .ok (.aload_n 2, 1) := by decide +kernel
theorem dX4_endLine_99 : decode cX4_endLine 99 = .ok (.getfield 499, 3) := by decide +kernel
theorem dX4_endLine_102 : decode cX4_endLine 102 = .ok (.iadd, 1) := by decide +kernel
theorem dX4_endLine_103 : decode cX4_endLine 103 = .ok (.putfield 326, 3) := by decide +kernel
theorem dX4_endLine_106 : decode cX4_endLine 106 = .ok (.aload_n 1, 1) := by decide +kernel
theorem dX4_endLine_107 : decode cX4_endLine 107 = .ok (.iconst 0, 1) := by decide +kernel
theorem dX4_endLine_108 : decode cX4_endLine 108 = .ok (.putfield 458, 3) := by decide +kernel
theorem dX4_endLine_111 : decode cX4_endLine 111 = .ok (.aload_n 1, 1) := by decide +kernel
theorem dX4_endLine_112 : decode cX4_endLine 112 = .ok (.iconst 0, 1) := by decide +kernel
theorem dX4_endLine_113 : decode cX4_endLine 113 = .ok (.putfield 490, 3) := by decide +kernel
theorem dX4_endLine_116 : decode cX4_endLine 116 = .ok (.aload_n 1, 1) := by decide +kernel
theorem dX4_endLine_117 : decode cX4_endLine 117 = .ok (.getfield 500, 3) := by decide +kernel
theorem dX4_endLine_120 : decode cX4_endLine 120 = .ok (.astore_n 3, 1) := by decide +kernel
theorem dX4_endLine_121 : decode cX4_endLine 121 = .ok (.aload_n 1, 1) := by decide +kernel
theorem dX4_endLine_122 : decode cX4_endLine 122 = .ok (.aconst_null, 1) := by decide +kernel
theorem dX4_endLine_123 : decode cX4_endLine 123 = .ok (.putfield 500, 3) := by decide +kernel
theorem dX4_endLine_126 : decode cX4_endLine 126 = .ok (.aload_n 1, 1) := by decide +kernel
theorem dX4_endLine_127 : decode cX4_endLine 127 = .ok (.aconst_null, 1) := by decide +kernel
theorem dX4_endLine_128 : decode cX4_endLine 128 = .ok (.putfield 503, 3) := by decide +kernel
theorem dX4_endLine_131 : decode cX4_endLine 131 = .ok (.aload_n 3, 1) := by decide +kernel
theorem dX4_endLine_132 : decode cX4_endLine 132 = .ok (.ifnull 37, 3) := by decide +kernel
theorem dX4_endLine_135 : decode cX4_endLine 135 = .ok (.aload_n 3, 1) := by decide +kernel
theorem dX4_endLine_136 : decode cX4_endLine 136 = .ok (.getfield 506, 3) := by decide +kernel
theorem dX4_endLine_139 : decode cX4_endLine 139 = .ok (.astore 4, 2) := by decide +kernel
theorem dX4_endLine_141 : decode cX4_endLine 141 = .ok (.aload_n 3, 1) := by decide +kernel
theorem dX4_endLine_142 : decode cX4_endLine 142 = .ok (.getfield 508, 3) := by decide +kernel
theorem dX4_endLine_145 : decode cX4_endLine 145 = .ok (.astore 5, 2) := by decide +kernel
theorem dX4_endLine_147 : decode cX4_endLine 147 = .ok (.aload 5, 2) := by decide +kernel
theorem dX4_endLine_149 : decode cX4_endLine 149 = .ok (.ifnull 14, 3) := by decide +kernel
theorem dX4_endLine_152 : decode cX4_endLine 152 = .ok (.aload_n 0, 1) := by decide +kernel
theorem dX4_endLine_153 : decode cX4_endLine 153 = .ok (.aload 5, 2) := by decide +kernel
theorem dX4_endLine_155 : decode cX4_endLine 155 = .ok (.aload_n 1, 1) := by decide +kernel
theorem dX4_endLine_156 : decode cX4_endLine 156 = .ok (.aload_n 1, 1) := by decide +kernel
theorem dX4_endLine_157 : decode cX4_endLine 157 = .ok (.getfield 326, 3) := by decide +kernel
theorem dX4_endLine_160 : decode cX4_endLine 160 = .ok (.invokevirtual 303, 3) := by decide +kernel
theorem dX4_endLine_163 : decode cX4_endLine 163 = .ok (.aload 4, 2) := by decide +kernel
theorem dX4_endLine_165 : decode cX4_endLine 165 = .ok (.astore_n 3, 1) := by decide +kernel
theorem dX4_endLine_166 : decode cX4_endLine 166 = .ok (.goto (-35), 3) := by decide +kernel
theorem dX4_endLine_169 : decode cX4_endLine 169 = .ok (.return_, 1) := by decide +kernel
theorem dX4_addLine_0 : decode cX4_addLine 0 = .ok (.aload_n 0, 1) := by decide +kernel
theorem dX4_addLine_1 : decode cX4_addLine 1 = .ok (.getfield 514, 3) := by decide +kernel
theorem dX4_addLine_4 : decode cX4_addLine 4 = .ok (.astore_n 2, 1) := by decide +kernel
theorem dX4_addLine_5 : decode cX4_addLine 5 = .ok (.aload_n 2, 1) := by decide +kernel
theorem dX4_addLine_6 : decode cX4_addLine 6 = .ok (.ifnonnull 14, 3) := by decide +kernel
theorem dX4_addLine_9 : decode cX4_addLine 9 = .ok (.new 494, 3) := by decide +kernel
theorem dX4_addLine_12 : decode cX4_addLine 12 = .ok (.dup, 1) := by decide +kernel
theorem dX4_addLine_13 : decode cX4_addLine 13 = .ok (.invokespecial 517, 3) := by decide +kernel
theorem dX4_addLine_16 : decode cX4_addLine 16 = .ok (.astore_n 2, 1) := by decide +kernel
theorem dX4_addLine_17 : decode cX4_addLine 17 = .ok (.goto 11, 3) := by decide +kernel
theorem dX4_addLine_20 : decode cX4_addLine 20 = .ok (.aload_n 0, 1) := by decide +kernel
theorem dX4_addLine_21 : decode cX4_addLine 21 = .ok (.aload_n 2, 1) := by decide +kernel
theorem dX4_addLine_22 : decode cX4_addLine 22 = .ok (.getfield 518, 3) := by decide +kernel
theorem dX4_addLine_25 : decode cX4_addLine 25 = .ok (.putfield 514, 3) := by decide +kernel
theorem dX4_addLine_28 : decode cX4_addLine 28 = .ok (.aload_n 2, 1) := by decide +kernel
theorem dX4_addLine_29 : decode cX4_addLine 29 = .ok (.aconst_null, 1) := by decide +kernel
theorem dX4_addLine_30 : decode cX4_addLine 30 = .ok (.putfield 518, 3) := by decide +kernel
theorem dX4_addLine_33 : decode cX4_addLine 33 = .ok (.aload_n 1, 1) := by decide +kernel
theorem dX4_addLine_34 : decode cX4_addLine 34 = .ok (.getfield 520, 3) := by decide +kernel
theorem dX4_addLine_37 : decode cX4_addLine 37 = .ok (.ifnonnull 11, 3) := by decide +kernel
theorem dX4_addLine_40 : decode cX4_addLine 40 = .ok (.aload_n 1, 1) := by decide +kernel
theorem dX4_addLine_41 : decode cX4_addLine 41 = .ok (.aload_n 2, 1) := by decide +kernel
theorem dX4_addLine_42 : decode cX4_addLine 42 = .ok (.putfield 523, 3) := by decide +kernel
theorem dX4_addLine_45 : decode cX4_addLine 45 = .ok (.goto 11, 3) := by decide +kernel
theorem dX4_addLine_48 : decode cX4_addLine 48 = .ok (.aload_n 1, 1) := by decide +kernel
theorem dX4_addLine_49 : decode cX4_addLine 49 = .ok (.getfield 520, 3) := by decide +kernel
theorem dX4_addLine_52 : decode cX4_addLine 52 = .ok (.aload_n 2, 1) := by decide +kernel
theorem dX4_addLine_53 : decode cX4_addLine 53 = .ok (.putfield 518, 3) := by decide +kernel
theorem dX4_addLine_56 : decode cX4_addLine 56 = .ok (.aload_n 1, 1) := by decide +kernel
theorem dX4_addLine_57 : decode cX4_addLine 57 = .ok (.aload_n 2, 1) := by decide +kernel
theorem dX4_addLine_58 : decode cX4_addLine 58 = .ok (.putfield 520, 3) := by decide +kernel
theorem dX4_addLine_61 : decode cX4_addLine 61 = .ok (.aload_n 2, 1) := by decide +kernel
theorem dX4_addLine_62 : decode cX4_addLine 62 = .ok (.areturn, 1) := by decide +kernel
theorem dX4_freeLines_0 : decode cX4_freeLines 0 = .ok (.aload_n 1, 1) := by decide +kernel
theorem dX4_freeLines_1 : decode cX4_freeLines 1 = .ok (.getfield 520, 3) := by decide +kernel
theorem dX4_freeLines_4 : decode cX4_freeLines 4 = .ok (.ifnull 22, 3) := by decide +kernel
theorem dX4_freeLines_7 : decode cX4_freeLines 7 = .ok (.aload_n 1, 1) := by decide +kernel
theorem dX4_freeLines_8 : decode cX4_freeLines 8 = .ok (.getfield 520, 3) := by decide +kernel
theorem dX4_freeLines_11 : decode cX4_freeLines 11 = .ok (.aload_n 0, 1) := by decide +kernel
theorem dX4_freeLines_12 : decode cX4_freeLines 12 = .ok (.getfield 514, 3) := by decide +kernel
theorem dX4_freeLines_15 : decode cX4_freeLines 15 = .ok (.putfield 518, 3) := by decide +kernel
theorem dX4_freeLines_18 : decode cX4_freeLines 18 = .ok (.aload_n 0, 1) := by decide +kernel
theorem dX4_freeLines_19 : decode cX4_freeLines 19 = .ok (.aload_n 1, 1) := by decide +kernel
theorem dX4_freeLines_20 : decode cX4_freeLines 20 = .ok (.getfield 523, 3) := by decide +kernel
theorem dX4_freeLines_23 : decode cX4_freeLines 23 = .ok (.putfield 514, 3) := by decide +kernel
theorem dX4_freeLines_26 : decode cX4_freeLines 26 = .ok (.aload_n 1, 1) := by decide +kernel
theorem dX4_freeLines_27 : decode cX4_freeLines 27 = .ok (.aconst_null, 1) := by decide +kernel
theorem dX4_freeLines_28 : decode cX4_freeLines 28 = .ok (.putfield 523, 3) := by decide +kernel
theorem dX4_freeLines_31 : decode cX4_freeLines 31 = .ok (.aload_n 1, 1) := by decide +kernel
theorem dX4_freeLines_32 : decode cX4_freeLines 32 = .ok (.aconst_null, 1) := by decide +kernel
theorem dX4_freeLines_33 : decode cX4_freeLines 33 = .ok (.putfield 520, 3) := by decide +kernel
theorem dX4_freeLines_36 : decode cX4_freeLines 36 = .ok (.return_, 1) := by decide +kernel
theorem dX5_init_0 : decode cX5_init 0 = .ok (.aload_n 0, 1) := by decide +kernel
theorem dX5_init_1 : decode cX5_init 1 = .ok (.invokespecial 1, 3) := by decide +kernel
theorem dX5_init_4 : decode cX5_init 4 = .ok (.return_, 1) := by decide +kernel
theorem dX7_init_0 : decode cX7_init 0 = .ok (.aload_n 0, 1) := by decide +kernel
theorem dX7_init_1 : decode cX7_init 1 = .ok (.invokespecial 3, 3) := by decide +kernel
theorem dX7_init_4 : decode cX7_init 4 = .ok (.aload_n 0, 1) := by decide +kernel
theorem dX7_init_5 : decode cX7_init 5 = .ok (.iload_n 1, 1) := by decide +kernel
theorem dX7_init_6 : decode cX7_init 6 = .ok (.putfield 9, 3) := by decide +kernel
theorem dX7_init_9 : decode cX7_init 9 = .ok (.aload_n 0, 1) := by decide +kernel
theorem dX7_init_10 : decode cX7_init 10 = .ok (.aload_n 2, 1) := by decide +kernel
theorem dX7_init_11 : decode cX7_init 11 = .ok (.putfield 15, 3) := by decide +kernel
theorem dX7_init_14 : decode cX7_init 14 = .ok (.aload_n 0, 1) := by decide +kernel
theorem dX7_init_15 : decode cX7_init 15 = .ok (.aload_n 2, 1) := by decide +kernel
theorem dX7_init_16 : decode cX7_init 16 = .ok (.ifnonnull 7, 3) := by decide +kernel
theorem dX7_init_19 : decode cX7_init 19 = .ok (.iconst 0, 1) := by decide +kernel
theorem dX7_init_20 : decode cX7_init 20 = .ok (.goto 9, 3) := by decide +kernel
theorem dX7_init_23 : decode cX7_init 23 = .ok (.aload_n 2, 1) := by decide +kernel
theorem dX7_init_24 : decode cX7_init 24 = .ok (.getfield 19, 3) := by decide +kernel
theorem dX7_init_27 : decode cX7_init 27 = .ok (.iconst 1, 1) := by decide +kernel
theorem dX7_init_28 : decode cX7_init 28 = .ok (.iadd, 1) := by decide +kernel
theorem dX7_init_29 : decode cX7_init 29 = .ok (.putfield 19, 3) := by decide +kernel
theorem dX7_init_32 : decode cX7_init 32 = .ok (.aload_n 0, 1) := by decide +kernel
theorem dX7_init_33 : decode cX7_init 33 = .ok (.iload_n 3, 1) := by decide +kernel
theorem dX7_init_34 : decode cX7_init 34 = .ok (.putfield 22, 3) := by decide +kernel
theorem dX7_init_37 : decode cX7_init 37 = .ok (.aload_n 0, 1) := by decide +kernel
theorem dX7_init_38 : decode cX7_init 38 = .ok (.bipush 21, 2) := by decide +kernel
theorem dX7_init_40 : decode cX7_init 40 = .ok (.newarray .int, 2) := by decide +kernel
theorem dX7_init_42 : decode cX7_init 42 = .ok (.putfield 25, 3) := by decide +kernel
theorem dX7_init_45 : decode cX7_init 45 = .ok (.aload_n 0, 1) := by decide +kernel
theorem dX7_init_46 : decode cX7_init 46 = .ok (.bipush 21, 2) := by decide +kernel
theorem dX7_init_48 : decode cX7_init 48 = .ok (.newarray .int, 2) := by decide +kernel
theorem dX7_init_50 : decode cX7_init 50 = .ok (.putfield 29, 3) := by decide +kernel
theorem dX7_init_53 : decode cX7_init 53 = .ok (.iconst 0, 1) := by decide +kernel
theorem dX7_init_54 : decode cX7_init 54 = .ok (.istore 4, 2) := by decide +kernel
theorem dX7_init_56 : decode cX7_init 56 = .ok (.iload 4, 2) := by decide +kernel
theorem dX7_init_58 : decode cX7_init 58 = .ok (.bipush 21, 2) := by decide +kernel
theorem dX7_init_60 : decode cX7_init 60 = .ok (.if_icmp .ge 35, 3) := by decide +kernel
theorem dX7_init_63 : decode cX7_init 63 = .ok (.aload_n 0, 1) := by decide +kernel
theorem dX7_init_64 : decode cX7_init 64 = .ok (.getfield 25, 3) := by decide +kernel
theorem dX7_init_67 : decode cX7_init 67 = .ok (.iload 4, 2) := by decide +kernel
theorem dX7_init_69 : decode cX7_init 69 = .ok (.iload 4, 2) := by decide +kernel
theorem dX7_init_71 : decode cX7_init 71 = .ok (.invokestatic 32, 3) := by decide +kernel
theorem dX7_init_74 : decode cX7_init 74 = .ok (.iastore, 1) := by decide +kernel
theorem dX7_init_75 : decode cX7_init 75 = .ok (.aload_n 0, 1) := by decide +kernel
theorem dX7_init_76 : decode cX7_init 76 = .ok (.getfield 29, 3) := by decide +kernel
theorem dX7_init_79 : decode cX7_init 79 = .ok (.iload 4, 2) := by decide +kernel
theorem dX7_init_81 : decode cX7_init 81 = .ok (.aload_n 0, 1) := by decide +kernel
theorem dX7_init_82 : decode cX7_init 82 = .ok (.getfield 25, 3) := by decide +kernel
theorem dX7_init_85 : decode cX7_init 85 = .ok (.iload 4, 2) := by decide +kernel
theorem dX7_init_87 : decode cX7_init 87 = .ok (.iaload, 1) := by decide +kernel
theorem dX7_init_88 : decode cX7_init 88 = .ok (.iastore, 1) := by decide +kernel
theorem dX7_init_89 : decode cX7_init 89 = .ok (.iinc 4 1, 3) := by decide +kernel
theorem dX7_init_92 : decode cX7_init 92 = .ok (.goto (-36), 3) := by decide +kernel
theorem dX7_init_95 : decode cX7_init 95 = .ok (.iload_n 3, 1) := by decide +kernel
theorem dX7_init_96 : decode cX7_init 96 = .ok (.ifCond .le 8, 3) := by decide +kernel
theorem dX7_init_99 : decode cX7_init 99 = .ok (.bipush 20, 2) := by decide +kernel
theorem dX7_init_101 : decode cX7_init 101 = .ok (.goto 4, 3) := by decide +kernel
theorem dX7_init_104 : decode cX7_init 104 = .ok (.iconst 0, 1) := by decide +kernel
theorem dX7_init_105 : decode cX7_init 105 = .ok (.istore 4, 2) := by decide +kernel
theorem dX7_init_107 : decode cX7_init 107 = .ok (.aload_n 0, 1) := by decide +kernel
theorem dX7_init_108 : decode cX7_init 108 = .ok (.iload 4, 2) := by decide +kernel
theorem dX7_init_110 : decode cX7_init 110 = .ok (.newarray .int, 2) := by decide +kernel
theorem dX7_init_112 : decode cX7_init 112 = .ok (.putfield 36, 3) := by decide +kernel
theorem dX7_init_115 : decode cX7_init 115 = .ok (.aload_n 0, 1) := by decide +kernel
theorem dX7_init_116 : decode cX7_init 116 = .ok (.iload 4, 2) := by decide +kernel
theorem dX7_init_118 : decode cX7_init 118 = .ok (.newarray .int, 2) := by decide +kernel
theorem dX7_init_120 : decode cX7_init 120 = .ok (.putfield 39, 3) := by decide +kernel
theorem dX7_init_123 : decode cX7_init 123 = .ok (.aload_n 0, 1) := by decide +kernel
theorem dX7_init_124 : decode cX7_init 124 = .ok (.new 42, 3) := by decide +kernel
theorem dX7_init_127 : decode cX7_init 127 = .ok (.dup, 1) := by decide +kernel
theorem dX7_init_128 : decode cX7_init 128 = .ok (.iload_n 3, 1) := by decide +kernel
theorem dX7_init_129 : decode cX7_init 129 = .ok (.ifCond .le 8, 3) := by decide +kernel
theorem dX7_init_132 : decode cX7_init 132 = .ok (.bipush 40, 2) := by decide +kernel
theorem dX7_init_134 : decode cX7_init 134 = .ok (.goto 4, 3) := by decide +kernel
theorem dX7_init_137 : decode cX7_init 137 = .ok (.iconst 1, 1) := by decide +kernel
theorem dX7_init_138 : decode cX7_init 138 = .ok (.invokespecial 44, 3) := by decide +kernel
theorem dX7_init_141 : decode cX7_init 141 = .ok (.putfield 47, 3) := by decide +kernel
theorem dX7_init_144 : decode cX7_init 144 = .ok (.aload_n 0, 1) := by decide +kernel
theorem dX7_init_145 : decode cX7_init 145 = .ok (.new 42, 3) := by decide +kernel
theorem dX7_init_148 : decode cX7_init 148 = .ok (.dup, 1) := by decide +kernel
theorem dX7_init_149 : decode cX7_init 149 = .ok (.iload_n 3, 1) := by decide +kernel
theorem dX7_init_150 : decode cX7_init 150 = .ok (.ifCond .le 8, 3) := by decide +kernel
theorem dX7_init_153 : decode cX7_init 153 = .ok (.bipush 40, 2) := by decide +kernel
theorem dX7_init_155 : decode cX7_init 155 = .ok (.goto 4, 3) := by decide +kernel
theorem dX7_init_158 : decode cX7_init 158 = .ok (.iconst 1, 1) := by decide +kernel
theorem dX7_init_159 : decode cX7_init 159 = .ok (.invokespecial 44, 3) := by decide +kernel
theorem dX7_init_162 : decode cX7_init 162 = .ok (.putfield 51, 3) := by decide +kernel
theorem dX7_init_165 : decode cX7_init 165 = .ok (.aload_n 0, 1) := by decide +kernel
theorem dX7_init_166 : decode cX7_init 166 = .ok (.iload_n 3, 1) := by decide +kernel
theorem dX7_init_167 : decode cX7_init 167 = .ok (.ifCond .le 9, 3) := by decide +kernel
theorem dX7_init_170 : decode cX7_init 170 = .ok (.getstatic 54, 3) := by decide +kernel
theorem dX7_init_173 : decode cX7_init 173 = .ok (.goto 6, 3) := by decide +kernel
theorem dX7_init_176 : decode cX7_init 176 = .ok (.getstatic 60, 3) := by decide +kernel
theorem dX7_init_179 : decode cX7_init 179 = .ok (.putfield 63, 3) := by decide +kernel
theorem dX7_init_182 : decode cX7_init 182 = .ok (.return_, 1) := by decide +kernel
theorem dX7_firstValue_0 : decode cX7_firstValue 0 = .ok (.iload_n 0, 1) := by decide +kernel
theorem dX7_firstValue_1 : decode cX7_firstValue 1 = .ok (.lookupswitch 59 #[(4, 51), (5, 51), (17, 53), (18, 55), (19, 55)], 51) := by decide +kernel
theorem dX7_firstValue_52 : decode cX7_firstValue 52 = .ok (.iconst (-1), 1) := by decide +kernel
theorem dX7_firstValue_53 : decode cX7_firstValue 53 = .ok (.ireturn, 1) := by decide +kernel
theorem dX7_firstValue_54 : decode cX7_firstValue 54 = .ok (.iconst 1, 1) := by decide +kernel
theorem dX7_firstValue_55 : decode cX7_firstValue 55 = .ok (.ireturn, 1) := by decide +kernel
theorem dX7_firstValue_56 : decode cX7_firstValue 56 = .ok (.sipush (-1000), 3) := by decide +kernel
theorem dX7_firstValue_59 : decode cX7_firstValue 59 = .ok (.ireturn, 1) := by decide +kernel
theorem dX7_firstValue_60 : decode cX7_firstValue 60 = .ok (.iconst 0, 1) := by decide +kernel
theorem dX7_firstValue_61 : decode cX7_firstValue 61 = .ok (.ireturn, 1) := by decide +kernel
theorem dX7_isText_0 : decode cX7_isText 0 = .ok (.aload_n 0, 1) := by decide +kernel
theorem dX7_isText_1 : decode cX7_isText 1 = .ok (.getfield 22, 3) := by decide +kernel
theorem dX7_isText_4 : decode cX7_isText 4 = .ok (.ifCond .le 7, 3) := by decide +kernel
theorem dX7_isText_7 : decode cX7_isText 7 = .ok (.iconst 1, 1) := by decide +kernel
theorem dX7_isText_8 : decode cX7_isText 8 = .ok (.goto 4, 3) := by decide +kernel
theorem dX7_isText_11 : decode cX7_isText 11 = .ok (.iconst 0, 1) := by decide +kernel
theorem dX7_isText_12 : decode cX7_isText 12 = .ok (.ireturn, 1) := by decide +kernel
theorem dX7_holdsLines_0 : decode cX7_holdsLines 0 = .ok (.aload_n 0, 1) := by decide +kernel
theorem dX7_holdsLines_1 : decode cX7_holdsLines 1 = .ok (.invokevirtual 66, 3) := by decide +kernel
theorem dX7_holdsLines_4 : decode cX7_holdsLines 4 = .ok (.ifCond .ne 34, 3) := by decide +kernel
theorem dX7_holdsLines_7 : decode cX7_holdsLines 7 = .ok (.aload_n 0, 1) := by decide +kernel
theorem dX7_holdsLines_8 : decode cX7_holdsLines 8 = .ok (.getfield 70, 3) := by decide +kernel
theorem dX7_holdsLines_11 : decode cX7_holdsLines 11 = .ok (.ifCond .ne 27, 3) := by decide +kernel
theorem dX7_holdsLines_14 : decode cX7_holdsLines 14 = .ok (.aload_n 0, 1) := by decide +kernel
theorem dX7_holdsLines_15 : decode cX7_holdsLines 15 = .ok (.getfield 63, 3) := by decide +kernel
theorem dX7_holdsLines_18 : decode cX7_holdsLines 18 = .ok (.getstatic 74, 3) := by decide +kernel
theorem dX7_holdsLines_21 : decode cX7_holdsLines 21 = .ok (.if_acmp .eq 17, 3) := by decide +kernel
theorem dX7_holdsLines_24 : decode cX7_holdsLines 24 = .ok (.aload_n 0, 1) := by decide +kernel
theorem dX7_holdsLines_25 : decode cX7_holdsLines 25 = .ok (.getfield 63, 3) := by decide +kernel
theorem dX7_holdsLines_28 : decode cX7_holdsLines 28 = .ok (.getstatic 77, 3) := by decide +kernel
theorem dX7_holdsLines_31 : decode cX7_holdsLines 31 = .ok (.if_acmp .eq 7, 3) := by decide +kernel
theorem dX7_holdsLines_34 : decode cX7_holdsLines 34 = .ok (.iconst 1, 1) := by decide +kernel
theorem dX7_holdsLines_35 : decode cX7_holdsLines 35 = .ok (.goto 4, 3) := by decide +kernel
theorem dX7_holdsLines_38 : decode cX7_holdsLines 38 = .ok (.iconst 0, 1) := by decide +kernel
theorem dX7_holdsLines_39 : decode cX7_holdsLines 39 = .ok (.ireturn, 1) := by decide +kernel
theorem dX7_flatEdges_0 : decode cX7_flatEdges 0 = .ok (.aload_n 0, 1) := by decide +kernel
theorem dX7_flatEdges_1 : decode cX7_flatEdges 1 = .ok (.getfield 29, 3) := by decide +kernel
theorem dX7_flatEdges_4 : decode cX7_flatEdges 4 = .ok (.bipush 13, 2) := by decide +kernel
theorem dX7_flatEdges_6 : decode cX7_flatEdges 6 = .ok (.iaload, 1) := by decide +kernel
theorem dX7_flatEdges_7 : decode cX7_flatEdges 7 = .ok (.aload_n 0, 1) := by decide +kernel
theorem dX7_flatEdges_8 : decode cX7_flatEdges 8 = .ok (.getfield 29, 3) := by decide +kernel
theorem dX7_flatEdges_11 : decode cX7_flatEdges 11 = .ok (.bipush 11, 2) := by decide +kernel
theorem dX7_flatEdges_13 : decode cX7_flatEdges 13 = .ok (.iaload, 1) := by decide +kernel
theorem dX7_flatEdges_14 : decode cX7_flatEdges 14 = .ok (.iadd, 1) := by decide +kernel
theorem dX7_flatEdges_15 : decode cX7_flatEdges 15 = .ok (.ireturn, 1) := by decide +kernel
theorem dX7_uprightEdges_0 : decode cX7_uprightEdges 0 = .ok (.aload_n 0, 1) := by decide +kernel
theorem dX7_uprightEdges_1 : decode cX7_uprightEdges 1 = .ok (.getfield 29, 3) := by decide +kernel
theorem dX7_uprightEdges_4 : decode cX7_uprightEdges 4 = .ok (.bipush 10, 2) := by decide +kernel
theorem dX7_uprightEdges_6 : decode cX7_uprightEdges 6 = .ok (.iaload, 1) := by decide +kernel
theorem dX7_uprightEdges_7 : decode cX7_uprightEdges 7 = .ok (.aload_n 0, 1) := by decide +kernel
theorem dX7_uprightEdges_8 : decode cX7_uprightEdges 8 = .ok (.getfield 29, 3) := by decide +kernel
theorem dX7_uprightEdges_11 : decode cX7_uprightEdges 11 = .ok (.bipush 12, 2) := by decide +kernel
theorem dX7_uprightEdges_13 : decode cX7_uprightEdges 13 = .ok (.iaload, 1) := by decide +kernel
theorem dX7_uprightEdges_14 : decode cX7_uprightEdges 14 = .ok (.iadd, 1) := by decide +kernel
theorem dX7_uprightEdges_15 : decode cX7_uprightEdges 15 = .ok (.ireturn, 1) := by decide +kernel
theorem dX7_flatRim_0 : decode cX7_flatRim 0 = .ok (.aload_n 0, 1) := by decide +kernel
theorem dX7_flatRim_1 : decode cX7_flatRim 1 = .ok (.getfield 29, 3) := by decide +kernel
theorem dX7_flatRim_4 : decode cX7_flatRim 4 = .ok (.bipush 9, 2) := by decide +kernel
theorem dX7_flatRim_6 : decode cX7_flatRim 6 = .ok (.iaload, 1) := by decide +kernel
theorem dX7_flatRim_7 : decode cX7_flatRim 7 = .ok (.aload_n 0, 1) := by decide +kernel
theorem dX7_flatRim_8 : decode cX7_flatRim 8 = .ok (.getfield 29, 3) := by decide +kernel
theorem dX7_flatRim_11 : decode cX7_flatRim 11 = .ok (.bipush 13, 2) := by decide +kernel
theorem dX7_flatRim_13 : decode cX7_flatRim 13 = .ok (.iaload, 1) := by decide +kernel
theorem dX7_flatRim_14 : decode cX7_flatRim 14 = .ok (.iadd, 1) := by decide +kernel
theorem dX7_flatRim_15 : decode cX7_flatRim 15 = .ok (.aload_n 0, 1) := by decide +kernel
theorem dX7_flatRim_16 : decode cX7_flatRim 16 = .ok (.getfield 29, 3) := by decide +kernel
theorem dX7_flatRim_19 : decode cX7_flatRim 19 = .ok (.bipush 11, 2) := by decide +kernel
theorem dX7_flatRim_21 : decode cX7_flatRim 21 = .ok (.iaload, 1) := by decide +kernel
theorem dX7_flatRim_22 : decode cX7_flatRim 22 = .ok (.iadd, 1) := by decide +kernel
theorem dX7_flatRim_23 : decode cX7_flatRim 23 = .ok (.aload_n 0, 1) := by decide +kernel
theorem dX7_flatRim_24 : decode cX7_flatRim 24 = .ok (.getfield 29, 3) := by decide +kernel
theorem dX7_flatRim_27 : decode cX7_flatRim 27 = .ok (.bipush 7, 2) := by decide +kernel
theorem dX7_flatRim_29 : decode cX7_flatRim 29 = .ok (.iaload, 1) := by decide +kernel
theorem dX7_flatRim_30 : decode cX7_flatRim 30 = .ok (.iadd, 1) := by decide +kernel
theorem dX7_flatRim_31 : decode cX7_flatRim 31 = .ok (.ireturn, 1) := by decide +kernel
theorem dX7_countChildren_0 : decode cX7_countChildren 0 = .ok (.iconst 0, 1) := by decide +kernel
theorem dX7_countChildren_1 : decode cX7_countChildren 1 = .ok (.istore_n 1, 1) := by decide +kernel
theorem dX7_countChildren_2 : decode cX7_countChildren 2 = .ok (.aload_n 0, 1) := by decide +kernel
theorem dX7_countChildren_3 : decode cX7_countChildren 3 = .ok (.getfield 80, 3) := by decide +kernel
theorem dX7_countChildren_6 : decode cX7_countChildren 6 = .ok (.astore_n 2, 1) := by decide +kernel
theorem dX7_countChildren_7 : decode cX7_countChildren 7 = .ok (.aload_n 2, 1) := by decide +kernel
theorem dX7_countChildren_8 : decode cX7_countChildren 8 = .ok (.ifnull 14, 3) := by decide +kernel
theorem dX7_countChildren_11 : decode cX7_countChildren 11 = .ok (.iinc 1 1, 3) := by decide +kernel
theorem dX7_countChildren_14 : decode cX7_countChildren 14 = .ok (.aload_n 2, 1) := by decide +kernel
theorem dX7_countChildren_15 : decode cX7_countChildren 15 = .ok (.getfield 83, 3) := by decide +kernel
theorem dX7_countChildren_18 : decode cX7_countChildren 18 = .ok (.astore_n 2, 1) := by decide +kernel
theorem dX7_countChildren_19 : decode cX7_countChildren 19 = .ok (.goto (-12), 3) := by decide +kernel
theorem dX7_countChildren_22 : decode cX7_countChildren 22 = .ok (.iload_n 1, 1) := by decide +kernel
theorem dX7_countChildren_23 : decode cX7_countChildren 23 = .ok (.ireturn, 1) := by decide +kernel
theorem dX7_putIn_0 : decode cX7_putIn 0 = .ok (.aconst_null, 1) := by decide +kernel
theorem dX7_putIn_1 : decode cX7_putIn 1 = .ok (.astore_n 3, 1) := by decide +kernel
theorem dX7_putIn_2 : decode cX7_putIn 2 = .ok (.aload_n 0, 1) := by decide +kernel
theorem dX7_putIn_3 : decode cX7_putIn 3 = .ok (.getfield 80, 3) := by decide +kernel
theorem dX7_putIn_6 : decode cX7_putIn 6 = .ok (.astore 4, 2) := by decide +kernel
theorem dX7_putIn_8 : decode cX7_putIn 8 = .ok (.iconst 0, 1) := by decide +kernel
theorem dX7_putIn_9 : decode cX7_putIn 9 = .ok (.istore 5, 2) := by decide +kernel
theorem dX7_putIn_11 : decode cX7_putIn 11 = .ok (.iload 5, 2) := by decide +kernel
theorem dX7_putIn_13 : decode cX7_putIn 13 = .ok (.iload_n 2, 1) := by decide +kernel
theorem dX7_putIn_14 : decode cX7_putIn 14 = .ok (.if_icmp .ge 24, 3) := by decide +kernel
theorem dX7_putIn_17 : decode cX7_putIn 17 = .ok (.aload 4, 2) := by decide +kernel
theorem dX7_putIn_19 : decode cX7_putIn 19 = .ok (.ifnull 19, 3) := by decide +kernel
theorem dX7_putIn_22 : decode cX7_putIn 22 = .ok (.aload 4, 2) := by decide +kernel
theorem dX7_putIn_24 : decode cX7_putIn 24 = .ok (.astore_n 3, 1) := by decide +kernel
theorem dX7_putIn_25 : decode cX7_putIn 25 = .ok (.aload 4, 2) := by decide +kernel
theorem dX7_putIn_27 : decode cX7_putIn 27 = .ok (.getfield 83, 3) := by decide +kernel
theorem dX7_putIn_30 : decode cX7_putIn 30 = .ok (.astore 4, 2) := by decide +kernel
theorem dX7_putIn_32 : decode cX7_putIn 32 = .ok (.iinc 5 1, 3) := by decide +kernel
theorem dX7_putIn_35 : decode cX7_putIn 35 = .ok (.goto (-24), 3) := by decide +kernel
theorem dX7_putIn_38 : decode cX7_putIn 38 = .ok (.aload_n 1, 1) := by decide +kernel
theorem dX7_putIn_39 : decode cX7_putIn 39 = .ok (.aload 4, 2) := by decide +kernel
theorem dX7_putIn_41 : decode cX7_putIn 41 = .ok (.putfield 83, 3) := by decide +kernel
theorem dX7_putIn_44 : decode cX7_putIn 44 = .ok (.aload_n 3, 1) := by decide +kernel
theorem dX7_putIn_45 : decode cX7_putIn 45 = .ok (.ifnonnull 11, 3) := by decide +kernel
theorem dX7_putIn_48 : decode cX7_putIn 48 = .ok (.aload_n 0, 1) := by decide +kernel
theorem dX7_putIn_49 : decode cX7_putIn 49 = .ok (.aload_n 1, 1) := by decide +kernel
theorem dX7_putIn_50 : decode cX7_putIn 50 = .ok (.putfield 80, 3) := by decide +kernel
theorem dX7_putIn_53 : decode cX7_putIn 53 = .ok (.goto 8, 3) := by decide +kernel
theorem dX7_putIn_56 : decode cX7_putIn 56 = .ok (.aload_n 3, 1) := by decide +kernel
theorem dX7_putIn_57 : decode cX7_putIn 57 = .ok (.aload_n 1, 1) := by decide +kernel
theorem dX7_putIn_58 : decode cX7_putIn 58 = .ok (.putfield 83, 3) := by decide +kernel
theorem dX7_putIn_61 : decode cX7_putIn 61 = .ok (.return_, 1) := by decide +kernel
theorem dX7_onward_0 : decode cX7_onward 0 = .ok (.iload_n 2, 1) := by decide +kernel
theorem dX7_onward_1 : decode cX7_onward 1 = .ok (.ifCond .eq 15, 3) := by decide +kernel
theorem dX7_onward_4 : decode cX7_onward 4 = .ok (.aload_n 0, 1) := by decide +kernel
theorem dX7_onward_5 : decode cX7_onward 5 = .ok (.getfield 80, 3) := by decide +kernel
theorem dX7_onward_8 : decode cX7_onward 8 = .ok (.ifnull 8, 3) := by decide +kernel
theorem dX7_onward_11 : decode cX7_onward 11 = .ok (.aload_n 0, 1) := by decide +kernel
theorem dX7_onward_12 : decode cX7_onward 12 = .ok (.getfield 80, 3) := by decide +kernel
theorem dX7_onward_15 : decode cX7_onward 15 = .ok (.areturn, 1) := by decide +kernel
theorem dX7_onward_16 : decode cX7_onward 16 = .ok (.aload_n 0, 1) := by decide +kernel
theorem dX7_onward_17 : decode cX7_onward 17 = .ok (.astore_n 3, 1) := by decide +kernel
theorem dX7_onward_18 : decode cX7_onward 18 = .ok (.aload_n 3, 1) := by decide +kernel
theorem dX7_onward_19 : decode cX7_onward 19 = .ok (.ifnull 28, 3) := by decide +kernel
theorem dX7_onward_22 : decode cX7_onward 22 = .ok (.aload_n 3, 1) := by decide +kernel
theorem dX7_onward_23 : decode cX7_onward 23 = .ok (.aload_n 1, 1) := by decide +kernel
theorem dX7_onward_24 : decode cX7_onward 24 = .ok (.if_acmp .eq 23, 3) := by decide +kernel
theorem dX7_onward_27 : decode cX7_onward 27 = .ok (.aload_n 3, 1) := by decide +kernel
theorem dX7_onward_28 : decode cX7_onward 28 = .ok (.getfield 83, 3) := by decide +kernel
theorem dX7_onward_31 : decode cX7_onward 31 = .ok (.ifnull 8, 3) := by decide +kernel
theorem dX7_onward_34 : decode cX7_onward 34 = .ok (.aload_n 3, 1) := by decide +kernel
theorem dX7_onward_35 : decode cX7_onward 35 = .ok (.getfield 83, 3) := by decide +kernel
theorem dX7_onward_38 : decode cX7_onward 38 = .ok (.areturn, 1) := by decide +kernel
theorem dX7_onward_39 : decode cX7_onward 39 = .ok (.aload_n 3, 1) := by decide +kernel
theorem dX7_onward_40 : decode cX7_onward 40 = .ok (.getfield 15, 3) := by decide +kernel
theorem dX7_onward_43 : decode cX7_onward 43 = .ok (.astore_n 3, 1) := by decide +kernel
theorem dX7_onward_44 : decode cX7_onward 44 = .ok (.goto (-26), 3) := by decide +kernel
theorem dX7_onward_47 : decode cX7_onward 47 = .ok (.aconst_null, 1) := by decide +kernel
theorem dX7_onward_48 : decode cX7_onward 48 = .ok (.areturn, 1) := by decide +kernel
theorem dX7_onwardInRun_0 : decode cX7_onwardInRun 0 = .ok (.aload_n 0, 1) := by decide +kernel
theorem dX7_onwardInRun_1 : decode cX7_onwardInRun 1 = .ok (.getfield 63, 3) := by decide +kernel
theorem dX7_onwardInRun_4 : decode cX7_onwardInRun 4 = .ok (.getstatic 74, 3) := by decide +kernel
theorem dX7_onwardInRun_7 : decode cX7_onwardInRun 7 = .ok (.if_acmp .ne 15, 3) := by decide +kernel
theorem dX7_onwardInRun_10 : decode cX7_onwardInRun 10 = .ok (.aload_n 0, 1) := by decide +kernel
theorem dX7_onwardInRun_11 : decode cX7_onwardInRun 11 = .ok (.getfield 80, 3) := by decide +kernel
theorem dX7_onwardInRun_14 : decode cX7_onwardInRun 14 = .ok (.ifnull 8, 3) := by decide +kernel
theorem dX7_onwardInRun_17 : decode cX7_onwardInRun 17 = .ok (.aload_n 0, 1) := by decide +kernel
theorem dX7_onwardInRun_18 : decode cX7_onwardInRun 18 = .ok (.getfield 80, 3) := by decide +kernel
theorem dX7_onwardInRun_21 : decode cX7_onwardInRun 21 = .ok (.areturn, 1) := by decide +kernel
theorem dX7_onwardInRun_22 : decode cX7_onwardInRun 22 = .ok (.aload_n 0, 1) := by decide +kernel
theorem dX7_onwardInRun_23 : decode cX7_onwardInRun 23 = .ok (.astore_n 2, 1) := by decide +kernel
theorem dX7_onwardInRun_24 : decode cX7_onwardInRun 24 = .ok (.aload_n 2, 1) := by decide +kernel
theorem dX7_onwardInRun_25 : decode cX7_onwardInRun 25 = .ok (.ifnull 28, 3) := by decide +kernel
theorem dX7_onwardInRun_28 : decode cX7_onwardInRun 28 = .ok (.aload_n 2, 1) := by decide +kernel
theorem dX7_onwardInRun_29 : decode cX7_onwardInRun 29 = .ok (.aload_n 1, 1) := by decide +kernel
theorem dX7_onwardInRun_30 : decode cX7_onwardInRun 30 = .ok (.if_acmp .eq 23, 3) := by decide +kernel
theorem dX7_onwardInRun_33 : decode cX7_onwardInRun 33 = .ok (.aload_n 2, 1) := by decide +kernel
theorem dX7_onwardInRun_34 : decode cX7_onwardInRun 34 = .ok (.getfield 83, 3) := by decide +kernel
theorem dX7_onwardInRun_37 : decode cX7_onwardInRun 37 = .ok (.ifnull 8, 3) := by decide +kernel
theorem dX7_onwardInRun_40 : decode cX7_onwardInRun 40 = .ok (.aload_n 2, 1) := by decide +kernel
theorem dX7_onwardInRun_41 : decode cX7_onwardInRun 41 = .ok (.getfield 83, 3) := by decide +kernel
theorem dX7_onwardInRun_44 : decode cX7_onwardInRun 44 = .ok (.areturn, 1) := by decide +kernel
theorem dX7_onwardInRun_45 : decode cX7_onwardInRun 45 = .ok (.aload_n 2, 1) := by decide +kernel
theorem dX7_onwardInRun_46 : decode cX7_onwardInRun 46 = .ok (.getfield 15, 3) := by decide +kernel
theorem dX7_onwardInRun_49 : decode cX7_onwardInRun 49 = .ok (.astore_n 2, 1) := by decide +kernel
theorem dX7_onwardInRun_50 : decode cX7_onwardInRun 50 = .ok (.goto (-26), 3) := by decide +kernel
theorem dX7_onwardInRun_53 : decode cX7_onwardInRun 53 = .ok (.aconst_null, 1) := by decide +kernel
theorem dX7_onwardInRun_54 : decode cX7_onwardInRun 54 = .ok (.areturn, 1) := by decide +kernel
theorem dX7_endOfRun_0 : decode cX7_endOfRun 0 = .ok (.aload_n 0, 1) := by decide +kernel
theorem dX7_endOfRun_1 : decode cX7_endOfRun 1 = .ok (.astore_n 1, 1) := by decide +kernel
theorem dX7_endOfRun_2 : decode cX7_endOfRun 2 = .ok (.aload_n 0, 1) := by decide +kernel
theorem dX7_endOfRun_3 : decode cX7_endOfRun 3 = .ok (.getfield 83, 3) := by decide +kernel
theorem dX7_endOfRun_6 : decode cX7_endOfRun 6 = .ok (.astore_n 2, 1) := by decide +kernel
theorem dX7_endOfRun_7 : decode cX7_endOfRun 7 = .ok (.aload_n 2, 1) := by decide +kernel
theorem dX7_endOfRun_8 : decode cX7_endOfRun 8 = .ok (.ifnull 30, 3) := by decide +kernel
theorem dX7_endOfRun_11 : decode cX7_endOfRun 11 = .ok (.aload_n 2, 1) := by decide +kernel
theorem dX7_endOfRun_12 : decode cX7_endOfRun 12 = .ok (.invokevirtual 86, 3) := by decide +kernel
theorem dX7_endOfRun_15 : decode cX7_endOfRun 15 = .ok (.ifCond .eq 23, 3) := by decide +kernel
theorem dX7_endOfRun_18 : decode cX7_endOfRun 18 = .ok (.aload_n 2, 1) := by decide +kernel
theorem dX7_endOfRun_19 : decode cX7_endOfRun 19 = .ok (.getfield 63, 3) := by decide +kernel
theorem dX7_endOfRun_22 : decode cX7_endOfRun 22 = .ok (.invokevirtual 89, 3) := by decide +kernel
theorem dX7_endOfRun_25 : decode cX7_endOfRun 25 = .ok (.ifCond .eq 5, 3) := by decide +kernel
theorem dX7_endOfRun_28 : decode cX7_endOfRun 28 = .ok (.aload_n 2, 1) := by decide +kernel
theorem dX7_endOfRun_29 : decode cX7_endOfRun 29 = .ok (.astore_n 1, 1) := by decide +kernel
theorem dX7_endOfRun_30 : decode cX7_endOfRun 30 = .ok (.aload_n 2, 1) := by decide +kernel
theorem dX7_endOfRun_31 : decode cX7_endOfRun 31 = .ok (.getfield 83, 3) := by decide +kernel
theorem dX7_endOfRun_34 : decode cX7_endOfRun 34 = .ok (.astore_n 2, 1) := by decide +kernel
theorem dX7_endOfRun_35 : decode cX7_endOfRun 35 = .ok (.goto (-28), 3) := by decide +kernel
theorem dX7_endOfRun_38 : decode cX7_endOfRun 38 = .ok (.aload_n 1, 1) := by decide +kernel
theorem dX7_endOfRun_39 : decode cX7_endOfRun 39 = .ok (.areturn, 1) := by decide +kernel
theorem dX7_mayStandInRun_0 : decode cX7_mayStandInRun 0 = .ok (.aload_n 0, 1) := by decide +kernel
theorem dX7_mayStandInRun_1 : decode cX7_mayStandInRun 1 = .ok (.getfield 63, 3) := by decide +kernel
theorem dX7_mayStandInRun_4 : decode cX7_mayStandInRun 4 = .ok (.invokevirtual 89, 3) := by decide +kernel
theorem dX7_mayStandInRun_7 : decode cX7_mayStandInRun 7 = .ok (.ifCond .ne 23, 3) := by decide +kernel
theorem dX7_mayStandInRun_10 : decode cX7_mayStandInRun 10 = .ok (.aload_n 0, 1) := by decide +kernel
theorem dX7_mayStandInRun_11 : decode cX7_mayStandInRun 11 = .ok (.getfield 63, 3) := by decide +kernel
theorem dX7_mayStandInRun_14 : decode cX7_mayStandInRun 14 = .ok (.getstatic 92, 3) := by decide +kernel
theorem dX7_mayStandInRun_17 : decode cX7_mayStandInRun 17 = .ok (.if_acmp .eq 13, 3) := by decide +kernel
theorem dX7_mayStandInRun_20 : decode cX7_mayStandInRun 20 = .ok (.aload_n 0, 1) := by decide +kernel
theorem dX7_mayStandInRun_21 : decode cX7_mayStandInRun 21 = .ok (.getfield 63, 3) := by decide +kernel
theorem dX7_mayStandInRun_24 : decode cX7_mayStandInRun 24 = .ok (.getstatic 95, 3) := by decide +kernel
theorem dX7_mayStandInRun_27 : decode cX7_mayStandInRun 27 = .ok (.if_acmp .ne 7, 3) := by decide +kernel
theorem dX7_mayStandInRun_30 : decode cX7_mayStandInRun 30 = .ok (.iconst 1, 1) := by decide +kernel
theorem dX7_mayStandInRun_31 : decode cX7_mayStandInRun 31 = .ok (.goto 4, 3) := by decide +kernel
theorem dX7_mayStandInRun_34 : decode cX7_mayStandInRun 34 = .ok (.iconst 0, 1) := by decide +kernel
theorem dX7_mayStandInRun_35 : decode cX7_mayStandInRun 35 = .ok (.ireturn, 1) := by decide +kernel
theorem dX7_isStack_0 : decode cX7_isStack 0 = .ok (.aload_n 0, 1) := by decide +kernel
theorem dX7_isStack_1 : decode cX7_isStack 1 = .ok (.getfield 15, 3) := by decide +kernel
theorem dX7_isStack_4 : decode cX7_isStack 4 = .ok (.ifnull 12, 3) := by decide +kernel
theorem dX7_isStack_7 : decode cX7_isStack 7 = .ok (.aload_n 0, 1) := by decide +kernel
theorem dX7_isStack_8 : decode cX7_isStack 8 = .ok (.getfield 29, 3) := by decide +kernel
theorem dX7_isStack_11 : decode cX7_isStack 11 = .ok (.iconst 3, 1) := by decide +kernel
theorem dX7_isStack_12 : decode cX7_isStack 12 = .ok (.iaload, 1) := by decide +kernel
theorem dX7_isStack_13 : decode cX7_isStack 13 = .ok (.ifCond .eq 7, 3) := by decide +kernel
theorem dX7_isStack_16 : decode cX7_isStack 16 = .ok (.iconst 1, 1) := by decide +kernel
theorem dX7_isStack_17 : decode cX7_isStack 17 = .ok (.goto 4, 3) := by decide +kernel
theorem dX7_isStack_20 : decode cX7_isStack 20 = .ok (.iconst 0, 1) := by decide +kernel
theorem dX7_isStack_21 : decode cX7_isStack 21 = .ok (.ireturn, 1) := by decide +kernel
theorem dX7_assignRoles_0 : decode cX7_assignRoles 0 = .ok (.aload_n 0, 1) := by decide +kernel
theorem dX7_assignRoles_1 : decode cX7_assignRoles 1 = .ok (.astore_n 1, 1) := by decide +kernel
theorem dX7_assignRoles_2 : decode cX7_assignRoles 2 = .ok (.aload_n 1, 1) := by decide +kernel
theorem dX7_assignRoles_3 : decode cX7_assignRoles 3 = .ok (.ifnull 27, 3) := by decide +kernel
theorem dX7_assignRoles_6 : decode cX7_assignRoles 6 = .ok (.aload_n 1, 1) := by decide +kernel
theorem dX7_assignRoles_7 : decode cX7_assignRoles 7 = .ok (.iconst (-1), 1) := by decide +kernel
theorem dX7_assignRoles_8 : decode cX7_assignRoles 8 = .ok (.putfield 98, 3) := by decide +kernel
theorem dX7_assignRoles_11 : decode cX7_assignRoles 11 = .ok (.aload_n 1, 1) := by decide +kernel
theorem dX7_assignRoles_12 : decode cX7_assignRoles 12 = .ok (.iconst (-1), 1) := by decide +kernel
theorem dX7_assignRoles_13 : decode cX7_assignRoles 13 = .ok (.putfield 101, 3) := by decide +kernel
theorem dX7_assignRoles_16 : decode cX7_assignRoles 16 = .ok (.aload_n 1, 1) := by decide +kernel
theorem dX7_assignRoles_17 : decode cX7_assignRoles 17 = .ok (.invokevirtual 104, 3) := by decide +kernel
theorem dX7_assignRoles_20 : decode cX7_assignRoles 20 = .ok (.aload_n 1, 1) := by decide +kernel
theorem dX7_assignRoles_21 : decode cX7_assignRoles 21 = .ok (.aload_n 0, 1) := by decide +kernel
theorem dX7_assignRoles_22 : decode cX7_assignRoles 22 = .ok (.iconst 1, 1) := by decide +kernel
theorem dX7_assignRoles_23 : decode cX7_assignRoles 23 = .ok (.invokestatic 107, 3) := by decide +kernel
theorem dX7_assignRoles_26 : decode cX7_assignRoles 26 = .ok (.astore_n 1, 1) := by decide +kernel
theorem dX7_assignRoles_27 : decode cX7_assignRoles 27 = .ok (.goto (-25), 3) := by decide +kernel
theorem dX7_assignRoles_30 : decode cX7_assignRoles 30 = .ok (.return_, 1) := by decide +kernel
theorem dX7_assignRole_0 : decode cX7_assignRole 0 = .ok (.aload_n 0, 1) := by decide +kernel
theorem dX7_assignRole_1 : decode cX7_assignRole 1 = .ok (.aload_n 0, 1) := by decide +kernel
theorem dX7_assignRole_2 : decode cX7_assignRole 2 = .ok (.invokevirtual 111, 3) := by decide +kernel
theorem dX7_assignRole_5 : decode cX7_assignRole 5 = .ok (.putfield 63, 3) := by decide +kernel
theorem dX7_assignRole_8 : decode cX7_assignRole 8 = .ok (.aload_n 0, 1) := by decide +kernel
theorem dX7_assignRole_9 : decode cX7_assignRole 9 = .ok (.invokevirtual 66, 3) := by decide +kernel
theorem dX7_assignRole_12 : decode cX7_assignRole 12 = .ok (.ifCond .eq 4, 3) := by decide +kernel
theorem dX7_assignRole_15 : decode cX7_assignRole 15 = .ok (.return_, 1) := by decide +kernel
theorem dX7_assignRole_16 : decode cX7_assignRole 16 = .ok (.aload_n 0, 1) := by decide +kernel
theorem dX7_assignRole_17 : decode cX7_assignRole 17 = .ok (.aload_n 0, 1) := by decide +kernel
theorem dX7_assignRole_18 : decode cX7_assignRole 18 = .ok (.getfield 25, 3) := by decide +kernel
theorem dX7_assignRole_21 : decode cX7_assignRole 21 = .ok (.iconst 0, 1) := by decide +kernel
theorem dX7_assignRole_22 : decode cX7_assignRole 22 = .ok (.iaload, 1) := by decide +kernel
theorem dX7_assignRole_23 : decode cX7_assignRole 23 = .ok (.iconst 3, 1) := by decide +kernel
theorem dX7_assignRole_24 : decode cX7_assignRole 24 = .ok (.if_icmp .ne 37, 3) := by decide +kernel
theorem dX7_assignRole_27 : decode cX7_assignRole 27 = .ok (.aload_n 0, 1) := by decide +kernel
theorem dX7_assignRole_28 : decode cX7_assignRole 28 = .ok (.getfield 63, 3) := by decide +kernel
theorem dX7_assignRole_31 : decode cX7_assignRole 31 = .ok (.getstatic 60, 3) := by decide +kernel
theorem dX7_assignRole_34 : decode cX7_assignRole 34 = .ok (.if_acmp .eq 23, 3) := by decide +kernel
theorem dX7_assignRole_37 : decode cX7_assignRole 37 = .ok (.aload_n 0, 1) := by decide +kernel
theorem dX7_assignRole_38 : decode cX7_assignRole 38 = .ok (.getfield 63, 3) := by decide +kernel
theorem dX7_assignRole_41 : decode cX7_assignRole 41 = .ok (.getstatic 92, 3) := by decide +kernel
theorem dX7_assignRole_44 : decode cX7_assignRole 44 = .ok (.if_acmp .eq 13, 3) := by decide +kernel
theorem dX7_assignRole_47 : decode cX7_assignRole 47 = .ok (.aload_n 0, 1) := by decide +kernel
theorem dX7_assignRole_48 : decode cX7_assignRole 48 = .ok (.getfield 63, 3) := by decide +kernel
theorem dX7_assignRole_51 : decode cX7_assignRole 51 = .ok (.getstatic 95, 3) := by decide +kernel
theorem dX7_assignRole_54 : decode cX7_assignRole 54 = .ok (.if_acmp .ne 7, 3) := by decide +kernel
theorem dX7_assignRole_57 : decode cX7_assignRole 57 = .ok (.iconst 1, 1) := by decide +kernel
theorem dX7_assignRole_58 : decode cX7_assignRole 58 = .ok (.goto 4, 3) := by decide +kernel
theorem dX7_assignRole_61 : decode cX7_assignRole 61 = .ok (.iconst 0, 1) := by decide +kernel
theorem dX7_assignRole_62 : decode cX7_assignRole 62 = .ok (.putfield 70, 3) := by decide +kernel
theorem dX7_assignRole_65 : decode cX7_assignRole 65 = .ok (.iconst 0, 1) := by decide +kernel
theorem dX7_assignRole_66 : decode cX7_assignRole 66 = .ok (.istore_n 1, 1) := by decide +kernel
theorem dX7_assignRole_67 : decode cX7_assignRole 67 = .ok (.iload_n 1, 1) := by decide +kernel
theorem dX7_assignRole_68 : decode cX7_assignRole 68 = .ok (.bipush 21, 2) := by decide +kernel
theorem dX7_assignRole_70 : decode cX7_assignRole 70 = .ok (.if_icmp .ge 36, 3) := by decide +kernel
theorem dX7_assignRole_73 : decode cX7_assignRole 73 = .ok (.aload_n 0, 1) := by decide +kernel
theorem dX7_assignRole_74 : decode cX7_assignRole 74 = .ok (.getfield 29, 3) := by decide +kernel
theorem dX7_assignRole_77 : decode cX7_assignRole 77 = .ok (.iload_n 1, 1) := by decide +kernel
theorem dX7_assignRole_78 : decode cX7_assignRole 78 = .ok (.aload_n 0, 1) := by decide +kernel
theorem dX7_assignRole_79 : decode cX7_assignRole 79 = .ok (.iload_n 1, 1) := by decide +kernel
theorem dX7_assignRole_80 : decode cX7_assignRole 80 = .ok (.invokevirtual 115, 3) := by decide +kernel
theorem dX7_assignRole_83 : decode cX7_assignRole 83 = .ok (.ifCond .eq 12, 3) := by decide +kernel
theorem dX7_assignRole_86 : decode cX7_assignRole 86 = .ok (.aload_n 0, 1) := by decide +kernel
theorem dX7_assignRole_87 : decode cX7_assignRole 87 = .ok (.getfield 25, 3) := by decide +kernel
theorem dX7_assignRole_90 : decode cX7_assignRole 90 = .ok (.iload_n 1, 1) := by decide +kernel
theorem dX7_assignRole_91 : decode cX7_assignRole 91 = .ok (.iaload, 1) := by decide +kernel
theorem dX7_assignRole_92 : decode cX7_assignRole 92 = .ok (.goto 7, 3) := by decide +kernel
theorem dX7_assignRole_95 : decode cX7_assignRole 95 = .ok (.iload_n 1, 1) := by decide +kernel
theorem dX7_assignRole_96 : decode cX7_assignRole 96 = .ok (.invokestatic 32, 3) := by decide +kernel
theorem dX7_assignRole_99 : decode cX7_assignRole 99 = .ok (.iastore, 1) := by decide +kernel
theorem dX7_assignRole_100 : decode cX7_assignRole 100 = .ok (.iinc 1 1, 3) := by decide +kernel
theorem dX7_assignRole_103 : decode cX7_assignRole 103 = .ok (.goto (-36), 3) := by decide +kernel
theorem dX7_assignRole_106 : decode cX7_assignRole 106 = .ok (.aload_n 0, 1) := by decide +kernel
theorem dX7_assignRole_107 : decode cX7_assignRole 107 = .ok (.getfield 70, 3) := by decide +kernel
theorem dX7_assignRole_110 : decode cX7_assignRole 110 = .ok (.ifCond .ne 10, 3) := by decide +kernel
theorem dX7_assignRole_113 : decode cX7_assignRole 113 = .ok (.aload_n 0, 1) := by decide +kernel
theorem dX7_assignRole_114 : decode cX7_assignRole 114 = .ok (.invokevirtual 119, 3) := by decide +kernel
theorem dX7_assignRole_117 : decode cX7_assignRole 117 = .ok (.ifCond .eq 11, 3) := by decide +kernel
theorem dX7_assignRole_120 : decode cX7_assignRole 120 = .ok (.aload_n 0, 1) := by decide +kernel
theorem dX7_assignRole_121 : decode cX7_assignRole 121 = .ok (.getfield 29, 3) := by decide +kernel
theorem dX7_assignRole_124 : decode cX7_assignRole 124 = .ok (.bipush 17, 2) := by decide +kernel
theorem dX7_assignRole_126 : decode cX7_assignRole 126 = .ok (.iconst 1, 1) := by decide +kernel
theorem dX7_assignRole_127 : decode cX7_assignRole 127 = .ok (.iastore, 1) := by decide +kernel
theorem dX7_assignRole_128 : decode cX7_assignRole 128 = .ok (.aload_n 0, 1) := by decide +kernel
theorem dX7_assignRole_129 : decode cX7_assignRole 129 = .ok (.aload_n 0, 1) := by decide +kernel
theorem dX7_assignRole_130 : decode cX7_assignRole 130 = .ok (.getfield 29, 3) := by decide +kernel
theorem dX7_assignRole_133 : decode cX7_assignRole 133 = .ok (.bipush 14, 2) := by decide +kernel
theorem dX7_assignRole_135 : decode cX7_assignRole 135 = .ok (.iaload, 1) := by decide +kernel
theorem dX7_assignRole_136 : decode cX7_assignRole 136 = .ok (.iconst 2, 1) := by decide +kernel
theorem dX7_assignRole_137 : decode cX7_assignRole 137 = .ok (.if_icmp .ne 33, 3) := by decide +kernel
theorem dX7_assignRole_140 : decode cX7_assignRole 140 = .ok (.aload_n 0, 1) := by decide +kernel
theorem dX7_assignRole_141 : decode cX7_assignRole 141 = .ok (.getfield 70, 3) := by decide +kernel
theorem dX7_assignRole_144 : decode cX7_assignRole 144 = .ok (.ifCond .ne 26, 3) := by decide +kernel
theorem dX7_assignRole_147 : decode cX7_assignRole 147 = .ok (.aload_n 0, 1) := by decide +kernel
theorem dX7_assignRole_148 : decode cX7_assignRole 148 = .ok (.getfield 29, 3) := by decide +kernel
theorem dX7_assignRole_151 : decode cX7_assignRole 151 = .ok (.bipush 17, 2) := by decide +kernel
theorem dX7_assignRole_153 : decode cX7_assignRole 153 = .ok (.iaload, 1) := by decide +kernel
theorem dX7_assignRole_154 : decode cX7_assignRole 154 = .ok (.iconst 1, 1) := by decide +kernel
theorem dX7_assignRole_155 : decode cX7_assignRole 155 = .ok (.if_icmp .ne 15, 3) := by decide +kernel
theorem dX7_assignRole_158 : decode cX7_assignRole 158 = .ok (.aload_n 0, 1) := by decide +kernel
theorem dX7_assignRole_159 : decode cX7_assignRole 159 = .ok (.invokevirtual 122, 3) := by decide +kernel
theorem dX7_assignRole_162 : decode cX7_assignRole 162 = .ok (.iconst 2, 1) := by decide +kernel
theorem dX7_assignRole_163 : decode cX7_assignRole 163 = .ok (.if_icmp .ge 7, 3) := by decide +kernel
theorem dX7_assignRole_166 : decode cX7_assignRole 166 = .ok (.iconst 1, 1) := by decide +kernel
theorem dX7_assignRole_167 : decode cX7_assignRole 167 = .ok (.goto 4, 3) := by decide +kernel
theorem dX7_assignRole_170 : decode cX7_assignRole 170 = .ok (.iconst 0, 1) := by decide +kernel
theorem dX7_assignRole_171 : decode cX7_assignRole 171 = .ok (.putfield 126, 3) := by decide +kernel
theorem dX7_assignRole_174 : decode cX7_assignRole 174 = .ok (.aload_n 0, 1) := by decide +kernel
theorem dX7_assignRole_175 : decode cX7_assignRole 175 = .ok (.aload_n 0, 1) := by decide +kernel
theorem dX7_assignRole_176 : decode cX7_assignRole 176 = .ok (.getfield 15, 3) := by decide +kernel
theorem dX7_assignRole_179 : decode cX7_assignRole 179 = .ok (.ifnull 71, 3) := by decide +kernel
theorem dX7_assignRole_182 : decode cX7_assignRole 182 = .ok (.aload_n 0, 1) := by decide +kernel
theorem dX7_assignRole_183 : decode cX7_assignRole 183 = .ok (.getfield 70, 3) := by decide +kernel
theorem dX7_assignRole_186 : decode cX7_assignRole 186 = .ok (.ifCond .ne 64, 3) := by decide +kernel
theorem dX7_assignRole_189 : decode cX7_assignRole 189 = .ok (.aload_n 0, 1) := by decide +kernel
theorem dX7_assignRole_190 : decode cX7_assignRole 190 = .ok (.getfield 29, 3) := by decide +kernel
theorem dX7_assignRole_193 : decode cX7_assignRole 193 = .ok (.bipush 14, 2) := by decide +kernel
theorem dX7_assignRole_195 : decode cX7_assignRole 195 = .ok (.iaload, 1) := by decide +kernel
theorem dX7_assignRole_196 : decode cX7_assignRole 196 = .ok (.ifCond .ne 54, 3) := by decide +kernel
theorem dX7_assignRole_199 : decode cX7_assignRole 199 = .ok (.aload_n 0, 1) := by decide +kernel
theorem dX7_assignRole_200 : decode cX7_assignRole 200 = .ok (.getfield 29, 3) := by decide +kernel
theorem dX7_assignRole_203 : decode cX7_assignRole 203 = .ok (.bipush 17, 2) := by decide +kernel
theorem dX7_assignRole_205 : decode cX7_assignRole 205 = .ok (.iaload, 1) := by decide +kernel
theorem dX7_assignRole_206 : decode cX7_assignRole 206 = .ok (.iconst 1, 1) := by decide +kernel
theorem dX7_assignRole_207 : decode cX7_assignRole 207 = .ok (.if_icmp .gt 43, 3) := by decide +kernel
theorem dX7_assignRole_210 : decode cX7_assignRole 210 = .ok (.aload_n 0, 1) := by decide +kernel
theorem dX7_assignRole_211 : decode cX7_assignRole 211 = .ok (.getfield 63, 3) := by decide +kernel
theorem dX7_assignRole_214 : decode cX7_assignRole 214 = .ok (.getstatic 92, 3) := by decide +kernel
theorem dX7_assignRole_217 : decode cX7_assignRole 217 = .ok (.if_acmp .eq 33, 3) := by decide +kernel
theorem dX7_assignRole_220 : decode cX7_assignRole 220 = .ok (.aload_n 0, 1) := by decide +kernel
theorem dX7_assignRole_221 : decode cX7_assignRole 221 = .ok (.getfield 63, 3) := by decide +kernel
theorem dX7_assignRole_224 : decode cX7_assignRole 224 = .ok (.getstatic 95, 3) := by decide +kernel
theorem dX7_assignRole_227 : decode cX7_assignRole 227 = .ok (.if_acmp .eq 23, 3) := by decide +kernel
theorem dX7_assignRole_230 : decode cX7_assignRole 230 = .ok (.aload_n 0, 1) := by decide +kernel
theorem dX7_assignRole_231 : decode cX7_assignRole 231 = .ok (.getfield 63, 3) := by decide +kernel
theorem dX7_assignRole_234 : decode cX7_assignRole 234 = .ok (.getstatic 129, 3) := by decide +kernel
theorem dX7_assignRole_237 : decode cX7_assignRole 237 = .ok (.if_acmp .eq 13, 3) := by decide +kernel
theorem dX7_assignRole_240 : decode cX7_assignRole 240 = .ok (.aload_n 0, 1) := by decide +kernel
theorem dX7_assignRole_241 : decode cX7_assignRole 241 = .ok (.getfield 63, 3) := by decide +kernel
theorem dX7_assignRole_244 : decode cX7_assignRole 244 = .ok (.getstatic 132, 3) := by decide +kernel
theorem dX7_assignRole_247 : decode cX7_assignRole 247 = .ok (.if_acmp .ne 7, 3) := by decide +kernel
theorem dX7_assignRole_250 : decode cX7_assignRole 250 = .ok (.iconst 1, 1) := by decide +kernel
theorem dX7_assignRole_251 : decode cX7_assignRole 251 = .ok (.goto 4, 3) := by decide +kernel
theorem dX7_assignRole_254 : decode cX7_assignRole 254 = .ok (.iconst 0, 1) := by decide +kernel
theorem dX7_assignRole_255 : decode cX7_assignRole 255 = .ok (.putfield 135, 3) := by decide +kernel
theorem dX7_assignRole_258 : decode cX7_assignRole 258 = .ok (.return_, 1) := by decide +kernel
theorem dX7_findKind_0 : decode cX7_findKind 0 = .ok (.aload_n 0, 1) := by decide +kernel
theorem dX7_findKind_1 : decode cX7_findKind 1 = .ok (.getfield 15, 3) := by decide +kernel
theorem dX7_findKind_4 : decode cX7_findKind 4 = .ok (.ifnonnull 7, 3) := by decide +kernel
theorem dX7_findKind_7 : decode cX7_findKind 7 = .ok (.getstatic 60, 3) := by decide +kernel
theorem dX7_findKind_10 : decode cX7_findKind 10 = .ok (.areturn, 1) := by decide +kernel
theorem dX7_findKind_11 : decode cX7_findKind 11 = .ok (.aload_n 0, 1) := by decide +kernel
theorem dX7_findKind_12 : decode cX7_findKind 12 = .ok (.getfield 15, 3) := by decide +kernel
theorem dX7_findKind_15 : decode cX7_findKind 15 = .ok (.getfield 63, 3) := by decide +kernel
theorem dX7_findKind_18 : decode cX7_findKind 18 = .ok (.getstatic 77, 3) := by decide +kernel
theorem dX7_findKind_21 : decode cX7_findKind 21 = .ok (.if_acmp .ne 7, 3) := by decide +kernel
theorem dX7_findKind_24 : decode cX7_findKind 24 = .ok (.iconst 1, 1) := by decide +kernel
theorem dX7_findKind_25 : decode cX7_findKind 25 = .ok (.goto 4, 3) := by decide +kernel
theorem dX7_findKind_28 : decode cX7_findKind 28 = .ok (.iconst 0, 1) := by decide +kernel
theorem dX7_findKind_29 : decode cX7_findKind 29 = .ok (.istore_n 1, 1) := by decide +kernel
theorem dX7_findKind_30 : decode cX7_findKind 30 = .ok (.aload_n 0, 1) := by decide +kernel
theorem dX7_findKind_31 : decode cX7_findKind 31 = .ok (.invokevirtual 66, 3) := by decide +kernel
theorem dX7_findKind_34 : decode cX7_findKind 34 = .ok (.ifCond .eq 27, 3) := by decide +kernel
theorem dX7_findKind_37 : decode cX7_findKind 37 = .ok (.aload_n 0, 1) := by decide +kernel
theorem dX7_findKind_38 : decode cX7_findKind 38 = .ok (.getfield 15, 3) := by decide +kernel
theorem dX7_findKind_41 : decode cX7_findKind 41 = .ok (.getfield 70, 3) := by decide +kernel
theorem dX7_findKind_44 : decode cX7_findKind 44 = .ok (.ifCond .ne 7, 3) := by decide +kernel
theorem dX7_findKind_47 : decode cX7_findKind 47 = .ok (.iload_n 1, 1) := by decide +kernel
theorem dX7_findKind_48 : decode cX7_findKind 48 = .ok (.ifCond .eq 9, 3) := by decide +kernel
theorem dX7_findKind_51 : decode cX7_findKind 51 = .ok (.getstatic 138, 3) := by decide +kernel
theorem dX7_findKind_54 : decode cX7_findKind 54 = .ok (.goto 6, 3) := by decide +kernel
theorem dX7_findKind_57 : decode cX7_findKind 57 = .ok (.getstatic 54, 3) := by decide +kernel
theorem dX7_findKind_60 : decode cX7_findKind 60 = .ok (.areturn, 1) := by decide +kernel
theorem dX7_findKind_61 : decode cX7_findKind 61 = .ok (.aload_n 0, 1) := by decide +kernel
theorem dX7_findKind_62 : decode cX7_findKind 62 = .ok (.getfield 15, 3) := by decide +kernel
theorem dX7_findKind_65 : decode cX7_findKind 65 = .ok (.getfield 70, 3) := by decide +kernel
theorem dX7_findKind_68 : decode cX7_findKind 68 = .ok (.ifCond .ne 7, 3) := by decide +kernel
theorem dX7_findKind_71 : decode cX7_findKind 71 = .ok (.iload_n 1, 1) := by decide +kernel
theorem dX7_findKind_72 : decode cX7_findKind 72 = .ok (.ifCond .eq 17, 3) := by decide +kernel
theorem dX7_findKind_75 : decode cX7_findKind 75 = .ok (.iload_n 1, 1) := by decide +kernel
theorem dX7_findKind_76 : decode cX7_findKind 76 = .ok (.ifCond .eq 9, 3) := by decide +kernel
theorem dX7_findKind_79 : decode cX7_findKind 79 = .ok (.getstatic 132, 3) := by decide +kernel
theorem dX7_findKind_82 : decode cX7_findKind 82 = .ok (.goto 6, 3) := by decide +kernel
theorem dX7_findKind_85 : decode cX7_findKind 85 = .ok (.getstatic 77, 3) := by decide +kernel
theorem dX7_findKind_88 : decode cX7_findKind 88 = .ok (.areturn, 1) := by decide +kernel
theorem dX7_findKind_89 : decode cX7_findKind 89 = .ok (.aload_n 0, 1) := by decide +kernel
theorem dX7_findKind_90 : decode cX7_findKind 90 = .ok (.getfield 25, 3) := by decide +kernel
theorem dX7_findKind_93 : decode cX7_findKind 93 = .ok (.iconst 3, 1) := by decide +kernel
theorem dX7_findKind_94 : decode cX7_findKind 94 = .ok (.iaload, 1) := by decide +kernel
theorem dX7_findKind_95 : decode cX7_findKind 95 = .ok (.iconst 2, 1) := by decide +kernel
theorem dX7_findKind_96 : decode cX7_findKind 96 = .ok (.if_icmp .ne 7, 3) := by decide +kernel
theorem dX7_findKind_99 : decode cX7_findKind 99 = .ok (.getstatic 95, 3) := by decide +kernel
theorem dX7_findKind_102 : decode cX7_findKind 102 = .ok (.areturn, 1) := by decide +kernel
theorem dX7_findKind_103 : decode cX7_findKind 103 = .ok (.aload_n 0, 1) := by decide +kernel
theorem dX7_findKind_104 : decode cX7_findKind 104 = .ok (.getfield 25, 3) := by decide +kernel
theorem dX7_findKind_107 : decode cX7_findKind 107 = .ok (.iconst 1, 1) := by decide +kernel
theorem dX7_findKind_108 : decode cX7_findKind 108 = .ok (.iaload, 1) := by decide +kernel
theorem dX7_findKind_109 : decode cX7_findKind 109 = .ok (.ifCond .eq 7, 3) := by decide +kernel
theorem dX7_findKind_112 : decode cX7_findKind 112 = .ok (.getstatic 92, 3) := by decide +kernel
theorem dX7_findKind_115 : decode cX7_findKind 115 = .ok (.areturn, 1) := by decide +kernel
theorem dX7_findKind_116 : decode cX7_findKind 116 = .ok (.aload_n 0, 1) := by decide +kernel
theorem dX7_findKind_117 : decode cX7_findKind 117 = .ok (.getfield 25, 3) := by decide +kernel
theorem dX7_findKind_120 : decode cX7_findKind 120 = .ok (.iconst 0, 1) := by decide +kernel
theorem dX7_findKind_121 : decode cX7_findKind 121 = .ok (.iaload, 1) := by decide +kernel
theorem dX7_findKind_122 : decode cX7_findKind 122 = .ok (.iconst 1, 1) := by decide +kernel
theorem dX7_findKind_123 : decode cX7_findKind 123 = .ok (.if_icmp .ne 7, 3) := by decide +kernel
theorem dX7_findKind_126 : decode cX7_findKind 126 = .ok (.getstatic 74, 3) := by decide +kernel
theorem dX7_findKind_129 : decode cX7_findKind 129 = .ok (.areturn, 1) := by decide +kernel
theorem dX7_findKind_130 : decode cX7_findKind 130 = .ok (.aload_n 0, 1) := by decide +kernel
theorem dX7_findKind_131 : decode cX7_findKind 131 = .ok (.getfield 25, 3) := by decide +kernel
theorem dX7_findKind_134 : decode cX7_findKind 134 = .ok (.iconst 0, 1) := by decide +kernel
theorem dX7_findKind_135 : decode cX7_findKind 135 = .ok (.iaload, 1) := by decide +kernel
theorem dX7_findKind_136 : decode cX7_findKind 136 = .ok (.iconst 2, 1) := by decide +kernel
theorem dX7_findKind_137 : decode cX7_findKind 137 = .ok (.if_icmp .eq 16, 3) := by decide +kernel
theorem dX7_findKind_140 : decode cX7_findKind 140 = .ok (.aload_n 0, 1) := by decide +kernel
theorem dX7_findKind_141 : decode cX7_findKind 141 = .ok (.getfield 15, 3) := by decide +kernel
theorem dX7_findKind_144 : decode cX7_findKind 144 = .ok (.getfield 63, 3) := by decide +kernel
theorem dX7_findKind_147 : decode cX7_findKind 147 = .ok (.getstatic 74, 3) := by decide +kernel
theorem dX7_findKind_150 : decode cX7_findKind 150 = .ok (.if_acmp .ne 9, 3) := by decide +kernel
theorem dX7_findKind_153 : decode cX7_findKind 153 = .ok (.getstatic 129, 3) := by decide +kernel
theorem dX7_findKind_156 : decode cX7_findKind 156 = .ok (.goto 6, 3) := by decide +kernel
theorem dX7_findKind_159 : decode cX7_findKind 159 = .ok (.getstatic 60, 3) := by decide +kernel
theorem dX7_findKind_162 : decode cX7_findKind 162 = .ok (.areturn, 1) := by decide +kernel
theorem dX7_countsFor_0 : decode cX7_countsFor 0 = .ok (.getstatic 141, 3) := by decide +kernel
theorem dX7_countsFor_3 : decode cX7_countsFor 3 = .ok (.aload_n 0, 1) := by decide +kernel
theorem dX7_countsFor_4 : decode cX7_countsFor 4 = .ok (.getfield 63, 3) := by decide +kernel
theorem dX7_countsFor_7 : decode cX7_countsFor 7 = .ok (.invokevirtual 146, 3) := by decide +kernel
theorem dX7_countsFor_10 : decode cX7_countsFor 10 = .ok (.iaload, 1) := by decide +kernel
theorem dX7_countsFor_11 : decode cX7_countsFor 11 = .ok (.tableswitch 62 1 3 #[25, 27, 50], 25) := by decide +kernel
theorem dX7_countsFor_36 : decode cX7_countsFor 36 = .ok (.iconst 0, 1) := by decide +kernel
theorem dX7_countsFor_37 : decode cX7_countsFor 37 = .ok (.ireturn, 1) := by decide +kernel
theorem dX7_countsFor_38 : decode cX7_countsFor 38 = .ok (.iload_n 1, 1) := by decide +kernel
theorem dX7_countsFor_39 : decode cX7_countsFor 39 = .ok (.iconst 5, 1) := by decide +kernel
theorem dX7_countsFor_40 : decode cX7_countsFor 40 = .ok (.if_icmp .eq 15, 3) := by decide +kernel
theorem dX7_countsFor_43 : decode cX7_countsFor 43 = .ok (.iload_n 1, 1) := by decide +kernel
theorem dX7_countsFor_44 : decode cX7_countsFor 44 = .ok (.bipush 10, 2) := by decide +kernel
theorem dX7_countsFor_46 : decode cX7_countsFor 46 = .ok (.if_icmp .lt 13, 3) := by decide +kernel
theorem dX7_countsFor_49 : decode cX7_countsFor 49 = .ok (.iload_n 1, 1) := by decide +kernel
theorem dX7_countsFor_50 : decode cX7_countsFor 50 = .ok (.bipush 13, 2) := by decide +kernel
theorem dX7_countsFor_52 : decode cX7_countsFor 52 = .ok (.if_icmp .gt 7, 3) := by decide +kernel
theorem dX7_countsFor_55 : decode cX7_countsFor 55 = .ok (.iconst 1, 1) := by decide +kernel
theorem dX7_countsFor_56 : decode cX7_countsFor 56 = .ok (.goto 4, 3) := by decide +kernel
theorem dX7_countsFor_59 : decode cX7_countsFor 59 = .ok (.iconst 0, 1) := by decide +kernel
theorem dX7_countsFor_60 : decode cX7_countsFor 60 = .ok (.ireturn, 1) := by decide +kernel
theorem dX7_countsFor_61 : decode cX7_countsFor 61 = .ok (.iload_n 1, 1) := by decide +kernel
theorem dX7_countsFor_62 : decode cX7_countsFor 62 = .ok (.bipush 16, 2) := by decide +kernel
theorem dX7_countsFor_64 : decode cX7_countsFor 64 = .ok (.if_icmp .ne 7, 3) := by decide +kernel
theorem dX7_countsFor_67 : decode cX7_countsFor 67 = .ok (.iconst 1, 1) := by decide +kernel
theorem dX7_countsFor_68 : decode cX7_countsFor 68 = .ok (.goto 4, 3) := by decide +kernel
theorem dX7_countsFor_71 : decode cX7_countsFor 71 = .ok (.iconst 0, 1) := by decide +kernel
theorem dX7_countsFor_72 : decode cX7_countsFor 72 = .ok (.ireturn, 1) := by decide +kernel
theorem dX7_countsFor_73 : decode cX7_countsFor 73 = .ok (.iconst 1, 1) := by decide +kernel
theorem dX7_countsFor_74 : decode cX7_countsFor 74 = .ok (.ireturn, 1) := by decide +kernel
theorem dX7_isInColumns_0 : decode cX7_isInColumns 0 = .ok (.aload_n 0, 1) := by decide +kernel
theorem dX7_isInColumns_1 : decode cX7_isInColumns 1 = .ok (.getfield 15, 3) := by decide +kernel
theorem dX7_isInColumns_4 : decode cX7_isInColumns 4 = .ok (.astore_n 1, 1) := by decide +kernel
theorem dX7_isInColumns_5 : decode cX7_isInColumns 5 = .ok (.aload_n 1, 1) := by decide +kernel
theorem dX7_isInColumns_6 : decode cX7_isInColumns 6 = .ok (.ifnull 24, 3) := by decide +kernel
theorem dX7_isInColumns_9 : decode cX7_isInColumns 9 = .ok (.aload_n 1, 1) := by decide +kernel
theorem dX7_isInColumns_10 : decode cX7_isInColumns 10 = .ok (.getfield 29, 3) := by decide +kernel
theorem dX7_isInColumns_13 : decode cX7_isInColumns 13 = .ok (.bipush 17, 2) := by decide +kernel
theorem dX7_isInColumns_15 : decode cX7_isInColumns 15 = .ok (.iaload, 1) := by decide +kernel
theorem dX7_isInColumns_16 : decode cX7_isInColumns 16 = .ok (.iconst 1, 1) := by decide +kernel
theorem dX7_isInColumns_17 : decode cX7_isInColumns 17 = .ok (.if_icmp .le 5, 3) := by decide +kernel
theorem dX7_isInColumns_20 : decode cX7_isInColumns 20 = .ok (.iconst 1, 1) := by decide +kernel
theorem dX7_isInColumns_21 : decode cX7_isInColumns 21 = .ok (.ireturn, 1) := by decide +kernel
theorem dX7_isInColumns_22 : decode cX7_isInColumns 22 = .ok (.aload_n 1, 1) := by decide +kernel
theorem dX7_isInColumns_23 : decode cX7_isInColumns 23 = .ok (.getfield 15, 3) := by decide +kernel
theorem dX7_isInColumns_26 : decode cX7_isInColumns 26 = .ok (.astore_n 1, 1) := by decide +kernel
theorem dX7_isInColumns_27 : decode cX7_isInColumns 27 = .ok (.goto (-22), 3) := by decide +kernel
theorem dX7_isInColumns_30 : decode cX7_isInColumns 30 = .ok (.iconst 0, 1) := by decide +kernel
theorem dX7_isInColumns_31 : decode cX7_isInColumns 31 = .ok (.ireturn, 1) := by decide +kernel
theorem dX7_countScrollsAround_0 : decode cX7_countScrollsAround 0 = .ok (.iconst 0, 1) := by decide +kernel
theorem dX7_countScrollsAround_1 : decode cX7_countScrollsAround 1 = .ok (.istore_n 1, 1) := by decide +kernel
theorem dX7_countScrollsAround_2 : decode cX7_countScrollsAround 2 = .ok (.aload_n 0, 1) := by decide +kernel
theorem dX7_countScrollsAround_3 : decode cX7_countScrollsAround 3 = .ok (.getfield 15, 3) := by decide +kernel
theorem dX7_countScrollsAround_6 : decode cX7_countScrollsAround 6 = .ok (.astore_n 2, 1) := by decide +kernel
theorem dX7_countScrollsAround_7 : decode cX7_countScrollsAround 7 = .ok (.aload_n 2, 1) := by decide +kernel
theorem dX7_countScrollsAround_8 : decode cX7_countScrollsAround 8 = .ok (.ifnull 21, 3) := by decide +kernel
theorem dX7_countScrollsAround_11 : decode cX7_countScrollsAround 11 = .ok (.aload_n 2, 1) := by decide +kernel
theorem dX7_countScrollsAround_12 : decode cX7_countScrollsAround 12 = .ok (.getfield 126, 3) := by decide +kernel
theorem dX7_countScrollsAround_15 : decode cX7_countScrollsAround 15 = .ok (.ifCond .eq 6, 3) := by decide +kernel
theorem dX7_countScrollsAround_18 : decode cX7_countScrollsAround 18 = .ok (.iinc 1 1, 3) := by decide +kernel
theorem dX7_countScrollsAround_21 : decode cX7_countScrollsAround 21 = .ok (.aload_n 2, 1) := by decide +kernel
theorem dX7_countScrollsAround_22 : decode cX7_countScrollsAround 22 = .ok (.getfield 15, 3) := by decide +kernel
theorem dX7_countScrollsAround_25 : decode cX7_countScrollsAround 25 = .ok (.astore_n 2, 1) := by decide +kernel
theorem dX7_countScrollsAround_26 : decode cX7_countScrollsAround 26 = .ok (.goto (-19), 3) := by decide +kernel
theorem dX7_countScrollsAround_29 : decode cX7_countScrollsAround 29 = .ok (.iload_n 1, 1) := by decide +kernel
theorem dX7_countScrollsAround_30 : decode cX7_countScrollsAround 30 = .ok (.ireturn, 1) := by decide +kernel
theorem dX8_init_0 : decode cX8_init 0 = .ok (.aload_n 0, 1) := by decide +kernel
theorem dX8_init_1 : decode cX8_init 1 = .ok (.invokespecial 3, 3) := by decide +kernel
theorem dX8_init_4 : decode cX8_init 4 = .ok (.aload_n 0, 1) := by decide +kernel
theorem dX8_init_5 : decode cX8_init 5 = .ok (.bipush 60, 2) := by decide +kernel
theorem dX8_init_7 : decode cX8_init 7 = .ok (.anewarray 9, 3) := by decide +kernel
theorem dX8_init_10 : decode cX8_init 10 = .ok (.putfield 11, 3) := by decide +kernel
theorem dX8_init_13 : decode cX8_init 13 = .ok (.return_, 1) := by decide +kernel
theorem dX8_arrange_0 : decode cX8_arrange 0 = .ok (.aload_n 0, 1) := by decide +kernel
theorem dX8_arrange_1 : decode cX8_arrange 1 = .ok (.iconst 0, 1) := by decide +kernel
theorem dX8_arrange_2 : decode cX8_arrange 2 = .ok (.putfield 17, 3) := by decide +kernel
theorem dX8_arrange_5 : decode cX8_arrange 5 = .ok (.aload_n 0, 1) := by decide +kernel
theorem dX8_arrange_6 : decode cX8_arrange 6 = .ok (.aload_n 1, 1) := by decide +kernel
theorem dX8_arrange_7 : decode cX8_arrange 7 = .ok (.invokevirtual 21, 3) := by decide +kernel
theorem dX8_arrange_10 : decode cX8_arrange 10 = .ok (.return_, 1) := by decide +kernel
theorem dX8_add_0 : decode cX8_add 0 = .ok (.aload_n 0, 1) := by decide +kernel
theorem dX8_add_1 : decode cX8_add 1 = .ok (.getfield 17, 3) := by decide +kernel
theorem dX8_add_4 : decode cX8_add 4 = .ok (.bipush 60, 2) := by decide +kernel
theorem dX8_add_6 : decode cX8_add 6 = .ok (.if_icmp .ge 23, 3) := by decide +kernel
theorem dX8_add_9 : decode cX8_add 9 = .ok (.aload_n 0, 1) := by decide +kernel
theorem dX8_add_10 : decode cX8_add 10 = .ok (.getfield 11, 3) := by decide +kernel
theorem dX8_add_13 : decode cX8_add 13 = .ok (.aload_n 0, 1) := by decide +kernel
theorem dX8_add_14 : decode cX8_add 14 = .ok (.getfield 17, 3) := by decide +kernel
theorem dX8_add_17 : decode cX8_add 17 = .ok (.aload_n 1, 1) := by decide +kernel
theorem dX8_add_18 : decode cX8_add 18 = .ok (.aastore, 1) := by decide +kernel
theorem dX8_add_19 : decode cX8_add 19 = .ok (.aload_n 0, 1) := by decide +kernel
theorem dX8_add_20 : decode cX8_add 20 = .ok (.dup, 1) := by decide +kernel
theorem dX8_add_21 : decode cX8_add 21 = .ok (.getfield 17, 3) := by decide +kernel
theorem dX8_add_24 : decode cX8_add 24 = .ok (.iconst 1, 1) := by decide +kernel
theorem dX8_add_25 : decode cX8_add 25 = .ok (.iadd, 1) := by decide +kernel
theorem dX8_add_26 : decode cX8_add 26 = .ok (.putfield 17, 3) := by decide +kernel
theorem dX8_add_29 : decode cX8_add 29 = .ok (.return_, 1) := by decide +kernel
theorem dX8_paintStack_0 : decode cX8_paintStack 0 = .ok (.aload_n 0, 1) := by decide +kernel
theorem dX8_paintStack_1 : decode cX8_paintStack 1 = .ok (.aload_n 1, 1) := by decide +kernel
theorem dX8_paintStack_2 : decode cX8_paintStack 2 = .ok (.invokevirtual 25, 3) := by decide +kernel
theorem dX8_paintStack_5 : decode cX8_paintStack 5 = .ok (.bipush (-9), 2) := by decide +kernel
theorem dX8_paintStack_7 : decode cX8_paintStack 7 = .ok (.istore_n 2, 1) := by decide +kernel
theorem dX8_paintStack_8 : decode cX8_paintStack 8 = .ok (.iload_n 2, 1) := by decide +kernel
theorem dX8_paintStack_9 : decode cX8_paintStack 9 = .ok (.ifCond .ge 15, 3) := by decide +kernel
theorem dX8_paintStack_12 : decode cX8_paintStack 12 = .ok (.aload_n 0, 1) := by decide +kernel
theorem dX8_paintStack_13 : decode cX8_paintStack 13 = .ok (.aload_n 1, 1) := by decide +kernel
theorem dX8_paintStack_14 : decode cX8_paintStack 14 = .ok (.iload_n 2, 1) := by decide +kernel
theorem dX8_paintStack_15 : decode cX8_paintStack 15 = .ok (.invokevirtual 28, 3) := by decide +kernel
theorem dX8_paintStack_18 : decode cX8_paintStack 18 = .ok (.iinc 2 1, 3) := by decide +kernel
theorem dX8_paintStack_21 : decode cX8_paintStack 21 = .ok (.goto (-13), 3) := by decide +kernel
theorem dX8_paintStack_24 : decode cX8_paintStack 24 = .ok (.aload_n 0, 1) := by decide +kernel
theorem dX8_paintStack_25 : decode cX8_paintStack 25 = .ok (.aload_n 1, 1) := by decide +kernel
theorem dX8_paintStack_26 : decode cX8_paintStack 26 = .ok (.invokevirtual 32, 3) := by decide +kernel
theorem dX8_paintStack_29 : decode cX8_paintStack 29 = .ok (.iconst 0, 1) := by decide +kernel
theorem dX8_paintStack_30 : decode cX8_paintStack 30 = .ok (.istore_n 2, 1) := by decide +kernel
theorem dX8_paintStack_31 : decode cX8_paintStack 31 = .ok (.iload_n 2, 1) := by decide +kernel
theorem dX8_paintStack_32 : decode cX8_paintStack 32 = .ok (.bipush 9, 2) := by decide +kernel
theorem dX8_paintStack_34 : decode cX8_paintStack 34 = .ok (.if_icmp .gt 15, 3) := by decide +kernel
theorem dX8_paintStack_37 : decode cX8_paintStack 37 = .ok (.aload_n 0, 1) := by decide +kernel
theorem dX8_paintStack_38 : decode cX8_paintStack 38 = .ok (.aload_n 1, 1) := by decide +kernel
theorem dX8_paintStack_39 : decode cX8_paintStack 39 = .ok (.iload_n 2, 1) := by decide +kernel
theorem dX8_paintStack_40 : decode cX8_paintStack 40 = .ok (.invokevirtual 28, 3) := by decide +kernel
theorem dX8_paintStack_43 : decode cX8_paintStack 43 = .ok (.iinc 2 1, 3) := by decide +kernel
theorem dX8_paintStack_46 : decode cX8_paintStack 46 = .ok (.goto (-15), 3) := by decide +kernel
theorem dX8_paintStack_49 : decode cX8_paintStack 49 = .ok (.return_, 1) := by decide +kernel
theorem dX8_paintStacksIn_0 : decode cX8_paintStacksIn 0 = .ok (.aload_n 1, 1) := by decide +kernel
theorem dX8_paintStacksIn_1 : decode cX8_paintStacksIn 1 = .ok (.getfield 35, 3) := by decide +kernel
theorem dX8_paintStacksIn_4 : decode cX8_paintStacksIn 4 = .ok (.astore_n 3, 1) := by decide +kernel
theorem dX8_paintStacksIn_5 : decode cX8_paintStacksIn 5 = .ok (.aload_n 3, 1) := by decide +kernel
theorem dX8_paintStacksIn_6 : decode cX8_paintStacksIn 6 = .ok (.ifnull 49, 3) := by decide +kernel
theorem dX8_paintStacksIn_9 : decode cX8_paintStacksIn 9 = .ok (.aload_n 3, 1) := by decide +kernel
theorem dX8_paintStacksIn_10 : decode cX8_paintStacksIn 10 = .ok (.invokevirtual 39, 3) := by decide +kernel
theorem dX8_paintStacksIn_13 : decode cX8_paintStacksIn 13 = .ok (.istore 4, 2) := by decide +kernel
theorem dX8_paintStacksIn_15 : decode cX8_paintStacksIn 15 = .ok (.iload 4, 2) := by decide +kernel
theorem dX8_paintStacksIn_17 : decode cX8_paintStacksIn 17 = .ok (.ifCond .eq 19, 3) := by decide +kernel
theorem dX8_paintStacksIn_20 : decode cX8_paintStacksIn 20 = .ok (.aload_n 3, 1) := by decide +kernel
theorem dX8_paintStacksIn_21 : decode cX8_paintStacksIn 21 = .ok (.getfield 43, 3) := by decide +kernel
theorem dX8_paintStacksIn_24 : decode cX8_paintStacksIn 24 = .ok (.bipush 15, 2) := by decide +kernel
theorem dX8_paintStacksIn_26 : decode cX8_paintStacksIn 26 = .ok (.iaload, 1) := by decide +kernel
theorem dX8_paintStacksIn_27 : decode cX8_paintStacksIn 27 = .ok (.iload_n 2, 1) := by decide +kernel
theorem dX8_paintStacksIn_28 : decode cX8_paintStacksIn 28 = .ok (.if_icmp .ne 8, 3) := by decide +kernel
theorem dX8_paintStacksIn_31 : decode cX8_paintStacksIn 31 = .ok (.aload_n 0, 1) := by decide +kernel
theorem dX8_paintStacksIn_32 : decode cX8_paintStacksIn 32 = .ok (.aload_n 3, 1) := by decide +kernel
theorem dX8_paintStacksIn_33 : decode cX8_paintStacksIn 33 = .ok (.invokevirtual 21, 3) := by decide +kernel
theorem dX8_paintStacksIn_36 : decode cX8_paintStacksIn 36 = .ok (.aload_n 3, 1) := by decide +kernel
theorem dX8_paintStacksIn_37 : decode cX8_paintStacksIn 37 = .ok (.aload_n 1, 1) := by decide +kernel
theorem dX8_paintStacksIn_38 : decode cX8_paintStacksIn 38 = .ok (.iload 4, 2) := by decide +kernel
theorem dX8_paintStacksIn_40 : decode cX8_paintStacksIn 40 = .ok (.ifCond .ne 7, 3) := by decide +kernel
theorem dX8_paintStacksIn_43 : decode cX8_paintStacksIn 43 = .ok (.iconst 1, 1) := by decide +kernel
theorem dX8_paintStacksIn_44 : decode cX8_paintStacksIn 44 = .ok (.goto 4, 3) := by decide +kernel
theorem dX8_paintStacksIn_47 : decode cX8_paintStacksIn 47 = .ok (.iconst 0, 1) := by decide +kernel
theorem dX8_paintStacksIn_48 : decode cX8_paintStacksIn 48 = .ok (.invokestatic 47, 3) := by decide +kernel
theorem dX8_paintStacksIn_51 : decode cX8_paintStacksIn 51 = .ok (.astore_n 3, 1) := by decide +kernel
theorem dX8_paintStacksIn_52 : decode cX8_paintStacksIn 52 = .ok (.goto (-47), 3) := by decide +kernel
theorem dX8_paintStacksIn_55 : decode cX8_paintStacksIn 55 = .ok (.return_, 1) := by decide +kernel
theorem dX8_paintInside_0 : decode cX8_paintInside 0 = .ok (.iconst 0, 1) := by decide +kernel
theorem dX8_paintInside_1 : decode cX8_paintInside 1 = .ok (.istore_n 2, 1) := by decide +kernel
theorem dX8_paintInside_2 : decode cX8_paintInside 2 = .ok (.iload_n 2, 1) := by decide +kernel
theorem dX8_paintInside_3 : decode cX8_paintInside 3 = .ok (.iconst 2, 1) := by decide +kernel
theorem dX8_paintInside_4 : decode cX8_paintInside 4 = .ok (.if_icmp .gt 103, 3) := by decide +kernel
theorem dX8_paintInside_7 : decode cX8_paintInside 7 = .ok (.aload_n 1, 1) := by decide +kernel
theorem dX8_paintInside_8 : decode cX8_paintInside 8 = .ok (.getfield 35, 3) := by decide +kernel
theorem dX8_paintInside_11 : decode cX8_paintInside 11 = .ok (.astore_n 3, 1) := by decide +kernel
theorem dX8_paintInside_12 : decode cX8_paintInside 12 = .ok (.aload_n 3, 1) := by decide +kernel
theorem dX8_paintInside_13 : decode cX8_paintInside 13 = .ok (.ifnull 88, 3) := by decide +kernel
theorem dX8_paintInside_16 : decode cX8_paintInside 16 = .ok (.aload_n 3, 1) := by decide +kernel
theorem dX8_paintInside_17 : decode cX8_paintInside 17 = .ok (.invokevirtual 39, 3) := by decide +kernel
theorem dX8_paintInside_20 : decode cX8_paintInside 20 = .ok (.istore 4, 2) := by decide +kernel
theorem dX8_paintInside_22 : decode cX8_paintInside 22 = .ok (.aload_n 3, 1) := by decide +kernel
theorem dX8_paintInside_23 : decode cX8_paintInside 23 = .ok (.getfield 51, 3) := by decide +kernel
theorem dX8_paintInside_26 : decode cX8_paintInside 26 = .ok (.getstatic 55, 3) := by decide +kernel
theorem dX8_paintInside_29 : decode cX8_paintInside 29 = .ok (.if_acmp .eq 13, 3) := by decide +kernel
theorem dX8_paintInside_32 : decode cX8_paintInside 32 = .ok (.aload_n 3, 1) := by decide +kernel
theorem dX8_paintInside_33 : decode cX8_paintInside 33 = .ok (.getfield 51, 3) := by decide +kernel
theorem dX8_paintInside_36 : decode cX8_paintInside 36 = .ok (.getstatic 60, 3) := by decide +kernel
theorem dX8_paintInside_39 : decode cX8_paintInside 39 = .ok (.if_acmp .ne 7, 3) := by decide +kernel
theorem dX8_paintInside_42 : decode cX8_paintInside 42 = .ok (.iconst 1, 1) := by decide +kernel
theorem dX8_paintInside_43 : decode cX8_paintInside 43 = .ok (.goto 4, 3) := by decide +kernel
theorem dX8_paintInside_46 : decode cX8_paintInside 46 = .ok (.iconst 0, 1) := by decide +kernel
theorem dX8_paintInside_47 : decode cX8_paintInside 47 = .ok (.istore 5, 2) := by decide +kernel
theorem dX8_paintInside_49 : decode cX8_paintInside 49 = .ok (.iload 4, 2) := by decide +kernel
theorem dX8_paintInside_51 : decode cX8_paintInside 51 = .ok (.ifCond .ne 26, 3) := by decide +kernel
theorem dX8_paintInside_54 : decode cX8_paintInside 54 = .ok (.aload_n 3, 1) := by decide +kernel
theorem dX8_paintInside_55 : decode cX8_paintInside 55 = .ok (.invokestatic 63, 3) := by decide +kernel
theorem dX8_paintInside_58 : decode cX8_paintInside 58 = .ok (.iload_n 2, 1) := by decide +kernel
theorem dX8_paintInside_59 : decode cX8_paintInside 59 = .ok (.if_icmp .ne 18, 3) := by decide +kernel
theorem dX8_paintInside_62 : decode cX8_paintInside 62 = .ok (.aload_n 0, 1) := by decide +kernel
theorem dX8_paintInside_63 : decode cX8_paintInside 63 = .ok (.aload_n 3, 1) := by decide +kernel
theorem dX8_paintInside_64 : decode cX8_paintInside 64 = .ok (.invokevirtual 25, 3) := by decide +kernel
theorem dX8_paintInside_67 : decode cX8_paintInside 67 = .ok (.iload 5, 2) := by decide +kernel
theorem dX8_paintInside_69 : decode cX8_paintInside 69 = .ok (.ifCond .eq 8, 3) := by decide +kernel
theorem dX8_paintInside_72 : decode cX8_paintInside 72 = .ok (.aload_n 0, 1) := by decide +kernel
theorem dX8_paintInside_73 : decode cX8_paintInside 73 = .ok (.aload_n 3, 1) := by decide +kernel
theorem dX8_paintInside_74 : decode cX8_paintInside 74 = .ok (.invokevirtual 32, 3) := by decide +kernel
theorem dX8_paintInside_77 : decode cX8_paintInside 77 = .ok (.aload_n 3, 1) := by decide +kernel
theorem dX8_paintInside_78 : decode cX8_paintInside 78 = .ok (.aload_n 1, 1) := by decide +kernel
theorem dX8_paintInside_79 : decode cX8_paintInside 79 = .ok (.iload 4, 2) := by decide +kernel
theorem dX8_paintInside_81 : decode cX8_paintInside 81 = .ok (.ifCond .ne 12, 3) := by decide +kernel
theorem dX8_paintInside_84 : decode cX8_paintInside 84 = .ok (.iload 5, 2) := by decide +kernel
theorem dX8_paintInside_86 : decode cX8_paintInside 86 = .ok (.ifCond .ne 7, 3) := by decide +kernel
theorem dX8_paintInside_89 : decode cX8_paintInside 89 = .ok (.iconst 1, 1) := by decide +kernel
theorem dX8_paintInside_90 : decode cX8_paintInside 90 = .ok (.goto 4, 3) := by decide +kernel
theorem dX8_paintInside_93 : decode cX8_paintInside 93 = .ok (.iconst 0, 1) := by decide +kernel
theorem dX8_paintInside_94 : decode cX8_paintInside 94 = .ok (.invokestatic 47, 3) := by decide +kernel
theorem dX8_paintInside_97 : decode cX8_paintInside 97 = .ok (.astore_n 3, 1) := by decide +kernel
theorem dX8_paintInside_98 : decode cX8_paintInside 98 = .ok (.goto (-86), 3) := by decide +kernel
theorem dX8_paintInside_101 : decode cX8_paintInside 101 = .ok (.iinc 2 1, 3) := by decide +kernel
theorem dX8_paintInside_104 : decode cX8_paintInside 104 = .ok (.goto (-102), 3) := by decide +kernel
theorem dX8_paintInside_107 : decode cX8_paintInside 107 = .ok (.return_, 1) := by decide +kernel
theorem dX8_stepOf_0 : decode cX8_stepOf 0 = .ok (.getstatic 67, 3) := by decide +kernel
theorem dX8_stepOf_3 : decode cX8_stepOf 3 = .ok (.aload_n 0, 1) := by decide +kernel
theorem dX8_stepOf_4 : decode cX8_stepOf 4 = .ok (.getfield 51, 3) := by decide +kernel
theorem dX8_stepOf_7 : decode cX8_stepOf 7 = .ok (.invokevirtual 72, 3) := by decide +kernel
theorem dX8_stepOf_10 : decode cX8_stepOf 10 = .ok (.iaload, 1) := by decide +kernel
theorem dX8_stepOf_11 : decode cX8_stepOf 11 = .ok (.tableswitch 43 3 8 #[41, 41, 41, 39, 43, 37], 37) := by decide +kernel
theorem dX8_stepOf_48 : decode cX8_stepOf 48 = .ok (.iconst (-1), 1) := by decide +kernel
theorem dX8_stepOf_49 : decode cX8_stepOf 49 = .ok (.ireturn, 1) := by decide +kernel
theorem dX8_stepOf_50 : decode cX8_stepOf 50 = .ok (.iconst 1, 1) := by decide +kernel
theorem dX8_stepOf_51 : decode cX8_stepOf 51 = .ok (.ireturn, 1) := by decide +kernel
theorem dX8_stepOf_52 : decode cX8_stepOf 52 = .ok (.iconst 2, 1) := by decide +kernel
theorem dX8_stepOf_53 : decode cX8_stepOf 53 = .ok (.ireturn, 1) := by decide +kernel
theorem dX8_stepOf_54 : decode cX8_stepOf 54 = .ok (.iconst 0, 1) := by decide +kernel
theorem dX8_stepOf_55 : decode cX8_stepOf 55 = .ok (.ireturn, 1) := by decide +kernel
theorem dX9_init_0 : decode cX9_init 0 = .ok (.aload_n 0, 1) := by decide +kernel
theorem dX9_init_1 : decode cX9_init 1 = .ok (.invokespecial 3, 3) := by decide +kernel
theorem dX9_init_4 : decode cX9_init 4 = .ok (.aload_n 0, 1) := by decide +kernel
theorem dX9_init_5 : decode cX9_init 5 = .ok (.new 9, 3) := by decide +kernel
theorem dX9_init_8 : decode cX9_init 8 = .ok (.dup, 1) := by decide +kernel
theorem dX9_init_9 : decode cX9_init 9 = .ok (.invokespecial 11, 3) := by decide +kernel
theorem dX9_init_12 : decode cX9_init 12 = .ok (.putfield 12, 3) := by decide +kernel
theorem dX9_init_15 : decode cX9_init 15 = .ok (.aload_n 0, 1) := by decide +kernel
theorem dX9_init_16 : decode cX9_init 16 = .ok (.iload_n 1, 1) := by decide +kernel
theorem dX9_init_17 : decode cX9_init 17 = .ok (.anewarray 18, 3) := by decide +kernel
theorem dX9_init_20 : decode cX9_init 20 = .ok (.putfield 20, 3) := by decide +kernel
theorem dX9_init_23 : decode cX9_init 23 = .ok (.iconst 0, 1) := by decide +kernel
theorem dX9_init_24 : decode cX9_init 24 = .ok (.istore_n 2, 1) := by decide +kernel
theorem dX9_init_25 : decode cX9_init 25 = .ok (.iload_n 2, 1) := by decide +kernel
theorem dX9_init_26 : decode cX9_init 26 = .ok (.iload_n 1, 1) := by decide +kernel
theorem dX9_init_27 : decode cX9_init 27 = .ok (.if_icmp .ge 22, 3) := by decide +kernel
theorem dX9_init_30 : decode cX9_init 30 = .ok (.aload_n 0, 1) := by decide +kernel
theorem dX9_init_31 : decode cX9_init 31 = .ok (.getfield 20, 3) := by decide +kernel
theorem dX9_init_34 : decode cX9_init 34 = .ok (.iload_n 2, 1) := by decide +kernel
theorem dX9_init_35 : decode cX9_init 35 = .ok (.new 18, 3) := by decide +kernel
theorem dX9_init_38 : decode cX9_init 38 = .ok (.dup, 1) := by decide +kernel
theorem dX9_init_39 : decode cX9_init 39 = .ok (.invokespecial 24, 3) := by decide +kernel
theorem dX9_init_42 : decode cX9_init 42 = .ok (.aastore, 1) := by decide +kernel
theorem dX9_init_43 : decode cX9_init 43 = .ok (.iinc 2 1, 3) := by decide +kernel
theorem dX9_init_46 : decode cX9_init 46 = .ok (.goto (-21), 3) := by decide +kernel
theorem dX9_init_49 : decode cX9_init 49 = .ok (.aload_n 0, 1) := by decide +kernel
theorem dX9_init_50 : decode cX9_init 50 = .ok (.iconst (-1), 1) := by decide +kernel
theorem dX9_init_51 : decode cX9_init 51 = .ok (.putfield 25, 3) := by decide +kernel
theorem dX9_init_54 : decode cX9_init 54 = .ok (.aload_n 0, 1) := by decide +kernel
theorem dX9_init_55 : decode cX9_init 55 = .ok (.iconst (-1), 1) := by decide +kernel
theorem dX9_init_56 : decode cX9_init 56 = .ok (.putfield 29, 3) := by decide +kernel
theorem dX9_init_59 : decode cX9_init 59 = .ok (.return_, 1) := by decide +kernel
theorem dX9_pieceAt_0 : decode cX9_pieceAt 0 = .ok (.iload_n 1, 1) := by decide +kernel
theorem dX9_pieceAt_1 : decode cX9_pieceAt 1 = .ok (.ifCond .lt 12, 3) := by decide +kernel
theorem dX9_pieceAt_4 : decode cX9_pieceAt 4 = .ok (.iload_n 1, 1) := by decide +kernel
theorem dX9_pieceAt_5 : decode cX9_pieceAt 5 = .ok (.aload_n 0, 1) := by decide +kernel
theorem dX9_pieceAt_6 : decode cX9_pieceAt 6 = .ok (.getfield 20, 3) := by decide +kernel
theorem dX9_pieceAt_9 : decode cX9_pieceAt 9 = .ok (.arraylength, 1) := by decide +kernel
theorem dX9_pieceAt_10 : decode cX9_pieceAt 10 = .ok (.if_icmp .lt 7, 3) := by decide +kernel
theorem dX9_pieceAt_13 : decode cX9_pieceAt 13 = .ok (.aconst_null, 1) := by decide +kernel
theorem dX9_pieceAt_14 : decode cX9_pieceAt 14 = .ok (.goto 9, 3) := by decide +kernel
theorem dX9_pieceAt_17 : decode cX9_pieceAt 17 = .ok (.aload_n 0, 1) := by decide +kernel
theorem dX9_pieceAt_18 : decode cX9_pieceAt 18 = .ok (.getfield 20, 3) := by decide +kernel
theorem dX9_pieceAt_21 : decode cX9_pieceAt 21 = .ok (.iload_n 1, 1) := by decide +kernel
theorem dX9_pieceAt_22 : decode cX9_pieceAt 22 = .ok (.aaload, 1) := by decide +kernel
theorem dX9_pieceAt_23 : decode cX9_pieceAt 23 = .ok (.areturn, 1) := by decide +kernel
theorem dX10_init_0 : decode cX10_init 0 = .ok (.aload_n 0, 1) := by decide +kernel
theorem dX10_init_1 : decode cX10_init 1 = .ok (.invokespecial 3, 3) := by decide +kernel
theorem dX10_init_4 : decode cX10_init 4 = .ok (.aload_n 0, 1) := by decide +kernel
theorem dX10_init_5 : decode cX10_init 5 = .ok (.sipush 2460, 3) := by decide +kernel
theorem dX10_init_8 : decode cX10_init 8 = .ok (.newarray .int, 2) := by decide +kernel
theorem dX10_init_10 : decode cX10_init 10 = .ok (.putfield 11, 3) := by decide +kernel
theorem dX10_init_13 : decode cX10_init 13 = .ok (.aload_n 0, 1) := by decide +kernel
theorem dX10_init_14 : decode cX10_init 14 = .ok (.sipush 2460, 3) := by decide +kernel
theorem dX10_init_17 : decode cX10_init 17 = .ok (.newarray .int, 2) := by decide +kernel
theorem dX10_init_19 : decode cX10_init 19 = .ok (.putfield 15, 3) := by decide +kernel
theorem dX10_init_22 : decode cX10_init 22 = .ok (.aload_n 0, 1) := by decide +kernel
theorem dX10_init_23 : decode cX10_init 23 = .ok (.sipush 4922, 3) := by decide +kernel
theorem dX10_init_26 : decode cX10_init 26 = .ok (.newarray .int, 2) := by decide +kernel
theorem dX10_init_28 : decode cX10_init 28 = .ok (.putfield 18, 3) := by decide +kernel
theorem dX10_init_31 : decode cX10_init 31 = .ok (.aload_n 0, 1) := by decide +kernel
theorem dX10_init_32 : decode cX10_init 32 = .ok (.sipush 4922, 3) := by decide +kernel
theorem dX10_init_35 : decode cX10_init 35 = .ok (.newarray .int, 2) := by decide +kernel
theorem dX10_init_37 : decode cX10_init 37 = .ok (.putfield 21, 3) := by decide +kernel
theorem dX10_init_40 : decode cX10_init 40 = .ok (.return_, 1) := by decide +kernel
theorem dX11_init_0 : decode cX11_init 0 = .ok (.aload_n 0, 1) := by decide +kernel
theorem dX11_init_1 : decode cX11_init 1 = .ok (.invokespecial 1, 3) := by decide +kernel
theorem dX11_init_4 : decode cX11_init 4 = .ok (.return_, 1) := by decide +kernel
theorem dX11_leftSide_0 : decode cX11_leftSide 0 = .ok (.aload_n 0, 1) := by decide +kernel
theorem dX11_leftSide_1 : decode cX11_leftSide 1 = .ok (.getfield 7, 3) := by decide +kernel
theorem dX11_leftSide_4 : decode cX11_leftSide 4 = .ok (.ifnonnull 7, 3) := by decide +kernel
theorem dX11_leftSide_7 : decode cX11_leftSide 7 = .ok (.lconst 0, 1) := by decide +kernel
theorem dX11_leftSide_8 : decode cX11_leftSide 8 = .ok (.goto 16, 3) := by decide +kernel
theorem dX11_leftSide_11 : decode cX11_leftSide 11 = .ok (.aload_n 0, 1) := by decide +kernel
theorem dX11_leftSide_12 : decode cX11_leftSide 12 = .ok (.getfield 7, 3) := by decide +kernel
theorem dX11_leftSide_15 : decode cX11_leftSide 15 = .ok (.getfield 13, 3) := by decide +kernel
theorem dX11_leftSide_18 : decode cX11_leftSide 18 = .ok (.aload_n 0, 1) := by decide +kernel
theorem dX11_leftSide_19 : decode cX11_leftSide 19 = .ok (.getfield 19, 3) := by decide +kernel
theorem dX11_leftSide_22 : decode cX11_leftSide 22 = .ok (.i2l, 1) := by decide +kernel
theorem dX11_leftSide_23 : decode cX11_leftSide 23 = .ok (.ladd, 1) := by decide +kernel
theorem dX11_leftSide_24 : decode cX11_leftSide 24 = .ok (.lreturn, 1) := by decide +kernel
theorem dX12_init_0 : decode cX12_init 0 = .ok (.aload_n 0, 1) := by decide +kernel
theorem dX12_init_1 : decode cX12_init 1 = .ok (.invokespecial 1, 3) := by decide +kernel
theorem dX12_init_4 : decode cX12_init 4 = .ok (.new 7, 3) := by decide +kernel
theorem dX12_init_7 : decode cX12_init 7 = .ok (.dup, 1) := by decide +kernel
theorem dX12_init_8 : decode cX12_init 8 = .ok (.iconst 0, 1) := by decide +kernel
theorem dX12_init_9 : decode cX12_init 9 = .ok (.aconst_null, 1) := by decide +kernel
theorem dX12_init_10 : decode cX12_init 10 = .ok (.iconst 0, 1) := by decide +kernel
theorem dX12_init_11 : decode cX12_init 11 = .ok (.invokespecial 9, 3) := by decide +kernel
theorem dX12_init_14 : decode cX12_init 14 = .ok (.astore_n 1, 1) := by decide +kernel
theorem dX12_init_15 : decode cX12_init 15 = .ok (.new 12, 3) := by decide +kernel
theorem dX12_init_18 : decode cX12_init 18 = .ok (.dup, 1) := by decide +kernel
theorem dX12_init_19 : decode cX12_init 19 = .ok (.invokespecial 14, 3) := by decide +kernel
theorem dX12_init_22 : decode cX12_init 22 = .ok (.astore_n 2, 1) := by decide +kernel
theorem dX12_init_23 : decode cX12_init 23 = .ok (.aload_n 1, 1) := by decide +kernel
theorem dX12_init_24 : decode cX12_init 24 = .ok (.invokestatic 15, 3) := by decide +kernel
theorem dX12_init_27 : decode cX12_init 27 = .ok (.aload_n 0, 1) := by decide +kernel
theorem dX12_init_28 : decode cX12_init 28 = .ok (.bipush 60, 2) := by decide +kernel
theorem dX12_init_30 : decode cX12_init 30 = .ok (.anewarray 7, 3) := by decide +kernel
theorem dX12_init_33 : decode cX12_init 33 = .ok (.putfield 21, 3) := by decide +kernel
theorem dX12_init_36 : decode cX12_init 36 = .ok (.aload_n 0, 1) := by decide +kernel
theorem dX12_init_37 : decode cX12_init 37 = .ok (.getfield 21, 3) := by decide +kernel
theorem dX12_init_40 : decode cX12_init 40 = .ok (.iconst 0, 1) := by decide +kernel
theorem dX12_init_41 : decode cX12_init 41 = .ok (.aload_n 1, 1) := by decide +kernel
theorem dX12_init_42 : decode cX12_init 42 = .ok (.aastore, 1) := by decide +kernel
theorem dX12_init_43 : decode cX12_init 43 = .ok (.aload_n 0, 1) := by decide +kernel
theorem dX12_init_44 : decode cX12_init 44 = .ok (.aload_n 1, 1) := by decide +kernel
theorem dX12_init_45 : decode cX12_init 45 = .ok (.putfield 25, 3) := by decide +kernel
theorem dX12_init_48 : decode cX12_init 48 = .ok (.aload_n 0, 1) := by decide +kernel
theorem dX12_init_49 : decode cX12_init 49 = .ok (.iconst 1, 1) := by decide +kernel
theorem dX12_init_50 : decode cX12_init 50 = .ok (.putfield 29, 3) := by decide +kernel
theorem dX12_init_53 : decode cX12_init 53 = .ok (.aload_n 0, 1) := by decide +kernel
theorem dX12_init_54 : decode cX12_init 54 = .ok (.bipush 60, 2) := by decide +kernel
theorem dX12_init_56 : decode cX12_init 56 = .ok (.putfield 33, 3) := by decide +kernel
theorem dX12_init_59 : decode cX12_init 59 = .ok (.aload_n 0, 1) := by decide +kernel
theorem dX12_init_60 : decode cX12_init 60 = .ok (.new 36, 3) := by decide +kernel
theorem dX12_init_63 : decode cX12_init 63 = .ok (.dup, 1) := by decide +kernel
theorem dX12_init_64 : decode cX12_init 64 = .ok (.iconst 0, 1) := by decide +kernel
theorem dX12_init_65 : decode cX12_init 65 = .ok (.aload_n 2, 1) := by decide +kernel
theorem dX12_init_66 : decode cX12_init 66 = .ok (.invokespecial 38, 3) := by decide +kernel
theorem dX12_init_69 : decode cX12_init 69 = .ok (.putfield 41, 3) := by decide +kernel
theorem dX12_init_72 : decode cX12_init 72 = .ok (.aload_n 0, 1) := by decide +kernel
theorem dX12_init_73 : decode cX12_init 73 = .ok (.new 36, 3) := by decide +kernel
theorem dX12_init_76 : decode cX12_init 76 = .ok (.dup, 1) := by decide +kernel
theorem dX12_init_77 : decode cX12_init 77 = .ok (.iconst 1, 1) := by decide +kernel
theorem dX12_init_78 : decode cX12_init 78 = .ok (.aload_n 2, 1) := by decide +kernel
theorem dX12_init_79 : decode cX12_init 79 = .ok (.invokespecial 38, 3) := by decide +kernel
theorem dX12_init_82 : decode cX12_init 82 = .ok (.putfield 45, 3) := by decide +kernel
theorem dX12_init_85 : decode cX12_init 85 = .ok (.aload_n 0, 1) := by decide +kernel
theorem dX12_init_86 : decode cX12_init 86 = .ok (.new 48, 3) := by decide +kernel
theorem dX12_init_89 : decode cX12_init 89 = .ok (.dup, 1) := by decide +kernel
theorem dX12_init_90 : decode cX12_init 90 = .ok (.invokespecial 50, 3) := by decide +kernel
theorem dX12_init_93 : decode cX12_init 93 = .ok (.putfield 51, 3) := by decide +kernel
theorem dX12_init_96 : decode cX12_init 96 = .ok (.aload_n 0, 1) := by decide +kernel
theorem dX12_init_97 : decode cX12_init 97 = .ok (.aload_n 0, 1) := by decide +kernel
theorem dX12_init_98 : decode cX12_init 98 = .ok (.getfield 41, 3) := by decide +kernel
theorem dX12_init_101 : decode cX12_init 101 = .ok (.aload_n 1, 1) := by decide +kernel
theorem dX12_init_102 : decode cX12_init 102 = .ok (.bipush 60, 2) := by decide +kernel
theorem dX12_init_104 : decode cX12_init 104 = .ok (.iconst 0, 1) := by decide +kernel
theorem dX12_init_105 : decode cX12_init 105 = .ok (.invokevirtual 55, 3) := by decide +kernel
theorem dX12_init_108 : decode cX12_init 108 = .ok (.putfield 59, 3) := by decide +kernel
theorem dX12_init_111 : decode cX12_init 111 = .ok (.aload_n 0, 1) := by decide +kernel
theorem dX12_init_112 : decode cX12_init 112 = .ok (.aload_n 0, 1) := by decide +kernel
theorem dX12_init_113 : decode cX12_init 113 = .ok (.getfield 59, 3) := by decide +kernel
theorem dX12_init_116 : decode cX12_init 116 = .ok (.putfield 62, 3) := by decide +kernel
theorem dX12_init_119 : decode cX12_init 119 = .ok (.aload_n 0, 1) := by decide +kernel
theorem dX12_init_120 : decode cX12_init 120 = .ok (.getfield 51, 3) := by decide +kernel
theorem dX12_init_123 : decode cX12_init 123 = .ok (.aload_n 1, 1) := by decide +kernel
theorem dX12_init_124 : decode cX12_init 124 = .ok (.invokevirtual 65, 3) := by decide +kernel
theorem dX12_init_127 : decode cX12_init 127 = .ok (.return_, 1) := by decide +kernel
theorem dX12_box_0 : decode cX12_box 0 = .ok (.aload_n 0, 1) := by decide +kernel
theorem dX12_box_1 : decode cX12_box 1 = .ok (.iload_n 1, 1) := by decide +kernel
theorem dX12_box_2 : decode cX12_box 2 = .ok (.invokevirtual 68, 3) := by decide +kernel
theorem dX12_box_5 : decode cX12_box 5 = .ok (.astore_n 3, 1) := by decide +kernel
theorem dX12_box_6 : decode cX12_box 6 = .ok (.aload_n 3, 1) := by decide +kernel
theorem dX12_box_7 : decode cX12_box 7 = .ok (.ifnull 15, 3) := by decide +kernel
theorem dX12_box_10 : decode cX12_box 10 = .ok (.iload_n 2, 1) := by decide +kernel
theorem dX12_box_11 : decode cX12_box 11 = .ok (.ifCond .lt 11, 3) := by decide +kernel
theorem dX12_box_14 : decode cX12_box 14 = .ok (.iload_n 2, 1) := by decide +kernel
theorem dX12_box_15 : decode cX12_box 15 = .ok (.aload_n 3, 1) := by decide +kernel
theorem dX12_box_16 : decode cX12_box 16 = .ok (.invokevirtual 72, 3) := by decide +kernel
theorem dX12_box_19 : decode cX12_box 19 = .ok (.if_icmp .le 11, 3) := by decide +kernel
theorem dX12_box_22 : decode cX12_box 22 = .ok (.new 76, 3) := by decide +kernel
theorem dX12_box_25 : decode cX12_box 25 = .ok (.dup, 1) := by decide +kernel
theorem dX12_box_26 : decode cX12_box 26 = .ok (.invokespecial 78, 3) := by decide +kernel
theorem dX12_box_29 : decode cX12_box 29 = .ok (.athrow, 1) := by decide +kernel
theorem dX12_box_30 : decode cX12_box 30 = .ok (.aload_n 0, 1) := by decide +kernel
theorem dX12_box_31 : decode cX12_box 31 = .ok (.aload_n 3, 1) := by decide +kernel
theorem dX12_box_32 : decode cX12_box 32 = .ok (.invokevirtual 79, 3) := by decide +kernel
theorem dX12_box_35 : decode cX12_box 35 = .ok (.ifCond .ne 11, 3) := by decide +kernel
theorem dX12_box_38 : decode cX12_box 38 = .ok (.new 83, 3) := by decide +kernel
theorem dX12_box_41 : decode cX12_box 41 = .ok (.dup, 1) := by decide +kernel
theorem dX12_box_42 : decode cX12_box 42 = .ok (.invokespecial 85, 3) := by decide +kernel
theorem dX12_box_45 : decode cX12_box 45 = .ok (.athrow, 1) := by decide +kernel
theorem dX12_box_46 : decode cX12_box 46 = .ok (.aload_n 0, 1) := by decide +kernel
theorem dX12_box_47 : decode cX12_box 47 = .ok (.aload_n 3, 1) := by decide +kernel
theorem dX12_box_48 : decode cX12_box 48 = .ok (.iload_n 2, 1) := by decide +kernel
theorem dX12_box_49 : decode cX12_box 49 = .ok (.iconst 0, 1) := by decide +kernel
theorem dX12_box_50 : decode cX12_box 50 = .ok (.invokevirtual 86, 3) := by decide +kernel
theorem dX12_box_53 : decode cX12_box 53 = .ok (.istore 4, 2) := by decide +kernel
theorem dX12_box_55 : decode cX12_box 55 = .ok (.aload_n 0, 1) := by decide +kernel
theorem dX12_box_56 : decode cX12_box 56 = .ok (.invokevirtual 89, 3) := by decide +kernel
theorem dX12_box_59 : decode cX12_box 59 = .ok (.iload 4, 2) := by decide +kernel
theorem dX12_box_61 : decode cX12_box 61 = .ok (.ireturn, 1) := by decide +kernel
theorem dX12_text_0 : decode cX12_text 0 = .ok (.aload_n 0, 1) := by decide +kernel
theorem dX12_text_1 : decode cX12_text 1 = .ok (.iload_n 1, 1) := by decide +kernel
theorem dX12_text_2 : decode cX12_text 2 = .ok (.invokevirtual 68, 3) := by decide +kernel
theorem dX12_text_5 : decode cX12_text 5 = .ok (.astore 4, 2) := by decide +kernel
theorem dX12_text_7 : decode cX12_text 7 = .ok (.aload 4, 2) := by decide +kernel
theorem dX12_text_9 : decode cX12_text 9 = .ok (.ifnull 16, 3) := by decide +kernel
theorem dX12_text_12 : decode cX12_text 12 = .ok (.iload_n 2, 1) := by decide +kernel
theorem dX12_text_13 : decode cX12_text 13 = .ok (.ifCond .lt 12, 3) := by decide +kernel
theorem dX12_text_16 : decode cX12_text 16 = .ok (.iload_n 2, 1) := by decide +kernel
theorem dX12_text_17 : decode cX12_text 17 = .ok (.aload 4, 2) := by decide +kernel
theorem dX12_text_19 : decode cX12_text 19 = .ok (.invokevirtual 72, 3) := by decide +kernel
theorem dX12_text_22 : decode cX12_text 22 = .ok (.if_icmp .le 11, 3) := by decide +kernel
theorem dX12_text_25 : decode cX12_text 25 = .ok (.new 76, 3) := by decide +kernel
theorem dX12_text_28 : decode cX12_text 28 = .ok (.dup, 1) := by decide +kernel
theorem dX12_text_29 : decode cX12_text 29 = .ok (.invokespecial 78, 3) := by decide +kernel
theorem dX12_text_32 : decode cX12_text 32 = .ok (.athrow, 1) := by decide +kernel
theorem dX12_text_33 : decode cX12_text 33 = .ok (.iload_n 3, 1) := by decide +kernel
theorem dX12_text_34 : decode cX12_text 34 = .ok (.iconst 1, 1) := by decide +kernel
theorem dX12_text_35 : decode cX12_text 35 = .ok (.if_icmp .lt 9, 3) := by decide +kernel
theorem dX12_text_38 : decode cX12_text 38 = .ok (.iload_n 3, 1) := by decide +kernel
theorem dX12_text_39 : decode cX12_text 39 = .ok (.bipush 20, 2) := by decide +kernel
theorem dX12_text_41 : decode cX12_text 41 = .ok (.if_icmp .le 11, 3) := by decide +kernel
theorem dX12_text_44 : decode cX12_text 44 = .ok (.new 92, 3) := by decide +kernel
theorem dX12_text_47 : decode cX12_text 47 = .ok (.dup, 1) := by decide +kernel
theorem dX12_text_48 : decode cX12_text 48 = .ok (.invokespecial 94, 3) := by decide +kernel
theorem dX12_text_51 : decode cX12_text 51 = .ok (.athrow, 1) := by decide +kernel
theorem dX12_text_52 : decode cX12_text 52 = .ok (.aload_n 0, 1) := by decide +kernel
theorem dX12_text_53 : decode cX12_text 53 = .ok (.aload 4, 2) := by decide +kernel
