theorem dX5_up_0 : decode cX5_up 0 = .ok (.aload_n 0, 1) := by decide +kernel
theorem dX5_up_1 : decode cX5_up 1 = .ok (.getfield 27, 3) := by decide +kernel
theorem dX5_up_4 : decode cX5_up 4 = .ok (.iload_n 1, 1) := by decide +kernel
theorem dX5_up_5 : decode cX5_up 5 = .ok (.iaload, 1) := by decide +kernel
theorem dX5_up_6 : decode cX5_up 6 = .ok (.bipush 7, 2) := by decide +kernel
theorem dX5_up_8 : decode cX5_up 8 = .ok (.if_icmp .ne 20, 3) := by decide +kernel
theorem dX5_up_11 : decode cX5_up 11 = .ok (.aload_n 0, 1) := by decide +kernel
theorem dX5_up_12 : decode cX5_up 12 = .ok (.iload_n 1, 1) := by decide +kernel
theorem dX5_up_13 : decode cX5_up 13 = .ok (.invokevirtual 172, 3) := by decide +kernel
theorem dX5_up_16 : decode cX5_up 16 = .ok (.ifCond .eq 12, 3) := by decide +kernel
theorem dX5_up_19 : decode cX5_up 19 = .ok (.aload_n 0, 1) := by decide +kernel
theorem dX5_up_20 : decode cX5_up 20 = .ok (.getfield 57, 3) := by decide +kernel
theorem dX5_up_23 : decode cX5_up 23 = .ok (.iload_n 1, 1) := by decide +kernel
theorem dX5_up_24 : decode cX5_up 24 = .ok (.iaload, 1) := by decide +kernel
theorem dX5_up_25 : decode cX5_up 25 = .ok (.ifCond .ne 4, 3) := by decide +kernel
theorem dX5_up_28 : decode cX5_up 28 = .ok (.return_, 1) := by decide +kernel
theorem dX5_up_29 : decode cX5_up 29 = .ok (.aload_n 0, 1) := by decide +kernel
theorem dX5_up_30 : decode cX5_up 30 = .ok (.getfield 30, 3) := by decide +kernel
theorem dX5_up_33 : decode cX5_up 33 = .ok (.iload_n 1, 1) := by decide +kernel
theorem dX5_up_34 : decode cX5_up 34 = .ok (.iaload, 1) := by decide +kernel
theorem dX5_up_35 : decode cX5_up 35 = .ok (.istore_n 2, 1) := by decide +kernel
theorem dX5_up_36 : decode cX5_up 36 = .ok (.aload_n 0, 1) := by decide +kernel
theorem dX5_up_37 : decode cX5_up 37 = .ok (.aload_n 0, 1) := by decide +kernel
theorem dX5_up_38 : decode cX5_up 38 = .ok (.getfield 60, 3) := by decide +kernel
theorem dX5_up_41 : decode cX5_up 41 = .ok (.bipush 8, 2) := by decide +kernel
theorem dX5_up_43 : decode cX5_up 43 = .ok (.iload_n 1, 1) := by decide +kernel
theorem dX5_up_44 : decode cX5_up 44 = .ok (.imul, 1) := by decide +kernel
theorem dX5_up_45 : decode cX5_up 45 = .ok (.laload, 1) := by decide +kernel
theorem dX5_up_46 : decode cX5_up 46 = .ok (.aload_n 0, 1) := by decide +kernel
theorem dX5_up_47 : decode cX5_up 47 = .ok (.aload_n 0, 1) := by decide +kernel
theorem dX5_up_48 : decode cX5_up 48 = .ok (.getfield 16, 3) := by decide +kernel
theorem dX5_up_51 : decode cX5_up 51 = .ok (.iload_n 1, 1) := by decide +kernel
theorem dX5_up_52 : decode cX5_up 52 = .ok (.laload, 1) := by decide +kernel
theorem dX5_up_53 : decode cX5_up 53 = .ok (.aload_n 0, 1) := by decide +kernel
theorem dX5_up_54 : decode cX5_up 54 = .ok (.getfield 103, 3) := by decide +kernel
theorem dX5_up_57 : decode cX5_up 57 = .ok (.i2l, 1) := by decide +kernel
theorem dX5_up_58 : decode cX5_up 58 = .ok (.invokevirtual 175, 3) := by decide +kernel
theorem dX5_up_61 : decode cX5_up 61 = .ok (.lxor, 1) := by decide +kernel
theorem dX5_up_62 : decode cX5_up 62 = .ok (.putfield 179, 3) := by decide +kernel
theorem dX5_up_65 : decode cX5_up 65 = .ok (.aload_n 0, 1) := by decide +kernel
theorem dX5_up_66 : decode cX5_up 66 = .ok (.getfield 57, 3) := by decide +kernel
theorem dX5_up_69 : decode cX5_up 69 = .ok (.iload_n 1, 1) := by decide +kernel
theorem dX5_up_70 : decode cX5_up 70 = .ok (.dup2, 1) := by decide +kernel
theorem dX5_up_71 : decode cX5_up 71 = .ok (.iaload, 1) := by decide +kernel
theorem dX5_up_72 : decode cX5_up 72 = .ok (.iconst 1, 1) := by decide +kernel
theorem dX5_up_73 : decode cX5_up 73 = .ok (.isub, 1) := by decide +kernel
theorem dX5_up_74 : decode cX5_up 74 = .ok (.iastore, 1) := by decide +kernel
theorem dX5_up_75 : decode cX5_up 75 = .ok (.iconst 0, 1) := by decide +kernel
theorem dX5_up_76 : decode cX5_up 76 = .ok (.istore_n 3, 1) := by decide +kernel
theorem dX5_up_77 : decode cX5_up 77 = .ok (.iload_n 3, 1) := by decide +kernel
theorem dX5_up_78 : decode cX5_up 78 = .ok (.aload_n 0, 1) := by decide +kernel
theorem dX5_up_79 : decode cX5_up 79 = .ok (.getfield 57, 3) := by decide +kernel
theorem dX5_up_82 : decode cX5_up 82 = .ok (.iload_n 1, 1) := by decide +kernel
theorem dX5_up_83 : decode cX5_up 83 = .ok (.iaload, 1) := by decide +kernel
theorem dX5_up_84 : decode cX5_up 84 = .ok (.if_icmp .ge 33, 3) := by decide +kernel
theorem dX5_up_87 : decode cX5_up 87 = .ok (.aload_n 0, 1) := by decide +kernel
theorem dX5_up_88 : decode cX5_up 88 = .ok (.getfield 60, 3) := by decide +kernel
theorem dX5_up_91 : decode cX5_up 91 = .ok (.bipush 8, 2) := by decide +kernel
theorem dX5_up_93 : decode cX5_up 93 = .ok (.iload_n 1, 1) := by decide +kernel
theorem dX5_up_94 : decode cX5_up 94 = .ok (.imul, 1) := by decide +kernel
theorem dX5_up_95 : decode cX5_up 95 = .ok (.iload_n 3, 1) := by decide +kernel
theorem dX5_up_96 : decode cX5_up 96 = .ok (.iadd, 1) := by decide +kernel
theorem dX5_up_97 : decode cX5_up 97 = .ok (.aload_n 0, 1) := by decide +kernel
theorem dX5_up_98 : decode cX5_up 98 = .ok (.getfield 60, 3) := by decide +kernel
theorem dX5_up_101 : decode cX5_up 101 = .ok (.bipush 8, 2) := by decide +kernel
theorem dX5_up_103 : decode cX5_up 103 = .ok (.iload_n 1, 1) := by decide +kernel
theorem dX5_up_104 : decode cX5_up 104 = .ok (.imul, 1) := by decide +kernel
theorem dX5_up_105 : decode cX5_up 105 = .ok (.iload_n 3, 1) := by decide +kernel
theorem dX5_up_106 : decode cX5_up 106 = .ok (.iadd, 1) := by decide +kernel
theorem dX5_up_107 : decode cX5_up 107 = .ok (.iconst 1, 1) := by decide +kernel
theorem dX5_up_108 : decode cX5_up 108 = .ok (.iadd, 1) := by decide +kernel
theorem dX5_up_109 : decode cX5_up 109 = .ok (.laload, 1) := by decide +kernel
theorem dX5_up_110 : decode cX5_up 110 = .ok (.lastore, 1) := by decide +kernel
theorem dX5_up_111 : decode cX5_up 111 = .ok (.iinc 3 1, 3) := by decide +kernel
theorem dX5_up_114 : decode cX5_up 114 = .ok (.goto (-37), 3) := by decide +kernel
theorem dX5_up_117 : decode cX5_up 117 = .ok (.aload_n 0, 1) := by decide +kernel
theorem dX5_up_118 : decode cX5_up 118 = .ok (.dup, 1) := by decide +kernel
theorem dX5_up_119 : decode cX5_up 119 = .ok (.getfield 183, 3) := by decide +kernel
theorem dX5_up_122 : decode cX5_up 122 = .ok (.iconst 1, 1) := by decide +kernel
theorem dX5_up_123 : decode cX5_up 123 = .ok (.iadd, 1) := by decide +kernel
theorem dX5_up_124 : decode cX5_up 124 = .ok (.putfield 183, 3) := by decide +kernel
theorem dX5_up_127 : decode cX5_up 127 = .ok (.aload_n 0, 1) := by decide +kernel
theorem dX5_up_128 : decode cX5_up 128 = .ok (.getfield 63, 3) := by decide +kernel
theorem dX5_up_131 : decode cX5_up 131 = .ok (.iload_n 2, 1) := by decide +kernel
theorem dX5_up_132 : decode cX5_up 132 = .ok (.iaload, 1) := by decide +kernel
theorem dX5_up_133 : decode cX5_up 133 = .ok (.bipush 16, 2) := by decide +kernel
theorem dX5_up_135 : decode cX5_up 135 = .ok (.if_icmp .ge 49, 3) := by decide +kernel
theorem dX5_up_138 : decode cX5_up 138 = .ok (.aload_n 0, 1) := by decide +kernel
theorem dX5_up_139 : decode cX5_up 139 = .ok (.getfield 66, 3) := by decide +kernel
theorem dX5_up_142 : decode cX5_up 142 = .ok (.bipush 16, 2) := by decide +kernel
theorem dX5_up_144 : decode cX5_up 144 = .ok (.iload_n 2, 1) := by decide +kernel
theorem dX5_up_145 : decode cX5_up 145 = .ok (.imul, 1) := by decide +kernel
theorem dX5_up_146 : decode cX5_up 146 = .ok (.aload_n 0, 1) := by decide +kernel
theorem dX5_up_147 : decode cX5_up 147 = .ok (.getfield 63, 3) := by decide +kernel
theorem dX5_up_150 : decode cX5_up 150 = .ok (.iload_n 2, 1) := by decide +kernel
theorem dX5_up_151 : decode cX5_up 151 = .ok (.iaload, 1) := by decide +kernel
theorem dX5_up_152 : decode cX5_up 152 = .ok (.iadd, 1) := by decide +kernel
theorem dX5_up_153 : decode cX5_up 153 = .ok (.aload_n 0, 1) := by decide +kernel
theorem dX5_up_154 : decode cX5_up 154 = .ok (.getfield 179, 3) := by decide +kernel
theorem dX5_up_157 : decode cX5_up 157 = .ok (.aload_n 0, 1) := by decide +kernel
theorem dX5_up_158 : decode cX5_up 158 = .ok (.aload_n 0, 1) := by decide +kernel
theorem dX5_up_159 : decode cX5_up 159 = .ok (.getfield 24, 3) := by decide +kernel
theorem dX5_up_162 : decode cX5_up 162 = .ok (.iload_n 1, 1) := by decide +kernel
theorem dX5_up_163 : decode cX5_up 163 = .ok (.laload, 1) := by decide +kernel
theorem dX5_up_164 : decode cX5_up 164 = .ok (.aload_n 0, 1) := by decide +kernel
theorem dX5_up_165 : decode cX5_up 165 = .ok (.getfield 103, 3) := by decide +kernel
theorem dX5_up_168 : decode cX5_up 168 = .ok (.i2l, 1) := by decide +kernel
theorem dX5_up_169 : decode cX5_up 169 = .ok (.invokevirtual 175, 3) := by decide +kernel
theorem dX5_up_172 : decode cX5_up 172 = .ok (.lxor, 1) := by decide +kernel
theorem dX5_up_173 : decode cX5_up 173 = .ok (.lastore, 1) := by decide +kernel
theorem dX5_up_174 : decode cX5_up 174 = .ok (.aload_n 0, 1) := by decide +kernel
theorem dX5_up_175 : decode cX5_up 175 = .ok (.getfield 63, 3) := by decide +kernel
theorem dX5_up_178 : decode cX5_up 178 = .ok (.iload_n 2, 1) := by decide +kernel
theorem dX5_up_179 : decode cX5_up 179 = .ok (.dup2, 1) := by decide +kernel
theorem dX5_up_180 : decode cX5_up 180 = .ok (.iaload, 1) := by decide +kernel
theorem dX5_up_181 : decode cX5_up 181 = .ok (.iconst 1, 1) := by decide +kernel
theorem dX5_up_182 : decode cX5_up 182 = .ok (.iadd, 1) := by decide +kernel
theorem dX5_up_183 : decode cX5_up 183 = .ok (.iastore, 1) := by decide +kernel
theorem dX5_up_184 : decode cX5_up 184 = .ok (.return_, 1) := by decide +kernel
theorem dX5_down_0 : decode cX5_down 0 = .ok (.aload_n 0, 1) := by decide +kernel
theorem dX5_down_1 : decode cX5_down 1 = .ok (.getfield 27, 3) := by decide +kernel
theorem dX5_down_4 : decode cX5_down 4 = .ok (.iload_n 1, 1) := by decide +kernel
theorem dX5_down_5 : decode cX5_down 5 = .ok (.iaload, 1) := by decide +kernel
theorem dX5_down_6 : decode cX5_down 6 = .ok (.bipush 7, 2) := by decide +kernel
theorem dX5_down_8 : decode cX5_down 8 = .ok (.if_icmp .ne 20, 3) := by decide +kernel
theorem dX5_down_11 : decode cX5_down 11 = .ok (.aload_n 0, 1) := by decide +kernel
theorem dX5_down_12 : decode cX5_down 12 = .ok (.iload_n 1, 1) := by decide +kernel
theorem dX5_down_13 : decode cX5_down 13 = .ok (.invokevirtual 172, 3) := by decide +kernel
theorem dX5_down_16 : decode cX5_down 16 = .ok (.ifCond .eq 12, 3) := by decide +kernel
theorem dX5_down_19 : decode cX5_down 19 = .ok (.aload_n 0, 1) := by decide +kernel
theorem dX5_down_20 : decode cX5_down 20 = .ok (.getfield 81, 3) := by decide +kernel
theorem dX5_down_23 : decode cX5_down 23 = .ok (.iload_n 1, 1) := by decide +kernel
theorem dX5_down_24 : decode cX5_down 24 = .ok (.iaload, 1) := by decide +kernel
theorem dX5_down_25 : decode cX5_down 25 = .ok (.ifCond .ne 5, 3) := by decide +kernel
theorem dX5_down_28 : decode cX5_down 28 = .ok (.iconst 0, 1) := by decide +kernel
theorem dX5_down_29 : decode cX5_down 29 = .ok (.ireturn, 1) := by decide +kernel
theorem dX5_down_30 : decode cX5_down 30 = .ok (.aload_n 0, 1) := by decide +kernel
theorem dX5_down_31 : decode cX5_down 31 = .ok (.aload_n 0, 1) := by decide +kernel
theorem dX5_down_32 : decode cX5_down 32 = .ok (.getfield 66, 3) := by decide +kernel
theorem dX5_down_35 : decode cX5_down 35 = .ok (.bipush 16, 2) := by decide +kernel
theorem dX5_down_37 : decode cX5_down 37 = .ok (.iload_n 1, 1) := by decide +kernel
theorem dX5_down_38 : decode cX5_down 38 = .ok (.imul, 1) := by decide +kernel
theorem dX5_down_39 : decode cX5_down 39 = .ok (.laload, 1) := by decide +kernel
theorem dX5_down_40 : decode cX5_down 40 = .ok (.aload_n 0, 1) := by decide +kernel
theorem dX5_down_41 : decode cX5_down 41 = .ok (.aload_n 0, 1) := by decide +kernel
theorem dX5_down_42 : decode cX5_down 42 = .ok (.getfield 24, 3) := by decide +kernel
theorem dX5_down_45 : decode cX5_down 45 = .ok (.iload_n 1, 1) := by decide +kernel
theorem dX5_down_46 : decode cX5_down 46 = .ok (.laload, 1) := by decide +kernel
theorem dX5_down_47 : decode cX5_down 47 = .ok (.aload_n 0, 1) := by decide +kernel
theorem dX5_down_48 : decode cX5_down 48 = .ok (.getfield 103, 3) := by decide +kernel
theorem dX5_down_51 : decode cX5_down 51 = .ok (.i2l, 1) := by decide +kernel
theorem dX5_down_52 : decode cX5_down 52 = .ok (.ldc2_w 186, 3) := by decide +kernel
theorem dX5_down_55 : decode cX5_down 55 = .ok (.ladd, 1) := by decide +kernel
theorem dX5_down_56 : decode cX5_down 56 = .ok (.invokevirtual 175, 3) := by decide +kernel
theorem dX5_down_59 : decode cX5_down 59 = .ok (.lxor, 1) := by decide +kernel
theorem dX5_down_60 : decode cX5_down 60 = .ok (.putfield 188, 3) := by decide +kernel
theorem dX5_down_63 : decode cX5_down 63 = .ok (.aload_n 0, 1) := by decide +kernel
theorem dX5_down_64 : decode cX5_down 64 = .ok (.getfield 63, 3) := by decide +kernel
theorem dX5_down_67 : decode cX5_down 67 = .ok (.iload_n 1, 1) := by decide +kernel
theorem dX5_down_68 : decode cX5_down 68 = .ok (.dup2, 1) := by decide +kernel
theorem dX5_down_69 : decode cX5_down 69 = .ok (.iaload, 1) := by decide +kernel
theorem dX5_down_70 : decode cX5_down 70 = .ok (.iconst 1, 1) := by decide +kernel
theorem dX5_down_71 : decode cX5_down 71 = .ok (.isub, 1) := by decide +kernel
theorem dX5_down_72 : decode cX5_down 72 = .ok (.iastore, 1) := by decide +kernel
theorem dX5_down_73 : decode cX5_down 73 = .ok (.iconst 0, 1) := by decide +kernel
theorem dX5_down_74 : decode cX5_down 74 = .ok (.istore_n 2, 1) := by decide +kernel
theorem dX5_down_75 : decode cX5_down 75 = .ok (.iload_n 2, 1) := by decide +kernel
theorem dX5_down_76 : decode cX5_down 76 = .ok (.aload_n 0, 1) := by decide +kernel
theorem dX5_down_77 : decode cX5_down 77 = .ok (.getfield 63, 3) := by decide +kernel
theorem dX5_down_80 : decode cX5_down 80 = .ok (.iload_n 1, 1) := by decide +kernel
theorem dX5_down_81 : decode cX5_down 81 = .ok (.iaload, 1) := by decide +kernel
theorem dX5_down_82 : decode cX5_down 82 = .ok (.if_icmp .ge 33, 3) := by decide +kernel
theorem dX5_down_85 : decode cX5_down 85 = .ok (.aload_n 0, 1) := by decide +kernel
theorem dX5_down_86 : decode cX5_down 86 = .ok (.getfield 66, 3) := by decide +kernel
theorem dX5_down_89 : decode cX5_down 89 = .ok (.bipush 16, 2) := by decide +kernel
theorem dX5_down_91 : decode cX5_down 91 = .ok (.iload_n 1, 1) := by decide +kernel
theorem dX5_down_92 : decode cX5_down 92 = .ok (.imul, 1) := by decide +kernel
theorem dX5_down_93 : decode cX5_down 93 = .ok (.iload_n 2, 1) := by decide +kernel
theorem dX5_down_94 : decode cX5_down 94 = .ok (.iadd, 1) := by decide +kernel
theorem dX5_down_95 : decode cX5_down 95 = .ok (.aload_n 0, 1) := by decide +kernel
theorem dX5_down_96 : decode cX5_down 96 = .ok (.getfield 66, 3) := by decide +kernel
theorem dX5_down_99 : decode cX5_down 99 = .ok (.bipush 16, 2) := by decide +kernel
theorem dX5_down_101 : decode cX5_down 101 = .ok (.iload_n 1, 1) := by decide +kernel
theorem dX5_down_102 : decode cX5_down 102 = .ok (.imul, 1) := by decide +kernel
theorem dX5_down_103 : decode cX5_down 103 = .ok (.iload_n 2, 1) := by decide +kernel
theorem dX5_down_104 : decode cX5_down 104 = .ok (.iadd, 1) := by decide +kernel
theorem dX5_down_105 : decode cX5_down 105 = .ok (.iconst 1, 1) := by decide +kernel
theorem dX5_down_106 : decode cX5_down 106 = .ok (.iadd, 1) := by decide +kernel
theorem dX5_down_107 : decode cX5_down 107 = .ok (.laload, 1) := by decide +kernel
theorem dX5_down_108 : decode cX5_down 108 = .ok (.lastore, 1) := by decide +kernel
theorem dX5_down_109 : decode cX5_down 109 = .ok (.iinc 2 1, 3) := by decide +kernel
theorem dX5_down_112 : decode cX5_down 112 = .ok (.goto (-37), 3) := by decide +kernel
theorem dX5_down_115 : decode cX5_down 115 = .ok (.aload_n 0, 1) := by decide +kernel
theorem dX5_down_116 : decode cX5_down 116 = .ok (.getfield 69, 3) := by decide +kernel
theorem dX5_down_119 : decode cX5_down 119 = .ok (.iload_n 1, 1) := by decide +kernel
theorem dX5_down_120 : decode cX5_down 120 = .ok (.iaload, 1) := by decide +kernel
theorem dX5_down_121 : decode cX5_down 121 = .ok (.bipush 20, 2) := by decide +kernel
theorem dX5_down_123 : decode cX5_down 123 = .ok (.if_icmp .ge 12, 3) := by decide +kernel
theorem dX5_down_126 : decode cX5_down 126 = .ok (.aload_n 0, 1) := by decide +kernel
theorem dX5_down_127 : decode cX5_down 127 = .ok (.getfield 69, 3) := by decide +kernel
theorem dX5_down_130 : decode cX5_down 130 = .ok (.iload_n 1, 1) := by decide +kernel
theorem dX5_down_131 : decode cX5_down 131 = .ok (.iaload, 1) := by decide +kernel
theorem dX5_down_132 : decode cX5_down 132 = .ok (.goto 5, 3) := by decide +kernel
theorem dX5_down_135 : decode cX5_down 135 = .ok (.bipush 19, 2) := by decide +kernel
theorem dX5_down_137 : decode cX5_down 137 = .ok (.istore_n 2, 1) := by decide +kernel
theorem dX5_down_138 : decode cX5_down 138 = .ok (.iconst 0, 1) := by decide +kernel
theorem dX5_down_139 : decode cX5_down 139 = .ok (.istore_n 3, 1) := by decide +kernel
theorem dX5_down_140 : decode cX5_down 140 = .ok (.iload_n 3, 1) := by decide +kernel
theorem dX5_down_141 : decode cX5_down 141 = .ok (.bipush 19, 2) := by decide +kernel
theorem dX5_down_143 : decode cX5_down 143 = .ok (.if_icmp .ge 44, 3) := by decide +kernel
theorem dX5_down_146 : decode cX5_down 146 = .ok (.aload_n 0, 1) := by decide +kernel
theorem dX5_down_147 : decode cX5_down 147 = .ok (.getfield 69, 3) := by decide +kernel
theorem dX5_down_150 : decode cX5_down 150 = .ok (.iload_n 1, 1) := by decide +kernel
theorem dX5_down_151 : decode cX5_down 151 = .ok (.iaload, 1) := by decide +kernel
theorem dX5_down_152 : decode cX5_down 152 = .ok (.bipush 20, 2) := by decide +kernel
theorem dX5_down_154 : decode cX5_down 154 = .ok (.if_icmp .lt 33, 3) := by decide +kernel
theorem dX5_down_157 : decode cX5_down 157 = .ok (.aload_n 0, 1) := by decide +kernel
theorem dX5_down_158 : decode cX5_down 158 = .ok (.getfield 72, 3) := by decide +kernel
theorem dX5_down_161 : decode cX5_down 161 = .ok (.bipush 20, 2) := by decide +kernel
theorem dX5_down_163 : decode cX5_down 163 = .ok (.iload_n 1, 1) := by decide +kernel
theorem dX5_down_164 : decode cX5_down 164 = .ok (.imul, 1) := by decide +kernel
theorem dX5_down_165 : decode cX5_down 165 = .ok (.iload_n 3, 1) := by decide +kernel
theorem dX5_down_166 : decode cX5_down 166 = .ok (.iadd, 1) := by decide +kernel
theorem dX5_down_167 : decode cX5_down 167 = .ok (.aload_n 0, 1) := by decide +kernel
theorem dX5_down_168 : decode cX5_down 168 = .ok (.getfield 72, 3) := by decide +kernel
theorem dX5_down_171 : decode cX5_down 171 = .ok (.bipush 20, 2) := by decide +kernel
theorem dX5_down_173 : decode cX5_down 173 = .ok (.iload_n 1, 1) := by decide +kernel
theorem dX5_down_174 : decode cX5_down 174 = .ok (.imul, 1) := by decide +kernel
theorem dX5_down_175 : decode cX5_down 175 = .ok (.iload_n 3, 1) := by decide +kernel
theorem dX5_down_176 : decode cX5_down 176 = .ok (.iadd, 1) := by decide +kernel
theorem dX5_down_177 : decode cX5_down 177 = .ok (.iconst 1, 1) := by decide +kernel
theorem dX5_down_178 : decode cX5_down 178 = .ok (.iadd, 1) := by decide +kernel
theorem dX5_down_179 : decode cX5_down 179 = .ok (.laload, 1) := by decide +kernel
theorem dX5_down_180 : decode cX5_down 180 = .ok (.lastore, 1) := by decide +kernel
theorem dX5_down_181 : decode cX5_down 181 = .ok (.iinc 3 1, 3) := by decide +kernel
theorem dX5_down_184 : decode cX5_down 184 = .ok (.goto (-44), 3) := by decide +kernel
theorem dX5_down_187 : decode cX5_down 187 = .ok (.aload_n 0, 1) := by decide +kernel
theorem dX5_down_188 : decode cX5_down 188 = .ok (.getfield 72, 3) := by decide +kernel
theorem dX5_down_191 : decode cX5_down 191 = .ok (.bipush 20, 2) := by decide +kernel
theorem dX5_down_193 : decode cX5_down 193 = .ok (.iload_n 1, 1) := by decide +kernel
theorem dX5_down_194 : decode cX5_down 194 = .ok (.imul, 1) := by decide +kernel
theorem dX5_down_195 : decode cX5_down 195 = .ok (.iload_n 2, 1) := by decide +kernel
theorem dX5_down_196 : decode cX5_down 196 = .ok (.iadd, 1) := by decide +kernel
theorem dX5_down_197 : decode cX5_down 197 = .ok (.aload_n 0, 1) := by decide +kernel
theorem dX5_down_198 : decode cX5_down 198 = .ok (.getfield 188, 3) := by decide +kernel
theorem dX5_down_201 : decode cX5_down 201 = .ok (.aload_n 0, 1) := by decide +kernel
theorem dX5_down_202 : decode cX5_down 202 = .ok (.aload_n 0, 1) := by decide +kernel
theorem dX5_down_203 : decode cX5_down 203 = .ok (.getfield 16, 3) := by decide +kernel
theorem dX5_down_206 : decode cX5_down 206 = .ok (.iload_n 1, 1) := by decide +kernel
theorem dX5_down_207 : decode cX5_down 207 = .ok (.laload, 1) := by decide +kernel
theorem dX5_down_208 : decode cX5_down 208 = .ok (.aload_n 0, 1) := by decide +kernel
theorem dX5_down_209 : decode cX5_down 209 = .ok (.getfield 103, 3) := by decide +kernel
theorem dX5_down_212 : decode cX5_down 212 = .ok (.i2l, 1) := by decide +kernel
theorem dX5_down_213 : decode cX5_down 213 = .ok (.ldc2_w 186, 3) := by decide +kernel
theorem dX5_down_216 : decode cX5_down 216 = .ok (.ladd, 1) := by decide +kernel
theorem dX5_down_217 : decode cX5_down 217 = .ok (.invokevirtual 175, 3) := by decide +kernel
theorem dX5_down_220 : decode cX5_down 220 = .ok (.lxor, 1) := by decide +kernel
theorem dX5_down_221 : decode cX5_down 221 = .ok (.lastore, 1) := by decide +kernel
theorem dX5_down_222 : decode cX5_down 222 = .ok (.aload_n 0, 1) := by decide +kernel
theorem dX5_down_223 : decode cX5_down 223 = .ok (.getfield 69, 3) := by decide +kernel
theorem dX5_down_226 : decode cX5_down 226 = .ok (.iload_n 1, 1) := by decide +kernel
theorem dX5_down_227 : decode cX5_down 227 = .ok (.dup2, 1) := by decide +kernel
theorem dX5_down_228 : decode cX5_down 228 = .ok (.iaload, 1) := by decide +kernel
theorem dX5_down_229 : decode cX5_down 229 = .ok (.iconst 1, 1) := by decide +kernel
theorem dX5_down_230 : decode cX5_down 230 = .ok (.iadd, 1) := by decide +kernel
theorem dX5_down_231 : decode cX5_down 231 = .ok (.iastore, 1) := by decide +kernel
theorem dX5_down_232 : decode cX5_down 232 = .ok (.iconst 1, 1) := by decide +kernel
theorem dX5_down_233 : decode cX5_down 233 = .ok (.ireturn, 1) := by decide +kernel
theorem dX5_frame_0 : decode cX5_frame 0 = .ok (.aload_n 0, 1) := by decide +kernel
theorem dX5_frame_1 : decode cX5_frame 1 = .ok (.dup, 1) := by decide +kernel
theorem dX5_frame_2 : decode cX5_frame 2 = .ok (.getfield 103, 3) := by decide +kernel
theorem dX5_frame_5 : decode cX5_frame 5 = .ok (.iconst 1, 1) := by decide +kernel
theorem dX5_frame_6 : decode cX5_frame 6 = .ok (.iadd, 1) := by decide +kernel
theorem dX5_frame_7 : decode cX5_frame 7 = .ok (.putfield 103, 3) := by decide +kernel
theorem dX5_frame_10 : decode cX5_frame 10 = .ok (.iconst 0, 1) := by decide +kernel
theorem dX5_frame_11 : decode cX5_frame 11 = .ok (.istore_n 1, 1) := by decide +kernel
theorem dX5_frame_12 : decode cX5_frame 12 = .ok (.iload_n 1, 1) := by decide +kernel
theorem dX5_frame_13 : decode cX5_frame 13 = .ok (.aload_n 0, 1) := by decide +kernel
theorem dX5_frame_14 : decode cX5_frame 14 = .ok (.getfield 92, 3) := by decide +kernel
theorem dX5_frame_17 : decode cX5_frame 17 = .ok (.if_icmp .ge 33, 3) := by decide +kernel
theorem dX5_frame_20 : decode cX5_frame 20 = .ok (.aload_n 0, 1) := by decide +kernel
theorem dX5_frame_21 : decode cX5_frame 21 = .ok (.getfield 78, 3) := by decide +kernel
theorem dX5_frame_24 : decode cX5_frame 24 = .ok (.iload_n 1, 1) := by decide +kernel
theorem dX5_frame_25 : decode cX5_frame 25 = .ok (.aload_n 0, 1) := by decide +kernel
theorem dX5_frame_26 : decode cX5_frame 26 = .ok (.getfield 27, 3) := by decide +kernel
theorem dX5_frame_29 : decode cX5_frame 29 = .ok (.iload_n 1, 1) := by decide +kernel
theorem dX5_frame_30 : decode cX5_frame 30 = .ok (.iaload, 1) := by decide +kernel
theorem dX5_frame_31 : decode cX5_frame 31 = .ok (.iastore, 1) := by decide +kernel
theorem dX5_frame_32 : decode cX5_frame 32 = .ok (.aload_n 0, 1) := by decide +kernel
theorem dX5_frame_33 : decode cX5_frame 33 = .ok (.getfield 81, 3) := by decide +kernel
theorem dX5_frame_36 : decode cX5_frame 36 = .ok (.iload_n 1, 1) := by decide +kernel
theorem dX5_frame_37 : decode cX5_frame 37 = .ok (.aload_n 0, 1) := by decide +kernel
theorem dX5_frame_38 : decode cX5_frame 38 = .ok (.getfield 63, 3) := by decide +kernel
theorem dX5_frame_41 : decode cX5_frame 41 = .ok (.iload_n 1, 1) := by decide +kernel
theorem dX5_frame_42 : decode cX5_frame 42 = .ok (.iaload, 1) := by decide +kernel
theorem dX5_frame_43 : decode cX5_frame 43 = .ok (.iastore, 1) := by decide +kernel
theorem dX5_frame_44 : decode cX5_frame 44 = .ok (.iinc 1 1, 3) := by decide +kernel
theorem dX5_frame_47 : decode cX5_frame 47 = .ok (.goto (-35), 3) := by decide +kernel
theorem dX5_frame_50 : decode cX5_frame 50 = .ok (.iconst 0, 1) := by decide +kernel
theorem dX5_frame_51 : decode cX5_frame 51 = .ok (.istore_n 1, 1) := by decide +kernel
theorem dX5_frame_52 : decode cX5_frame 52 = .ok (.iload_n 1, 1) := by decide +kernel
theorem dX5_frame_53 : decode cX5_frame 53 = .ok (.aload_n 0, 1) := by decide +kernel
theorem dX5_frame_54 : decode cX5_frame 54 = .ok (.getfield 92, 3) := by decide +kernel
theorem dX5_frame_57 : decode cX5_frame 57 = .ok (.if_icmp .ge 14, 3) := by decide +kernel
theorem dX5_frame_60 : decode cX5_frame 60 = .ok (.aload_n 0, 1) := by decide +kernel
theorem dX5_frame_61 : decode cX5_frame 61 = .ok (.iload_n 1, 1) := by decide +kernel
theorem dX5_frame_62 : decode cX5_frame 62 = .ok (.invokevirtual 191, 3) := by decide +kernel
theorem dX5_frame_65 : decode cX5_frame 65 = .ok (.iinc 1 1, 3) := by decide +kernel
theorem dX5_frame_68 : decode cX5_frame 68 = .ok (.goto (-16), 3) := by decide +kernel
theorem dX5_frame_71 : decode cX5_frame 71 = .ok (.aload_n 0, 1) := by decide +kernel
theorem dX5_frame_72 : decode cX5_frame 72 = .ok (.invokevirtual 194, 3) := by decide +kernel
theorem dX5_frame_75 : decode cX5_frame 75 = .ok (.aload_n 0, 1) := by decide +kernel
theorem dX5_frame_76 : decode cX5_frame 76 = .ok (.invokevirtual 197, 3) := by decide +kernel
theorem dX5_frame_79 : decode cX5_frame 79 = .ok (.iconst 0, 1) := by decide +kernel
theorem dX5_frame_80 : decode cX5_frame 80 = .ok (.istore_n 1, 1) := by decide +kernel
theorem dX5_frame_81 : decode cX5_frame 81 = .ok (.iload_n 1, 1) := by decide +kernel
theorem dX5_frame_82 : decode cX5_frame 82 = .ok (.aload_n 0, 1) := by decide +kernel
theorem dX5_frame_83 : decode cX5_frame 83 = .ok (.getfield 92, 3) := by decide +kernel
theorem dX5_frame_86 : decode cX5_frame 86 = .ok (.if_icmp .ge 14, 3) := by decide +kernel
theorem dX5_frame_89 : decode cX5_frame 89 = .ok (.aload_n 0, 1) := by decide +kernel
theorem dX5_frame_90 : decode cX5_frame 90 = .ok (.iload_n 1, 1) := by decide +kernel
theorem dX5_frame_91 : decode cX5_frame 91 = .ok (.invokevirtual 200, 3) := by decide +kernel
theorem dX5_frame_94 : decode cX5_frame 94 = .ok (.iinc 1 1, 3) := by decide +kernel
theorem dX5_frame_97 : decode cX5_frame 97 = .ok (.goto (-16), 3) := by decide +kernel
theorem dX5_frame_100 : decode cX5_frame 100 = .ok (.iconst 0, 1) := by decide +kernel
theorem dX5_frame_101 : decode cX5_frame 101 = .ok (.istore_n 1, 1) := by decide +kernel
theorem dX5_frame_102 : decode cX5_frame 102 = .ok (.iload_n 1, 1) := by decide +kernel
theorem dX5_frame_103 : decode cX5_frame 103 = .ok (.aload_n 0, 1) := by decide +kernel
theorem dX5_frame_104 : decode cX5_frame 104 = .ok (.getfield 92, 3) := by decide +kernel
theorem dX5_frame_107 : decode cX5_frame 107 = .ok (.if_icmp .ge 14, 3) := by decide +kernel
theorem dX5_frame_110 : decode cX5_frame 110 = .ok (.aload_n 0, 1) := by decide +kernel
theorem dX5_frame_111 : decode cX5_frame 111 = .ok (.iload_n 1, 1) := by decide +kernel
theorem dX5_frame_112 : decode cX5_frame 112 = .ok (.invokevirtual 203, 3) := by decide +kernel
theorem dX5_frame_115 : decode cX5_frame 115 = .ok (.iinc 1 1, 3) := by decide +kernel
theorem dX5_frame_118 : decode cX5_frame 118 = .ok (.goto (-16), 3) := by decide +kernel
theorem dX5_frame_121 : decode cX5_frame 121 = .ok (.iconst 0, 1) := by decide +kernel
theorem dX5_frame_122 : decode cX5_frame 122 = .ok (.istore_n 1, 1) := by decide +kernel
theorem dX5_frame_123 : decode cX5_frame 123 = .ok (.iconst 0, 1) := by decide +kernel
theorem dX5_frame_124 : decode cX5_frame 124 = .ok (.istore_n 2, 1) := by decide +kernel
theorem dX5_frame_125 : decode cX5_frame 125 = .ok (.iload_n 2, 1) := by decide +kernel
theorem dX5_frame_126 : decode cX5_frame 126 = .ok (.aload_n 0, 1) := by decide +kernel
theorem dX5_frame_127 : decode cX5_frame 127 = .ok (.getfield 92, 3) := by decide +kernel
theorem dX5_frame_130 : decode cX5_frame 130 = .ok (.if_icmp .ge 17, 3) := by decide +kernel
theorem dX5_frame_133 : decode cX5_frame 133 = .ok (.iload_n 1, 1) := by decide +kernel
theorem dX5_frame_134 : decode cX5_frame 134 = .ok (.aload_n 0, 1) := by decide +kernel
theorem dX5_frame_135 : decode cX5_frame 135 = .ok (.iload_n 2, 1) := by decide +kernel
theorem dX5_frame_136 : decode cX5_frame 136 = .ok (.invokevirtual 206, 3) := by decide +kernel
theorem dX5_frame_139 : decode cX5_frame 139 = .ok (.iadd, 1) := by decide +kernel
theorem dX5_frame_140 : decode cX5_frame 140 = .ok (.istore_n 1, 1) := by decide +kernel
theorem dX5_frame_141 : decode cX5_frame 141 = .ok (.iinc 2 1, 3) := by decide +kernel
theorem dX5_frame_144 : decode cX5_frame 144 = .ok (.goto (-19), 3) := by decide +kernel
theorem dX5_frame_147 : decode cX5_frame 147 = .ok (.iconst 0, 1) := by decide +kernel
theorem dX5_frame_148 : decode cX5_frame 148 = .ok (.istore_n 2, 1) := by decide +kernel
theorem dX5_frame_149 : decode cX5_frame 149 = .ok (.iload_n 2, 1) := by decide +kernel
theorem dX5_frame_150 : decode cX5_frame 150 = .ok (.aload_n 0, 1) := by decide +kernel
theorem dX5_frame_151 : decode cX5_frame 151 = .ok (.getfield 92, 3) := by decide +kernel
theorem dX5_frame_154 : decode cX5_frame 154 = .ok (.if_icmp .ge 46, 3) := by decide +kernel
theorem dX5_frame_157 : decode cX5_frame 157 = .ok (.aload_n 0, 1) := by decide +kernel
theorem dX5_frame_158 : decode cX5_frame 158 = .ok (.getfield 27, 3) := by decide +kernel
theorem dX5_frame_161 : decode cX5_frame 161 = .ok (.iload_n 2, 1) := by decide +kernel
theorem dX5_frame_162 : decode cX5_frame 162 = .ok (.iaload, 1) := by decide +kernel
theorem dX5_frame_163 : decode cX5_frame 163 = .ok (.iconst 1, 1) := by decide +kernel
theorem dX5_frame_164 : decode cX5_frame 164 = .ok (.bipush 6, 2) := by decide +kernel
theorem dX5_frame_166 : decode cX5_frame 166 = .ok (.invokestatic 88, 3) := by decide +kernel
theorem dX5_frame_169 : decode cX5_frame 169 = .ok (.ifCond .eq 25, 3) := by decide +kernel
theorem dX5_frame_172 : decode cX5_frame 172 = .ok (.aload_n 0, 1) := by decide +kernel
theorem dX5_frame_173 : decode cX5_frame 173 = .ok (.getfield 103, 3) := by decide +kernel
theorem dX5_frame_176 : decode cX5_frame 176 = .ok (.aload_n 0, 1) := by decide +kernel
theorem dX5_frame_177 : decode cX5_frame 177 = .ok (.getfield 33, 3) := by decide +kernel
theorem dX5_frame_180 : decode cX5_frame 180 = .ok (.iload_n 2, 1) := by decide +kernel
theorem dX5_frame_181 : decode cX5_frame 181 = .ok (.iaload, 1) := by decide +kernel
theorem dX5_frame_182 : decode cX5_frame 182 = .ok (.isub, 1) := by decide +kernel
theorem dX5_frame_183 : decode cX5_frame 183 = .ok (.sipush 200, 3) := by decide +kernel
theorem dX5_frame_186 : decode cX5_frame 186 = .ok (.if_icmp .le 8, 3) := by decide +kernel
theorem dX5_frame_189 : decode cX5_frame 189 = .ok (.aload_n 0, 1) := by decide +kernel
theorem dX5_frame_190 : decode cX5_frame 190 = .ok (.iload_n 2, 1) := by decide +kernel
theorem dX5_frame_191 : decode cX5_frame 191 = .ok (.invokevirtual 125, 3) := by decide +kernel
theorem dX5_frame_194 : decode cX5_frame 194 = .ok (.iinc 2 1, 3) := by decide +kernel
theorem dX5_frame_197 : decode cX5_frame 197 = .ok (.goto (-48), 3) := by decide +kernel
theorem dX5_frame_200 : decode cX5_frame 200 = .ok (.iload_n 1, 1) := by decide +kernel
theorem dX5_frame_201 : decode cX5_frame 201 = .ok (.ireturn, 1) := by decide +kernel
theorem dX5_frames_0 : decode cX5_frames 0 = .ok (.iload_n 1, 1) := by decide +kernel
theorem dX5_frames_1 : decode cX5_frames 1 = .ok (.iconst 1, 1) := by decide +kernel
theorem dX5_frames_2 : decode cX5_frames 2 = .ok (.if_icmp .ge 10, 3) := by decide +kernel
theorem dX5_frames_5 : decode cX5_frames 5 = .ok (.aload_n 0, 1) := by decide +kernel
theorem dX5_frames_6 : decode cX5_frames 6 = .ok (.bipush (-4), 2) := by decide +kernel
theorem dX5_frames_8 : decode cX5_frames 8 = .ok (.invokevirtual 95, 3) := by decide +kernel
theorem dX5_frames_11 : decode cX5_frames 11 = .ok (.ireturn, 1) := by decide +kernel
theorem dX5_frames_12 : decode cX5_frames 12 = .ok (.iload_n 1, 1) := by decide +kernel
theorem dX5_frames_13 : decode cX5_frames 13 = .ok (.sipush 1000, 3) := by decide +kernel
theorem dX5_frames_16 : decode cX5_frames 16 = .ok (.if_icmp .gt 14, 3) := by decide +kernel
theorem dX5_frames_19 : decode cX5_frames 19 = .ok (.aload_n 0, 1) := by decide +kernel
theorem dX5_frames_20 : decode cX5_frames 20 = .ok (.getfield 103, 3) := by decide +kernel
theorem dX5_frames_23 : decode cX5_frames 23 = .ok (.iload_n 1, 1) := by decide +kernel
theorem dX5_frames_24 : decode cX5_frames 24 = .ok (.iadd, 1) := by decide +kernel
theorem dX5_frames_25 : decode cX5_frames 25 = .ok (.ldc 209, 2) := by decide +kernel
theorem dX5_frames_27 : decode cX5_frames 27 = .ok (.if_icmp .le 10, 3) := by decide +kernel
theorem dX5_frames_30 : decode cX5_frames 30 = .ok (.aload_n 0, 1) := by decide +kernel
theorem dX5_frames_31 : decode cX5_frames 31 = .ok (.bipush (-6), 2) := by decide +kernel
theorem dX5_frames_33 : decode cX5_frames 33 = .ok (.invokevirtual 95, 3) := by decide +kernel
theorem dX5_frames_36 : decode cX5_frames 36 = .ok (.ireturn, 1) := by decide +kernel
theorem dX5_frames_37 : decode cX5_frames 37 = .ok (.iconst 0, 1) := by decide +kernel
theorem dX5_frames_38 : decode cX5_frames 38 = .ok (.istore_n 2, 1) := by decide +kernel
theorem dX5_frames_39 : decode cX5_frames 39 = .ok (.iconst 0, 1) := by decide +kernel
theorem dX5_frames_40 : decode cX5_frames 40 = .ok (.istore_n 3, 1) := by decide +kernel
theorem dX5_frames_41 : decode cX5_frames 41 = .ok (.iload_n 3, 1) := by decide +kernel
theorem dX5_frames_42 : decode cX5_frames 42 = .ok (.iload_n 1, 1) := by decide +kernel
theorem dX5_frames_43 : decode cX5_frames 43 = .ok (.if_icmp .ge 16, 3) := by decide +kernel
theorem dX5_frames_46 : decode cX5_frames 46 = .ok (.iload_n 2, 1) := by decide +kernel
theorem dX5_frames_47 : decode cX5_frames 47 = .ok (.aload_n 0, 1) := by decide +kernel
theorem dX5_frames_48 : decode cX5_frames 48 = .ok (.invokevirtual 210, 3) := by decide +kernel
theorem dX5_frames_51 : decode cX5_frames 51 = .ok (.iadd, 1) := by decide +kernel
theorem dX5_frames_52 : decode cX5_frames 52 = .ok (.istore_n 2, 1) := by decide +kernel
theorem dX5_frames_53 : decode cX5_frames 53 = .ok (.iinc 3 1, 3) := by decide +kernel
theorem dX5_frames_56 : decode cX5_frames 56 = .ok (.goto (-15), 3) := by decide +kernel
theorem dX5_frames_59 : decode cX5_frames 59 = .ok (.iload_n 2, 1) := by decide +kernel
theorem dX5_frames_60 : decode cX5_frames 60 = .ok (.ireturn, 1) := by decide +kernel
theorem dX5_heard_0 : decode cX5_heard 0 = .ok (.aload_n 0, 1) := by decide +kernel
theorem dX5_heard_1 : decode cX5_heard 1 = .ok (.iload_n 1, 1) := by decide +kernel
theorem dX5_heard_2 : decode cX5_heard 2 = .ok (.invokevirtual 99, 3) := by decide +kernel
theorem dX5_heard_5 : decode cX5_heard 5 = .ok (.ifCond .eq 49, 3) := by decide +kernel
theorem dX5_heard_8 : decode cX5_heard 8 = .ok (.iload_n 2, 1) := by decide +kernel
theorem dX5_heard_9 : decode cX5_heard 9 = .ok (.iconst 0, 1) := by decide +kernel
theorem dX5_heard_10 : decode cX5_heard 10 = .ok (.aload_n 0, 1) := by decide +kernel
theorem dX5_heard_11 : decode cX5_heard 11 = .ok (.getfield 69, 3) := by decide +kernel
theorem dX5_heard_14 : decode cX5_heard 14 = .ok (.iload_n 1, 1) := by decide +kernel
theorem dX5_heard_15 : decode cX5_heard 15 = .ok (.iaload, 1) := by decide +kernel
theorem dX5_heard_16 : decode cX5_heard 16 = .ok (.bipush 20, 2) := by decide +kernel
theorem dX5_heard_18 : decode cX5_heard 18 = .ok (.if_icmp .ge 12, 3) := by decide +kernel
theorem dX5_heard_21 : decode cX5_heard 21 = .ok (.aload_n 0, 1) := by decide +kernel
theorem dX5_heard_22 : decode cX5_heard 22 = .ok (.getfield 69, 3) := by decide +kernel
theorem dX5_heard_25 : decode cX5_heard 25 = .ok (.iload_n 1, 1) := by decide +kernel
theorem dX5_heard_26 : decode cX5_heard 26 = .ok (.iaload, 1) := by decide +kernel
theorem dX5_heard_27 : decode cX5_heard 27 = .ok (.goto 5, 3) := by decide +kernel
theorem dX5_heard_30 : decode cX5_heard 30 = .ok (.bipush 20, 2) := by decide +kernel
theorem dX5_heard_32 : decode cX5_heard 32 = .ok (.iconst 1, 1) := by decide +kernel
theorem dX5_heard_33 : decode cX5_heard 33 = .ok (.isub, 1) := by decide +kernel
theorem dX5_heard_34 : decode cX5_heard 34 = .ok (.invokestatic 88, 3) := by decide +kernel
theorem dX5_heard_37 : decode cX5_heard 37 = .ok (.ifCond .eq 17, 3) := by decide +kernel
theorem dX5_heard_40 : decode cX5_heard 40 = .ok (.aload_n 0, 1) := by decide +kernel
theorem dX5_heard_41 : decode cX5_heard 41 = .ok (.getfield 72, 3) := by decide +kernel
theorem dX5_heard_44 : decode cX5_heard 44 = .ok (.bipush 20, 2) := by decide +kernel
theorem dX5_heard_46 : decode cX5_heard 46 = .ok (.iload_n 1, 1) := by decide +kernel
theorem dX5_heard_47 : decode cX5_heard 47 = .ok (.imul, 1) := by decide +kernel
theorem dX5_heard_48 : decode cX5_heard 48 = .ok (.iload_n 2, 1) := by decide +kernel
theorem dX5_heard_49 : decode cX5_heard 49 = .ok (.iadd, 1) := by decide +kernel
theorem dX5_heard_50 : decode cX5_heard 50 = .ok (.laload, 1) := by decide +kernel
theorem dX5_heard_51 : decode cX5_heard 51 = .ok (.goto 4, 3) := by decide +kernel
theorem dX5_heard_54 : decode cX5_heard 54 = .ok (.lconst 0, 1) := by decide +kernel
theorem dX5_heard_55 : decode cX5_heard 55 = .ok (.lreturn, 1) := by decide +kernel
theorem dX5_portableOf_0 : decode cX5_portableOf 0 = .ok (.aload_n 0, 1) := by decide +kernel
theorem dX5_portableOf_1 : decode cX5_portableOf 1 = .ok (.iload_n 1, 1) := by decide +kernel
theorem dX5_portableOf_2 : decode cX5_portableOf 2 = .ok (.invokevirtual 99, 3) := by decide +kernel
theorem dX5_portableOf_5 : decode cX5_portableOf 5 = .ok (.ifCond .ne 6, 3) := by decide +kernel
theorem dX5_portableOf_8 : decode cX5_portableOf 8 = .ok (.bipush (-9), 2) := by decide +kernel
theorem dX5_portableOf_10 : decode cX5_portableOf 10 = .ok (.ireturn, 1) := by decide +kernel
theorem dX5_portableOf_11 : decode cX5_portableOf 11 = .ok (.iload_n 2, 1) := by decide +kernel
theorem dX5_portableOf_12 : decode cX5_portableOf 12 = .ok (.tableswitch 164 0 9 #[56, 63, 70, 77, 83, 97, 104, 111, 118, 133], 56) := by decide +kernel
theorem dX5_portableOf_68 : decode cX5_portableOf 68 = .ok (.aload_n 0, 1) := by decide +kernel
theorem dX5_portableOf_69 : decode cX5_portableOf 69 = .ok (.getfield 27, 3) := by decide +kernel
theorem dX5_portableOf_72 : decode cX5_portableOf 72 = .ok (.iload_n 1, 1) := by decide +kernel
theorem dX5_portableOf_73 : decode cX5_portableOf 73 = .ok (.iaload, 1) := by decide +kernel
theorem dX5_portableOf_74 : decode cX5_portableOf 74 = .ok (.ireturn, 1) := by decide +kernel
theorem dX5_portableOf_75 : decode cX5_portableOf 75 = .ok (.aload_n 0, 1) := by decide +kernel
theorem dX5_portableOf_76 : decode cX5_portableOf 76 = .ok (.getfield 13, 3) := by decide +kernel
theorem dX5_portableOf_79 : decode cX5_portableOf 79 = .ok (.iload_n 1, 1) := by decide +kernel
theorem dX5_portableOf_80 : decode cX5_portableOf 80 = .ok (.iaload, 1) := by decide +kernel
theorem dX5_portableOf_81 : decode cX5_portableOf 81 = .ok (.ireturn, 1) := by decide +kernel
theorem dX5_portableOf_82 : decode cX5_portableOf 82 = .ok (.aload_n 0, 1) := by decide +kernel
theorem dX5_portableOf_83 : decode cX5_portableOf 83 = .ok (.getfield 30, 3) := by decide +kernel
theorem dX5_portableOf_86 : decode cX5_portableOf 86 = .ok (.iload_n 1, 1) := by decide +kernel
theorem dX5_portableOf_87 : decode cX5_portableOf 87 = .ok (.iaload, 1) := by decide +kernel
theorem dX5_portableOf_88 : decode cX5_portableOf 88 = .ok (.ireturn, 1) := by decide +kernel
theorem dX5_portableOf_89 : decode cX5_portableOf 89 = .ok (.aload_n 0, 1) := by decide +kernel
theorem dX5_portableOf_90 : decode cX5_portableOf 90 = .ok (.iload_n 1, 1) := by decide +kernel
theorem dX5_portableOf_91 : decode cX5_portableOf 91 = .ok (.invokevirtual 151, 3) := by decide +kernel
theorem dX5_portableOf_94 : decode cX5_portableOf 94 = .ok (.ireturn, 1) := by decide +kernel
theorem dX5_portableOf_95 : decode cX5_portableOf 95 = .ok (.aload_n 0, 1) := by decide +kernel
theorem dX5_portableOf_96 : decode cX5_portableOf 96 = .ok (.iload_n 1, 1) := by decide +kernel
theorem dX5_portableOf_97 : decode cX5_portableOf 97 = .ok (.invokevirtual 157, 3) := by decide +kernel
theorem dX5_portableOf_100 : decode cX5_portableOf 100 = .ok (.ifCond .eq 7, 3) := by decide +kernel
theorem dX5_portableOf_103 : decode cX5_portableOf 103 = .ok (.iconst 1, 1) := by decide +kernel
theorem dX5_portableOf_104 : decode cX5_portableOf 104 = .ok (.goto 4, 3) := by decide +kernel
theorem dX5_portableOf_107 : decode cX5_portableOf 107 = .ok (.iconst 0, 1) := by decide +kernel
theorem dX5_portableOf_108 : decode cX5_portableOf 108 = .ok (.ireturn, 1) := by decide +kernel
theorem dX5_portableOf_109 : decode cX5_portableOf 109 = .ok (.aload_n 0, 1) := by decide +kernel
theorem dX5_portableOf_110 : decode cX5_portableOf 110 = .ok (.getfield 57, 3) := by decide +kernel
theorem dX5_portableOf_113 : decode cX5_portableOf 113 = .ok (.iload_n 1, 1) := by decide +kernel
theorem dX5_portableOf_114 : decode cX5_portableOf 114 = .ok (.iaload, 1) := by decide +kernel
theorem dX5_portableOf_115 : decode cX5_portableOf 115 = .ok (.ireturn, 1) := by decide +kernel
theorem dX5_portableOf_116 : decode cX5_portableOf 116 = .ok (.aload_n 0, 1) := by decide +kernel
theorem dX5_portableOf_117 : decode cX5_portableOf 117 = .ok (.getfield 63, 3) := by decide +kernel
theorem dX5_portableOf_120 : decode cX5_portableOf 120 = .ok (.iload_n 1, 1) := by decide +kernel
theorem dX5_portableOf_121 : decode cX5_portableOf 121 = .ok (.iaload, 1) := by decide +kernel
theorem dX5_portableOf_122 : decode cX5_portableOf 122 = .ok (.ireturn, 1) := by decide +kernel
theorem dX5_portableOf_123 : decode cX5_portableOf 123 = .ok (.aload_n 0, 1) := by decide +kernel
theorem dX5_portableOf_124 : decode cX5_portableOf 124 = .ok (.getfield 69, 3) := by decide +kernel
theorem dX5_portableOf_127 : decode cX5_portableOf 127 = .ok (.iload_n 1, 1) := by decide +kernel
theorem dX5_portableOf_128 : decode cX5_portableOf 128 = .ok (.iaload, 1) := by decide +kernel
theorem dX5_portableOf_129 : decode cX5_portableOf 129 = .ok (.ireturn, 1) := by decide +kernel
theorem dX5_portableOf_130 : decode cX5_portableOf 130 = .ok (.aload_n 0, 1) := by decide +kernel
theorem dX5_portableOf_131 : decode cX5_portableOf 131 = .ok (.getfield 20, 3) := by decide +kernel
theorem dX5_portableOf_134 : decode cX5_portableOf 134 = .ok (.iload_n 1, 1) := by decide +kernel
theorem dX5_portableOf_135 : decode cX5_portableOf 135 = .ok (.baload, 1) := by decide +kernel
theorem dX5_portableOf_136 : decode cX5_portableOf 136 = .ok (.ifCond .eq 7, 3) := by decide +kernel
theorem dX5_portableOf_139 : decode cX5_portableOf 139 = .ok (.iconst 1, 1) := by decide +kernel
theorem dX5_portableOf_140 : decode cX5_portableOf 140 = .ok (.goto 4, 3) := by decide +kernel
theorem dX5_portableOf_143 : decode cX5_portableOf 143 = .ok (.iconst 0, 1) := by decide +kernel
theorem dX5_portableOf_144 : decode cX5_portableOf 144 = .ok (.ireturn, 1) := by decide +kernel
theorem dX5_portableOf_145 : decode cX5_portableOf 145 = .ok (.aload_n 0, 1) := by decide +kernel
theorem dX5_portableOf_146 : decode cX5_portableOf 146 = .ok (.getfield 27, 3) := by decide +kernel
theorem dX5_portableOf_149 : decode cX5_portableOf 149 = .ok (.iload_n 1, 1) := by decide +kernel
theorem dX5_portableOf_150 : decode cX5_portableOf 150 = .ok (.iaload, 1) := by decide +kernel
theorem dX5_portableOf_151 : decode cX5_portableOf 151 = .ok (.iconst 1, 1) := by decide +kernel
theorem dX5_portableOf_152 : decode cX5_portableOf 152 = .ok (.bipush 6, 2) := by decide +kernel
theorem dX5_portableOf_154 : decode cX5_portableOf 154 = .ok (.invokestatic 88, 3) := by decide +kernel
theorem dX5_portableOf_157 : decode cX5_portableOf 157 = .ok (.ifCond .eq 17, 3) := by decide +kernel
theorem dX5_portableOf_160 : decode cX5_portableOf 160 = .ok (.aload_n 0, 1) := by decide +kernel
theorem dX5_portableOf_161 : decode cX5_portableOf 161 = .ok (.getfield 103, 3) := by decide +kernel
theorem dX5_portableOf_164 : decode cX5_portableOf 164 = .ok (.aload_n 0, 1) := by decide +kernel
theorem dX5_portableOf_165 : decode cX5_portableOf 165 = .ok (.getfield 33, 3) := by decide +kernel
theorem dX5_portableOf_168 : decode cX5_portableOf 168 = .ok (.iload_n 1, 1) := by decide +kernel
theorem dX5_portableOf_169 : decode cX5_portableOf 169 = .ok (.iaload, 1) := by decide +kernel
theorem dX5_portableOf_170 : decode cX5_portableOf 170 = .ok (.isub, 1) := by decide +kernel
theorem dX5_portableOf_171 : decode cX5_portableOf 171 = .ok (.goto 4, 3) := by decide +kernel
theorem dX5_portableOf_174 : decode cX5_portableOf 174 = .ok (.iconst 0, 1) := by decide +kernel
theorem dX5_portableOf_175 : decode cX5_portableOf 175 = .ok (.ireturn, 1) := by decide +kernel
theorem dX5_portableOf_176 : decode cX5_portableOf 176 = .ok (.bipush (-9), 2) := by decide +kernel
theorem dX5_portableOf_178 : decode cX5_portableOf 178 = .ok (.ireturn, 1) := by decide +kernel
theorem dX5_bearer_0 : decode cX5_bearer 0 = .ok (.iload_n 1, 1) := by decide +kernel
theorem dX5_bearer_1 : decode cX5_bearer 1 = .ok (.iconst 0, 1) := by decide +kernel
theorem dX5_bearer_2 : decode cX5_bearer 2 = .ok (.aload_n 0, 1) := by decide +kernel
theorem dX5_bearer_3 : decode cX5_bearer 3 = .ok (.getfield 109, 3) := by decide +kernel
theorem dX5_bearer_6 : decode cX5_bearer 6 = .ok (.iconst 1, 1) := by decide +kernel
theorem dX5_bearer_7 : decode cX5_bearer 7 = .ok (.isub, 1) := by decide +kernel
theorem dX5_bearer_8 : decode cX5_bearer 8 = .ok (.invokestatic 88, 3) := by decide +kernel
theorem dX5_bearer_11 : decode cX5_bearer 11 = .ok (.ifCond .ne 6, 3) := by decide +kernel
theorem dX5_bearer_14 : decode cX5_bearer 14 = .ok (.bipush (-9), 2) := by decide +kernel
theorem dX5_bearer_16 : decode cX5_bearer 16 = .ok (.ireturn, 1) := by decide +kernel
theorem dX5_bearer_17 : decode cX5_bearer 17 = .ok (.iload_n 2, 1) := by decide +kernel
theorem dX5_bearer_18 : decode cX5_bearer 18 = .ok (.tableswitch 58 0 3 #[30, 37, 44, 51], 30) := by decide +kernel
theorem dX5_bearer_48 : decode cX5_bearer 48 = .ok (.aload_n 0, 1) := by decide +kernel
theorem dX5_bearer_49 : decode cX5_bearer 49 = .ok (.getfield 42, 3) := by decide +kernel
theorem dX5_bearer_52 : decode cX5_bearer 52 = .ok (.iload_n 1, 1) := by decide +kernel
theorem dX5_bearer_53 : decode cX5_bearer 53 = .ok (.iaload, 1) := by decide +kernel
theorem dX5_bearer_54 : decode cX5_bearer 54 = .ok (.ireturn, 1) := by decide +kernel
theorem dX5_bearer_55 : decode cX5_bearer 55 = .ok (.aload_n 0, 1) := by decide +kernel
theorem dX5_bearer_56 : decode cX5_bearer 56 = .ok (.getfield 45, 3) := by decide +kernel
theorem dX5_bearer_59 : decode cX5_bearer 59 = .ok (.iload_n 1, 1) := by decide +kernel
theorem dX5_bearer_60 : decode cX5_bearer 60 = .ok (.iaload, 1) := by decide +kernel
theorem dX5_bearer_61 : decode cX5_bearer 61 = .ok (.ireturn, 1) := by decide +kernel
theorem dX5_bearer_62 : decode cX5_bearer 62 = .ok (.aload_n 0, 1) := by decide +kernel
theorem dX5_bearer_63 : decode cX5_bearer 63 = .ok (.getfield 48, 3) := by decide +kernel
theorem dX5_bearer_66 : decode cX5_bearer 66 = .ok (.iload_n 1, 1) := by decide +kernel
theorem dX5_bearer_67 : decode cX5_bearer 67 = .ok (.iaload, 1) := by decide +kernel
theorem dX5_bearer_68 : decode cX5_bearer 68 = .ok (.ireturn, 1) := by decide +kernel
theorem dX5_bearer_69 : decode cX5_bearer 69 = .ok (.aload_n 0, 1) := by decide +kernel
theorem dX5_bearer_70 : decode cX5_bearer 70 = .ok (.getfield 51, 3) := by decide +kernel
theorem dX5_bearer_73 : decode cX5_bearer 73 = .ok (.iload_n 1, 1) := by decide +kernel
theorem dX5_bearer_74 : decode cX5_bearer 74 = .ok (.iaload, 1) := by decide +kernel
theorem dX5_bearer_75 : decode cX5_bearer 75 = .ok (.ireturn, 1) := by decide +kernel
theorem dX5_bearer_76 : decode cX5_bearer 76 = .ok (.iload_n 2, 1) := by decide +kernel
theorem dX5_bearer_77 : decode cX5_bearer 77 = .ok (.iconst 4, 1) := by decide +kernel
theorem dX5_bearer_78 : decode cX5_bearer 78 = .ok (.if_icmp .ne 20, 3) := by decide +kernel
theorem dX5_bearer_81 : decode cX5_bearer 81 = .ok (.aload_n 0, 1) := by decide +kernel
theorem dX5_bearer_82 : decode cX5_bearer 82 = .ok (.getfield 54, 3) := by decide +kernel
theorem dX5_bearer_85 : decode cX5_bearer 85 = .ok (.iload_n 1, 1) := by decide +kernel
theorem dX5_bearer_86 : decode cX5_bearer 86 = .ok (.baload, 1) := by decide +kernel
theorem dX5_bearer_87 : decode cX5_bearer 87 = .ok (.ifCond .eq 7, 3) := by decide +kernel
theorem dX5_bearer_90 : decode cX5_bearer 90 = .ok (.iconst 1, 1) := by decide +kernel
theorem dX5_bearer_91 : decode cX5_bearer 91 = .ok (.goto 9, 3) := by decide +kernel
theorem dX5_bearer_94 : decode cX5_bearer 94 = .ok (.iconst 0, 1) := by decide +kernel
theorem dX5_bearer_95 : decode cX5_bearer 95 = .ok (.goto 5, 3) := by decide +kernel
theorem dX5_bearer_98 : decode cX5_bearer 98 = .ok (.bipush (-9), 2) := by decide +kernel
theorem dX5_bearer_100 : decode cX5_bearer 100 = .ok (.ireturn, 1) := by decide +kernel
theorem dX5_mix_0 : decode cX5_mix 0 = .ok (.lload_n 1, 1) := by decide +kernel
theorem dX5_mix_1 : decode cX5_mix 1 = .ok (.lload_n 3, 1) := by decide +kernel
theorem dX5_mix_2 : decode cX5_mix 2 = .ok (.ldc2_w 214, 3) := by decide +kernel
theorem dX5_mix_5 : decode cX5_mix 5 = .ok (.lmul, 1) := by decide +kernel
theorem dX5_mix_6 : decode cX5_mix 6 = .ok (.lxor, 1) := by decide +kernel
theorem dX5_mix_7 : decode cX5_mix 7 = .ok (.lstore 5, 2) := by decide +kernel
theorem dX5_mix_9 : decode cX5_mix 9 = .ok (.iconst 0, 1) := by decide +kernel
theorem dX5_mix_10 : decode cX5_mix 10 = .ok (.istore 7, 2) := by decide +kernel
theorem dX5_mix_12 : decode cX5_mix 12 = .ok (.iload 7, 2) := by decide +kernel
theorem dX5_mix_14 : decode cX5_mix 14 = .ok (.iconst 2, 1) := by decide +kernel
theorem dX5_mix_15 : decode cX5_mix 15 = .ok (.if_icmp .ge 23, 3) := by decide +kernel
theorem dX5_mix_18 : decode cX5_mix 18 = .ok (.lload 5, 2) := by decide +kernel
theorem dX5_mix_20 : decode cX5_mix 20 = .ok (.lload 5, 2) := by decide +kernel
theorem dX5_mix_22 : decode cX5_mix 22 = .ok (.bipush 29, 2) := by decide +kernel
theorem dX5_mix_24 : decode cX5_mix 24 = .ok (.lushr, 1) := by decide +kernel
theorem dX5_mix_25 : decode cX5_mix 25 = .ok (.lxor, 1) := by decide +kernel
theorem dX5_mix_26 : decode cX5_mix 26 = .ok (.ldc2_w 216, 3) := by decide +kernel
theorem dX5_mix_29 : decode cX5_mix 29 = .ok (.lmul, 1) := by decide +kernel
theorem dX5_mix_30 : decode cX5_mix 30 = .ok (.lstore 5, 2) := by decide +kernel
theorem dX5_mix_32 : decode cX5_mix 32 = .ok (.iinc 7 1, 3) := by decide +kernel
theorem dX5_mix_35 : decode cX5_mix 35 = .ok (.goto (-23), 3) := by decide +kernel
theorem dX5_mix_38 : decode cX5_mix 38 = .ok (.lload 5, 2) := by decide +kernel
theorem dX5_mix_40 : decode cX5_mix 40 = .ok (.lreturn, 1) := by decide +kernel
theorem dX5_air_0 : decode cX5_air 0 = .ok (.iload_n 1, 1) := by decide +kernel
theorem dX5_air_1 : decode cX5_air 1 = .ok (.ifCond .ne 10, 3) := by decide +kernel
theorem dX5_air_4 : decode cX5_air 4 = .ok (.aload_n 0, 1) := by decide +kernel
theorem dX5_air_5 : decode cX5_air 5 = .ok (.getfield 179, 3) := by decide +kernel
theorem dX5_air_8 : decode cX5_air 8 = .ok (.goto 16, 3) := by decide +kernel
theorem dX5_air_11 : decode cX5_air 11 = .ok (.iload_n 1, 1) := by decide +kernel
theorem dX5_air_12 : decode cX5_air 12 = .ok (.iconst 1, 1) := by decide +kernel
theorem dX5_air_13 : decode cX5_air 13 = .ok (.if_icmp .ne 10, 3) := by decide +kernel
theorem dX5_air_16 : decode cX5_air 16 = .ok (.aload_n 0, 1) := by decide +kernel
theorem dX5_air_17 : decode cX5_air 17 = .ok (.getfield 188, 3) := by decide +kernel
theorem dX5_air_20 : decode cX5_air 20 = .ok (.goto 4, 3) := by decide +kernel
theorem dX5_air_23 : decode cX5_air 23 = .ok (.lconst 0, 1) := by decide +kernel
theorem dX5_air_24 : decode cX5_air 24 = .ok (.lreturn, 1) := by decide +kernel
theorem dX5_count_0 : decode cX5_count 0 = .ok (.iload_n 1, 1) := by decide +kernel
theorem dX5_count_1 : decode cX5_count 1 = .ok (.tableswitch 96 0 8 #[51, 56, 61, 66, 71, 76, 81, 86, 91], 51) := by decide +kernel
theorem dX5_count_52 : decode cX5_count 52 = .ok (.aload_n 0, 1) := by decide +kernel
theorem dX5_count_53 : decode cX5_count 53 = .ok (.getfield 103, 3) := by decide +kernel
theorem dX5_count_56 : decode cX5_count 56 = .ok (.ireturn, 1) := by decide +kernel
theorem dX5_count_57 : decode cX5_count 57 = .ok (.aload_n 0, 1) := by decide +kernel
theorem dX5_count_58 : decode cX5_count 58 = .ok (.getfield 84, 3) := by decide +kernel
theorem dX5_count_61 : decode cX5_count 61 = .ok (.ireturn, 1) := by decide +kernel
theorem dX5_count_62 : decode cX5_count 62 = .ok (.aload_n 0, 1) := by decide +kernel
theorem dX5_count_63 : decode cX5_count 63 = .ok (.getfield 92, 3) := by decide +kernel
theorem dX5_count_66 : decode cX5_count 66 = .ok (.ireturn, 1) := by decide +kernel
theorem dX5_count_67 : decode cX5_count 67 = .ok (.aload_n 0, 1) := by decide +kernel
theorem dX5_count_68 : decode cX5_count 68 = .ok (.getfield 109, 3) := by decide +kernel
theorem dX5_count_71 : decode cX5_count 71 = .ok (.ireturn, 1) := by decide +kernel
theorem dX5_count_72 : decode cX5_count 72 = .ok (.aload_n 0, 1) := by decide +kernel
theorem dX5_count_73 : decode cX5_count 73 = .ok (.getfield 163, 3) := by decide +kernel
theorem dX5_count_76 : decode cX5_count 76 = .ok (.ireturn, 1) := by decide +kernel
theorem dX5_count_77 : decode cX5_count 77 = .ok (.aload_n 0, 1) := by decide +kernel
theorem dX5_count_78 : decode cX5_count 78 = .ok (.getfield 106, 3) := by decide +kernel
theorem dX5_count_81 : decode cX5_count 81 = .ok (.ireturn, 1) := by decide +kernel
theorem dX5_count_82 : decode cX5_count 82 = .ok (.aload_n 0, 1) := by decide +kernel
theorem dX5_count_83 : decode cX5_count 83 = .ok (.getfield 122, 3) := by decide +kernel
theorem dX5_count_86 : decode cX5_count 86 = .ok (.ireturn, 1) := by decide +kernel
theorem dX5_count_87 : decode cX5_count 87 = .ok (.aload_n 0, 1) := by decide +kernel
theorem dX5_count_88 : decode cX5_count 88 = .ok (.getfield 169, 3) := by decide +kernel
theorem dX5_count_91 : decode cX5_count 91 = .ok (.ireturn, 1) := by decide +kernel
theorem dX5_count_92 : decode cX5_count 92 = .ok (.aload_n 0, 1) := by decide +kernel
theorem dX5_count_93 : decode cX5_count 93 = .ok (.getfield 183, 3) := by decide +kernel
theorem dX5_count_96 : decode cX5_count 96 = .ok (.ireturn, 1) := by decide +kernel
theorem dX5_count_97 : decode cX5_count 97 = .ok (.iload_n 1, 1) := by decide +kernel
theorem dX5_count_98 : decode cX5_count 98 = .ok (.bipush 11, 2) := by decide +kernel
theorem dX5_count_100 : decode cX5_count 100 = .ok (.bipush 16, 2) := by decide +kernel
theorem dX5_count_102 : decode cX5_count 102 = .ok (.invokestatic 88, 3) := by decide +kernel
theorem dX5_count_105 : decode cX5_count 105 = .ok (.ifCond .eq 15, 3) := by decide +kernel
theorem dX5_count_108 : decode cX5_count 108 = .ok (.aload_n 0, 1) := by decide +kernel
theorem dX5_count_109 : decode cX5_count 109 = .ok (.getfield 75, 3) := by decide +kernel
theorem dX5_count_112 : decode cX5_count 112 = .ok (.iload_n 1, 1) := by decide +kernel
theorem dX5_count_113 : decode cX5_count 113 = .ok (.bipush 10, 2) := by decide +kernel
theorem dX5_count_115 : decode cX5_count 115 = .ok (.isub, 1) := by decide +kernel
theorem dX5_count_116 : decode cX5_count 116 = .ok (.iaload, 1) := by decide +kernel
theorem dX5_count_117 : decode cX5_count 117 = .ok (.goto 5, 3) := by decide +kernel
theorem dX5_count_120 : decode cX5_count 120 = .ok (.bipush (-9), 2) := by decide +kernel
theorem dX5_count_122 : decode cX5_count 122 = .ok (.ireturn, 1) := by decide +kernel
theorem dJ6_bitCount_0f7a4_0 : decode cJ6_bitCount_0f7a4 0 = .ok (.iload_n 0, 1) := by decide +kernel
theorem dJ6_bitCount_0f7a4_1 : decode cJ6_bitCount_0f7a4 1 = .ok (.iload_n 0, 1) := by decide +kernel
theorem dJ6_bitCount_0f7a4_2 : decode cJ6_bitCount_0f7a4 2 = .ok (.iconst 1, 1) := by decide +kernel
theorem dJ6_bitCount_0f7a4_3 : decode cJ6_bitCount_0f7a4 3 = .ok (.iushr, 1) := by decide +kernel
theorem dJ6_bitCount_0f7a4_4 : decode cJ6_bitCount_0f7a4 4 = .ok (.ldc_w 265, 3) := by decide +kernel
theorem dJ6_bitCount_0f7a4_7 : decode cJ6_bitCount_0f7a4 7 = .ok (.iand, 1) := by decide +kernel
theorem dJ6_bitCount_0f7a4_8 : decode cJ6_bitCount_0f7a4 8 = .ok (.isub, 1) := by decide +kernel
theorem dJ6_bitCount_0f7a4_9 : decode cJ6_bitCount_0f7a4 9 = .ok (.istore_n 0, 1) := by decide +kernel
theorem dJ6_bitCount_0f7a4_10 : decode cJ6_bitCount_0f7a4 10 = .ok (.iload_n 0, 1) := by decide +kernel
theorem dJ6_bitCount_0f7a4_11 : decode cJ6_bitCount_0f7a4 11 = .ok (.ldc_w 266, 3) := by decide +kernel
theorem dJ6_bitCount_0f7a4_14 : decode cJ6_bitCount_0f7a4 14 = .ok (.iand, 1) := by decide +kernel
theorem dJ6_bitCount_0f7a4_15 : decode cJ6_bitCount_0f7a4 15 = .ok (.iload_n 0, 1) := by decide +kernel
theorem dJ6_bitCount_0f7a4_16 : decode cJ6_bitCount_0f7a4 16 = .ok (.iconst 2, 1) := by decide +kernel
theorem dJ6_bitCount_0f7a4_17 : decode cJ6_bitCount_0f7a4 17 = .ok (.iushr, 1) := by decide +kernel
theorem dJ6_bitCount_0f7a4_18 : decode cJ6_bitCount_0f7a4 18 = .ok (.ldc_w 266, 3) := by decide +kernel
theorem dJ6_bitCount_0f7a4_21 : decode cJ6_bitCount_0f7a4 21 = .ok (.iand, 1) := by decide +kernel
theorem dJ6_bitCount_0f7a4_22 : decode cJ6_bitCount_0f7a4 22 = .ok (.iadd, 1) := by decide +kernel
theorem dJ6_bitCount_0f7a4_23 : decode cJ6_bitCount_0f7a4 23 = .ok (.istore_n 0, 1) := by decide +kernel
theorem dJ6_bitCount_0f7a4_24 : decode cJ6_bitCount_0f7a4 24 = .ok (.iload_n 0, 1) := by decide +kernel
theorem dJ6_bitCount_0f7a4_25 : decode cJ6_bitCount_0f7a4 25 = .ok (.iload_n 0, 1) := by decide +kernel
theorem dJ6_bitCount_0f7a4_26 : decode cJ6_bitCount_0f7a4 26 = .ok (.iconst 4, 1) := by decide +kernel
theorem dJ6_bitCount_0f7a4_27 : decode cJ6_bitCount_0f7a4 27 = .ok (.iushr, 1) := by decide +kernel
theorem dJ6_bitCount_0f7a4_28 : decode cJ6_bitCount_0f7a4 28 = .ok (.iadd, 1) := by decide +kernel
theorem dJ6_bitCount_0f7a4_29 : decode cJ6_bitCount_0f7a4 29 = .ok (.ldc_w 267, 3) := by decide +kernel
theorem dJ6_bitCount_0f7a4_32 : decode cJ6_bitCount_0f7a4 32 = .ok (.iand, 1) := by decide +kernel
theorem dJ6_bitCount_0f7a4_33 : decode cJ6_bitCount_0f7a4 33 = .ok (.istore_n 0, 1) := by decide +kernel
theorem dJ6_bitCount_0f7a4_34 : decode cJ6_bitCount_0f7a4 34 = .ok (.iload_n 0, 1) := by decide +kernel
theorem dJ6_bitCount_0f7a4_35 : decode cJ6_bitCount_0f7a4 35 = .ok (.iload_n 0, 1) := by decide +kernel
theorem dJ6_bitCount_0f7a4_36 : decode cJ6_bitCount_0f7a4 36 = .ok (.bipush 8, 2) := by decide +kernel
theorem dJ6_bitCount_0f7a4_38 : decode cJ6_bitCount_0f7a4 38 = .ok (.iushr, 1) := by decide +kernel
theorem dJ6_bitCount_0f7a4_39 : decode cJ6_bitCount_0f7a4 39 = .ok (.iadd, 1) := by decide +kernel
theorem dJ6_bitCount_0f7a4_40 : decode cJ6_bitCount_0f7a4 40 = .ok (.istore_n 0, 1) := by decide +kernel
theorem dJ6_bitCount_0f7a4_41 : decode cJ6_bitCount_0f7a4 41 = .ok (.iload_n 0, 1) := by decide +kernel
theorem dJ6_bitCount_0f7a4_42 : decode cJ6_bitCount_0f7a4 42 = .ok (.iload_n 0, 1) := by decide +kernel
theorem dJ6_bitCount_0f7a4_43 : decode cJ6_bitCount_0f7a4 43 = .ok (.bipush 16, 2) := by decide +kernel
theorem dJ6_bitCount_0f7a4_45 : decode cJ6_bitCount_0f7a4 45 = .ok (.iushr, 1) := by decide +kernel
theorem dJ6_bitCount_0f7a4_46 : decode cJ6_bitCount_0f7a4 46 = .ok (.iadd, 1) := by decide +kernel
theorem dJ6_bitCount_0f7a4_47 : decode cJ6_bitCount_0f7a4 47 = .ok (.istore_n 0, 1) := by decide +kernel
theorem dJ6_bitCount_0f7a4_48 : decode cJ6_bitCount_0f7a4 48 = .ok (.iload_n 0, 1) := by decide +kernel
theorem dJ6_bitCount_0f7a4_49 : decode cJ6_bitCount_0f7a4 49 = .ok (.bipush 63, 2) := by decide +kernel
theorem dJ6_bitCount_0f7a4_51 : decode cJ6_bitCount_0f7a4 51 = .ok (.iand, 1) := by decide +kernel
theorem dJ6_bitCount_0f7a4_52 : decode cJ6_bitCount_0f7a4 52 = .ok (.ireturn, 1) := by decide +kernel
theorem dJ9_max_7cf53_0 : decode cJ9_max_7cf53 0 = .ok (.iload_n 0, 1) := by decide +kernel
theorem dJ9_max_7cf53_1 : decode cJ9_max_7cf53 1 = .ok (.iload_n 1, 1) := by decide +kernel
theorem dJ9_max_7cf53_2 : decode cJ9_max_7cf53 2 = .ok (.if_icmp .lt 7, 3) := by decide +kernel
theorem dJ9_max_7cf53_5 : decode cJ9_max_7cf53 5 = .ok (.iload_n 0, 1) := by decide +kernel
theorem dJ9_max_7cf53_6 : decode cJ9_max_7cf53 6 = .ok (.goto 4, 3) := by decide +kernel
theorem dJ9_max_7cf53_9 : decode cJ9_max_7cf53 9 = .ok (.iload_n 1, 1) := by decide +kernel
theorem dJ9_max_7cf53_10 : decode cJ9_max_7cf53 10 = .ok (.ireturn, 1) := by decide +kernel
