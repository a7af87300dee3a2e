/-! By program (wip/whole/gen2.py): the words of the tables by their places, and the code tables' rightness. -/
theorem dX10_pushOf_0 : decode cX10_pushOf 0 = .ok (.aload_n 0, 1) := by decide +kernel
theorem dX10_pushOf_1 : decode cX10_pushOf 1 = .ok (.getfield 9, 3) := by decide +kernel
theorem dX10_pushOf_4 : decode cX10_pushOf 4 = .ok (.bipush 12, 2) := by decide +kernel
theorem dX10_pushOf_6 : decode cX10_pushOf 6 = .ok (.iload_n 1, 1) := by decide +kernel
theorem dX10_pushOf_7 : decode cX10_pushOf 7 = .ok (.iadd, 1) := by decide +kernel
theorem dX10_pushOf_8 : decode cX10_pushOf 8 = .ok (.iaload, 1) := by decide +kernel
theorem dX10_pushOf_9 : decode cX10_pushOf 9 = .ok (.istore_n 3, 1) := by decide +kernel
theorem dX10_pushOf_10 : decode cX10_pushOf 10 = .ok (.aload_n 0, 1) := by decide +kernel
theorem dX10_pushOf_11 : decode cX10_pushOf 11 = .ok (.getfield 9, 3) := by decide +kernel
theorem dX10_pushOf_14 : decode cX10_pushOf 14 = .ok (.bipush 17, 2) := by decide +kernel
theorem dX10_pushOf_16 : decode cX10_pushOf 16 = .ok (.iload_n 1, 1) := by decide +kernel
theorem dX10_pushOf_17 : decode cX10_pushOf 17 = .ok (.iadd, 1) := by decide +kernel
theorem dX10_pushOf_18 : decode cX10_pushOf 18 = .ok (.iaload, 1) := by decide +kernel
theorem dX10_pushOf_19 : decode cX10_pushOf 19 = .ok (.istore 4, 2) := by decide +kernel
theorem dX10_pushOf_21 : decode cX10_pushOf 21 = .ok (.aload_n 0, 1) := by decide +kernel
theorem dX10_pushOf_22 : decode cX10_pushOf 22 = .ok (.getfield 9, 3) := by decide +kernel
theorem dX10_pushOf_25 : decode cX10_pushOf 25 = .ok (.iconst 1, 1) := by decide +kernel
theorem dX10_pushOf_26 : decode cX10_pushOf 26 = .ok (.iload_n 1, 1) := by decide +kernel
theorem dX10_pushOf_27 : decode cX10_pushOf 27 = .ok (.iadd, 1) := by decide +kernel
theorem dX10_pushOf_28 : decode cX10_pushOf 28 = .ok (.iaload, 1) := by decide +kernel
theorem dX10_pushOf_29 : decode cX10_pushOf 29 = .ok (.istore 5, 2) := by decide +kernel
theorem dX10_pushOf_31 : decode cX10_pushOf 31 = .ok (.aload_n 0, 1) := by decide +kernel
theorem dX10_pushOf_32 : decode cX10_pushOf 32 = .ok (.iload_n 1, 1) := by decide +kernel
theorem dX10_pushOf_33 : decode cX10_pushOf 33 = .ok (.iload_n 2, 1) := by decide +kernel
theorem dX10_pushOf_34 : decode cX10_pushOf 34 = .ok (.invokevirtual 141, 3) := by decide +kernel
theorem dX10_pushOf_37 : decode cX10_pushOf 37 = .ok (.iload 4, 2) := by decide +kernel
theorem dX10_pushOf_39 : decode cX10_pushOf 39 = .ok (.iadd, 1) := by decide +kernel
theorem dX10_pushOf_40 : decode cX10_pushOf 40 = .ok (.istore 6, 2) := by decide +kernel
theorem dX10_pushOf_42 : decode cX10_pushOf 42 = .ok (.iload 6, 2) := by decide +kernel
theorem dX10_pushOf_44 : decode cX10_pushOf 44 = .ok (.iload_n 3, 1) := by decide +kernel
theorem dX10_pushOf_45 : decode cX10_pushOf 45 = .ok (.iconst 1, 1) := by decide +kernel
theorem dX10_pushOf_46 : decode cX10_pushOf 46 = .ok (.if_icmp .eq 8, 3) := by decide +kernel
theorem dX10_pushOf_49 : decode cX10_pushOf 49 = .ok (.iload_n 3, 1) := by decide +kernel
theorem dX10_pushOf_50 : decode cX10_pushOf 50 = .ok (.iconst 4, 1) := by decide +kernel
theorem dX10_pushOf_51 : decode cX10_pushOf 51 = .ok (.if_icmp .ne 20, 3) := by decide +kernel
theorem dX10_pushOf_54 : decode cX10_pushOf 54 = .ok (.iload 5, 2) := by decide +kernel
theorem dX10_pushOf_56 : decode cX10_pushOf 56 = .ok (.aload_n 0, 1) := by decide +kernel
theorem dX10_pushOf_57 : decode cX10_pushOf 57 = .ok (.getfield 9, 3) := by decide +kernel
theorem dX10_pushOf_60 : decode cX10_pushOf 60 = .ok (.iconst 1, 1) := by decide +kernel
theorem dX10_pushOf_61 : decode cX10_pushOf 61 = .ok (.iload_n 2, 1) := by decide +kernel
theorem dX10_pushOf_62 : decode cX10_pushOf 62 = .ok (.iadd, 1) := by decide +kernel
theorem dX10_pushOf_63 : decode cX10_pushOf 63 = .ok (.iaload, 1) := by decide +kernel
theorem dX10_pushOf_64 : decode cX10_pushOf 64 = .ok (.if_icmp .ge 7, 3) := by decide +kernel
theorem dX10_pushOf_67 : decode cX10_pushOf 67 = .ok (.iconst 2, 1) := by decide +kernel
theorem dX10_pushOf_68 : decode cX10_pushOf 68 = .ok (.goto 4, 3) := by decide +kernel
theorem dX10_pushOf_71 : decode cX10_pushOf 71 = .ok (.iconst 0, 1) := by decide +kernel
theorem dX10_pushOf_72 : decode cX10_pushOf 72 = .ok (.iadd, 1) := by decide +kernel
theorem dX10_pushOf_73 : decode cX10_pushOf 73 = .ok (.istore 6, 2) := by decide +kernel
theorem dX10_pushOf_75 : decode cX10_pushOf 75 = .ok (.iload 6, 2) := by decide +kernel
theorem dX10_pushOf_77 : decode cX10_pushOf 77 = .ok (.iload_n 3, 1) := by decide +kernel
theorem dX10_pushOf_78 : decode cX10_pushOf 78 = .ok (.iconst 4, 1) := by decide +kernel
theorem dX10_pushOf_79 : decode cX10_pushOf 79 = .ok (.if_icmp .ne 7, 3) := by decide +kernel
theorem dX10_pushOf_82 : decode cX10_pushOf 82 = .ok (.iconst 1, 1) := by decide +kernel
theorem dX10_pushOf_83 : decode cX10_pushOf 83 = .ok (.goto 4, 3) := by decide +kernel
theorem dX10_pushOf_86 : decode cX10_pushOf 86 = .ok (.iconst 0, 1) := by decide +kernel
theorem dX10_pushOf_87 : decode cX10_pushOf 87 = .ok (.iadd, 1) := by decide +kernel
theorem dX10_pushOf_88 : decode cX10_pushOf 88 = .ok (.istore 6, 2) := by decide +kernel
theorem dX10_pushOf_90 : decode cX10_pushOf 90 = .ok (.iload_n 3, 1) := by decide +kernel
theorem dX10_pushOf_91 : decode cX10_pushOf 91 = .ok (.iconst 2, 1) := by decide +kernel
theorem dX10_pushOf_92 : decode cX10_pushOf 92 = .ok (.if_icmp .eq 21, 3) := by decide +kernel
theorem dX10_pushOf_95 : decode cX10_pushOf 95 = .ok (.iload_n 3, 1) := by decide +kernel
theorem dX10_pushOf_96 : decode cX10_pushOf 96 = .ok (.iconst 5, 1) := by decide +kernel
theorem dX10_pushOf_97 : decode cX10_pushOf 97 = .ok (.if_icmp .ne 20, 3) := by decide +kernel
theorem dX10_pushOf_100 : decode cX10_pushOf 100 = .ok (.aload_n 0, 1) := by decide +kernel
theorem dX10_pushOf_101 : decode cX10_pushOf 101 = .ok (.getfield 9, 3) := by decide +kernel
theorem dX10_pushOf_104 : decode cX10_pushOf 104 = .ok (.iconst 0, 1) := by decide +kernel
theorem dX10_pushOf_105 : decode cX10_pushOf 105 = .ok (.iaload, 1) := by decide +kernel
theorem dX10_pushOf_106 : decode cX10_pushOf 106 = .ok (.iload 4, 2) := by decide +kernel
theorem dX10_pushOf_108 : decode cX10_pushOf 108 = .ok (.iconst 2, 1) := by decide +kernel
theorem dX10_pushOf_109 : decode cX10_pushOf 109 = .ok (.iadd, 1) := by decide +kernel
theorem dX10_pushOf_110 : decode cX10_pushOf 110 = .ok (.if_icmp .ge 7, 3) := by decide +kernel
theorem dX10_pushOf_113 : decode cX10_pushOf 113 = .ok (.iconst 1, 1) := by decide +kernel
theorem dX10_pushOf_114 : decode cX10_pushOf 114 = .ok (.goto 4, 3) := by decide +kernel
theorem dX10_pushOf_117 : decode cX10_pushOf 117 = .ok (.iconst 0, 1) := by decide +kernel
theorem dX10_pushOf_118 : decode cX10_pushOf 118 = .ok (.istore 7, 2) := by decide +kernel
theorem dX10_pushOf_120 : decode cX10_pushOf 120 = .ok (.iload 6, 2) := by decide +kernel
theorem dX10_pushOf_122 : decode cX10_pushOf 122 = .ok (.iload 7, 2) := by decide +kernel
theorem dX10_pushOf_124 : decode cX10_pushOf 124 = .ok (.ifCond .eq 14, 3) := by decide +kernel
theorem dX10_pushOf_127 : decode cX10_pushOf 127 = .ok (.iload 5, 2) := by decide +kernel
theorem dX10_pushOf_129 : decode cX10_pushOf 129 = .ok (.iconst 4, 1) := by decide +kernel
theorem dX10_pushOf_130 : decode cX10_pushOf 130 = .ok (.if_icmp .ge 8, 3) := by decide +kernel
theorem dX10_pushOf_133 : decode cX10_pushOf 133 = .ok (.bipush 9, 2) := by decide +kernel
theorem dX10_pushOf_135 : decode cX10_pushOf 135 = .ok (.goto 4, 3) := by decide +kernel
theorem dX10_pushOf_138 : decode cX10_pushOf 138 = .ok (.iconst 0, 1) := by decide +kernel
theorem dX10_pushOf_139 : decode cX10_pushOf 139 = .ok (.isub, 1) := by decide +kernel
theorem dX10_pushOf_140 : decode cX10_pushOf 140 = .ok (.istore 6, 2) := by decide +kernel
theorem dX10_pushOf_142 : decode cX10_pushOf 142 = .ok (.iload 6, 2) := by decide +kernel
theorem dX10_pushOf_144 : decode cX10_pushOf 144 = .ok (.iload_n 3, 1) := by decide +kernel
theorem dX10_pushOf_145 : decode cX10_pushOf 145 = .ok (.iconst 3, 1) := by decide +kernel
theorem dX10_pushOf_146 : decode cX10_pushOf 146 = .ok (.if_icmp .eq 9, 3) := by decide +kernel
theorem dX10_pushOf_149 : decode cX10_pushOf 149 = .ok (.iload_n 3, 1) := by decide +kernel
theorem dX10_pushOf_150 : decode cX10_pushOf 150 = .ok (.bipush 6, 2) := by decide +kernel
theorem dX10_pushOf_152 : decode cX10_pushOf 152 = .ok (.if_icmp .ne 17, 3) := by decide +kernel
theorem dX10_pushOf_155 : decode cX10_pushOf 155 = .ok (.aload_n 0, 1) := by decide +kernel
theorem dX10_pushOf_156 : decode cX10_pushOf 156 = .ok (.getfield 9, 3) := by decide +kernel
theorem dX10_pushOf_159 : decode cX10_pushOf 159 = .ok (.iconst 0, 1) := by decide +kernel
theorem dX10_pushOf_160 : decode cX10_pushOf 160 = .ok (.iaload, 1) := by decide +kernel
theorem dX10_pushOf_161 : decode cX10_pushOf 161 = .ok (.iconst 3, 1) := by decide +kernel
theorem dX10_pushOf_162 : decode cX10_pushOf 162 = .ok (.if_icmp .ge 7, 3) := by decide +kernel
theorem dX10_pushOf_165 : decode cX10_pushOf 165 = .ok (.iconst 1, 1) := by decide +kernel
theorem dX10_pushOf_166 : decode cX10_pushOf 166 = .ok (.goto 4, 3) := by decide +kernel
theorem dX10_pushOf_169 : decode cX10_pushOf 169 = .ok (.iconst 0, 1) := by decide +kernel
theorem dX10_pushOf_170 : decode cX10_pushOf 170 = .ok (.isub, 1) := by decide +kernel
theorem dX10_pushOf_171 : decode cX10_pushOf 171 = .ok (.istore 6, 2) := by decide +kernel
theorem dX10_pushOf_173 : decode cX10_pushOf 173 = .ok (.iload 6, 2) := by decide +kernel
theorem dX10_pushOf_175 : decode cX10_pushOf 175 = .ok (.iload_n 3, 1) := by decide +kernel
theorem dX10_pushOf_176 : decode cX10_pushOf 176 = .ok (.bipush 6, 2) := by decide +kernel
theorem dX10_pushOf_178 : decode cX10_pushOf 178 = .ok (.if_icmp .ne 28, 3) := by decide +kernel
theorem dX10_pushOf_181 : decode cX10_pushOf 181 = .ok (.aload_n 0, 1) := by decide +kernel
theorem dX10_pushOf_182 : decode cX10_pushOf 182 = .ok (.getfield 9, 3) := by decide +kernel
theorem dX10_pushOf_185 : decode cX10_pushOf 185 = .ok (.bipush 22, 2) := by decide +kernel
theorem dX10_pushOf_187 : decode cX10_pushOf 187 = .ok (.iconst 4, 1) := by decide +kernel
theorem dX10_pushOf_188 : decode cX10_pushOf 188 = .ok (.iload_n 1, 1) := by decide +kernel
theorem dX10_pushOf_189 : decode cX10_pushOf 189 = .ok (.imul, 1) := by decide +kernel
theorem dX10_pushOf_190 : decode cX10_pushOf 190 = .ok (.iadd, 1) := by decide +kernel
theorem dX10_pushOf_191 : decode cX10_pushOf 191 = .ok (.aload_n 0, 1) := by decide +kernel
theorem dX10_pushOf_192 : decode cX10_pushOf 192 = .ok (.getfield 9, 3) := by decide +kernel
theorem dX10_pushOf_195 : decode cX10_pushOf 195 = .ok (.iconst 0, 1) := by decide +kernel
theorem dX10_pushOf_196 : decode cX10_pushOf 196 = .ok (.iaload, 1) := by decide +kernel
theorem dX10_pushOf_197 : decode cX10_pushOf 197 = .ok (.iconst 4, 1) := by decide +kernel
theorem dX10_pushOf_198 : decode cX10_pushOf 198 = .ok (.irem, 1) := by decide +kernel
theorem dX10_pushOf_199 : decode cX10_pushOf 199 = .ok (.iadd, 1) := by decide +kernel
theorem dX10_pushOf_200 : decode cX10_pushOf 200 = .ok (.iaload, 1) := by decide +kernel
theorem dX10_pushOf_201 : decode cX10_pushOf 201 = .ok (.iconst 4, 1) := by decide +kernel
theorem dX10_pushOf_202 : decode cX10_pushOf 202 = .ok (.isub, 1) := by decide +kernel
theorem dX10_pushOf_203 : decode cX10_pushOf 203 = .ok (.goto 4, 3) := by decide +kernel
theorem dX10_pushOf_206 : decode cX10_pushOf 206 = .ok (.iconst 0, 1) := by decide +kernel
theorem dX10_pushOf_207 : decode cX10_pushOf 207 = .ok (.iadd, 1) := by decide +kernel
theorem dX10_pushOf_208 : decode cX10_pushOf 208 = .ok (.ireturn, 1) := by decide +kernel
set_option maxRecDepth 20000 in
theorem r_X10_pushOf : m_Right (yX10_pushOf, cX10_pushOf, 8, (some .int)) q_X10_pushOf := m_right_nd (m_right_nd (m_right_nd (m_right_nd (m_right_nd (m_right_nd (m_right_nd (m_right_lf ⟨1, dX10_pushOf_0, rfl, rfl, rfl⟩) (m_right_lf ⟨3, dX10_pushOf_1, rfl, rfl, 10, 1, rfl, Or.inl ⟨(RX10, TX10, 24), rfl, by decide, wd_867⟩⟩)) (m_right_nd (m_right_lf ⟨2, dX10_pushOf_4, rfl, rfl, by decide +kernel⟩) (m_right_lf ⟨1, dX10_pushOf_6, rfl, rfl, rfl⟩))) (m_right_nd (m_right_nd (m_right_lf ⟨1, dX10_pushOf_7, rfl, rfl⟩) (m_right_lf ⟨1, dX10_pushOf_8, rfl, rfl⟩)) (m_right_nd (m_right_lf ⟨1, dX10_pushOf_9, rfl, rfl, rfl⟩) (m_right_lf ⟨1, dX10_pushOf_10, rfl, rfl, rfl⟩)))) (m_right_nd (m_right_nd (m_right_nd (m_right_lf ⟨3, dX10_pushOf_11, rfl, rfl, 10, 1, rfl, Or.inl ⟨(RX10, TX10, 24), rfl, by decide, wd_867⟩⟩) (m_right_lf ⟨2, dX10_pushOf_14, rfl, rfl, by decide +kernel⟩)) (m_right_nd (m_right_lf ⟨1, dX10_pushOf_16, rfl, rfl, rfl⟩) (m_right_lf ⟨1, dX10_pushOf_17, rfl, rfl⟩))) (m_right_nd (m_right_nd (m_right_lf ⟨1, dX10_pushOf_18, rfl, rfl⟩) (m_right_lf ⟨2, dX10_pushOf_19, rfl, rfl, rfl⟩)) (m_right_nd (m_right_lf ⟨1, dX10_pushOf_21, rfl, rfl, rfl⟩) (m_right_lf ⟨3, dX10_pushOf_22, rfl, rfl, 10, 1, rfl, Or.inl ⟨(RX10, TX10, 24), rfl, by decide, wd_867⟩⟩))))) (m_right_nd (m_right_nd (m_right_nd (m_right_nd (m_right_lf ⟨1, dX10_pushOf_25, rfl, rfl, by decide +kernel⟩) (m_right_lf ⟨1, dX10_pushOf_26, rfl, rfl, rfl⟩)) (m_right_nd (m_right_lf ⟨1, dX10_pushOf_27, rfl, rfl⟩) (m_right_lf ⟨1, dX10_pushOf_28, rfl, rfl⟩))) (m_right_nd (m_right_nd (m_right_lf ⟨2, dX10_pushOf_29, rfl, rfl, rfl⟩) (m_right_lf ⟨1, dX10_pushOf_31, rfl, rfl, rfl⟩)) (m_right_nd (m_right_lf ⟨1, dX10_pushOf_32, rfl, rfl, rfl⟩) (m_right_lf ⟨1, dX10_pushOf_33, rfl, rfl, rfl⟩)))) (m_right_nd (m_right_nd (m_right_nd (m_right_lf ⟨3, dX10_pushOf_34, rfl, rfl, 144, 2, 10, (yX10_lifted, cX10_lifted, 12, (some .int)), rfl, me_X10_lifted, mc_X10_lifted, Or.inl ⟨(RX10, TX10, 24), rfl, rfl⟩, wd_1093, wd_1095, wd_34, wd_71⟩) (m_right_lf ⟨2, dX10_pushOf_37, rfl, rfl, rfl⟩)) (m_right_nd (m_right_lf ⟨1, dX10_pushOf_39, rfl, rfl⟩) (m_right_lf ⟨2, dX10_pushOf_40, rfl, rfl, rfl⟩))) (m_right_nd (m_right_nd (m_right_lf ⟨2, dX10_pushOf_42, rfl, rfl, rfl⟩) (m_right_lf ⟨1, dX10_pushOf_44, rfl, rfl, rfl⟩)) (m_right_nd (m_right_lf ⟨1, dX10_pushOf_45, rfl, rfl, by decide +kernel⟩) (m_right_lf ⟨3, dX10_pushOf_46, rfl, rfl, 54, rfl, by decide⟩)))))) (m_right_nd (m_right_nd (m_right_nd (m_right_nd (m_right_nd (m_right_lf ⟨1, dX10_pushOf_49, rfl, rfl, rfl⟩) (m_right_lf ⟨1, dX10_pushOf_50, rfl, rfl, by decide +kernel⟩)) (m_right_nd (m_right_lf ⟨3, dX10_pushOf_51, rfl, rfl, 71, rfl, by decide⟩) (m_right_lf ⟨2, dX10_pushOf_54, rfl, rfl, rfl⟩))) (m_right_nd (m_right_nd (m_right_lf ⟨1, dX10_pushOf_56, rfl, rfl, rfl⟩) (m_right_lf ⟨3, dX10_pushOf_57, rfl, rfl, 10, 1, rfl, Or.inl ⟨(RX10, TX10, 24), rfl, by decide, wd_867⟩⟩)) (m_right_nd (m_right_lf ⟨1, dX10_pushOf_60, rfl, rfl, by decide +kernel⟩) (m_right_lf ⟨1, dX10_pushOf_61, rfl, rfl, rfl⟩)))) (m_right_nd (m_right_nd (m_right_nd (m_right_lf ⟨1, dX10_pushOf_62, rfl, rfl⟩) (m_right_lf ⟨1, dX10_pushOf_63, rfl, rfl⟩)) (m_right_nd (m_right_lf ⟨3, dX10_pushOf_64, rfl, rfl, 71, rfl, by decide⟩) (m_right_lf ⟨1, dX10_pushOf_67, rfl, rfl, by decide +kernel⟩))) (m_right_nd (m_right_nd (m_right_lf ⟨3, dX10_pushOf_68, rfl, 72, rfl, by decide⟩) (m_right_lf ⟨1, dX10_pushOf_71, rfl, rfl, by decide +kernel⟩)) (m_right_nd (m_right_lf ⟨1, dX10_pushOf_72, rfl, rfl⟩) (m_right_lf ⟨2, dX10_pushOf_73, rfl, rfl, rfl⟩))))) (m_right_nd (m_right_nd (m_right_nd (m_right_nd (m_right_lf ⟨2, dX10_pushOf_75, rfl, rfl, rfl⟩) (m_right_lf ⟨1, dX10_pushOf_77, rfl, rfl, rfl⟩)) (m_right_nd (m_right_lf ⟨1, dX10_pushOf_78, rfl, rfl, by decide +kernel⟩) (m_right_lf ⟨3, dX10_pushOf_79, rfl, rfl, 86, rfl, by decide⟩))) (m_right_nd (m_right_nd (m_right_lf ⟨1, dX10_pushOf_82, rfl, rfl, by decide +kernel⟩) (m_right_lf ⟨3, dX10_pushOf_83, rfl, 87, rfl, by decide⟩)) (m_right_nd (m_right_lf ⟨1, dX10_pushOf_86, rfl, rfl, by decide +kernel⟩) (m_right_lf ⟨1, dX10_pushOf_87, rfl, rfl⟩)))) (m_right_nd (m_right_nd (m_right_nd (m_right_lf ⟨2, dX10_pushOf_88, rfl, rfl, rfl⟩) (m_right_lf ⟨1, dX10_pushOf_90, rfl, rfl, rfl⟩)) (m_right_nd (m_right_lf ⟨1, dX10_pushOf_91, rfl, rfl, by decide +kernel⟩) (m_right_lf ⟨3, dX10_pushOf_92, rfl, rfl, 113, rfl, by decide⟩))) (m_right_nd (m_right_nd (m_right_lf ⟨1, dX10_pushOf_95, rfl, rfl, rfl⟩) (m_right_lf ⟨1, dX10_pushOf_96, rfl, rfl, by decide +kernel⟩)) (m_right_nd (m_right_lf ⟨3, dX10_pushOf_97, rfl, rfl, 117, rfl, by decide⟩) (m_right_lf ⟨1, dX10_pushOf_100, rfl, rfl, rfl⟩))))))) (m_right_nd (m_right_nd (m_right_nd (m_right_nd (m_right_nd (m_right_nd (m_right_lf ⟨3, dX10_pushOf_101, rfl, rfl, 10, 1, rfl, Or.inl ⟨(RX10, TX10, 24), rfl, by decide, wd_867⟩⟩) (m_right_lf ⟨1, dX10_pushOf_104, rfl, rfl, by decide +kernel⟩)) (m_right_nd (m_right_lf ⟨1, dX10_pushOf_105, rfl, rfl⟩) (m_right_lf ⟨2, dX10_pushOf_106, rfl, rfl, rfl⟩))) (m_right_nd (m_right_nd (m_right_lf ⟨1, dX10_pushOf_108, rfl, rfl, by decide +kernel⟩) (m_right_lf ⟨1, dX10_pushOf_109, rfl, rfl⟩)) (m_right_nd (m_right_lf ⟨3, dX10_pushOf_110, rfl, rfl, 117, rfl, by decide⟩) (m_right_lf ⟨1, dX10_pushOf_113, rfl, rfl, by decide +kernel⟩)))) (m_right_nd (m_right_nd (m_right_nd (m_right_lf ⟨3, dX10_pushOf_114, rfl, 118, rfl, by decide⟩) (m_right_lf ⟨1, dX10_pushOf_117, rfl, rfl, by decide +kernel⟩)) (m_right_nd (m_right_lf ⟨2, dX10_pushOf_118, rfl, rfl, rfl⟩) (m_right_lf ⟨2, dX10_pushOf_120, rfl, rfl, rfl⟩))) (m_right_nd (m_right_nd (m_right_lf ⟨2, dX10_pushOf_122, rfl, rfl, rfl⟩) (m_right_lf ⟨3, dX10_pushOf_124, rfl, rfl, 138, rfl, by decide⟩)) (m_right_nd (m_right_lf ⟨2, dX10_pushOf_127, rfl, rfl, rfl⟩) (m_right_lf ⟨1, dX10_pushOf_129, rfl, rfl, by decide +kernel⟩))))) (m_right_nd (m_right_nd (m_right_nd (m_right_nd (m_right_lf ⟨3, dX10_pushOf_130, rfl, rfl, 138, rfl, by decide⟩) (m_right_lf ⟨2, dX10_pushOf_133, rfl, rfl, by decide +kernel⟩)) (m_right_nd (m_right_lf ⟨3, dX10_pushOf_135, rfl, 139, rfl, by decide⟩) (m_right_lf ⟨1, dX10_pushOf_138, rfl, rfl, by decide +kernel⟩))) (m_right_nd (m_right_nd (m_right_lf ⟨1, dX10_pushOf_139, rfl, rfl⟩) (m_right_lf ⟨2, dX10_pushOf_140, rfl, rfl, rfl⟩)) (m_right_nd (m_right_lf ⟨2, dX10_pushOf_142, rfl, rfl, rfl⟩) (m_right_lf ⟨1, dX10_pushOf_144, rfl, rfl, rfl⟩)))) (m_right_nd (m_right_nd (m_right_nd (m_right_lf ⟨1, dX10_pushOf_145, rfl, rfl, by decide +kernel⟩) (m_right_lf ⟨3, dX10_pushOf_146, rfl, rfl, 155, rfl, by decide⟩)) (m_right_nd (m_right_lf ⟨1, dX10_pushOf_149, rfl, rfl, rfl⟩) (m_right_lf ⟨2, dX10_pushOf_150, rfl, rfl, by decide +kernel⟩))) (m_right_nd (m_right_nd (m_right_lf ⟨3, dX10_pushOf_152, rfl, rfl, 169, rfl, by decide⟩) (m_right_lf ⟨1, dX10_pushOf_155, rfl, rfl, rfl⟩)) (m_right_nd (m_right_lf ⟨3, dX10_pushOf_156, rfl, rfl, 10, 1, rfl, Or.inl ⟨(RX10, TX10, 24), rfl, by decide, wd_867⟩⟩) (m_right_lf ⟨1, dX10_pushOf_159, rfl, rfl, by decide +kernel⟩)))))) (m_right_nd (m_right_nd (m_right_nd (m_right_nd (m_right_nd (m_right_lf ⟨1, dX10_pushOf_160, rfl, rfl⟩) (m_right_lf ⟨1, dX10_pushOf_161, rfl, rfl, by decide +kernel⟩)) (m_right_nd (m_right_lf ⟨3, dX10_pushOf_162, rfl, rfl, 169, rfl, by decide⟩) (m_right_lf ⟨1, dX10_pushOf_165, rfl, rfl, by decide +kernel⟩))) (m_right_nd (m_right_nd (m_right_lf ⟨3, dX10_pushOf_166, rfl, 170, rfl, by decide⟩) (m_right_lf ⟨1, dX10_pushOf_169, rfl, rfl, by decide +kernel⟩)) (m_right_nd (m_right_lf ⟨1, dX10_pushOf_170, rfl, rfl⟩) (m_right_lf ⟨2, dX10_pushOf_171, rfl, rfl, rfl⟩)))) (m_right_nd (m_right_nd (m_right_nd (m_right_lf ⟨2, dX10_pushOf_173, rfl, rfl, rfl⟩) (m_right_lf ⟨1, dX10_pushOf_175, rfl, rfl, rfl⟩)) (m_right_nd (m_right_lf ⟨2, dX10_pushOf_176, rfl, rfl, by decide +kernel⟩) (m_right_lf ⟨3, dX10_pushOf_178, rfl, rfl, 206, rfl, by decide⟩))) (m_right_nd (m_right_nd (m_right_lf ⟨1, dX10_pushOf_181, rfl, rfl, rfl⟩) (m_right_lf ⟨3, dX10_pushOf_182, rfl, rfl, 10, 1, rfl, Or.inl ⟨(RX10, TX10, 24), rfl, by decide, wd_867⟩⟩)) (m_right_nd (m_right_lf ⟨2, dX10_pushOf_185, rfl, rfl, by decide +kernel⟩) (m_right_lf ⟨1, dX10_pushOf_187, rfl, rfl, by decide +kernel⟩))))) (m_right_nd (m_right_nd (m_right_nd (m_right_nd (m_right_lf ⟨1, dX10_pushOf_188, rfl, rfl, rfl⟩) (m_right_lf ⟨1, dX10_pushOf_189, rfl, rfl⟩)) (m_right_nd (m_right_lf ⟨1, dX10_pushOf_190, rfl, rfl⟩) (m_right_lf ⟨1, dX10_pushOf_191, rfl, rfl, rfl⟩))) (m_right_nd (m_right_nd (m_right_lf ⟨3, dX10_pushOf_192, rfl, rfl, 10, 1, rfl, Or.inl ⟨(RX10, TX10, 24), rfl, by decide, wd_867⟩⟩) (m_right_lf ⟨1, dX10_pushOf_195, rfl, rfl, by decide +kernel⟩)) (m_right_nd (m_right_lf ⟨1, dX10_pushOf_196, rfl, rfl⟩) (m_right_lf ⟨1, dX10_pushOf_197, rfl, rfl, by decide +kernel⟩)))) (m_right_nd (m_right_nd (m_right_nd (m_right_lf ⟨1, dX10_pushOf_198, rfl, rfl⟩) (m_right_lf ⟨1, dX10_pushOf_199, rfl, rfl⟩)) (m_right_nd (m_right_lf ⟨1, dX10_pushOf_200, rfl, rfl⟩) (m_right_lf ⟨1, dX10_pushOf_201, rfl, rfl, by decide +kernel⟩))) (m_right_nd (m_right_nd (m_right_lf ⟨1, dX10_pushOf_202, rfl, rfl⟩) (m_right_lf ⟨3, dX10_pushOf_203, rfl, 207, rfl, by decide⟩)) (m_right_nd (m_right_lf ⟨1, dX10_pushOf_206, rfl, rfl, by decide +kernel⟩) (m_right_nd (m_right_lf ⟨1, dX10_pushOf_207, rfl, rfl⟩) (m_right_lf ⟨1, dX10_pushOf_208, rfl, 0, .int, rfl, rfl, Or.inl ⟨rfl, rfl⟩⟩))))))))
theorem dX10_oddsOf_0 : decode cX10_oddsOf 0 = .ok (.iconst 5, 1) := by decide +kernel
theorem dX10_oddsOf_1 : decode cX10_oddsOf 1 = .ok (.aload_n 0, 1) := by decide +kernel
theorem dX10_oddsOf_2 : decode cX10_oddsOf 2 = .ok (.iload_n 1, 1) := by decide +kernel
theorem dX10_oddsOf_3 : decode cX10_oddsOf 3 = .ok (.iload_n 2, 1) := by decide +kernel
theorem dX10_oddsOf_4 : decode cX10_oddsOf 4 = .ok (.invokevirtual 145, 3) := by decide +kernel
theorem dX10_oddsOf_7 : decode cX10_oddsOf 7 = .ok (.iadd, 1) := by decide +kernel
theorem dX10_oddsOf_8 : decode cX10_oddsOf 8 = .ok (.aload_n 0, 1) := by decide +kernel
theorem dX10_oddsOf_9 : decode cX10_oddsOf 9 = .ok (.iload_n 2, 1) := by decide +kernel
theorem dX10_oddsOf_10 : decode cX10_oddsOf 10 = .ok (.iload_n 1, 1) := by decide +kernel
theorem dX10_oddsOf_11 : decode cX10_oddsOf 11 = .ok (.invokevirtual 145, 3) := by decide +kernel
theorem dX10_oddsOf_14 : decode cX10_oddsOf 14 = .ok (.isub, 1) := by decide +kernel
theorem dX10_oddsOf_15 : decode cX10_oddsOf 15 = .ok (.aload_n 0, 1) := by decide +kernel
theorem dX10_oddsOf_16 : decode cX10_oddsOf 16 = .ok (.getfield 9, 3) := by decide +kernel
theorem dX10_oddsOf_19 : decode cX10_oddsOf 19 = .ok (.iconst 1, 1) := by decide +kernel
theorem dX10_oddsOf_20 : decode cX10_oddsOf 20 = .ok (.iload_n 1, 1) := by decide +kernel
theorem dX10_oddsOf_21 : decode cX10_oddsOf 21 = .ok (.iadd, 1) := by decide +kernel
theorem dX10_oddsOf_22 : decode cX10_oddsOf 22 = .ok (.iaload, 1) := by decide +kernel
theorem dX10_oddsOf_23 : decode cX10_oddsOf 23 = .ok (.aload_n 0, 1) := by decide +kernel
theorem dX10_oddsOf_24 : decode cX10_oddsOf 24 = .ok (.getfield 9, 3) := by decide +kernel
theorem dX10_oddsOf_27 : decode cX10_oddsOf 27 = .ok (.iconst 1, 1) := by decide +kernel
theorem dX10_oddsOf_28 : decode cX10_oddsOf 28 = .ok (.iload_n 2, 1) := by decide +kernel
theorem dX10_oddsOf_29 : decode cX10_oddsOf 29 = .ok (.iadd, 1) := by decide +kernel
theorem dX10_oddsOf_30 : decode cX10_oddsOf 30 = .ok (.iaload, 1) := by decide +kernel
theorem dX10_oddsOf_31 : decode cX10_oddsOf 31 = .ok (.isub, 1) := by decide +kernel
theorem dX10_oddsOf_32 : decode cX10_oddsOf 32 = .ok (.iconst 2, 1) := by decide +kernel
theorem dX10_oddsOf_33 : decode cX10_oddsOf 33 = .ok (.idiv, 1) := by decide +kernel
theorem dX10_oddsOf_34 : decode cX10_oddsOf 34 = .ok (.iadd, 1) := by decide +kernel
theorem dX10_oddsOf_35 : decode cX10_oddsOf 35 = .ok (.istore_n 3, 1) := by decide +kernel
theorem dX10_oddsOf_36 : decode cX10_oddsOf 36 = .ok (.iload_n 3, 1) := by decide +kernel
theorem dX10_oddsOf_37 : decode cX10_oddsOf 37 = .ok (.iconst 1, 1) := by decide +kernel
theorem dX10_oddsOf_38 : decode cX10_oddsOf 38 = .ok (.if_icmp .ge 7, 3) := by decide +kernel
theorem dX10_oddsOf_41 : decode cX10_oddsOf 41 = .ok (.iconst 1, 1) := by decide +kernel
theorem dX10_oddsOf_42 : decode cX10_oddsOf 42 = .ok (.goto 15, 3) := by decide +kernel
theorem dX10_oddsOf_45 : decode cX10_oddsOf 45 = .ok (.iload_n 3, 1) := by decide +kernel
theorem dX10_oddsOf_46 : decode cX10_oddsOf 46 = .ok (.bipush 9, 2) := by decide +kernel
theorem dX10_oddsOf_48 : decode cX10_oddsOf 48 = .ok (.if_icmp .le 8, 3) := by decide +kernel
theorem dX10_oddsOf_51 : decode cX10_oddsOf 51 = .ok (.bipush 9, 2) := by decide +kernel
theorem dX10_oddsOf_53 : decode cX10_oddsOf 53 = .ok (.goto 4, 3) := by decide +kernel
theorem dX10_oddsOf_56 : decode cX10_oddsOf 56 = .ok (.iload_n 3, 1) := by decide +kernel
theorem dX10_oddsOf_57 : decode cX10_oddsOf 57 = .ok (.ireturn, 1) := by decide +kernel
set_option maxRecDepth 20000 in
theorem r_X10_oddsOf : m_Right (yX10_oddsOf, cX10_oddsOf, 4, (some .int)) q_X10_oddsOf := m_right_nd (m_right_nd (m_right_nd (m_right_nd (m_right_nd (m_right_lf ⟨1, dX10_oddsOf_0, rfl, rfl, by decide +kernel⟩) (m_right_lf ⟨1, dX10_oddsOf_1, rfl, rfl, rfl⟩)) (m_right_nd (m_right_lf ⟨1, dX10_oddsOf_2, rfl, rfl, rfl⟩) (m_right_nd (m_right_lf ⟨1, dX10_oddsOf_3, rfl, rfl, rfl⟩) (m_right_lf ⟨3, dX10_oddsOf_4, rfl, rfl, 145, 2, 10, (yX10_pushOf, cX10_pushOf, 8, (some .int)), rfl, me_X10_pushOf, mc_X10_pushOf, Or.inl ⟨(RX10, TX10, 24), rfl, rfl⟩, wd_1089, wd_1091, wd_33, wd_71⟩)))) (m_right_nd (m_right_nd (m_right_lf ⟨1, dX10_oddsOf_7, rfl, rfl⟩) (m_right_lf ⟨1, dX10_oddsOf_8, rfl, rfl, rfl⟩)) (m_right_nd (m_right_lf ⟨1, dX10_oddsOf_9, rfl, rfl, rfl⟩) (m_right_nd (m_right_lf ⟨1, dX10_oddsOf_10, rfl, rfl, rfl⟩) (m_right_lf ⟨3, dX10_oddsOf_11, rfl, rfl, 145, 2, 10, (yX10_pushOf, cX10_pushOf, 8, (some .int)), rfl, me_X10_pushOf, mc_X10_pushOf, Or.inl ⟨(RX10, TX10, 24), rfl, rfl⟩, wd_1089, wd_1091, wd_33, wd_71⟩))))) (m_right_nd (m_right_nd (m_right_nd (m_right_lf ⟨1, dX10_oddsOf_14, rfl, rfl⟩) (m_right_lf ⟨1, dX10_oddsOf_15, rfl, rfl, rfl⟩)) (m_right_nd (m_right_lf ⟨3, dX10_oddsOf_16, rfl, rfl, 10, 1, rfl, Or.inl ⟨(RX10, TX10, 24), rfl, by decide, wd_867⟩⟩) (m_right_nd (m_right_lf ⟨1, dX10_oddsOf_19, rfl, rfl, by decide +kernel⟩) (m_right_lf ⟨1, dX10_oddsOf_20, rfl, rfl, rfl⟩)))) (m_right_nd (m_right_nd (m_right_lf ⟨1, dX10_oddsOf_21, rfl, rfl⟩) (m_right_lf ⟨1, dX10_oddsOf_22, rfl, rfl⟩)) (m_right_nd (m_right_lf ⟨1, dX10_oddsOf_23, rfl, rfl, rfl⟩) (m_right_nd (m_right_lf ⟨3, dX10_oddsOf_24, rfl, rfl, 10, 1, rfl, Or.inl ⟨(RX10, TX10, 24), rfl, by decide, wd_867⟩⟩) (m_right_lf ⟨1, dX10_oddsOf_27, rfl, rfl, by decide +kernel⟩)))))) (m_right_nd (m_right_nd (m_right_nd (m_right_nd (m_right_lf ⟨1, dX10_oddsOf_28, rfl, rfl, rfl⟩) (m_right_lf ⟨1, dX10_oddsOf_29, rfl, rfl⟩)) (m_right_nd (m_right_lf ⟨1, dX10_oddsOf_30, rfl, rfl⟩) (m_right_nd (m_right_lf ⟨1, dX10_oddsOf_31, rfl, rfl⟩) (m_right_lf ⟨1, dX10_oddsOf_32, rfl, rfl, by decide +kernel⟩)))) (m_right_nd (m_right_nd (m_right_lf ⟨1, dX10_oddsOf_33, rfl, rfl⟩) (m_right_lf ⟨1, dX10_oddsOf_34, rfl, rfl⟩)) (m_right_nd (m_right_lf ⟨1, dX10_oddsOf_35, rfl, rfl, rfl⟩) (m_right_nd (m_right_lf ⟨1, dX10_oddsOf_36, rfl, rfl, rfl⟩) (m_right_lf ⟨1, dX10_oddsOf_37, rfl, rfl, by decide +kernel⟩))))) (m_right_nd (m_right_nd (m_right_nd (m_right_lf ⟨3, dX10_oddsOf_38, rfl, rfl, 45, rfl, by decide⟩) (m_right_lf ⟨1, dX10_oddsOf_41, rfl, rfl, by decide +kernel⟩)) (m_right_nd (m_right_lf ⟨3, dX10_oddsOf_42, rfl, 57, rfl, by decide⟩) (m_right_nd (m_right_lf ⟨1, dX10_oddsOf_45, rfl, rfl, rfl⟩) (m_right_lf ⟨2, dX10_oddsOf_46, rfl, rfl, by decide +kernel⟩)))) (m_right_nd (m_right_nd (m_right_lf ⟨3, dX10_oddsOf_48, rfl, rfl, 56, rfl, by decide⟩) (m_right_lf ⟨2, dX10_oddsOf_51, rfl, rfl, by decide +kernel⟩)) (m_right_nd (m_right_lf ⟨3, dX10_oddsOf_53, rfl, 57, rfl, by decide⟩) (m_right_nd (m_right_lf ⟨1, dX10_oddsOf_56, rfl, rfl, rfl⟩) (m_right_lf ⟨1, dX10_oddsOf_57, rfl, 0, .int, rfl, rfl, Or.inl ⟨rfl, rfl⟩⟩))))))
theorem dX10_push_0 : decode cX10_push 0 = .ok (.aload_n 0, 1) := by decide +kernel
theorem dX10_push_1 : decode cX10_push 1 = .ok (.iload_n 1, 1) := by decide +kernel
theorem dX10_push_2 : decode cX10_push 2 = .ok (.invokevirtual 52, 3) := by decide +kernel
theorem dX10_push_5 : decode cX10_push 5 = .ok (.ifCond .eq 11, 3) := by decide +kernel
theorem dX10_push_8 : decode cX10_push 8 = .ok (.aload_n 0, 1) := by decide +kernel
theorem dX10_push_9 : decode cX10_push 9 = .ok (.iload_n 2, 1) := by decide +kernel
theorem dX10_push_10 : decode cX10_push 10 = .ok (.invokevirtual 52, 3) := by decide +kernel
theorem dX10_push_13 : decode cX10_push 13 = .ok (.ifCond .ne 7, 3) := by decide +kernel
theorem dX10_push_16 : decode cX10_push 16 = .ok (.sipush (-10001), 3) := by decide +kernel
theorem dX10_push_19 : decode cX10_push 19 = .ok (.ireturn, 1) := by decide +kernel
theorem dX10_push_20 : decode cX10_push 20 = .ok (.iload_n 1, 1) := by decide +kernel
theorem dX10_push_21 : decode cX10_push 21 = .ok (.iload_n 2, 1) := by decide +kernel
theorem dX10_push_22 : decode cX10_push 22 = .ok (.if_icmp .ne 9, 3) := by decide +kernel
theorem dX10_push_25 : decode cX10_push 25 = .ok (.sipush (-10002), 3) := by decide +kernel
theorem dX10_push_28 : decode cX10_push 28 = .ok (.goto 9, 3) := by decide +kernel
theorem dX10_push_31 : decode cX10_push 31 = .ok (.aload_n 0, 1) := by decide +kernel
theorem dX10_push_32 : decode cX10_push 32 = .ok (.iload_n 1, 1) := by decide +kernel
theorem dX10_push_33 : decode cX10_push 33 = .ok (.iload_n 2, 1) := by decide +kernel
theorem dX10_push_34 : decode cX10_push 34 = .ok (.invokevirtual 145, 3) := by decide +kernel
theorem dX10_push_37 : decode cX10_push 37 = .ok (.ireturn, 1) := by decide +kernel
set_option maxRecDepth 20000 in
theorem r_X10_push : m_Right (yX10_push, cX10_push, 3, (some .int)) q_X10_push := m_right_nd (m_right_nd (m_right_nd (m_right_nd (m_right_lf ⟨1, dX10_push_0, rfl, rfl, rfl⟩) (m_right_lf ⟨1, dX10_push_1, rfl, rfl, rfl⟩)) (m_right_nd (m_right_lf ⟨3, dX10_push_2, rfl, rfl, 119, 1, 10, (yX10_isPlayer, cX10_isPlayer, 2, (some .boolean)), rfl, me_X10_isPlayer, mc_X10_isPlayer, Or.inl ⟨(RX10, TX10, 24), rfl, rfl⟩, wd_1065, wd_1067, wd_31, wd_71⟩) (m_right_nd (m_right_lf ⟨3, dX10_push_5, rfl, rfl, 16, rfl, by decide⟩) (m_right_lf ⟨1, dX10_push_8, rfl, rfl, rfl⟩)))) (m_right_nd (m_right_nd (m_right_lf ⟨1, dX10_push_9, rfl, rfl, rfl⟩) (m_right_lf ⟨3, dX10_push_10, rfl, rfl, 119, 1, 10, (yX10_isPlayer, cX10_isPlayer, 2, (some .boolean)), rfl, me_X10_isPlayer, mc_X10_isPlayer, Or.inl ⟨(RX10, TX10, 24), rfl, rfl⟩, wd_1065, wd_1067, wd_31, wd_71⟩)) (m_right_nd (m_right_lf ⟨3, dX10_push_13, rfl, rfl, 20, rfl, by decide⟩) (m_right_nd (m_right_lf ⟨3, dX10_push_16, rfl, rfl, by decide +kernel⟩) (m_right_lf ⟨1, dX10_push_19, rfl, 0, .int, rfl, rfl, Or.inl ⟨rfl, rfl⟩⟩))))) (m_right_nd (m_right_nd (m_right_nd (m_right_lf ⟨1, dX10_push_20, rfl, rfl, rfl⟩) (m_right_lf ⟨1, dX10_push_21, rfl, rfl, rfl⟩)) (m_right_nd (m_right_lf ⟨3, dX10_push_22, rfl, rfl, 31, rfl, by decide⟩) (m_right_nd (m_right_lf ⟨3, dX10_push_25, rfl, rfl, by decide +kernel⟩) (m_right_lf ⟨3, dX10_push_28, rfl, 37, rfl, by decide⟩)))) (m_right_nd (m_right_nd (m_right_lf ⟨1, dX10_push_31, rfl, rfl, rfl⟩) (m_right_lf ⟨1, dX10_push_32, rfl, rfl, rfl⟩)) (m_right_nd (m_right_lf ⟨1, dX10_push_33, rfl, rfl, rfl⟩) (m_right_nd (m_right_lf ⟨3, dX10_push_34, rfl, rfl, 145, 2, 10, (yX10_pushOf, cX10_pushOf, 8, (some .int)), rfl, me_X10_pushOf, mc_X10_pushOf, Or.inl ⟨(RX10, TX10, 24), rfl, rfl⟩, wd_1089, wd_1091, wd_33, wd_71⟩) (m_right_lf ⟨1, dX10_push_37, rfl, 0, .int, rfl, rfl, Or.inl ⟨rfl, rfl⟩⟩)))))
theorem dX10_odds_0 : decode cX10_odds 0 = .ok (.aload_n 0, 1) := by decide +kernel
theorem dX10_odds_1 : decode cX10_odds 1 = .ok (.iload_n 1, 1) := by decide +kernel
theorem dX10_odds_2 : decode cX10_odds 2 = .ok (.invokevirtual 52, 3) := by decide +kernel
theorem dX10_odds_5 : decode cX10_odds 5 = .ok (.ifCond .eq 11, 3) := by decide +kernel
theorem dX10_odds_8 : decode cX10_odds 8 = .ok (.aload_n 0, 1) := by decide +kernel
theorem dX10_odds_9 : decode cX10_odds 9 = .ok (.iload_n 2, 1) := by decide +kernel
theorem dX10_odds_10 : decode cX10_odds 10 = .ok (.invokevirtual 52, 3) := by decide +kernel
theorem dX10_odds_13 : decode cX10_odds 13 = .ok (.ifCond .ne 5, 3) := by decide +kernel
theorem dX10_odds_16 : decode cX10_odds 16 = .ok (.iconst (-1), 1) := by decide +kernel
theorem dX10_odds_17 : decode cX10_odds 17 = .ok (.ireturn, 1) := by decide +kernel
theorem dX10_odds_18 : decode cX10_odds 18 = .ok (.iload_n 1, 1) := by decide +kernel
theorem dX10_odds_19 : decode cX10_odds 19 = .ok (.iload_n 2, 1) := by decide +kernel
theorem dX10_odds_20 : decode cX10_odds 20 = .ok (.if_icmp .ne 8, 3) := by decide +kernel
theorem dX10_odds_23 : decode cX10_odds 23 = .ok (.bipush (-2), 2) := by decide +kernel
theorem dX10_odds_25 : decode cX10_odds 25 = .ok (.goto 9, 3) := by decide +kernel
theorem dX10_odds_28 : decode cX10_odds 28 = .ok (.aload_n 0, 1) := by decide +kernel
theorem dX10_odds_29 : decode cX10_odds 29 = .ok (.iload_n 1, 1) := by decide +kernel
theorem dX10_odds_30 : decode cX10_odds 30 = .ok (.iload_n 2, 1) := by decide +kernel
theorem dX10_odds_31 : decode cX10_odds 31 = .ok (.invokevirtual 148, 3) := by decide +kernel
theorem dX10_odds_34 : decode cX10_odds 34 = .ok (.ireturn, 1) := by decide +kernel
set_option maxRecDepth 20000 in
theorem r_X10_odds : m_Right (yX10_odds, cX10_odds, 3, (some .int)) q_X10_odds := m_right_nd (m_right_nd (m_right_nd (m_right_nd (m_right_lf ⟨1, dX10_odds_0, rfl, rfl, rfl⟩) (m_right_lf ⟨1, dX10_odds_1, rfl, rfl, rfl⟩)) (m_right_nd (m_right_lf ⟨3, dX10_odds_2, rfl, rfl, 119, 1, 10, (yX10_isPlayer, cX10_isPlayer, 2, (some .boolean)), rfl, me_X10_isPlayer, mc_X10_isPlayer, Or.inl ⟨(RX10, TX10, 24), rfl, rfl⟩, wd_1065, wd_1067, wd_31, wd_71⟩) (m_right_nd (m_right_lf ⟨3, dX10_odds_5, rfl, rfl, 16, rfl, by decide⟩) (m_right_lf ⟨1, dX10_odds_8, rfl, rfl, rfl⟩)))) (m_right_nd (m_right_nd (m_right_lf ⟨1, dX10_odds_9, rfl, rfl, rfl⟩) (m_right_lf ⟨3, dX10_odds_10, rfl, rfl, 119, 1, 10, (yX10_isPlayer, cX10_isPlayer, 2, (some .boolean)), rfl, me_X10_isPlayer, mc_X10_isPlayer, Or.inl ⟨(RX10, TX10, 24), rfl, rfl⟩, wd_1065, wd_1067, wd_31, wd_71⟩)) (m_right_nd (m_right_lf ⟨3, dX10_odds_13, rfl, rfl, 18, rfl, by decide⟩) (m_right_nd (m_right_lf ⟨1, dX10_odds_16, rfl, rfl, by decide +kernel⟩) (m_right_lf ⟨1, dX10_odds_17, rfl, 0, .int, rfl, rfl, Or.inl ⟨rfl, rfl⟩⟩))))) (m_right_nd (m_right_nd (m_right_nd (m_right_lf ⟨1, dX10_odds_18, rfl, rfl, rfl⟩) (m_right_lf ⟨1, dX10_odds_19, rfl, rfl, rfl⟩)) (m_right_nd (m_right_lf ⟨3, dX10_odds_20, rfl, rfl, 28, rfl, by decide⟩) (m_right_nd (m_right_lf ⟨2, dX10_odds_23, rfl, rfl, by decide +kernel⟩) (m_right_lf ⟨3, dX10_odds_25, rfl, 34, rfl, by decide⟩)))) (m_right_nd (m_right_nd (m_right_lf ⟨1, dX10_odds_28, rfl, rfl, rfl⟩) (m_right_lf ⟨1, dX10_odds_29, rfl, rfl, rfl⟩)) (m_right_nd (m_right_lf ⟨1, dX10_odds_30, rfl, rfl, rfl⟩) (m_right_nd (m_right_lf ⟨3, dX10_odds_31, rfl, rfl, 146, 2, 10, (yX10_oddsOf, cX10_oddsOf, 4, (some .int)), rfl, me_X10_oddsOf, mc_X10_oddsOf, Or.inl ⟨(RX10, TX10, 24), rfl, rfl⟩, wd_1101, wd_1103, wd_35, wd_71⟩) (m_right_lf ⟨1, dX10_odds_34, rfl, 0, .int, rfl, rfl, Or.inl ⟨rfl, rfl⟩⟩)))))
theorem dX10_fewer_0 : decode cX10_fewer 0 = .ok (.iload_n 1, 1) := by decide +kernel
theorem dX10_fewer_1 : decode cX10_fewer 1 = .ok (.aload_n 0, 1) := by decide +kernel
theorem dX10_fewer_2 : decode cX10_fewer 2 = .ok (.sipush 174, 3) := by decide +kernel
theorem dX10_fewer_5 : decode cX10_fewer 5 = .ok (.invokevirtual 137, 3) := by decide +kernel
theorem dX10_fewer_8 : decode cX10_fewer 8 = .ok (.isub, 1) := by decide +kernel
theorem dX10_fewer_9 : decode cX10_fewer 9 = .ok (.istore_n 2, 1) := by decide +kernel
theorem dX10_fewer_10 : decode cX10_fewer 10 = .ok (.iload_n 2, 1) := by decide +kernel
theorem dX10_fewer_11 : decode cX10_fewer 11 = .ok (.iconst 1, 1) := by decide +kernel
theorem dX10_fewer_12 : decode cX10_fewer 12 = .ok (.if_icmp .ge 7, 3) := by decide +kernel
theorem dX10_fewer_15 : decode cX10_fewer 15 = .ok (.iconst 1, 1) := by decide +kernel
theorem dX10_fewer_16 : decode cX10_fewer 16 = .ok (.goto 4, 3) := by decide +kernel
theorem dX10_fewer_19 : decode cX10_fewer 19 = .ok (.iload_n 2, 1) := by decide +kernel
theorem dX10_fewer_20 : decode cX10_fewer 20 = .ok (.ireturn, 1) := by decide +kernel
set_option maxRecDepth 20000 in
theorem r_X10_fewer : m_Right (yX10_fewer, cX10_fewer, 3, (some .int)) q_X10_fewer := m_right_nd (m_right_nd (m_right_nd (m_right_lf ⟨1, dX10_fewer_0, rfl, rfl, rfl⟩) (m_right_nd (m_right_lf ⟨1, dX10_fewer_1, rfl, rfl, rfl⟩) (m_right_lf ⟨3, dX10_fewer_2, rfl, rfl, by decide +kernel⟩))) (m_right_nd (m_right_lf ⟨3, dX10_fewer_5, rfl, rfl, 138, 1, 10, (yX10_tellsOf, cX10_tellsOf, 2, (some .int)), rfl, me_X10_tellsOf, mc_X10_tellsOf, Or.inl ⟨(RX10, TX10, 24), rfl, rfl⟩, wd_1081, wd_1083, wd_32, wd_71⟩) (m_right_nd (m_right_lf ⟨1, dX10_fewer_8, rfl, rfl⟩) (m_right_lf ⟨1, dX10_fewer_9, rfl, rfl, rfl⟩)))) (m_right_nd (m_right_nd (m_right_lf ⟨1, dX10_fewer_10, rfl, rfl, rfl⟩) (m_right_nd (m_right_lf ⟨1, dX10_fewer_11, rfl, rfl, by decide +kernel⟩) (m_right_lf ⟨3, dX10_fewer_12, rfl, rfl, 19, rfl, by decide⟩))) (m_right_nd (m_right_nd (m_right_lf ⟨1, dX10_fewer_15, rfl, rfl, by decide +kernel⟩) (m_right_lf ⟨3, dX10_fewer_16, rfl, 20, rfl, by decide⟩)) (m_right_nd (m_right_lf ⟨1, dX10_fewer_19, rfl, rfl, rfl⟩) (m_right_lf ⟨1, dX10_fewer_20, rfl, 0, .int, rfl, rfl, Or.inl ⟨rfl, rfl⟩⟩))))
theorem dX10_moreOf_0 : decode cX10_moreOf 0 = .ok (.iload_n 1, 1) := by decide +kernel
theorem dX10_moreOf_1 : decode cX10_moreOf 1 = .ok (.aload_n 0, 1) := by decide +kernel
theorem dX10_moreOf_2 : decode cX10_moreOf 2 = .ok (.sipush 179, 3) := by decide +kernel
theorem dX10_moreOf_5 : decode cX10_moreOf 5 = .ok (.invokevirtual 137, 3) := by decide +kernel
theorem dX10_moreOf_8 : decode cX10_moreOf 8 = .ok (.iadd, 1) := by decide +kernel
theorem dX10_moreOf_9 : decode cX10_moreOf 9 = .ok (.istore_n 2, 1) := by decide +kernel
theorem dX10_moreOf_10 : decode cX10_moreOf 10 = .ok (.iload_n 2, 1) := by decide +kernel
theorem dX10_moreOf_11 : decode cX10_moreOf 11 = .ok (.bipush 20, 2) := by decide +kernel
theorem dX10_moreOf_13 : decode cX10_moreOf 13 = .ok (.if_icmp .le 8, 3) := by decide +kernel
theorem dX10_moreOf_16 : decode cX10_moreOf 16 = .ok (.bipush 20, 2) := by decide +kernel
theorem dX10_moreOf_18 : decode cX10_moreOf 18 = .ok (.goto 4, 3) := by decide +kernel
theorem dX10_moreOf_21 : decode cX10_moreOf 21 = .ok (.iload_n 2, 1) := by decide +kernel
theorem dX10_moreOf_22 : decode cX10_moreOf 22 = .ok (.ireturn, 1) := by decide +kernel
set_option maxRecDepth 20000 in
theorem r_X10_moreOf : m_Right (yX10_moreOf, cX10_moreOf, 3, (some .int)) q_X10_moreOf := m_right_nd (m_right_nd (m_right_nd (m_right_lf ⟨1, dX10_moreOf_0, rfl, rfl, rfl⟩) (m_right_nd (m_right_lf ⟨1, dX10_moreOf_1, rfl, rfl, rfl⟩) (m_right_lf ⟨3, dX10_moreOf_2, rfl, rfl, by decide +kernel⟩))) (m_right_nd (m_right_lf ⟨3, dX10_moreOf_5, rfl, rfl, 138, 1, 10, (yX10_tellsOf, cX10_tellsOf, 2, (some .int)), rfl, me_X10_tellsOf, mc_X10_tellsOf, Or.inl ⟨(RX10, TX10, 24), rfl, rfl⟩, wd_1081, wd_1083, wd_32, wd_71⟩) (m_right_nd (m_right_lf ⟨1, dX10_moreOf_8, rfl, rfl⟩) (m_right_lf ⟨1, dX10_moreOf_9, rfl, rfl, rfl⟩)))) (m_right_nd (m_right_nd (m_right_lf ⟨1, dX10_moreOf_10, rfl, rfl, rfl⟩) (m_right_nd (m_right_lf ⟨2, dX10_moreOf_11, rfl, rfl, by decide +kernel⟩) (m_right_lf ⟨3, dX10_moreOf_13, rfl, rfl, 21, rfl, by decide⟩))) (m_right_nd (m_right_nd (m_right_lf ⟨2, dX10_moreOf_16, rfl, rfl, by decide +kernel⟩) (m_right_lf ⟨3, dX10_moreOf_18, rfl, 22, rfl, by decide⟩)) (m_right_nd (m_right_lf ⟨1, dX10_moreOf_21, rfl, rfl, rfl⟩) (m_right_lf ⟨1, dX10_moreOf_22, rfl, 0, .int, rfl, rfl, Or.inl ⟨rfl, rfl⟩⟩))))
theorem dX10_plays_0 : decode cX10_plays 0 = .ok (.aload_n 0, 1) := by decide +kernel
theorem dX10_plays_1 : decode cX10_plays 1 = .ok (.getfield 9, 3) := by decide +kernel
theorem dX10_plays_4 : decode cX10_plays 4 = .ok (.iconst 1, 1) := by decide +kernel
theorem dX10_plays_5 : decode cX10_plays 5 = .ok (.iload_n 1, 1) := by decide +kernel
theorem dX10_plays_6 : decode cX10_plays 6 = .ok (.iadd, 1) := by decide +kernel
theorem dX10_plays_7 : decode cX10_plays 7 = .ok (.aload_n 0, 1) := by decide +kernel
theorem dX10_plays_8 : decode cX10_plays 8 = .ok (.aload_n 0, 1) := by decide +kernel
theorem dX10_plays_9 : decode cX10_plays 9 = .ok (.getfield 9, 3) := by decide +kernel
theorem dX10_plays_12 : decode cX10_plays 12 = .ok (.iconst 1, 1) := by decide +kernel
theorem dX10_plays_13 : decode cX10_plays 13 = .ok (.iload_n 1, 1) := by decide +kernel
theorem dX10_plays_14 : decode cX10_plays 14 = .ok (.iadd, 1) := by decide +kernel
theorem dX10_plays_15 : decode cX10_plays 15 = .ok (.iaload, 1) := by decide +kernel
theorem dX10_plays_16 : decode cX10_plays 16 = .ok (.invokevirtual 151, 3) := by decide +kernel
theorem dX10_plays_19 : decode cX10_plays 19 = .ok (.iastore, 1) := by decide +kernel
theorem dX10_plays_20 : decode cX10_plays 20 = .ok (.aload_n 0, 1) := by decide +kernel
theorem dX10_plays_21 : decode cX10_plays 21 = .ok (.getfield 9, 3) := by decide +kernel
theorem dX10_plays_24 : decode cX10_plays 24 = .ok (.iconst 1, 1) := by decide +kernel
theorem dX10_plays_25 : decode cX10_plays 25 = .ok (.iload_n 2, 1) := by decide +kernel
theorem dX10_plays_26 : decode cX10_plays 26 = .ok (.iadd, 1) := by decide +kernel
theorem dX10_plays_27 : decode cX10_plays 27 = .ok (.aload_n 0, 1) := by decide +kernel
theorem dX10_plays_28 : decode cX10_plays 28 = .ok (.aload_n 0, 1) := by decide +kernel
theorem dX10_plays_29 : decode cX10_plays 29 = .ok (.getfield 9, 3) := by decide +kernel
theorem dX10_plays_32 : decode cX10_plays 32 = .ok (.iconst 1, 1) := by decide +kernel
theorem dX10_plays_33 : decode cX10_plays 33 = .ok (.iload_n 2, 1) := by decide +kernel
theorem dX10_plays_34 : decode cX10_plays 34 = .ok (.iadd, 1) := by decide +kernel
theorem dX10_plays_35 : decode cX10_plays 35 = .ok (.iaload, 1) := by decide +kernel
theorem dX10_plays_36 : decode cX10_plays 36 = .ok (.invokevirtual 154, 3) := by decide +kernel
theorem dX10_plays_39 : decode cX10_plays 39 = .ok (.iastore, 1) := by decide +kernel
theorem dX10_plays_40 : decode cX10_plays 40 = .ok (.aload_n 0, 1) := by decide +kernel
theorem dX10_plays_41 : decode cX10_plays 41 = .ok (.getfield 9, 3) := by decide +kernel
theorem dX10_plays_44 : decode cX10_plays 44 = .ok (.iconst 0, 1) := by decide +kernel
theorem dX10_plays_45 : decode cX10_plays 45 = .ok (.dup2, 1) := by decide +kernel
theorem dX10_plays_46 : decode cX10_plays 46 = .ok (.iaload, 1) := by decide +kernel
theorem dX10_plays_47 : decode cX10_plays 47 = .ok (.iconst 1, 1) := by decide +kernel
theorem dX10_plays_48 : decode cX10_plays 48 = .ok (.iadd, 1) := by decide +kernel
theorem dX10_plays_49 : decode cX10_plays 49 = .ok (.iastore, 1) := by decide +kernel
theorem dX10_plays_50 : decode cX10_plays 50 = .ok (.return_, 1) := by decide +kernel
set_option maxRecDepth 20000 in
theorem r_X10_plays : m_Right (yX10_plays, cX10_plays, 3, none) q_X10_plays := m_right_nd (m_right_nd (m_right_nd (m_right_nd (m_right_nd (m_right_lf ⟨1, dX10_plays_0, rfl, rfl, rfl⟩) (m_right_lf ⟨3, dX10_plays_1, rfl, rfl, 10, 1, rfl, Or.inl ⟨(RX10, TX10, 24), rfl, by decide, wd_867⟩⟩)) (m_right_nd (m_right_lf ⟨1, dX10_plays_4, rfl, rfl, by decide +kernel⟩) (m_right_lf ⟨1, dX10_plays_5, rfl, rfl, rfl⟩))) (m_right_nd (m_right_nd (m_right_lf ⟨1, dX10_plays_6, rfl, rfl⟩) (m_right_lf ⟨1, dX10_plays_7, rfl, rfl, rfl⟩)) (m_right_nd (m_right_lf ⟨1, dX10_plays_8, rfl, rfl, rfl⟩) (m_right_nd (m_right_lf ⟨3, dX10_plays_9, rfl, rfl, 10, 1, rfl, Or.inl ⟨(RX10, TX10, 24), rfl, by decide, wd_867⟩⟩) (m_right_lf ⟨1, dX10_plays_12, rfl, rfl, by decide +kernel⟩))))) (m_right_nd (m_right_nd (m_right_nd (m_right_lf ⟨1, dX10_plays_13, rfl, rfl, rfl⟩) (m_right_lf ⟨1, dX10_plays_14, rfl, rfl⟩)) (m_right_nd (m_right_lf ⟨1, dX10_plays_15, rfl, rfl⟩) (m_right_lf ⟨3, dX10_plays_16, rfl, rfl, 149, 1, 10, (yX10_fewer, cX10_fewer, 3, (some .int)), rfl, me_X10_fewer, mc_X10_fewer, Or.inl ⟨(RX10, TX10, 24), rfl, rfl⟩, wd_1113, wd_1115, wd_37, wd_71⟩))) (m_right_nd (m_right_nd (m_right_lf ⟨1, dX10_plays_19, rfl, rfl⟩) (m_right_lf ⟨1, dX10_plays_20, rfl, rfl, rfl⟩)) (m_right_nd (m_right_lf ⟨3, dX10_plays_21, rfl, rfl, 10, 1, rfl, Or.inl ⟨(RX10, TX10, 24), rfl, by decide, wd_867⟩⟩) (m_right_nd (m_right_lf ⟨1, dX10_plays_24, rfl, rfl, by decide +kernel⟩) (m_right_lf ⟨1, dX10_plays_25, rfl, rfl, rfl⟩)))))) (m_right_nd (m_right_nd (m_right_nd (m_right_nd (m_right_lf ⟨1, dX10_plays_26, rfl, rfl⟩) (m_right_lf ⟨1, dX10_plays_27, rfl, rfl, rfl⟩)) (m_right_nd (m_right_lf ⟨1, dX10_plays_28, rfl, rfl, rfl⟩) (m_right_lf ⟨3, dX10_plays_29, rfl, rfl, 10, 1, rfl, Or.inl ⟨(RX10, TX10, 24), rfl, by decide, wd_867⟩⟩))) (m_right_nd (m_right_nd (m_right_lf ⟨1, dX10_plays_32, rfl, rfl, by decide +kernel⟩) (m_right_lf ⟨1, dX10_plays_33, rfl, rfl, rfl⟩)) (m_right_nd (m_right_lf ⟨1, dX10_plays_34, rfl, rfl⟩) (m_right_nd (m_right_lf ⟨1, dX10_plays_35, rfl, rfl⟩) (m_right_lf ⟨3, dX10_plays_36, rfl, rfl, 150, 1, 10, (yX10_moreOf, cX10_moreOf, 3, (some .int)), rfl, me_X10_moreOf, mc_X10_moreOf, Or.inl ⟨(RX10, TX10, 24), rfl, rfl⟩, wd_1117, wd_1119, wd_38, wd_71⟩))))) (m_right_nd (m_right_nd (m_right_nd (m_right_lf ⟨1, dX10_plays_39, rfl, rfl⟩) (m_right_lf ⟨1, dX10_plays_40, rfl, rfl, rfl⟩)) (m_right_nd (m_right_lf ⟨3, dX10_plays_41, rfl, rfl, 10, 1, rfl, Or.inl ⟨(RX10, TX10, 24), rfl, by decide, wd_867⟩⟩) (m_right_nd (m_right_lf ⟨1, dX10_plays_44, rfl, rfl, by decide +kernel⟩) (m_right_lf ⟨1, dX10_plays_45, rfl, rfl⟩)))) (m_right_nd (m_right_nd (m_right_lf ⟨1, dX10_plays_46, rfl, rfl⟩) (m_right_lf ⟨1, dX10_plays_47, rfl, rfl, by decide +kernel⟩)) (m_right_nd (m_right_lf ⟨1, dX10_plays_48, rfl, rfl⟩) (m_right_nd (m_right_lf ⟨1, dX10_plays_49, rfl, rfl⟩) (m_right_lf ⟨1, dX10_plays_50, rfl, rfl⟩))))))
theorem dX10_play_0 : decode cX10_play 0 = .ok (.aload_n 0, 1) := by decide +kernel
theorem dX10_play_1 : decode cX10_play 1 = .ok (.iload_n 1, 1) := by decide +kernel
theorem dX10_play_2 : decode cX10_play 2 = .ok (.invokevirtual 52, 3) := by decide +kernel
theorem dX10_play_5 : decode cX10_play 5 = .ok (.ifCond .eq 11, 3) := by decide +kernel
theorem dX10_play_8 : decode cX10_play 8 = .ok (.aload_n 0, 1) := by decide +kernel
theorem dX10_play_9 : decode cX10_play 9 = .ok (.iload_n 2, 1) := by decide +kernel
theorem dX10_play_10 : decode cX10_play 10 = .ok (.invokevirtual 52, 3) := by decide +kernel
theorem dX10_play_13 : decode cX10_play 13 = .ok (.ifCond .ne 5, 3) := by decide +kernel
theorem dX10_play_16 : decode cX10_play 16 = .ok (.iconst (-1), 1) := by decide +kernel
theorem dX10_play_17 : decode cX10_play 17 = .ok (.ireturn, 1) := by decide +kernel
theorem dX10_play_18 : decode cX10_play 18 = .ok (.iload_n 1, 1) := by decide +kernel
theorem dX10_play_19 : decode cX10_play 19 = .ok (.iload_n 2, 1) := by decide +kernel
theorem dX10_play_20 : decode cX10_play 20 = .ok (.if_icmp .ne 6, 3) := by decide +kernel
theorem dX10_play_23 : decode cX10_play 23 = .ok (.bipush (-2), 2) := by decide +kernel
theorem dX10_play_25 : decode cX10_play 25 = .ok (.ireturn, 1) := by decide +kernel
theorem dX10_play_26 : decode cX10_play 26 = .ok (.aload_n 0, 1) := by decide +kernel
theorem dX10_play_27 : decode cX10_play 27 = .ok (.getfield 9, 3) := by decide +kernel
theorem dX10_play_30 : decode cX10_play 30 = .ok (.iconst 0, 1) := by decide +kernel
theorem dX10_play_31 : decode cX10_play 31 = .ok (.iaload, 1) := by decide +kernel
theorem dX10_play_32 : decode cX10_play 32 = .ok (.sipush 9999, 3) := by decide +kernel
theorem dX10_play_35 : decode cX10_play 35 = .ok (.if_icmp .ne 6, 3) := by decide +kernel
theorem dX10_play_38 : decode cX10_play 38 = .ok (.bipush (-3), 2) := by decide +kernel
theorem dX10_play_40 : decode cX10_play 40 = .ok (.ireturn, 1) := by decide +kernel
theorem dX10_play_41 : decode cX10_play 41 = .ok (.aload_n 0, 1) := by decide +kernel
theorem dX10_play_42 : decode cX10_play 42 = .ok (.iload_n 3, 1) := by decide +kernel
theorem dX10_play_43 : decode cX10_play 43 = .ok (.ifCond .eq 7, 3) := by decide +kernel
theorem dX10_play_46 : decode cX10_play 46 = .ok (.iload_n 1, 1) := by decide +kernel
theorem dX10_play_47 : decode cX10_play 47 = .ok (.goto 4, 3) := by decide +kernel
theorem dX10_play_50 : decode cX10_play 50 = .ok (.iload_n 2, 1) := by decide +kernel
theorem dX10_play_51 : decode cX10_play 51 = .ok (.iload_n 3, 1) := by decide +kernel
theorem dX10_play_52 : decode cX10_play 52 = .ok (.ifCond .eq 7, 3) := by decide +kernel
theorem dX10_play_55 : decode cX10_play 55 = .ok (.iload_n 2, 1) := by decide +kernel
theorem dX10_play_56 : decode cX10_play 56 = .ok (.goto 4, 3) := by decide +kernel
theorem dX10_play_59 : decode cX10_play 59 = .ok (.iload_n 1, 1) := by decide +kernel
theorem dX10_play_60 : decode cX10_play 60 = .ok (.invokevirtual 157, 3) := by decide +kernel
theorem dX10_play_63 : decode cX10_play 63 = .ok (.aload_n 0, 1) := by decide +kernel
theorem dX10_play_64 : decode cX10_play 64 = .ok (.getfield 9, 3) := by decide +kernel
theorem dX10_play_67 : decode cX10_play 67 = .ok (.iconst 1, 1) := by decide +kernel
theorem dX10_play_68 : decode cX10_play 68 = .ok (.iload_n 1, 1) := by decide +kernel
theorem dX10_play_69 : decode cX10_play 69 = .ok (.iadd, 1) := by decide +kernel
theorem dX10_play_70 : decode cX10_play 70 = .ok (.iaload, 1) := by decide +kernel
theorem dX10_play_71 : decode cX10_play 71 = .ok (.ireturn, 1) := by decide +kernel
set_option maxRecDepth 20000 in
theorem r_X10_play : m_Right (yX10_play, cX10_play, 4, (some .int)) q_X10_play := m_right_nd (m_right_nd (m_right_nd (m_right_nd (m_right_nd (m_right_lf ⟨1, dX10_play_0, rfl, rfl, rfl⟩) (m_right_lf ⟨1, dX10_play_1, rfl, rfl, rfl⟩)) (m_right_nd (m_right_lf ⟨3, dX10_play_2, rfl, rfl, 119, 1, 10, (yX10_isPlayer, cX10_isPlayer, 2, (some .boolean)), rfl, me_X10_isPlayer, mc_X10_isPlayer, Or.inl ⟨(RX10, TX10, 24), rfl, rfl⟩, wd_1065, wd_1067, wd_31, wd_71⟩) (m_right_nd (m_right_lf ⟨3, dX10_play_5, rfl, rfl, 16, rfl, by decide⟩) (m_right_lf ⟨1, dX10_play_8, rfl, rfl, rfl⟩)))) (m_right_nd (m_right_nd (m_right_lf ⟨1, dX10_play_9, rfl, rfl, rfl⟩) (m_right_lf ⟨3, dX10_play_10, rfl, rfl, 119, 1, 10, (yX10_isPlayer, cX10_isPlayer, 2, (some .boolean)), rfl, me_X10_isPlayer, mc_X10_isPlayer, Or.inl ⟨(RX10, TX10, 24), rfl, rfl⟩, wd_1065, wd_1067, wd_31, wd_71⟩)) (m_right_nd (m_right_lf ⟨3, dX10_play_13, rfl, rfl, 18, rfl, by decide⟩) (m_right_nd (m_right_lf ⟨1, dX10_play_16, rfl, rfl, by decide +kernel⟩) (m_right_lf ⟨1, dX10_play_17, rfl, 0, .int, rfl, rfl, Or.inl ⟨rfl, rfl⟩⟩))))) (m_right_nd (m_right_nd (m_right_nd (m_right_lf ⟨1, dX10_play_18, rfl, rfl, rfl⟩) (m_right_lf ⟨1, dX10_play_19, rfl, rfl, rfl⟩)) (m_right_nd (m_right_lf ⟨3, dX10_play_20, rfl, rfl, 26, rfl, by decide⟩) (m_right_nd (m_right_lf ⟨2, dX10_play_23, rfl, rfl, by decide +kernel⟩) (m_right_lf ⟨1, dX10_play_25, rfl, 0, .int, rfl, rfl, Or.inl ⟨rfl, rfl⟩⟩)))) (m_right_nd (m_right_nd (m_right_lf ⟨1, dX10_play_26, rfl, rfl, rfl⟩) (m_right_nd (m_right_lf ⟨3, dX10_play_27, rfl, rfl, 10, 1, rfl, Or.inl ⟨(RX10, TX10, 24), rfl, by decide, wd_867⟩⟩) (m_right_lf ⟨1, dX10_play_30, rfl, rfl, by decide +kernel⟩))) (m_right_nd (m_right_lf ⟨1, dX10_play_31, rfl, rfl⟩) (m_right_nd (m_right_lf ⟨3, dX10_play_32, rfl, rfl, by decide +kernel⟩) (m_right_lf ⟨3, dX10_play_35, rfl, rfl, 41, rfl, by decide⟩)))))) (m_right_nd (m_right_nd (m_right_nd (m_right_nd (m_right_lf ⟨2, dX10_play_38, rfl, rfl, by decide +kernel⟩) (m_right_lf ⟨1, dX10_play_40, rfl, 0, .int, rfl, rfl, Or.inl ⟨rfl, rfl⟩⟩)) (m_right_nd (m_right_lf ⟨1, dX10_play_41, rfl, rfl, rfl⟩) (m_right_nd (m_right_lf ⟨1, dX10_play_42, rfl, rfl, rfl⟩) (m_right_lf ⟨3, dX10_play_43, rfl, rfl, 50, rfl, by decide⟩)))) (m_right_nd (m_right_nd (m_right_lf ⟨1, dX10_play_46, rfl, rfl, rfl⟩) (m_right_lf ⟨3, dX10_play_47, rfl, 51, rfl, by decide⟩)) (m_right_nd (m_right_lf ⟨1, dX10_play_50, rfl, rfl, rfl⟩) (m_right_nd (m_right_lf ⟨1, dX10_play_51, rfl, rfl, rfl⟩) (m_right_lf ⟨3, dX10_play_52, rfl, rfl, 59, rfl, by decide⟩))))) (m_right_nd (m_right_nd (m_right_nd (m_right_lf ⟨1, dX10_play_55, rfl, rfl, rfl⟩) (m_right_lf ⟨3, dX10_play_56, rfl, 60, rfl, by decide⟩)) (m_right_nd (m_right_lf ⟨1, dX10_play_59, rfl, rfl, rfl⟩) (m_right_nd (m_right_lf ⟨3, dX10_play_60, rfl, rfl, 151, 2, 10, (yX10_plays, cX10_plays, 3, none), rfl, me_X10_plays, mc_X10_plays, Or.inl ⟨(RX10, TX10, 24), rfl, rfl⟩, wd_1109, wd_1111, wd_36, wd_71⟩) (m_right_lf ⟨1, dX10_play_63, rfl, rfl, rfl⟩)))) (m_right_nd (m_right_nd (m_right_lf ⟨3, dX10_play_64, rfl, rfl, 10, 1, rfl, Or.inl ⟨(RX10, TX10, 24), rfl, by decide, wd_867⟩⟩) (m_right_nd (m_right_lf ⟨1, dX10_play_67, rfl, rfl, by decide +kernel⟩) (m_right_lf ⟨1, dX10_play_68, rfl, rfl, rfl⟩))) (m_right_nd (m_right_lf ⟨1, dX10_play_69, rfl, rfl⟩) (m_right_nd (m_right_lf ⟨1, dX10_play_70, rfl, rfl⟩) (m_right_lf ⟨1, dX10_play_71, rfl, 0, .int, rfl, rfl, Or.inl ⟨rfl, rfl⟩⟩))))))
theorem dX10_tens_0 : decode cX10_tens 0 = .ok (.lconst 1, 1) := by decide +kernel
theorem dX10_tens_1 : decode cX10_tens 1 = .ok (.lstore_n 1, 1) := by decide +kernel
theorem dX10_tens_2 : decode cX10_tens 2 = .ok (.iconst 0, 1) := by decide +kernel
theorem dX10_tens_3 : decode cX10_tens 3 = .ok (.istore_n 3, 1) := by decide +kernel
theorem dX10_tens_4 : decode cX10_tens 4 = .ok (.iload_n 3, 1) := by decide +kernel
theorem dX10_tens_5 : decode cX10_tens 5 = .ok (.iload_n 0, 1) := by decide +kernel
theorem dX10_tens_6 : decode cX10_tens 6 = .ok (.if_icmp .ge 15, 3) := by decide +kernel
theorem dX10_tens_9 : decode cX10_tens 9 = .ok (.lload_n 1, 1) := by decide +kernel
theorem dX10_tens_10 : decode cX10_tens 10 = .ok (.ldc2_w 161, 3) := by decide +kernel
theorem dX10_tens_13 : decode cX10_tens 13 = .ok (.lmul, 1) := by decide +kernel
theorem dX10_tens_14 : decode cX10_tens 14 = .ok (.lstore_n 1, 1) := by decide +kernel
theorem dX10_tens_15 : decode cX10_tens 15 = .ok (.iinc 3 1, 3) := by decide +kernel
theorem dX10_tens_18 : decode cX10_tens 18 = .ok (.goto (-14), 3) := by decide +kernel
theorem dX10_tens_21 : decode cX10_tens 21 = .ok (.lload_n 1, 1) := by decide +kernel
theorem dX10_tens_22 : decode cX10_tens 22 = .ok (.lreturn, 1) := by decide +kernel
set_option maxRecDepth 20000 in
theorem r_X10_tens : m_Right (yX10_tens, cX10_tens, 4, (some .long)) q_X10_tens := m_right_nd (m_right_nd (m_right_nd (m_right_lf ⟨1, dX10_tens_0, rfl, rfl, by decide +kernel⟩) (m_right_nd (m_right_lf ⟨1, dX10_tens_1, rfl, rfl, rfl⟩) (m_right_lf ⟨1, dX10_tens_2, rfl, rfl, by decide +kernel⟩))) (m_right_nd (m_right_nd (m_right_lf ⟨1, dX10_tens_3, rfl, rfl, rfl⟩) (m_right_lf ⟨1, dX10_tens_4, rfl, rfl, rfl⟩)) (m_right_nd (m_right_lf ⟨1, dX10_tens_5, rfl, rfl, rfl⟩) (m_right_lf ⟨3, dX10_tens_6, rfl, rfl, 21, rfl, by decide⟩)))) (m_right_nd (m_right_nd (m_right_nd (m_right_lf ⟨1, dX10_tens_9, rfl, rfl, rfl⟩) (m_right_lf ⟨3, dX10_tens_10, rfl, rfl, _, rfl, wd_1146⟩)) (m_right_nd (m_right_lf ⟨1, dX10_tens_13, rfl, rfl⟩) (m_right_lf ⟨1, dX10_tens_14, rfl, rfl, rfl⟩))) (m_right_nd (m_right_nd (m_right_lf ⟨3, dX10_tens_15, rfl, rfl, rfl, by decide +kernel⟩) (m_right_lf ⟨3, dX10_tens_18, rfl, 4, rfl, by decide⟩)) (m_right_nd (m_right_lf ⟨1, dX10_tens_21, rfl, rfl, rfl⟩) (m_right_lf ⟨1, dX10_tens_22, rfl, rfl⟩))))
theorem dX10_beginsTwo_0 : decode cX10_beginsTwo 0 = .ok (.iconst 0, 1) := by decide +kernel
theorem dX10_beginsTwo_1 : decode cX10_beginsTwo 1 = .ok (.istore_n 3, 1) := by decide +kernel
theorem dX10_beginsTwo_2 : decode cX10_beginsTwo 2 = .ok (.iload_n 3, 1) := by decide +kernel
theorem dX10_beginsTwo_3 : decode cX10_beginsTwo 3 = .ok (.sipush 5733, 3) := by decide +kernel
theorem dX10_beginsTwo_6 : decode cX10_beginsTwo 6 = .ok (.if_icmp .ge 16, 3) := by decide +kernel
theorem dX10_beginsTwo_9 : decode cX10_beginsTwo 9 = .ok (.aload_n 0, 1) := by decide +kernel
theorem dX10_beginsTwo_10 : decode cX10_beginsTwo 10 = .ok (.getfield 28, 3) := by decide +kernel
theorem dX10_beginsTwo_13 : decode cX10_beginsTwo 13 = .ok (.iload_n 3, 1) := by decide +kernel
theorem dX10_beginsTwo_14 : decode cX10_beginsTwo 14 = .ok (.lconst 0, 1) := by decide +kernel
theorem dX10_beginsTwo_15 : decode cX10_beginsTwo 15 = .ok (.lastore, 1) := by decide +kernel
theorem dX10_beginsTwo_16 : decode cX10_beginsTwo 16 = .ok (.iinc 3 1, 3) := by decide +kernel
theorem dX10_beginsTwo_19 : decode cX10_beginsTwo 19 = .ok (.goto (-17), 3) := by decide +kernel
theorem dX10_beginsTwo_22 : decode cX10_beginsTwo 22 = .ok (.aload_n 0, 1) := by decide +kernel
theorem dX10_beginsTwo_23 : decode cX10_beginsTwo 23 = .ok (.getfield 28, 3) := by decide +kernel
theorem dX10_beginsTwo_26 : decode cX10_beginsTwo 26 = .ok (.bipush 21, 2) := by decide +kernel
theorem dX10_beginsTwo_28 : decode cX10_beginsTwo 28 = .ok (.aload_n 0, 1) := by decide +kernel
theorem dX10_beginsTwo_29 : decode cX10_beginsTwo 29 = .ok (.getfield 9, 3) := by decide +kernel
theorem dX10_beginsTwo_32 : decode cX10_beginsTwo 32 = .ok (.iconst 1, 1) := by decide +kernel
theorem dX10_beginsTwo_33 : decode cX10_beginsTwo 33 = .ok (.iload_n 1, 1) := by decide +kernel
theorem dX10_beginsTwo_34 : decode cX10_beginsTwo 34 = .ok (.iadd, 1) := by decide +kernel
theorem dX10_beginsTwo_35 : decode cX10_beginsTwo 35 = .ok (.iaload, 1) := by decide +kernel
theorem dX10_beginsTwo_36 : decode cX10_beginsTwo 36 = .ok (.imul, 1) := by decide +kernel
theorem dX10_beginsTwo_37 : decode cX10_beginsTwo 37 = .ok (.aload_n 0, 1) := by decide +kernel
theorem dX10_beginsTwo_38 : decode cX10_beginsTwo 38 = .ok (.getfield 9, 3) := by decide +kernel
theorem dX10_beginsTwo_41 : decode cX10_beginsTwo 41 = .ok (.iconst 1, 1) := by decide +kernel
theorem dX10_beginsTwo_42 : decode cX10_beginsTwo 42 = .ok (.iload_n 2, 1) := by decide +kernel
theorem dX10_beginsTwo_43 : decode cX10_beginsTwo 43 = .ok (.iadd, 1) := by decide +kernel
theorem dX10_beginsTwo_44 : decode cX10_beginsTwo 44 = .ok (.iaload, 1) := by decide +kernel
theorem dX10_beginsTwo_45 : decode cX10_beginsTwo 45 = .ok (.iadd, 1) := by decide +kernel
theorem dX10_beginsTwo_46 : decode cX10_beginsTwo 46 = .ok (.lconst 1, 1) := by decide +kernel
theorem dX10_beginsTwo_47 : decode cX10_beginsTwo 47 = .ok (.lastore, 1) := by decide +kernel
theorem dX10_beginsTwo_48 : decode cX10_beginsTwo 48 = .ok (.aload_n 0, 1) := by decide +kernel
theorem dX10_beginsTwo_49 : decode cX10_beginsTwo 49 = .ok (.lconst 0, 1) := by decide +kernel
theorem dX10_beginsTwo_50 : decode cX10_beginsTwo 50 = .ok (.putfield 163, 3) := by decide +kernel
theorem dX10_beginsTwo_53 : decode cX10_beginsTwo 53 = .ok (.return_, 1) := by decide +kernel
set_option maxRecDepth 20000 in
theorem r_X10_beginsTwo : m_Right (yX10_beginsTwo, cX10_beginsTwo, 4, none) q_X10_beginsTwo := m_right_nd (m_right_nd (m_right_nd (m_right_nd (m_right_nd (m_right_lf ⟨1, dX10_beginsTwo_0, rfl, rfl, by decide +kernel⟩) (m_right_lf ⟨1, dX10_beginsTwo_1, rfl, rfl, rfl⟩)) (m_right_nd (m_right_lf ⟨1, dX10_beginsTwo_2, rfl, rfl, rfl⟩) (m_right_lf ⟨3, dX10_beginsTwo_3, rfl, rfl, by decide +kernel⟩))) (m_right_nd (m_right_nd (m_right_lf ⟨3, dX10_beginsTwo_6, rfl, rfl, 22, rfl, by decide⟩) (m_right_lf ⟨1, dX10_beginsTwo_9, rfl, rfl, rfl⟩)) (m_right_nd (m_right_lf ⟨3, dX10_beginsTwo_10, rfl, rfl, 10, 12, rfl, Or.inl ⟨(RX10, TX10, 24), rfl, by decide, wd_878⟩⟩) (m_right_lf ⟨1, dX10_beginsTwo_13, rfl, rfl, rfl⟩)))) (m_right_nd (m_right_nd (m_right_nd (m_right_lf ⟨1, dX10_beginsTwo_14, rfl, rfl, by decide +kernel⟩) (m_right_lf ⟨1, dX10_beginsTwo_15, rfl, rfl⟩)) (m_right_nd (m_right_lf ⟨3, dX10_beginsTwo_16, rfl, rfl, rfl, by decide +kernel⟩) (m_right_lf ⟨3, dX10_beginsTwo_19, rfl, 2, rfl, by decide⟩))) (m_right_nd (m_right_nd (m_right_lf ⟨1, dX10_beginsTwo_22, rfl, rfl, rfl⟩) (m_right_lf ⟨3, dX10_beginsTwo_23, rfl, rfl, 10, 12, rfl, Or.inl ⟨(RX10, TX10, 24), rfl, by decide, wd_878⟩⟩)) (m_right_nd (m_right_lf ⟨2, dX10_beginsTwo_26, rfl, rfl, by decide +kernel⟩) (m_right_nd (m_right_lf ⟨1, dX10_beginsTwo_28, rfl, rfl, rfl⟩) (m_right_lf ⟨3, dX10_beginsTwo_29, rfl, rfl, 10, 1, rfl, Or.inl ⟨(RX10, TX10, 24), rfl, by decide, wd_867⟩⟩)))))) (m_right_nd (m_right_nd (m_right_nd (m_right_nd (m_right_lf ⟨1, dX10_beginsTwo_32, rfl, rfl, by decide +kernel⟩) (m_right_lf ⟨1, dX10_beginsTwo_33, rfl, rfl, rfl⟩)) (m_right_nd (m_right_lf ⟨1, dX10_beginsTwo_34, rfl, rfl⟩) (m_right_lf ⟨1, dX10_beginsTwo_35, rfl, rfl⟩))) (m_right_nd (m_right_nd (m_right_lf ⟨1, dX10_beginsTwo_36, rfl, rfl⟩) (m_right_lf ⟨1, dX10_beginsTwo_37, rfl, rfl, rfl⟩)) (m_right_nd (m_right_lf ⟨3, dX10_beginsTwo_38, rfl, rfl, 10, 1, rfl, Or.inl ⟨(RX10, TX10, 24), rfl, by decide, wd_867⟩⟩) (m_right_nd (m_right_lf ⟨1, dX10_beginsTwo_41, rfl, rfl, by decide +kernel⟩) (m_right_lf ⟨1, dX10_beginsTwo_42, rfl, rfl, rfl⟩))))) (m_right_nd (m_right_nd (m_right_nd (m_right_lf ⟨1, dX10_beginsTwo_43, rfl, rfl⟩) (m_right_lf ⟨1, dX10_beginsTwo_44, rfl, rfl⟩)) (m_right_nd (m_right_lf ⟨1, dX10_beginsTwo_45, rfl, rfl⟩) (m_right_lf ⟨1, dX10_beginsTwo_46, rfl, rfl, by decide +kernel⟩))) (m_right_nd (m_right_nd (m_right_lf ⟨1, dX10_beginsTwo_47, rfl, rfl⟩) (m_right_lf ⟨1, dX10_beginsTwo_48, rfl, rfl, rfl⟩)) (m_right_nd (m_right_lf ⟨1, dX10_beginsTwo_49, rfl, rfl, by decide +kernel⟩) (m_right_nd (m_right_lf ⟨3, dX10_beginsTwo_50, rfl, rfl, 10, 14, 1, (RX10, TX10, 24), rfl, rfl, by decide, wd_880, Or.inl rfl, tyX10 14, tyX10_ok 14 (by decide), Or.inr (Or.inl ⟨rfl, rfl⟩)⟩) (m_right_lf ⟨1, dX10_beginsTwo_53, rfl, rfl⟩))))))
theorem dX10_gameOn_0 : decode cX10_gameOn 0 = .ok (.iconst 0, 1) := by decide +kernel
theorem dX10_gameOn_1 : decode cX10_gameOn 1 = .ok (.istore 4, 2) := by decide +kernel
theorem dX10_gameOn_3 : decode cX10_gameOn 3 = .ok (.iload 4, 2) := by decide +kernel
theorem dX10_gameOn_5 : decode cX10_gameOn 5 = .ok (.sipush 5733, 3) := by decide +kernel
theorem dX10_gameOn_8 : decode cX10_gameOn 8 = .ok (.if_icmp .ge 17, 3) := by decide +kernel
theorem dX10_gameOn_11 : decode cX10_gameOn 11 = .ok (.aload_n 0, 1) := by decide +kernel
theorem dX10_gameOn_12 : decode cX10_gameOn 12 = .ok (.getfield 32, 3) := by decide +kernel
theorem dX10_gameOn_15 : decode cX10_gameOn 15 = .ok (.iload 4, 2) := by decide +kernel
theorem dX10_gameOn_17 : decode cX10_gameOn 17 = .ok (.lconst 0, 1) := by decide +kernel
theorem dX10_gameOn_18 : decode cX10_gameOn 18 = .ok (.lastore, 1) := by decide +kernel
theorem dX10_gameOn_19 : decode cX10_gameOn 19 = .ok (.iinc 4 1, 3) := by decide +kernel
theorem dX10_gameOn_22 : decode cX10_gameOn 22 = .ok (.goto (-19), 3) := by decide +kernel
theorem dX10_gameOn_25 : decode cX10_gameOn 25 = .ok (.aload_n 0, 1) := by decide +kernel
theorem dX10_gameOn_26 : decode cX10_gameOn 26 = .ok (.dup, 1) := by decide +kernel
theorem dX10_gameOn_27 : decode cX10_gameOn 27 = .ok (.getfield 163, 3) := by decide +kernel
theorem dX10_gameOn_30 : decode cX10_gameOn 30 = .ok (.ldc2_w 161, 3) := by decide +kernel
theorem dX10_gameOn_33 : decode cX10_gameOn 33 = .ok (.lmul, 1) := by decide +kernel
theorem dX10_gameOn_34 : decode cX10_gameOn 34 = .ok (.putfield 163, 3) := by decide +kernel
theorem dX10_gameOn_37 : decode cX10_gameOn 37 = .ok (.iconst 0, 1) := by decide +kernel
theorem dX10_gameOn_38 : decode cX10_gameOn 38 = .ok (.istore 4, 2) := by decide +kernel
theorem dX10_gameOn_40 : decode cX10_gameOn 40 = .ok (.iload 4, 2) := by decide +kernel
theorem dX10_gameOn_42 : decode cX10_gameOn 42 = .ok (.sipush 5733, 3) := by decide +kernel
theorem dX10_gameOn_45 : decode cX10_gameOn 45 = .ok (.if_icmp .ge 263, 3) := by decide +kernel
theorem dX10_gameOn_48 : decode cX10_gameOn 48 = .ok (.aload_n 0, 1) := by decide +kernel
theorem dX10_gameOn_49 : decode cX10_gameOn 49 = .ok (.getfield 28, 3) := by decide +kernel
theorem dX10_gameOn_52 : decode cX10_gameOn 52 = .ok (.iload 4, 2) := by decide +kernel
theorem dX10_gameOn_54 : decode cX10_gameOn 54 = .ok (.laload, 1) := by decide +kernel
theorem dX10_gameOn_55 : decode cX10_gameOn 55 = .ok (.lconst 0, 1) := by decide +kernel
theorem dX10_gameOn_56 : decode cX10_gameOn 56 = .ok (.lcmp, 1) := by decide +kernel
theorem dX10_gameOn_57 : decode cX10_gameOn 57 = .ok (.ifCond .le 245, 3) := by decide +kernel
theorem dX10_gameOn_60 : decode cX10_gameOn 60 = .ok (.iload 4, 2) := by decide +kernel
theorem dX10_gameOn_62 : decode cX10_gameOn 62 = .ok (.sipush 441, 3) := by decide +kernel
theorem dX10_gameOn_65 : decode cX10_gameOn 65 = .ok (.idiv, 1) := by decide +kernel
theorem dX10_gameOn_66 : decode cX10_gameOn 66 = .ok (.istore 5, 2) := by decide +kernel
theorem dX10_gameOn_68 : decode cX10_gameOn 68 = .ok (.aload_n 0, 1) := by decide +kernel
theorem dX10_gameOn_69 : decode cX10_gameOn 69 = .ok (.getfield 9, 3) := by decide +kernel
theorem dX10_gameOn_72 : decode cX10_gameOn 72 = .ok (.iconst 1, 1) := by decide +kernel
theorem dX10_gameOn_73 : decode cX10_gameOn 73 = .ok (.iload_n 1, 1) := by decide +kernel
theorem dX10_gameOn_74 : decode cX10_gameOn 74 = .ok (.iadd, 1) := by decide +kernel
theorem dX10_gameOn_75 : decode cX10_gameOn 75 = .ok (.iload 4, 2) := by decide +kernel
theorem dX10_gameOn_77 : decode cX10_gameOn 77 = .ok (.bipush 21, 2) := by decide +kernel
theorem dX10_gameOn_79 : decode cX10_gameOn 79 = .ok (.idiv, 1) := by decide +kernel
theorem dX10_gameOn_80 : decode cX10_gameOn 80 = .ok (.bipush 21, 2) := by decide +kernel
theorem dX10_gameOn_82 : decode cX10_gameOn 82 = .ok (.irem, 1) := by decide +kernel
theorem dX10_gameOn_83 : decode cX10_gameOn 83 = .ok (.iastore, 1) := by decide +kernel
theorem dX10_gameOn_84 : decode cX10_gameOn 84 = .ok (.aload_n 0, 1) := by decide +kernel
theorem dX10_gameOn_85 : decode cX10_gameOn 85 = .ok (.getfield 9, 3) := by decide +kernel
theorem dX10_gameOn_88 : decode cX10_gameOn 88 = .ok (.iconst 1, 1) := by decide +kernel
theorem dX10_gameOn_89 : decode cX10_gameOn 89 = .ok (.iload_n 2, 1) := by decide +kernel
theorem dX10_gameOn_90 : decode cX10_gameOn 90 = .ok (.iadd, 1) := by decide +kernel
theorem dX10_gameOn_91 : decode cX10_gameOn 91 = .ok (.iload 4, 2) := by decide +kernel
theorem dX10_gameOn_93 : decode cX10_gameOn 93 = .ok (.bipush 21, 2) := by decide +kernel
theorem dX10_gameOn_95 : decode cX10_gameOn 95 = .ok (.irem, 1) := by decide +kernel
theorem dX10_gameOn_96 : decode cX10_gameOn 96 = .ok (.iastore, 1) := by decide +kernel
theorem dX10_gameOn_97 : decode cX10_gameOn 97 = .ok (.iload_n 3, 1) := by decide +kernel
theorem dX10_gameOn_98 : decode cX10_gameOn 98 = .ok (.ifCond .eq 39, 3) := by decide +kernel
theorem dX10_gameOn_101 : decode cX10_gameOn 101 = .ok (.aload_n 0, 1) := by decide +kernel
theorem dX10_gameOn_102 : decode cX10_gameOn 102 = .ok (.getfield 9, 3) := by decide +kernel
theorem dX10_gameOn_105 : decode cX10_gameOn 105 = .ok (.iconst 1, 1) := by decide +kernel
theorem dX10_gameOn_106 : decode cX10_gameOn 106 = .ok (.iload_n 1, 1) := by decide +kernel
theorem dX10_gameOn_107 : decode cX10_gameOn 107 = .ok (.iadd, 1) := by decide +kernel
theorem dX10_gameOn_108 : decode cX10_gameOn 108 = .ok (.iaload, 1) := by decide +kernel
theorem dX10_gameOn_109 : decode cX10_gameOn 109 = .ok (.iconst 1, 1) := by decide +kernel
theorem dX10_gameOn_110 : decode cX10_gameOn 110 = .ok (.if_icmp .ne 27, 3) := by decide +kernel
theorem dX10_gameOn_113 : decode cX10_gameOn 113 = .ok (.aload_n 0, 1) := by decide +kernel
theorem dX10_gameOn_114 : decode cX10_gameOn 114 = .ok (.getfield 32, 3) := by decide +kernel
theorem dX10_gameOn_117 : decode cX10_gameOn 117 = .ok (.iload 4, 2) := by decide +kernel
theorem dX10_gameOn_119 : decode cX10_gameOn 119 = .ok (.dup2, 1) := by decide +kernel
theorem dX10_gameOn_120 : decode cX10_gameOn 120 = .ok (.laload, 1) := by decide +kernel
theorem dX10_gameOn_121 : decode cX10_gameOn 121 = .ok (.ldc2_w 161, 3) := by decide +kernel
theorem dX10_gameOn_124 : decode cX10_gameOn 124 = .ok (.aload_n 0, 1) := by decide +kernel
theorem dX10_gameOn_125 : decode cX10_gameOn 125 = .ok (.getfield 28, 3) := by decide +kernel
theorem dX10_gameOn_128 : decode cX10_gameOn 128 = .ok (.iload 4, 2) := by decide +kernel
theorem dX10_gameOn_130 : decode cX10_gameOn 130 = .ok (.laload, 1) := by decide +kernel
theorem dX10_gameOn_131 : decode cX10_gameOn 131 = .ok (.lmul, 1) := by decide +kernel
theorem dX10_gameOn_132 : decode cX10_gameOn 132 = .ok (.ladd, 1) := by decide +kernel
theorem dX10_gameOn_133 : decode cX10_gameOn 133 = .ok (.lastore, 1) := by decide +kernel
theorem dX10_gameOn_134 : decode cX10_gameOn 134 = .ok (.goto 168, 3) := by decide +kernel
theorem dX10_gameOn_137 : decode cX10_gameOn 137 = .ok (.aload_n 0, 1) := by decide +kernel
theorem dX10_gameOn_138 : decode cX10_gameOn 138 = .ok (.iload_n 1, 1) := by decide +kernel
theorem dX10_gameOn_139 : decode cX10_gameOn 139 = .ok (.iload_n 2, 1) := by decide +kernel
theorem dX10_gameOn_140 : decode cX10_gameOn 140 = .ok (.invokevirtual 148, 3) := by decide +kernel
theorem dX10_gameOn_143 : decode cX10_gameOn 143 = .ok (.istore 6, 2) := by decide +kernel
theorem dX10_gameOn_145 : decode cX10_gameOn 145 = .ok (.aload_n 0, 1) := by decide +kernel
theorem dX10_gameOn_146 : decode cX10_gameOn 146 = .ok (.getfield 32, 3) := by decide +kernel
theorem dX10_gameOn_149 : decode cX10_gameOn 149 = .ok (.sipush 441, 3) := by decide +kernel
theorem dX10_gameOn_152 : decode cX10_gameOn 152 = .ok (.iload 5, 2) := by decide +kernel
theorem dX10_gameOn_154 : decode cX10_gameOn 154 = .ok (.iconst 1, 1) := by decide +kernel
theorem dX10_gameOn_155 : decode cX10_gameOn 155 = .ok (.iadd, 1) := by decide +kernel
theorem dX10_gameOn_156 : decode cX10_gameOn 156 = .ok (.imul, 1) := by decide +kernel
theorem dX10_gameOn_157 : decode cX10_gameOn 157 = .ok (.bipush 21, 2) := by decide +kernel
theorem dX10_gameOn_159 : decode cX10_gameOn 159 = .ok (.aload_n 0, 1) := by decide +kernel
theorem dX10_gameOn_160 : decode cX10_gameOn 160 = .ok (.aload_n 0, 1) := by decide +kernel
theorem dX10_gameOn_161 : decode cX10_gameOn 161 = .ok (.getfield 9, 3) := by decide +kernel
theorem dX10_gameOn_164 : decode cX10_gameOn 164 = .ok (.iconst 1, 1) := by decide +kernel
theorem dX10_gameOn_165 : decode cX10_gameOn 165 = .ok (.iload_n 1, 1) := by decide +kernel
theorem dX10_gameOn_166 : decode cX10_gameOn 166 = .ok (.iadd, 1) := by decide +kernel
theorem dX10_gameOn_167 : decode cX10_gameOn 167 = .ok (.iaload, 1) := by decide +kernel
theorem dX10_gameOn_168 : decode cX10_gameOn 168 = .ok (.invokevirtual 151, 3) := by decide +kernel
theorem dX10_gameOn_171 : decode cX10_gameOn 171 = .ok (.imul, 1) := by decide +kernel
theorem dX10_gameOn_172 : decode cX10_gameOn 172 = .ok (.iadd, 1) := by decide +kernel
theorem dX10_gameOn_173 : decode cX10_gameOn 173 = .ok (.aload_n 0, 1) := by decide +kernel
theorem dX10_gameOn_174 : decode cX10_gameOn 174 = .ok (.aload_n 0, 1) := by decide +kernel
theorem dX10_gameOn_175 : decode cX10_gameOn 175 = .ok (.getfield 9, 3) := by decide +kernel
theorem dX10_gameOn_178 : decode cX10_gameOn 178 = .ok (.iconst 1, 1) := by decide +kernel
theorem dX10_gameOn_179 : decode cX10_gameOn 179 = .ok (.iload_n 2, 1) := by decide +kernel
theorem dX10_gameOn_180 : decode cX10_gameOn 180 = .ok (.iadd, 1) := by decide +kernel
theorem dX10_gameOn_181 : decode cX10_gameOn 181 = .ok (.iaload, 1) := by decide +kernel
theorem dX10_gameOn_182 : decode cX10_gameOn 182 = .ok (.invokevirtual 154, 3) := by decide +kernel
theorem dX10_gameOn_185 : decode cX10_gameOn 185 = .ok (.iadd, 1) := by decide +kernel
theorem dX10_gameOn_186 : decode cX10_gameOn 186 = .ok (.dup2, 1) := by decide +kernel
theorem dX10_gameOn_187 : decode cX10_gameOn 187 = .ok (.laload, 1) := by decide +kernel
theorem dX10_gameOn_188 : decode cX10_gameOn 188 = .ok (.iload 6, 2) := by decide +kernel
theorem dX10_gameOn_190 : decode cX10_gameOn 190 = .ok (.i2l, 1) := by decide +kernel
theorem dX10_gameOn_191 : decode cX10_gameOn 191 = .ok (.aload_n 0, 1) := by decide +kernel
theorem dX10_gameOn_192 : decode cX10_gameOn 192 = .ok (.getfield 28, 3) := by decide +kernel
theorem dX10_gameOn_195 : decode cX10_gameOn 195 = .ok (.iload 4, 2) := by decide +kernel
theorem dX10_gameOn_197 : decode cX10_gameOn 197 = .ok (.laload, 1) := by decide +kernel
theorem dX10_gameOn_198 : decode cX10_gameOn 198 = .ok (.lmul, 1) := by decide +kernel
theorem dX10_gameOn_199 : decode cX10_gameOn 199 = .ok (.ladd, 1) := by decide +kernel
theorem dX10_gameOn_200 : decode cX10_gameOn 200 = .ok (.lastore, 1) := by decide +kernel
theorem dX10_gameOn_201 : decode cX10_gameOn 201 = .ok (.aload_n 0, 1) := by decide +kernel
theorem dX10_gameOn_202 : decode cX10_gameOn 202 = .ok (.getfield 32, 3) := by decide +kernel
theorem dX10_gameOn_205 : decode cX10_gameOn 205 = .ok (.sipush 441, 3) := by decide +kernel
theorem dX10_gameOn_208 : decode cX10_gameOn 208 = .ok (.iload 5, 2) := by decide +kernel
theorem dX10_gameOn_210 : decode cX10_gameOn 210 = .ok (.imul, 1) := by decide +kernel
theorem dX10_gameOn_211 : decode cX10_gameOn 211 = .ok (.bipush 21, 2) := by decide +kernel
theorem dX10_gameOn_213 : decode cX10_gameOn 213 = .ok (.aload_n 0, 1) := by decide +kernel
theorem dX10_gameOn_214 : decode cX10_gameOn 214 = .ok (.aload_n 0, 1) := by decide +kernel
theorem dX10_gameOn_215 : decode cX10_gameOn 215 = .ok (.getfield 9, 3) := by decide +kernel
theorem dX10_gameOn_218 : decode cX10_gameOn 218 = .ok (.iconst 1, 1) := by decide +kernel
theorem dX10_gameOn_219 : decode cX10_gameOn 219 = .ok (.iload_n 1, 1) := by decide +kernel
theorem dX10_gameOn_220 : decode cX10_gameOn 220 = .ok (.iadd, 1) := by decide +kernel
theorem dX10_gameOn_221 : decode cX10_gameOn 221 = .ok (.iaload, 1) := by decide +kernel
theorem dX10_gameOn_222 : decode cX10_gameOn 222 = .ok (.invokevirtual 154, 3) := by decide +kernel
theorem dX10_gameOn_225 : decode cX10_gameOn 225 = .ok (.imul, 1) := by decide +kernel
theorem dX10_gameOn_226 : decode cX10_gameOn 226 = .ok (.iadd, 1) := by decide +kernel
theorem dX10_gameOn_227 : decode cX10_gameOn 227 = .ok (.aload_n 0, 1) := by decide +kernel
theorem dX10_gameOn_228 : decode cX10_gameOn 228 = .ok (.aload_n 0, 1) := by decide +kernel
theorem dX10_gameOn_229 : decode cX10_gameOn 229 = .ok (.getfield 9, 3) := by decide +kernel
theorem dX10_gameOn_232 : decode cX10_gameOn 232 = .ok (.iconst 1, 1) := by decide +kernel
theorem dX10_gameOn_233 : decode cX10_gameOn 233 = .ok (.iload_n 2, 1) := by decide +kernel
theorem dX10_gameOn_234 : decode cX10_gameOn 234 = .ok (.iadd, 1) := by decide +kernel
theorem dX10_gameOn_235 : decode cX10_gameOn 235 = .ok (.iaload, 1) := by decide +kernel
theorem dX10_gameOn_236 : decode cX10_gameOn 236 = .ok (.invokevirtual 151, 3) := by decide +kernel
theorem dX10_gameOn_239 : decode cX10_gameOn 239 = .ok (.iadd, 1) := by decide +kernel
theorem dX10_gameOn_240 : decode cX10_gameOn 240 = .ok (.dup2, 1) := by decide +kernel
theorem dX10_gameOn_241 : decode cX10_gameOn 241 = .ok (.laload, 1) := by decide +kernel
theorem dX10_gameOn_242 : decode cX10_gameOn 242 = .ok (.bipush 10, 2) := by decide +kernel
theorem dX10_gameOn_244 : decode cX10_gameOn 244 = .ok (.iload 6, 2) := by decide +kernel
theorem dX10_gameOn_246 : decode cX10_gameOn 246 = .ok (.isub, 1) := by decide +kernel
theorem dX10_gameOn_247 : decode cX10_gameOn 247 = .ok (.i2l, 1) := by decide +kernel
theorem dX10_gameOn_248 : decode cX10_gameOn 248 = .ok (.aload_n 0, 1) := by decide +kernel
theorem dX10_gameOn_249 : decode cX10_gameOn 249 = .ok (.getfield 28, 3) := by decide +kernel
theorem dX10_gameOn_252 : decode cX10_gameOn 252 = .ok (.iload 4, 2) := by decide +kernel
theorem dX10_gameOn_254 : decode cX10_gameOn 254 = .ok (.laload, 1) := by decide +kernel
theorem dX10_gameOn_255 : decode cX10_gameOn 255 = .ok (.lmul, 1) := by decide +kernel
theorem dX10_gameOn_256 : decode cX10_gameOn 256 = .ok (.ladd, 1) := by decide +kernel
theorem dX10_gameOn_257 : decode cX10_gameOn 257 = .ok (.lastore, 1) := by decide +kernel
theorem dX10_gameOn_258 : decode cX10_gameOn 258 = .ok (.aload_n 0, 1) := by decide +kernel
theorem dX10_gameOn_259 : decode cX10_gameOn 259 = .ok (.dup, 1) := by decide +kernel
theorem dX10_gameOn_260 : decode cX10_gameOn 260 = .ok (.getfield 163, 3) := by decide +kernel
theorem dX10_gameOn_263 : decode cX10_gameOn 263 = .ok (.aload_n 0, 1) := by decide +kernel
theorem dX10_gameOn_264 : decode cX10_gameOn 264 = .ok (.getfield 28, 3) := by decide +kernel
theorem dX10_gameOn_267 : decode cX10_gameOn 267 = .ok (.iload 4, 2) := by decide +kernel
theorem dX10_gameOn_269 : decode cX10_gameOn 269 = .ok (.laload, 1) := by decide +kernel
theorem dX10_gameOn_270 : decode cX10_gameOn 270 = .ok (.iload 6, 2) := by decide +kernel
theorem dX10_gameOn_272 : decode cX10_gameOn 272 = .ok (.aload_n 0, 1) := by decide +kernel
theorem dX10_gameOn_273 : decode cX10_gameOn 273 = .ok (.getfield 9, 3) := by decide +kernel
theorem dX10_gameOn_276 : decode cX10_gameOn 276 = .ok (.iconst 1, 1) := by decide +kernel
theorem dX10_gameOn_277 : decode cX10_gameOn 277 = .ok (.iload_n 2, 1) := by decide +kernel
theorem dX10_gameOn_278 : decode cX10_gameOn 278 = .ok (.iadd, 1) := by decide +kernel
theorem dX10_gameOn_279 : decode cX10_gameOn 279 = .ok (.iaload, 1) := by decide +kernel
theorem dX10_gameOn_280 : decode cX10_gameOn 280 = .ok (.imul, 1) := by decide +kernel
theorem dX10_gameOn_281 : decode cX10_gameOn 281 = .ok (.bipush 10, 2) := by decide +kernel
theorem dX10_gameOn_283 : decode cX10_gameOn 283 = .ok (.iload 6, 2) := by decide +kernel
theorem dX10_gameOn_285 : decode cX10_gameOn 285 = .ok (.isub, 1) := by decide +kernel
theorem dX10_gameOn_286 : decode cX10_gameOn 286 = .ok (.aload_n 0, 1) := by decide +kernel
theorem dX10_gameOn_287 : decode cX10_gameOn 287 = .ok (.getfield 9, 3) := by decide +kernel
theorem dX10_gameOn_290 : decode cX10_gameOn 290 = .ok (.iconst 1, 1) := by decide +kernel
theorem dX10_gameOn_291 : decode cX10_gameOn 291 = .ok (.iload_n 1, 1) := by decide +kernel
theorem dX10_gameOn_292 : decode cX10_gameOn 292 = .ok (.iadd, 1) := by decide +kernel
theorem dX10_gameOn_293 : decode cX10_gameOn 293 = .ok (.iaload, 1) := by decide +kernel
theorem dX10_gameOn_294 : decode cX10_gameOn 294 = .ok (.imul, 1) := by decide +kernel
theorem dX10_gameOn_295 : decode cX10_gameOn 295 = .ok (.isub, 1) := by decide +kernel
theorem dX10_gameOn_296 : decode cX10_gameOn 296 = .ok (.i2l, 1) := by decide +kernel
theorem dX10_gameOn_297 : decode cX10_gameOn 297 = .ok (.lmul, 1) := by decide +kernel
theorem dX10_gameOn_298 : decode cX10_gameOn 298 = .ok (.ladd, 1) := by decide +kernel
theorem dX10_gameOn_299 : decode cX10_gameOn 299 = .ok (.putfield 163, 3) := by decide +kernel
theorem dX10_gameOn_302 : decode cX10_gameOn 302 = .ok (.iinc 4 1, 3) := by decide +kernel
theorem dX10_gameOn_305 : decode cX10_gameOn 305 = .ok (.goto (-265), 3) := by decide +kernel
theorem dX10_gameOn_308 : decode cX10_gameOn 308 = .ok (.aload_n 0, 1) := by decide +kernel
theorem dX10_gameOn_309 : decode cX10_gameOn 309 = .ok (.getfield 28, 3) := by decide +kernel
theorem dX10_gameOn_312 : decode cX10_gameOn 312 = .ok (.astore 4, 2) := by decide +kernel
theorem dX10_gameOn_314 : decode cX10_gameOn 314 = .ok (.aload_n 0, 1) := by decide +kernel
theorem dX10_gameOn_315 : decode cX10_gameOn 315 = .ok (.aload_n 0, 1) := by decide +kernel
theorem dX10_gameOn_316 : decode cX10_gameOn 316 = .ok (.getfield 32, 3) := by decide +kernel
theorem dX10_gameOn_319 : decode cX10_gameOn 319 = .ok (.putfield 28, 3) := by decide +kernel
theorem dX10_gameOn_322 : decode cX10_gameOn 322 = .ok (.aload_n 0, 1) := by decide +kernel
theorem dX10_gameOn_323 : decode cX10_gameOn 323 = .ok (.aload 4, 2) := by decide +kernel
theorem dX10_gameOn_325 : decode cX10_gameOn 325 = .ok (.putfield 32, 3) := by decide +kernel
theorem dX10_gameOn_328 : decode cX10_gameOn 328 = .ok (.return_, 1) := by decide +kernel
set_option maxRecDepth 20000 in
theorem r_X10_gameOn : m_Right (yX10_gameOn, cX10_gameOn, 7, none) q_X10_gameOn := m_right_nd (m_right_nd (m_right_nd (m_right_nd (m_right_nd (m_right_nd (m_right_nd (m_right_lf ⟨1, dX10_gameOn_0, rfl, rfl, by decide +kernel⟩) (m_right_nd (m_right_lf ⟨2, dX10_gameOn_1, rfl, rfl, rfl⟩) (m_right_lf ⟨2, dX10_gameOn_3, rfl, rfl, rfl⟩))) (m_right_nd (m_right_lf ⟨3, dX10_gameOn_5, rfl, rfl, by decide +kernel⟩) (m_right_nd (m_right_lf ⟨3, dX10_gameOn_8, rfl, rfl, 25, rfl, by decide⟩) (m_right_lf ⟨1, dX10_gameOn_11, rfl, rfl, rfl⟩)))) (m_right_nd (m_right_nd (m_right_lf ⟨3, dX10_gameOn_12, rfl, rfl, 10, 13, rfl, Or.inl ⟨(RX10, TX10, 24), rfl, by decide, wd_879⟩⟩) (m_right_nd (m_right_lf ⟨2, dX10_gameOn_15, rfl, rfl, rfl⟩) (m_right_lf ⟨1, dX10_gameOn_17, rfl, rfl, by decide +kernel⟩))) (m_right_nd (m_right_lf ⟨1, dX10_gameOn_18, rfl, rfl⟩) (m_right_nd (m_right_lf ⟨3, dX10_gameOn_19, rfl, rfl, rfl, by decide +kernel⟩) (m_right_lf ⟨3, dX10_gameOn_22, rfl, 3, rfl, by decide⟩))))) (m_right_nd (m_right_nd (m_right_nd (m_right_lf ⟨1, dX10_gameOn_25, rfl, rfl, rfl⟩) (m_right_nd (m_right_lf ⟨1, dX10_gameOn_26, rfl, rfl⟩) (m_right_lf ⟨3, dX10_gameOn_27, rfl, rfl, 10, 14, rfl, Or.inl ⟨(RX10, TX10, 24), rfl, by decide, wd_880⟩⟩))) (m_right_nd (m_right_lf ⟨3, dX10_gameOn_30, rfl, rfl, _, rfl, wd_1146⟩) (m_right_nd (m_right_lf ⟨1, dX10_gameOn_33, rfl, rfl⟩) (m_right_lf ⟨3, dX10_gameOn_34, rfl, rfl, 10, 14, 1, (RX10, TX10, 24), rfl, rfl, by decide, wd_880, Or.inl rfl, tyX10 14, tyX10_ok 14 (by decide), Or.inr (Or.inl ⟨rfl, rfl⟩)⟩)))) (m_right_nd (m_right_nd (m_right_lf ⟨1, dX10_gameOn_37, rfl, rfl, by decide +kernel⟩) (m_right_nd (m_right_lf ⟨2, dX10_gameOn_38, rfl, rfl, rfl⟩) (m_right_lf ⟨2, dX10_gameOn_40, rfl, rfl, rfl⟩))) (m_right_nd (m_right_nd (m_right_lf ⟨3, dX10_gameOn_42, rfl, rfl, by decide +kernel⟩) (m_right_lf ⟨3, dX10_gameOn_45, rfl, rfl, 308, rfl, by decide⟩)) (m_right_nd (m_right_lf ⟨1, dX10_gameOn_48, rfl, rfl, rfl⟩) (m_right_lf ⟨3, dX10_gameOn_49, rfl, rfl, 10, 12, rfl, Or.inl ⟨(RX10, TX10, 24), rfl, by decide, wd_878⟩⟩)))))) (m_right_nd (m_right_nd (m_right_nd (m_right_nd (m_right_lf ⟨2, dX10_gameOn_52, rfl, rfl, rfl⟩) (m_right_nd (m_right_lf ⟨1, dX10_gameOn_54, rfl, rfl⟩) (m_right_lf ⟨1, dX10_gameOn_55, rfl, rfl, by decide +kernel⟩))) (m_right_nd (m_right_lf ⟨1, dX10_gameOn_56, rfl, rfl⟩) (m_right_nd (m_right_lf ⟨3, dX10_gameOn_57, rfl, rfl, 302, rfl, by decide⟩) (m_right_lf ⟨2, dX10_gameOn_60, rfl, rfl, rfl⟩)))) (m_right_nd (m_right_nd (m_right_lf ⟨3, dX10_gameOn_62, rfl, rfl, by decide +kernel⟩) (m_right_nd (m_right_lf ⟨1, dX10_gameOn_65, rfl, rfl⟩) (m_right_lf ⟨2, dX10_gameOn_66, rfl, rfl, rfl⟩))) (m_right_nd (m_right_lf ⟨1, dX10_gameOn_68, rfl, rfl, rfl⟩) (m_right_nd (m_right_lf ⟨3, dX10_gameOn_69, rfl, rfl, 10, 1, rfl, Or.inl ⟨(RX10, TX10, 24), rfl, by decide, wd_867⟩⟩) (m_right_lf ⟨1, dX10_gameOn_72, rfl, rfl, by decide +kernel⟩))))) (m_right_nd (m_right_nd (m_right_nd (m_right_lf ⟨1, dX10_gameOn_73, rfl, rfl, rfl⟩) (m_right_nd (m_right_lf ⟨1, dX10_gameOn_74, rfl, rfl⟩) (m_right_lf ⟨2, dX10_gameOn_75, rfl, rfl, rfl⟩))) (m_right_nd (m_right_lf ⟨2, dX10_gameOn_77, rfl, rfl, by decide +kernel⟩) (m_right_nd (m_right_lf ⟨1, dX10_gameOn_79, rfl, rfl⟩) (m_right_lf ⟨2, dX10_gameOn_80, rfl, rfl, by decide +kernel⟩)))) (m_right_nd (m_right_nd (m_right_lf ⟨1, dX10_gameOn_82, rfl, rfl⟩) (m_right_nd (m_right_lf ⟨1, dX10_gameOn_83, rfl, rfl⟩) (m_right_lf ⟨1, dX10_gameOn_84, rfl, rfl, rfl⟩))) (m_right_nd (m_right_nd (m_right_lf ⟨3, dX10_gameOn_85, rfl, rfl, 10, 1, rfl, Or.inl ⟨(RX10, TX10, 24), rfl, by decide, wd_867⟩⟩) (m_right_lf ⟨1, dX10_gameOn_88, rfl, rfl, by decide +kernel⟩)) (m_right_nd (m_right_lf ⟨1, dX10_gameOn_89, rfl, rfl, rfl⟩) (m_right_lf ⟨1, dX10_gameOn_90, rfl, rfl⟩))))))) (m_right_nd (m_right_nd (m_right_nd (m_right_nd (m_right_nd (m_right_lf ⟨2, dX10_gameOn_91, rfl, rfl, rfl⟩) (m_right_nd (m_right_lf ⟨2, dX10_gameOn_93, rfl, rfl, by decide +kernel⟩) (m_right_lf ⟨1, dX10_gameOn_95, rfl, rfl⟩))) (m_right_nd (m_right_lf ⟨1, dX10_gameOn_96, rfl, rfl⟩) (m_right_nd (m_right_lf ⟨1, dX10_gameOn_97, rfl, rfl, rfl⟩) (m_right_lf ⟨3, dX10_gameOn_98, rfl, rfl, 137, rfl, by decide⟩)))) (m_right_nd (m_right_nd (m_right_lf ⟨1, dX10_gameOn_101, rfl, rfl, rfl⟩) (m_right_nd (m_right_lf ⟨3, dX10_gameOn_102, rfl, rfl, 10, 1, rfl, Or.inl ⟨(RX10, TX10, 24), rfl, by decide, wd_867⟩⟩) (m_right_lf ⟨1, dX10_gameOn_105, rfl, rfl, by decide +kernel⟩))) (m_right_nd (m_right_lf ⟨1, dX10_gameOn_106, rfl, rfl, rfl⟩) (m_right_nd (m_right_lf ⟨1, dX10_gameOn_107, rfl, rfl⟩) (m_right_lf ⟨1, dX10_gameOn_108, rfl, rfl⟩))))) (m_right_nd (m_right_nd (m_right_nd (m_right_lf ⟨1, dX10_gameOn_109, rfl, rfl, by decide +kernel⟩) (m_right_nd (m_right_lf ⟨3, dX10_gameOn_110, rfl, rfl, 137, rfl, by decide⟩) (m_right_lf ⟨1, dX10_gameOn_113, rfl, rfl, rfl⟩))) (m_right_nd (m_right_lf ⟨3, dX10_gameOn_114, rfl, rfl, 10, 13, rfl, Or.inl ⟨(RX10, TX10, 24), rfl, by decide, wd_879⟩⟩) (m_right_nd (m_right_lf ⟨2, dX10_gameOn_117, rfl, rfl, rfl⟩) (m_right_lf ⟨1, dX10_gameOn_119, rfl, rfl⟩)))) (m_right_nd (m_right_nd (m_right_lf ⟨1, dX10_gameOn_120, rfl, rfl⟩) (m_right_nd (m_right_lf ⟨3, dX10_gameOn_121, rfl, rfl, _, rfl, wd_1146⟩) (m_right_lf ⟨1, dX10_gameOn_124, rfl, rfl, rfl⟩))) (m_right_nd (m_right_nd (m_right_lf ⟨3, dX10_gameOn_125, rfl, rfl, 10, 12, rfl, Or.inl ⟨(RX10, TX10, 24), rfl, by decide, wd_878⟩⟩) (m_right_lf ⟨2, dX10_gameOn_128, rfl, rfl, rfl⟩)) (m_right_nd (m_right_lf ⟨1, dX10_gameOn_130, rfl, rfl⟩) (m_right_lf ⟨1, dX10_gameOn_131, rfl, rfl⟩)))))) (m_right_nd (m_right_nd (m_right_nd (m_right_nd (m_right_lf ⟨1, dX10_gameOn_132, rfl, rfl⟩) (m_right_nd (m_right_lf ⟨1, dX10_gameOn_133, rfl, rfl⟩) (m_right_lf ⟨3, dX10_gameOn_134, rfl, 302, rfl, by decide⟩))) (m_right_nd (m_right_lf ⟨1, dX10_gameOn_137, rfl, rfl, rfl⟩) (m_right_nd (m_right_lf ⟨1, dX10_gameOn_138, rfl, rfl, rfl⟩) (m_right_lf ⟨1, dX10_gameOn_139, rfl, rfl, rfl⟩)))) (m_right_nd (m_right_nd (m_right_lf ⟨3, dX10_gameOn_140, rfl, rfl, 146, 2, 10, (yX10_oddsOf, cX10_oddsOf, 4, (some .int)), rfl, me_X10_oddsOf, mc_X10_oddsOf, Or.inl ⟨(RX10, TX10, 24), rfl, rfl⟩, wd_1101, wd_1103, wd_35, wd_71⟩) (m_right_nd (m_right_lf ⟨2, dX10_gameOn_143, rfl, rfl, rfl⟩) (m_right_lf ⟨1, dX10_gameOn_145, rfl, rfl, rfl⟩))) (m_right_nd (m_right_nd (m_right_lf ⟨3, dX10_gameOn_146, rfl, rfl, 10, 13, rfl, Or.inl ⟨(RX10, TX10, 24), rfl, by decide, wd_879⟩⟩) (m_right_lf ⟨3, dX10_gameOn_149, rfl, rfl, by decide +kernel⟩)) (m_right_nd (m_right_lf ⟨2, dX10_gameOn_152, rfl, rfl, rfl⟩) (m_right_lf ⟨1, dX10_gameOn_154, rfl, rfl, by decide +kernel⟩))))) (m_right_nd (m_right_nd (m_right_nd (m_right_lf ⟨1, dX10_gameOn_155, rfl, rfl⟩) (m_right_nd (m_right_lf ⟨1, dX10_gameOn_156, rfl, rfl⟩) (m_right_lf ⟨2, dX10_gameOn_157, rfl, rfl, by decide +kernel⟩))) (m_right_nd (m_right_lf ⟨1, dX10_gameOn_159, rfl, rfl, rfl⟩) (m_right_nd (m_right_lf ⟨1, dX10_gameOn_160, rfl, rfl, rfl⟩) (m_right_lf ⟨3, dX10_gameOn_161, rfl, rfl, 10, 1, rfl, Or.inl ⟨(RX10, TX10, 24), rfl, by decide, wd_867⟩⟩)))) (m_right_nd (m_right_nd (m_right_lf ⟨1, dX10_gameOn_164, rfl, rfl, by decide +kernel⟩) (m_right_nd (m_right_lf ⟨1, dX10_gameOn_165, rfl, rfl, rfl⟩) (m_right_lf ⟨1, dX10_gameOn_166, rfl, rfl⟩))) (m_right_nd (m_right_nd (m_right_lf ⟨1, dX10_gameOn_167, rfl, rfl⟩) (m_right_lf ⟨3, dX10_gameOn_168, rfl, rfl, 149, 1, 10, (yX10_fewer, cX10_fewer, 3, (some .int)), rfl, me_X10_fewer, mc_X10_fewer, Or.inl ⟨(RX10, TX10, 24), rfl, rfl⟩, wd_1113, wd_1115, wd_37, wd_71⟩)) (m_right_nd (m_right_lf ⟨1, dX10_gameOn_171, rfl, rfl⟩) (m_right_lf ⟨1, dX10_gameOn_172, rfl, rfl⟩)))))))) (m_right_nd (m_right_nd (m_right_nd (m_right_nd (m_right_nd (m_right_nd (m_right_lf ⟨1, dX10_gameOn_173, rfl, rfl, rfl⟩) (m_right_nd (m_right_lf ⟨1, dX10_gameOn_174, rfl, rfl, rfl⟩) (m_right_lf ⟨3, dX10_gameOn_175, rfl, rfl, 10, 1, rfl, Or.inl ⟨(RX10, TX10, 24), rfl, by decide, wd_867⟩⟩))) (m_right_nd (m_right_lf ⟨1, dX10_gameOn_178, rfl, rfl, by decide +kernel⟩) (m_right_nd (m_right_lf ⟨1, dX10_gameOn_179, rfl, rfl, rfl⟩) (m_right_lf ⟨1, dX10_gameOn_180, rfl, rfl⟩)))) (m_right_nd (m_right_nd (m_right_lf ⟨1, dX10_gameOn_181, rfl, rfl⟩) (m_right_nd (m_right_lf ⟨3, dX10_gameOn_182, rfl, rfl, 150, 1, 10, (yX10_moreOf, cX10_moreOf, 3, (some .int)), rfl, me_X10_moreOf, mc_X10_moreOf, Or.inl ⟨(RX10, TX10, 24), rfl, rfl⟩, wd_1117, wd_1119, wd_38, wd_71⟩) (m_right_lf ⟨1, dX10_gameOn_185, rfl, rfl⟩))) (m_right_nd (m_right_lf ⟨1, dX10_gameOn_186, rfl, rfl⟩) (m_right_nd (m_right_lf ⟨1, dX10_gameOn_187, rfl, rfl⟩) (m_right_lf ⟨2, dX10_gameOn_188, rfl, rfl, rfl⟩))))) (m_right_nd (m_right_nd (m_right_nd (m_right_lf ⟨1, dX10_gameOn_190, rfl, rfl⟩) (m_right_nd (m_right_lf ⟨1, dX10_gameOn_191, rfl, rfl, rfl⟩) (m_right_lf ⟨3, dX10_gameOn_192, rfl, rfl, 10, 12, rfl, Or.inl ⟨(RX10, TX10, 24), rfl, by decide, wd_878⟩⟩))) (m_right_nd (m_right_lf ⟨2, dX10_gameOn_195, rfl, rfl, rfl⟩) (m_right_nd (m_right_lf ⟨1, dX10_gameOn_197, rfl, rfl⟩) (m_right_lf ⟨1, dX10_gameOn_198, rfl, rfl⟩)))) (m_right_nd (m_right_nd (m_right_lf ⟨1, dX10_gameOn_199, rfl, rfl⟩) (m_right_nd (m_right_lf ⟨1, dX10_gameOn_200, rfl, rfl⟩) (m_right_lf ⟨1, dX10_gameOn_201, rfl, rfl, rfl⟩))) (m_right_nd (m_right_nd (m_right_lf ⟨3, dX10_gameOn_202, rfl, rfl, 10, 13, rfl, Or.inl ⟨(RX10, TX10, 24), rfl, by decide, wd_879⟩⟩) (m_right_lf ⟨3, dX10_gameOn_205, rfl, rfl, by decide +kernel⟩)) (m_right_nd (m_right_lf ⟨2, dX10_gameOn_208, rfl, rfl, rfl⟩) (m_right_lf ⟨1, dX10_gameOn_210, rfl, rfl⟩)))))) (m_right_nd (m_right_nd (m_right_nd (m_right_nd (m_right_lf ⟨2, dX10_gameOn_211, rfl, rfl, by decide +kernel⟩) (m_right_nd (m_right_lf ⟨1, dX10_gameOn_213, rfl, rfl, rfl⟩) (m_right_lf ⟨1, dX10_gameOn_214, rfl, rfl, rfl⟩))) (m_right_nd (m_right_lf ⟨3, dX10_gameOn_215, rfl, rfl, 10, 1, rfl, Or.inl ⟨(RX10, TX10, 24), rfl, by decide, wd_867⟩⟩) (m_right_nd (m_right_lf ⟨1, dX10_gameOn_218, rfl, rfl, by decide +kernel⟩) (m_right_lf ⟨1, dX10_gameOn_219, rfl, rfl, rfl⟩)))) (m_right_nd (m_right_nd (m_right_lf ⟨1, dX10_gameOn_220, rfl, rfl⟩) (m_right_nd (m_right_lf ⟨1, dX10_gameOn_221, rfl, rfl⟩) (m_right_lf ⟨3, dX10_gameOn_222, rfl, rfl, 150, 1, 10, (yX10_moreOf, cX10_moreOf, 3, (some .int)), rfl, me_X10_moreOf, mc_X10_moreOf, Or.inl ⟨(RX10, TX10, 24), rfl, rfl⟩, wd_1117, wd_1119, wd_38, wd_71⟩))) (m_right_nd (m_right_lf ⟨1, dX10_gameOn_225, rfl, rfl⟩) (m_right_nd (m_right_lf ⟨1, dX10_gameOn_226, rfl, rfl⟩) (m_right_lf ⟨1, dX10_gameOn_227, rfl, rfl, rfl⟩))))) (m_right_nd (m_right_nd (m_right_nd (m_right_lf ⟨1, dX10_gameOn_228, rfl, rfl, rfl⟩) (m_right_nd (m_right_lf ⟨3, dX10_gameOn_229, rfl, rfl, 10, 1, rfl, Or.inl ⟨(RX10, TX10, 24), rfl, by decide, wd_867⟩⟩) (m_right_lf ⟨1, dX10_gameOn_232, rfl, rfl, by decide +kernel⟩))) (m_right_nd (m_right_lf ⟨1, dX10_gameOn_233, rfl, rfl, rfl⟩) (m_right_nd (m_right_lf ⟨1, dX10_gameOn_234, rfl, rfl⟩) (m_right_lf ⟨1, dX10_gameOn_235, rfl, rfl⟩)))) (m_right_nd (m_right_nd (m_right_lf ⟨3, dX10_gameOn_236, rfl, rfl, 149, 1, 10, (yX10_fewer, cX10_fewer, 3, (some .int)), rfl, me_X10_fewer, mc_X10_fewer, Or.inl ⟨(RX10, TX10, 24), rfl, rfl⟩, wd_1113, wd_1115, wd_37, wd_71⟩) (m_right_nd (m_right_lf ⟨1, dX10_gameOn_239, rfl, rfl⟩) (m_right_lf ⟨1, dX10_gameOn_240, rfl, rfl⟩))) (m_right_nd (m_right_nd (m_right_lf ⟨1, dX10_gameOn_241, rfl, rfl⟩) (m_right_lf ⟨2, dX10_gameOn_242, rfl, rfl, by decide +kernel⟩)) (m_right_nd (m_right_lf ⟨2, dX10_gameOn_244, rfl, rfl, rfl⟩) (m_right_lf ⟨1, dX10_gameOn_246, rfl, rfl⟩))))))) (m_right_nd (m_right_nd (m_right_nd (m_right_nd (m_right_nd (m_right_lf ⟨1, dX10_gameOn_247, rfl, rfl⟩) (m_right_nd (m_right_lf ⟨1, dX10_gameOn_248, rfl, rfl, rfl⟩) (m_right_lf ⟨3, dX10_gameOn_249, rfl, rfl, 10, 12, rfl, Or.inl ⟨(RX10, TX10, 24), rfl, by decide, wd_878⟩⟩))) (m_right_nd (m_right_lf ⟨2, dX10_gameOn_252, rfl, rfl, rfl⟩) (m_right_nd (m_right_lf ⟨1, dX10_gameOn_254, rfl, rfl⟩) (m_right_lf ⟨1, dX10_gameOn_255, rfl, rfl⟩)))) (m_right_nd (m_right_nd (m_right_lf ⟨1, dX10_gameOn_256, rfl, rfl⟩) (m_right_nd (m_right_lf ⟨1, dX10_gameOn_257, rfl, rfl⟩) (m_right_lf ⟨1, dX10_gameOn_258, rfl, rfl, rfl⟩))) (m_right_nd (m_right_lf ⟨1, dX10_gameOn_259, rfl, rfl⟩) (m_right_nd (m_right_lf ⟨3, dX10_gameOn_260, rfl, rfl, 10, 14, rfl, Or.inl ⟨(RX10, TX10, 24), rfl, by decide, wd_880⟩⟩) (m_right_lf ⟨1, dX10_gameOn_263, rfl, rfl, rfl⟩))))) (m_right_nd (m_right_nd (m_right_nd (m_right_lf ⟨3, dX10_gameOn_264, rfl, rfl, 10, 12, rfl, Or.inl ⟨(RX10, TX10, 24), rfl, by decide, wd_878⟩⟩) (m_right_nd (m_right_lf ⟨2, dX10_gameOn_267, rfl, rfl, rfl⟩) (m_right_lf ⟨1, dX10_gameOn_269, rfl, rfl⟩))) (m_right_nd (m_right_lf ⟨2, dX10_gameOn_270, rfl, rfl, rfl⟩) (m_right_nd (m_right_lf ⟨1, dX10_gameOn_272, rfl, rfl, rfl⟩) (m_right_lf ⟨3, dX10_gameOn_273, rfl, rfl, 10, 1, rfl, Or.inl ⟨(RX10, TX10, 24), rfl, by decide, wd_867⟩⟩)))) (m_right_nd (m_right_nd (m_right_lf ⟨1, dX10_gameOn_276, rfl, rfl, by decide +kernel⟩) (m_right_nd (m_right_lf ⟨1, dX10_gameOn_277, rfl, rfl, rfl⟩) (m_right_lf ⟨1, dX10_gameOn_278, rfl, rfl⟩))) (m_right_nd (m_right_nd (m_right_lf ⟨1, dX10_gameOn_279, rfl, rfl⟩) (m_right_lf ⟨1, dX10_gameOn_280, rfl, rfl⟩)) (m_right_nd (m_right_lf ⟨2, dX10_gameOn_281, rfl, rfl, by decide +kernel⟩) (m_right_lf ⟨2, dX10_gameOn_283, rfl, rfl, rfl⟩)))))) (m_right_nd (m_right_nd (m_right_nd (m_right_nd (m_right_lf ⟨1, dX10_gameOn_285, rfl, rfl⟩) (m_right_nd (m_right_lf ⟨1, dX10_gameOn_286, rfl, rfl, rfl⟩) (m_right_lf ⟨3, dX10_gameOn_287, rfl, rfl, 10, 1, rfl, Or.inl ⟨(RX10, TX10, 24), rfl, by decide, wd_867⟩⟩))) (m_right_nd (m_right_lf ⟨1, dX10_gameOn_290, rfl, rfl, by decide +kernel⟩) (m_right_nd (m_right_lf ⟨1, dX10_gameOn_291, rfl, rfl, rfl⟩) (m_right_lf ⟨1, dX10_gameOn_292, rfl, rfl⟩)))) (m_right_nd (m_right_nd (m_right_lf ⟨1, dX10_gameOn_293, rfl, rfl⟩) (m_right_nd (m_right_lf ⟨1, dX10_gameOn_294, rfl, rfl⟩) (m_right_lf ⟨1, dX10_gameOn_295, rfl, rfl⟩))) (m_right_nd (m_right_nd (m_right_lf ⟨1, dX10_gameOn_296, rfl, rfl⟩) (m_right_lf ⟨1, dX10_gameOn_297, rfl, rfl⟩)) (m_right_nd (m_right_lf ⟨1, dX10_gameOn_298, rfl, rfl⟩) (m_right_lf ⟨3, dX10_gameOn_299, rfl, rfl, 10, 14, 1, (RX10, TX10, 24), rfl, rfl, by decide, wd_880, Or.inl rfl, tyX10 14, tyX10_ok 14 (by decide), Or.inr (Or.inl ⟨rfl, rfl⟩)⟩))))) (m_right_nd (m_right_nd (m_right_nd (m_right_lf ⟨3, dX10_gameOn_302, rfl, rfl, rfl, by decide +kernel⟩) (m_right_nd (m_right_lf ⟨3, dX10_gameOn_305, rfl, 40, rfl, by decide⟩) (m_right_lf ⟨1, dX10_gameOn_308, rfl, rfl, rfl⟩))) (m_right_nd (m_right_lf ⟨3, dX10_gameOn_309, rfl, rfl, 10, 12, rfl, Or.inl ⟨(RX10, TX10, 24), rfl, by decide, wd_878⟩⟩) (m_right_nd (m_right_lf ⟨2, dX10_gameOn_312, rfl, rfl, rfl⟩) (m_right_lf ⟨1, dX10_gameOn_314, rfl, rfl, rfl⟩)))) (m_right_nd (m_right_nd (m_right_lf ⟨1, dX10_gameOn_315, rfl, rfl, rfl⟩) (m_right_nd (m_right_lf ⟨3, dX10_gameOn_316, rfl, rfl, 10, 13, rfl, Or.inl ⟨(RX10, TX10, 24), rfl, by decide, wd_879⟩⟩) (m_right_lf ⟨3, dX10_gameOn_319, rfl, rfl, 10, 12, 3, (RX10, TX10, 24), rfl, rfl, by decide, wd_878, Or.inl rfl, tyX10 12, tyX10_ok 12 (by decide), Or.inr (Or.inr (Or.inr ⟨rfl, Or.inr ⟨_, rfl⟩⟩))⟩))) (m_right_nd (m_right_nd (m_right_lf ⟨1, dX10_gameOn_322, rfl, rfl, rfl⟩) (m_right_lf ⟨2, dX10_gameOn_323, rfl, rfl, rfl⟩)) (m_right_nd (m_right_lf ⟨3, dX10_gameOn_325, rfl, rfl, 10, 13, 3, (RX10, TX10, 24), rfl, rfl, by decide, wd_879, Or.inl rfl, tyX10 13, tyX10_ok 13 (by decide), Or.inr (Or.inr (Or.inr ⟨rfl, Or.inr ⟨_, rfl⟩⟩))⟩) (m_right_lf ⟨1, dX10_gameOn_328, rfl, rfl⟩))))))))
theorem dX10_gamesOn_0 : decode cX10_gamesOn 0 = .ok (.aload_n 0, 1) := by decide +kernel
theorem dX10_gamesOn_1 : decode cX10_gamesOn 1 = .ok (.invokevirtual 167, 3) := by decide +kernel
theorem dX10_gamesOn_4 : decode cX10_gamesOn 4 = .ok (.aload_n 0, 1) := by decide +kernel
theorem dX10_gamesOn_5 : decode cX10_gamesOn 5 = .ok (.iload_n 1, 1) := by decide +kernel
theorem dX10_gamesOn_6 : decode cX10_gamesOn 6 = .ok (.iload_n 2, 1) := by decide +kernel
theorem dX10_gamesOn_7 : decode cX10_gamesOn 7 = .ok (.invokevirtual 170, 3) := by decide +kernel
theorem dX10_gamesOn_10 : decode cX10_gamesOn 10 = .ok (.iconst 0, 1) := by decide +kernel
theorem dX10_gamesOn_11 : decode cX10_gamesOn 11 = .ok (.istore 5, 2) := by decide +kernel
theorem dX10_gamesOn_13 : decode cX10_gamesOn 13 = .ok (.iload 5, 2) := by decide +kernel
theorem dX10_gamesOn_15 : decode cX10_gamesOn 15 = .ok (.iload_n 3, 1) := by decide +kernel
theorem dX10_gamesOn_16 : decode cX10_gamesOn 16 = .ok (.if_icmp .ge 32, 3) := by decide +kernel
theorem dX10_gamesOn_19 : decode cX10_gamesOn 19 = .ok (.aload_n 0, 1) := by decide +kernel
theorem dX10_gamesOn_20 : decode cX10_gamesOn 20 = .ok (.getfield 9, 3) := by decide +kernel
theorem dX10_gamesOn_23 : decode cX10_gamesOn 23 = .ok (.iconst 0, 1) := by decide +kernel
theorem dX10_gamesOn_24 : decode cX10_gamesOn 24 = .ok (.aload_n 0, 1) := by decide +kernel
theorem dX10_gamesOn_25 : decode cX10_gamesOn 25 = .ok (.getfield 18, 3) := by decide +kernel
theorem dX10_gamesOn_28 : decode cX10_gamesOn 28 = .ok (.iconst 0, 1) := by decide +kernel
theorem dX10_gamesOn_29 : decode cX10_gamesOn 29 = .ok (.iaload, 1) := by decide +kernel
theorem dX10_gamesOn_30 : decode cX10_gamesOn 30 = .ok (.iload 5, 2) := by decide +kernel
theorem dX10_gamesOn_32 : decode cX10_gamesOn 32 = .ok (.iadd, 1) := by decide +kernel
theorem dX10_gamesOn_33 : decode cX10_gamesOn 33 = .ok (.iastore, 1) := by decide +kernel
theorem dX10_gamesOn_34 : decode cX10_gamesOn 34 = .ok (.aload_n 0, 1) := by decide +kernel
theorem dX10_gamesOn_35 : decode cX10_gamesOn 35 = .ok (.iload_n 1, 1) := by decide +kernel
theorem dX10_gamesOn_36 : decode cX10_gamesOn 36 = .ok (.iload_n 2, 1) := by decide +kernel
theorem dX10_gamesOn_37 : decode cX10_gamesOn 37 = .ok (.iload 4, 2) := by decide +kernel
theorem dX10_gamesOn_39 : decode cX10_gamesOn 39 = .ok (.invokevirtual 173, 3) := by decide +kernel
theorem dX10_gamesOn_42 : decode cX10_gamesOn 42 = .ok (.iinc 5 1, 3) := by decide +kernel
theorem dX10_gamesOn_45 : decode cX10_gamesOn 45 = .ok (.goto (-32), 3) := by decide +kernel
theorem dX10_gamesOn_48 : decode cX10_gamesOn 48 = .ok (.aload_n 0, 1) := by decide +kernel
theorem dX10_gamesOn_49 : decode cX10_gamesOn 49 = .ok (.invokevirtual 177, 3) := by decide +kernel
theorem dX10_gamesOn_52 : decode cX10_gamesOn 52 = .ok (.return_, 1) := by decide +kernel
set_option maxRecDepth 20000 in
theorem r_X10_gamesOn : m_Right (yX10_gamesOn, cX10_gamesOn, 6, none) q_X10_gamesOn := m_right_nd (m_right_nd (m_right_nd (m_right_nd (m_right_lf ⟨1, dX10_gamesOn_0, rfl, rfl, rfl⟩) (m_right_nd (m_right_lf ⟨3, dX10_gamesOn_1, rfl, rfl, 121, 0, 10, (yX10_keeps, cX10_keeps, 2, none), rfl, me_X10_keeps, mc_X10_keeps, Or.inl ⟨(RX10, TX10, 24), rfl, rfl⟩, wd_1134, wd_1136, wd_41, wd_71⟩) (m_right_lf ⟨1, dX10_gamesOn_4, rfl, rfl, rfl⟩))) (m_right_nd (m_right_nd (m_right_lf ⟨1, dX10_gamesOn_5, rfl, rfl, rfl⟩) (m_right_lf ⟨1, dX10_gamesOn_6, rfl, rfl, rfl⟩)) (m_right_nd (m_right_lf ⟨3, dX10_gamesOn_7, rfl, rfl, 154, 2, 10, (yX10_beginsTwo, cX10_beginsTwo, 4, none), rfl, me_X10_beginsTwo, mc_X10_beginsTwo, Or.inl ⟨(RX10, TX10, 24), rfl, rfl⟩, wd_1138, wd_1140, wd_42, wd_71⟩) (m_right_lf ⟨1, dX10_gamesOn_10, rfl, rfl, by decide +kernel⟩)))) (m_right_nd (m_right_nd (m_right_nd (m_right_lf ⟨2, dX10_gamesOn_11, rfl, rfl, rfl⟩) (m_right_lf ⟨2, dX10_gamesOn_13, rfl, rfl, rfl⟩)) (m_right_nd (m_right_lf ⟨1, dX10_gamesOn_15, rfl, rfl, rfl⟩) (m_right_lf ⟨3, dX10_gamesOn_16, rfl, rfl, 48, rfl, by decide⟩))) (m_right_nd (m_right_nd (m_right_lf ⟨1, dX10_gamesOn_19, rfl, rfl, rfl⟩) (m_right_lf ⟨3, dX10_gamesOn_20, rfl, rfl, 10, 1, rfl, Or.inl ⟨(RX10, TX10, 24), rfl, by decide, wd_867⟩⟩)) (m_right_nd (m_right_lf ⟨1, dX10_gamesOn_23, rfl, rfl, by decide +kernel⟩) (m_right_lf ⟨1, dX10_gamesOn_24, rfl, rfl, rfl⟩))))) (m_right_nd (m_right_nd (m_right_nd (m_right_nd (m_right_lf ⟨3, dX10_gamesOn_25, rfl, rfl, 10, 3, rfl, Or.inl ⟨(RX10, TX10, 24), rfl, by decide, wd_869⟩⟩) (m_right_lf ⟨1, dX10_gamesOn_28, rfl, rfl, by decide +kernel⟩)) (m_right_nd (m_right_lf ⟨1, dX10_gamesOn_29, rfl, rfl⟩) (m_right_lf ⟨2, dX10_gamesOn_30, rfl, rfl, rfl⟩))) (m_right_nd (m_right_nd (m_right_lf ⟨1, dX10_gamesOn_32, rfl, rfl⟩) (m_right_lf ⟨1, dX10_gamesOn_33, rfl, rfl⟩)) (m_right_nd (m_right_lf ⟨1, dX10_gamesOn_34, rfl, rfl, rfl⟩) (m_right_lf ⟨1, dX10_gamesOn_35, rfl, rfl, rfl⟩)))) (m_right_nd (m_right_nd (m_right_nd (m_right_lf ⟨1, dX10_gamesOn_36, rfl, rfl, rfl⟩) (m_right_lf ⟨2, dX10_gamesOn_37, rfl, rfl, rfl⟩)) (m_right_nd (m_right_lf ⟨3, dX10_gamesOn_39, rfl, rfl, 155, 3, 10, (yX10_gameOn, cX10_gameOn, 7, none), rfl, me_X10_gameOn, mc_X10_gameOn, Or.inl ⟨(RX10, TX10, 24), rfl, rfl⟩, wd_1142, wd_1144, wd_43, wd_71⟩) (m_right_lf ⟨3, dX10_gamesOn_42, rfl, rfl, rfl, by decide +kernel⟩))) (m_right_nd (m_right_nd (m_right_lf ⟨3, dX10_gamesOn_45, rfl, 13, rfl, by decide⟩) (m_right_lf ⟨1, dX10_gamesOn_48, rfl, rfl, rfl⟩)) (m_right_nd (m_right_lf ⟨3, dX10_gamesOn_49, rfl, rfl, 122, 0, 10, (yX10_goesBack, cX10_goesBack, 2, none), rfl, me_X10_goesBack, mc_X10_goesBack, Or.inl ⟨(RX10, TX10, 24), rfl, rfl⟩, wd_1147, wd_1149, wd_44, wd_71⟩) (m_right_lf ⟨1, dX10_gamesOn_52, rfl, rfl⟩)))))
theorem dX10_lowest_0 : decode cX10_lowest 0 = .ok (.lload_n 0, 1) := by decide +kernel
theorem dX10_lowest_1 : decode cX10_lowest 1 = .ok (.lconst 0, 1) := by decide +kernel
theorem dX10_lowest_2 : decode cX10_lowest 2 = .ok (.lcmp, 1) := by decide +kernel
theorem dX10_lowest_3 : decode cX10_lowest 3 = .ok (.ifCond .ge 8, 3) := by decide +kernel
theorem dX10_lowest_6 : decode cX10_lowest 6 = .ok (.lload_n 0, 1) := by decide +kernel
theorem dX10_lowest_7 : decode cX10_lowest 7 = .ok (.lneg, 1) := by decide +kernel
theorem dX10_lowest_8 : decode cX10_lowest 8 = .ok (.goto 4, 3) := by decide +kernel
theorem dX10_lowest_11 : decode cX10_lowest 11 = .ok (.lload_n 0, 1) := by decide +kernel
theorem dX10_lowest_12 : decode cX10_lowest 12 = .ok (.lstore 5, 2) := by decide +kernel
theorem dX10_lowest_14 : decode cX10_lowest 14 = .ok (.lload_n 2, 1) := by decide +kernel
theorem dX10_lowest_15 : decode cX10_lowest 15 = .ok (.lstore 7, 2) := by decide +kernel
theorem dX10_lowest_17 : decode cX10_lowest 17 = .ok (.lload 7, 2) := by decide +kernel
theorem dX10_lowest_19 : decode cX10_lowest 19 = .ok (.lconst 0, 1) := by decide +kernel
theorem dX10_lowest_20 : decode cX10_lowest 20 = .ok (.lcmp, 1) := by decide +kernel
theorem dX10_lowest_21 : decode cX10_lowest 21 = .ok (.ifCond .eq 21, 3) := by decide +kernel
theorem dX10_lowest_24 : decode cX10_lowest 24 = .ok (.lload 5, 2) := by decide +kernel
theorem dX10_lowest_26 : decode cX10_lowest 26 = .ok (.lload 7, 2) := by decide +kernel
theorem dX10_lowest_28 : decode cX10_lowest 28 = .ok (.lrem, 1) := by decide +kernel
theorem dX10_lowest_29 : decode cX10_lowest 29 = .ok (.lstore 9, 2) := by decide +kernel
theorem dX10_lowest_31 : decode cX10_lowest 31 = .ok (.lload 7, 2) := by decide +kernel
theorem dX10_lowest_33 : decode cX10_lowest 33 = .ok (.lstore 5, 2) := by decide +kernel
theorem dX10_lowest_35 : decode cX10_lowest 35 = .ok (.lload 9, 2) := by decide +kernel
theorem dX10_lowest_37 : decode cX10_lowest 37 = .ok (.lstore 7, 2) := by decide +kernel
theorem dX10_lowest_39 : decode cX10_lowest 39 = .ok (.goto (-22), 3) := by decide +kernel
theorem dX10_lowest_42 : decode cX10_lowest 42 = .ok (.iload 4, 2) := by decide +kernel
theorem dX10_lowest_44 : decode cX10_lowest 44 = .ok (.ifCond .ne 7, 3) := by decide +kernel
theorem dX10_lowest_47 : decode cX10_lowest 47 = .ok (.lload_n 0, 1) := by decide +kernel
theorem dX10_lowest_48 : decode cX10_lowest 48 = .ok (.goto 4, 3) := by decide +kernel
theorem dX10_lowest_51 : decode cX10_lowest 51 = .ok (.lload_n 2, 1) := by decide +kernel
theorem dX10_lowest_52 : decode cX10_lowest 52 = .ok (.lload 5, 2) := by decide +kernel
theorem dX10_lowest_54 : decode cX10_lowest 54 = .ok (.ldiv, 1) := by decide +kernel
theorem dX10_lowest_55 : decode cX10_lowest 55 = .ok (.lreturn, 1) := by decide +kernel
set_option maxRecDepth 20000 in
theorem r_X10_lowest : m_Right (yX10_lowest, cX10_lowest, 11, (some .long)) q_X10_lowest := m_right_nd (m_right_nd (m_right_nd (m_right_nd (m_right_nd (m_right_lf ⟨1, dX10_lowest_0, rfl, rfl, rfl⟩) (m_right_lf ⟨1, dX10_lowest_1, rfl, rfl, by decide +kernel⟩)) (m_right_nd (m_right_lf ⟨1, dX10_lowest_2, rfl, rfl⟩) (m_right_lf ⟨3, dX10_lowest_3, rfl, rfl, 11, rfl, by decide⟩))) (m_right_nd (m_right_nd (m_right_lf ⟨1, dX10_lowest_6, rfl, rfl, rfl⟩) (m_right_lf ⟨1, dX10_lowest_7, rfl, rfl⟩)) (m_right_nd (m_right_lf ⟨3, dX10_lowest_8, rfl, 12, rfl, by decide⟩) (m_right_lf ⟨1, dX10_lowest_11, rfl, rfl, rfl⟩)))) (m_right_nd (m_right_nd (m_right_nd (m_right_lf ⟨2, dX10_lowest_12, rfl, rfl, rfl⟩) (m_right_lf ⟨1, dX10_lowest_14, rfl, rfl, rfl⟩)) (m_right_nd (m_right_lf ⟨2, dX10_lowest_15, rfl, rfl, rfl⟩) (m_right_lf ⟨2, dX10_lowest_17, rfl, rfl, rfl⟩))) (m_right_nd (m_right_nd (m_right_lf ⟨1, dX10_lowest_19, rfl, rfl, by decide +kernel⟩) (m_right_lf ⟨1, dX10_lowest_20, rfl, rfl⟩)) (m_right_nd (m_right_lf ⟨3, dX10_lowest_21, rfl, rfl, 42, rfl, by decide⟩) (m_right_lf ⟨2, dX10_lowest_24, rfl, rfl, rfl⟩))))) (m_right_nd (m_right_nd (m_right_nd (m_right_nd (m_right_lf ⟨2, dX10_lowest_26, rfl, rfl, rfl⟩) (m_right_lf ⟨1, dX10_lowest_28, rfl, rfl⟩)) (m_right_nd (m_right_lf ⟨2, dX10_lowest_29, rfl, rfl, rfl⟩) (m_right_lf ⟨2, dX10_lowest_31, rfl, rfl, rfl⟩))) (m_right_nd (m_right_nd (m_right_lf ⟨2, dX10_lowest_33, rfl, rfl, rfl⟩) (m_right_lf ⟨2, dX10_lowest_35, rfl, rfl, rfl⟩)) (m_right_nd (m_right_lf ⟨2, dX10_lowest_37, rfl, rfl, rfl⟩) (m_right_lf ⟨3, dX10_lowest_39, rfl, 17, rfl, by decide⟩)))) (m_right_nd (m_right_nd (m_right_nd (m_right_lf ⟨2, dX10_lowest_42, rfl, rfl, rfl⟩) (m_right_lf ⟨3, dX10_lowest_44, rfl, rfl, 51, rfl, by decide⟩)) (m_right_nd (m_right_lf ⟨1, dX10_lowest_47, rfl, rfl, rfl⟩) (m_right_lf ⟨3, dX10_lowest_48, rfl, 52, rfl, by decide⟩))) (m_right_nd (m_right_nd (m_right_lf ⟨1, dX10_lowest_51, rfl, rfl, rfl⟩) (m_right_lf ⟨2, dX10_lowest_52, rfl, rfl, rfl⟩)) (m_right_nd (m_right_lf ⟨1, dX10_lowest_54, rfl, rfl⟩) (m_right_lf ⟨1, dX10_lowest_55, rfl, rfl⟩)))))
theorem dX10_wins_0 : decode cX10_wins 0 = .ok (.aload_n 0, 1) := by decide +kernel
theorem dX10_wins_1 : decode cX10_wins 1 = .ok (.iload_n 1, 1) := by decide +kernel
theorem dX10_wins_2 : decode cX10_wins 2 = .ok (.iload_n 2, 1) := by decide +kernel
theorem dX10_wins_3 : decode cX10_wins 3 = .ok (.invokevirtual 180, 3) := by decide +kernel
theorem dX10_wins_6 : decode cX10_wins 6 = .ok (.ifCond .eq 33, 3) := by decide +kernel
theorem dX10_wins_9 : decode cX10_wins 9 = .ok (.iload_n 3, 1) := by decide +kernel
theorem dX10_wins_10 : decode cX10_wins 10 = .ok (.iconst 0, 1) := by decide +kernel
theorem dX10_wins_11 : decode cX10_wins 11 = .ok (.bipush 12, 2) := by decide +kernel
theorem dX10_wins_13 : decode cX10_wins 13 = .ok (.invokestatic 48, 3) := by decide +kernel
theorem dX10_wins_16 : decode cX10_wins 16 = .ok (.ifCond .eq 23, 3) := by decide +kernel
theorem dX10_wins_19 : decode cX10_wins 19 = .ok (.iload 4, 2) := by decide +kernel
theorem dX10_wins_21 : decode cX10_wins 21 = .ok (.iconst 0, 1) := by decide +kernel
theorem dX10_wins_22 : decode cX10_wins 22 = .ok (.iload_n 3, 1) := by decide +kernel
theorem dX10_wins_23 : decode cX10_wins 23 = .ok (.invokestatic 48, 3) := by decide +kernel
theorem dX10_wins_26 : decode cX10_wins 26 = .ok (.ifCond .eq 13, 3) := by decide +kernel
theorem dX10_wins_29 : decode cX10_wins 29 = .ok (.iload 5, 2) := by decide +kernel
theorem dX10_wins_31 : decode cX10_wins 31 = .ok (.iconst 0, 1) := by decide +kernel
theorem dX10_wins_32 : decode cX10_wins 32 = .ok (.iconst 1, 1) := by decide +kernel
theorem dX10_wins_33 : decode cX10_wins 33 = .ok (.invokestatic 48, 3) := by decide +kernel
theorem dX10_wins_36 : decode cX10_wins 36 = .ok (.ifCond .ne 7, 3) := by decide +kernel
theorem dX10_wins_39 : decode cX10_wins 39 = .ok (.ldc2_w 184, 3) := by decide +kernel
theorem dX10_wins_42 : decode cX10_wins 42 = .ok (.lreturn, 1) := by decide +kernel
theorem dX10_wins_43 : decode cX10_wins 43 = .ok (.aload_n 0, 1) := by decide +kernel
theorem dX10_wins_44 : decode cX10_wins 44 = .ok (.iload_n 1, 1) := by decide +kernel
theorem dX10_wins_45 : decode cX10_wins 45 = .ok (.iload_n 2, 1) := by decide +kernel
theorem dX10_wins_46 : decode cX10_wins 46 = .ok (.iload_n 3, 1) := by decide +kernel
theorem dX10_wins_47 : decode cX10_wins 47 = .ok (.iconst 0, 1) := by decide +kernel
theorem dX10_wins_48 : decode cX10_wins 48 = .ok (.invokevirtual 186, 3) := by decide +kernel
theorem dX10_wins_51 : decode cX10_wins 51 = .ok (.lconst 0, 1) := by decide +kernel
theorem dX10_wins_52 : decode cX10_wins 52 = .ok (.lstore 6, 2) := by decide +kernel
theorem dX10_wins_54 : decode cX10_wins 54 = .ok (.sipush 441, 3) := by decide +kernel
theorem dX10_wins_57 : decode cX10_wins 57 = .ok (.iload 4, 2) := by decide +kernel
theorem dX10_wins_59 : decode cX10_wins 59 = .ok (.imul, 1) := by decide +kernel
theorem dX10_wins_60 : decode cX10_wins 60 = .ok (.istore 8, 2) := by decide +kernel
theorem dX10_wins_62 : decode cX10_wins 62 = .ok (.iload 8, 2) := by decide +kernel
theorem dX10_wins_64 : decode cX10_wins 64 = .ok (.sipush 441, 3) := by decide +kernel
theorem dX10_wins_67 : decode cX10_wins 67 = .ok (.iload 4, 2) := by decide +kernel
theorem dX10_wins_69 : decode cX10_wins 69 = .ok (.imul, 1) := by decide +kernel
theorem dX10_wins_70 : decode cX10_wins 70 = .ok (.sipush 441, 3) := by decide +kernel
theorem dX10_wins_73 : decode cX10_wins 73 = .ok (.iadd, 1) := by decide +kernel
theorem dX10_wins_74 : decode cX10_wins 74 = .ok (.if_icmp .ge 21, 3) := by decide +kernel
theorem dX10_wins_77 : decode cX10_wins 77 = .ok (.lload 6, 2) := by decide +kernel
theorem dX10_wins_79 : decode cX10_wins 79 = .ok (.aload_n 0, 1) := by decide +kernel
theorem dX10_wins_80 : decode cX10_wins 80 = .ok (.getfield 28, 3) := by decide +kernel
theorem dX10_wins_83 : decode cX10_wins 83 = .ok (.iload 8, 2) := by decide +kernel
theorem dX10_wins_85 : decode cX10_wins 85 = .ok (.laload, 1) := by decide +kernel
theorem dX10_wins_86 : decode cX10_wins 86 = .ok (.ladd, 1) := by decide +kernel
theorem dX10_wins_87 : decode cX10_wins 87 = .ok (.lstore 6, 2) := by decide +kernel
theorem dX10_wins_89 : decode cX10_wins 89 = .ok (.iinc 8 1, 3) := by decide +kernel
theorem dX10_wins_92 : decode cX10_wins 92 = .ok (.goto (-30), 3) := by decide +kernel
theorem dX10_wins_95 : decode cX10_wins 95 = .ok (.lload 6, 2) := by decide +kernel
theorem dX10_wins_97 : decode cX10_wins 97 = .ok (.iload_n 3, 1) := by decide +kernel
theorem dX10_wins_98 : decode cX10_wins 98 = .ok (.invokestatic 190, 3) := by decide +kernel
theorem dX10_wins_101 : decode cX10_wins 101 = .ok (.iload 5, 2) := by decide +kernel
theorem dX10_wins_103 : decode cX10_wins 103 = .ok (.invokestatic 194, 3) := by decide +kernel
theorem dX10_wins_106 : decode cX10_wins 106 = .ok (.lreturn, 1) := by decide +kernel
set_option maxRecDepth 20000 in
theorem r_X10_wins : m_Right (yX10_wins, cX10_wins, 9, (some .long)) q_X10_wins := m_right_nd (m_right_nd (m_right_nd (m_right_nd (m_right_nd (m_right_lf ⟨1, dX10_wins_0, rfl, rfl, rfl⟩) (m_right_nd (m_right_lf ⟨1, dX10_wins_1, rfl, rfl, rfl⟩) (m_right_lf ⟨1, dX10_wins_2, rfl, rfl, rfl⟩))) (m_right_nd (m_right_nd (m_right_lf ⟨3, dX10_wins_3, rfl, rfl, 120, 2, 10, (yX10_areTwo, cX10_areTwo, 3, (some .boolean)), rfl, me_X10_areTwo, mc_X10_areTwo, Or.inl ⟨(RX10, TX10, 24), rfl, rfl⟩, wd_1125, wd_1127, wd_39, wd_71⟩) (m_right_lf ⟨3, dX10_wins_6, rfl, rfl, 39, rfl, by decide⟩)) (m_right_nd (m_right_lf ⟨1, dX10_wins_9, rfl, rfl, rfl⟩) (m_right_lf ⟨1, dX10_wins_10, rfl, rfl, by decide +kernel⟩)))) (m_right_nd (m_right_nd (m_right_lf ⟨2, dX10_wins_11, rfl, rfl, by decide +kernel⟩) (m_right_nd (m_right_lf ⟨3, dX10_wins_13, rfl, rfl, Or.inr (Or.inr ⟨118, 3, (yX10_in, cX10_in, 3, (some .boolean)), rfl, me_X10_in, mc_X10_in, wd_943, wd_944, wd_71⟩)⟩) (m_right_lf ⟨3, dX10_wins_16, rfl, rfl, 39, rfl, by decide⟩))) (m_right_nd (m_right_nd (m_right_lf ⟨2, dX10_wins_19, rfl, rfl, rfl⟩) (m_right_lf ⟨1, dX10_wins_21, rfl, rfl, by decide +kernel⟩)) (m_right_nd (m_right_lf ⟨1, dX10_wins_22, rfl, rfl, rfl⟩) (m_right_lf ⟨3, dX10_wins_23, rfl, rfl, Or.inr (Or.inr ⟨118, 3, (yX10_in, cX10_in, 3, (some .boolean)), rfl, me_X10_in, mc_X10_in, wd_943, wd_944, wd_71⟩)⟩))))) (m_right_nd (m_right_nd (m_right_nd (m_right_lf ⟨3, dX10_wins_26, rfl, rfl, 39, rfl, by decide⟩) (m_right_nd (m_right_lf ⟨2, dX10_wins_29, rfl, rfl, rfl⟩) (m_right_lf ⟨1, dX10_wins_31, rfl, rfl, by decide +kernel⟩))) (m_right_nd (m_right_nd (m_right_lf ⟨1, dX10_wins_32, rfl, rfl, by decide +kernel⟩) (m_right_lf ⟨3, dX10_wins_33, rfl, rfl, Or.inr (Or.inr ⟨118, 3, (yX10_in, cX10_in, 3, (some .boolean)), rfl, me_X10_in, mc_X10_in, wd_943, wd_944, wd_71⟩)⟩)) (m_right_nd (m_right_lf ⟨3, dX10_wins_36, rfl, rfl, 43, rfl, by decide⟩) (m_right_lf ⟨3, dX10_wins_39, rfl, rfl, _, rfl, wd_1129⟩)))) (m_right_nd (m_right_nd (m_right_lf ⟨1, dX10_wins_42, rfl, rfl⟩) (m_right_nd (m_right_lf ⟨1, dX10_wins_43, rfl, rfl, rfl⟩) (m_right_lf ⟨1, dX10_wins_44, rfl, rfl, rfl⟩))) (m_right_nd (m_right_nd (m_right_lf ⟨1, dX10_wins_45, rfl, rfl, rfl⟩) (m_right_lf ⟨1, dX10_wins_46, rfl, rfl, rfl⟩)) (m_right_nd (m_right_lf ⟨1, dX10_wins_47, rfl, rfl, by decide +kernel⟩) (m_right_lf ⟨3, dX10_wins_48, rfl, rfl, 156, 4, 10, (yX10_gamesOn, cX10_gamesOn, 6, none), rfl, me_X10_gamesOn, mc_X10_gamesOn, Or.inl ⟨(RX10, TX10, 24), rfl, rfl⟩, wd_1130, wd_1132, wd_40, wd_71⟩)))))) (m_right_nd (m_right_nd (m_right_nd (m_right_nd (m_right_lf ⟨1, dX10_wins_51, rfl, rfl, by decide +kernel⟩) (m_right_nd (m_right_lf ⟨2, dX10_wins_52, rfl, rfl, rfl⟩) (m_right_lf ⟨3, dX10_wins_54, rfl, rfl, by decide +kernel⟩))) (m_right_nd (m_right_nd (m_right_lf ⟨2, dX10_wins_57, rfl, rfl, rfl⟩) (m_right_lf ⟨1, dX10_wins_59, rfl, rfl⟩)) (m_right_nd (m_right_lf ⟨2, dX10_wins_60, rfl, rfl, rfl⟩) (m_right_lf ⟨2, dX10_wins_62, rfl, rfl, rfl⟩)))) (m_right_nd (m_right_nd (m_right_lf ⟨3, dX10_wins_64, rfl, rfl, by decide +kernel⟩) (m_right_nd (m_right_lf ⟨2, dX10_wins_67, rfl, rfl, rfl⟩) (m_right_lf ⟨1, dX10_wins_69, rfl, rfl⟩))) (m_right_nd (m_right_nd (m_right_lf ⟨3, dX10_wins_70, rfl, rfl, by decide +kernel⟩) (m_right_lf ⟨1, dX10_wins_73, rfl, rfl⟩)) (m_right_nd (m_right_lf ⟨3, dX10_wins_74, rfl, rfl, 95, rfl, by decide⟩) (m_right_lf ⟨2, dX10_wins_77, rfl, rfl, rfl⟩))))) (m_right_nd (m_right_nd (m_right_nd (m_right_lf ⟨1, dX10_wins_79, rfl, rfl, rfl⟩) (m_right_nd (m_right_lf ⟨3, dX10_wins_80, rfl, rfl, 10, 12, rfl, Or.inl ⟨(RX10, TX10, 24), rfl, by decide, wd_878⟩⟩) (m_right_lf ⟨2, dX10_wins_83, rfl, rfl, rfl⟩))) (m_right_nd (m_right_nd (m_right_lf ⟨1, dX10_wins_85, rfl, rfl⟩) (m_right_lf ⟨1, dX10_wins_86, rfl, rfl⟩)) (m_right_nd (m_right_lf ⟨2, dX10_wins_87, rfl, rfl, rfl⟩) (m_right_lf ⟨3, dX10_wins_89, rfl, rfl, rfl, by decide +kernel⟩)))) (m_right_nd (m_right_nd (m_right_lf ⟨3, dX10_wins_92, rfl, 62, rfl, by decide⟩) (m_right_nd (m_right_lf ⟨2, dX10_wins_95, rfl, rfl, rfl⟩) (m_right_lf ⟨1, dX10_wins_97, rfl, rfl, rfl⟩))) (m_right_nd (m_right_nd (m_right_lf ⟨3, dX10_wins_98, rfl, rfl, Or.inr (Or.inr ⟨153, 1, (yX10_tens, cX10_tens, 4, (some .long)), rfl, me_X10_tens, mc_X10_tens, wd_1151, wd_1152, wd_71⟩)⟩) (m_right_lf ⟨2, dX10_wins_101, rfl, rfl, rfl⟩)) (m_right_nd (m_right_lf ⟨3, dX10_wins_103, rfl, rfl, Or.inr (Or.inr ⟨157, 3, (yX10_lowest, cX10_lowest, 11, (some .long)), rfl, me_X10_lowest, mc_X10_lowest, wd_1154, wd_1155, wd_71⟩)⟩) (m_right_lf ⟨1, dX10_wins_106, rfl, rfl⟩))))))
theorem dX10_mean_0 : decode cX10_mean 0 = .ok (.aload_n 0, 1) := by decide +kernel
theorem dX10_mean_1 : decode cX10_mean 1 = .ok (.iload_n 1, 1) := by decide +kernel
theorem dX10_mean_2 : decode cX10_mean 2 = .ok (.iload_n 2, 1) := by decide +kernel
theorem dX10_mean_3 : decode cX10_mean 3 = .ok (.invokevirtual 180, 3) := by decide +kernel
theorem dX10_mean_6 : decode cX10_mean 6 = .ok (.ifCond .eq 23, 3) := by decide +kernel
theorem dX10_mean_9 : decode cX10_mean 9 = .ok (.iload_n 3, 1) := by decide +kernel
theorem dX10_mean_10 : decode cX10_mean 10 = .ok (.iconst 0, 1) := by decide +kernel
theorem dX10_mean_11 : decode cX10_mean 11 = .ok (.bipush 12, 2) := by decide +kernel
theorem dX10_mean_13 : decode cX10_mean 13 = .ok (.invokestatic 48, 3) := by decide +kernel
theorem dX10_mean_16 : decode cX10_mean 16 = .ok (.ifCond .eq 13, 3) := by decide +kernel
theorem dX10_mean_19 : decode cX10_mean 19 = .ok (.iload 4, 2) := by decide +kernel
theorem dX10_mean_21 : decode cX10_mean 21 = .ok (.iconst 0, 1) := by decide +kernel
theorem dX10_mean_22 : decode cX10_mean 22 = .ok (.iconst 1, 1) := by decide +kernel
theorem dX10_mean_23 : decode cX10_mean 23 = .ok (.invokestatic 48, 3) := by decide +kernel
theorem dX10_mean_26 : decode cX10_mean 26 = .ok (.ifCond .ne 7, 3) := by decide +kernel
theorem dX10_mean_29 : decode cX10_mean 29 = .ok (.ldc2_w 184, 3) := by decide +kernel
theorem dX10_mean_32 : decode cX10_mean 32 = .ok (.lreturn, 1) := by decide +kernel
theorem dX10_mean_33 : decode cX10_mean 33 = .ok (.aload_n 0, 1) := by decide +kernel
theorem dX10_mean_34 : decode cX10_mean 34 = .ok (.iload_n 1, 1) := by decide +kernel
theorem dX10_mean_35 : decode cX10_mean 35 = .ok (.iload_n 2, 1) := by decide +kernel
theorem dX10_mean_36 : decode cX10_mean 36 = .ok (.iload_n 3, 1) := by decide +kernel
theorem dX10_mean_37 : decode cX10_mean 37 = .ok (.iconst 0, 1) := by decide +kernel
theorem dX10_mean_38 : decode cX10_mean 38 = .ok (.invokevirtual 186, 3) := by decide +kernel
theorem dX10_mean_41 : decode cX10_mean 41 = .ok (.lconst 0, 1) := by decide +kernel
theorem dX10_mean_42 : decode cX10_mean 42 = .ok (.lstore 5, 2) := by decide +kernel
theorem dX10_mean_44 : decode cX10_mean 44 = .ok (.iconst 0, 1) := by decide +kernel
theorem dX10_mean_45 : decode cX10_mean 45 = .ok (.istore 7, 2) := by decide +kernel
theorem dX10_mean_47 : decode cX10_mean 47 = .ok (.iload 7, 2) := by decide +kernel
theorem dX10_mean_49 : decode cX10_mean 49 = .ok (.sipush 5733, 3) := by decide +kernel
theorem dX10_mean_52 : decode cX10_mean 52 = .ok (.if_icmp .ge 31, 3) := by decide +kernel
theorem dX10_mean_55 : decode cX10_mean 55 = .ok (.lload 5, 2) := by decide +kernel
theorem dX10_mean_57 : decode cX10_mean 57 = .ok (.iload 7, 2) := by decide +kernel
theorem dX10_mean_59 : decode cX10_mean 59 = .ok (.bipush 21, 2) := by decide +kernel
theorem dX10_mean_61 : decode cX10_mean 61 = .ok (.idiv, 1) := by decide +kernel
theorem dX10_mean_62 : decode cX10_mean 62 = .ok (.bipush 21, 2) := by decide +kernel
theorem dX10_mean_64 : decode cX10_mean 64 = .ok (.irem, 1) := by decide +kernel
theorem dX10_mean_65 : decode cX10_mean 65 = .ok (.i2l, 1) := by decide +kernel
theorem dX10_mean_66 : decode cX10_mean 66 = .ok (.aload_n 0, 1) := by decide +kernel
theorem dX10_mean_67 : decode cX10_mean 67 = .ok (.getfield 28, 3) := by decide +kernel
theorem dX10_mean_70 : decode cX10_mean 70 = .ok (.iload 7, 2) := by decide +kernel
theorem dX10_mean_72 : decode cX10_mean 72 = .ok (.laload, 1) := by decide +kernel
theorem dX10_mean_73 : decode cX10_mean 73 = .ok (.lmul, 1) := by decide +kernel
theorem dX10_mean_74 : decode cX10_mean 74 = .ok (.ladd, 1) := by decide +kernel
theorem dX10_mean_75 : decode cX10_mean 75 = .ok (.lstore 5, 2) := by decide +kernel
theorem dX10_mean_77 : decode cX10_mean 77 = .ok (.iinc 7 1, 3) := by decide +kernel
theorem dX10_mean_80 : decode cX10_mean 80 = .ok (.goto (-33), 3) := by decide +kernel
theorem dX10_mean_83 : decode cX10_mean 83 = .ok (.lload 5, 2) := by decide +kernel
theorem dX10_mean_85 : decode cX10_mean 85 = .ok (.iload_n 3, 1) := by decide +kernel
theorem dX10_mean_86 : decode cX10_mean 86 = .ok (.invokestatic 190, 3) := by decide +kernel
theorem dX10_mean_89 : decode cX10_mean 89 = .ok (.iload 4, 2) := by decide +kernel
theorem dX10_mean_91 : decode cX10_mean 91 = .ok (.invokestatic 194, 3) := by decide +kernel
theorem dX10_mean_94 : decode cX10_mean 94 = .ok (.lreturn, 1) := by decide +kernel
set_option maxRecDepth 20000 in
theorem r_X10_mean : m_Right (yX10_mean, cX10_mean, 8, (some .long)) q_X10_mean := m_right_nd (m_right_nd (m_right_nd (m_right_nd (m_right_nd (m_right_lf ⟨1, dX10_mean_0, rfl, rfl, rfl⟩) (m_right_nd (m_right_lf ⟨1, dX10_mean_1, rfl, rfl, rfl⟩) (m_right_lf ⟨1, dX10_mean_2, rfl, rfl, rfl⟩))) (m_right_nd (m_right_lf ⟨3, dX10_mean_3, rfl, rfl, 120, 2, 10, (yX10_areTwo, cX10_areTwo, 3, (some .boolean)), rfl, me_X10_areTwo, mc_X10_areTwo, Or.inl ⟨(RX10, TX10, 24), rfl, rfl⟩, wd_1125, wd_1127, wd_39, wd_71⟩) (m_right_nd (m_right_lf ⟨3, dX10_mean_6, rfl, rfl, 29, rfl, by decide⟩) (m_right_lf ⟨1, dX10_mean_9, rfl, rfl, rfl⟩)))) (m_right_nd (m_right_nd (m_right_lf ⟨1, dX10_mean_10, rfl, rfl, by decide +kernel⟩) (m_right_nd (m_right_lf ⟨2, dX10_mean_11, rfl, rfl, by decide +kernel⟩) (m_right_lf ⟨3, dX10_mean_13, rfl, rfl, Or.inr (Or.inr ⟨118, 3, (yX10_in, cX10_in, 3, (some .boolean)), rfl, me_X10_in, mc_X10_in, wd_943, wd_944, wd_71⟩)⟩))) (m_right_nd (m_right_nd (m_right_lf ⟨3, dX10_mean_16, rfl, rfl, 29, rfl, by decide⟩) (m_right_lf ⟨2, dX10_mean_19, rfl, rfl, rfl⟩)) (m_right_nd (m_right_lf ⟨1, dX10_mean_21, rfl, rfl, by decide +kernel⟩) (m_right_lf ⟨1, dX10_mean_22, rfl, rfl, by decide +kernel⟩))))) (m_right_nd (m_right_nd (m_right_nd (m_right_lf ⟨3, dX10_mean_23, rfl, rfl, Or.inr (Or.inr ⟨118, 3, (yX10_in, cX10_in, 3, (some .boolean)), rfl, me_X10_in, mc_X10_in, wd_943, wd_944, wd_71⟩)⟩) (m_right_nd (m_right_lf ⟨3, dX10_mean_26, rfl, rfl, 33, rfl, by decide⟩) (m_right_lf ⟨3, dX10_mean_29, rfl, rfl, _, rfl, wd_1129⟩))) (m_right_nd (m_right_lf ⟨1, dX10_mean_32, rfl, rfl⟩) (m_right_nd (m_right_lf ⟨1, dX10_mean_33, rfl, rfl, rfl⟩) (m_right_lf ⟨1, dX10_mean_34, rfl, rfl, rfl⟩)))) (m_right_nd (m_right_nd (m_right_lf ⟨1, dX10_mean_35, rfl, rfl, rfl⟩) (m_right_nd (m_right_lf ⟨1, dX10_mean_36, rfl, rfl, rfl⟩) (m_right_lf ⟨1, dX10_mean_37, rfl, rfl, by decide +kernel⟩))) (m_right_nd (m_right_nd (m_right_lf ⟨3, dX10_mean_38, rfl, rfl, 156, 4, 10, (yX10_gamesOn, cX10_gamesOn, 6, none), rfl, me_X10_gamesOn, mc_X10_gamesOn, Or.inl ⟨(RX10, TX10, 24), rfl, rfl⟩, wd_1130, wd_1132, wd_40, wd_71⟩) (m_right_lf ⟨1, dX10_mean_41, rfl, rfl, by decide +kernel⟩)) (m_right_nd (m_right_lf ⟨2, dX10_mean_42, rfl, rfl, rfl⟩) (m_right_lf ⟨1, dX10_mean_44, rfl, rfl, by decide +kernel⟩)))))) (m_right_nd (m_right_nd (m_right_nd (m_right_nd (m_right_lf ⟨2, dX10_mean_45, rfl, rfl, rfl⟩) (m_right_nd (m_right_lf ⟨2, dX10_mean_47, rfl, rfl, rfl⟩) (m_right_lf ⟨3, dX10_mean_49, rfl, rfl, by decide +kernel⟩))) (m_right_nd (m_right_lf ⟨3, dX10_mean_52, rfl, rfl, 83, rfl, by decide⟩) (m_right_nd (m_right_lf ⟨2, dX10_mean_55, rfl, rfl, rfl⟩) (m_right_lf ⟨2, dX10_mean_57, rfl, rfl, rfl⟩)))) (m_right_nd (m_right_nd (m_right_lf ⟨2, dX10_mean_59, rfl, rfl, by decide +kernel⟩) (m_right_nd (m_right_lf ⟨1, dX10_mean_61, rfl, rfl⟩) (m_right_lf ⟨2, dX10_mean_62, rfl, rfl, by decide +kernel⟩))) (m_right_nd (m_right_nd (m_right_lf ⟨1, dX10_mean_64, rfl, rfl⟩) (m_right_lf ⟨1, dX10_mean_65, rfl, rfl⟩)) (m_right_nd (m_right_lf ⟨1, dX10_mean_66, rfl, rfl, rfl⟩) (m_right_lf ⟨3, dX10_mean_67, rfl, rfl, 10, 12, rfl, Or.inl ⟨(RX10, TX10, 24), rfl, by decide, wd_878⟩⟩))))) (m_right_nd (m_right_nd (m_right_nd (m_right_lf ⟨2, dX10_mean_70, rfl, rfl, rfl⟩) (m_right_nd (m_right_lf ⟨1, dX10_mean_72, rfl, rfl⟩) (m_right_lf ⟨1, dX10_mean_73, rfl, rfl⟩))) (m_right_nd (m_right_lf ⟨1, dX10_mean_74, rfl, rfl⟩) (m_right_nd (m_right_lf ⟨2, dX10_mean_75, rfl, rfl, rfl⟩) (m_right_lf ⟨3, dX10_mean_77, rfl, rfl, rfl, by decide +kernel⟩)))) (m_right_nd (m_right_nd (m_right_lf ⟨3, dX10_mean_80, rfl, 47, rfl, by decide⟩) (m_right_nd (m_right_lf ⟨2, dX10_mean_83, rfl, rfl, rfl⟩) (m_right_lf ⟨1, dX10_mean_85, rfl, rfl, rfl⟩))) (m_right_nd (m_right_nd (m_right_lf ⟨3, dX10_mean_86, rfl, rfl, Or.inr (Or.inr ⟨153, 1, (yX10_tens, cX10_tens, 4, (some .long)), rfl, me_X10_tens, mc_X10_tens, wd_1151, wd_1152, wd_71⟩)⟩) (m_right_lf ⟨2, dX10_mean_89, rfl, rfl, rfl⟩)) (m_right_nd (m_right_lf ⟨3, dX10_mean_91, rfl, rfl, Or.inr (Or.inr ⟨157, 3, (yX10_lowest, cX10_lowest, 11, (some .long)), rfl, me_X10_lowest, mc_X10_lowest, wd_1154, wd_1155, wd_71⟩)⟩) (m_right_lf ⟨1, dX10_mean_94, rfl, rfl⟩))))))
theorem dX10_firsts_0 : decode cX10_firsts 0 = .ok (.iconst 2, 1) := by decide +kernel
theorem dX10_firsts_1 : decode cX10_firsts 1 = .ok (.iload 5, 2) := by decide +kernel
theorem dX10_firsts_3 : decode cX10_firsts 3 = .ok (.imul, 1) := by decide +kernel
theorem dX10_firsts_4 : decode cX10_firsts 4 = .ok (.iconst 1, 1) := by decide +kernel
theorem dX10_firsts_5 : decode cX10_firsts 5 = .ok (.isub, 1) := by decide +kernel
theorem dX10_firsts_6 : decode cX10_firsts 6 = .ok (.iload_n 3, 1) := by decide +kernel
theorem dX10_firsts_7 : decode cX10_firsts 7 = .ok (.isub, 1) := by decide +kernel
theorem dX10_firsts_8 : decode cX10_firsts 8 = .ok (.iload 4, 2) := by decide +kernel
theorem dX10_firsts_10 : decode cX10_firsts 10 = .ok (.isub, 1) := by decide +kernel
theorem dX10_firsts_11 : decode cX10_firsts 11 = .ok (.istore 6, 2) := by decide +kernel
theorem dX10_firsts_13 : decode cX10_firsts 13 = .ok (.iload_n 3, 1) := by decide +kernel
theorem dX10_firsts_14 : decode cX10_firsts 14 = .ok (.iload 5, 2) := by decide +kernel
theorem dX10_firsts_16 : decode cX10_firsts 16 = .ok (.if_icmp .eq 10, 3) := by decide +kernel
theorem dX10_firsts_19 : decode cX10_firsts 19 = .ok (.iload 4, 2) := by decide +kernel
theorem dX10_firsts_21 : decode cX10_firsts 21 = .ok (.iload 5, 2) := by decide +kernel
theorem dX10_firsts_23 : decode cX10_firsts 23 = .ok (.if_icmp .ne 19, 3) := by decide +kernel
theorem dX10_firsts_26 : decode cX10_firsts 26 = .ok (.iload_n 3, 1) := by decide +kernel
theorem dX10_firsts_27 : decode cX10_firsts 27 = .ok (.iload 5, 2) := by decide +kernel
theorem dX10_firsts_29 : decode cX10_firsts 29 = .ok (.if_icmp .ne 11, 3) := by decide +kernel
theorem dX10_firsts_32 : decode cX10_firsts 32 = .ok (.iload 6, 2) := by decide +kernel
theorem dX10_firsts_34 : decode cX10_firsts 34 = .ok (.invokestatic 190, 3) := by decide +kernel
theorem dX10_firsts_37 : decode cX10_firsts 37 = .ok (.goto 4, 3) := by decide +kernel
theorem dX10_firsts_40 : decode cX10_firsts 40 = .ok (.lconst 0, 1) := by decide +kernel
theorem dX10_firsts_41 : decode cX10_firsts 41 = .ok (.lreturn, 1) := by decide +kernel
theorem dX10_firsts_42 : decode cX10_firsts 42 = .ok (.aload_n 0, 1) := by decide +kernel
theorem dX10_firsts_43 : decode cX10_firsts 43 = .ok (.iload_n 1, 1) := by decide +kernel
theorem dX10_firsts_44 : decode cX10_firsts 44 = .ok (.iload_n 2, 1) := by decide +kernel
theorem dX10_firsts_45 : decode cX10_firsts 45 = .ok (.invokevirtual 148, 3) := by decide +kernel
theorem dX10_firsts_48 : decode cX10_firsts 48 = .ok (.istore 7, 2) := by decide +kernel
theorem dX10_firsts_50 : decode cX10_firsts 50 = .ok (.aload_n 0, 1) := by decide +kernel
theorem dX10_firsts_51 : decode cX10_firsts 51 = .ok (.getfield 9, 3) := by decide +kernel
theorem dX10_firsts_54 : decode cX10_firsts 54 = .ok (.iconst 1, 1) := by decide +kernel
theorem dX10_firsts_55 : decode cX10_firsts 55 = .ok (.iload_n 1, 1) := by decide +kernel
theorem dX10_firsts_56 : decode cX10_firsts 56 = .ok (.iadd, 1) := by decide +kernel
theorem dX10_firsts_57 : decode cX10_firsts 57 = .ok (.iaload, 1) := by decide +kernel
theorem dX10_firsts_58 : decode cX10_firsts 58 = .ok (.istore 8, 2) := by decide +kernel
theorem dX10_firsts_60 : decode cX10_firsts 60 = .ok (.aload_n 0, 1) := by decide +kernel
theorem dX10_firsts_61 : decode cX10_firsts 61 = .ok (.getfield 9, 3) := by decide +kernel
theorem dX10_firsts_64 : decode cX10_firsts 64 = .ok (.iconst 1, 1) := by decide +kernel
theorem dX10_firsts_65 : decode cX10_firsts 65 = .ok (.iload_n 2, 1) := by decide +kernel
theorem dX10_firsts_66 : decode cX10_firsts 66 = .ok (.iadd, 1) := by decide +kernel
theorem dX10_firsts_67 : decode cX10_firsts 67 = .ok (.iaload, 1) := by decide +kernel
theorem dX10_firsts_68 : decode cX10_firsts 68 = .ok (.istore 9, 2) := by decide +kernel
theorem dX10_firsts_70 : decode cX10_firsts 70 = .ok (.aload_n 0, 1) := by decide +kernel
theorem dX10_firsts_71 : decode cX10_firsts 71 = .ok (.iload_n 1, 1) := by decide +kernel
theorem dX10_firsts_72 : decode cX10_firsts 72 = .ok (.iload_n 2, 1) := by decide +kernel
theorem dX10_firsts_73 : decode cX10_firsts 73 = .ok (.invokevirtual 157, 3) := by decide +kernel
theorem dX10_firsts_76 : decode cX10_firsts 76 = .ok (.iload 7, 2) := by decide +kernel
theorem dX10_firsts_78 : decode cX10_firsts 78 = .ok (.i2l, 1) := by decide +kernel
theorem dX10_firsts_79 : decode cX10_firsts 79 = .ok (.aload_n 0, 1) := by decide +kernel
theorem dX10_firsts_80 : decode cX10_firsts 80 = .ok (.iload_n 1, 1) := by decide +kernel
theorem dX10_firsts_81 : decode cX10_firsts 81 = .ok (.iload_n 2, 1) := by decide +kernel
theorem dX10_firsts_82 : decode cX10_firsts 82 = .ok (.iload_n 3, 1) := by decide +kernel
theorem dX10_firsts_83 : decode cX10_firsts 83 = .ok (.iconst 1, 1) := by decide +kernel
theorem dX10_firsts_84 : decode cX10_firsts 84 = .ok (.iadd, 1) := by decide +kernel
theorem dX10_firsts_85 : decode cX10_firsts 85 = .ok (.iload 4, 2) := by decide +kernel
theorem dX10_firsts_87 : decode cX10_firsts 87 = .ok (.iload 5, 2) := by decide +kernel
theorem dX10_firsts_89 : decode cX10_firsts 89 = .ok (.invokevirtual 198, 3) := by decide +kernel
theorem dX10_firsts_92 : decode cX10_firsts 92 = .ok (.lmul, 1) := by decide +kernel
theorem dX10_firsts_93 : decode cX10_firsts 93 = .ok (.lstore 10, 2) := by decide +kernel
theorem dX10_firsts_95 : decode cX10_firsts 95 = .ok (.aload_n 0, 1) := by decide +kernel
theorem dX10_firsts_96 : decode cX10_firsts 96 = .ok (.getfield 9, 3) := by decide +kernel
theorem dX10_firsts_99 : decode cX10_firsts 99 = .ok (.iconst 1, 1) := by decide +kernel
theorem dX10_firsts_100 : decode cX10_firsts 100 = .ok (.iload_n 1, 1) := by decide +kernel
theorem dX10_firsts_101 : decode cX10_firsts 101 = .ok (.iadd, 1) := by decide +kernel
theorem dX10_firsts_102 : decode cX10_firsts 102 = .ok (.aload_n 0, 1) := by decide +kernel
theorem dX10_firsts_103 : decode cX10_firsts 103 = .ok (.iload 8, 2) := by decide +kernel
theorem dX10_firsts_105 : decode cX10_firsts 105 = .ok (.invokevirtual 154, 3) := by decide +kernel
theorem dX10_firsts_108 : decode cX10_firsts 108 = .ok (.iastore, 1) := by decide +kernel
theorem dX10_firsts_109 : decode cX10_firsts 109 = .ok (.aload_n 0, 1) := by decide +kernel
theorem dX10_firsts_110 : decode cX10_firsts 110 = .ok (.getfield 9, 3) := by decide +kernel
theorem dX10_firsts_113 : decode cX10_firsts 113 = .ok (.iconst 1, 1) := by decide +kernel
theorem dX10_firsts_114 : decode cX10_firsts 114 = .ok (.iload_n 2, 1) := by decide +kernel
theorem dX10_firsts_115 : decode cX10_firsts 115 = .ok (.iadd, 1) := by decide +kernel
theorem dX10_firsts_116 : decode cX10_firsts 116 = .ok (.aload_n 0, 1) := by decide +kernel
theorem dX10_firsts_117 : decode cX10_firsts 117 = .ok (.iload 9, 2) := by decide +kernel
theorem dX10_firsts_119 : decode cX10_firsts 119 = .ok (.invokevirtual 151, 3) := by decide +kernel
theorem dX10_firsts_122 : decode cX10_firsts 122 = .ok (.iastore, 1) := by decide +kernel
theorem dX10_firsts_123 : decode cX10_firsts 123 = .ok (.lload 10, 2) := by decide +kernel
theorem dX10_firsts_125 : decode cX10_firsts 125 = .ok (.bipush 10, 2) := by decide +kernel
theorem dX10_firsts_127 : decode cX10_firsts 127 = .ok (.iload 7, 2) := by decide +kernel
theorem dX10_firsts_129 : decode cX10_firsts 129 = .ok (.isub, 1) := by decide +kernel
theorem dX10_firsts_130 : decode cX10_firsts 130 = .ok (.i2l, 1) := by decide +kernel
theorem dX10_firsts_131 : decode cX10_firsts 131 = .ok (.aload_n 0, 1) := by decide +kernel
theorem dX10_firsts_132 : decode cX10_firsts 132 = .ok (.iload_n 1, 1) := by decide +kernel
theorem dX10_firsts_133 : decode cX10_firsts 133 = .ok (.iload_n 2, 1) := by decide +kernel
theorem dX10_firsts_134 : decode cX10_firsts 134 = .ok (.iload_n 3, 1) := by decide +kernel
theorem dX10_firsts_135 : decode cX10_firsts 135 = .ok (.iload 4, 2) := by decide +kernel
theorem dX10_firsts_137 : decode cX10_firsts 137 = .ok (.iconst 1, 1) := by decide +kernel
theorem dX10_firsts_138 : decode cX10_firsts 138 = .ok (.iadd, 1) := by decide +kernel
theorem dX10_firsts_139 : decode cX10_firsts 139 = .ok (.iload 5, 2) := by decide +kernel
theorem dX10_firsts_141 : decode cX10_firsts 141 = .ok (.invokevirtual 198, 3) := by decide +kernel
theorem dX10_firsts_144 : decode cX10_firsts 144 = .ok (.lmul, 1) := by decide +kernel
theorem dX10_firsts_145 : decode cX10_firsts 145 = .ok (.ladd, 1) := by decide +kernel
theorem dX10_firsts_146 : decode cX10_firsts 146 = .ok (.lstore 10, 2) := by decide +kernel
theorem dX10_firsts_148 : decode cX10_firsts 148 = .ok (.aload_n 0, 1) := by decide +kernel
theorem dX10_firsts_149 : decode cX10_firsts 149 = .ok (.getfield 9, 3) := by decide +kernel
theorem dX10_firsts_152 : decode cX10_firsts 152 = .ok (.iconst 1, 1) := by decide +kernel
theorem dX10_firsts_153 : decode cX10_firsts 153 = .ok (.iload_n 1, 1) := by decide +kernel
theorem dX10_firsts_154 : decode cX10_firsts 154 = .ok (.iadd, 1) := by decide +kernel
theorem dX10_firsts_155 : decode cX10_firsts 155 = .ok (.iload 8, 2) := by decide +kernel
theorem dX10_firsts_157 : decode cX10_firsts 157 = .ok (.iastore, 1) := by decide +kernel
theorem dX10_firsts_158 : decode cX10_firsts 158 = .ok (.aload_n 0, 1) := by decide +kernel
theorem dX10_firsts_159 : decode cX10_firsts 159 = .ok (.getfield 9, 3) := by decide +kernel
theorem dX10_firsts_162 : decode cX10_firsts 162 = .ok (.iconst 1, 1) := by decide +kernel
theorem dX10_firsts_163 : decode cX10_firsts 163 = .ok (.iload_n 2, 1) := by decide +kernel
theorem dX10_firsts_164 : decode cX10_firsts 164 = .ok (.iadd, 1) := by decide +kernel
theorem dX10_firsts_165 : decode cX10_firsts 165 = .ok (.iload 9, 2) := by decide +kernel
theorem dX10_firsts_167 : decode cX10_firsts 167 = .ok (.iastore, 1) := by decide +kernel
theorem dX10_firsts_168 : decode cX10_firsts 168 = .ok (.aload_n 0, 1) := by decide +kernel
theorem dX10_firsts_169 : decode cX10_firsts 169 = .ok (.getfield 9, 3) := by decide +kernel
theorem dX10_firsts_172 : decode cX10_firsts 172 = .ok (.iconst 0, 1) := by decide +kernel
theorem dX10_firsts_173 : decode cX10_firsts 173 = .ok (.dup2, 1) := by decide +kernel
theorem dX10_firsts_174 : decode cX10_firsts 174 = .ok (.iaload, 1) := by decide +kernel
theorem dX10_firsts_175 : decode cX10_firsts 175 = .ok (.iconst 1, 1) := by decide +kernel
theorem dX10_firsts_176 : decode cX10_firsts 176 = .ok (.isub, 1) := by decide +kernel
theorem dX10_firsts_177 : decode cX10_firsts 177 = .ok (.iastore, 1) := by decide +kernel
theorem dX10_firsts_178 : decode cX10_firsts 178 = .ok (.lload 10, 2) := by decide +kernel
theorem dX10_firsts_180 : decode cX10_firsts 180 = .ok (.lreturn, 1) := by decide +kernel
set_option maxRecDepth 20000 in
theorem r_X10_firsts : m_Right (yX10_firsts, cX10_firsts, 12, (some .long)) q_X10_firsts := m_right_nd (m_right_nd (m_right_nd (m_right_nd (m_right_nd (m_right_nd (m_right_lf ⟨1, dX10_firsts_0, rfl, rfl, by decide +kernel⟩) (m_right_nd (m_right_lf ⟨2, dX10_firsts_1, rfl, rfl, rfl⟩) (m_right_lf ⟨1, dX10_firsts_3, rfl, rfl⟩))) (m_right_nd (m_right_nd (m_right_lf ⟨1, dX10_firsts_4, rfl, rfl, by decide +kernel⟩) (m_right_lf ⟨1, dX10_firsts_5, rfl, rfl⟩)) (m_right_nd (m_right_lf ⟨1, dX10_firsts_6, rfl, rfl, rfl⟩) (m_right_lf ⟨1, dX10_firsts_7, rfl, rfl⟩)))) (m_right_nd (m_right_nd (m_right_lf ⟨2, dX10_firsts_8, rfl, rfl, rfl⟩) (m_right_nd (m_right_lf ⟨1, dX10_firsts_10, rfl, rfl⟩) (m_right_lf ⟨2, dX10_firsts_11, rfl, rfl, rfl⟩))) (m_right_nd (m_right_nd (m_right_lf ⟨1, dX10_firsts_13, rfl, rfl, rfl⟩) (m_right_lf ⟨2, dX10_firsts_14, rfl, rfl, rfl⟩)) (m_right_nd (m_right_lf ⟨3, dX10_firsts_16, rfl, rfl, 26, rfl, by decide⟩) (m_right_lf ⟨2, dX10_firsts_19, rfl, rfl, rfl⟩))))) (m_right_nd (m_right_nd (m_right_nd (m_right_lf ⟨2, dX10_firsts_21, rfl, rfl, rfl⟩) (m_right_nd (m_right_lf ⟨3, dX10_firsts_23, rfl, rfl, 42, rfl, by decide⟩) (m_right_lf ⟨1, dX10_firsts_26, rfl, rfl, rfl⟩))) (m_right_nd (m_right_nd (m_right_lf ⟨2, dX10_firsts_27, rfl, rfl, rfl⟩) (m_right_lf ⟨3, dX10_firsts_29, rfl, rfl, 40, rfl, by decide⟩)) (m_right_nd (m_right_lf ⟨2, dX10_firsts_32, rfl, rfl, rfl⟩) (m_right_lf ⟨3, dX10_firsts_34, rfl, rfl, Or.inr (Or.inr ⟨153, 1, (yX10_tens, cX10_tens, 4, (some .long)), rfl, me_X10_tens, mc_X10_tens, wd_1151, wd_1152, wd_71⟩)⟩)))) (m_right_nd (m_right_nd (m_right_nd (m_right_lf ⟨3, dX10_firsts_37, rfl, 41, rfl, by decide⟩) (m_right_lf ⟨1, dX10_firsts_40, rfl, rfl, by decide +kernel⟩)) (m_right_nd (m_right_lf ⟨1, dX10_firsts_41, rfl, rfl⟩) (m_right_lf ⟨1, dX10_firsts_42, rfl, rfl, rfl⟩))) (m_right_nd (m_right_nd (m_right_lf ⟨1, dX10_firsts_43, rfl, rfl, rfl⟩) (m_right_lf ⟨1, dX10_firsts_44, rfl, rfl, rfl⟩)) (m_right_nd (m_right_lf ⟨3, dX10_firsts_45, rfl, rfl, 146, 2, 10, (yX10_oddsOf, cX10_oddsOf, 4, (some .int)), rfl, me_X10_oddsOf, mc_X10_oddsOf, Or.inl ⟨(RX10, TX10, 24), rfl, rfl⟩, wd_1101, wd_1103, wd_35, wd_71⟩) (m_right_lf ⟨2, dX10_firsts_48, rfl, rfl, rfl⟩)))))) (m_right_nd (m_right_nd (m_right_nd (m_right_nd (m_right_lf ⟨1, dX10_firsts_50, rfl, rfl, rfl⟩) (m_right_nd (m_right_lf ⟨3, dX10_firsts_51, rfl, rfl, 10, 1, rfl, Or.inl ⟨(RX10, TX10, 24), rfl, by decide, wd_867⟩⟩) (m_right_lf ⟨1, dX10_firsts_54, rfl, rfl, by decide +kernel⟩))) (m_right_nd (m_right_nd (m_right_lf ⟨1, dX10_firsts_55, rfl, rfl, rfl⟩) (m_right_lf ⟨1, dX10_firsts_56, rfl, rfl⟩)) (m_right_nd (m_right_lf ⟨1, dX10_firsts_57, rfl, rfl⟩) (m_right_lf ⟨2, dX10_firsts_58, rfl, rfl, rfl⟩)))) (m_right_nd (m_right_nd (m_right_nd (m_right_lf ⟨1, dX10_firsts_60, rfl, rfl, rfl⟩) (m_right_lf ⟨3, dX10_firsts_61, rfl, rfl, 10, 1, rfl, Or.inl ⟨(RX10, TX10, 24), rfl, by decide, wd_867⟩⟩)) (m_right_nd (m_right_lf ⟨1, dX10_firsts_64, rfl, rfl, by decide +kernel⟩) (m_right_lf ⟨1, dX10_firsts_65, rfl, rfl, rfl⟩))) (m_right_nd (m_right_nd (m_right_lf ⟨1, dX10_firsts_66, rfl, rfl⟩) (m_right_lf ⟨1, dX10_firsts_67, rfl, rfl⟩)) (m_right_nd (m_right_lf ⟨2, dX10_firsts_68, rfl, rfl, rfl⟩) (m_right_lf ⟨1, dX10_firsts_70, rfl, rfl, rfl⟩))))) (m_right_nd (m_right_nd (m_right_nd (m_right_lf ⟨1, dX10_firsts_71, rfl, rfl, rfl⟩) (m_right_nd (m_right_lf ⟨1, dX10_firsts_72, rfl, rfl, rfl⟩) (m_right_lf ⟨3, dX10_firsts_73, rfl, rfl, 151, 2, 10, (yX10_plays, cX10_plays, 3, none), rfl, me_X10_plays, mc_X10_plays, Or.inl ⟨(RX10, TX10, 24), rfl, rfl⟩, wd_1109, wd_1111, wd_36, wd_71⟩))) (m_right_nd (m_right_nd (m_right_lf ⟨2, dX10_firsts_76, rfl, rfl, rfl⟩) (m_right_lf ⟨1, dX10_firsts_78, rfl, rfl⟩)) (m_right_nd (m_right_lf ⟨1, dX10_firsts_79, rfl, rfl, rfl⟩) (m_right_lf ⟨1, dX10_firsts_80, rfl, rfl, rfl⟩)))) (m_right_nd (m_right_nd (m_right_nd (m_right_lf ⟨1, dX10_firsts_81, rfl, rfl, rfl⟩) (m_right_lf ⟨1, dX10_firsts_82, rfl, rfl, rfl⟩)) (m_right_nd (m_right_lf ⟨1, dX10_firsts_83, rfl, rfl, by decide +kernel⟩) (m_right_lf ⟨1, dX10_firsts_84, rfl, rfl⟩))) (m_right_nd (m_right_nd (m_right_lf ⟨2, dX10_firsts_85, rfl, rfl, rfl⟩) (m_right_lf ⟨2, dX10_firsts_87, rfl, rfl, rfl⟩)) (m_right_nd (m_right_lf ⟨3, dX10_firsts_89, rfl, rfl, 160, 5, 10, (yX10_firsts, cX10_firsts, 12, (some .long)), rfl, me_X10_firsts, mc_X10_firsts, Or.inl ⟨(RX10, TX10, 24), rfl, rfl⟩, wd_1165, wd_1167, wd_45, wd_71⟩) (m_right_lf ⟨1, dX10_firsts_92, rfl, rfl⟩))))))) (m_right_nd (m_right_nd (m_right_nd (m_right_nd (m_right_nd (m_right_lf ⟨2, dX10_firsts_93, rfl, rfl, rfl⟩) (m_right_nd (m_right_lf ⟨1, dX10_firsts_95, rfl, rfl, rfl⟩) (m_right_lf ⟨3, dX10_firsts_96, rfl, rfl, 10, 1, rfl, Or.inl ⟨(RX10, TX10, 24), rfl, by decide, wd_867⟩⟩))) (m_right_nd (m_right_nd (m_right_lf ⟨1, dX10_firsts_99, rfl, rfl, by decide +kernel⟩) (m_right_lf ⟨1, dX10_firsts_100, rfl, rfl, rfl⟩)) (m_right_nd (m_right_lf ⟨1, dX10_firsts_101, rfl, rfl⟩) (m_right_lf ⟨1, dX10_firsts_102, rfl, rfl, rfl⟩)))) (m_right_nd (m_right_nd (m_right_nd (m_right_lf ⟨2, dX10_firsts_103, rfl, rfl, rfl⟩) (m_right_lf ⟨3, dX10_firsts_105, rfl, rfl, 150, 1, 10, (yX10_moreOf, cX10_moreOf, 3, (some .int)), rfl, me_X10_moreOf, mc_X10_moreOf, Or.inl ⟨(RX10, TX10, 24), rfl, rfl⟩, wd_1117, wd_1119, wd_38, wd_71⟩)) (m_right_nd (m_right_lf ⟨1, dX10_firsts_108, rfl, rfl⟩) (m_right_lf ⟨1, dX10_firsts_109, rfl, rfl, rfl⟩))) (m_right_nd (m_right_nd (m_right_lf ⟨3, dX10_firsts_110, rfl, rfl, 10, 1, rfl, Or.inl ⟨(RX10, TX10, 24), rfl, by decide, wd_867⟩⟩) (m_right_lf ⟨1, dX10_firsts_113, rfl, rfl, by decide +kernel⟩)) (m_right_nd (m_right_lf ⟨1, dX10_firsts_114, rfl, rfl, rfl⟩) (m_right_lf ⟨1, dX10_firsts_115, rfl, rfl⟩))))) (m_right_nd (m_right_nd (m_right_nd (m_right_lf ⟨1, dX10_firsts_116, rfl, rfl, rfl⟩) (m_right_nd (m_right_lf ⟨2, dX10_firsts_117, rfl, rfl, rfl⟩) (m_right_lf ⟨3, dX10_firsts_119, rfl, rfl, 149, 1, 10, (yX10_fewer, cX10_fewer, 3, (some .int)), rfl, me_X10_fewer, mc_X10_fewer, Or.inl ⟨(RX10, TX10, 24), rfl, rfl⟩, wd_1113, wd_1115, wd_37, wd_71⟩))) (m_right_nd (m_right_nd (m_right_lf ⟨1, dX10_firsts_122, rfl, rfl⟩) (m_right_lf ⟨2, dX10_firsts_123, rfl, rfl, rfl⟩)) (m_right_nd (m_right_lf ⟨2, dX10_firsts_125, rfl, rfl, by decide +kernel⟩) (m_right_lf ⟨2, dX10_firsts_127, rfl, rfl, rfl⟩)))) (m_right_nd (m_right_nd (m_right_nd (m_right_lf ⟨1, dX10_firsts_129, rfl, rfl⟩) (m_right_lf ⟨1, dX10_firsts_130, rfl, rfl⟩)) (m_right_nd (m_right_lf ⟨1, dX10_firsts_131, rfl, rfl, rfl⟩) (m_right_lf ⟨1, dX10_firsts_132, rfl, rfl, rfl⟩))) (m_right_nd (m_right_nd (m_right_lf ⟨1, dX10_firsts_133, rfl, rfl, rfl⟩) (m_right_lf ⟨1, dX10_firsts_134, rfl, rfl, rfl⟩)) (m_right_nd (m_right_lf ⟨2, dX10_firsts_135, rfl, rfl, rfl⟩) (m_right_lf ⟨1, dX10_firsts_137, rfl, rfl, by decide +kernel⟩)))))) (m_right_nd (m_right_nd (m_right_nd (m_right_nd (m_right_lf ⟨1, dX10_firsts_138, rfl, rfl⟩) (m_right_nd (m_right_lf ⟨2, dX10_firsts_139, rfl, rfl, rfl⟩) (m_right_lf ⟨3, dX10_firsts_141, rfl, rfl, 160, 5, 10, (yX10_firsts, cX10_firsts, 12, (some .long)), rfl, me_X10_firsts, mc_X10_firsts, Or.inl ⟨(RX10, TX10, 24), rfl, rfl⟩, wd_1165, wd_1167, wd_45, wd_71⟩))) (m_right_nd (m_right_nd (m_right_lf ⟨1, dX10_firsts_144, rfl, rfl⟩) (m_right_lf ⟨1, dX10_firsts_145, rfl, rfl⟩)) (m_right_nd (m_right_lf ⟨2, dX10_firsts_146, rfl, rfl, rfl⟩) (m_right_lf ⟨1, dX10_firsts_148, rfl, rfl, rfl⟩)))) (m_right_nd (m_right_nd (m_right_nd (m_right_lf ⟨3, dX10_firsts_149, rfl, rfl, 10, 1, rfl, Or.inl ⟨(RX10, TX10, 24), rfl, by decide, wd_867⟩⟩) (m_right_lf ⟨1, dX10_firsts_152, rfl, rfl, by decide +kernel⟩)) (m_right_nd (m_right_lf ⟨1, dX10_firsts_153, rfl, rfl, rfl⟩) (m_right_lf ⟨1, dX10_firsts_154, rfl, rfl⟩))) (m_right_nd (m_right_nd (m_right_lf ⟨2, dX10_firsts_155, rfl, rfl, rfl⟩) (m_right_lf ⟨1, dX10_firsts_157, rfl, rfl⟩)) (m_right_nd (m_right_lf ⟨1, dX10_firsts_158, rfl, rfl, rfl⟩) (m_right_lf ⟨3, dX10_firsts_159, rfl, rfl, 10, 1, rfl, Or.inl ⟨(RX10, TX10, 24), rfl, by decide, wd_867⟩⟩))))) (m_right_nd (m_right_nd (m_right_nd (m_right_lf ⟨1, dX10_firsts_162, rfl, rfl, by decide +kernel⟩) (m_right_nd (m_right_lf ⟨1, dX10_firsts_163, rfl, rfl, rfl⟩) (m_right_lf ⟨1, dX10_firsts_164, rfl, rfl⟩))) (m_right_nd (m_right_nd (m_right_lf ⟨2, dX10_firsts_165, rfl, rfl, rfl⟩) (m_right_lf ⟨1, dX10_firsts_167, rfl, rfl⟩)) (m_right_nd (m_right_lf ⟨1, dX10_firsts_168, rfl, rfl, rfl⟩) (m_right_lf ⟨3, dX10_firsts_169, rfl, rfl, 10, 1, rfl, Or.inl ⟨(RX10, TX10, 24), rfl, by decide, wd_867⟩⟩)))) (m_right_nd (m_right_nd (m_right_nd (m_right_lf ⟨1, dX10_firsts_172, rfl, rfl, by decide +kernel⟩) (m_right_lf ⟨1, dX10_firsts_173, rfl, rfl⟩)) (m_right_nd (m_right_lf ⟨1, dX10_firsts_174, rfl, rfl⟩) (m_right_lf ⟨1, dX10_firsts_175, rfl, rfl, by decide +kernel⟩))) (m_right_nd (m_right_nd (m_right_lf ⟨1, dX10_firsts_176, rfl, rfl⟩) (m_right_lf ⟨1, dX10_firsts_177, rfl, rfl⟩)) (m_right_nd (m_right_lf ⟨2, dX10_firsts_178, rfl, rfl, rfl⟩) (m_right_lf ⟨1, dX10_firsts_180, rfl, rfl⟩)))))))
theorem dX10_series_0 : decode cX10_series 0 = .ok (.aload_n 0, 1) := by decide +kernel
theorem dX10_series_1 : decode cX10_series 1 = .ok (.iload_n 1, 1) := by decide +kernel
theorem dX10_series_2 : decode cX10_series 2 = .ok (.iload_n 2, 1) := by decide +kernel
theorem dX10_series_3 : decode cX10_series 3 = .ok (.invokevirtual 180, 3) := by decide +kernel
theorem dX10_series_6 : decode cX10_series 6 = .ok (.ifCond .eq 22, 3) := by decide +kernel
theorem dX10_series_9 : decode cX10_series 9 = .ok (.iload_n 3, 1) := by decide +kernel
theorem dX10_series_10 : decode cX10_series 10 = .ok (.iconst 1, 1) := by decide +kernel
theorem dX10_series_11 : decode cX10_series 11 = .ok (.iconst 5, 1) := by decide +kernel
theorem dX10_series_12 : decode cX10_series 12 = .ok (.invokestatic 48, 3) := by decide +kernel
theorem dX10_series_15 : decode cX10_series 15 = .ok (.ifCond .eq 13, 3) := by decide +kernel
theorem dX10_series_18 : decode cX10_series 18 = .ok (.iload 4, 2) := by decide +kernel
theorem dX10_series_20 : decode cX10_series 20 = .ok (.iconst 0, 1) := by decide +kernel
theorem dX10_series_21 : decode cX10_series 21 = .ok (.iconst 1, 1) := by decide +kernel
theorem dX10_series_22 : decode cX10_series 22 = .ok (.invokestatic 48, 3) := by decide +kernel
theorem dX10_series_25 : decode cX10_series 25 = .ok (.ifCond .ne 7, 3) := by decide +kernel
theorem dX10_series_28 : decode cX10_series 28 = .ok (.ldc2_w 184, 3) := by decide +kernel
theorem dX10_series_31 : decode cX10_series 31 = .ok (.lreturn, 1) := by decide +kernel
theorem dX10_series_32 : decode cX10_series 32 = .ok (.aload_n 0, 1) := by decide +kernel
theorem dX10_series_33 : decode cX10_series 33 = .ok (.iload_n 1, 1) := by decide +kernel
theorem dX10_series_34 : decode cX10_series 34 = .ok (.iload_n 2, 1) := by decide +kernel
theorem dX10_series_35 : decode cX10_series 35 = .ok (.iconst 0, 1) := by decide +kernel
theorem dX10_series_36 : decode cX10_series 36 = .ok (.iconst 0, 1) := by decide +kernel
theorem dX10_series_37 : decode cX10_series 37 = .ok (.iload_n 3, 1) := by decide +kernel
theorem dX10_series_38 : decode cX10_series 38 = .ok (.invokevirtual 198, 3) := by decide +kernel
theorem dX10_series_41 : decode cX10_series 41 = .ok (.iconst 2, 1) := by decide +kernel
theorem dX10_series_42 : decode cX10_series 42 = .ok (.iload_n 3, 1) := by decide +kernel
theorem dX10_series_43 : decode cX10_series 43 = .ok (.imul, 1) := by decide +kernel
theorem dX10_series_44 : decode cX10_series 44 = .ok (.iconst 1, 1) := by decide +kernel
theorem dX10_series_45 : decode cX10_series 45 = .ok (.isub, 1) := by decide +kernel
theorem dX10_series_46 : decode cX10_series 46 = .ok (.invokestatic 190, 3) := by decide +kernel
theorem dX10_series_49 : decode cX10_series 49 = .ok (.iload 4, 2) := by decide +kernel
theorem dX10_series_51 : decode cX10_series 51 = .ok (.invokestatic 194, 3) := by decide +kernel
theorem dX10_series_54 : decode cX10_series 54 = .ok (.lreturn, 1) := by decide +kernel
set_option maxRecDepth 20000 in
theorem r_X10_series : m_Right (yX10_series, cX10_series, 5, (some .long)) q_X10_series := m_right_nd (m_right_nd (m_right_nd (m_right_nd (m_right_nd (m_right_lf ⟨1, dX10_series_0, rfl, rfl, rfl⟩) (m_right_lf ⟨1, dX10_series_1, rfl, rfl, rfl⟩)) (m_right_nd (m_right_lf ⟨1, dX10_series_2, rfl, rfl, rfl⟩) (m_right_lf ⟨3, dX10_series_3, rfl, rfl, 120, 2, 10, (yX10_areTwo, cX10_areTwo, 3, (some .boolean)), rfl, me_X10_areTwo, mc_X10_areTwo, Or.inl ⟨(RX10, TX10, 24), rfl, rfl⟩, wd_1125, wd_1127, wd_39, wd_71⟩))) (m_right_nd (m_right_nd (m_right_lf ⟨3, dX10_series_6, rfl, rfl, 28, rfl, by decide⟩) (m_right_lf ⟨1, dX10_series_9, rfl, rfl, rfl⟩)) (m_right_nd (m_right_lf ⟨1, dX10_series_10, rfl, rfl, by decide +kernel⟩) (m_right_lf ⟨1, dX10_series_11, rfl, rfl, by decide +kernel⟩)))) (m_right_nd (m_right_nd (m_right_nd (m_right_lf ⟨3, dX10_series_12, rfl, rfl, Or.inr (Or.inr ⟨118, 3, (yX10_in, cX10_in, 3, (some .boolean)), rfl, me_X10_in, mc_X10_in, wd_943, wd_944, wd_71⟩)⟩) (m_right_lf ⟨3, dX10_series_15, rfl, rfl, 28, rfl, by decide⟩)) (m_right_nd (m_right_lf ⟨2, dX10_series_18, rfl, rfl, rfl⟩) (m_right_lf ⟨1, dX10_series_20, rfl, rfl, by decide +kernel⟩))) (m_right_nd (m_right_nd (m_right_lf ⟨1, dX10_series_21, rfl, rfl, by decide +kernel⟩) (m_right_lf ⟨3, dX10_series_22, rfl, rfl, Or.inr (Or.inr ⟨118, 3, (yX10_in, cX10_in, 3, (some .boolean)), rfl, me_X10_in, mc_X10_in, wd_943, wd_944, wd_71⟩)⟩)) (m_right_nd (m_right_lf ⟨3, dX10_series_25, rfl, rfl, 32, rfl, by decide⟩) (m_right_lf ⟨3, dX10_series_28, rfl, rfl, _, rfl, wd_1129⟩))))) (m_right_nd (m_right_nd (m_right_nd (m_right_nd (m_right_lf ⟨1, dX10_series_31, rfl, rfl⟩) (m_right_lf ⟨1, dX10_series_32, rfl, rfl, rfl⟩)) (m_right_nd (m_right_lf ⟨1, dX10_series_33, rfl, rfl, rfl⟩) (m_right_lf ⟨1, dX10_series_34, rfl, rfl, rfl⟩))) (m_right_nd (m_right_nd (m_right_lf ⟨1, dX10_series_35, rfl, rfl, by decide +kernel⟩) (m_right_lf ⟨1, dX10_series_36, rfl, rfl, by decide +kernel⟩)) (m_right_nd (m_right_lf ⟨1, dX10_series_37, rfl, rfl, rfl⟩) (m_right_lf ⟨3, dX10_series_38, rfl, rfl, 160, 5, 10, (yX10_firsts, cX10_firsts, 12, (some .long)), rfl, me_X10_firsts, mc_X10_firsts, Or.inl ⟨(RX10, TX10, 24), rfl, rfl⟩, wd_1165, wd_1167, wd_45, wd_71⟩)))) (m_right_nd (m_right_nd (m_right_nd (m_right_lf ⟨1, dX10_series_41, rfl, rfl, by decide +kernel⟩) (m_right_lf ⟨1, dX10_series_42, rfl, rfl, rfl⟩)) (m_right_nd (m_right_lf ⟨1, dX10_series_43, rfl, rfl⟩) (m_right_lf ⟨1, dX10_series_44, rfl, rfl, by decide +kernel⟩))) (m_right_nd (m_right_nd (m_right_lf ⟨1, dX10_series_45, rfl, rfl⟩) (m_right_lf ⟨3, dX10_series_46, rfl, rfl, Or.inr (Or.inr ⟨153, 1, (yX10_tens, cX10_tens, 4, (some .long)), rfl, me_X10_tens, mc_X10_tens, wd_1151, wd_1152, wd_71⟩)⟩)) (m_right_nd (m_right_lf ⟨2, dX10_series_49, rfl, rfl, rfl⟩) (m_right_nd (m_right_lf ⟨3, dX10_series_51, rfl, rfl, Or.inr (Or.inr ⟨157, 3, (yX10_lowest, cX10_lowest, 11, (some .long)), rfl, me_X10_lowest, mc_X10_lowest, wd_1154, wd_1155, wd_71⟩)⟩) (m_right_lf ⟨1, dX10_series_54, rfl, rfl⟩))))))
theorem dX10_ends_0 : decode cX10_ends 0 = .ok (.aload_n 0, 1) := by decide +kernel
theorem dX10_ends_1 : decode cX10_ends 1 = .ok (.iload_n 1, 1) := by decide +kernel
theorem dX10_ends_2 : decode cX10_ends 2 = .ok (.iload_n 2, 1) := by decide +kernel
theorem dX10_ends_3 : decode cX10_ends 3 = .ok (.invokevirtual 180, 3) := by decide +kernel
theorem dX10_ends_6 : decode cX10_ends 6 = .ok (.ifCond .eq 23, 3) := by decide +kernel
theorem dX10_ends_9 : decode cX10_ends 9 = .ok (.iload_n 3, 1) := by decide +kernel
theorem dX10_ends_10 : decode cX10_ends 10 = .ok (.iconst 0, 1) := by decide +kernel
theorem dX10_ends_11 : decode cX10_ends 11 = .ok (.bipush 12, 2) := by decide +kernel
theorem dX10_ends_13 : decode cX10_ends 13 = .ok (.invokestatic 48, 3) := by decide +kernel
theorem dX10_ends_16 : decode cX10_ends 16 = .ok (.ifCond .eq 13, 3) := by decide +kernel
theorem dX10_ends_19 : decode cX10_ends 19 = .ok (.iload 4, 2) := by decide +kernel
theorem dX10_ends_21 : decode cX10_ends 21 = .ok (.iconst 0, 1) := by decide +kernel
theorem dX10_ends_22 : decode cX10_ends 22 = .ok (.iconst 1, 1) := by decide +kernel
theorem dX10_ends_23 : decode cX10_ends 23 = .ok (.invokestatic 48, 3) := by decide +kernel
theorem dX10_ends_26 : decode cX10_ends 26 = .ok (.ifCond .ne 7, 3) := by decide +kernel
theorem dX10_ends_29 : decode cX10_ends 29 = .ok (.ldc2_w 184, 3) := by decide +kernel
theorem dX10_ends_32 : decode cX10_ends 32 = .ok (.lreturn, 1) := by decide +kernel
theorem dX10_ends_33 : decode cX10_ends 33 = .ok (.aload_n 0, 1) := by decide +kernel
theorem dX10_ends_34 : decode cX10_ends 34 = .ok (.iload_n 1, 1) := by decide +kernel
theorem dX10_ends_35 : decode cX10_ends 35 = .ok (.iload_n 2, 1) := by decide +kernel
theorem dX10_ends_36 : decode cX10_ends 36 = .ok (.iload_n 3, 1) := by decide +kernel
theorem dX10_ends_37 : decode cX10_ends 37 = .ok (.iconst 1, 1) := by decide +kernel
theorem dX10_ends_38 : decode cX10_ends 38 = .ok (.invokevirtual 186, 3) := by decide +kernel
theorem dX10_ends_41 : decode cX10_ends 41 = .ok (.lconst 0, 1) := by decide +kernel
theorem dX10_ends_42 : decode cX10_ends 42 = .ok (.lstore 5, 2) := by decide +kernel
theorem dX10_ends_44 : decode cX10_ends 44 = .ok (.iconst 0, 1) := by decide +kernel
theorem dX10_ends_45 : decode cX10_ends 45 = .ok (.istore 7, 2) := by decide +kernel
theorem dX10_ends_47 : decode cX10_ends 47 = .ok (.iload 7, 2) := by decide +kernel
theorem dX10_ends_49 : decode cX10_ends 49 = .ok (.sipush 5733, 3) := by decide +kernel
theorem dX10_ends_52 : decode cX10_ends 52 = .ok (.if_icmp .ge 37, 3) := by decide +kernel
theorem dX10_ends_55 : decode cX10_ends 55 = .ok (.lload 5, 2) := by decide +kernel
theorem dX10_ends_57 : decode cX10_ends 57 = .ok (.iload 7, 2) := by decide +kernel
theorem dX10_ends_59 : decode cX10_ends 59 = .ok (.bipush 21, 2) := by decide +kernel
theorem dX10_ends_61 : decode cX10_ends 61 = .ok (.idiv, 1) := by decide +kernel
theorem dX10_ends_62 : decode cX10_ends 62 = .ok (.bipush 21, 2) := by decide +kernel
theorem dX10_ends_64 : decode cX10_ends 64 = .ok (.irem, 1) := by decide +kernel
theorem dX10_ends_65 : decode cX10_ends 65 = .ok (.iconst 1, 1) := by decide +kernel
theorem dX10_ends_66 : decode cX10_ends 66 = .ok (.if_icmp .ne 13, 3) := by decide +kernel
theorem dX10_ends_69 : decode cX10_ends 69 = .ok (.aload_n 0, 1) := by decide +kernel
theorem dX10_ends_70 : decode cX10_ends 70 = .ok (.getfield 28, 3) := by decide +kernel
theorem dX10_ends_73 : decode cX10_ends 73 = .ok (.iload 7, 2) := by decide +kernel
theorem dX10_ends_75 : decode cX10_ends 75 = .ok (.laload, 1) := by decide +kernel
theorem dX10_ends_76 : decode cX10_ends 76 = .ok (.goto 4, 3) := by decide +kernel
theorem dX10_ends_79 : decode cX10_ends 79 = .ok (.lconst 0, 1) := by decide +kernel
theorem dX10_ends_80 : decode cX10_ends 80 = .ok (.ladd, 1) := by decide +kernel
theorem dX10_ends_81 : decode cX10_ends 81 = .ok (.lstore 5, 2) := by decide +kernel
theorem dX10_ends_83 : decode cX10_ends 83 = .ok (.iinc 7 1, 3) := by decide +kernel
theorem dX10_ends_86 : decode cX10_ends 86 = .ok (.goto (-39), 3) := by decide +kernel
theorem dX10_ends_89 : decode cX10_ends 89 = .ok (.lload 5, 2) := by decide +kernel
theorem dX10_ends_91 : decode cX10_ends 91 = .ok (.iload_n 3, 1) := by decide +kernel
theorem dX10_ends_92 : decode cX10_ends 92 = .ok (.invokestatic 190, 3) := by decide +kernel
theorem dX10_ends_95 : decode cX10_ends 95 = .ok (.iload 4, 2) := by decide +kernel
theorem dX10_ends_97 : decode cX10_ends 97 = .ok (.invokestatic 194, 3) := by decide +kernel
theorem dX10_ends_100 : decode cX10_ends 100 = .ok (.lreturn, 1) := by decide +kernel
set_option maxRecDepth 20000 in
theorem r_X10_ends : m_Right (yX10_ends, cX10_ends, 8, (some .long)) q_X10_ends := m_right_nd (m_right_nd (m_right_nd (m_right_nd (m_right_nd (m_right_lf ⟨1, dX10_ends_0, rfl, rfl, rfl⟩) (m_right_nd (m_right_lf ⟨1, dX10_ends_1, rfl, rfl, rfl⟩) (m_right_lf ⟨1, dX10_ends_2, rfl, rfl, rfl⟩))) (m_right_nd (m_right_lf ⟨3, dX10_ends_3, rfl, rfl, 120, 2, 10, (yX10_areTwo, cX10_areTwo, 3, (some .boolean)), rfl, me_X10_areTwo, mc_X10_areTwo, Or.inl ⟨(RX10, TX10, 24), rfl, rfl⟩, wd_1125, wd_1127, wd_39, wd_71⟩) (m_right_nd (m_right_lf ⟨3, dX10_ends_6, rfl, rfl, 29, rfl, by decide⟩) (m_right_lf ⟨1, dX10_ends_9, rfl, rfl, rfl⟩)))) (m_right_nd (m_right_nd (m_right_lf ⟨1, dX10_ends_10, rfl, rfl, by decide +kernel⟩) (m_right_nd (m_right_lf ⟨2, dX10_ends_11, rfl, rfl, by decide +kernel⟩) (m_right_lf ⟨3, dX10_ends_13, rfl, rfl, Or.inr (Or.inr ⟨118, 3, (yX10_in, cX10_in, 3, (some .boolean)), rfl, me_X10_in, mc_X10_in, wd_943, wd_944, wd_71⟩)⟩))) (m_right_nd (m_right_nd (m_right_lf ⟨3, dX10_ends_16, rfl, rfl, 29, rfl, by decide⟩) (m_right_lf ⟨2, dX10_ends_19, rfl, rfl, rfl⟩)) (m_right_nd (m_right_lf ⟨1, dX10_ends_21, rfl, rfl, by decide +kernel⟩) (m_right_lf ⟨1, dX10_ends_22, rfl, rfl, by decide +kernel⟩))))) (m_right_nd (m_right_nd (m_right_nd (m_right_lf ⟨3, dX10_ends_23, rfl, rfl, Or.inr (Or.inr ⟨118, 3, (yX10_in, cX10_in, 3, (some .boolean)), rfl, me_X10_in, mc_X10_in, wd_943, wd_944, wd_71⟩)⟩) (m_right_nd (m_right_lf ⟨3, dX10_ends_26, rfl, rfl, 33, rfl, by decide⟩) (m_right_lf ⟨3, dX10_ends_29, rfl, rfl, _, rfl, wd_1129⟩))) (m_right_nd (m_right_nd (m_right_lf ⟨1, dX10_ends_32, rfl, rfl⟩) (m_right_lf ⟨1, dX10_ends_33, rfl, rfl, rfl⟩)) (m_right_nd (m_right_lf ⟨1, dX10_ends_34, rfl, rfl, rfl⟩) (m_right_lf ⟨1, dX10_ends_35, rfl, rfl, rfl⟩)))) (m_right_nd (m_right_nd (m_right_lf ⟨1, dX10_ends_36, rfl, rfl, rfl⟩) (m_right_nd (m_right_lf ⟨1, dX10_ends_37, rfl, rfl, by decide +kernel⟩) (m_right_lf ⟨3, dX10_ends_38, rfl, rfl, 156, 4, 10, (yX10_gamesOn, cX10_gamesOn, 6, none), rfl, me_X10_gamesOn, mc_X10_gamesOn, Or.inl ⟨(RX10, TX10, 24), rfl, rfl⟩, wd_1130, wd_1132, wd_40, wd_71⟩))) (m_right_nd (m_right_nd (m_right_lf ⟨1, dX10_ends_41, rfl, rfl, by decide +kernel⟩) (m_right_lf ⟨2, dX10_ends_42, rfl, rfl, rfl⟩)) (m_right_nd (m_right_lf ⟨1, dX10_ends_44, rfl, rfl, by decide +kernel⟩) (m_right_lf ⟨2, dX10_ends_45, rfl, rfl, rfl⟩)))))) (m_right_nd (m_right_nd (m_right_nd (m_right_nd (m_right_lf ⟨2, dX10_ends_47, rfl, rfl, rfl⟩) (m_right_nd (m_right_lf ⟨3, dX10_ends_49, rfl, rfl, by decide +kernel⟩) (m_right_lf ⟨3, dX10_ends_52, rfl, rfl, 89, rfl, by decide⟩))) (m_right_nd (m_right_lf ⟨2, dX10_ends_55, rfl, rfl, rfl⟩) (m_right_nd (m_right_lf ⟨2, dX10_ends_57, rfl, rfl, rfl⟩) (m_right_lf ⟨2, dX10_ends_59, rfl, rfl, by decide +kernel⟩)))) (m_right_nd (m_right_nd (m_right_lf ⟨1, dX10_ends_61, rfl, rfl⟩) (m_right_nd (m_right_lf ⟨2, dX10_ends_62, rfl, rfl, by decide +kernel⟩) (m_right_lf ⟨1, dX10_ends_64, rfl, rfl⟩))) (m_right_nd (m_right_nd (m_right_lf ⟨1, dX10_ends_65, rfl, rfl, by decide +kernel⟩) (m_right_lf ⟨3, dX10_ends_66, rfl, rfl, 79, rfl, by decide⟩)) (m_right_nd (m_right_lf ⟨1, dX10_ends_69, rfl, rfl, rfl⟩) (m_right_lf ⟨3, dX10_ends_70, rfl, rfl, 10, 12, rfl, Or.inl ⟨(RX10, TX10, 24), rfl, by decide, wd_878⟩⟩))))) (m_right_nd (m_right_nd (m_right_nd (m_right_lf ⟨2, dX10_ends_73, rfl, rfl, rfl⟩) (m_right_nd (m_right_lf ⟨1, dX10_ends_75, rfl, rfl⟩) (m_right_lf ⟨3, dX10_ends_76, rfl, 80, rfl, by decide⟩))) (m_right_nd (m_right_nd (m_right_lf ⟨1, dX10_ends_79, rfl, rfl, by decide +kernel⟩) (m_right_lf ⟨1, dX10_ends_80, rfl, rfl⟩)) (m_right_nd (m_right_lf ⟨2, dX10_ends_81, rfl, rfl, rfl⟩) (m_right_lf ⟨3, dX10_ends_83, rfl, rfl, rfl, by decide +kernel⟩)))) (m_right_nd (m_right_nd (m_right_lf ⟨3, dX10_ends_86, rfl, 47, rfl, by decide⟩) (m_right_nd (m_right_lf ⟨2, dX10_ends_89, rfl, rfl, rfl⟩) (m_right_lf ⟨1, dX10_ends_91, rfl, rfl, rfl⟩))) (m_right_nd (m_right_nd (m_right_lf ⟨3, dX10_ends_92, rfl, rfl, Or.inr (Or.inr ⟨153, 1, (yX10_tens, cX10_tens, 4, (some .long)), rfl, me_X10_tens, mc_X10_tens, wd_1151, wd_1152, wd_71⟩)⟩) (m_right_lf ⟨2, dX10_ends_95, rfl, rfl, rfl⟩)) (m_right_nd (m_right_lf ⟨3, dX10_ends_97, rfl, rfl, Or.inr (Or.inr ⟨157, 3, (yX10_lowest, cX10_lowest, 11, (some .long)), rfl, me_X10_lowest, mc_X10_lowest, wd_1154, wd_1155, wd_71⟩)⟩) (m_right_lf ⟨1, dX10_ends_100, rfl, rfl⟩))))))
