/-! By program (wip/whole/gen2.py): the words of the tables by their places, and the code tables' rightness. -/
theorem dX7_menIfLost_0 : decode cX7_menIfLost 0 = .ok (.bipush 20, 2) := by decide +kernel
theorem dX7_menIfLost_2 : decode cX7_menIfLost 2 = .ok (.iload_n 1, 1) := by decide +kernel
theorem dX7_menIfLost_3 : decode cX7_menIfLost 3 = .ok (.aload_n 0, 1) := by decide +kernel
theorem dX7_menIfLost_4 : decode cX7_menIfLost 4 = .ok (.invokevirtual 85, 3) := by decide +kernel
theorem dX7_menIfLost_7 : decode cX7_menIfLost 7 = .ok (.iadd, 1) := by decide +kernel
theorem dX7_menIfLost_8 : decode cX7_menIfLost 8 = .ok (.invokestatic 87, 3) := by decide +kernel
theorem dX7_menIfLost_11 : decode cX7_menIfLost 11 = .ok (.ireturn, 1) := by decide +kernel
set_option maxRecDepth 20000 in
theorem r_X7_menIfLost : m_Right (yX7_menIfLost, cX7_menIfLost, 2, (some .int)) q_X7_menIfLost := m_right_nd (m_right_nd (m_right_lf ⟨2, dX7_menIfLost_0, rfl, rfl, by decide +kernel⟩) (m_right_nd (m_right_lf ⟨1, dX7_menIfLost_2, rfl, rfl, rfl⟩) (m_right_lf ⟨1, dX7_menIfLost_3, rfl, rfl, rfl⟩))) (m_right_nd (m_right_nd (m_right_lf ⟨3, dX7_menIfLost_4, rfl, rfl, 58, 0, 7, (yX7_more, cX7_more, 1, (some .int)), rfl, me_X7_more, mc_X7_more, Or.inl ⟨(RX7, TX7, 16), rfl, rfl⟩, wd_570, wd_505, wd_506, wd_63⟩) (m_right_lf ⟨1, dX7_menIfLost_7, rfl, rfl⟩)) (m_right_nd (m_right_lf ⟨3, dX7_menIfLost_8, rfl, rfl, Or.inl ⟨_, rfl, wd_72, Or.inr (Or.inl ⟨rfl, wm_549, wm_392, wm_393⟩)⟩⟩) (m_right_lf ⟨1, dX7_menIfLost_11, rfl, 0, .int, rfl, rfl, Or.inl ⟨rfl, rfl⟩⟩)))
theorem dX7_pushOf_0 : decode cX7_pushOf 0 = .ok (.aload_n 0, 1) := by decide +kernel
theorem dX7_pushOf_1 : decode cX7_pushOf 1 = .ok (.getfield 15, 3) := by decide +kernel
theorem dX7_pushOf_4 : decode cX7_pushOf 4 = .ok (.iload_n 1, 1) := by decide +kernel
theorem dX7_pushOf_5 : decode cX7_pushOf 5 = .ok (.iaload, 1) := by decide +kernel
theorem dX7_pushOf_6 : decode cX7_pushOf 6 = .ok (.istore 5, 2) := by decide +kernel
theorem dX7_pushOf_8 : decode cX7_pushOf 8 = .ok (.aload_n 0, 1) := by decide +kernel
theorem dX7_pushOf_9 : decode cX7_pushOf 9 = .ok (.getfield 57, 3) := by decide +kernel
theorem dX7_pushOf_12 : decode cX7_pushOf 12 = .ok (.ifnull 63, 3) := by decide +kernel
theorem dX7_pushOf_15 : decode cX7_pushOf 15 = .ok (.aload_n 0, 1) := by decide +kernel
theorem dX7_pushOf_16 : decode cX7_pushOf 16 = .ok (.getfield 38, 3) := by decide +kernel
theorem dX7_pushOf_19 : decode cX7_pushOf 19 = .ok (.iconst 0, 1) := by decide +kernel
theorem dX7_pushOf_20 : decode cX7_pushOf 20 = .ok (.iload_n 1, 1) := by decide +kernel
theorem dX7_pushOf_21 : decode cX7_pushOf 21 = .ok (.iastore, 1) := by decide +kernel
theorem dX7_pushOf_22 : decode cX7_pushOf 22 = .ok (.aload_n 0, 1) := by decide +kernel
theorem dX7_pushOf_23 : decode cX7_pushOf 23 = .ok (.getfield 38, 3) := by decide +kernel
theorem dX7_pushOf_26 : decode cX7_pushOf 26 = .ok (.iconst 1, 1) := by decide +kernel
theorem dX7_pushOf_27 : decode cX7_pushOf 27 = .ok (.aload_n 0, 1) := by decide +kernel
theorem dX7_pushOf_28 : decode cX7_pushOf 28 = .ok (.getfield 9, 3) := by decide +kernel
theorem dX7_pushOf_31 : decode cX7_pushOf 31 = .ok (.iload_n 1, 1) := by decide +kernel
theorem dX7_pushOf_32 : decode cX7_pushOf 32 = .ok (.iaload, 1) := by decide +kernel
theorem dX7_pushOf_33 : decode cX7_pushOf 33 = .ok (.iastore, 1) := by decide +kernel
theorem dX7_pushOf_34 : decode cX7_pushOf 34 = .ok (.aload_n 0, 1) := by decide +kernel
theorem dX7_pushOf_35 : decode cX7_pushOf 35 = .ok (.getfield 38, 3) := by decide +kernel
theorem dX7_pushOf_38 : decode cX7_pushOf 38 = .ok (.iconst 2, 1) := by decide +kernel
theorem dX7_pushOf_39 : decode cX7_pushOf 39 = .ok (.iload_n 2, 1) := by decide +kernel
theorem dX7_pushOf_40 : decode cX7_pushOf 40 = .ok (.iastore, 1) := by decide +kernel
theorem dX7_pushOf_41 : decode cX7_pushOf 41 = .ok (.aload_n 0, 1) := by decide +kernel
theorem dX7_pushOf_42 : decode cX7_pushOf 42 = .ok (.getfield 38, 3) := by decide +kernel
theorem dX7_pushOf_45 : decode cX7_pushOf 45 = .ok (.iconst 3, 1) := by decide +kernel
theorem dX7_pushOf_46 : decode cX7_pushOf 46 = .ok (.iload_n 3, 1) := by decide +kernel
theorem dX7_pushOf_47 : decode cX7_pushOf 47 = .ok (.iastore, 1) := by decide +kernel
theorem dX7_pushOf_48 : decode cX7_pushOf 48 = .ok (.aload_n 0, 1) := by decide +kernel
theorem dX7_pushOf_49 : decode cX7_pushOf 49 = .ok (.getfield 38, 3) := by decide +kernel
theorem dX7_pushOf_52 : decode cX7_pushOf 52 = .ok (.iconst 4, 1) := by decide +kernel
theorem dX7_pushOf_53 : decode cX7_pushOf 53 = .ok (.iload 4, 2) := by decide +kernel
theorem dX7_pushOf_55 : decode cX7_pushOf 55 = .ok (.bipush 10, 2) := by decide +kernel
theorem dX7_pushOf_57 : decode cX7_pushOf 57 = .ok (.irem, 1) := by decide +kernel
theorem dX7_pushOf_58 : decode cX7_pushOf 58 = .ok (.iastore, 1) := by decide +kernel
theorem dX7_pushOf_59 : decode cX7_pushOf 59 = .ok (.iload 5, 2) := by decide +kernel
theorem dX7_pushOf_61 : decode cX7_pushOf 61 = .ok (.aload_n 0, 1) := by decide +kernel
theorem dX7_pushOf_62 : decode cX7_pushOf 62 = .ok (.getfield 57, 3) := by decide +kernel
theorem dX7_pushOf_65 : decode cX7_pushOf 65 = .ok (.aload_n 0, 1) := by decide +kernel
theorem dX7_pushOf_66 : decode cX7_pushOf 66 = .ok (.getfield 38, 3) := by decide +kernel
theorem dX7_pushOf_69 : decode cX7_pushOf 69 = .ok (.invokevirtual 90, 3) := by decide +kernel
theorem dX7_pushOf_72 : decode cX7_pushOf 72 = .ok (.iadd, 1) := by decide +kernel
theorem dX7_pushOf_73 : decode cX7_pushOf 73 = .ok (.istore 5, 2) := by decide +kernel
theorem dX7_pushOf_75 : decode cX7_pushOf 75 = .ok (.aload_n 0, 1) := by decide +kernel
theorem dX7_pushOf_76 : decode cX7_pushOf 76 = .ok (.getfield 9, 3) := by decide +kernel
theorem dX7_pushOf_79 : decode cX7_pushOf 79 = .ok (.iload_n 1, 1) := by decide +kernel
theorem dX7_pushOf_80 : decode cX7_pushOf 80 = .ok (.iaload, 1) := by decide +kernel
theorem dX7_pushOf_81 : decode cX7_pushOf 81 = .ok (.tableswitch 127 1 6 #[39, 59, 93, 48, 67, 102], 39) := by decide +kernel
theorem dX7_pushOf_120 : decode cX7_pushOf 120 = .ok (.iload 5, 2) := by decide +kernel
theorem dX7_pushOf_122 : decode cX7_pushOf 122 = .ok (.iload_n 2, 1) := by decide +kernel
theorem dX7_pushOf_123 : decode cX7_pushOf 123 = .ok (.iload_n 3, 1) := by decide +kernel
theorem dX7_pushOf_124 : decode cX7_pushOf 124 = .ok (.invokestatic 94, 3) := by decide +kernel
theorem dX7_pushOf_127 : decode cX7_pushOf 127 = .ok (.iadd, 1) := by decide +kernel
theorem dX7_pushOf_128 : decode cX7_pushOf 128 = .ok (.ireturn, 1) := by decide +kernel
theorem dX7_pushOf_129 : decode cX7_pushOf 129 = .ok (.iload 5, 2) := by decide +kernel
theorem dX7_pushOf_131 : decode cX7_pushOf 131 = .ok (.iload_n 2, 1) := by decide +kernel
theorem dX7_pushOf_132 : decode cX7_pushOf 132 = .ok (.iload_n 3, 1) := by decide +kernel
theorem dX7_pushOf_133 : decode cX7_pushOf 133 = .ok (.invokestatic 94, 3) := by decide +kernel
theorem dX7_pushOf_136 : decode cX7_pushOf 136 = .ok (.iadd, 1) := by decide +kernel
theorem dX7_pushOf_137 : decode cX7_pushOf 137 = .ok (.iconst 1, 1) := by decide +kernel
theorem dX7_pushOf_138 : decode cX7_pushOf 138 = .ok (.iadd, 1) := by decide +kernel
theorem dX7_pushOf_139 : decode cX7_pushOf 139 = .ok (.ireturn, 1) := by decide +kernel
theorem dX7_pushOf_140 : decode cX7_pushOf 140 = .ok (.iload 5, 2) := by decide +kernel
theorem dX7_pushOf_142 : decode cX7_pushOf 142 = .ok (.iload_n 2, 1) := by decide +kernel
theorem dX7_pushOf_143 : decode cX7_pushOf 143 = .ok (.invokestatic 97, 3) := by decide +kernel
theorem dX7_pushOf_146 : decode cX7_pushOf 146 = .ok (.isub, 1) := by decide +kernel
theorem dX7_pushOf_147 : decode cX7_pushOf 147 = .ok (.ireturn, 1) := by decide +kernel
theorem dX7_pushOf_148 : decode cX7_pushOf 148 = .ok (.iload 4, 2) := by decide +kernel
theorem dX7_pushOf_150 : decode cX7_pushOf 150 = .ok (.aload_n 0, 1) := by decide +kernel
theorem dX7_pushOf_151 : decode cX7_pushOf 151 = .ok (.getfield 15, 3) := by decide +kernel
theorem dX7_pushOf_154 : decode cX7_pushOf 154 = .ok (.iload_n 1, 1) := by decide +kernel
theorem dX7_pushOf_155 : decode cX7_pushOf 155 = .ok (.iaload, 1) := by decide +kernel
theorem dX7_pushOf_156 : decode cX7_pushOf 156 = .ok (.iconst 2, 1) := by decide +kernel
theorem dX7_pushOf_157 : decode cX7_pushOf 157 = .ok (.iadd, 1) := by decide +kernel
theorem dX7_pushOf_158 : decode cX7_pushOf 158 = .ok (.if_icmp .lt 8, 3) := by decide +kernel
theorem dX7_pushOf_161 : decode cX7_pushOf 161 = .ok (.iload 5, 2) := by decide +kernel
theorem dX7_pushOf_163 : decode cX7_pushOf 163 = .ok (.goto 10, 3) := by decide +kernel
theorem dX7_pushOf_166 : decode cX7_pushOf 166 = .ok (.iload 5, 2) := by decide +kernel
theorem dX7_pushOf_168 : decode cX7_pushOf 168 = .ok (.iload_n 2, 1) := by decide +kernel
theorem dX7_pushOf_169 : decode cX7_pushOf 169 = .ok (.invokestatic 97, 3) := by decide +kernel
theorem dX7_pushOf_172 : decode cX7_pushOf 172 = .ok (.isub, 1) := by decide +kernel
theorem dX7_pushOf_173 : decode cX7_pushOf 173 = .ok (.ireturn, 1) := by decide +kernel
theorem dX7_pushOf_174 : decode cX7_pushOf 174 = .ok (.iload 5, 2) := by decide +kernel
theorem dX7_pushOf_176 : decode cX7_pushOf 176 = .ok (.iload 4, 2) := by decide +kernel
theorem dX7_pushOf_178 : decode cX7_pushOf 178 = .ok (.invokestatic 101, 3) := by decide +kernel
theorem dX7_pushOf_181 : decode cX7_pushOf 181 = .ok (.isub, 1) := by decide +kernel
theorem dX7_pushOf_182 : decode cX7_pushOf 182 = .ok (.ireturn, 1) := by decide +kernel
theorem dX7_pushOf_183 : decode cX7_pushOf 183 = .ok (.iload 5, 2) := by decide +kernel
theorem dX7_pushOf_185 : decode cX7_pushOf 185 = .ok (.iload 4, 2) := by decide +kernel
theorem dX7_pushOf_187 : decode cX7_pushOf 187 = .ok (.invokestatic 101, 3) := by decide +kernel
theorem dX7_pushOf_190 : decode cX7_pushOf 190 = .ok (.isub, 1) := by decide +kernel
theorem dX7_pushOf_191 : decode cX7_pushOf 191 = .ok (.aload_n 0, 1) := by decide +kernel
theorem dX7_pushOf_192 : decode cX7_pushOf 192 = .ok (.getfield 21, 3) := by decide +kernel
theorem dX7_pushOf_195 : decode cX7_pushOf 195 = .ok (.iload_n 1, 1) := by decide +kernel
theorem dX7_pushOf_196 : decode cX7_pushOf 196 = .ok (.iconst 4, 1) := by decide +kernel
theorem dX7_pushOf_197 : decode cX7_pushOf 197 = .ok (.imul, 1) := by decide +kernel
theorem dX7_pushOf_198 : decode cX7_pushOf 198 = .ok (.iload 4, 2) := by decide +kernel
theorem dX7_pushOf_200 : decode cX7_pushOf 200 = .ok (.iconst 4, 1) := by decide +kernel
theorem dX7_pushOf_201 : decode cX7_pushOf 201 = .ok (.irem, 1) := by decide +kernel
theorem dX7_pushOf_202 : decode cX7_pushOf 202 = .ok (.iadd, 1) := by decide +kernel
theorem dX7_pushOf_203 : decode cX7_pushOf 203 = .ok (.iaload, 1) := by decide +kernel
theorem dX7_pushOf_204 : decode cX7_pushOf 204 = .ok (.iadd, 1) := by decide +kernel
theorem dX7_pushOf_205 : decode cX7_pushOf 205 = .ok (.iconst 4, 1) := by decide +kernel
theorem dX7_pushOf_206 : decode cX7_pushOf 206 = .ok (.isub, 1) := by decide +kernel
theorem dX7_pushOf_207 : decode cX7_pushOf 207 = .ok (.ireturn, 1) := by decide +kernel
theorem dX7_pushOf_208 : decode cX7_pushOf 208 = .ok (.iload 5, 2) := by decide +kernel
theorem dX7_pushOf_210 : decode cX7_pushOf 210 = .ok (.ireturn, 1) := by decide +kernel
set_option maxRecDepth 20000 in
theorem r_X7_pushOf : m_Right (yX7_pushOf, cX7_pushOf, 6, (some .int)) q_X7_pushOf := m_right_nd (m_right_nd (m_right_nd (m_right_nd (m_right_nd (m_right_nd (m_right_lf ⟨1, dX7_pushOf_0, rfl, rfl, rfl⟩) (m_right_nd (m_right_lf ⟨3, dX7_pushOf_1, rfl, rfl, 7, 2, rfl, Or.inl ⟨(RX7, TX7, 16), rfl, by decide, wd_100⟩⟩) (m_right_lf ⟨1, dX7_pushOf_4, rfl, rfl, rfl⟩))) (m_right_nd (m_right_lf ⟨1, dX7_pushOf_5, rfl, rfl⟩) (m_right_nd (m_right_lf ⟨2, dX7_pushOf_6, rfl, rfl, rfl⟩) (m_right_lf ⟨1, dX7_pushOf_8, rfl, rfl, rfl⟩)))) (m_right_nd (m_right_nd (m_right_lf ⟨3, dX7_pushOf_9, rfl, rfl, 7, 7, rfl, Or.inl ⟨(RX7, TX7, 16), rfl, by decide, wd_118⟩⟩) (m_right_nd (m_right_lf ⟨3, dX7_pushOf_12, rfl, rfl, 75, rfl, by decide⟩) (m_right_lf ⟨1, dX7_pushOf_15, rfl, rfl, rfl⟩))) (m_right_nd (m_right_nd (m_right_lf ⟨3, dX7_pushOf_16, rfl, rfl, 7, 15, rfl, Or.inl ⟨(RX7, TX7, 16), rfl, by decide, wd_134⟩⟩) (m_right_lf ⟨1, dX7_pushOf_19, rfl, rfl, by decide +kernel⟩)) (m_right_nd (m_right_lf ⟨1, dX7_pushOf_20, rfl, rfl, rfl⟩) (m_right_lf ⟨1, dX7_pushOf_21, rfl, rfl⟩))))) (m_right_nd (m_right_nd (m_right_nd (m_right_lf ⟨1, dX7_pushOf_22, rfl, rfl, rfl⟩) (m_right_nd (m_right_lf ⟨3, dX7_pushOf_23, rfl, rfl, 7, 15, rfl, Or.inl ⟨(RX7, TX7, 16), rfl, by decide, wd_134⟩⟩) (m_right_lf ⟨1, dX7_pushOf_26, rfl, rfl, by decide +kernel⟩))) (m_right_nd (m_right_nd (m_right_lf ⟨1, dX7_pushOf_27, rfl, rfl, rfl⟩) (m_right_lf ⟨3, dX7_pushOf_28, rfl, rfl, 7, 1, rfl, Or.inl ⟨(RX7, TX7, 16), rfl, by decide, wd_98⟩⟩)) (m_right_nd (m_right_lf ⟨1, dX7_pushOf_31, rfl, rfl, rfl⟩) (m_right_lf ⟨1, dX7_pushOf_32, rfl, rfl⟩)))) (m_right_nd (m_right_nd (m_right_lf ⟨1, dX7_pushOf_33, rfl, rfl⟩) (m_right_nd (m_right_lf ⟨1, dX7_pushOf_34, rfl, rfl, rfl⟩) (m_right_lf ⟨3, dX7_pushOf_35, rfl, rfl, 7, 15, rfl, Or.inl ⟨(RX7, TX7, 16), rfl, by decide, wd_134⟩⟩))) (m_right_nd (m_right_nd (m_right_lf ⟨1, dX7_pushOf_38, rfl, rfl, by decide +kernel⟩) (m_right_lf ⟨1, dX7_pushOf_39, rfl, rfl, rfl⟩)) (m_right_nd (m_right_lf ⟨1, dX7_pushOf_40, rfl, rfl⟩) (m_right_lf ⟨1, dX7_pushOf_41, rfl, rfl, rfl⟩)))))) (m_right_nd (m_right_nd (m_right_nd (m_right_nd (m_right_lf ⟨3, dX7_pushOf_42, rfl, rfl, 7, 15, rfl, Or.inl ⟨(RX7, TX7, 16), rfl, by decide, wd_134⟩⟩) (m_right_nd (m_right_lf ⟨1, dX7_pushOf_45, rfl, rfl, by decide +kernel⟩) (m_right_lf ⟨1, dX7_pushOf_46, rfl, rfl, rfl⟩))) (m_right_nd (m_right_nd (m_right_lf ⟨1, dX7_pushOf_47, rfl, rfl⟩) (m_right_lf ⟨1, dX7_pushOf_48, rfl, rfl, rfl⟩)) (m_right_nd (m_right_lf ⟨3, dX7_pushOf_49, rfl, rfl, 7, 15, rfl, Or.inl ⟨(RX7, TX7, 16), rfl, by decide, wd_134⟩⟩) (m_right_lf ⟨1, dX7_pushOf_52, rfl, rfl, by decide +kernel⟩)))) (m_right_nd (m_right_nd (m_right_lf ⟨2, dX7_pushOf_53, rfl, rfl, rfl⟩) (m_right_nd (m_right_lf ⟨2, dX7_pushOf_55, rfl, rfl, by decide +kernel⟩) (m_right_lf ⟨1, dX7_pushOf_57, rfl, rfl⟩))) (m_right_nd (m_right_nd (m_right_lf ⟨1, dX7_pushOf_58, rfl, rfl⟩) (m_right_lf ⟨2, dX7_pushOf_59, rfl, rfl, rfl⟩)) (m_right_nd (m_right_lf ⟨1, dX7_pushOf_61, rfl, rfl, rfl⟩) (m_right_lf ⟨3, dX7_pushOf_62, rfl, rfl, 7, 7, rfl, Or.inl ⟨(RX7, TX7, 16), rfl, by decide, wd_118⟩⟩))))) (m_right_nd (m_right_nd (m_right_nd (m_right_lf ⟨1, dX7_pushOf_65, rfl, rfl, rfl⟩) (m_right_nd (m_right_lf ⟨3, dX7_pushOf_66, rfl, rfl, 7, 15, rfl, Or.inl ⟨(RX7, TX7, 16), rfl, by decide, wd_134⟩⟩) (m_right_lf ⟨3, dX7_pushOf_69, rfl, rfl, 25, 1, 3, (yX3_lift, cX3_lift, 5, (some .int)), rfl, me_X3_lift, mc_X3_lift, Or.inl ⟨(RX3, TX3, 3), rfl, rfl⟩, wd_520, wd_521, wd_522, wd_73⟩))) (m_right_nd (m_right_nd (m_right_lf ⟨1, dX7_pushOf_72, rfl, rfl⟩) (m_right_lf ⟨2, dX7_pushOf_73, rfl, rfl, rfl⟩)) (m_right_nd (m_right_lf ⟨1, dX7_pushOf_75, rfl, rfl, rfl⟩) (m_right_lf ⟨3, dX7_pushOf_76, rfl, rfl, 7, 1, rfl, Or.inl ⟨(RX7, TX7, 16), rfl, by decide, wd_98⟩⟩)))) (m_right_nd (m_right_nd (m_right_lf ⟨1, dX7_pushOf_79, rfl, rfl, rfl⟩) (m_right_nd (m_right_lf ⟨1, dX7_pushOf_80, rfl, rfl⟩) (m_right_lf ⟨39, dX7_pushOf_81, 208, [120, 140, 174, 129, 148, 183], rfl, by decide, by decide +kernel⟩))) (m_right_nd (m_right_nd (m_right_lf ⟨2, dX7_pushOf_120, rfl, rfl, rfl⟩) (m_right_lf ⟨1, dX7_pushOf_122, rfl, rfl, rfl⟩)) (m_right_nd (m_right_lf ⟨1, dX7_pushOf_123, rfl, rfl, rfl⟩) (m_right_lf ⟨3, dX7_pushOf_124, rfl, rfl, Or.inr (Or.inr ⟨62, 2, (yX7_masterly, cX7_masterly, 2, (some .int)), rfl, me_X7_masterly, mc_X7_masterly, wd_527, wd_528, wd_63⟩)⟩))))))) (m_right_nd (m_right_nd (m_right_nd (m_right_nd (m_right_nd (m_right_lf ⟨1, dX7_pushOf_127, rfl, rfl⟩) (m_right_nd (m_right_lf ⟨1, dX7_pushOf_128, rfl, 0, .int, rfl, rfl, Or.inl ⟨rfl, rfl⟩⟩) (m_right_lf ⟨2, dX7_pushOf_129, rfl, rfl, rfl⟩))) (m_right_nd (m_right_lf ⟨1, dX7_pushOf_131, rfl, rfl, rfl⟩) (m_right_nd (m_right_lf ⟨1, dX7_pushOf_132, rfl, rfl, rfl⟩) (m_right_lf ⟨3, dX7_pushOf_133, rfl, rfl, Or.inr (Or.inr ⟨62, 2, (yX7_masterly, cX7_masterly, 2, (some .int)), rfl, me_X7_masterly, mc_X7_masterly, wd_527, wd_528, wd_63⟩)⟩)))) (m_right_nd (m_right_nd (m_right_lf ⟨1, dX7_pushOf_136, rfl, rfl⟩) (m_right_nd (m_right_lf ⟨1, dX7_pushOf_137, rfl, rfl, by decide +kernel⟩) (m_right_lf ⟨1, dX7_pushOf_138, rfl, rfl⟩))) (m_right_nd (m_right_nd (m_right_lf ⟨1, dX7_pushOf_139, rfl, 0, .int, rfl, rfl, Or.inl ⟨rfl, rfl⟩⟩) (m_right_lf ⟨2, dX7_pushOf_140, rfl, rfl, rfl⟩)) (m_right_nd (m_right_lf ⟨1, dX7_pushOf_142, rfl, rfl, rfl⟩) (m_right_lf ⟨3, dX7_pushOf_143, rfl, rfl, Or.inr (Or.inr ⟨63, 1, (yX7_slyly, cX7_slyly, 1, (some .int)), rfl, me_X7_slyly, mc_X7_slyly, wd_530, wd_531, wd_63⟩)⟩))))) (m_right_nd (m_right_nd (m_right_nd (m_right_lf ⟨1, dX7_pushOf_146, rfl, rfl⟩) (m_right_nd (m_right_lf ⟨1, dX7_pushOf_147, rfl, 0, .int, rfl, rfl, Or.inl ⟨rfl, rfl⟩⟩) (m_right_lf ⟨2, dX7_pushOf_148, rfl, rfl, rfl⟩))) (m_right_nd (m_right_nd (m_right_lf ⟨1, dX7_pushOf_150, rfl, rfl, rfl⟩) (m_right_lf ⟨3, dX7_pushOf_151, rfl, rfl, 7, 2, rfl, Or.inl ⟨(RX7, TX7, 16), rfl, by decide, wd_100⟩⟩)) (m_right_nd (m_right_lf ⟨1, dX7_pushOf_154, rfl, rfl, rfl⟩) (m_right_lf ⟨1, dX7_pushOf_155, rfl, rfl⟩)))) (m_right_nd (m_right_nd (m_right_lf ⟨1, dX7_pushOf_156, rfl, rfl, by decide +kernel⟩) (m_right_nd (m_right_lf ⟨1, dX7_pushOf_157, rfl, rfl⟩) (m_right_lf ⟨3, dX7_pushOf_158, rfl, rfl, 166, rfl, by decide⟩))) (m_right_nd (m_right_nd (m_right_lf ⟨2, dX7_pushOf_161, rfl, rfl, rfl⟩) (m_right_lf ⟨3, dX7_pushOf_163, rfl, 173, rfl, by decide⟩)) (m_right_nd (m_right_lf ⟨2, dX7_pushOf_166, rfl, rfl, rfl⟩) (m_right_lf ⟨1, dX7_pushOf_168, rfl, rfl, rfl⟩)))))) (m_right_nd (m_right_nd (m_right_nd (m_right_nd (m_right_lf ⟨3, dX7_pushOf_169, rfl, rfl, Or.inr (Or.inr ⟨63, 1, (yX7_slyly, cX7_slyly, 1, (some .int)), rfl, me_X7_slyly, mc_X7_slyly, wd_530, wd_531, wd_63⟩)⟩) (m_right_nd (m_right_lf ⟨1, dX7_pushOf_172, rfl, rfl⟩) (m_right_lf ⟨1, dX7_pushOf_173, rfl, 0, .int, rfl, rfl, Or.inl ⟨rfl, rfl⟩⟩))) (m_right_nd (m_right_nd (m_right_lf ⟨2, dX7_pushOf_174, rfl, rfl, rfl⟩) (m_right_lf ⟨2, dX7_pushOf_176, rfl, rfl, rfl⟩)) (m_right_nd (m_right_lf ⟨3, dX7_pushOf_178, rfl, rfl, Or.inr (Or.inr ⟨64, 1, (yX7_newly, cX7_newly, 1, (some .int)), rfl, me_X7_newly, mc_X7_newly, wd_533, wd_534, wd_63⟩)⟩) (m_right_lf ⟨1, dX7_pushOf_181, rfl, rfl⟩)))) (m_right_nd (m_right_nd (m_right_lf ⟨1, dX7_pushOf_182, rfl, 0, .int, rfl, rfl, Or.inl ⟨rfl, rfl⟩⟩) (m_right_nd (m_right_lf ⟨2, dX7_pushOf_183, rfl, rfl, rfl⟩) (m_right_lf ⟨2, dX7_pushOf_185, rfl, rfl, rfl⟩))) (m_right_nd (m_right_nd (m_right_lf ⟨3, dX7_pushOf_187, rfl, rfl, Or.inr (Or.inr ⟨64, 1, (yX7_newly, cX7_newly, 1, (some .int)), rfl, me_X7_newly, mc_X7_newly, wd_533, wd_534, wd_63⟩)⟩) (m_right_lf ⟨1, dX7_pushOf_190, rfl, rfl⟩)) (m_right_nd (m_right_lf ⟨1, dX7_pushOf_191, rfl, rfl, rfl⟩) (m_right_lf ⟨3, dX7_pushOf_192, rfl, rfl, 7, 4, rfl, Or.inl ⟨(RX7, TX7, 16), rfl, by decide, wd_108⟩⟩))))) (m_right_nd (m_right_nd (m_right_nd (m_right_lf ⟨1, dX7_pushOf_195, rfl, rfl, rfl⟩) (m_right_nd (m_right_lf ⟨1, dX7_pushOf_196, rfl, rfl, by decide +kernel⟩) (m_right_lf ⟨1, dX7_pushOf_197, rfl, rfl⟩))) (m_right_nd (m_right_nd (m_right_lf ⟨2, dX7_pushOf_198, rfl, rfl, rfl⟩) (m_right_lf ⟨1, dX7_pushOf_200, rfl, rfl, by decide +kernel⟩)) (m_right_nd (m_right_lf ⟨1, dX7_pushOf_201, rfl, rfl⟩) (m_right_lf ⟨1, dX7_pushOf_202, rfl, rfl⟩)))) (m_right_nd (m_right_nd (m_right_lf ⟨1, dX7_pushOf_203, rfl, rfl⟩) (m_right_nd (m_right_lf ⟨1, dX7_pushOf_204, rfl, rfl⟩) (m_right_lf ⟨1, dX7_pushOf_205, rfl, rfl, by decide +kernel⟩))) (m_right_nd (m_right_nd (m_right_lf ⟨1, dX7_pushOf_206, rfl, rfl⟩) (m_right_lf ⟨1, dX7_pushOf_207, rfl, 0, .int, rfl, rfl, Or.inl ⟨rfl, rfl⟩⟩)) (m_right_nd (m_right_lf ⟨2, dX7_pushOf_208, rfl, rfl, rfl⟩) (m_right_lf ⟨1, dX7_pushOf_210, rfl, 0, .int, rfl, rfl, Or.inl ⟨rfl, rfl⟩⟩)))))))
theorem dX7_masterly_0 : decode cX7_masterly 0 = .ok (.iload_n 0, 1) := by decide +kernel
theorem dX7_masterly_1 : decode cX7_masterly 1 = .ok (.iload_n 1, 1) := by decide +kernel
theorem dX7_masterly_2 : decode cX7_masterly 2 = .ok (.if_icmp .ge 7, 3) := by decide +kernel
theorem dX7_masterly_5 : decode cX7_masterly 5 = .ok (.iconst 2, 1) := by decide +kernel
theorem dX7_masterly_6 : decode cX7_masterly 6 = .ok (.goto 4, 3) := by decide +kernel
theorem dX7_masterly_9 : decode cX7_masterly 9 = .ok (.iconst 0, 1) := by decide +kernel
theorem dX7_masterly_10 : decode cX7_masterly 10 = .ok (.ireturn, 1) := by decide +kernel
set_option maxRecDepth 20000 in
theorem r_X7_masterly : m_Right (yX7_masterly, cX7_masterly, 2, (some .int)) q_X7_masterly := m_right_nd (m_right_nd (m_right_lf ⟨1, dX7_masterly_0, rfl, rfl, rfl⟩) (m_right_nd (m_right_lf ⟨1, dX7_masterly_1, rfl, rfl, rfl⟩) (m_right_lf ⟨3, dX7_masterly_2, rfl, rfl, 9, rfl, by decide⟩))) (m_right_nd (m_right_nd (m_right_lf ⟨1, dX7_masterly_5, rfl, rfl, by decide +kernel⟩) (m_right_lf ⟨3, dX7_masterly_6, rfl, 10, rfl, by decide⟩)) (m_right_nd (m_right_lf ⟨1, dX7_masterly_9, rfl, rfl, by decide +kernel⟩) (m_right_lf ⟨1, dX7_masterly_10, rfl, 0, .int, rfl, rfl, Or.inl ⟨rfl, rfl⟩⟩)))
theorem dX7_slyly_0 : decode cX7_slyly 0 = .ok (.iload_n 0, 1) := by decide +kernel
theorem dX7_slyly_1 : decode cX7_slyly 1 = .ok (.iconst 4, 1) := by decide +kernel
theorem dX7_slyly_2 : decode cX7_slyly 2 = .ok (.if_icmp .ge 8, 3) := by decide +kernel
theorem dX7_slyly_5 : decode cX7_slyly 5 = .ok (.bipush 9, 2) := by decide +kernel
theorem dX7_slyly_7 : decode cX7_slyly 7 = .ok (.goto 4, 3) := by decide +kernel
theorem dX7_slyly_10 : decode cX7_slyly 10 = .ok (.iconst 0, 1) := by decide +kernel
theorem dX7_slyly_11 : decode cX7_slyly 11 = .ok (.ireturn, 1) := by decide +kernel
set_option maxRecDepth 20000 in
theorem r_X7_slyly : m_Right (yX7_slyly, cX7_slyly, 1, (some .int)) q_X7_slyly := m_right_nd (m_right_nd (m_right_lf ⟨1, dX7_slyly_0, rfl, rfl, rfl⟩) (m_right_nd (m_right_lf ⟨1, dX7_slyly_1, rfl, rfl, by decide +kernel⟩) (m_right_lf ⟨3, dX7_slyly_2, rfl, rfl, 10, rfl, by decide⟩))) (m_right_nd (m_right_nd (m_right_lf ⟨2, dX7_slyly_5, rfl, rfl, by decide +kernel⟩) (m_right_lf ⟨3, dX7_slyly_7, rfl, 11, rfl, by decide⟩)) (m_right_nd (m_right_lf ⟨1, dX7_slyly_10, rfl, rfl, by decide +kernel⟩) (m_right_lf ⟨1, dX7_slyly_11, rfl, 0, .int, rfl, rfl, Or.inl ⟨rfl, rfl⟩⟩)))
theorem dX7_newly_0 : decode cX7_newly 0 = .ok (.iload_n 0, 1) := by decide +kernel
theorem dX7_newly_1 : decode cX7_newly 1 = .ok (.iconst 3, 1) := by decide +kernel
theorem dX7_newly_2 : decode cX7_newly 2 = .ok (.if_icmp .ge 7, 3) := by decide +kernel
theorem dX7_newly_5 : decode cX7_newly 5 = .ok (.iconst 1, 1) := by decide +kernel
theorem dX7_newly_6 : decode cX7_newly 6 = .ok (.goto 4, 3) := by decide +kernel
theorem dX7_newly_9 : decode cX7_newly 9 = .ok (.iconst 0, 1) := by decide +kernel
theorem dX7_newly_10 : decode cX7_newly 10 = .ok (.ireturn, 1) := by decide +kernel
set_option maxRecDepth 20000 in
theorem r_X7_newly : m_Right (yX7_newly, cX7_newly, 1, (some .int)) q_X7_newly := m_right_nd (m_right_nd (m_right_lf ⟨1, dX7_newly_0, rfl, rfl, rfl⟩) (m_right_nd (m_right_lf ⟨1, dX7_newly_1, rfl, rfl, by decide +kernel⟩) (m_right_lf ⟨3, dX7_newly_2, rfl, rfl, 9, rfl, by decide⟩))) (m_right_nd (m_right_nd (m_right_lf ⟨1, dX7_newly_5, rfl, rfl, by decide +kernel⟩) (m_right_lf ⟨3, dX7_newly_6, rfl, 10, rfl, by decide⟩)) (m_right_nd (m_right_lf ⟨1, dX7_newly_9, rfl, rfl, by decide +kernel⟩) (m_right_lf ⟨1, dX7_newly_10, rfl, 0, .int, rfl, rfl, Or.inl ⟨rfl, rfl⟩⟩)))
theorem dX7_oddsOf_0 : decode cX7_oddsOf 0 = .ok (.iconst 5, 1) := by decide +kernel
theorem dX7_oddsOf_1 : decode cX7_oddsOf 1 = .ok (.aload_n 0, 1) := by decide +kernel
theorem dX7_oddsOf_2 : decode cX7_oddsOf 2 = .ok (.iload_n 1, 1) := by decide +kernel
theorem dX7_oddsOf_3 : decode cX7_oddsOf 3 = .ok (.iload_n 3, 1) := by decide +kernel
theorem dX7_oddsOf_4 : decode cX7_oddsOf 4 = .ok (.iload 4, 2) := by decide +kernel
theorem dX7_oddsOf_6 : decode cX7_oddsOf 6 = .ok (.iload 5, 2) := by decide +kernel
theorem dX7_oddsOf_8 : decode cX7_oddsOf 8 = .ok (.invokevirtual 104, 3) := by decide +kernel
theorem dX7_oddsOf_11 : decode cX7_oddsOf 11 = .ok (.iadd, 1) := by decide +kernel
theorem dX7_oddsOf_12 : decode cX7_oddsOf 12 = .ok (.aload_n 0, 1) := by decide +kernel
theorem dX7_oddsOf_13 : decode cX7_oddsOf 13 = .ok (.iload_n 2, 1) := by decide +kernel
theorem dX7_oddsOf_14 : decode cX7_oddsOf 14 = .ok (.iload 4, 2) := by decide +kernel
theorem dX7_oddsOf_16 : decode cX7_oddsOf 16 = .ok (.iload_n 3, 1) := by decide +kernel
theorem dX7_oddsOf_17 : decode cX7_oddsOf 17 = .ok (.iload 5, 2) := by decide +kernel
theorem dX7_oddsOf_19 : decode cX7_oddsOf 19 = .ok (.invokevirtual 104, 3) := by decide +kernel
theorem dX7_oddsOf_22 : decode cX7_oddsOf 22 = .ok (.isub, 1) := by decide +kernel
theorem dX7_oddsOf_23 : decode cX7_oddsOf 23 = .ok (.iload_n 3, 1) := by decide +kernel
theorem dX7_oddsOf_24 : decode cX7_oddsOf 24 = .ok (.iload 4, 2) := by decide +kernel
theorem dX7_oddsOf_26 : decode cX7_oddsOf 26 = .ok (.isub, 1) := by decide +kernel
theorem dX7_oddsOf_27 : decode cX7_oddsOf 27 = .ok (.iconst 2, 1) := by decide +kernel
theorem dX7_oddsOf_28 : decode cX7_oddsOf 28 = .ok (.idiv, 1) := by decide +kernel
theorem dX7_oddsOf_29 : decode cX7_oddsOf 29 = .ok (.iadd, 1) := by decide +kernel
theorem dX7_oddsOf_30 : decode cX7_oddsOf 30 = .ok (.istore 6, 2) := by decide +kernel
theorem dX7_oddsOf_32 : decode cX7_oddsOf 32 = .ok (.iconst 1, 1) := by decide +kernel
theorem dX7_oddsOf_33 : decode cX7_oddsOf 33 = .ok (.bipush 9, 2) := by decide +kernel
theorem dX7_oddsOf_35 : decode cX7_oddsOf 35 = .ok (.iload 6, 2) := by decide +kernel
theorem dX7_oddsOf_37 : decode cX7_oddsOf 37 = .ok (.invokestatic 87, 3) := by decide +kernel
theorem dX7_oddsOf_40 : decode cX7_oddsOf 40 = .ok (.invokestatic 79, 3) := by decide +kernel
theorem dX7_oddsOf_43 : decode cX7_oddsOf 43 = .ok (.ireturn, 1) := by decide +kernel
set_option maxRecDepth 20000 in
theorem r_X7_oddsOf : m_Right (yX7_oddsOf, cX7_oddsOf, 7, (some .int)) q_X7_oddsOf := m_right_nd (m_right_nd (m_right_nd (m_right_nd (m_right_lf ⟨1, dX7_oddsOf_0, rfl, rfl, by decide +kernel⟩) (m_right_nd (m_right_lf ⟨1, dX7_oddsOf_1, rfl, rfl, rfl⟩) (m_right_lf ⟨1, dX7_oddsOf_2, rfl, rfl, rfl⟩))) (m_right_nd (m_right_nd (m_right_lf ⟨1, dX7_oddsOf_3, rfl, rfl, rfl⟩) (m_right_lf ⟨2, dX7_oddsOf_4, rfl, rfl, rfl⟩)) (m_right_nd (m_right_lf ⟨2, dX7_oddsOf_6, rfl, rfl, rfl⟩) (m_right_lf ⟨3, dX7_oddsOf_8, rfl, rfl, 61, 4, 7, (yX7_pushOf, cX7_pushOf, 6, (some .int)), rfl, me_X7_pushOf, mc_X7_pushOf, Or.inl ⟨(RX7, TX7, 16), rfl, rfl⟩, wd_548, wd_517, wd_518, wd_63⟩)))) (m_right_nd (m_right_nd (m_right_lf ⟨1, dX7_oddsOf_11, rfl, rfl⟩) (m_right_nd (m_right_lf ⟨1, dX7_oddsOf_12, rfl, rfl, rfl⟩) (m_right_lf ⟨1, dX7_oddsOf_13, rfl, rfl, rfl⟩))) (m_right_nd (m_right_nd (m_right_lf ⟨2, dX7_oddsOf_14, rfl, rfl, rfl⟩) (m_right_lf ⟨1, dX7_oddsOf_16, rfl, rfl, rfl⟩)) (m_right_nd (m_right_lf ⟨2, dX7_oddsOf_17, rfl, rfl, rfl⟩) (m_right_lf ⟨3, dX7_oddsOf_19, rfl, rfl, 61, 4, 7, (yX7_pushOf, cX7_pushOf, 6, (some .int)), rfl, me_X7_pushOf, mc_X7_pushOf, Or.inl ⟨(RX7, TX7, 16), rfl, rfl⟩, wd_548, wd_517, wd_518, wd_63⟩))))) (m_right_nd (m_right_nd (m_right_nd (m_right_lf ⟨1, dX7_oddsOf_22, rfl, rfl⟩) (m_right_nd (m_right_lf ⟨1, dX7_oddsOf_23, rfl, rfl, rfl⟩) (m_right_lf ⟨2, dX7_oddsOf_24, rfl, rfl, rfl⟩))) (m_right_nd (m_right_nd (m_right_lf ⟨1, dX7_oddsOf_26, rfl, rfl⟩) (m_right_lf ⟨1, dX7_oddsOf_27, rfl, rfl, by decide +kernel⟩)) (m_right_nd (m_right_lf ⟨1, dX7_oddsOf_28, rfl, rfl⟩) (m_right_lf ⟨1, dX7_oddsOf_29, rfl, rfl⟩)))) (m_right_nd (m_right_nd (m_right_lf ⟨2, dX7_oddsOf_30, rfl, rfl, rfl⟩) (m_right_nd (m_right_lf ⟨1, dX7_oddsOf_32, rfl, rfl, by decide +kernel⟩) (m_right_lf ⟨2, dX7_oddsOf_33, rfl, rfl, by decide +kernel⟩))) (m_right_nd (m_right_nd (m_right_lf ⟨2, dX7_oddsOf_35, rfl, rfl, rfl⟩) (m_right_lf ⟨3, dX7_oddsOf_37, rfl, rfl, Or.inl ⟨_, rfl, wd_72, Or.inr (Or.inl ⟨rfl, wm_549, wm_392, wm_393⟩)⟩⟩)) (m_right_nd (m_right_lf ⟨3, dX7_oddsOf_40, rfl, rfl, Or.inl ⟨_, rfl, wd_72, Or.inl ⟨rfl, wm_550, wm_551, wm_552⟩⟩⟩) (m_right_lf ⟨1, dX7_oddsOf_43, rfl, 0, .int, rfl, rfl, Or.inl ⟨rfl, rfl⟩⟩)))))
theorem dX7_oddsNow_0 : decode cX7_oddsNow 0 = .ok (.aload_n 0, 1) := by decide +kernel
theorem dX7_oddsNow_1 : decode cX7_oddsNow 1 = .ok (.iload_n 1, 1) := by decide +kernel
theorem dX7_oddsNow_2 : decode cX7_oddsNow 2 = .ok (.iload_n 2, 1) := by decide +kernel
theorem dX7_oddsNow_3 : decode cX7_oddsNow 3 = .ok (.aload_n 0, 1) := by decide +kernel
theorem dX7_oddsNow_4 : decode cX7_oddsNow 4 = .ok (.getfield 18, 3) := by decide +kernel
theorem dX7_oddsNow_7 : decode cX7_oddsNow 7 = .ok (.iload_n 1, 1) := by decide +kernel
theorem dX7_oddsNow_8 : decode cX7_oddsNow 8 = .ok (.iaload, 1) := by decide +kernel
theorem dX7_oddsNow_9 : decode cX7_oddsNow 9 = .ok (.aload_n 0, 1) := by decide +kernel
theorem dX7_oddsNow_10 : decode cX7_oddsNow 10 = .ok (.getfield 18, 3) := by decide +kernel
theorem dX7_oddsNow_13 : decode cX7_oddsNow 13 = .ok (.iload_n 2, 1) := by decide +kernel
theorem dX7_oddsNow_14 : decode cX7_oddsNow 14 = .ok (.iaload, 1) := by decide +kernel
theorem dX7_oddsNow_15 : decode cX7_oddsNow 15 = .ok (.aload_n 0, 1) := by decide +kernel
theorem dX7_oddsNow_16 : decode cX7_oddsNow 16 = .ok (.getfield 51, 3) := by decide +kernel
theorem dX7_oddsNow_19 : decode cX7_oddsNow 19 = .ok (.invokevirtual 108, 3) := by decide +kernel
theorem dX7_oddsNow_22 : decode cX7_oddsNow 22 = .ok (.ireturn, 1) := by decide +kernel
set_option maxRecDepth 20000 in
theorem r_X7_oddsNow : m_Right (yX7_oddsNow, cX7_oddsNow, 3, (some .int)) q_X7_oddsNow := m_right_nd (m_right_nd (m_right_nd (m_right_lf ⟨1, dX7_oddsNow_0, rfl, rfl, rfl⟩) (m_right_nd (m_right_lf ⟨1, dX7_oddsNow_1, rfl, rfl, rfl⟩) (m_right_lf ⟨1, dX7_oddsNow_2, rfl, rfl, rfl⟩))) (m_right_nd (m_right_nd (m_right_lf ⟨1, dX7_oddsNow_3, rfl, rfl, rfl⟩) (m_right_lf ⟨3, dX7_oddsNow_4, rfl, rfl, 7, 3, rfl, Or.inl ⟨(RX7, TX7, 16), rfl, by decide, wd_102⟩⟩)) (m_right_nd (m_right_lf ⟨1, dX7_oddsNow_7, rfl, rfl, rfl⟩) (m_right_lf ⟨1, dX7_oddsNow_8, rfl, rfl⟩)))) (m_right_nd (m_right_nd (m_right_nd (m_right_lf ⟨1, dX7_oddsNow_9, rfl, rfl, rfl⟩) (m_right_lf ⟨3, dX7_oddsNow_10, rfl, rfl, 7, 3, rfl, Or.inl ⟨(RX7, TX7, 16), rfl, by decide, wd_102⟩⟩)) (m_right_nd (m_right_lf ⟨1, dX7_oddsNow_13, rfl, rfl, rfl⟩) (m_right_lf ⟨1, dX7_oddsNow_14, rfl, rfl⟩))) (m_right_nd (m_right_nd (m_right_lf ⟨1, dX7_oddsNow_15, rfl, rfl, rfl⟩) (m_right_lf ⟨3, dX7_oddsNow_16, rfl, rfl, 7, 5, rfl, Or.inl ⟨(RX7, TX7, 16), rfl, by decide, wd_112⟩⟩)) (m_right_nd (m_right_lf ⟨3, dX7_oddsNow_19, rfl, rfl, 65, 5, 7, (yX7_oddsOf, cX7_oddsOf, 7, (some .int)), rfl, me_X7_oddsOf, mc_X7_oddsOf, Or.inl ⟨(RX7, TX7, 16), rfl, rfl⟩, wd_544, wd_545, wd_546, wd_63⟩) (m_right_lf ⟨1, dX7_oddsNow_22, rfl, 0, .int, rfl, rfl, Or.inl ⟨rfl, rfl⟩⟩))))
theorem dX7_game_0 : decode cX7_game 0 = .ok (.aload_n 0, 1) := by decide +kernel
theorem dX7_game_1 : decode cX7_game 1 = .ok (.getfield 18, 3) := by decide +kernel
theorem dX7_game_4 : decode cX7_game 4 = .ok (.iload_n 1, 1) := by decide +kernel
theorem dX7_game_5 : decode cX7_game 5 = .ok (.iload_n 3, 1) := by decide +kernel
theorem dX7_game_6 : decode cX7_game 6 = .ok (.ifCond .eq 16, 3) := by decide +kernel
theorem dX7_game_9 : decode cX7_game 9 = .ok (.aload_n 0, 1) := by decide +kernel
theorem dX7_game_10 : decode cX7_game 10 = .ok (.aload_n 0, 1) := by decide +kernel
theorem dX7_game_11 : decode cX7_game 11 = .ok (.getfield 18, 3) := by decide +kernel
theorem dX7_game_14 : decode cX7_game 14 = .ok (.iload_n 1, 1) := by decide +kernel
theorem dX7_game_15 : decode cX7_game 15 = .ok (.iaload, 1) := by decide +kernel
theorem dX7_game_16 : decode cX7_game 16 = .ok (.invokevirtual 112, 3) := by decide +kernel
theorem dX7_game_19 : decode cX7_game 19 = .ok (.goto 13, 3) := by decide +kernel
theorem dX7_game_22 : decode cX7_game 22 = .ok (.aload_n 0, 1) := by decide +kernel
theorem dX7_game_23 : decode cX7_game 23 = .ok (.aload_n 0, 1) := by decide +kernel
theorem dX7_game_24 : decode cX7_game 24 = .ok (.getfield 18, 3) := by decide +kernel
theorem dX7_game_27 : decode cX7_game 27 = .ok (.iload_n 1, 1) := by decide +kernel
theorem dX7_game_28 : decode cX7_game 28 = .ok (.iaload, 1) := by decide +kernel
theorem dX7_game_29 : decode cX7_game 29 = .ok (.invokevirtual 115, 3) := by decide +kernel
theorem dX7_game_32 : decode cX7_game 32 = .ok (.iastore, 1) := by decide +kernel
theorem dX7_game_33 : decode cX7_game 33 = .ok (.aload_n 0, 1) := by decide +kernel
theorem dX7_game_34 : decode cX7_game 34 = .ok (.getfield 18, 3) := by decide +kernel
theorem dX7_game_37 : decode cX7_game 37 = .ok (.iload_n 2, 1) := by decide +kernel
theorem dX7_game_38 : decode cX7_game 38 = .ok (.iload_n 3, 1) := by decide +kernel
theorem dX7_game_39 : decode cX7_game 39 = .ok (.ifCond .eq 16, 3) := by decide +kernel
theorem dX7_game_42 : decode cX7_game 42 = .ok (.aload_n 0, 1) := by decide +kernel
theorem dX7_game_43 : decode cX7_game 43 = .ok (.aload_n 0, 1) := by decide +kernel
theorem dX7_game_44 : decode cX7_game 44 = .ok (.getfield 18, 3) := by decide +kernel
theorem dX7_game_47 : decode cX7_game 47 = .ok (.iload_n 2, 1) := by decide +kernel
theorem dX7_game_48 : decode cX7_game 48 = .ok (.iaload, 1) := by decide +kernel
theorem dX7_game_49 : decode cX7_game 49 = .ok (.invokevirtual 115, 3) := by decide +kernel
theorem dX7_game_52 : decode cX7_game 52 = .ok (.goto 13, 3) := by decide +kernel
theorem dX7_game_55 : decode cX7_game 55 = .ok (.aload_n 0, 1) := by decide +kernel
theorem dX7_game_56 : decode cX7_game 56 = .ok (.aload_n 0, 1) := by decide +kernel
theorem dX7_game_57 : decode cX7_game 57 = .ok (.getfield 18, 3) := by decide +kernel
theorem dX7_game_60 : decode cX7_game 60 = .ok (.iload_n 2, 1) := by decide +kernel
theorem dX7_game_61 : decode cX7_game 61 = .ok (.iaload, 1) := by decide +kernel
theorem dX7_game_62 : decode cX7_game 62 = .ok (.invokevirtual 112, 3) := by decide +kernel
theorem dX7_game_65 : decode cX7_game 65 = .ok (.iastore, 1) := by decide +kernel
theorem dX7_game_66 : decode cX7_game 66 = .ok (.aload_n 0, 1) := by decide +kernel
theorem dX7_game_67 : decode cX7_game 67 = .ok (.dup, 1) := by decide +kernel
theorem dX7_game_68 : decode cX7_game 68 = .ok (.getfield 51, 3) := by decide +kernel
theorem dX7_game_71 : decode cX7_game 71 = .ok (.iconst 1, 1) := by decide +kernel
theorem dX7_game_72 : decode cX7_game 72 = .ok (.iadd, 1) := by decide +kernel
theorem dX7_game_73 : decode cX7_game 73 = .ok (.putfield 51, 3) := by decide +kernel
theorem dX7_game_76 : decode cX7_game 76 = .ok (.return_, 1) := by decide +kernel
set_option maxRecDepth 20000 in
theorem r_X7_game : m_Right (yX7_game, cX7_game, 4, none) q_X7_game := m_right_nd (m_right_nd (m_right_nd (m_right_nd (m_right_nd (m_right_lf ⟨1, dX7_game_0, rfl, rfl, rfl⟩) (m_right_lf ⟨3, dX7_game_1, rfl, rfl, 7, 3, rfl, Or.inl ⟨(RX7, TX7, 16), rfl, by decide, wd_102⟩⟩)) (m_right_nd (m_right_lf ⟨1, dX7_game_4, rfl, rfl, rfl⟩) (m_right_nd (m_right_lf ⟨1, dX7_game_5, rfl, rfl, rfl⟩) (m_right_lf ⟨3, dX7_game_6, rfl, rfl, 22, rfl, by decide⟩)))) (m_right_nd (m_right_nd (m_right_lf ⟨1, dX7_game_9, rfl, rfl, rfl⟩) (m_right_nd (m_right_lf ⟨1, dX7_game_10, rfl, rfl, rfl⟩) (m_right_lf ⟨3, dX7_game_11, rfl, rfl, 7, 3, rfl, Or.inl ⟨(RX7, TX7, 16), rfl, by decide, wd_102⟩⟩))) (m_right_nd (m_right_lf ⟨1, dX7_game_14, rfl, rfl, rfl⟩) (m_right_nd (m_right_lf ⟨1, dX7_game_15, rfl, rfl⟩) (m_right_lf ⟨3, dX7_game_16, rfl, rfl, 59, 1, 7, (yX7_menIfWon, cX7_menIfWon, 2, (some .int)), rfl, me_X7_menIfWon, mc_X7_menIfWon, Or.inl ⟨(RX7, TX7, 16), rfl, rfl⟩, wd_561, wd_562, wd_563, wd_63⟩))))) (m_right_nd (m_right_nd (m_right_nd (m_right_lf ⟨3, dX7_game_19, rfl, 32, rfl, by decide⟩) (m_right_lf ⟨1, dX7_game_22, rfl, rfl, rfl⟩)) (m_right_nd (m_right_lf ⟨1, dX7_game_23, rfl, rfl, rfl⟩) (m_right_nd (m_right_lf ⟨3, dX7_game_24, rfl, rfl, 7, 3, rfl, Or.inl ⟨(RX7, TX7, 16), rfl, by decide, wd_102⟩⟩) (m_right_lf ⟨1, dX7_game_27, rfl, rfl, rfl⟩)))) (m_right_nd (m_right_nd (m_right_lf ⟨1, dX7_game_28, rfl, rfl⟩) (m_right_nd (m_right_lf ⟨3, dX7_game_29, rfl, rfl, 60, 1, 7, (yX7_menIfLost, cX7_menIfLost, 2, (some .int)), rfl, me_X7_menIfLost, mc_X7_menIfLost, Or.inl ⟨(RX7, TX7, 16), rfl, rfl⟩, wd_566, wd_567, wd_568, wd_63⟩) (m_right_lf ⟨1, dX7_game_32, rfl, rfl⟩))) (m_right_nd (m_right_lf ⟨1, dX7_game_33, rfl, rfl, rfl⟩) (m_right_nd (m_right_lf ⟨3, dX7_game_34, rfl, rfl, 7, 3, rfl, Or.inl ⟨(RX7, TX7, 16), rfl, by decide, wd_102⟩⟩) (m_right_lf ⟨1, dX7_game_37, rfl, rfl, rfl⟩)))))) (m_right_nd (m_right_nd (m_right_nd (m_right_nd (m_right_lf ⟨1, dX7_game_38, rfl, rfl, rfl⟩) (m_right_lf ⟨3, dX7_game_39, rfl, rfl, 55, rfl, by decide⟩)) (m_right_nd (m_right_lf ⟨1, dX7_game_42, rfl, rfl, rfl⟩) (m_right_nd (m_right_lf ⟨1, dX7_game_43, rfl, rfl, rfl⟩) (m_right_lf ⟨3, dX7_game_44, rfl, rfl, 7, 3, rfl, Or.inl ⟨(RX7, TX7, 16), rfl, by decide, wd_102⟩⟩)))) (m_right_nd (m_right_nd (m_right_lf ⟨1, dX7_game_47, rfl, rfl, rfl⟩) (m_right_nd (m_right_lf ⟨1, dX7_game_48, rfl, rfl⟩) (m_right_lf ⟨3, dX7_game_49, rfl, rfl, 60, 1, 7, (yX7_menIfLost, cX7_menIfLost, 2, (some .int)), rfl, me_X7_menIfLost, mc_X7_menIfLost, Or.inl ⟨(RX7, TX7, 16), rfl, rfl⟩, wd_566, wd_567, wd_568, wd_63⟩))) (m_right_nd (m_right_lf ⟨3, dX7_game_52, rfl, 65, rfl, by decide⟩) (m_right_nd (m_right_lf ⟨1, dX7_game_55, rfl, rfl, rfl⟩) (m_right_lf ⟨1, dX7_game_56, rfl, rfl, rfl⟩))))) (m_right_nd (m_right_nd (m_right_nd (m_right_lf ⟨3, dX7_game_57, rfl, rfl, 7, 3, rfl, Or.inl ⟨(RX7, TX7, 16), rfl, by decide, wd_102⟩⟩) (m_right_nd (m_right_lf ⟨1, dX7_game_60, rfl, rfl, rfl⟩) (m_right_lf ⟨1, dX7_game_61, rfl, rfl⟩))) (m_right_nd (m_right_lf ⟨3, dX7_game_62, rfl, rfl, 59, 1, 7, (yX7_menIfWon, cX7_menIfWon, 2, (some .int)), rfl, me_X7_menIfWon, mc_X7_menIfWon, Or.inl ⟨(RX7, TX7, 16), rfl, rfl⟩, wd_561, wd_562, wd_563, wd_63⟩) (m_right_nd (m_right_lf ⟨1, dX7_game_65, rfl, rfl⟩) (m_right_lf ⟨1, dX7_game_66, rfl, rfl, rfl⟩)))) (m_right_nd (m_right_nd (m_right_lf ⟨1, dX7_game_67, rfl, rfl⟩) (m_right_nd (m_right_lf ⟨3, dX7_game_68, rfl, rfl, 7, 5, rfl, Or.inl ⟨(RX7, TX7, 16), rfl, by decide, wd_112⟩⟩) (m_right_lf ⟨1, dX7_game_71, rfl, rfl, by decide +kernel⟩))) (m_right_nd (m_right_lf ⟨1, dX7_game_72, rfl, rfl⟩) (m_right_nd (m_right_lf ⟨3, dX7_game_73, rfl, rfl, 7, 5, 0, (RX7, TX7, 16), rfl, rfl, by decide, wd_112, Or.inl rfl, tyX7 5, tyX7_ok 5 (by decide), Or.inl ⟨rfl, rfl⟩⟩) (m_right_lf ⟨1, dX7_game_76, rfl, rfl⟩))))))
theorem dX7_chanceOfBook_0 : decode cX7_chanceOfBook 0 = .ok (.aload_n 0, 1) := by decide +kernel
theorem dX7_chanceOfBook_1 : decode cX7_chanceOfBook 1 = .ok (.aload_n 0, 1) := by decide +kernel
theorem dX7_chanceOfBook_2 : decode cX7_chanceOfBook 2 = .ok (.getfield 27, 3) := by decide +kernel
theorem dX7_chanceOfBook_5 : decode cX7_chanceOfBook 5 = .ok (.iload_n 1, 1) := by decide +kernel
theorem dX7_chanceOfBook_6 : decode cX7_chanceOfBook 6 = .ok (.iaload, 1) := by decide +kernel
theorem dX7_chanceOfBook_7 : decode cX7_chanceOfBook 7 = .ok (.aload_n 0, 1) := by decide +kernel
theorem dX7_chanceOfBook_8 : decode cX7_chanceOfBook 8 = .ok (.getfield 30, 3) := by decide +kernel
theorem dX7_chanceOfBook_11 : decode cX7_chanceOfBook 11 = .ok (.iload_n 1, 1) := by decide +kernel
theorem dX7_chanceOfBook_12 : decode cX7_chanceOfBook 12 = .ok (.iaload, 1) := by decide +kernel
theorem dX7_chanceOfBook_13 : decode cX7_chanceOfBook 13 = .ok (.invokevirtual 118, 3) := by decide +kernel
theorem dX7_chanceOfBook_16 : decode cX7_chanceOfBook 16 = .ok (.ireturn, 1) := by decide +kernel
set_option maxRecDepth 20000 in
theorem r_X7_chanceOfBook : m_Right (yX7_chanceOfBook, cX7_chanceOfBook, 2, (some .int)) q_X7_chanceOfBook := m_right_nd (m_right_nd (m_right_nd (m_right_lf ⟨1, dX7_chanceOfBook_0, rfl, rfl, rfl⟩) (m_right_lf ⟨1, dX7_chanceOfBook_1, rfl, rfl, rfl⟩)) (m_right_nd (m_right_lf ⟨3, dX7_chanceOfBook_2, rfl, rfl, 7, 10, rfl, Or.inl ⟨(RX7, TX7, 16), rfl, by decide, wd_124⟩⟩) (m_right_nd (m_right_lf ⟨1, dX7_chanceOfBook_5, rfl, rfl, rfl⟩) (m_right_lf ⟨1, dX7_chanceOfBook_6, rfl, rfl⟩)))) (m_right_nd (m_right_nd (m_right_lf ⟨1, dX7_chanceOfBook_7, rfl, rfl, rfl⟩) (m_right_nd (m_right_lf ⟨3, dX7_chanceOfBook_8, rfl, rfl, 7, 11, rfl, Or.inl ⟨(RX7, TX7, 16), rfl, by decide, wd_126⟩⟩) (m_right_lf ⟨1, dX7_chanceOfBook_11, rfl, rfl, rfl⟩))) (m_right_nd (m_right_lf ⟨1, dX7_chanceOfBook_12, rfl, rfl⟩) (m_right_nd (m_right_lf ⟨3, dX7_chanceOfBook_13, rfl, rfl, 66, 2, 7, (yX7_oddsNow, cX7_oddsNow, 3, (some .int)), rfl, me_X7_oddsNow, mc_X7_oddsNow, Or.inl ⟨(RX7, TX7, 16), rfl, rfl⟩, wd_781, wd_541, wd_542, wd_63⟩) (m_right_lf ⟨1, dX7_chanceOfBook_16, rfl, 0, .int, rfl, rfl, Or.inl ⟨rfl, rfl⟩⟩))))
theorem dX7_gameOfBook_0 : decode cX7_gameOfBook 0 = .ok (.aload_n 0, 1) := by decide +kernel
theorem dX7_gameOfBook_1 : decode cX7_gameOfBook 1 = .ok (.aload_n 0, 1) := by decide +kernel
theorem dX7_gameOfBook_2 : decode cX7_gameOfBook 2 = .ok (.getfield 27, 3) := by decide +kernel
theorem dX7_gameOfBook_5 : decode cX7_gameOfBook 5 = .ok (.iload_n 1, 1) := by decide +kernel
theorem dX7_gameOfBook_6 : decode cX7_gameOfBook 6 = .ok (.iaload, 1) := by decide +kernel
theorem dX7_gameOfBook_7 : decode cX7_gameOfBook 7 = .ok (.aload_n 0, 1) := by decide +kernel
theorem dX7_gameOfBook_8 : decode cX7_gameOfBook 8 = .ok (.getfield 30, 3) := by decide +kernel
theorem dX7_gameOfBook_11 : decode cX7_gameOfBook 11 = .ok (.iload_n 1, 1) := by decide +kernel
theorem dX7_gameOfBook_12 : decode cX7_gameOfBook 12 = .ok (.iaload, 1) := by decide +kernel
theorem dX7_gameOfBook_13 : decode cX7_gameOfBook 13 = .ok (.iconst 1, 1) := by decide +kernel
theorem dX7_gameOfBook_14 : decode cX7_gameOfBook 14 = .ok (.invokevirtual 121, 3) := by decide +kernel
theorem dX7_gameOfBook_17 : decode cX7_gameOfBook 17 = .ok (.return_, 1) := by decide +kernel
set_option maxRecDepth 20000 in
theorem r_X7_gameOfBook : m_Right (yX7_gameOfBook, cX7_gameOfBook, 2, none) q_X7_gameOfBook := m_right_nd (m_right_nd (m_right_nd (m_right_lf ⟨1, dX7_gameOfBook_0, rfl, rfl, rfl⟩) (m_right_nd (m_right_lf ⟨1, dX7_gameOfBook_1, rfl, rfl, rfl⟩) (m_right_lf ⟨3, dX7_gameOfBook_2, rfl, rfl, 7, 10, rfl, Or.inl ⟨(RX7, TX7, 16), rfl, by decide, wd_124⟩⟩))) (m_right_nd (m_right_lf ⟨1, dX7_gameOfBook_5, rfl, rfl, rfl⟩) (m_right_nd (m_right_lf ⟨1, dX7_gameOfBook_6, rfl, rfl⟩) (m_right_lf ⟨1, dX7_gameOfBook_7, rfl, rfl, rfl⟩)))) (m_right_nd (m_right_nd (m_right_lf ⟨3, dX7_gameOfBook_8, rfl, rfl, 7, 11, rfl, Or.inl ⟨(RX7, TX7, 16), rfl, by decide, wd_126⟩⟩) (m_right_nd (m_right_lf ⟨1, dX7_gameOfBook_11, rfl, rfl, rfl⟩) (m_right_lf ⟨1, dX7_gameOfBook_12, rfl, rfl⟩))) (m_right_nd (m_right_lf ⟨1, dX7_gameOfBook_13, rfl, rfl, by decide +kernel⟩) (m_right_nd (m_right_lf ⟨3, dX7_gameOfBook_14, rfl, rfl, 67, 3, 7, (yX7_game, cX7_game, 4, none), rfl, me_X7_game, mc_X7_game, Or.inl ⟨(RX7, TX7, 16), rfl, rfl⟩, wd_786, wd_558, wd_559, wd_63⟩) (m_right_lf ⟨1, dX7_gameOfBook_17, rfl, rfl⟩))))
theorem dX8_init_0 : decode cX8_init 0 = .ok (.aload_n 0, 1) := by decide +kernel
theorem dX8_init_1 : decode cX8_init 1 = .ok (.invokespecial 3, 3) := by decide +kernel
theorem dX8_init_4 : decode cX8_init 4 = .ok (.aload_n 0, 1) := by decide +kernel
theorem dX8_init_5 : decode cX8_init 5 = .ok (.bipush 13, 2) := by decide +kernel
theorem dX8_init_7 : decode cX8_init 7 = .ok (.newarray .int, 2) := by decide +kernel
theorem dX8_init_9 : decode cX8_init 9 = .ok (.putfield 9, 3) := by decide +kernel
theorem dX8_init_12 : decode cX8_init 12 = .ok (.return_, 1) := by decide +kernel
set_option maxRecDepth 20000 in
theorem r_X8_init : m_Right (yX8_init, cX8_init, 1, none) q_X8_init := m_right_nd (m_right_nd (m_right_lf ⟨1, dX8_init_0, rfl, rfl, rfl⟩) (m_right_nd (m_right_lf ⟨3, dX8_init_1, rfl, rfl, Or.inl ⟨rfl, wd_310, wd_86, wd_87⟩⟩) (m_right_lf ⟨1, dX8_init_4, rfl, rfl, rfl⟩))) (m_right_nd (m_right_nd (m_right_lf ⟨2, dX8_init_5, rfl, rfl, by decide +kernel⟩) (m_right_lf ⟨2, dX8_init_7, rfl, rfl, Or.inl ⟨rfl, rfl⟩, wd_168⟩)) (m_right_nd (m_right_lf ⟨3, dX8_init_9, rfl, rfl, 8, 0, 3, (RX8, TX8, 4), rfl, rfl, by decide, wd_311, Or.inr ⟨rfl, rfl, rfl⟩, tyX8 0, tyX8_ok 0 (by decide), Or.inr (Or.inr (Or.inr ⟨rfl, Or.inr ⟨_, rfl⟩⟩))⟩) (m_right_lf ⟨1, dX8_init_12, rfl, rfl⟩)))
theorem dX8_wonBy_0 : decode cX8_wonBy 0 = .ok (.aload_n 0, 1) := by decide +kernel
theorem dX8_wonBy_1 : decode cX8_wonBy 1 = .ok (.aload_n 1, 1) := by decide +kernel
theorem dX8_wonBy_2 : decode cX8_wonBy 2 = .ok (.putfield 15, 3) := by decide +kernel
theorem dX8_wonBy_5 : decode cX8_wonBy 5 = .ok (.aload_n 0, 1) := by decide +kernel
theorem dX8_wonBy_6 : decode cX8_wonBy 6 = .ok (.iload_n 2, 1) := by decide +kernel
theorem dX8_wonBy_7 : decode cX8_wonBy 7 = .ok (.putfield 19, 3) := by decide +kernel
theorem dX8_wonBy_10 : decode cX8_wonBy 10 = .ok (.aload_n 0, 1) := by decide +kernel
theorem dX8_wonBy_11 : decode cX8_wonBy 11 = .ok (.iload_n 3, 1) := by decide +kernel
theorem dX8_wonBy_12 : decode cX8_wonBy 12 = .ok (.putfield 23, 3) := by decide +kernel
theorem dX8_wonBy_15 : decode cX8_wonBy 15 = .ok (.iconst 2, 1) := by decide +kernel
theorem dX8_wonBy_16 : decode cX8_wonBy 16 = .ok (.istore 4, 2) := by decide +kernel
theorem dX8_wonBy_18 : decode cX8_wonBy 18 = .ok (.iload 4, 2) := by decide +kernel
theorem dX8_wonBy_20 : decode cX8_wonBy 20 = .ok (.aload_n 1, 1) := by decide +kernel
theorem dX8_wonBy_21 : decode cX8_wonBy 21 = .ok (.getfield 26, 3) := by decide +kernel
theorem dX8_wonBy_24 : decode cX8_wonBy 24 = .ok (.if_icmp .ge 20, 3) := by decide +kernel
theorem dX8_wonBy_27 : decode cX8_wonBy 27 = .ok (.aload_n 0, 1) := by decide +kernel
theorem dX8_wonBy_28 : decode cX8_wonBy 28 = .ok (.getfield 9, 3) := by decide +kernel
theorem dX8_wonBy_31 : decode cX8_wonBy 31 = .ok (.iload 4, 2) := by decide +kernel
theorem dX8_wonBy_33 : decode cX8_wonBy 33 = .ok (.iconst 2, 1) := by decide +kernel
theorem dX8_wonBy_34 : decode cX8_wonBy 34 = .ok (.isub, 1) := by decide +kernel
theorem dX8_wonBy_35 : decode cX8_wonBy 35 = .ok (.iload 4, 2) := by decide +kernel
theorem dX8_wonBy_37 : decode cX8_wonBy 37 = .ok (.iastore, 1) := by decide +kernel
theorem dX8_wonBy_38 : decode cX8_wonBy 38 = .ok (.iinc 4 1, 3) := by decide +kernel
theorem dX8_wonBy_41 : decode cX8_wonBy 41 = .ok (.goto (-23), 3) := by decide +kernel
theorem dX8_wonBy_44 : decode cX8_wonBy 44 = .ok (.aload_n 0, 1) := by decide +kernel
theorem dX8_wonBy_45 : decode cX8_wonBy 45 = .ok (.iconst 0, 1) := by decide +kernel
theorem dX8_wonBy_46 : decode cX8_wonBy 46 = .ok (.iconst 0, 1) := by decide +kernel
theorem dX8_wonBy_47 : decode cX8_wonBy 47 = .ok (.iconst 1, 1) := by decide +kernel
theorem dX8_wonBy_48 : decode cX8_wonBy 48 = .ok (.invokestatic 31, 3) := by decide +kernel
theorem dX8_wonBy_51 : decode cX8_wonBy 51 = .ok (.lreturn, 1) := by decide +kernel
set_option maxRecDepth 20000 in
theorem r_X8_wonBy : m_Right (yX8_wonBy, cX8_wonBy, 5, (some .long)) q_X8_wonBy := m_right_nd (m_right_nd (m_right_nd (m_right_nd (m_right_lf ⟨1, dX8_wonBy_0, rfl, rfl, rfl⟩) (m_right_nd (m_right_lf ⟨1, dX8_wonBy_1, rfl, rfl, rfl⟩) (m_right_lf ⟨3, dX8_wonBy_2, rfl, rfl, 8, 1, 3, (RX8, TX8, 4), rfl, rfl, by decide, wd_312, Or.inl rfl, tyX8 1, tyX8_ok 1 (by decide), Or.inr (Or.inr (Or.inr ⟨rfl, Or.inl ⟨_, rfl⟩⟩))⟩))) (m_right_nd (m_right_nd (m_right_lf ⟨1, dX8_wonBy_5, rfl, rfl, rfl⟩) (m_right_lf ⟨1, dX8_wonBy_6, rfl, rfl, rfl⟩)) (m_right_nd (m_right_lf ⟨3, dX8_wonBy_7, rfl, rfl, 8, 2, 0, (RX8, TX8, 4), rfl, rfl, by decide, wd_313, Or.inl rfl, tyX8 2, tyX8_ok 2 (by decide), Or.inl ⟨rfl, rfl⟩⟩) (m_right_lf ⟨1, dX8_wonBy_10, rfl, rfl, rfl⟩)))) (m_right_nd (m_right_nd (m_right_nd (m_right_lf ⟨1, dX8_wonBy_11, rfl, rfl, rfl⟩) (m_right_lf ⟨3, dX8_wonBy_12, rfl, rfl, 8, 3, 0, (RX8, TX8, 4), rfl, rfl, by decide, wd_314, Or.inl rfl, tyX8 3, tyX8_ok 3 (by decide), Or.inl ⟨rfl, rfl⟩⟩)) (m_right_nd (m_right_lf ⟨1, dX8_wonBy_15, rfl, rfl, by decide +kernel⟩) (m_right_lf ⟨2, dX8_wonBy_16, rfl, rfl, rfl⟩))) (m_right_nd (m_right_nd (m_right_lf ⟨2, dX8_wonBy_18, rfl, rfl, rfl⟩) (m_right_lf ⟨1, dX8_wonBy_20, rfl, rfl, rfl⟩)) (m_right_nd (m_right_lf ⟨3, dX8_wonBy_21, rfl, rfl, 7, 0, rfl, Or.inl ⟨(RX7, TX7, 16), rfl, by decide, wd_95⟩⟩) (m_right_lf ⟨3, dX8_wonBy_24, rfl, rfl, 44, rfl, by decide⟩))))) (m_right_nd (m_right_nd (m_right_nd (m_right_lf ⟨1, dX8_wonBy_27, rfl, rfl, rfl⟩) (m_right_nd (m_right_lf ⟨3, dX8_wonBy_28, rfl, rfl, 8, 0, rfl, Or.inl ⟨(RX8, TX8, 4), rfl, by decide, wd_311⟩⟩) (m_right_lf ⟨2, dX8_wonBy_31, rfl, rfl, rfl⟩))) (m_right_nd (m_right_nd (m_right_lf ⟨1, dX8_wonBy_33, rfl, rfl, by decide +kernel⟩) (m_right_lf ⟨1, dX8_wonBy_34, rfl, rfl⟩)) (m_right_nd (m_right_lf ⟨2, dX8_wonBy_35, rfl, rfl, rfl⟩) (m_right_lf ⟨1, dX8_wonBy_37, rfl, rfl⟩)))) (m_right_nd (m_right_nd (m_right_nd (m_right_lf ⟨3, dX8_wonBy_38, rfl, rfl, rfl, by decide +kernel⟩) (m_right_lf ⟨3, dX8_wonBy_41, rfl, 18, rfl, by decide⟩)) (m_right_nd (m_right_lf ⟨1, dX8_wonBy_44, rfl, rfl, rfl⟩) (m_right_lf ⟨1, dX8_wonBy_45, rfl, rfl, by decide +kernel⟩))) (m_right_nd (m_right_nd (m_right_lf ⟨1, dX8_wonBy_46, rfl, rfl, by decide +kernel⟩) (m_right_lf ⟨1, dX8_wonBy_47, rfl, rfl, by decide +kernel⟩)) (m_right_nd (m_right_lf ⟨3, dX8_wonBy_48, rfl, rfl, Or.inr (Or.inr ⟨72, 4, (yX8_wonFrom, cX8_wonFrom, 11, (some .long)), rfl, me_X8_wonFrom, mc_X8_wonFrom, wd_756, wd_757, wd_69⟩)⟩) (m_right_lf ⟨1, dX8_wonBy_51, rfl, rfl⟩)))))
theorem dX8_wonFrom_0 : decode cX8_wonFrom 0 = .ok (.aload_n 0, 1) := by decide +kernel
theorem dX8_wonFrom_1 : decode cX8_wonFrom 1 = .ok (.getfield 15, 3) := by decide +kernel
theorem dX8_wonFrom_4 : decode cX8_wonFrom 4 = .ok (.iload_n 2, 1) := by decide +kernel
theorem dX8_wonFrom_5 : decode cX8_wonFrom 5 = .ok (.iload_n 3, 1) := by decide +kernel
theorem dX8_wonFrom_6 : decode cX8_wonFrom 6 = .ok (.invokevirtual 35, 3) := by decide +kernel
theorem dX8_wonFrom_9 : decode cX8_wonFrom 9 = .ok (.istore 4, 2) := by decide +kernel
theorem dX8_wonFrom_11 : decode cX8_wonFrom 11 = .ok (.iload_n 1, 1) := by decide +kernel
theorem dX8_wonFrom_12 : decode cX8_wonFrom 12 = .ok (.aload_n 0, 1) := by decide +kernel
theorem dX8_wonFrom_13 : decode cX8_wonFrom 13 = .ok (.getfield 23, 3) := by decide +kernel
theorem dX8_wonFrom_16 : decode cX8_wonFrom 16 = .ok (.iconst 1, 1) := by decide +kernel
theorem dX8_wonFrom_17 : decode cX8_wonFrom 17 = .ok (.isub, 1) := by decide +kernel
theorem dX8_wonFrom_18 : decode cX8_wonFrom 18 = .ok (.if_icmp .lt 34, 3) := by decide +kernel
theorem dX8_wonFrom_21 : decode cX8_wonFrom 21 = .ok (.iload_n 2, 1) := by decide +kernel
theorem dX8_wonFrom_22 : decode cX8_wonFrom 22 = .ok (.aload_n 0, 1) := by decide +kernel
theorem dX8_wonFrom_23 : decode cX8_wonFrom 23 = .ok (.getfield 19, 3) := by decide +kernel
theorem dX8_wonFrom_26 : decode cX8_wonFrom 26 = .ok (.if_icmp .ne 7, 3) := by decide +kernel
theorem dX8_wonFrom_29 : decode cX8_wonFrom 29 = .ok (.iload 4, 2) := by decide +kernel
theorem dX8_wonFrom_31 : decode cX8_wonFrom 31 = .ok (.i2l, 1) := by decide +kernel
theorem dX8_wonFrom_32 : decode cX8_wonFrom 32 = .ok (.lreturn, 1) := by decide +kernel
theorem dX8_wonFrom_33 : decode cX8_wonFrom 33 = .ok (.iload_n 3, 1) := by decide +kernel
theorem dX8_wonFrom_34 : decode cX8_wonFrom 34 = .ok (.aload_n 0, 1) := by decide +kernel
theorem dX8_wonFrom_35 : decode cX8_wonFrom 35 = .ok (.getfield 19, 3) := by decide +kernel
theorem dX8_wonFrom_38 : decode cX8_wonFrom 38 = .ok (.if_icmp .ne 12, 3) := by decide +kernel
theorem dX8_wonFrom_41 : decode cX8_wonFrom 41 = .ok (.bipush 10, 2) := by decide +kernel
theorem dX8_wonFrom_43 : decode cX8_wonFrom 43 = .ok (.iload 4, 2) := by decide +kernel
theorem dX8_wonFrom_45 : decode cX8_wonFrom 45 = .ok (.isub, 1) := by decide +kernel
theorem dX8_wonFrom_46 : decode cX8_wonFrom 46 = .ok (.i2l, 1) := by decide +kernel
theorem dX8_wonFrom_47 : decode cX8_wonFrom 47 = .ok (.goto 4, 3) := by decide +kernel
theorem dX8_wonFrom_50 : decode cX8_wonFrom 50 = .ok (.lconst 0, 1) := by decide +kernel
theorem dX8_wonFrom_51 : decode cX8_wonFrom 51 = .ok (.lreturn, 1) := by decide +kernel
theorem dX8_wonFrom_52 : decode cX8_wonFrom 52 = .ok (.aload_n 0, 1) := by decide +kernel
theorem dX8_wonFrom_53 : decode cX8_wonFrom 53 = .ok (.getfield 15, 3) := by decide +kernel
theorem dX8_wonFrom_56 : decode cX8_wonFrom 56 = .ok (.getfield 39, 3) := by decide +kernel
theorem dX8_wonFrom_59 : decode cX8_wonFrom 59 = .ok (.iload_n 2, 1) := by decide +kernel
theorem dX8_wonFrom_60 : decode cX8_wonFrom 60 = .ok (.iaload, 1) := by decide +kernel
theorem dX8_wonFrom_61 : decode cX8_wonFrom 61 = .ok (.istore 5, 2) := by decide +kernel
theorem dX8_wonFrom_63 : decode cX8_wonFrom 63 = .ok (.aload_n 0, 1) := by decide +kernel
theorem dX8_wonFrom_64 : decode cX8_wonFrom 64 = .ok (.getfield 15, 3) := by decide +kernel
theorem dX8_wonFrom_67 : decode cX8_wonFrom 67 = .ok (.getfield 39, 3) := by decide +kernel
theorem dX8_wonFrom_70 : decode cX8_wonFrom 70 = .ok (.iload_n 3, 1) := by decide +kernel
theorem dX8_wonFrom_71 : decode cX8_wonFrom 71 = .ok (.iaload, 1) := by decide +kernel
theorem dX8_wonFrom_72 : decode cX8_wonFrom 72 = .ok (.istore 6, 2) := by decide +kernel
theorem dX8_wonFrom_74 : decode cX8_wonFrom 74 = .ok (.aload_n 0, 1) := by decide +kernel
theorem dX8_wonFrom_75 : decode cX8_wonFrom 75 = .ok (.getfield 15, 3) := by decide +kernel
theorem dX8_wonFrom_78 : decode cX8_wonFrom 78 = .ok (.iload_n 2, 1) := by decide +kernel
theorem dX8_wonFrom_79 : decode cX8_wonFrom 79 = .ok (.iload_n 3, 1) := by decide +kernel
theorem dX8_wonFrom_80 : decode cX8_wonFrom 80 = .ok (.iconst 1, 1) := by decide +kernel
theorem dX8_wonFrom_81 : decode cX8_wonFrom 81 = .ok (.invokevirtual 42, 3) := by decide +kernel
theorem dX8_wonFrom_84 : decode cX8_wonFrom 84 = .ok (.aload_n 0, 1) := by decide +kernel
theorem dX8_wonFrom_85 : decode cX8_wonFrom 85 = .ok (.iload_n 1, 1) := by decide +kernel
theorem dX8_wonFrom_86 : decode cX8_wonFrom 86 = .ok (.iconst 1, 1) := by decide +kernel
theorem dX8_wonFrom_87 : decode cX8_wonFrom 87 = .ok (.iadd, 1) := by decide +kernel
theorem dX8_wonFrom_88 : decode cX8_wonFrom 88 = .ok (.iload_n 2, 1) := by decide +kernel
theorem dX8_wonFrom_89 : decode cX8_wonFrom 89 = .ok (.aload_n 0, 1) := by decide +kernel
theorem dX8_wonFrom_90 : decode cX8_wonFrom 90 = .ok (.iload_n 3, 1) := by decide +kernel
theorem dX8_wonFrom_91 : decode cX8_wonFrom 91 = .ok (.iload_n 1, 1) := by decide +kernel
theorem dX8_wonFrom_92 : decode cX8_wonFrom 92 = .ok (.invokevirtual 46, 3) := by decide +kernel
theorem dX8_wonFrom_95 : decode cX8_wonFrom 95 = .ok (.invokestatic 31, 3) := by decide +kernel
theorem dX8_wonFrom_98 : decode cX8_wonFrom 98 = .ok (.lstore 7, 2) := by decide +kernel
theorem dX8_wonFrom_100 : decode cX8_wonFrom 100 = .ok (.aload_n 0, 1) := by decide +kernel
theorem dX8_wonFrom_101 : decode cX8_wonFrom 101 = .ok (.iload_n 2, 1) := by decide +kernel
theorem dX8_wonFrom_102 : decode cX8_wonFrom 102 = .ok (.iload 5, 2) := by decide +kernel
theorem dX8_wonFrom_104 : decode cX8_wonFrom 104 = .ok (.iload_n 3, 1) := by decide +kernel
theorem dX8_wonFrom_105 : decode cX8_wonFrom 105 = .ok (.iload 6, 2) := by decide +kernel
theorem dX8_wonFrom_107 : decode cX8_wonFrom 107 = .ok (.invokevirtual 49, 3) := by decide +kernel
theorem dX8_wonFrom_110 : decode cX8_wonFrom 110 = .ok (.aload_n 0, 1) := by decide +kernel
theorem dX8_wonFrom_111 : decode cX8_wonFrom 111 = .ok (.getfield 15, 3) := by decide +kernel
theorem dX8_wonFrom_114 : decode cX8_wonFrom 114 = .ok (.iload_n 2, 1) := by decide +kernel
theorem dX8_wonFrom_115 : decode cX8_wonFrom 115 = .ok (.iload_n 3, 1) := by decide +kernel
theorem dX8_wonFrom_116 : decode cX8_wonFrom 116 = .ok (.iconst 0, 1) := by decide +kernel
theorem dX8_wonFrom_117 : decode cX8_wonFrom 117 = .ok (.invokevirtual 42, 3) := by decide +kernel
theorem dX8_wonFrom_120 : decode cX8_wonFrom 120 = .ok (.aload_n 0, 1) := by decide +kernel
theorem dX8_wonFrom_121 : decode cX8_wonFrom 121 = .ok (.iload_n 1, 1) := by decide +kernel
theorem dX8_wonFrom_122 : decode cX8_wonFrom 122 = .ok (.iconst 1, 1) := by decide +kernel
theorem dX8_wonFrom_123 : decode cX8_wonFrom 123 = .ok (.iadd, 1) := by decide +kernel
theorem dX8_wonFrom_124 : decode cX8_wonFrom 124 = .ok (.aload_n 0, 1) := by decide +kernel
theorem dX8_wonFrom_125 : decode cX8_wonFrom 125 = .ok (.iload_n 2, 1) := by decide +kernel
theorem dX8_wonFrom_126 : decode cX8_wonFrom 126 = .ok (.iload_n 1, 1) := by decide +kernel
theorem dX8_wonFrom_127 : decode cX8_wonFrom 127 = .ok (.invokevirtual 46, 3) := by decide +kernel
theorem dX8_wonFrom_130 : decode cX8_wonFrom 130 = .ok (.iload_n 3, 1) := by decide +kernel
theorem dX8_wonFrom_131 : decode cX8_wonFrom 131 = .ok (.invokestatic 31, 3) := by decide +kernel
theorem dX8_wonFrom_134 : decode cX8_wonFrom 134 = .ok (.lstore 9, 2) := by decide +kernel
theorem dX8_wonFrom_136 : decode cX8_wonFrom 136 = .ok (.aload_n 0, 1) := by decide +kernel
theorem dX8_wonFrom_137 : decode cX8_wonFrom 137 = .ok (.iload_n 2, 1) := by decide +kernel
theorem dX8_wonFrom_138 : decode cX8_wonFrom 138 = .ok (.iload 5, 2) := by decide +kernel
theorem dX8_wonFrom_140 : decode cX8_wonFrom 140 = .ok (.iload_n 3, 1) := by decide +kernel
theorem dX8_wonFrom_141 : decode cX8_wonFrom 141 = .ok (.iload 6, 2) := by decide +kernel
theorem dX8_wonFrom_143 : decode cX8_wonFrom 143 = .ok (.invokevirtual 49, 3) := by decide +kernel
theorem dX8_wonFrom_146 : decode cX8_wonFrom 146 = .ok (.iload 4, 2) := by decide +kernel
theorem dX8_wonFrom_148 : decode cX8_wonFrom 148 = .ok (.i2l, 1) := by decide +kernel
theorem dX8_wonFrom_149 : decode cX8_wonFrom 149 = .ok (.lload 7, 2) := by decide +kernel
theorem dX8_wonFrom_151 : decode cX8_wonFrom 151 = .ok (.lmul, 1) := by decide +kernel
theorem dX8_wonFrom_152 : decode cX8_wonFrom 152 = .ok (.bipush 10, 2) := by decide +kernel
theorem dX8_wonFrom_154 : decode cX8_wonFrom 154 = .ok (.iload 4, 2) := by decide +kernel
theorem dX8_wonFrom_156 : decode cX8_wonFrom 156 = .ok (.isub, 1) := by decide +kernel
theorem dX8_wonFrom_157 : decode cX8_wonFrom 157 = .ok (.i2l, 1) := by decide +kernel
theorem dX8_wonFrom_158 : decode cX8_wonFrom 158 = .ok (.lload 9, 2) := by decide +kernel
theorem dX8_wonFrom_160 : decode cX8_wonFrom 160 = .ok (.lmul, 1) := by decide +kernel
theorem dX8_wonFrom_161 : decode cX8_wonFrom 161 = .ok (.ladd, 1) := by decide +kernel
theorem dX8_wonFrom_162 : decode cX8_wonFrom 162 = .ok (.lreturn, 1) := by decide +kernel
set_option maxRecDepth 20000 in
theorem r_X8_wonFrom : m_Right (yX8_wonFrom, cX8_wonFrom, 11, (some .long)) q_X8_wonFrom := m_right_nd (m_right_nd (m_right_nd (m_right_nd (m_right_nd (m_right_nd (m_right_lf ⟨1, dX8_wonFrom_0, rfl, rfl, rfl⟩) (m_right_nd (m_right_lf ⟨3, dX8_wonFrom_1, rfl, rfl, 8, 1, rfl, Or.inl ⟨(RX8, TX8, 4), rfl, by decide, wd_312⟩⟩) (m_right_lf ⟨1, dX8_wonFrom_4, rfl, rfl, rfl⟩))) (m_right_nd (m_right_lf ⟨1, dX8_wonFrom_5, rfl, rfl, rfl⟩) (m_right_nd (m_right_lf ⟨3, dX8_wonFrom_6, rfl, rfl, 66, 2, 7, (yX7_oddsNow, cX7_oddsNow, 3, (some .int)), rfl, me_X7_oddsNow, mc_X7_oddsNow, Or.inl ⟨(RX7, TX7, 16), rfl, rfl⟩, wd_759, wd_541, wd_542, wd_63⟩) (m_right_lf ⟨2, dX8_wonFrom_9, rfl, rfl, rfl⟩)))) (m_right_nd (m_right_nd (m_right_lf ⟨1, dX8_wonFrom_11, rfl, rfl, rfl⟩) (m_right_nd (m_right_lf ⟨1, dX8_wonFrom_12, rfl, rfl, rfl⟩) (m_right_lf ⟨3, dX8_wonFrom_13, rfl, rfl, 8, 3, rfl, Or.inl ⟨(RX8, TX8, 4), rfl, by decide, wd_314⟩⟩))) (m_right_nd (m_right_lf ⟨1, dX8_wonFrom_16, rfl, rfl, by decide +kernel⟩) (m_right_nd (m_right_lf ⟨1, dX8_wonFrom_17, rfl, rfl⟩) (m_right_lf ⟨3, dX8_wonFrom_18, rfl, rfl, 52, rfl, by decide⟩))))) (m_right_nd (m_right_nd (m_right_nd (m_right_lf ⟨1, dX8_wonFrom_21, rfl, rfl, rfl⟩) (m_right_nd (m_right_lf ⟨1, dX8_wonFrom_22, rfl, rfl, rfl⟩) (m_right_lf ⟨3, dX8_wonFrom_23, rfl, rfl, 8, 2, rfl, Or.inl ⟨(RX8, TX8, 4), rfl, by decide, wd_313⟩⟩))) (m_right_nd (m_right_lf ⟨3, dX8_wonFrom_26, rfl, rfl, 33, rfl, by decide⟩) (m_right_nd (m_right_lf ⟨2, dX8_wonFrom_29, rfl, rfl, rfl⟩) (m_right_lf ⟨1, dX8_wonFrom_31, rfl, rfl⟩)))) (m_right_nd (m_right_nd (m_right_lf ⟨1, dX8_wonFrom_32, rfl, rfl⟩) (m_right_nd (m_right_lf ⟨1, dX8_wonFrom_33, rfl, rfl, rfl⟩) (m_right_lf ⟨1, dX8_wonFrom_34, rfl, rfl, rfl⟩))) (m_right_nd (m_right_nd (m_right_lf ⟨3, dX8_wonFrom_35, rfl, rfl, 8, 2, rfl, Or.inl ⟨(RX8, TX8, 4), rfl, by decide, wd_313⟩⟩) (m_right_lf ⟨3, dX8_wonFrom_38, rfl, rfl, 50, rfl, by decide⟩)) (m_right_nd (m_right_lf ⟨2, dX8_wonFrom_41, rfl, rfl, by decide +kernel⟩) (m_right_lf ⟨2, dX8_wonFrom_43, rfl, rfl, rfl⟩)))))) (m_right_nd (m_right_nd (m_right_nd (m_right_nd (m_right_lf ⟨1, dX8_wonFrom_45, rfl, rfl⟩) (m_right_nd (m_right_lf ⟨1, dX8_wonFrom_46, rfl, rfl⟩) (m_right_lf ⟨3, dX8_wonFrom_47, rfl, 51, rfl, by decide⟩))) (m_right_nd (m_right_lf ⟨1, dX8_wonFrom_50, rfl, rfl, by decide +kernel⟩) (m_right_nd (m_right_lf ⟨1, dX8_wonFrom_51, rfl, rfl⟩) (m_right_lf ⟨1, dX8_wonFrom_52, rfl, rfl, rfl⟩)))) (m_right_nd (m_right_nd (m_right_lf ⟨3, dX8_wonFrom_53, rfl, rfl, 8, 1, rfl, Or.inl ⟨(RX8, TX8, 4), rfl, by decide, wd_312⟩⟩) (m_right_nd (m_right_lf ⟨3, dX8_wonFrom_56, rfl, rfl, 7, 3, rfl, Or.inl ⟨(RX7, TX7, 16), rfl, by decide, wd_106⟩⟩) (m_right_lf ⟨1, dX8_wonFrom_59, rfl, rfl, rfl⟩))) (m_right_nd (m_right_lf ⟨1, dX8_wonFrom_60, rfl, rfl⟩) (m_right_nd (m_right_lf ⟨2, dX8_wonFrom_61, rfl, rfl, rfl⟩) (m_right_lf ⟨1, dX8_wonFrom_63, rfl, rfl, rfl⟩))))) (m_right_nd (m_right_nd (m_right_nd (m_right_lf ⟨3, dX8_wonFrom_64, rfl, rfl, 8, 1, rfl, Or.inl ⟨(RX8, TX8, 4), rfl, by decide, wd_312⟩⟩) (m_right_nd (m_right_lf ⟨3, dX8_wonFrom_67, rfl, rfl, 7, 3, rfl, Or.inl ⟨(RX7, TX7, 16), rfl, by decide, wd_106⟩⟩) (m_right_lf ⟨1, dX8_wonFrom_70, rfl, rfl, rfl⟩))) (m_right_nd (m_right_lf ⟨1, dX8_wonFrom_71, rfl, rfl⟩) (m_right_nd (m_right_lf ⟨2, dX8_wonFrom_72, rfl, rfl, rfl⟩) (m_right_lf ⟨1, dX8_wonFrom_74, rfl, rfl, rfl⟩)))) (m_right_nd (m_right_nd (m_right_lf ⟨3, dX8_wonFrom_75, rfl, rfl, 8, 1, rfl, Or.inl ⟨(RX8, TX8, 4), rfl, by decide, wd_312⟩⟩) (m_right_nd (m_right_lf ⟨1, dX8_wonFrom_78, rfl, rfl, rfl⟩) (m_right_lf ⟨1, dX8_wonFrom_79, rfl, rfl, rfl⟩))) (m_right_nd (m_right_nd (m_right_lf ⟨1, dX8_wonFrom_80, rfl, rfl, by decide +kernel⟩) (m_right_lf ⟨3, dX8_wonFrom_81, rfl, rfl, 67, 3, 7, (yX7_game, cX7_game, 4, none), rfl, me_X7_game, mc_X7_game, Or.inl ⟨(RX7, TX7, 16), rfl, rfl⟩, wd_760, wd_558, wd_559, wd_63⟩)) (m_right_nd (m_right_lf ⟨1, dX8_wonFrom_84, rfl, rfl, rfl⟩) (m_right_lf ⟨1, dX8_wonFrom_85, rfl, rfl, rfl⟩))))))) (m_right_nd (m_right_nd (m_right_nd (m_right_nd (m_right_nd (m_right_lf ⟨1, dX8_wonFrom_86, rfl, rfl, by decide +kernel⟩) (m_right_nd (m_right_lf ⟨1, dX8_wonFrom_87, rfl, rfl⟩) (m_right_lf ⟨1, dX8_wonFrom_88, rfl, rfl, rfl⟩))) (m_right_nd (m_right_lf ⟨1, dX8_wonFrom_89, rfl, rfl, rfl⟩) (m_right_nd (m_right_lf ⟨1, dX8_wonFrom_90, rfl, rfl, rfl⟩) (m_right_lf ⟨1, dX8_wonFrom_91, rfl, rfl, rfl⟩)))) (m_right_nd (m_right_nd (m_right_lf ⟨3, dX8_wonFrom_92, rfl, rfl, 73, 2, 8, (yX8_comesFor, cX8_comesFor, 3, (some .int)), rfl, me_X8_comesFor, mc_X8_comesFor, Or.inl ⟨(RX8, TX8, 4), rfl, rfl⟩, wd_761, wd_763, wd_15, wd_69⟩) (m_right_nd (m_right_lf ⟨3, dX8_wonFrom_95, rfl, rfl, Or.inr (Or.inr ⟨72, 4, (yX8_wonFrom, cX8_wonFrom, 11, (some .long)), rfl, me_X8_wonFrom, mc_X8_wonFrom, wd_756, wd_757, wd_69⟩)⟩) (m_right_lf ⟨2, dX8_wonFrom_98, rfl, rfl, rfl⟩))) (m_right_nd (m_right_lf ⟨1, dX8_wonFrom_100, rfl, rfl, rfl⟩) (m_right_nd (m_right_lf ⟨1, dX8_wonFrom_101, rfl, rfl, rfl⟩) (m_right_lf ⟨2, dX8_wonFrom_102, rfl, rfl, rfl⟩))))) (m_right_nd (m_right_nd (m_right_nd (m_right_lf ⟨1, dX8_wonFrom_104, rfl, rfl, rfl⟩) (m_right_nd (m_right_lf ⟨2, dX8_wonFrom_105, rfl, rfl, rfl⟩) (m_right_lf ⟨3, dX8_wonFrom_107, rfl, rfl, 74, 4, 8, (yX8_goesBack, cX8_goesBack, 5, none), rfl, me_X8_goesBack, mc_X8_goesBack, Or.inl ⟨(RX8, TX8, 4), rfl, rfl⟩, wd_765, wd_767, wd_16, wd_69⟩))) (m_right_nd (m_right_lf ⟨1, dX8_wonFrom_110, rfl, rfl, rfl⟩) (m_right_nd (m_right_lf ⟨3, dX8_wonFrom_111, rfl, rfl, 8, 1, rfl, Or.inl ⟨(RX8, TX8, 4), rfl, by decide, wd_312⟩⟩) (m_right_lf ⟨1, dX8_wonFrom_114, rfl, rfl, rfl⟩)))) (m_right_nd (m_right_nd (m_right_lf ⟨1, dX8_wonFrom_115, rfl, rfl, rfl⟩) (m_right_nd (m_right_lf ⟨1, dX8_wonFrom_116, rfl, rfl, by decide +kernel⟩) (m_right_lf ⟨3, dX8_wonFrom_117, rfl, rfl, 67, 3, 7, (yX7_game, cX7_game, 4, none), rfl, me_X7_game, mc_X7_game, Or.inl ⟨(RX7, TX7, 16), rfl, rfl⟩, wd_760, wd_558, wd_559, wd_63⟩))) (m_right_nd (m_right_nd (m_right_lf ⟨1, dX8_wonFrom_120, rfl, rfl, rfl⟩) (m_right_lf ⟨1, dX8_wonFrom_121, rfl, rfl, rfl⟩)) (m_right_nd (m_right_lf ⟨1, dX8_wonFrom_122, rfl, rfl, by decide +kernel⟩) (m_right_lf ⟨1, dX8_wonFrom_123, rfl, rfl⟩)))))) (m_right_nd (m_right_nd (m_right_nd (m_right_nd (m_right_lf ⟨1, dX8_wonFrom_124, rfl, rfl, rfl⟩) (m_right_nd (m_right_lf ⟨1, dX8_wonFrom_125, rfl, rfl, rfl⟩) (m_right_lf ⟨1, dX8_wonFrom_126, rfl, rfl, rfl⟩))) (m_right_nd (m_right_lf ⟨3, dX8_wonFrom_127, rfl, rfl, 73, 2, 8, (yX8_comesFor, cX8_comesFor, 3, (some .int)), rfl, me_X8_comesFor, mc_X8_comesFor, Or.inl ⟨(RX8, TX8, 4), rfl, rfl⟩, wd_761, wd_763, wd_15, wd_69⟩) (m_right_nd (m_right_lf ⟨1, dX8_wonFrom_130, rfl, rfl, rfl⟩) (m_right_lf ⟨3, dX8_wonFrom_131, rfl, rfl, Or.inr (Or.inr ⟨72, 4, (yX8_wonFrom, cX8_wonFrom, 11, (some .long)), rfl, me_X8_wonFrom, mc_X8_wonFrom, wd_756, wd_757, wd_69⟩)⟩)))) (m_right_nd (m_right_nd (m_right_lf ⟨2, dX8_wonFrom_134, rfl, rfl, rfl⟩) (m_right_nd (m_right_lf ⟨1, dX8_wonFrom_136, rfl, rfl, rfl⟩) (m_right_lf ⟨1, dX8_wonFrom_137, rfl, rfl, rfl⟩))) (m_right_nd (m_right_lf ⟨2, dX8_wonFrom_138, rfl, rfl, rfl⟩) (m_right_nd (m_right_lf ⟨1, dX8_wonFrom_140, rfl, rfl, rfl⟩) (m_right_lf ⟨2, dX8_wonFrom_141, rfl, rfl, rfl⟩))))) (m_right_nd (m_right_nd (m_right_nd (m_right_lf ⟨3, dX8_wonFrom_143, rfl, rfl, 74, 4, 8, (yX8_goesBack, cX8_goesBack, 5, none), rfl, me_X8_goesBack, mc_X8_goesBack, Or.inl ⟨(RX8, TX8, 4), rfl, rfl⟩, wd_765, wd_767, wd_16, wd_69⟩) (m_right_nd (m_right_lf ⟨2, dX8_wonFrom_146, rfl, rfl, rfl⟩) (m_right_lf ⟨1, dX8_wonFrom_148, rfl, rfl⟩))) (m_right_nd (m_right_lf ⟨2, dX8_wonFrom_149, rfl, rfl, rfl⟩) (m_right_nd (m_right_lf ⟨1, dX8_wonFrom_151, rfl, rfl⟩) (m_right_lf ⟨2, dX8_wonFrom_152, rfl, rfl, by decide +kernel⟩)))) (m_right_nd (m_right_nd (m_right_lf ⟨2, dX8_wonFrom_154, rfl, rfl, rfl⟩) (m_right_nd (m_right_lf ⟨1, dX8_wonFrom_156, rfl, rfl⟩) (m_right_lf ⟨1, dX8_wonFrom_157, rfl, rfl⟩))) (m_right_nd (m_right_nd (m_right_lf ⟨2, dX8_wonFrom_158, rfl, rfl, rfl⟩) (m_right_lf ⟨1, dX8_wonFrom_160, rfl, rfl⟩)) (m_right_nd (m_right_lf ⟨1, dX8_wonFrom_161, rfl, rfl⟩) (m_right_lf ⟨1, dX8_wonFrom_162, rfl, rfl⟩)))))))
theorem dX8_comesFor_0 : decode cX8_comesFor 0 = .ok (.aload_n 0, 1) := by decide +kernel
theorem dX8_comesFor_1 : decode cX8_comesFor 1 = .ok (.getfield 9, 3) := by decide +kernel
theorem dX8_comesFor_4 : decode cX8_comesFor 4 = .ok (.iload_n 2, 1) := by decide +kernel
theorem dX8_comesFor_5 : decode cX8_comesFor 5 = .ok (.aload_n 0, 1) := by decide +kernel
theorem dX8_comesFor_6 : decode cX8_comesFor 6 = .ok (.getfield 15, 3) := by decide +kernel
theorem dX8_comesFor_9 : decode cX8_comesFor 9 = .ok (.getfield 26, 3) := by decide +kernel
theorem dX8_comesFor_12 : decode cX8_comesFor 12 = .ok (.iadd, 1) := by decide +kernel
theorem dX8_comesFor_13 : decode cX8_comesFor 13 = .ok (.iconst 2, 1) := by decide +kernel
theorem dX8_comesFor_14 : decode cX8_comesFor 14 = .ok (.isub, 1) := by decide +kernel
theorem dX8_comesFor_15 : decode cX8_comesFor 15 = .ok (.iload_n 1, 1) := by decide +kernel
theorem dX8_comesFor_16 : decode cX8_comesFor 16 = .ok (.iastore, 1) := by decide +kernel
theorem dX8_comesFor_17 : decode cX8_comesFor 17 = .ok (.aload_n 0, 1) := by decide +kernel
theorem dX8_comesFor_18 : decode cX8_comesFor 18 = .ok (.getfield 9, 3) := by decide +kernel
theorem dX8_comesFor_21 : decode cX8_comesFor 21 = .ok (.iload_n 2, 1) := by decide +kernel
theorem dX8_comesFor_22 : decode cX8_comesFor 22 = .ok (.iaload, 1) := by decide +kernel
theorem dX8_comesFor_23 : decode cX8_comesFor 23 = .ok (.ireturn, 1) := by decide +kernel
set_option maxRecDepth 20000 in
theorem r_X8_comesFor : m_Right (yX8_comesFor, cX8_comesFor, 3, (some .int)) q_X8_comesFor := m_right_nd (m_right_nd (m_right_nd (m_right_nd (m_right_lf ⟨1, dX8_comesFor_0, rfl, rfl, rfl⟩) (m_right_lf ⟨3, dX8_comesFor_1, rfl, rfl, 8, 0, rfl, Or.inl ⟨(RX8, TX8, 4), rfl, by decide, wd_311⟩⟩)) (m_right_nd (m_right_lf ⟨1, dX8_comesFor_4, rfl, rfl, rfl⟩) (m_right_lf ⟨1, dX8_comesFor_5, rfl, rfl, rfl⟩))) (m_right_nd (m_right_nd (m_right_lf ⟨3, dX8_comesFor_6, rfl, rfl, 8, 1, rfl, Or.inl ⟨(RX8, TX8, 4), rfl, by decide, wd_312⟩⟩) (m_right_lf ⟨3, dX8_comesFor_9, rfl, rfl, 7, 0, rfl, Or.inl ⟨(RX7, TX7, 16), rfl, by decide, wd_95⟩⟩)) (m_right_nd (m_right_lf ⟨1, dX8_comesFor_12, rfl, rfl⟩) (m_right_lf ⟨1, dX8_comesFor_13, rfl, rfl, by decide +kernel⟩)))) (m_right_nd (m_right_nd (m_right_nd (m_right_lf ⟨1, dX8_comesFor_14, rfl, rfl⟩) (m_right_lf ⟨1, dX8_comesFor_15, rfl, rfl, rfl⟩)) (m_right_nd (m_right_lf ⟨1, dX8_comesFor_16, rfl, rfl⟩) (m_right_lf ⟨1, dX8_comesFor_17, rfl, rfl, rfl⟩))) (m_right_nd (m_right_nd (m_right_lf ⟨3, dX8_comesFor_18, rfl, rfl, 8, 0, rfl, Or.inl ⟨(RX8, TX8, 4), rfl, by decide, wd_311⟩⟩) (m_right_lf ⟨1, dX8_comesFor_21, rfl, rfl, rfl⟩)) (m_right_nd (m_right_lf ⟨1, dX8_comesFor_22, rfl, rfl⟩) (m_right_lf ⟨1, dX8_comesFor_23, rfl, 0, .int, rfl, rfl, Or.inl ⟨rfl, rfl⟩⟩))))
theorem dX8_goesBack_0 : decode cX8_goesBack 0 = .ok (.aload_n 0, 1) := by decide +kernel
theorem dX8_goesBack_1 : decode cX8_goesBack 1 = .ok (.getfield 15, 3) := by decide +kernel
theorem dX8_goesBack_4 : decode cX8_goesBack 4 = .ok (.getfield 39, 3) := by decide +kernel
theorem dX8_goesBack_7 : decode cX8_goesBack 7 = .ok (.iload_n 1, 1) := by decide +kernel
theorem dX8_goesBack_8 : decode cX8_goesBack 8 = .ok (.iload_n 2, 1) := by decide +kernel
theorem dX8_goesBack_9 : decode cX8_goesBack 9 = .ok (.iastore, 1) := by decide +kernel
theorem dX8_goesBack_10 : decode cX8_goesBack 10 = .ok (.aload_n 0, 1) := by decide +kernel
theorem dX8_goesBack_11 : decode cX8_goesBack 11 = .ok (.getfield 15, 3) := by decide +kernel
theorem dX8_goesBack_14 : decode cX8_goesBack 14 = .ok (.getfield 39, 3) := by decide +kernel
theorem dX8_goesBack_17 : decode cX8_goesBack 17 = .ok (.iload_n 3, 1) := by decide +kernel
theorem dX8_goesBack_18 : decode cX8_goesBack 18 = .ok (.iload 4, 2) := by decide +kernel
theorem dX8_goesBack_20 : decode cX8_goesBack 20 = .ok (.iastore, 1) := by decide +kernel
theorem dX8_goesBack_21 : decode cX8_goesBack 21 = .ok (.aload_n 0, 1) := by decide +kernel
theorem dX8_goesBack_22 : decode cX8_goesBack 22 = .ok (.getfield 15, 3) := by decide +kernel
theorem dX8_goesBack_25 : decode cX8_goesBack 25 = .ok (.dup, 1) := by decide +kernel
theorem dX8_goesBack_26 : decode cX8_goesBack 26 = .ok (.getfield 53, 3) := by decide +kernel
theorem dX8_goesBack_29 : decode cX8_goesBack 29 = .ok (.iconst 1, 1) := by decide +kernel
theorem dX8_goesBack_30 : decode cX8_goesBack 30 = .ok (.isub, 1) := by decide +kernel
theorem dX8_goesBack_31 : decode cX8_goesBack 31 = .ok (.putfield 53, 3) := by decide +kernel
theorem dX8_goesBack_34 : decode cX8_goesBack 34 = .ok (.return_, 1) := by decide +kernel
set_option maxRecDepth 20000 in
theorem r_X8_goesBack : m_Right (yX8_goesBack, cX8_goesBack, 5, none) q_X8_goesBack := m_right_nd (m_right_nd (m_right_nd (m_right_nd (m_right_lf ⟨1, dX8_goesBack_0, rfl, rfl, rfl⟩) (m_right_lf ⟨3, dX8_goesBack_1, rfl, rfl, 8, 1, rfl, Or.inl ⟨(RX8, TX8, 4), rfl, by decide, wd_312⟩⟩)) (m_right_nd (m_right_lf ⟨3, dX8_goesBack_4, rfl, rfl, 7, 3, rfl, Or.inl ⟨(RX7, TX7, 16), rfl, by decide, wd_106⟩⟩) (m_right_nd (m_right_lf ⟨1, dX8_goesBack_7, rfl, rfl, rfl⟩) (m_right_lf ⟨1, dX8_goesBack_8, rfl, rfl, rfl⟩)))) (m_right_nd (m_right_nd (m_right_lf ⟨1, dX8_goesBack_9, rfl, rfl⟩) (m_right_lf ⟨1, dX8_goesBack_10, rfl, rfl, rfl⟩)) (m_right_nd (m_right_lf ⟨3, dX8_goesBack_11, rfl, rfl, 8, 1, rfl, Or.inl ⟨(RX8, TX8, 4), rfl, by decide, wd_312⟩⟩) (m_right_nd (m_right_lf ⟨3, dX8_goesBack_14, rfl, rfl, 7, 3, rfl, Or.inl ⟨(RX7, TX7, 16), rfl, by decide, wd_106⟩⟩) (m_right_lf ⟨1, dX8_goesBack_17, rfl, rfl, rfl⟩))))) (m_right_nd (m_right_nd (m_right_nd (m_right_lf ⟨2, dX8_goesBack_18, rfl, rfl, rfl⟩) (m_right_lf ⟨1, dX8_goesBack_20, rfl, rfl⟩)) (m_right_nd (m_right_lf ⟨1, dX8_goesBack_21, rfl, rfl, rfl⟩) (m_right_nd (m_right_lf ⟨3, dX8_goesBack_22, rfl, rfl, 8, 1, rfl, Or.inl ⟨(RX8, TX8, 4), rfl, by decide, wd_312⟩⟩) (m_right_lf ⟨1, dX8_goesBack_25, rfl, rfl⟩)))) (m_right_nd (m_right_nd (m_right_lf ⟨3, dX8_goesBack_26, rfl, rfl, 7, 5, rfl, Or.inl ⟨(RX7, TX7, 16), rfl, by decide, wd_114⟩⟩) (m_right_lf ⟨1, dX8_goesBack_29, rfl, rfl, by decide +kernel⟩)) (m_right_nd (m_right_lf ⟨1, dX8_goesBack_30, rfl, rfl⟩) (m_right_nd (m_right_lf ⟨3, dX8_goesBack_31, rfl, rfl, 7, 5, 0, (RX7, TX7, 16), rfl, rfl, by decide, wd_114, Or.inl rfl, tyX7 5, tyX7_ok 5 (by decide), Or.inl ⟨rfl, rfl⟩⟩) (m_right_lf ⟨1, dX8_goesBack_34, rfl, rfl⟩)))))
theorem dX9_init_0 : decode cX9_init 0 = .ok (.aload_n 0, 1) := by decide +kernel
theorem dX9_init_1 : decode cX9_init 1 = .ok (.invokespecial 3, 3) := by decide +kernel
theorem dX9_init_4 : decode cX9_init 4 = .ok (.aload_n 0, 1) := by decide +kernel
theorem dX9_init_5 : decode cX9_init 5 = .ok (.new 9, 3) := by decide +kernel
theorem dX9_init_8 : decode cX9_init 8 = .ok (.dup, 1) := by decide +kernel
theorem dX9_init_9 : decode cX9_init 9 = .ok (.invokespecial 11, 3) := by decide +kernel
theorem dX9_init_12 : decode cX9_init 12 = .ok (.putfield 12, 3) := by decide +kernel
theorem dX9_init_15 : decode cX9_init 15 = .ok (.aload_n 0, 1) := by decide +kernel
theorem dX9_init_16 : decode cX9_init 16 = .ok (.new 9, 3) := by decide +kernel
theorem dX9_init_19 : decode cX9_init 19 = .ok (.dup, 1) := by decide +kernel
theorem dX9_init_20 : decode cX9_init 20 = .ok (.invokespecial 11, 3) := by decide +kernel
theorem dX9_init_23 : decode cX9_init 23 = .ok (.putfield 18, 3) := by decide +kernel
theorem dX9_init_26 : decode cX9_init 26 = .ok (.aload_n 0, 1) := by decide +kernel
theorem dX9_init_27 : decode cX9_init 27 = .ok (.new 9, 3) := by decide +kernel
theorem dX9_init_30 : decode cX9_init 30 = .ok (.dup, 1) := by decide +kernel
theorem dX9_init_31 : decode cX9_init 31 = .ok (.invokespecial 11, 3) := by decide +kernel
theorem dX9_init_34 : decode cX9_init 34 = .ok (.putfield 21, 3) := by decide +kernel
theorem dX9_init_37 : decode cX9_init 37 = .ok (.aload_n 0, 1) := by decide +kernel
theorem dX9_init_38 : decode cX9_init 38 = .ok (.new 24, 3) := by decide +kernel
theorem dX9_init_41 : decode cX9_init 41 = .ok (.dup, 1) := by decide +kernel
theorem dX9_init_42 : decode cX9_init 42 = .ok (.invokespecial 26, 3) := by decide +kernel
theorem dX9_init_45 : decode cX9_init 45 = .ok (.putfield 27, 3) := by decide +kernel
theorem dX9_init_48 : decode cX9_init 48 = .ok (.aload_n 0, 1) := by decide +kernel
theorem dX9_init_49 : decode cX9_init 49 = .ok (.new 31, 3) := by decide +kernel
theorem dX9_init_52 : decode cX9_init 52 = .ok (.dup, 1) := by decide +kernel
theorem dX9_init_53 : decode cX9_init 53 = .ok (.invokespecial 33, 3) := by decide +kernel
theorem dX9_init_56 : decode cX9_init 56 = .ok (.putfield 34, 3) := by decide +kernel
theorem dX9_init_59 : decode cX9_init 59 = .ok (.aload_n 0, 1) := by decide +kernel
theorem dX9_init_60 : decode cX9_init 60 = .ok (.new 38, 3) := by decide +kernel
theorem dX9_init_63 : decode cX9_init 63 = .ok (.dup, 1) := by decide +kernel
theorem dX9_init_64 : decode cX9_init 64 = .ok (.invokespecial 40, 3) := by decide +kernel
theorem dX9_init_67 : decode cX9_init 67 = .ok (.putfield 41, 3) := by decide +kernel
theorem dX9_init_70 : decode cX9_init 70 = .ok (.aload_n 0, 1) := by decide +kernel
theorem dX9_init_71 : decode cX9_init 71 = .ok (.new 45, 3) := by decide +kernel
theorem dX9_init_74 : decode cX9_init 74 = .ok (.dup, 1) := by decide +kernel
theorem dX9_init_75 : decode cX9_init 75 = .ok (.invokespecial 47, 3) := by decide +kernel
theorem dX9_init_78 : decode cX9_init 78 = .ok (.putfield 48, 3) := by decide +kernel
theorem dX9_init_81 : decode cX9_init 81 = .ok (.aload_n 0, 1) := by decide +kernel
theorem dX9_init_82 : decode cX9_init 82 = .ok (.new 52, 3) := by decide +kernel
theorem dX9_init_85 : decode cX9_init 85 = .ok (.dup, 1) := by decide +kernel
theorem dX9_init_86 : decode cX9_init 86 = .ok (.invokespecial 54, 3) := by decide +kernel
theorem dX9_init_89 : decode cX9_init 89 = .ok (.putfield 55, 3) := by decide +kernel
theorem dX9_init_92 : decode cX9_init 92 = .ok (.aload_n 0, 1) := by decide +kernel
theorem dX9_init_93 : decode cX9_init 93 = .ok (.new 59, 3) := by decide +kernel
theorem dX9_init_96 : decode cX9_init 96 = .ok (.dup, 1) := by decide +kernel
theorem dX9_init_97 : decode cX9_init 97 = .ok (.invokespecial 61, 3) := by decide +kernel
theorem dX9_init_100 : decode cX9_init 100 = .ok (.putfield 62, 3) := by decide +kernel
theorem dX9_init_103 : decode cX9_init 103 = .ok (.return_, 1) := by decide +kernel
set_option maxRecDepth 20000 in
theorem r_X9_init : m_Right (yX9_init, cX9_init, 1, none) q_X9_init := m_right_nd (m_right_nd (m_right_nd (m_right_nd (m_right_nd (m_right_lf ⟨1, dX9_init_0, rfl, rfl, rfl⟩) (m_right_nd (m_right_lf ⟨3, dX9_init_1, rfl, rfl, Or.inl ⟨rfl, wd_85, wd_86, wd_87⟩⟩) (m_right_lf ⟨1, dX9_init_4, rfl, rfl, rfl⟩))) (m_right_nd (m_right_lf ⟨3, dX9_init_5, rfl, rfl, 7, (RX7, TX7, 16), rfl, rfl, wd_88, wd_89, wd_63⟩) (m_right_nd (m_right_lf ⟨1, dX9_init_8, rfl, rfl⟩) (m_right_lf ⟨3, dX9_init_9, rfl, rfl, Or.inr ⟨54, 0, (yX7_init, cX7_init, 1, none), rfl, me_X7_init, mc_X7_init, rfl, rfl, wd_91, wd_63, Or.inr (by decide +kernel)⟩⟩)))) (m_right_nd (m_right_nd (m_right_lf ⟨3, dX9_init_12, rfl, rfl, 9, 0, 3, (RX9, TX9, 10), rfl, rfl, by decide, wd_348, Or.inr ⟨rfl, rfl, rfl⟩, tyX9 0, tyX9_ok 0 (by decide), Or.inr (Or.inr (Or.inr ⟨rfl, Or.inl ⟨_, rfl⟩⟩))⟩) (m_right_nd (m_right_lf ⟨1, dX9_init_15, rfl, rfl, rfl⟩) (m_right_lf ⟨3, dX9_init_16, rfl, rfl, 7, (RX7, TX7, 16), rfl, rfl, wd_88, wd_89, wd_63⟩))) (m_right_nd (m_right_lf ⟨1, dX9_init_19, rfl, rfl⟩) (m_right_nd (m_right_lf ⟨3, dX9_init_20, rfl, rfl, Or.inr ⟨54, 0, (yX7_init, cX7_init, 1, none), rfl, me_X7_init, mc_X7_init, rfl, rfl, wd_91, wd_63, Or.inr (by decide +kernel)⟩⟩) (m_right_lf ⟨3, dX9_init_23, rfl, rfl, 9, 1, 3, (RX9, TX9, 10), rfl, rfl, by decide, wd_349, Or.inr ⟨rfl, rfl, rfl⟩, tyX9 1, tyX9_ok 1 (by decide), Or.inr (Or.inr (Or.inr ⟨rfl, Or.inl ⟨_, rfl⟩⟩))⟩))))) (m_right_nd (m_right_nd (m_right_nd (m_right_lf ⟨1, dX9_init_26, rfl, rfl, rfl⟩) (m_right_nd (m_right_lf ⟨3, dX9_init_27, rfl, rfl, 7, (RX7, TX7, 16), rfl, rfl, wd_88, wd_89, wd_63⟩) (m_right_lf ⟨1, dX9_init_30, rfl, rfl⟩))) (m_right_nd (m_right_lf ⟨3, dX9_init_31, rfl, rfl, Or.inr ⟨54, 0, (yX7_init, cX7_init, 1, none), rfl, me_X7_init, mc_X7_init, rfl, rfl, wd_91, wd_63, Or.inr (by decide +kernel)⟩⟩) (m_right_nd (m_right_lf ⟨3, dX9_init_34, rfl, rfl, 9, 2, 3, (RX9, TX9, 10), rfl, rfl, by decide, wd_350, Or.inr ⟨rfl, rfl, rfl⟩, tyX9 2, tyX9_ok 2 (by decide), Or.inr (Or.inr (Or.inr ⟨rfl, Or.inl ⟨_, rfl⟩⟩))⟩) (m_right_lf ⟨1, dX9_init_37, rfl, rfl, rfl⟩)))) (m_right_nd (m_right_nd (m_right_lf ⟨3, dX9_init_38, rfl, rfl, 6, (RX6, TX6, 7), rfl, rfl, wd_169, wd_170, wd_64⟩) (m_right_nd (m_right_lf ⟨1, dX9_init_41, rfl, rfl⟩) (m_right_lf ⟨3, dX9_init_42, rfl, rfl, Or.inr ⟨39, 0, (yX6_init, cX6_init, 1, none), rfl, me_X6_init, mc_X6_init, rfl, rfl, wd_172, wd_64, Or.inr (by decide +kernel)⟩⟩))) (m_right_nd (m_right_lf ⟨3, dX9_init_45, rfl, rfl, 9, 3, 3, (RX9, TX9, 10), rfl, rfl, by decide, wd_351, Or.inr ⟨rfl, rfl, rfl⟩, tyX9 3, tyX9_ok 3 (by decide), Or.inr (Or.inr (Or.inr ⟨rfl, Or.inl ⟨_, rfl⟩⟩))⟩) (m_right_nd (m_right_lf ⟨1, dX9_init_48, rfl, rfl, rfl⟩) (m_right_lf ⟨3, dX9_init_49, rfl, rfl, 2, (RX2, TX2, 8), rfl, rfl, wd_202, wd_203, wd_65⟩)))))) (m_right_nd (m_right_nd (m_right_nd (m_right_nd (m_right_lf ⟨1, dX9_init_52, rfl, rfl⟩) (m_right_nd (m_right_lf ⟨3, dX9_init_53, rfl, rfl, Or.inr ⟨16, 0, (yX2_init, cX2_init, 1, none), rfl, me_X2_init, mc_X2_init, rfl, rfl, wd_205, wd_65, Or.inr (by decide +kernel)⟩⟩) (m_right_lf ⟨3, dX9_init_56, rfl, rfl, 9, 4, 3, (RX9, TX9, 10), rfl, rfl, by decide, wd_352, Or.inr ⟨rfl, rfl, rfl⟩, tyX9 4, tyX9_ok 4 (by decide), Or.inr (Or.inr (Or.inr ⟨rfl, Or.inl ⟨_, rfl⟩⟩))⟩))) (m_right_nd (m_right_lf ⟨1, dX9_init_59, rfl, rfl, rfl⟩) (m_right_nd (m_right_lf ⟨3, dX9_init_60, rfl, rfl, 5, (RX5, TX5, 3), rfl, rfl, wd_256, wd_257, wd_67⟩) (m_right_lf ⟨1, dX9_init_63, rfl, rfl⟩)))) (m_right_nd (m_right_nd (m_right_lf ⟨3, dX9_init_64, rfl, rfl, Or.inr ⟨32, 0, (yX5_init, cX5_init, 1, none), rfl, me_X5_init, mc_X5_init, rfl, rfl, wd_259, wd_67, Or.inr (by decide +kernel)⟩⟩) (m_right_nd (m_right_lf ⟨3, dX9_init_67, rfl, rfl, 9, 5, 3, (RX9, TX9, 10), rfl, rfl, by decide, wd_353, Or.inr ⟨rfl, rfl, rfl⟩, tyX9 5, tyX9_ok 5 (by decide), Or.inr (Or.inr (Or.inr ⟨rfl, Or.inl ⟨_, rfl⟩⟩))⟩) (m_right_lf ⟨1, dX9_init_70, rfl, rfl, rfl⟩))) (m_right_nd (m_right_lf ⟨3, dX9_init_71, rfl, rfl, 4, (RX4, TX4, 7), rfl, rfl, wd_272, wd_273, wd_68⟩) (m_right_nd (m_right_lf ⟨1, dX9_init_74, rfl, rfl⟩) (m_right_lf ⟨3, dX9_init_75, rfl, rfl, Or.inr ⟨28, 0, (yX4_init, cX4_init, 1, none), rfl, me_X4_init, mc_X4_init, rfl, rfl, wd_275, wd_68, Or.inr (by decide +kernel)⟩⟩))))) (m_right_nd (m_right_nd (m_right_nd (m_right_lf ⟨3, dX9_init_78, rfl, rfl, 9, 6, 3, (RX9, TX9, 10), rfl, rfl, by decide, wd_354, Or.inr ⟨rfl, rfl, rfl⟩, tyX9 6, tyX9_ok 6 (by decide), Or.inr (Or.inr (Or.inr ⟨rfl, Or.inl ⟨_, rfl⟩⟩))⟩) (m_right_nd (m_right_lf ⟨1, dX9_init_81, rfl, rfl, rfl⟩) (m_right_lf ⟨3, dX9_init_82, rfl, rfl, 8, (RX8, TX8, 4), rfl, rfl, wd_305, wd_306, wd_69⟩))) (m_right_nd (m_right_lf ⟨1, dX9_init_85, rfl, rfl⟩) (m_right_nd (m_right_lf ⟨3, dX9_init_86, rfl, rfl, Or.inr ⟨70, 0, (yX8_init, cX8_init, 1, none), rfl, me_X8_init, mc_X8_init, rfl, rfl, wd_308, wd_69, Or.inr (by decide +kernel)⟩⟩) (m_right_lf ⟨3, dX9_init_89, rfl, rfl, 9, 7, 3, (RX9, TX9, 10), rfl, rfl, by decide, wd_355, Or.inr ⟨rfl, rfl, rfl⟩, tyX9 7, tyX9_ok 7 (by decide), Or.inr (Or.inr (Or.inr ⟨rfl, Or.inl ⟨_, rfl⟩⟩))⟩)))) (m_right_nd (m_right_nd (m_right_lf ⟨1, dX9_init_92, rfl, rfl, rfl⟩) (m_right_nd (m_right_lf ⟨3, dX9_init_93, rfl, rfl, 0, (RX0, TX0, 5), rfl, rfl, wd_324, wd_325, wd_70⟩) (m_right_lf ⟨1, dX9_init_96, rfl, rfl⟩))) (m_right_nd (m_right_lf ⟨3, dX9_init_97, rfl, rfl, Or.inr ⟨0, 0, (yX0_init, cX0_init, 1, none), rfl, me_X0_init, mc_X0_init, rfl, rfl, wd_327, wd_70, Or.inr (by decide +kernel)⟩⟩) (m_right_nd (m_right_lf ⟨3, dX9_init_100, rfl, rfl, 9, 8, 3, (RX9, TX9, 10), rfl, rfl, by decide, wd_356, Or.inr ⟨rfl, rfl, rfl⟩, tyX9 8, tyX9_ok 8 (by decide), Or.inr (Or.inr (Or.inr ⟨rfl, Or.inl ⟨_, rfl⟩⟩))⟩) (m_right_lf ⟨1, dX9_init_103, rfl, rfl⟩))))))
theorem dX9_feed_0 : decode cX9_feed 0 = .ok (.iload_n 1, 1) := by decide +kernel
theorem dX9_feed_1 : decode cX9_feed 1 = .ok (.ifCond .lt 9, 3) := by decide +kernel
theorem dX9_feed_4 : decode cX9_feed 4 = .ok (.iload_n 1, 1) := by decide +kernel
theorem dX9_feed_5 : decode cX9_feed 5 = .ok (.bipush 127, 2) := by decide +kernel
theorem dX9_feed_7 : decode cX9_feed 7 = .ok (.if_icmp .le 6, 3) := by decide +kernel
theorem dX9_feed_10 : decode cX9_feed 10 = .ok (.bipush (-2), 2) := by decide +kernel
theorem dX9_feed_12 : decode cX9_feed 12 = .ok (.ireturn, 1) := by decide +kernel
theorem dX9_feed_13 : decode cX9_feed 13 = .ok (.aload_n 0, 1) := by decide +kernel
theorem dX9_feed_14 : decode cX9_feed 14 = .ok (.getfield 12, 3) := by decide +kernel
theorem dX9_feed_17 : decode cX9_feed 17 = .ok (.getfield 66, 3) := by decide +kernel
theorem dX9_feed_20 : decode cX9_feed 20 = .ok (.bipush 100, 2) := by decide +kernel
theorem dX9_feed_22 : decode cX9_feed 22 = .ok (.if_icmp .lt 6, 3) := by decide +kernel
theorem dX9_feed_25 : decode cX9_feed 25 = .ok (.bipush (-4), 2) := by decide +kernel
theorem dX9_feed_27 : decode cX9_feed 27 = .ok (.ireturn, 1) := by decide +kernel
theorem dX9_feed_28 : decode cX9_feed 28 = .ok (.aload_n 0, 1) := by decide +kernel
theorem dX9_feed_29 : decode cX9_feed 29 = .ok (.getfield 12, 3) := by decide +kernel
theorem dX9_feed_32 : decode cX9_feed 32 = .ok (.getfield 70, 3) := by decide +kernel
theorem dX9_feed_35 : decode cX9_feed 35 = .ok (.aload_n 0, 1) := by decide +kernel
theorem dX9_feed_36 : decode cX9_feed 36 = .ok (.getfield 12, 3) := by decide +kernel
theorem dX9_feed_39 : decode cX9_feed 39 = .ok (.getfield 66, 3) := by decide +kernel
theorem dX9_feed_42 : decode cX9_feed 42 = .ok (.iload_n 1, 1) := by decide +kernel
theorem dX9_feed_43 : decode cX9_feed 43 = .ok (.iastore, 1) := by decide +kernel
theorem dX9_feed_44 : decode cX9_feed 44 = .ok (.aload_n 0, 1) := by decide +kernel
theorem dX9_feed_45 : decode cX9_feed 45 = .ok (.getfield 12, 3) := by decide +kernel
theorem dX9_feed_48 : decode cX9_feed 48 = .ok (.dup, 1) := by decide +kernel
theorem dX9_feed_49 : decode cX9_feed 49 = .ok (.getfield 66, 3) := by decide +kernel
theorem dX9_feed_52 : decode cX9_feed 52 = .ok (.iconst 1, 1) := by decide +kernel
theorem dX9_feed_53 : decode cX9_feed 53 = .ok (.iadd, 1) := by decide +kernel
theorem dX9_feed_54 : decode cX9_feed 54 = .ok (.putfield 66, 3) := by decide +kernel
theorem dX9_feed_57 : decode cX9_feed 57 = .ok (.aload_n 0, 1) := by decide +kernel
theorem dX9_feed_58 : decode cX9_feed 58 = .ok (.getfield 12, 3) := by decide +kernel
theorem dX9_feed_61 : decode cX9_feed 61 = .ok (.getfield 66, 3) := by decide +kernel
theorem dX9_feed_64 : decode cX9_feed 64 = .ok (.ireturn, 1) := by decide +kernel
set_option maxRecDepth 20000 in
theorem r_X9_feed : m_Right (yX9_feed, cX9_feed, 2, (some .int)) q_X9_feed := m_right_nd (m_right_nd (m_right_nd (m_right_nd (m_right_nd (m_right_lf ⟨1, dX9_feed_0, rfl, rfl, rfl⟩) (m_right_lf ⟨3, dX9_feed_1, rfl, rfl, 10, rfl, by decide⟩)) (m_right_nd (m_right_lf ⟨1, dX9_feed_4, rfl, rfl, rfl⟩) (m_right_lf ⟨2, dX9_feed_5, rfl, rfl, by decide +kernel⟩))) (m_right_nd (m_right_nd (m_right_lf ⟨3, dX9_feed_7, rfl, rfl, 13, rfl, by decide⟩) (m_right_lf ⟨2, dX9_feed_10, rfl, rfl, by decide +kernel⟩)) (m_right_nd (m_right_lf ⟨1, dX9_feed_12, rfl, 0, .int, rfl, rfl, Or.inl ⟨rfl, rfl⟩⟩) (m_right_lf ⟨1, dX9_feed_13, rfl, rfl, rfl⟩)))) (m_right_nd (m_right_nd (m_right_nd (m_right_lf ⟨3, dX9_feed_14, rfl, rfl, 9, 0, rfl, Or.inl ⟨(RX9, TX9, 10), rfl, by decide, wd_348⟩⟩) (m_right_lf ⟨3, dX9_feed_17, rfl, rfl, 7, 9, rfl, Or.inl ⟨(RX7, TX7, 16), rfl, by decide, wd_122⟩⟩)) (m_right_nd (m_right_lf ⟨2, dX9_feed_20, rfl, rfl, by decide +kernel⟩) (m_right_lf ⟨3, dX9_feed_22, rfl, rfl, 28, rfl, by decide⟩))) (m_right_nd (m_right_nd (m_right_lf ⟨2, dX9_feed_25, rfl, rfl, by decide +kernel⟩) (m_right_lf ⟨1, dX9_feed_27, rfl, 0, .int, rfl, rfl, Or.inl ⟨rfl, rfl⟩⟩)) (m_right_nd (m_right_lf ⟨1, dX9_feed_28, rfl, rfl, rfl⟩) (m_right_lf ⟨3, dX9_feed_29, rfl, rfl, 9, 0, rfl, Or.inl ⟨(RX9, TX9, 10), rfl, by decide, wd_348⟩⟩))))) (m_right_nd (m_right_nd (m_right_nd (m_right_nd (m_right_lf ⟨3, dX9_feed_32, rfl, rfl, 7, 8, rfl, Or.inl ⟨(RX7, TX7, 16), rfl, by decide, wd_121⟩⟩) (m_right_lf ⟨1, dX9_feed_35, rfl, rfl, rfl⟩)) (m_right_nd (m_right_lf ⟨3, dX9_feed_36, rfl, rfl, 9, 0, rfl, Or.inl ⟨(RX9, TX9, 10), rfl, by decide, wd_348⟩⟩) (m_right_lf ⟨3, dX9_feed_39, rfl, rfl, 7, 9, rfl, Or.inl ⟨(RX7, TX7, 16), rfl, by decide, wd_122⟩⟩))) (m_right_nd (m_right_nd (m_right_lf ⟨1, dX9_feed_42, rfl, rfl, rfl⟩) (m_right_lf ⟨1, dX9_feed_43, rfl, rfl⟩)) (m_right_nd (m_right_lf ⟨1, dX9_feed_44, rfl, rfl, rfl⟩) (m_right_lf ⟨3, dX9_feed_45, rfl, rfl, 9, 0, rfl, Or.inl ⟨(RX9, TX9, 10), rfl, by decide, wd_348⟩⟩)))) (m_right_nd (m_right_nd (m_right_nd (m_right_lf ⟨1, dX9_feed_48, rfl, rfl⟩) (m_right_lf ⟨3, dX9_feed_49, rfl, rfl, 7, 9, rfl, Or.inl ⟨(RX7, TX7, 16), rfl, by decide, wd_122⟩⟩)) (m_right_nd (m_right_lf ⟨1, dX9_feed_52, rfl, rfl, by decide +kernel⟩) (m_right_lf ⟨1, dX9_feed_53, rfl, rfl⟩))) (m_right_nd (m_right_nd (m_right_lf ⟨3, dX9_feed_54, rfl, rfl, 7, 9, 0, (RX7, TX7, 16), rfl, rfl, by decide, wd_122, Or.inl rfl, tyX7 9, tyX7_ok 9 (by decide), Or.inl ⟨rfl, rfl⟩⟩) (m_right_lf ⟨1, dX9_feed_57, rfl, rfl, rfl⟩)) (m_right_nd (m_right_lf ⟨3, dX9_feed_58, rfl, rfl, 9, 0, rfl, Or.inl ⟨(RX9, TX9, 10), rfl, by decide, wd_348⟩⟩) (m_right_nd (m_right_lf ⟨3, dX9_feed_61, rfl, rfl, 7, 9, rfl, Or.inl ⟨(RX7, TX7, 16), rfl, by decide, wd_122⟩⟩) (m_right_lf ⟨1, dX9_feed_64, rfl, 0, .int, rfl, rfl, Or.inl ⟨rfl, rfl⟩⟩))))))
theorem dX9_inn_0 : decode cX9_inn 0 = .ok (.aload_n 0, 1) := by decide +kernel
theorem dX9_inn_1 : decode cX9_inn 1 = .ok (.getfield 12, 3) := by decide +kernel
theorem dX9_inn_4 : decode cX9_inn 4 = .ok (.getfield 74, 3) := by decide +kernel
theorem dX9_inn_7 : decode cX9_inn 7 = .ok (.iconst 5, 1) := by decide +kernel
theorem dX9_inn_8 : decode cX9_inn 8 = .ok (.if_icmp .lt 6, 3) := by decide +kernel
theorem dX9_inn_11 : decode cX9_inn 11 = .ok (.bipush (-4), 2) := by decide +kernel
theorem dX9_inn_13 : decode cX9_inn 13 = .ok (.ireturn, 1) := by decide +kernel
theorem dX9_inn_14 : decode cX9_inn 14 = .ok (.aload_n 0, 1) := by decide +kernel
theorem dX9_inn_15 : decode cX9_inn 15 = .ok (.getfield 27, 3) := by decide +kernel
theorem dX9_inn_18 : decode cX9_inn 18 = .ok (.aload_n 0, 1) := by decide +kernel
theorem dX9_inn_19 : decode cX9_inn 19 = .ok (.getfield 12, 3) := by decide +kernel
theorem dX9_inn_22 : decode cX9_inn 22 = .ok (.getfield 70, 3) := by decide +kernel
theorem dX9_inn_25 : decode cX9_inn 25 = .ok (.aload_n 0, 1) := by decide +kernel
theorem dX9_inn_26 : decode cX9_inn 26 = .ok (.getfield 12, 3) := by decide +kernel
theorem dX9_inn_29 : decode cX9_inn 29 = .ok (.getfield 66, 3) := by decide +kernel
theorem dX9_inn_32 : decode cX9_inn 32 = .ok (.invokevirtual 77, 3) := by decide +kernel
theorem dX9_inn_35 : decode cX9_inn 35 = .ok (.istore_n 1, 1) := by decide +kernel
theorem dX9_inn_36 : decode cX9_inn 36 = .ok (.aload_n 0, 1) := by decide +kernel
theorem dX9_inn_37 : decode cX9_inn 37 = .ok (.getfield 12, 3) := by decide +kernel
theorem dX9_inn_40 : decode cX9_inn 40 = .ok (.iconst 0, 1) := by decide +kernel
theorem dX9_inn_41 : decode cX9_inn 41 = .ok (.putfield 66, 3) := by decide +kernel
theorem dX9_inn_44 : decode cX9_inn 44 = .ok (.iload_n 1, 1) := by decide +kernel
theorem dX9_inn_45 : decode cX9_inn 45 = .ok (.ifCond .ne 14, 3) := by decide +kernel
theorem dX9_inn_48 : decode cX9_inn 48 = .ok (.bipush (-10), 2) := by decide +kernel
theorem dX9_inn_50 : decode cX9_inn 50 = .ok (.aload_n 0, 1) := by decide +kernel
theorem dX9_inn_51 : decode cX9_inn 51 = .ok (.getfield 27, 3) := by decide +kernel
theorem dX9_inn_54 : decode cX9_inn 54 = .ok (.getfield 81, 3) := by decide +kernel
theorem dX9_inn_57 : decode cX9_inn 57 = .ok (.isub, 1) := by decide +kernel
theorem dX9_inn_58 : decode cX9_inn 58 = .ok (.ireturn, 1) := by decide +kernel
theorem dX9_inn_59 : decode cX9_inn 59 = .ok (.aload_n 0, 1) := by decide +kernel
theorem dX9_inn_60 : decode cX9_inn 60 = .ok (.getfield 12, 3) := by decide +kernel
theorem dX9_inn_63 : decode cX9_inn 63 = .ok (.new 84, 3) := by decide +kernel
theorem dX9_inn_66 : decode cX9_inn 66 = .ok (.dup, 1) := by decide +kernel
theorem dX9_inn_67 : decode cX9_inn 67 = .ok (.aload_n 0, 1) := by decide +kernel
theorem dX9_inn_68 : decode cX9_inn 68 = .ok (.getfield 27, 3) := by decide +kernel
theorem dX9_inn_71 : decode cX9_inn 71 = .ok (.invokespecial 86, 3) := by decide +kernel
theorem dX9_inn_74 : decode cX9_inn 74 = .ok (.putfield 89, 3) := by decide +kernel
theorem dX9_inn_77 : decode cX9_inn 77 = .ok (.aload_n 0, 1) := by decide +kernel
theorem dX9_inn_78 : decode cX9_inn 78 = .ok (.getfield 12, 3) := by decide +kernel
theorem dX9_inn_81 : decode cX9_inn 81 = .ok (.dup, 1) := by decide +kernel
theorem dX9_inn_82 : decode cX9_inn 82 = .ok (.getfield 74, 3) := by decide +kernel
theorem dX9_inn_85 : decode cX9_inn 85 = .ok (.iconst 1, 1) := by decide +kernel
theorem dX9_inn_86 : decode cX9_inn 86 = .ok (.iadd, 1) := by decide +kernel
theorem dX9_inn_87 : decode cX9_inn 87 = .ok (.putfield 74, 3) := by decide +kernel
theorem dX9_inn_90 : decode cX9_inn 90 = .ok (.aload_n 0, 1) := by decide +kernel
theorem dX9_inn_91 : decode cX9_inn 91 = .ok (.getfield 12, 3) := by decide +kernel
theorem dX9_inn_94 : decode cX9_inn 94 = .ok (.getfield 74, 3) := by decide +kernel
theorem dX9_inn_97 : decode cX9_inn 97 = .ok (.iconst 1, 1) := by decide +kernel
theorem dX9_inn_98 : decode cX9_inn 98 = .ok (.isub, 1) := by decide +kernel
theorem dX9_inn_99 : decode cX9_inn 99 = .ok (.ireturn, 1) := by decide +kernel
set_option maxRecDepth 20000 in
theorem r_X9_inn : m_Right (yX9_inn, cX9_inn, 2, (some .int)) q_X9_inn := m_right_nd (m_right_nd (m_right_nd (m_right_nd (m_right_nd (m_right_lf ⟨1, dX9_inn_0, rfl, rfl, rfl⟩) (m_right_nd (m_right_lf ⟨3, dX9_inn_1, rfl, rfl, 9, 0, rfl, Or.inl ⟨(RX9, TX9, 10), rfl, by decide, wd_348⟩⟩) (m_right_lf ⟨3, dX9_inn_4, rfl, rfl, 7, 6, rfl, Or.inl ⟨(RX7, TX7, 16), rfl, by decide, wd_117⟩⟩))) (m_right_nd (m_right_lf ⟨1, dX9_inn_7, rfl, rfl, by decide +kernel⟩) (m_right_nd (m_right_lf ⟨3, dX9_inn_8, rfl, rfl, 14, rfl, by decide⟩) (m_right_lf ⟨2, dX9_inn_11, rfl, rfl, by decide +kernel⟩)))) (m_right_nd (m_right_nd (m_right_lf ⟨1, dX9_inn_13, rfl, 0, .int, rfl, rfl, Or.inl ⟨rfl, rfl⟩⟩) (m_right_nd (m_right_lf ⟨1, dX9_inn_14, rfl, rfl, rfl⟩) (m_right_lf ⟨3, dX9_inn_15, rfl, rfl, 9, 3, rfl, Or.inl ⟨(RX9, TX9, 10), rfl, by decide, wd_351⟩⟩))) (m_right_nd (m_right_lf ⟨1, dX9_inn_18, rfl, rfl, rfl⟩) (m_right_nd (m_right_lf ⟨3, dX9_inn_19, rfl, rfl, 9, 0, rfl, Or.inl ⟨(RX9, TX9, 10), rfl, by decide, wd_348⟩⟩) (m_right_lf ⟨3, dX9_inn_22, rfl, rfl, 7, 8, rfl, Or.inl ⟨(RX7, TX7, 16), rfl, by decide, wd_121⟩⟩))))) (m_right_nd (m_right_nd (m_right_nd (m_right_lf ⟨1, dX9_inn_25, rfl, rfl, rfl⟩) (m_right_nd (m_right_lf ⟨3, dX9_inn_26, rfl, rfl, 9, 0, rfl, Or.inl ⟨(RX9, TX9, 10), rfl, by decide, wd_348⟩⟩) (m_right_lf ⟨3, dX9_inn_29, rfl, rfl, 7, 9, rfl, Or.inl ⟨(RX7, TX7, 16), rfl, by decide, wd_122⟩⟩))) (m_right_nd (m_right_lf ⟨3, dX9_inn_32, rfl, rfl, 40, 2, 6, (yX6_reads, cX6_reads, 4, (some .boolean)), rfl, me_X6_reads, mc_X6_reads, Or.inl ⟨(RX6, TX6, 7), rfl, rfl⟩, wd_387, wd_388, wd_389, wd_64⟩) (m_right_nd (m_right_lf ⟨1, dX9_inn_35, rfl, rfl, rfl⟩) (m_right_lf ⟨1, dX9_inn_36, rfl, rfl, rfl⟩)))) (m_right_nd (m_right_nd (m_right_lf ⟨3, dX9_inn_37, rfl, rfl, 9, 0, rfl, Or.inl ⟨(RX9, TX9, 10), rfl, by decide, wd_348⟩⟩) (m_right_nd (m_right_lf ⟨1, dX9_inn_40, rfl, rfl, by decide +kernel⟩) (m_right_lf ⟨3, dX9_inn_41, rfl, rfl, 7, 9, 0, (RX7, TX7, 16), rfl, rfl, by decide, wd_122, Or.inl rfl, tyX7 9, tyX7_ok 9 (by decide), Or.inl ⟨rfl, rfl⟩⟩))) (m_right_nd (m_right_nd (m_right_lf ⟨1, dX9_inn_44, rfl, rfl, rfl⟩) (m_right_lf ⟨3, dX9_inn_45, rfl, rfl, 59, rfl, by decide⟩)) (m_right_nd (m_right_lf ⟨2, dX9_inn_48, rfl, rfl, by decide +kernel⟩) (m_right_lf ⟨1, dX9_inn_50, rfl, rfl, rfl⟩)))))) (m_right_nd (m_right_nd (m_right_nd (m_right_nd (m_right_lf ⟨3, dX9_inn_51, rfl, rfl, 9, 3, rfl, Or.inl ⟨(RX9, TX9, 10), rfl, by decide, wd_351⟩⟩) (m_right_nd (m_right_lf ⟨3, dX9_inn_54, rfl, rfl, 6, 0, rfl, Or.inl ⟨(RX6, TX6, 7), rfl, by decide, wd_176⟩⟩) (m_right_lf ⟨1, dX9_inn_57, rfl, rfl⟩))) (m_right_nd (m_right_lf ⟨1, dX9_inn_58, rfl, 0, .int, rfl, rfl, Or.inl ⟨rfl, rfl⟩⟩) (m_right_nd (m_right_lf ⟨1, dX9_inn_59, rfl, rfl, rfl⟩) (m_right_lf ⟨3, dX9_inn_60, rfl, rfl, 9, 0, rfl, Or.inl ⟨(RX9, TX9, 10), rfl, by decide, wd_348⟩⟩)))) (m_right_nd (m_right_nd (m_right_lf ⟨3, dX9_inn_63, rfl, rfl, 3, (RX3, TX3, 3), rfl, rfl, wd_445, wd_446, wd_73⟩) (m_right_nd (m_right_lf ⟨1, dX9_inn_66, rfl, rfl⟩) (m_right_lf ⟨1, dX9_inn_67, rfl, rfl, rfl⟩))) (m_right_nd (m_right_lf ⟨3, dX9_inn_68, rfl, rfl, 9, 3, rfl, Or.inl ⟨(RX9, TX9, 10), rfl, by decide, wd_351⟩⟩) (m_right_nd (m_right_lf ⟨3, dX9_inn_71, rfl, rfl, Or.inr ⟨24, 1, (yX3_init, cX3_init, 2, none), rfl, me_X3_init, mc_X3_init, rfl, rfl, wd_448, wd_73, Or.inl wd_447⟩⟩) (m_right_lf ⟨3, dX9_inn_74, rfl, rfl, 7, 7, 3, (RX7, TX7, 16), rfl, rfl, by decide, wd_119, Or.inl rfl, tyX7 7, tyX7_ok 7 (by decide), Or.inr (Or.inr (Or.inr ⟨rfl, Or.inl ⟨_, rfl⟩⟩))⟩))))) (m_right_nd (m_right_nd (m_right_nd (m_right_lf ⟨1, dX9_inn_77, rfl, rfl, rfl⟩) (m_right_nd (m_right_lf ⟨3, dX9_inn_78, rfl, rfl, 9, 0, rfl, Or.inl ⟨(RX9, TX9, 10), rfl, by decide, wd_348⟩⟩) (m_right_lf ⟨1, dX9_inn_81, rfl, rfl⟩))) (m_right_nd (m_right_lf ⟨3, dX9_inn_82, rfl, rfl, 7, 6, rfl, Or.inl ⟨(RX7, TX7, 16), rfl, by decide, wd_117⟩⟩) (m_right_nd (m_right_lf ⟨1, dX9_inn_85, rfl, rfl, by decide +kernel⟩) (m_right_lf ⟨1, dX9_inn_86, rfl, rfl⟩)))) (m_right_nd (m_right_nd (m_right_lf ⟨3, dX9_inn_87, rfl, rfl, 7, 6, 0, (RX7, TX7, 16), rfl, rfl, by decide, wd_117, Or.inl rfl, tyX7 6, tyX7_ok 6 (by decide), Or.inl ⟨rfl, rfl⟩⟩) (m_right_nd (m_right_lf ⟨1, dX9_inn_90, rfl, rfl, rfl⟩) (m_right_lf ⟨3, dX9_inn_91, rfl, rfl, 9, 0, rfl, Or.inl ⟨(RX9, TX9, 10), rfl, by decide, wd_348⟩⟩))) (m_right_nd (m_right_nd (m_right_lf ⟨3, dX9_inn_94, rfl, rfl, 7, 6, rfl, Or.inl ⟨(RX7, TX7, 16), rfl, by decide, wd_117⟩⟩) (m_right_lf ⟨1, dX9_inn_97, rfl, rfl, by decide +kernel⟩)) (m_right_nd (m_right_lf ⟨1, dX9_inn_98, rfl, rfl⟩) (m_right_lf ⟨1, dX9_inn_99, rfl, 0, .int, rfl, rfl, Or.inl ⟨rfl, rfl⟩⟩))))))
theorem dX9_player_0 : decode cX9_player 0 = .ok (.iload_n 1, 1) := by decide +kernel
theorem dX9_player_1 : decode cX9_player 1 = .ok (.invokestatic 93, 3) := by decide +kernel
theorem dX9_player_4 : decode cX9_player 4 = .ok (.ifCond .eq 5, 3) := by decide +kernel
theorem dX9_player_7 : decode cX9_player 7 = .ok (.iconst (-1), 1) := by decide +kernel
theorem dX9_player_8 : decode cX9_player 8 = .ok (.ireturn, 1) := by decide +kernel
theorem dX9_player_9 : decode cX9_player 9 = .ok (.iload_n 2, 1) := by decide +kernel
theorem dX9_player_10 : decode cX9_player 10 = .ok (.ifCond .lt 9, 3) := by decide +kernel
theorem dX9_player_13 : decode cX9_player 13 = .ok (.iload_n 2, 1) := by decide +kernel
theorem dX9_player_14 : decode cX9_player 14 = .ok (.bipush 9, 2) := by decide +kernel
theorem dX9_player_16 : decode cX9_player 16 = .ok (.if_icmp .le 6, 3) := by decide +kernel
theorem dX9_player_19 : decode cX9_player 19 = .ok (.bipush (-2), 2) := by decide +kernel
theorem dX9_player_21 : decode cX9_player 21 = .ok (.ireturn, 1) := by decide +kernel
theorem dX9_player_22 : decode cX9_player 22 = .ok (.aload_n 0, 1) := by decide +kernel
theorem dX9_player_23 : decode cX9_player 23 = .ok (.getfield 12, 3) := by decide +kernel
theorem dX9_player_26 : decode cX9_player 26 = .ok (.getfield 97, 3) := by decide +kernel
theorem dX9_player_29 : decode cX9_player 29 = .ok (.iconst 5, 1) := by decide +kernel
theorem dX9_player_30 : decode cX9_player 30 = .ok (.if_icmp .lt 6, 3) := by decide +kernel
theorem dX9_player_33 : decode cX9_player 33 = .ok (.bipush (-4), 2) := by decide +kernel
theorem dX9_player_35 : decode cX9_player 35 = .ok (.ireturn, 1) := by decide +kernel
theorem dX9_player_36 : decode cX9_player 36 = .ok (.aload_n 0, 1) := by decide +kernel
theorem dX9_player_37 : decode cX9_player 37 = .ok (.getfield 12, 3) := by decide +kernel
theorem dX9_player_40 : decode cX9_player 40 = .ok (.iload_n 1, 1) := by decide +kernel
theorem dX9_player_41 : decode cX9_player 41 = .ok (.iload_n 2, 1) := by decide +kernel
theorem dX9_player_42 : decode cX9_player 42 = .ok (.invokevirtual 100, 3) := by decide +kernel
theorem dX9_player_45 : decode cX9_player 45 = .ok (.aload_n 0, 1) := by decide +kernel
theorem dX9_player_46 : decode cX9_player 46 = .ok (.getfield 12, 3) := by decide +kernel
theorem dX9_player_49 : decode cX9_player 49 = .ok (.getfield 97, 3) := by decide +kernel
theorem dX9_player_52 : decode cX9_player 52 = .ok (.iconst 1, 1) := by decide +kernel
theorem dX9_player_53 : decode cX9_player 53 = .ok (.isub, 1) := by decide +kernel
theorem dX9_player_54 : decode cX9_player 54 = .ok (.ireturn, 1) := by decide +kernel
set_option maxRecDepth 20000 in
theorem r_X9_player : m_Right (yX9_player, cX9_player, 3, (some .int)) q_X9_player := m_right_nd (m_right_nd (m_right_nd (m_right_nd (m_right_lf ⟨1, dX9_player_0, rfl, rfl, rfl⟩) (m_right_nd (m_right_lf ⟨3, dX9_player_1, rfl, rfl, Or.inr (Or.inr ⟨111, 1, (yX9_isNoKind, cX9_isNoKind, 1, (some .boolean)), rfl, me_X9_isNoKind, mc_X9_isNoKind, wd_470, wd_471, wd_62⟩)⟩) (m_right_lf ⟨3, dX9_player_4, rfl, rfl, 9, rfl, by decide⟩))) (m_right_nd (m_right_nd (m_right_lf ⟨1, dX9_player_7, rfl, rfl, by decide +kernel⟩) (m_right_lf ⟨1, dX9_player_8, rfl, 0, .int, rfl, rfl, Or.inl ⟨rfl, rfl⟩⟩)) (m_right_nd (m_right_lf ⟨1, dX9_player_9, rfl, rfl, rfl⟩) (m_right_lf ⟨3, dX9_player_10, rfl, rfl, 19, rfl, by decide⟩)))) (m_right_nd (m_right_nd (m_right_nd (m_right_lf ⟨1, dX9_player_13, rfl, rfl, rfl⟩) (m_right_lf ⟨2, dX9_player_14, rfl, rfl, by decide +kernel⟩)) (m_right_nd (m_right_lf ⟨3, dX9_player_16, rfl, rfl, 22, rfl, by decide⟩) (m_right_lf ⟨2, dX9_player_19, rfl, rfl, by decide +kernel⟩))) (m_right_nd (m_right_nd (m_right_lf ⟨1, dX9_player_21, rfl, 0, .int, rfl, rfl, Or.inl ⟨rfl, rfl⟩⟩) (m_right_lf ⟨1, dX9_player_22, rfl, rfl, rfl⟩)) (m_right_nd (m_right_lf ⟨3, dX9_player_23, rfl, rfl, 9, 0, rfl, Or.inl ⟨(RX9, TX9, 10), rfl, by decide, wd_348⟩⟩) (m_right_lf ⟨3, dX9_player_26, rfl, rfl, 7, 0, rfl, Or.inl ⟨(RX7, TX7, 16), rfl, by decide, wd_97⟩⟩))))) (m_right_nd (m_right_nd (m_right_nd (m_right_lf ⟨1, dX9_player_29, rfl, rfl, by decide +kernel⟩) (m_right_nd (m_right_lf ⟨3, dX9_player_30, rfl, rfl, 36, rfl, by decide⟩) (m_right_lf ⟨2, dX9_player_33, rfl, rfl, by decide +kernel⟩))) (m_right_nd (m_right_nd (m_right_lf ⟨1, dX9_player_35, rfl, 0, .int, rfl, rfl, Or.inl ⟨rfl, rfl⟩⟩) (m_right_lf ⟨1, dX9_player_36, rfl, rfl, rfl⟩)) (m_right_nd (m_right_lf ⟨3, dX9_player_37, rfl, rfl, 9, 0, rfl, Or.inl ⟨(RX9, TX9, 10), rfl, by decide, wd_348⟩⟩) (m_right_lf ⟨1, dX9_player_40, rfl, rfl, rfl⟩)))) (m_right_nd (m_right_nd (m_right_nd (m_right_lf ⟨1, dX9_player_41, rfl, rfl, rfl⟩) (m_right_lf ⟨3, dX9_player_42, rfl, rfl, 56, 2, 7, (yX7_comes, cX7_comes, 4, none), rfl, me_X7_comes, mc_X7_comes, Or.inl ⟨(RX7, TX7, 16), rfl, rfl⟩, wd_473, wd_474, wd_475, wd_63⟩)) (m_right_nd (m_right_lf ⟨1, dX9_player_45, rfl, rfl, rfl⟩) (m_right_lf ⟨3, dX9_player_46, rfl, rfl, 9, 0, rfl, Or.inl ⟨(RX9, TX9, 10), rfl, by decide, wd_348⟩⟩))) (m_right_nd (m_right_nd (m_right_lf ⟨3, dX9_player_49, rfl, rfl, 7, 0, rfl, Or.inl ⟨(RX7, TX7, 16), rfl, by decide, wd_97⟩⟩) (m_right_lf ⟨1, dX9_player_52, rfl, rfl, by decide +kernel⟩)) (m_right_nd (m_right_lf ⟨1, dX9_player_53, rfl, rfl⟩) (m_right_lf ⟨1, dX9_player_54, rfl, 0, .int, rfl, rfl, Or.inl ⟨rfl, rfl⟩⟩)))))
theorem dX9_of_0 : decode cX9_of 0 = .ok (.aload_n 0, 1) := by decide +kernel
theorem dX9_of_1 : decode cX9_of 1 = .ok (.iload_n 1, 1) := by decide +kernel
theorem dX9_of_2 : decode cX9_of 2 = .ok (.invokevirtual 104, 3) := by decide +kernel
theorem dX9_of_5 : decode cX9_of 5 = .ok (.ifCond .eq 5, 3) := by decide +kernel
theorem dX9_of_8 : decode cX9_of 8 = .ok (.iconst (-1), 1) := by decide +kernel
theorem dX9_of_9 : decode cX9_of 9 = .ok (.ireturn, 1) := by decide +kernel
theorem dX9_of_10 : decode cX9_of 10 = .ok (.iload_n 2, 1) := by decide +kernel
theorem dX9_of_11 : decode cX9_of 11 = .ok (.tableswitch 55 0 2 #[25, 35, 45], 25) := by decide +kernel
theorem dX9_of_36 : decode cX9_of 36 = .ok (.aload_n 0, 1) := by decide +kernel
theorem dX9_of_37 : decode cX9_of 37 = .ok (.getfield 12, 3) := by decide +kernel
theorem dX9_of_40 : decode cX9_of 40 = .ok (.getfield 107, 3) := by decide +kernel
theorem dX9_of_43 : decode cX9_of 43 = .ok (.iload_n 1, 1) := by decide +kernel
theorem dX9_of_44 : decode cX9_of 44 = .ok (.iaload, 1) := by decide +kernel
theorem dX9_of_45 : decode cX9_of 45 = .ok (.ireturn, 1) := by decide +kernel
theorem dX9_of_46 : decode cX9_of 46 = .ok (.aload_n 0, 1) := by decide +kernel
theorem dX9_of_47 : decode cX9_of 47 = .ok (.getfield 12, 3) := by decide +kernel
theorem dX9_of_50 : decode cX9_of 50 = .ok (.getfield 110, 3) := by decide +kernel
theorem dX9_of_53 : decode cX9_of 53 = .ok (.iload_n 1, 1) := by decide +kernel
theorem dX9_of_54 : decode cX9_of 54 = .ok (.iaload, 1) := by decide +kernel
theorem dX9_of_55 : decode cX9_of 55 = .ok (.ireturn, 1) := by decide +kernel
theorem dX9_of_56 : decode cX9_of 56 = .ok (.aload_n 0, 1) := by decide +kernel
theorem dX9_of_57 : decode cX9_of 57 = .ok (.getfield 12, 3) := by decide +kernel
theorem dX9_of_60 : decode cX9_of 60 = .ok (.getfield 113, 3) := by decide +kernel
theorem dX9_of_63 : decode cX9_of 63 = .ok (.iload_n 1, 1) := by decide +kernel
theorem dX9_of_64 : decode cX9_of 64 = .ok (.iaload, 1) := by decide +kernel
theorem dX9_of_65 : decode cX9_of 65 = .ok (.ireturn, 1) := by decide +kernel
theorem dX9_of_66 : decode cX9_of 66 = .ok (.iconst (-1), 1) := by decide +kernel
theorem dX9_of_67 : decode cX9_of 67 = .ok (.ireturn, 1) := by decide +kernel
set_option maxRecDepth 20000 in
theorem r_X9_of : m_Right (yX9_of, cX9_of, 3, (some .int)) q_X9_of := m_right_nd (m_right_nd (m_right_nd (m_right_nd (m_right_lf ⟨1, dX9_of_0, rfl, rfl, rfl⟩) (m_right_nd (m_right_lf ⟨1, dX9_of_1, rfl, rfl, rfl⟩) (m_right_lf ⟨3, dX9_of_2, rfl, rfl, 108, 1, 9, (yX9_isNobody, cX9_isNobody, 2, (some .boolean)), rfl, me_X9_isNobody, mc_X9_isNobody, Or.inl ⟨(RX9, TX9, 10), rfl, rfl⟩, wd_481, wd_483, wd_9, wd_62⟩))) (m_right_nd (m_right_nd (m_right_lf ⟨3, dX9_of_5, rfl, rfl, 10, rfl, by decide⟩) (m_right_lf ⟨1, dX9_of_8, rfl, rfl, by decide +kernel⟩)) (m_right_nd (m_right_lf ⟨1, dX9_of_9, rfl, 0, .int, rfl, rfl, Or.inl ⟨rfl, rfl⟩⟩) (m_right_lf ⟨1, dX9_of_10, rfl, rfl, rfl⟩)))) (m_right_nd (m_right_nd (m_right_lf ⟨25, dX9_of_11, 66, [36, 46, 56], rfl, by decide, by decide +kernel⟩) (m_right_nd (m_right_lf ⟨1, dX9_of_36, rfl, rfl, rfl⟩) (m_right_lf ⟨3, dX9_of_37, rfl, rfl, 9, 0, rfl, Or.inl ⟨(RX9, TX9, 10), rfl, by decide, wd_348⟩⟩))) (m_right_nd (m_right_nd (m_right_lf ⟨3, dX9_of_40, rfl, rfl, 7, 1, rfl, Or.inl ⟨(RX7, TX7, 16), rfl, by decide, wd_99⟩⟩) (m_right_lf ⟨1, dX9_of_43, rfl, rfl, rfl⟩)) (m_right_nd (m_right_lf ⟨1, dX9_of_44, rfl, rfl⟩) (m_right_lf ⟨1, dX9_of_45, rfl, 0, .int, rfl, rfl, Or.inl ⟨rfl, rfl⟩⟩))))) (m_right_nd (m_right_nd (m_right_nd (m_right_lf ⟨1, dX9_of_46, rfl, rfl, rfl⟩) (m_right_nd (m_right_lf ⟨3, dX9_of_47, rfl, rfl, 9, 0, rfl, Or.inl ⟨(RX9, TX9, 10), rfl, by decide, wd_348⟩⟩) (m_right_lf ⟨3, dX9_of_50, rfl, rfl, 7, 2, rfl, Or.inl ⟨(RX7, TX7, 16), rfl, by decide, wd_101⟩⟩))) (m_right_nd (m_right_nd (m_right_lf ⟨1, dX9_of_53, rfl, rfl, rfl⟩) (m_right_lf ⟨1, dX9_of_54, rfl, rfl⟩)) (m_right_nd (m_right_lf ⟨1, dX9_of_55, rfl, 0, .int, rfl, rfl, Or.inl ⟨rfl, rfl⟩⟩) (m_right_lf ⟨1, dX9_of_56, rfl, rfl, rfl⟩)))) (m_right_nd (m_right_nd (m_right_lf ⟨3, dX9_of_57, rfl, rfl, 9, 0, rfl, Or.inl ⟨(RX9, TX9, 10), rfl, by decide, wd_348⟩⟩) (m_right_nd (m_right_lf ⟨3, dX9_of_60, rfl, rfl, 7, 3, rfl, Or.inl ⟨(RX7, TX7, 16), rfl, by decide, wd_107⟩⟩) (m_right_lf ⟨1, dX9_of_63, rfl, rfl, rfl⟩))) (m_right_nd (m_right_nd (m_right_lf ⟨1, dX9_of_64, rfl, rfl⟩) (m_right_lf ⟨1, dX9_of_65, rfl, 0, .int, rfl, rfl, Or.inl ⟨rfl, rfl⟩⟩)) (m_right_nd (m_right_lf ⟨1, dX9_of_66, rfl, rfl, by decide +kernel⟩) (m_right_lf ⟨1, dX9_of_67, rfl, 0, .int, rfl, rfl, Or.inl ⟨rfl, rfl⟩⟩)))))
theorem dX9_men_0 : decode cX9_men 0 = .ok (.aload_n 0, 1) := by decide +kernel
theorem dX9_men_1 : decode cX9_men 1 = .ok (.iload_n 1, 1) := by decide +kernel
theorem dX9_men_2 : decode cX9_men 2 = .ok (.invokevirtual 104, 3) := by decide +kernel
theorem dX9_men_5 : decode cX9_men 5 = .ok (.ifCond .eq 5, 3) := by decide +kernel
theorem dX9_men_8 : decode cX9_men 8 = .ok (.iconst (-1), 1) := by decide +kernel
theorem dX9_men_9 : decode cX9_men 9 = .ok (.ireturn, 1) := by decide +kernel
theorem dX9_men_10 : decode cX9_men 10 = .ok (.iload_n 2, 1) := by decide +kernel
theorem dX9_men_11 : decode cX9_men 11 = .ok (.invokestatic 116, 3) := by decide +kernel
theorem dX9_men_14 : decode cX9_men 14 = .ok (.ifCond .eq 6, 3) := by decide +kernel
theorem dX9_men_17 : decode cX9_men 17 = .ok (.bipush (-2), 2) := by decide +kernel
theorem dX9_men_19 : decode cX9_men 19 = .ok (.ireturn, 1) := by decide +kernel
theorem dX9_men_20 : decode cX9_men 20 = .ok (.aload_n 0, 1) := by decide +kernel
theorem dX9_men_21 : decode cX9_men 21 = .ok (.getfield 12, 3) := by decide +kernel
theorem dX9_men_24 : decode cX9_men 24 = .ok (.getfield 113, 3) := by decide +kernel
theorem dX9_men_27 : decode cX9_men 27 = .ok (.iload_n 1, 1) := by decide +kernel
theorem dX9_men_28 : decode cX9_men 28 = .ok (.iaload, 1) := by decide +kernel
theorem dX9_men_29 : decode cX9_men 29 = .ok (.istore_n 3, 1) := by decide +kernel
theorem dX9_men_30 : decode cX9_men 30 = .ok (.aload_n 0, 1) := by decide +kernel
theorem dX9_men_31 : decode cX9_men 31 = .ok (.getfield 12, 3) := by decide +kernel
theorem dX9_men_34 : decode cX9_men 34 = .ok (.getfield 113, 3) := by decide +kernel
theorem dX9_men_37 : decode cX9_men 37 = .ok (.iload_n 1, 1) := by decide +kernel
theorem dX9_men_38 : decode cX9_men 38 = .ok (.iload_n 2, 1) := by decide +kernel
theorem dX9_men_39 : decode cX9_men 39 = .ok (.iastore, 1) := by decide +kernel
theorem dX9_men_40 : decode cX9_men 40 = .ok (.iload_n 3, 1) := by decide +kernel
theorem dX9_men_41 : decode cX9_men 41 = .ok (.ireturn, 1) := by decide +kernel
set_option maxRecDepth 20000 in
theorem r_X9_men : m_Right (yX9_men, cX9_men, 4, (some .int)) q_X9_men := m_right_nd (m_right_nd (m_right_nd (m_right_nd (m_right_lf ⟨1, dX9_men_0, rfl, rfl, rfl⟩) (m_right_nd (m_right_lf ⟨1, dX9_men_1, rfl, rfl, rfl⟩) (m_right_lf ⟨3, dX9_men_2, rfl, rfl, 108, 1, 9, (yX9_isNobody, cX9_isNobody, 2, (some .boolean)), rfl, me_X9_isNobody, mc_X9_isNobody, Or.inl ⟨(RX9, TX9, 10), rfl, rfl⟩, wd_481, wd_483, wd_9, wd_62⟩))) (m_right_nd (m_right_lf ⟨3, dX9_men_5, rfl, rfl, 10, rfl, by decide⟩) (m_right_nd (m_right_lf ⟨1, dX9_men_8, rfl, rfl, by decide +kernel⟩) (m_right_lf ⟨1, dX9_men_9, rfl, 0, .int, rfl, rfl, Or.inl ⟨rfl, rfl⟩⟩)))) (m_right_nd (m_right_nd (m_right_lf ⟨1, dX9_men_10, rfl, rfl, rfl⟩) (m_right_nd (m_right_lf ⟨3, dX9_men_11, rfl, rfl, Or.inr (Or.inr ⟨112, 1, (yX9_isNoMen, cX9_isNoMen, 1, (some .boolean)), rfl, me_X9_isNoMen, mc_X9_isNoMen, wd_489, wd_490, wd_62⟩)⟩) (m_right_lf ⟨3, dX9_men_14, rfl, rfl, 20, rfl, by decide⟩))) (m_right_nd (m_right_lf ⟨2, dX9_men_17, rfl, rfl, by decide +kernel⟩) (m_right_nd (m_right_lf ⟨1, dX9_men_19, rfl, 0, .int, rfl, rfl, Or.inl ⟨rfl, rfl⟩⟩) (m_right_lf ⟨1, dX9_men_20, rfl, rfl, rfl⟩))))) (m_right_nd (m_right_nd (m_right_nd (m_right_lf ⟨3, dX9_men_21, rfl, rfl, 9, 0, rfl, Or.inl ⟨(RX9, TX9, 10), rfl, by decide, wd_348⟩⟩) (m_right_nd (m_right_lf ⟨3, dX9_men_24, rfl, rfl, 7, 3, rfl, Or.inl ⟨(RX7, TX7, 16), rfl, by decide, wd_107⟩⟩) (m_right_lf ⟨1, dX9_men_27, rfl, rfl, rfl⟩))) (m_right_nd (m_right_lf ⟨1, dX9_men_28, rfl, rfl⟩) (m_right_nd (m_right_lf ⟨1, dX9_men_29, rfl, rfl, rfl⟩) (m_right_lf ⟨1, dX9_men_30, rfl, rfl, rfl⟩)))) (m_right_nd (m_right_nd (m_right_lf ⟨3, dX9_men_31, rfl, rfl, 9, 0, rfl, Or.inl ⟨(RX9, TX9, 10), rfl, by decide, wd_348⟩⟩) (m_right_nd (m_right_lf ⟨3, dX9_men_34, rfl, rfl, 7, 3, rfl, Or.inl ⟨(RX7, TX7, 16), rfl, by decide, wd_107⟩⟩) (m_right_lf ⟨1, dX9_men_37, rfl, rfl, rfl⟩))) (m_right_nd (m_right_nd (m_right_lf ⟨1, dX9_men_38, rfl, rfl, rfl⟩) (m_right_lf ⟨1, dX9_men_39, rfl, rfl⟩)) (m_right_nd (m_right_lf ⟨1, dX9_men_40, rfl, rfl, rfl⟩) (m_right_lf ⟨1, dX9_men_41, rfl, 0, .int, rfl, rfl, Or.inl ⟨rfl, rfl⟩⟩)))))
theorem dX9_row_0 : decode cX9_row 0 = .ok (.aload_n 0, 1) := by decide +kernel
theorem dX9_row_1 : decode cX9_row 1 = .ok (.iload_n 1, 1) := by decide +kernel
theorem dX9_row_2 : decode cX9_row 2 = .ok (.invokevirtual 104, 3) := by decide +kernel
theorem dX9_row_5 : decode cX9_row 5 = .ok (.ifCond .ne 12, 3) := by decide +kernel
theorem dX9_row_8 : decode cX9_row 8 = .ok (.iload_n 2, 1) := by decide +kernel
theorem dX9_row_9 : decode cX9_row 9 = .ok (.ifCond .lt 8, 3) := by decide +kernel
theorem dX9_row_12 : decode cX9_row 12 = .ok (.iload_n 2, 1) := by decide +kernel
theorem dX9_row_13 : decode cX9_row 13 = .ok (.iconst 4, 1) := by decide +kernel
theorem dX9_row_14 : decode cX9_row 14 = .ok (.if_icmp .lt 5, 3) := by decide +kernel
theorem dX9_row_17 : decode cX9_row 17 = .ok (.iconst (-1), 1) := by decide +kernel
theorem dX9_row_18 : decode cX9_row 18 = .ok (.ireturn, 1) := by decide +kernel
theorem dX9_row_19 : decode cX9_row 19 = .ok (.iload_n 3, 1) := by decide +kernel
theorem dX9_row_20 : decode cX9_row 20 = .ok (.ifCond .lt 9, 3) := by decide +kernel
theorem dX9_row_23 : decode cX9_row 23 = .ok (.iload_n 3, 1) := by decide +kernel
theorem dX9_row_24 : decode cX9_row 24 = .ok (.bipush 9, 2) := by decide +kernel
theorem dX9_row_26 : decode cX9_row 26 = .ok (.if_icmp .le 6, 3) := by decide +kernel
theorem dX9_row_29 : decode cX9_row 29 = .ok (.bipush (-2), 2) := by decide +kernel
theorem dX9_row_31 : decode cX9_row 31 = .ok (.ireturn, 1) := by decide +kernel
theorem dX9_row_32 : decode cX9_row 32 = .ok (.aload_n 0, 1) := by decide +kernel
theorem dX9_row_33 : decode cX9_row 33 = .ok (.getfield 12, 3) := by decide +kernel
theorem dX9_row_36 : decode cX9_row 36 = .ok (.getfield 107, 3) := by decide +kernel
theorem dX9_row_39 : decode cX9_row 39 = .ok (.iload_n 1, 1) := by decide +kernel
theorem dX9_row_40 : decode cX9_row 40 = .ok (.iaload, 1) := by decide +kernel
theorem dX9_row_41 : decode cX9_row 41 = .ok (.bipush 6, 2) := by decide +kernel
theorem dX9_row_43 : decode cX9_row 43 = .ok (.if_icmp .eq 6, 3) := by decide +kernel
theorem dX9_row_46 : decode cX9_row 46 = .ok (.bipush (-3), 2) := by decide +kernel
theorem dX9_row_48 : decode cX9_row 48 = .ok (.ireturn, 1) := by decide +kernel
theorem dX9_row_49 : decode cX9_row 49 = .ok (.aload_n 0, 1) := by decide +kernel
theorem dX9_row_50 : decode cX9_row 50 = .ok (.getfield 12, 3) := by decide +kernel
theorem dX9_row_53 : decode cX9_row 53 = .ok (.getfield 119, 3) := by decide +kernel
theorem dX9_row_56 : decode cX9_row 56 = .ok (.iload_n 1, 1) := by decide +kernel
theorem dX9_row_57 : decode cX9_row 57 = .ok (.iconst 4, 1) := by decide +kernel
theorem dX9_row_58 : decode cX9_row 58 = .ok (.imul, 1) := by decide +kernel
theorem dX9_row_59 : decode cX9_row 59 = .ok (.iload_n 2, 1) := by decide +kernel
theorem dX9_row_60 : decode cX9_row 60 = .ok (.iadd, 1) := by decide +kernel
theorem dX9_row_61 : decode cX9_row 61 = .ok (.iaload, 1) := by decide +kernel
theorem dX9_row_62 : decode cX9_row 62 = .ok (.istore 4, 2) := by decide +kernel
theorem dX9_row_64 : decode cX9_row 64 = .ok (.aload_n 0, 1) := by decide +kernel
theorem dX9_row_65 : decode cX9_row 65 = .ok (.getfield 12, 3) := by decide +kernel
theorem dX9_row_68 : decode cX9_row 68 = .ok (.getfield 119, 3) := by decide +kernel
theorem dX9_row_71 : decode cX9_row 71 = .ok (.iload_n 1, 1) := by decide +kernel
theorem dX9_row_72 : decode cX9_row 72 = .ok (.iconst 4, 1) := by decide +kernel
theorem dX9_row_73 : decode cX9_row 73 = .ok (.imul, 1) := by decide +kernel
theorem dX9_row_74 : decode cX9_row 74 = .ok (.iload_n 2, 1) := by decide +kernel
theorem dX9_row_75 : decode cX9_row 75 = .ok (.iadd, 1) := by decide +kernel
theorem dX9_row_76 : decode cX9_row 76 = .ok (.iload_n 3, 1) := by decide +kernel
theorem dX9_row_77 : decode cX9_row 77 = .ok (.iastore, 1) := by decide +kernel
theorem dX9_row_78 : decode cX9_row 78 = .ok (.iload 4, 2) := by decide +kernel
theorem dX9_row_80 : decode cX9_row 80 = .ok (.ireturn, 1) := by decide +kernel
set_option maxRecDepth 20000 in
theorem r_X9_row : m_Right (yX9_row, cX9_row, 5, (some .int)) q_X9_row := m_right_nd (m_right_nd (m_right_nd (m_right_nd (m_right_nd (m_right_lf ⟨1, dX9_row_0, rfl, rfl, rfl⟩) (m_right_nd (m_right_lf ⟨1, dX9_row_1, rfl, rfl, rfl⟩) (m_right_lf ⟨3, dX9_row_2, rfl, rfl, 108, 1, 9, (yX9_isNobody, cX9_isNobody, 2, (some .boolean)), rfl, me_X9_isNobody, mc_X9_isNobody, Or.inl ⟨(RX9, TX9, 10), rfl, rfl⟩, wd_481, wd_483, wd_9, wd_62⟩))) (m_right_nd (m_right_lf ⟨3, dX9_row_5, rfl, rfl, 17, rfl, by decide⟩) (m_right_nd (m_right_lf ⟨1, dX9_row_8, rfl, rfl, rfl⟩) (m_right_lf ⟨3, dX9_row_9, rfl, rfl, 17, rfl, by decide⟩)))) (m_right_nd (m_right_nd (m_right_lf ⟨1, dX9_row_12, rfl, rfl, rfl⟩) (m_right_nd (m_right_lf ⟨1, dX9_row_13, rfl, rfl, by decide +kernel⟩) (m_right_lf ⟨3, dX9_row_14, rfl, rfl, 19, rfl, by decide⟩))) (m_right_nd (m_right_lf ⟨1, dX9_row_17, rfl, rfl, by decide +kernel⟩) (m_right_nd (m_right_lf ⟨1, dX9_row_18, rfl, 0, .int, rfl, rfl, Or.inl ⟨rfl, rfl⟩⟩) (m_right_lf ⟨1, dX9_row_19, rfl, rfl, rfl⟩))))) (m_right_nd (m_right_nd (m_right_nd (m_right_lf ⟨3, dX9_row_20, rfl, rfl, 29, rfl, by decide⟩) (m_right_nd (m_right_lf ⟨1, dX9_row_23, rfl, rfl, rfl⟩) (m_right_lf ⟨2, dX9_row_24, rfl, rfl, by decide +kernel⟩))) (m_right_nd (m_right_lf ⟨3, dX9_row_26, rfl, rfl, 32, rfl, by decide⟩) (m_right_nd (m_right_lf ⟨2, dX9_row_29, rfl, rfl, by decide +kernel⟩) (m_right_lf ⟨1, dX9_row_31, rfl, 0, .int, rfl, rfl, Or.inl ⟨rfl, rfl⟩⟩)))) (m_right_nd (m_right_nd (m_right_lf ⟨1, dX9_row_32, rfl, rfl, rfl⟩) (m_right_nd (m_right_lf ⟨3, dX9_row_33, rfl, rfl, 9, 0, rfl, Or.inl ⟨(RX9, TX9, 10), rfl, by decide, wd_348⟩⟩) (m_right_lf ⟨3, dX9_row_36, rfl, rfl, 7, 1, rfl, Or.inl ⟨(RX7, TX7, 16), rfl, by decide, wd_99⟩⟩))) (m_right_nd (m_right_lf ⟨1, dX9_row_39, rfl, rfl, rfl⟩) (m_right_nd (m_right_lf ⟨1, dX9_row_40, rfl, rfl⟩) (m_right_lf ⟨2, dX9_row_41, rfl, rfl, by decide +kernel⟩)))))) (m_right_nd (m_right_nd (m_right_nd (m_right_nd (m_right_lf ⟨3, dX9_row_43, rfl, rfl, 49, rfl, by decide⟩) (m_right_nd (m_right_lf ⟨2, dX9_row_46, rfl, rfl, by decide +kernel⟩) (m_right_lf ⟨1, dX9_row_48, rfl, 0, .int, rfl, rfl, Or.inl ⟨rfl, rfl⟩⟩))) (m_right_nd (m_right_lf ⟨1, dX9_row_49, rfl, rfl, rfl⟩) (m_right_nd (m_right_lf ⟨3, dX9_row_50, rfl, rfl, 9, 0, rfl, Or.inl ⟨(RX9, TX9, 10), rfl, by decide, wd_348⟩⟩) (m_right_lf ⟨3, dX9_row_53, rfl, rfl, 7, 4, rfl, Or.inl ⟨(RX7, TX7, 16), rfl, by decide, wd_109⟩⟩)))) (m_right_nd (m_right_nd (m_right_lf ⟨1, dX9_row_56, rfl, rfl, rfl⟩) (m_right_nd (m_right_lf ⟨1, dX9_row_57, rfl, rfl, by decide +kernel⟩) (m_right_lf ⟨1, dX9_row_58, rfl, rfl⟩))) (m_right_nd (m_right_lf ⟨1, dX9_row_59, rfl, rfl, rfl⟩) (m_right_nd (m_right_lf ⟨1, dX9_row_60, rfl, rfl⟩) (m_right_lf ⟨1, dX9_row_61, rfl, rfl⟩))))) (m_right_nd (m_right_nd (m_right_nd (m_right_lf ⟨2, dX9_row_62, rfl, rfl, rfl⟩) (m_right_nd (m_right_lf ⟨1, dX9_row_64, rfl, rfl, rfl⟩) (m_right_lf ⟨3, dX9_row_65, rfl, rfl, 9, 0, rfl, Or.inl ⟨(RX9, TX9, 10), rfl, by decide, wd_348⟩⟩))) (m_right_nd (m_right_lf ⟨3, dX9_row_68, rfl, rfl, 7, 4, rfl, Or.inl ⟨(RX7, TX7, 16), rfl, by decide, wd_109⟩⟩) (m_right_nd (m_right_lf ⟨1, dX9_row_71, rfl, rfl, rfl⟩) (m_right_lf ⟨1, dX9_row_72, rfl, rfl, by decide +kernel⟩)))) (m_right_nd (m_right_nd (m_right_lf ⟨1, dX9_row_73, rfl, rfl⟩) (m_right_nd (m_right_lf ⟨1, dX9_row_74, rfl, rfl, rfl⟩) (m_right_lf ⟨1, dX9_row_75, rfl, rfl⟩))) (m_right_nd (m_right_nd (m_right_lf ⟨1, dX9_row_76, rfl, rfl, rfl⟩) (m_right_lf ⟨1, dX9_row_77, rfl, rfl⟩)) (m_right_nd (m_right_lf ⟨2, dX9_row_78, rfl, rfl, rfl⟩) (m_right_lf ⟨1, dX9_row_80, rfl, 0, .int, rfl, rfl, Or.inl ⟨rfl, rfl⟩⟩))))))
theorem dX9_told_0 : decode cX9_told 0 = .ok (.iload_n 1, 1) := by decide +kernel
theorem dX9_told_1 : decode cX9_told 1 = .ok (.tableswitch 51 0 2 #[27, 35, 43], 27) := by decide +kernel
theorem dX9_told_28 : decode cX9_told 28 = .ok (.aload_n 0, 1) := by decide +kernel
theorem dX9_told_29 : decode cX9_told 29 = .ok (.getfield 12, 3) := by decide +kernel
theorem dX9_told_32 : decode cX9_told 32 = .ok (.getfield 122, 3) := by decide +kernel
theorem dX9_told_35 : decode cX9_told 35 = .ok (.ireturn, 1) := by decide +kernel
theorem dX9_told_36 : decode cX9_told 36 = .ok (.aload_n 0, 1) := by decide +kernel
theorem dX9_told_37 : decode cX9_told 37 = .ok (.getfield 12, 3) := by decide +kernel
theorem dX9_told_40 : decode cX9_told 40 = .ok (.invokevirtual 125, 3) := by decide +kernel
theorem dX9_told_43 : decode cX9_told 43 = .ok (.ireturn, 1) := by decide +kernel
theorem dX9_told_44 : decode cX9_told 44 = .ok (.aload_n 0, 1) := by decide +kernel
theorem dX9_told_45 : decode cX9_told 45 = .ok (.getfield 12, 3) := by decide +kernel
theorem dX9_told_48 : decode cX9_told 48 = .ok (.invokevirtual 129, 3) := by decide +kernel
theorem dX9_told_51 : decode cX9_told 51 = .ok (.ireturn, 1) := by decide +kernel
theorem dX9_told_52 : decode cX9_told 52 = .ok (.iconst (-1), 1) := by decide +kernel
theorem dX9_told_53 : decode cX9_told 53 = .ok (.ireturn, 1) := by decide +kernel
set_option maxRecDepth 20000 in
theorem r_X9_told : m_Right (yX9_told, cX9_told, 2, (some .int)) q_X9_told := m_right_nd (m_right_nd (m_right_nd (m_right_nd (m_right_lf ⟨1, dX9_told_0, rfl, rfl, rfl⟩) (m_right_lf ⟨27, dX9_told_1, 52, [28, 36, 44], rfl, by decide, by decide +kernel⟩)) (m_right_nd (m_right_lf ⟨1, dX9_told_28, rfl, rfl, rfl⟩) (m_right_lf ⟨3, dX9_told_29, rfl, rfl, 9, 0, rfl, Or.inl ⟨(RX9, TX9, 10), rfl, by decide, wd_348⟩⟩))) (m_right_nd (m_right_nd (m_right_lf ⟨3, dX9_told_32, rfl, rfl, 7, 5, rfl, Or.inl ⟨(RX7, TX7, 16), rfl, by decide, wd_115⟩⟩) (m_right_lf ⟨1, dX9_told_35, rfl, 0, .int, rfl, rfl, Or.inl ⟨rfl, rfl⟩⟩)) (m_right_nd (m_right_lf ⟨1, dX9_told_36, rfl, rfl, rfl⟩) (m_right_lf ⟨3, dX9_told_37, rfl, rfl, 9, 0, rfl, Or.inl ⟨(RX9, TX9, 10), rfl, by decide, wd_348⟩⟩)))) (m_right_nd (m_right_nd (m_right_nd (m_right_lf ⟨3, dX9_told_40, rfl, rfl, 57, 0, 7, (yX7_less, cX7_less, 1, (some .int)), rfl, me_X7_less, mc_X7_less, Or.inl ⟨(RX7, TX7, 16), rfl, rfl⟩, wd_500, wd_501, wd_502, wd_63⟩) (m_right_lf ⟨1, dX9_told_43, rfl, 0, .int, rfl, rfl, Or.inl ⟨rfl, rfl⟩⟩)) (m_right_nd (m_right_lf ⟨1, dX9_told_44, rfl, rfl, rfl⟩) (m_right_lf ⟨3, dX9_told_45, rfl, rfl, 9, 0, rfl, Or.inl ⟨(RX9, TX9, 10), rfl, by decide, wd_348⟩⟩))) (m_right_nd (m_right_nd (m_right_lf ⟨3, dX9_told_48, rfl, rfl, 58, 0, 7, (yX7_more, cX7_more, 1, (some .int)), rfl, me_X7_more, mc_X7_more, Or.inl ⟨(RX7, TX7, 16), rfl, rfl⟩, wd_504, wd_505, wd_506, wd_63⟩) (m_right_lf ⟨1, dX9_told_51, rfl, 0, .int, rfl, rfl, Or.inl ⟨rfl, rfl⟩⟩)) (m_right_nd (m_right_lf ⟨1, dX9_told_52, rfl, rfl, by decide +kernel⟩) (m_right_lf ⟨1, dX9_told_53, rfl, 0, .int, rfl, rfl, Or.inl ⟨rfl, rfl⟩⟩))))
theorem dX9_push_0 : decode cX9_push 0 = .ok (.aload_n 0, 1) := by decide +kernel
theorem dX9_push_1 : decode cX9_push 1 = .ok (.iload_n 1, 1) := by decide +kernel
theorem dX9_push_2 : decode cX9_push 2 = .ok (.iload_n 2, 1) := by decide +kernel
theorem dX9_push_3 : decode cX9_push 3 = .ok (.invokevirtual 132, 3) := by decide +kernel
theorem dX9_push_6 : decode cX9_push 6 = .ok (.istore_n 3, 1) := by decide +kernel
theorem dX9_push_7 : decode cX9_push 7 = .ok (.iload_n 3, 1) := by decide +kernel
theorem dX9_push_8 : decode cX9_push 8 = .ok (.ifCond .eq 9, 3) := by decide +kernel
theorem dX9_push_11 : decode cX9_push 11 = .ok (.sipush (-10000), 3) := by decide +kernel
theorem dX9_push_14 : decode cX9_push 14 = .ok (.iload_n 3, 1) := by decide +kernel
theorem dX9_push_15 : decode cX9_push 15 = .ok (.iadd, 1) := by decide +kernel
theorem dX9_push_16 : decode cX9_push 16 = .ok (.ireturn, 1) := by decide +kernel
theorem dX9_push_17 : decode cX9_push 17 = .ok (.aload_n 0, 1) := by decide +kernel
theorem dX9_push_18 : decode cX9_push 18 = .ok (.getfield 12, 3) := by decide +kernel
theorem dX9_push_21 : decode cX9_push 21 = .ok (.iload_n 1, 1) := by decide +kernel
theorem dX9_push_22 : decode cX9_push 22 = .ok (.aload_n 0, 1) := by decide +kernel
theorem dX9_push_23 : decode cX9_push 23 = .ok (.getfield 12, 3) := by decide +kernel
theorem dX9_push_26 : decode cX9_push 26 = .ok (.getfield 113, 3) := by decide +kernel
theorem dX9_push_29 : decode cX9_push 29 = .ok (.iload_n 1, 1) := by decide +kernel
theorem dX9_push_30 : decode cX9_push 30 = .ok (.iaload, 1) := by decide +kernel
theorem dX9_push_31 : decode cX9_push 31 = .ok (.aload_n 0, 1) := by decide +kernel
theorem dX9_push_32 : decode cX9_push 32 = .ok (.getfield 12, 3) := by decide +kernel
theorem dX9_push_35 : decode cX9_push 35 = .ok (.getfield 113, 3) := by decide +kernel
theorem dX9_push_38 : decode cX9_push 38 = .ok (.iload_n 2, 1) := by decide +kernel
theorem dX9_push_39 : decode cX9_push 39 = .ok (.iaload, 1) := by decide +kernel
theorem dX9_push_40 : decode cX9_push 40 = .ok (.aload_n 0, 1) := by decide +kernel
theorem dX9_push_41 : decode cX9_push 41 = .ok (.getfield 12, 3) := by decide +kernel
theorem dX9_push_44 : decode cX9_push 44 = .ok (.getfield 122, 3) := by decide +kernel
theorem dX9_push_47 : decode cX9_push 47 = .ok (.invokevirtual 136, 3) := by decide +kernel
theorem dX9_push_50 : decode cX9_push 50 = .ok (.ireturn, 1) := by decide +kernel
set_option maxRecDepth 20000 in
theorem r_X9_push : m_Right (yX9_push, cX9_push, 4, (some .int)) q_X9_push := m_right_nd (m_right_nd (m_right_nd (m_right_nd (m_right_lf ⟨1, dX9_push_0, rfl, rfl, rfl⟩) (m_right_nd (m_right_lf ⟨1, dX9_push_1, rfl, rfl, rfl⟩) (m_right_lf ⟨1, dX9_push_2, rfl, rfl, rfl⟩))) (m_right_nd (m_right_nd (m_right_lf ⟨3, dX9_push_3, rfl, rfl, 109, 2, 9, (yX9_refusal, cX9_refusal, 3, (some .int)), rfl, me_X9_refusal, mc_X9_refusal, Or.inl ⟨(RX9, TX9, 10), rfl, rfl⟩, wd_512, wd_514, wd_10, wd_62⟩) (m_right_lf ⟨1, dX9_push_6, rfl, rfl, rfl⟩)) (m_right_nd (m_right_lf ⟨1, dX9_push_7, rfl, rfl, rfl⟩) (m_right_lf ⟨3, dX9_push_8, rfl, rfl, 17, rfl, by decide⟩)))) (m_right_nd (m_right_nd (m_right_lf ⟨3, dX9_push_11, rfl, rfl, by decide +kernel⟩) (m_right_nd (m_right_lf ⟨1, dX9_push_14, rfl, rfl, rfl⟩) (m_right_lf ⟨1, dX9_push_15, rfl, rfl⟩))) (m_right_nd (m_right_nd (m_right_lf ⟨1, dX9_push_16, rfl, 0, .int, rfl, rfl, Or.inl ⟨rfl, rfl⟩⟩) (m_right_lf ⟨1, dX9_push_17, rfl, rfl, rfl⟩)) (m_right_nd (m_right_lf ⟨3, dX9_push_18, rfl, rfl, 9, 0, rfl, Or.inl ⟨(RX9, TX9, 10), rfl, by decide, wd_348⟩⟩) (m_right_lf ⟨1, dX9_push_21, rfl, rfl, rfl⟩))))) (m_right_nd (m_right_nd (m_right_nd (m_right_lf ⟨1, dX9_push_22, rfl, rfl, rfl⟩) (m_right_nd (m_right_lf ⟨3, dX9_push_23, rfl, rfl, 9, 0, rfl, Or.inl ⟨(RX9, TX9, 10), rfl, by decide, wd_348⟩⟩) (m_right_lf ⟨3, dX9_push_26, rfl, rfl, 7, 3, rfl, Or.inl ⟨(RX7, TX7, 16), rfl, by decide, wd_107⟩⟩))) (m_right_nd (m_right_nd (m_right_lf ⟨1, dX9_push_29, rfl, rfl, rfl⟩) (m_right_lf ⟨1, dX9_push_30, rfl, rfl⟩)) (m_right_nd (m_right_lf ⟨1, dX9_push_31, rfl, rfl, rfl⟩) (m_right_lf ⟨3, dX9_push_32, rfl, rfl, 9, 0, rfl, Or.inl ⟨(RX9, TX9, 10), rfl, by decide, wd_348⟩⟩)))) (m_right_nd (m_right_nd (m_right_nd (m_right_lf ⟨3, dX9_push_35, rfl, rfl, 7, 3, rfl, Or.inl ⟨(RX7, TX7, 16), rfl, by decide, wd_107⟩⟩) (m_right_lf ⟨1, dX9_push_38, rfl, rfl, rfl⟩)) (m_right_nd (m_right_lf ⟨1, dX9_push_39, rfl, rfl⟩) (m_right_lf ⟨1, dX9_push_40, rfl, rfl, rfl⟩))) (m_right_nd (m_right_nd (m_right_lf ⟨3, dX9_push_41, rfl, rfl, 9, 0, rfl, Or.inl ⟨(RX9, TX9, 10), rfl, by decide, wd_348⟩⟩) (m_right_lf ⟨3, dX9_push_44, rfl, rfl, 7, 5, rfl, Or.inl ⟨(RX7, TX7, 16), rfl, by decide, wd_115⟩⟩)) (m_right_nd (m_right_lf ⟨3, dX9_push_47, rfl, rfl, 61, 4, 7, (yX7_pushOf, cX7_pushOf, 6, (some .int)), rfl, me_X7_pushOf, mc_X7_pushOf, Or.inl ⟨(RX7, TX7, 16), rfl, rfl⟩, wd_516, wd_517, wd_518, wd_63⟩) (m_right_lf ⟨1, dX9_push_50, rfl, 0, .int, rfl, rfl, Or.inl ⟨rfl, rfl⟩⟩)))))
theorem dX9_odds_0 : decode cX9_odds 0 = .ok (.aload_n 0, 1) := by decide +kernel
theorem dX9_odds_1 : decode cX9_odds 1 = .ok (.iload_n 1, 1) := by decide +kernel
theorem dX9_odds_2 : decode cX9_odds 2 = .ok (.iload_n 2, 1) := by decide +kernel
theorem dX9_odds_3 : decode cX9_odds 3 = .ok (.invokevirtual 132, 3) := by decide +kernel
theorem dX9_odds_6 : decode cX9_odds 6 = .ok (.istore_n 3, 1) := by decide +kernel
theorem dX9_odds_7 : decode cX9_odds 7 = .ok (.iload_n 3, 1) := by decide +kernel
theorem dX9_odds_8 : decode cX9_odds 8 = .ok (.ifCond .eq 7, 3) := by decide +kernel
theorem dX9_odds_11 : decode cX9_odds 11 = .ok (.iload_n 3, 1) := by decide +kernel
theorem dX9_odds_12 : decode cX9_odds 12 = .ok (.goto 12, 3) := by decide +kernel
theorem dX9_odds_15 : decode cX9_odds 15 = .ok (.aload_n 0, 1) := by decide +kernel
theorem dX9_odds_16 : decode cX9_odds 16 = .ok (.getfield 12, 3) := by decide +kernel
theorem dX9_odds_19 : decode cX9_odds 19 = .ok (.iload_n 1, 1) := by decide +kernel
theorem dX9_odds_20 : decode cX9_odds 20 = .ok (.iload_n 2, 1) := by decide +kernel
theorem dX9_odds_21 : decode cX9_odds 21 = .ok (.invokevirtual 140, 3) := by decide +kernel
theorem dX9_odds_24 : decode cX9_odds 24 = .ok (.ireturn, 1) := by decide +kernel
set_option maxRecDepth 20000 in
theorem r_X9_odds : m_Right (yX9_odds, cX9_odds, 4, (some .int)) q_X9_odds := m_right_nd (m_right_nd (m_right_nd (m_right_lf ⟨1, dX9_odds_0, rfl, rfl, rfl⟩) (m_right_nd (m_right_lf ⟨1, dX9_odds_1, rfl, rfl, rfl⟩) (m_right_lf ⟨1, dX9_odds_2, rfl, rfl, rfl⟩))) (m_right_nd (m_right_nd (m_right_lf ⟨3, dX9_odds_3, rfl, rfl, 109, 2, 9, (yX9_refusal, cX9_refusal, 3, (some .int)), rfl, me_X9_refusal, mc_X9_refusal, Or.inl ⟨(RX9, TX9, 10), rfl, rfl⟩, wd_512, wd_514, wd_10, wd_62⟩) (m_right_lf ⟨1, dX9_odds_6, rfl, rfl, rfl⟩)) (m_right_nd (m_right_lf ⟨1, dX9_odds_7, rfl, rfl, rfl⟩) (m_right_lf ⟨3, dX9_odds_8, rfl, rfl, 15, rfl, by decide⟩)))) (m_right_nd (m_right_nd (m_right_nd (m_right_lf ⟨1, dX9_odds_11, rfl, rfl, rfl⟩) (m_right_lf ⟨3, dX9_odds_12, rfl, 24, rfl, by decide⟩)) (m_right_nd (m_right_lf ⟨1, dX9_odds_15, rfl, rfl, rfl⟩) (m_right_lf ⟨3, dX9_odds_16, rfl, rfl, 9, 0, rfl, Or.inl ⟨(RX9, TX9, 10), rfl, by decide, wd_348⟩⟩))) (m_right_nd (m_right_nd (m_right_lf ⟨1, dX9_odds_19, rfl, rfl, rfl⟩) (m_right_lf ⟨1, dX9_odds_20, rfl, rfl, rfl⟩)) (m_right_nd (m_right_lf ⟨3, dX9_odds_21, rfl, rfl, 66, 2, 7, (yX7_oddsNow, cX7_oddsNow, 3, (some .int)), rfl, me_X7_oddsNow, mc_X7_oddsNow, Or.inl ⟨(RX7, TX7, 16), rfl, rfl⟩, wd_540, wd_541, wd_542, wd_63⟩) (m_right_lf ⟨1, dX9_odds_24, rfl, 0, .int, rfl, rfl, Or.inl ⟨rfl, rfl⟩⟩))))
theorem dX9_play_0 : decode cX9_play 0 = .ok (.aload_n 0, 1) := by decide +kernel
theorem dX9_play_1 : decode cX9_play 1 = .ok (.iload_n 1, 1) := by decide +kernel
theorem dX9_play_2 : decode cX9_play 2 = .ok (.iload_n 2, 1) := by decide +kernel
theorem dX9_play_3 : decode cX9_play 3 = .ok (.invokevirtual 132, 3) := by decide +kernel
theorem dX9_play_6 : decode cX9_play 6 = .ok (.istore 4, 2) := by decide +kernel
theorem dX9_play_8 : decode cX9_play 8 = .ok (.iload 4, 2) := by decide +kernel
theorem dX9_play_10 : decode cX9_play 10 = .ok (.ifCond .eq 6, 3) := by decide +kernel
theorem dX9_play_13 : decode cX9_play 13 = .ok (.iload 4, 2) := by decide +kernel
theorem dX9_play_15 : decode cX9_play 15 = .ok (.ireturn, 1) := by decide +kernel
theorem dX9_play_16 : decode cX9_play 16 = .ok (.aload_n 0, 1) := by decide +kernel
theorem dX9_play_17 : decode cX9_play 17 = .ok (.getfield 12, 3) := by decide +kernel
theorem dX9_play_20 : decode cX9_play 20 = .ok (.getfield 122, 3) := by decide +kernel
theorem dX9_play_23 : decode cX9_play 23 = .ok (.sipush 9999, 3) := by decide +kernel
theorem dX9_play_26 : decode cX9_play 26 = .ok (.if_icmp .lt 6, 3) := by decide +kernel
theorem dX9_play_29 : decode cX9_play 29 = .ok (.bipush (-3), 2) := by decide +kernel
theorem dX9_play_31 : decode cX9_play 31 = .ok (.ireturn, 1) := by decide +kernel
theorem dX9_play_32 : decode cX9_play 32 = .ok (.aload_n 0, 1) := by decide +kernel
theorem dX9_play_33 : decode cX9_play 33 = .ok (.getfield 12, 3) := by decide +kernel
theorem dX9_play_36 : decode cX9_play 36 = .ok (.iload_n 1, 1) := by decide +kernel
theorem dX9_play_37 : decode cX9_play 37 = .ok (.iload_n 2, 1) := by decide +kernel
theorem dX9_play_38 : decode cX9_play 38 = .ok (.iload_n 3, 1) := by decide +kernel
theorem dX9_play_39 : decode cX9_play 39 = .ok (.invokevirtual 143, 3) := by decide +kernel
theorem dX9_play_42 : decode cX9_play 42 = .ok (.aload_n 0, 1) := by decide +kernel
theorem dX9_play_43 : decode cX9_play 43 = .ok (.getfield 12, 3) := by decide +kernel
theorem dX9_play_46 : decode cX9_play 46 = .ok (.getfield 113, 3) := by decide +kernel
theorem dX9_play_49 : decode cX9_play 49 = .ok (.iload_n 1, 1) := by decide +kernel
theorem dX9_play_50 : decode cX9_play 50 = .ok (.iaload, 1) := by decide +kernel
theorem dX9_play_51 : decode cX9_play 51 = .ok (.ireturn, 1) := by decide +kernel
set_option maxRecDepth 20000 in
theorem r_X9_play : m_Right (yX9_play, cX9_play, 5, (some .int)) q_X9_play := m_right_nd (m_right_nd (m_right_nd (m_right_nd (m_right_lf ⟨1, dX9_play_0, rfl, rfl, rfl⟩) (m_right_nd (m_right_lf ⟨1, dX9_play_1, rfl, rfl, rfl⟩) (m_right_lf ⟨1, dX9_play_2, rfl, rfl, rfl⟩))) (m_right_nd (m_right_nd (m_right_lf ⟨3, dX9_play_3, rfl, rfl, 109, 2, 9, (yX9_refusal, cX9_refusal, 3, (some .int)), rfl, me_X9_refusal, mc_X9_refusal, Or.inl ⟨(RX9, TX9, 10), rfl, rfl⟩, wd_512, wd_514, wd_10, wd_62⟩) (m_right_lf ⟨2, dX9_play_6, rfl, rfl, rfl⟩)) (m_right_nd (m_right_lf ⟨2, dX9_play_8, rfl, rfl, rfl⟩) (m_right_lf ⟨3, dX9_play_10, rfl, rfl, 16, rfl, by decide⟩)))) (m_right_nd (m_right_nd (m_right_lf ⟨2, dX9_play_13, rfl, rfl, rfl⟩) (m_right_nd (m_right_lf ⟨1, dX9_play_15, rfl, 0, .int, rfl, rfl, Or.inl ⟨rfl, rfl⟩⟩) (m_right_lf ⟨1, dX9_play_16, rfl, rfl, rfl⟩))) (m_right_nd (m_right_nd (m_right_lf ⟨3, dX9_play_17, rfl, rfl, 9, 0, rfl, Or.inl ⟨(RX9, TX9, 10), rfl, by decide, wd_348⟩⟩) (m_right_lf ⟨3, dX9_play_20, rfl, rfl, 7, 5, rfl, Or.inl ⟨(RX7, TX7, 16), rfl, by decide, wd_115⟩⟩)) (m_right_nd (m_right_lf ⟨3, dX9_play_23, rfl, rfl, by decide +kernel⟩) (m_right_lf ⟨3, dX9_play_26, rfl, rfl, 32, rfl, by decide⟩))))) (m_right_nd (m_right_nd (m_right_nd (m_right_lf ⟨2, dX9_play_29, rfl, rfl, by decide +kernel⟩) (m_right_nd (m_right_lf ⟨1, dX9_play_31, rfl, 0, .int, rfl, rfl, Or.inl ⟨rfl, rfl⟩⟩) (m_right_lf ⟨1, dX9_play_32, rfl, rfl, rfl⟩))) (m_right_nd (m_right_nd (m_right_lf ⟨3, dX9_play_33, rfl, rfl, 9, 0, rfl, Or.inl ⟨(RX9, TX9, 10), rfl, by decide, wd_348⟩⟩) (m_right_lf ⟨1, dX9_play_36, rfl, rfl, rfl⟩)) (m_right_nd (m_right_lf ⟨1, dX9_play_37, rfl, rfl, rfl⟩) (m_right_lf ⟨1, dX9_play_38, rfl, rfl, rfl⟩)))) (m_right_nd (m_right_nd (m_right_lf ⟨3, dX9_play_39, rfl, rfl, 67, 3, 7, (yX7_game, cX7_game, 4, none), rfl, me_X7_game, mc_X7_game, Or.inl ⟨(RX7, TX7, 16), rfl, rfl⟩, wd_557, wd_558, wd_559, wd_63⟩) (m_right_nd (m_right_lf ⟨1, dX9_play_42, rfl, rfl, rfl⟩) (m_right_lf ⟨3, dX9_play_43, rfl, rfl, 9, 0, rfl, Or.inl ⟨(RX9, TX9, 10), rfl, by decide, wd_348⟩⟩))) (m_right_nd (m_right_nd (m_right_lf ⟨3, dX9_play_46, rfl, rfl, 7, 3, rfl, Or.inl ⟨(RX7, TX7, 16), rfl, by decide, wd_107⟩⟩) (m_right_lf ⟨1, dX9_play_49, rfl, rfl, rfl⟩)) (m_right_nd (m_right_lf ⟨1, dX9_play_50, rfl, rfl⟩) (m_right_lf ⟨1, dX9_play_51, rfl, 0, .int, rfl, rfl, Or.inl ⟨rfl, rfl⟩⟩)))))
theorem dX9_wins_0 : decode cX9_wins 0 = .ok (.aload_n 0, 1) := by decide +kernel
theorem dX9_wins_1 : decode cX9_wins 1 = .ok (.iload_n 1, 1) := by decide +kernel
theorem dX9_wins_2 : decode cX9_wins 2 = .ok (.iload_n 2, 1) := by decide +kernel
theorem dX9_wins_3 : decode cX9_wins 3 = .ok (.invokevirtual 132, 3) := by decide +kernel
theorem dX9_wins_6 : decode cX9_wins 6 = .ok (.ifCond .ne 32, 3) := by decide +kernel
theorem dX9_wins_9 : decode cX9_wins 9 = .ok (.iload_n 3, 1) := by decide +kernel
theorem dX9_wins_10 : decode cX9_wins 10 = .ok (.ifCond .lt 28, 3) := by decide +kernel
theorem dX9_wins_13 : decode cX9_wins 13 = .ok (.iload_n 3, 1) := by decide +kernel
theorem dX9_wins_14 : decode cX9_wins 14 = .ok (.bipush 12, 2) := by decide +kernel
theorem dX9_wins_16 : decode cX9_wins 16 = .ok (.if_icmp .gt 22, 3) := by decide +kernel
theorem dX9_wins_19 : decode cX9_wins 19 = .ok (.iload 4, 2) := by decide +kernel
theorem dX9_wins_21 : decode cX9_wins 21 = .ok (.ifCond .lt 17, 3) := by decide +kernel
theorem dX9_wins_24 : decode cX9_wins 24 = .ok (.iload 4, 2) := by decide +kernel
theorem dX9_wins_26 : decode cX9_wins 26 = .ok (.iload_n 3, 1) := by decide +kernel
theorem dX9_wins_27 : decode cX9_wins 27 = .ok (.if_icmp .gt 11, 3) := by decide +kernel
theorem dX9_wins_30 : decode cX9_wins 30 = .ok (.iload 5, 2) := by decide +kernel
theorem dX9_wins_32 : decode cX9_wins 32 = .ok (.invokestatic 146, 3) := by decide +kernel
theorem dX9_wins_35 : decode cX9_wins 35 = .ok (.ifCond .eq 7, 3) := by decide +kernel
theorem dX9_wins_38 : decode cX9_wins 38 = .ok (.ldc2_w 149, 3) := by decide +kernel
theorem dX9_wins_41 : decode cX9_wins 41 = .ok (.lreturn, 1) := by decide +kernel
theorem dX9_wins_42 : decode cX9_wins 42 = .ok (.aload_n 0, 1) := by decide +kernel
theorem dX9_wins_43 : decode cX9_wins 43 = .ok (.getfield 34, 3) := by decide +kernel
theorem dX9_wins_46 : decode cX9_wins 46 = .ok (.aload_n 0, 1) := by decide +kernel
theorem dX9_wins_47 : decode cX9_wins 47 = .ok (.getfield 12, 3) := by decide +kernel
theorem dX9_wins_50 : decode cX9_wins 50 = .ok (.iload_n 1, 1) := by decide +kernel
theorem dX9_wins_51 : decode cX9_wins 51 = .ok (.iload_n 2, 1) := by decide +kernel
theorem dX9_wins_52 : decode cX9_wins 52 = .ok (.iconst 1, 1) := by decide +kernel
theorem dX9_wins_53 : decode cX9_wins 53 = .ok (.invokevirtual 151, 3) := by decide +kernel
theorem dX9_wins_56 : decode cX9_wins 56 = .ok (.iconst 0, 1) := by decide +kernel
theorem dX9_wins_57 : decode cX9_wins 57 = .ok (.istore 6, 2) := by decide +kernel
theorem dX9_wins_59 : decode cX9_wins 59 = .ok (.iload 6, 2) := by decide +kernel
theorem dX9_wins_61 : decode cX9_wins 61 = .ok (.iload_n 3, 1) := by decide +kernel
theorem dX9_wins_62 : decode cX9_wins 62 = .ok (.if_icmp .ge 16, 3) := by decide +kernel
theorem dX9_wins_65 : decode cX9_wins 65 = .ok (.aload_n 0, 1) := by decide +kernel
theorem dX9_wins_66 : decode cX9_wins 66 = .ok (.getfield 34, 3) := by decide +kernel
theorem dX9_wins_69 : decode cX9_wins 69 = .ok (.invokevirtual 155, 3) := by decide +kernel
theorem dX9_wins_72 : decode cX9_wins 72 = .ok (.iinc 6 1, 3) := by decide +kernel
theorem dX9_wins_75 : decode cX9_wins 75 = .ok (.goto (-16), 3) := by decide +kernel
theorem dX9_wins_78 : decode cX9_wins 78 = .ok (.aload_n 0, 1) := by decide +kernel
theorem dX9_wins_79 : decode cX9_wins 79 = .ok (.getfield 34, 3) := by decide +kernel
theorem dX9_wins_82 : decode cX9_wins 82 = .ok (.iload 4, 2) := by decide +kernel
theorem dX9_wins_84 : decode cX9_wins 84 = .ok (.invokevirtual 158, 3) := by decide +kernel
theorem dX9_wins_87 : decode cX9_wins 87 = .ok (.iload_n 3, 1) := by decide +kernel
theorem dX9_wins_88 : decode cX9_wins 88 = .ok (.invokestatic 162, 3) := by decide +kernel
theorem dX9_wins_91 : decode cX9_wins 91 = .ok (.iload 5, 2) := by decide +kernel
theorem dX9_wins_93 : decode cX9_wins 93 = .ok (.invokestatic 165, 3) := by decide +kernel
theorem dX9_wins_96 : decode cX9_wins 96 = .ok (.lreturn, 1) := by decide +kernel
set_option maxRecDepth 20000 in
theorem r_X9_wins : m_Right (yX9_wins, cX9_wins, 7, (some .long)) q_X9_wins := m_right_nd (m_right_nd (m_right_nd (m_right_nd (m_right_nd (m_right_lf ⟨1, dX9_wins_0, rfl, rfl, rfl⟩) (m_right_lf ⟨1, dX9_wins_1, rfl, rfl, rfl⟩)) (m_right_nd (m_right_lf ⟨1, dX9_wins_2, rfl, rfl, rfl⟩) (m_right_nd (m_right_lf ⟨3, dX9_wins_3, rfl, rfl, 109, 2, 9, (yX9_refusal, cX9_refusal, 3, (some .int)), rfl, me_X9_refusal, mc_X9_refusal, Or.inl ⟨(RX9, TX9, 10), rfl, rfl⟩, wd_512, wd_514, wd_10, wd_62⟩) (m_right_lf ⟨3, dX9_wins_6, rfl, rfl, 38, rfl, by decide⟩)))) (m_right_nd (m_right_nd (m_right_lf ⟨1, dX9_wins_9, rfl, rfl, rfl⟩) (m_right_nd (m_right_lf ⟨3, dX9_wins_10, rfl, rfl, 38, rfl, by decide⟩) (m_right_lf ⟨1, dX9_wins_13, rfl, rfl, rfl⟩))) (m_right_nd (m_right_lf ⟨2, dX9_wins_14, rfl, rfl, by decide +kernel⟩) (m_right_nd (m_right_lf ⟨3, dX9_wins_16, rfl, rfl, 38, rfl, by decide⟩) (m_right_lf ⟨2, dX9_wins_19, rfl, rfl, rfl⟩))))) (m_right_nd (m_right_nd (m_right_nd (m_right_lf ⟨3, dX9_wins_21, rfl, rfl, 38, rfl, by decide⟩) (m_right_nd (m_right_lf ⟨2, dX9_wins_24, rfl, rfl, rfl⟩) (m_right_lf ⟨1, dX9_wins_26, rfl, rfl, rfl⟩))) (m_right_nd (m_right_lf ⟨3, dX9_wins_27, rfl, rfl, 38, rfl, by decide⟩) (m_right_nd (m_right_lf ⟨2, dX9_wins_30, rfl, rfl, rfl⟩) (m_right_lf ⟨3, dX9_wins_32, rfl, rfl, Or.inr (Or.inr ⟨113, 1, (yX9_isNoPart, cX9_isNoPart, 1, (some .boolean)), rfl, me_X9_isNoPart, mc_X9_isNoPart, wd_575, wd_576, wd_62⟩)⟩)))) (m_right_nd (m_right_nd (m_right_lf ⟨3, dX9_wins_35, rfl, rfl, 42, rfl, by decide⟩) (m_right_nd (m_right_lf ⟨3, dX9_wins_38, rfl, rfl, _, rfl, wd_578⟩) (m_right_lf ⟨1, dX9_wins_41, rfl, rfl⟩))) (m_right_nd (m_right_lf ⟨1, dX9_wins_42, rfl, rfl, rfl⟩) (m_right_nd (m_right_lf ⟨3, dX9_wins_43, rfl, rfl, 9, 4, rfl, Or.inl ⟨(RX9, TX9, 10), rfl, by decide, wd_352⟩⟩) (m_right_lf ⟨1, dX9_wins_46, rfl, rfl, rfl⟩)))))) (m_right_nd (m_right_nd (m_right_nd (m_right_nd (m_right_lf ⟨3, dX9_wins_47, rfl, rfl, 9, 0, rfl, Or.inl ⟨(RX9, TX9, 10), rfl, by decide, wd_348⟩⟩) (m_right_nd (m_right_lf ⟨1, dX9_wins_50, rfl, rfl, rfl⟩) (m_right_lf ⟨1, dX9_wins_51, rfl, rfl, rfl⟩))) (m_right_nd (m_right_lf ⟨1, dX9_wins_52, rfl, rfl, by decide +kernel⟩) (m_right_nd (m_right_lf ⟨3, dX9_wins_53, rfl, rfl, 17, 4, 2, (yX2_begins, cX2_begins, 5, none), rfl, me_X2_begins, mc_X2_begins, Or.inl ⟨(RX2, TX2, 8), rfl, rfl⟩, wd_579, wd_580, wd_581, wd_65⟩) (m_right_lf ⟨1, dX9_wins_56, rfl, rfl, by decide +kernel⟩)))) (m_right_nd (m_right_nd (m_right_lf ⟨2, dX9_wins_57, rfl, rfl, rfl⟩) (m_right_nd (m_right_lf ⟨2, dX9_wins_59, rfl, rfl, rfl⟩) (m_right_lf ⟨1, dX9_wins_61, rfl, rfl, rfl⟩))) (m_right_nd (m_right_lf ⟨3, dX9_wins_62, rfl, rfl, 78, rfl, by decide⟩) (m_right_nd (m_right_lf ⟨1, dX9_wins_65, rfl, rfl, rfl⟩) (m_right_lf ⟨3, dX9_wins_66, rfl, rfl, 9, 4, rfl, Or.inl ⟨(RX9, TX9, 10), rfl, by decide, wd_352⟩⟩))))) (m_right_nd (m_right_nd (m_right_nd (m_right_lf ⟨3, dX9_wins_69, rfl, rfl, 18, 0, 2, (yX2_goesOn, cX2_goesOn, 2, none), rfl, me_X2_goesOn, mc_X2_goesOn, Or.inl ⟨(RX2, TX2, 8), rfl, rfl⟩, wd_594, wd_595, wd_596, wd_65⟩) (m_right_nd (m_right_lf ⟨3, dX9_wins_72, rfl, rfl, rfl, by decide +kernel⟩) (m_right_lf ⟨3, dX9_wins_75, rfl, 59, rfl, by decide⟩))) (m_right_nd (m_right_lf ⟨1, dX9_wins_78, rfl, rfl, rfl⟩) (m_right_nd (m_right_lf ⟨3, dX9_wins_79, rfl, rfl, 9, 4, rfl, Or.inl ⟨(RX9, TX9, 10), rfl, by decide, wd_352⟩⟩) (m_right_lf ⟨2, dX9_wins_82, rfl, rfl, rfl⟩)))) (m_right_nd (m_right_nd (m_right_lf ⟨3, dX9_wins_84, rfl, rfl, 20, 1, 2, (yX2_takesWon, cX2_takesWon, 5, (some .long)), rfl, me_X2_takesWon, mc_X2_takesWon, Or.inl ⟨(RX2, TX2, 8), rfl, rfl⟩, wd_616, wd_617, wd_618, wd_65⟩) (m_right_nd (m_right_lf ⟨1, dX9_wins_87, rfl, rfl, rfl⟩) (m_right_lf ⟨3, dX9_wins_88, rfl, rfl, Or.inr (Or.inr ⟨115, 1, (yX9_powerOfTen, cX9_powerOfTen, 4, (some .long)), rfl, me_X9_powerOfTen, mc_X9_powerOfTen, wd_624, wd_625, wd_62⟩)⟩))) (m_right_nd (m_right_lf ⟨2, dX9_wins_91, rfl, rfl, rfl⟩) (m_right_nd (m_right_lf ⟨3, dX9_wins_93, rfl, rfl, Or.inr (Or.inr ⟨116, 3, (yX9_partOf, cX9_partOf, 12, (some .long)), rfl, me_X9_partOf, mc_X9_partOf, wd_628, wd_629, wd_62⟩)⟩) (m_right_lf ⟨1, dX9_wins_96, rfl, rfl⟩))))))
theorem dX9_mean_0 : decode cX9_mean 0 = .ok (.aload_n 0, 1) := by decide +kernel
theorem dX9_mean_1 : decode cX9_mean 1 = .ok (.iload_n 1, 1) := by decide +kernel
theorem dX9_mean_2 : decode cX9_mean 2 = .ok (.iload_n 2, 1) := by decide +kernel
theorem dX9_mean_3 : decode cX9_mean 3 = .ok (.invokevirtual 132, 3) := by decide +kernel
theorem dX9_mean_6 : decode cX9_mean 6 = .ok (.ifCond .ne 21, 3) := by decide +kernel
theorem dX9_mean_9 : decode cX9_mean 9 = .ok (.iload_n 3, 1) := by decide +kernel
theorem dX9_mean_10 : decode cX9_mean 10 = .ok (.ifCond .lt 17, 3) := by decide +kernel
theorem dX9_mean_13 : decode cX9_mean 13 = .ok (.iload_n 3, 1) := by decide +kernel
theorem dX9_mean_14 : decode cX9_mean 14 = .ok (.bipush 12, 2) := by decide +kernel
theorem dX9_mean_16 : decode cX9_mean 16 = .ok (.if_icmp .gt 11, 3) := by decide +kernel
theorem dX9_mean_19 : decode cX9_mean 19 = .ok (.iload 4, 2) := by decide +kernel
theorem dX9_mean_21 : decode cX9_mean 21 = .ok (.invokestatic 146, 3) := by decide +kernel
theorem dX9_mean_24 : decode cX9_mean 24 = .ok (.ifCond .eq 7, 3) := by decide +kernel
theorem dX9_mean_27 : decode cX9_mean 27 = .ok (.ldc2_w 149, 3) := by decide +kernel
theorem dX9_mean_30 : decode cX9_mean 30 = .ok (.lreturn, 1) := by decide +kernel
theorem dX9_mean_31 : decode cX9_mean 31 = .ok (.aload_n 0, 1) := by decide +kernel
theorem dX9_mean_32 : decode cX9_mean 32 = .ok (.getfield 34, 3) := by decide +kernel
theorem dX9_mean_35 : decode cX9_mean 35 = .ok (.aload_n 0, 1) := by decide +kernel
theorem dX9_mean_36 : decode cX9_mean 36 = .ok (.getfield 12, 3) := by decide +kernel
theorem dX9_mean_39 : decode cX9_mean 39 = .ok (.iload_n 1, 1) := by decide +kernel
theorem dX9_mean_40 : decode cX9_mean 40 = .ok (.iload_n 2, 1) := by decide +kernel
theorem dX9_mean_41 : decode cX9_mean 41 = .ok (.iconst 0, 1) := by decide +kernel
theorem dX9_mean_42 : decode cX9_mean 42 = .ok (.invokevirtual 151, 3) := by decide +kernel
theorem dX9_mean_45 : decode cX9_mean 45 = .ok (.iconst 0, 1) := by decide +kernel
theorem dX9_mean_46 : decode cX9_mean 46 = .ok (.istore 5, 2) := by decide +kernel
theorem dX9_mean_48 : decode cX9_mean 48 = .ok (.iload 5, 2) := by decide +kernel
theorem dX9_mean_50 : decode cX9_mean 50 = .ok (.iload_n 3, 1) := by decide +kernel
theorem dX9_mean_51 : decode cX9_mean 51 = .ok (.if_icmp .ge 16, 3) := by decide +kernel
theorem dX9_mean_54 : decode cX9_mean 54 = .ok (.aload_n 0, 1) := by decide +kernel
theorem dX9_mean_55 : decode cX9_mean 55 = .ok (.getfield 34, 3) := by decide +kernel
theorem dX9_mean_58 : decode cX9_mean 58 = .ok (.invokevirtual 155, 3) := by decide +kernel
theorem dX9_mean_61 : decode cX9_mean 61 = .ok (.iinc 5 1, 3) := by decide +kernel
theorem dX9_mean_64 : decode cX9_mean 64 = .ok (.goto (-16), 3) := by decide +kernel
theorem dX9_mean_67 : decode cX9_mean 67 = .ok (.aload_n 0, 1) := by decide +kernel
theorem dX9_mean_68 : decode cX9_mean 68 = .ok (.getfield 34, 3) := by decide +kernel
theorem dX9_mean_71 : decode cX9_mean 71 = .ok (.invokevirtual 169, 3) := by decide +kernel
theorem dX9_mean_74 : decode cX9_mean 74 = .ok (.iload_n 3, 1) := by decide +kernel
theorem dX9_mean_75 : decode cX9_mean 75 = .ok (.invokestatic 162, 3) := by decide +kernel
theorem dX9_mean_78 : decode cX9_mean 78 = .ok (.iload 4, 2) := by decide +kernel
theorem dX9_mean_80 : decode cX9_mean 80 = .ok (.invokestatic 165, 3) := by decide +kernel
theorem dX9_mean_83 : decode cX9_mean 83 = .ok (.lreturn, 1) := by decide +kernel
set_option maxRecDepth 20000 in
theorem r_X9_mean : m_Right (yX9_mean, cX9_mean, 6, (some .long)) q_X9_mean := m_right_nd (m_right_nd (m_right_nd (m_right_nd (m_right_nd (m_right_lf ⟨1, dX9_mean_0, rfl, rfl, rfl⟩) (m_right_lf ⟨1, dX9_mean_1, rfl, rfl, rfl⟩)) (m_right_nd (m_right_lf ⟨1, dX9_mean_2, rfl, rfl, rfl⟩) (m_right_nd (m_right_lf ⟨3, dX9_mean_3, rfl, rfl, 109, 2, 9, (yX9_refusal, cX9_refusal, 3, (some .int)), rfl, me_X9_refusal, mc_X9_refusal, Or.inl ⟨(RX9, TX9, 10), rfl, rfl⟩, wd_512, wd_514, wd_10, wd_62⟩) (m_right_lf ⟨3, dX9_mean_6, rfl, rfl, 27, rfl, by decide⟩)))) (m_right_nd (m_right_nd (m_right_lf ⟨1, dX9_mean_9, rfl, rfl, rfl⟩) (m_right_lf ⟨3, dX9_mean_10, rfl, rfl, 27, rfl, by decide⟩)) (m_right_nd (m_right_lf ⟨1, dX9_mean_13, rfl, rfl, rfl⟩) (m_right_nd (m_right_lf ⟨2, dX9_mean_14, rfl, rfl, by decide +kernel⟩) (m_right_lf ⟨3, dX9_mean_16, rfl, rfl, 27, rfl, by decide⟩))))) (m_right_nd (m_right_nd (m_right_nd (m_right_lf ⟨2, dX9_mean_19, rfl, rfl, rfl⟩) (m_right_lf ⟨3, dX9_mean_21, rfl, rfl, Or.inr (Or.inr ⟨113, 1, (yX9_isNoPart, cX9_isNoPart, 1, (some .boolean)), rfl, me_X9_isNoPart, mc_X9_isNoPart, wd_575, wd_576, wd_62⟩)⟩)) (m_right_nd (m_right_lf ⟨3, dX9_mean_24, rfl, rfl, 31, rfl, by decide⟩) (m_right_nd (m_right_lf ⟨3, dX9_mean_27, rfl, rfl, _, rfl, wd_578⟩) (m_right_lf ⟨1, dX9_mean_30, rfl, rfl⟩)))) (m_right_nd (m_right_nd (m_right_lf ⟨1, dX9_mean_31, rfl, rfl, rfl⟩) (m_right_lf ⟨3, dX9_mean_32, rfl, rfl, 9, 4, rfl, Or.inl ⟨(RX9, TX9, 10), rfl, by decide, wd_352⟩⟩)) (m_right_nd (m_right_lf ⟨1, dX9_mean_35, rfl, rfl, rfl⟩) (m_right_nd (m_right_lf ⟨3, dX9_mean_36, rfl, rfl, 9, 0, rfl, Or.inl ⟨(RX9, TX9, 10), rfl, by decide, wd_348⟩⟩) (m_right_lf ⟨1, dX9_mean_39, rfl, rfl, rfl⟩)))))) (m_right_nd (m_right_nd (m_right_nd (m_right_nd (m_right_lf ⟨1, dX9_mean_40, rfl, rfl, rfl⟩) (m_right_lf ⟨1, dX9_mean_41, rfl, rfl, by decide +kernel⟩)) (m_right_nd (m_right_lf ⟨3, dX9_mean_42, rfl, rfl, 17, 4, 2, (yX2_begins, cX2_begins, 5, none), rfl, me_X2_begins, mc_X2_begins, Or.inl ⟨(RX2, TX2, 8), rfl, rfl⟩, wd_579, wd_580, wd_581, wd_65⟩) (m_right_nd (m_right_lf ⟨1, dX9_mean_45, rfl, rfl, by decide +kernel⟩) (m_right_lf ⟨2, dX9_mean_46, rfl, rfl, rfl⟩)))) (m_right_nd (m_right_nd (m_right_lf ⟨2, dX9_mean_48, rfl, rfl, rfl⟩) (m_right_lf ⟨1, dX9_mean_50, rfl, rfl, rfl⟩)) (m_right_nd (m_right_lf ⟨3, dX9_mean_51, rfl, rfl, 67, rfl, by decide⟩) (m_right_nd (m_right_lf ⟨1, dX9_mean_54, rfl, rfl, rfl⟩) (m_right_lf ⟨3, dX9_mean_55, rfl, rfl, 9, 4, rfl, Or.inl ⟨(RX9, TX9, 10), rfl, by decide, wd_352⟩⟩))))) (m_right_nd (m_right_nd (m_right_nd (m_right_lf ⟨3, dX9_mean_58, rfl, rfl, 18, 0, 2, (yX2_goesOn, cX2_goesOn, 2, none), rfl, me_X2_goesOn, mc_X2_goesOn, Or.inl ⟨(RX2, TX2, 8), rfl, rfl⟩, wd_594, wd_595, wd_596, wd_65⟩) (m_right_lf ⟨3, dX9_mean_61, rfl, rfl, rfl, by decide +kernel⟩)) (m_right_nd (m_right_lf ⟨3, dX9_mean_64, rfl, 48, rfl, by decide⟩) (m_right_nd (m_right_lf ⟨1, dX9_mean_67, rfl, rfl, rfl⟩) (m_right_lf ⟨3, dX9_mean_68, rfl, rfl, 9, 4, rfl, Or.inl ⟨(RX9, TX9, 10), rfl, by decide, wd_352⟩⟩)))) (m_right_nd (m_right_nd (m_right_lf ⟨3, dX9_mean_71, rfl, rfl, 22, 0, 2, (yX2_menOfOne, cX2_menOfOne, 4, (some .long)), rfl, me_X2_menOfOne, mc_X2_menOfOne, Or.inl ⟨(RX2, TX2, 8), rfl, rfl⟩, wd_638, wd_639, wd_640, wd_65⟩) (m_right_nd (m_right_lf ⟨1, dX9_mean_74, rfl, rfl, rfl⟩) (m_right_lf ⟨3, dX9_mean_75, rfl, rfl, Or.inr (Or.inr ⟨115, 1, (yX9_powerOfTen, cX9_powerOfTen, 4, (some .long)), rfl, me_X9_powerOfTen, mc_X9_powerOfTen, wd_624, wd_625, wd_62⟩)⟩))) (m_right_nd (m_right_lf ⟨2, dX9_mean_78, rfl, rfl, rfl⟩) (m_right_nd (m_right_lf ⟨3, dX9_mean_80, rfl, rfl, Or.inr (Or.inr ⟨116, 3, (yX9_partOf, cX9_partOf, 12, (some .long)), rfl, me_X9_partOf, mc_X9_partOf, wd_628, wd_629, wd_62⟩)⟩) (m_right_lf ⟨1, dX9_mean_83, rfl, rfl⟩))))))
theorem dX9_series_0 : decode cX9_series 0 = .ok (.aload_n 0, 1) := by decide +kernel
theorem dX9_series_1 : decode cX9_series 1 = .ok (.iload_n 1, 1) := by decide +kernel
theorem dX9_series_2 : decode cX9_series 2 = .ok (.iload_n 2, 1) := by decide +kernel
theorem dX9_series_3 : decode cX9_series 3 = .ok (.invokevirtual 132, 3) := by decide +kernel
theorem dX9_series_6 : decode cX9_series 6 = .ok (.ifCond .ne 21, 3) := by decide +kernel
theorem dX9_series_9 : decode cX9_series 9 = .ok (.iload_n 3, 1) := by decide +kernel
theorem dX9_series_10 : decode cX9_series 10 = .ok (.iconst 1, 1) := by decide +kernel
theorem dX9_series_11 : decode cX9_series 11 = .ok (.if_icmp .lt 16, 3) := by decide +kernel
theorem dX9_series_14 : decode cX9_series 14 = .ok (.iload_n 3, 1) := by decide +kernel
theorem dX9_series_15 : decode cX9_series 15 = .ok (.iconst 5, 1) := by decide +kernel
theorem dX9_series_16 : decode cX9_series 16 = .ok (.if_icmp .gt 11, 3) := by decide +kernel
theorem dX9_series_19 : decode cX9_series 19 = .ok (.iload 4, 2) := by decide +kernel
theorem dX9_series_21 : decode cX9_series 21 = .ok (.invokestatic 146, 3) := by decide +kernel
theorem dX9_series_24 : decode cX9_series 24 = .ok (.ifCond .eq 7, 3) := by decide +kernel
theorem dX9_series_27 : decode cX9_series 27 = .ok (.ldc2_w 149, 3) := by decide +kernel
theorem dX9_series_30 : decode cX9_series 30 = .ok (.lreturn, 1) := by decide +kernel
theorem dX9_series_31 : decode cX9_series 31 = .ok (.iconst 2, 1) := by decide +kernel
theorem dX9_series_32 : decode cX9_series 32 = .ok (.iload_n 3, 1) := by decide +kernel
theorem dX9_series_33 : decode cX9_series 33 = .ok (.imul, 1) := by decide +kernel
theorem dX9_series_34 : decode cX9_series 34 = .ok (.iconst 1, 1) := by decide +kernel
theorem dX9_series_35 : decode cX9_series 35 = .ok (.isub, 1) := by decide +kernel
theorem dX9_series_36 : decode cX9_series 36 = .ok (.istore 5, 2) := by decide +kernel
theorem dX9_series_38 : decode cX9_series 38 = .ok (.lconst 0, 1) := by decide +kernel
theorem dX9_series_39 : decode cX9_series 39 = .ok (.lstore 6, 2) := by decide +kernel
theorem dX9_series_41 : decode cX9_series 41 = .ok (.aload_n 0, 1) := by decide +kernel
theorem dX9_series_42 : decode cX9_series 42 = .ok (.getfield 34, 3) := by decide +kernel
theorem dX9_series_45 : decode cX9_series 45 = .ok (.aload_n 0, 1) := by decide +kernel
theorem dX9_series_46 : decode cX9_series 46 = .ok (.getfield 12, 3) := by decide +kernel
theorem dX9_series_49 : decode cX9_series 49 = .ok (.iload_n 1, 1) := by decide +kernel
theorem dX9_series_50 : decode cX9_series 50 = .ok (.iload_n 2, 1) := by decide +kernel
theorem dX9_series_51 : decode cX9_series 51 = .ok (.iconst 1, 1) := by decide +kernel
theorem dX9_series_52 : decode cX9_series 52 = .ok (.invokevirtual 151, 3) := by decide +kernel
theorem dX9_series_55 : decode cX9_series 55 = .ok (.iconst 0, 1) := by decide +kernel
theorem dX9_series_56 : decode cX9_series 56 = .ok (.istore 8, 2) := by decide +kernel
theorem dX9_series_58 : decode cX9_series 58 = .ok (.iload 8, 2) := by decide +kernel
theorem dX9_series_60 : decode cX9_series 60 = .ok (.iload 5, 2) := by decide +kernel
theorem dX9_series_62 : decode cX9_series 62 = .ok (.if_icmp .ge 33, 3) := by decide +kernel
theorem dX9_series_65 : decode cX9_series 65 = .ok (.aload_n 0, 1) := by decide +kernel
theorem dX9_series_66 : decode cX9_series 66 = .ok (.getfield 34, 3) := by decide +kernel
theorem dX9_series_69 : decode cX9_series 69 = .ok (.invokevirtual 155, 3) := by decide +kernel
theorem dX9_series_72 : decode cX9_series 72 = .ok (.lload 6, 2) := by decide +kernel
theorem dX9_series_74 : decode cX9_series 74 = .ok (.ldc2_w 173, 3) := by decide +kernel
theorem dX9_series_77 : decode cX9_series 77 = .ok (.lmul, 1) := by decide +kernel
theorem dX9_series_78 : decode cX9_series 78 = .ok (.aload_n 0, 1) := by decide +kernel
theorem dX9_series_79 : decode cX9_series 79 = .ok (.getfield 34, 3) := by decide +kernel
theorem dX9_series_82 : decode cX9_series 82 = .ok (.iload_n 3, 1) := by decide +kernel
theorem dX9_series_83 : decode cX9_series 83 = .ok (.invokevirtual 158, 3) := by decide +kernel
theorem dX9_series_86 : decode cX9_series 86 = .ok (.ladd, 1) := by decide +kernel
theorem dX9_series_87 : decode cX9_series 87 = .ok (.lstore 6, 2) := by decide +kernel
theorem dX9_series_89 : decode cX9_series 89 = .ok (.iinc 8 1, 3) := by decide +kernel
theorem dX9_series_92 : decode cX9_series 92 = .ok (.goto (-34), 3) := by decide +kernel
theorem dX9_series_95 : decode cX9_series 95 = .ok (.lload 6, 2) := by decide +kernel
theorem dX9_series_97 : decode cX9_series 97 = .ok (.iload 5, 2) := by decide +kernel
theorem dX9_series_99 : decode cX9_series 99 = .ok (.invokestatic 162, 3) := by decide +kernel
theorem dX9_series_102 : decode cX9_series 102 = .ok (.iload 4, 2) := by decide +kernel
theorem dX9_series_104 : decode cX9_series 104 = .ok (.invokestatic 165, 3) := by decide +kernel
theorem dX9_series_107 : decode cX9_series 107 = .ok (.lreturn, 1) := by decide +kernel
set_option maxRecDepth 20000 in
theorem r_X9_series : m_Right (yX9_series, cX9_series, 9, (some .long)) q_X9_series := m_right_nd (m_right_nd (m_right_nd (m_right_nd (m_right_nd (m_right_lf ⟨1, dX9_series_0, rfl, rfl, rfl⟩) (m_right_nd (m_right_lf ⟨1, dX9_series_1, rfl, rfl, rfl⟩) (m_right_lf ⟨1, dX9_series_2, rfl, rfl, rfl⟩))) (m_right_nd (m_right_nd (m_right_lf ⟨3, dX9_series_3, rfl, rfl, 109, 2, 9, (yX9_refusal, cX9_refusal, 3, (some .int)), rfl, me_X9_refusal, mc_X9_refusal, Or.inl ⟨(RX9, TX9, 10), rfl, rfl⟩, wd_512, wd_514, wd_10, wd_62⟩) (m_right_lf ⟨3, dX9_series_6, rfl, rfl, 27, rfl, by decide⟩)) (m_right_nd (m_right_lf ⟨1, dX9_series_9, rfl, rfl, rfl⟩) (m_right_lf ⟨1, dX9_series_10, rfl, rfl, by decide +kernel⟩)))) (m_right_nd (m_right_nd (m_right_lf ⟨3, dX9_series_11, rfl, rfl, 27, rfl, by decide⟩) (m_right_nd (m_right_lf ⟨1, dX9_series_14, rfl, rfl, rfl⟩) (m_right_lf ⟨1, dX9_series_15, rfl, rfl, by decide +kernel⟩))) (m_right_nd (m_right_nd (m_right_lf ⟨3, dX9_series_16, rfl, rfl, 27, rfl, by decide⟩) (m_right_lf ⟨2, dX9_series_19, rfl, rfl, rfl⟩)) (m_right_nd (m_right_lf ⟨3, dX9_series_21, rfl, rfl, Or.inr (Or.inr ⟨113, 1, (yX9_isNoPart, cX9_isNoPart, 1, (some .boolean)), rfl, me_X9_isNoPart, mc_X9_isNoPart, wd_575, wd_576, wd_62⟩)⟩) (m_right_lf ⟨3, dX9_series_24, rfl, rfl, 31, rfl, by decide⟩))))) (m_right_nd (m_right_nd (m_right_nd (m_right_lf ⟨3, dX9_series_27, rfl, rfl, _, rfl, wd_578⟩) (m_right_nd (m_right_lf ⟨1, dX9_series_30, rfl, rfl⟩) (m_right_lf ⟨1, dX9_series_31, rfl, rfl, by decide +kernel⟩))) (m_right_nd (m_right_nd (m_right_lf ⟨1, dX9_series_32, rfl, rfl, rfl⟩) (m_right_lf ⟨1, dX9_series_33, rfl, rfl⟩)) (m_right_nd (m_right_lf ⟨1, dX9_series_34, rfl, rfl, by decide +kernel⟩) (m_right_lf ⟨1, dX9_series_35, rfl, rfl⟩)))) (m_right_nd (m_right_nd (m_right_lf ⟨2, dX9_series_36, rfl, rfl, rfl⟩) (m_right_nd (m_right_lf ⟨1, dX9_series_38, rfl, rfl, by decide +kernel⟩) (m_right_lf ⟨2, dX9_series_39, rfl, rfl, rfl⟩))) (m_right_nd (m_right_nd (m_right_lf ⟨1, dX9_series_41, rfl, rfl, rfl⟩) (m_right_lf ⟨3, dX9_series_42, rfl, rfl, 9, 4, rfl, Or.inl ⟨(RX9, TX9, 10), rfl, by decide, wd_352⟩⟩)) (m_right_nd (m_right_lf ⟨1, dX9_series_45, rfl, rfl, rfl⟩) (m_right_lf ⟨3, dX9_series_46, rfl, rfl, 9, 0, rfl, Or.inl ⟨(RX9, TX9, 10), rfl, by decide, wd_348⟩⟩)))))) (m_right_nd (m_right_nd (m_right_nd (m_right_nd (m_right_lf ⟨1, dX9_series_49, rfl, rfl, rfl⟩) (m_right_nd (m_right_lf ⟨1, dX9_series_50, rfl, rfl, rfl⟩) (m_right_lf ⟨1, dX9_series_51, rfl, rfl, by decide +kernel⟩))) (m_right_nd (m_right_nd (m_right_lf ⟨3, dX9_series_52, rfl, rfl, 17, 4, 2, (yX2_begins, cX2_begins, 5, none), rfl, me_X2_begins, mc_X2_begins, Or.inl ⟨(RX2, TX2, 8), rfl, rfl⟩, wd_579, wd_580, wd_581, wd_65⟩) (m_right_lf ⟨1, dX9_series_55, rfl, rfl, by decide +kernel⟩)) (m_right_nd (m_right_lf ⟨2, dX9_series_56, rfl, rfl, rfl⟩) (m_right_lf ⟨2, dX9_series_58, rfl, rfl, rfl⟩)))) (m_right_nd (m_right_nd (m_right_lf ⟨2, dX9_series_60, rfl, rfl, rfl⟩) (m_right_nd (m_right_lf ⟨3, dX9_series_62, rfl, rfl, 95, rfl, by decide⟩) (m_right_lf ⟨1, dX9_series_65, rfl, rfl, rfl⟩))) (m_right_nd (m_right_nd (m_right_lf ⟨3, dX9_series_66, rfl, rfl, 9, 4, rfl, Or.inl ⟨(RX9, TX9, 10), rfl, by decide, wd_352⟩⟩) (m_right_lf ⟨3, dX9_series_69, rfl, rfl, 18, 0, 2, (yX2_goesOn, cX2_goesOn, 2, none), rfl, me_X2_goesOn, mc_X2_goesOn, Or.inl ⟨(RX2, TX2, 8), rfl, rfl⟩, wd_594, wd_595, wd_596, wd_65⟩)) (m_right_nd (m_right_lf ⟨2, dX9_series_72, rfl, rfl, rfl⟩) (m_right_lf ⟨3, dX9_series_74, rfl, rfl, _, rfl, wd_627⟩))))) (m_right_nd (m_right_nd (m_right_nd (m_right_lf ⟨1, dX9_series_77, rfl, rfl⟩) (m_right_nd (m_right_lf ⟨1, dX9_series_78, rfl, rfl, rfl⟩) (m_right_lf ⟨3, dX9_series_79, rfl, rfl, 9, 4, rfl, Or.inl ⟨(RX9, TX9, 10), rfl, by decide, wd_352⟩⟩))) (m_right_nd (m_right_nd (m_right_lf ⟨1, dX9_series_82, rfl, rfl, rfl⟩) (m_right_lf ⟨3, dX9_series_83, rfl, rfl, 20, 1, 2, (yX2_takesWon, cX2_takesWon, 5, (some .long)), rfl, me_X2_takesWon, mc_X2_takesWon, Or.inl ⟨(RX2, TX2, 8), rfl, rfl⟩, wd_616, wd_617, wd_618, wd_65⟩)) (m_right_nd (m_right_lf ⟨1, dX9_series_86, rfl, rfl⟩) (m_right_lf ⟨2, dX9_series_87, rfl, rfl, rfl⟩)))) (m_right_nd (m_right_nd (m_right_nd (m_right_lf ⟨3, dX9_series_89, rfl, rfl, rfl, by decide +kernel⟩) (m_right_lf ⟨3, dX9_series_92, rfl, 58, rfl, by decide⟩)) (m_right_nd (m_right_lf ⟨2, dX9_series_95, rfl, rfl, rfl⟩) (m_right_lf ⟨2, dX9_series_97, rfl, rfl, rfl⟩))) (m_right_nd (m_right_nd (m_right_lf ⟨3, dX9_series_99, rfl, rfl, Or.inr (Or.inr ⟨115, 1, (yX9_powerOfTen, cX9_powerOfTen, 4, (some .long)), rfl, me_X9_powerOfTen, mc_X9_powerOfTen, wd_624, wd_625, wd_62⟩)⟩) (m_right_lf ⟨2, dX9_series_102, rfl, rfl, rfl⟩)) (m_right_nd (m_right_lf ⟨3, dX9_series_104, rfl, rfl, Or.inr (Or.inr ⟨116, 3, (yX9_partOf, cX9_partOf, 12, (some .long)), rfl, me_X9_partOf, mc_X9_partOf, wd_628, wd_629, wd_62⟩)⟩) (m_right_lf ⟨1, dX9_series_107, rfl, rfl⟩))))))
