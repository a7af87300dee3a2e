/-! By program (wip/whole/gen2.py): the words of the tables by their places, and the code tables' rightness. -/
theorem dX4_plays_0 : decode cX4_plays 0 = .ok (.iconst 0, 1) := by decide +kernel
theorem dX4_plays_1 : decode cX4_plays 1 = .ok (.istore_n 3, 1) := by decide +kernel
theorem dX4_plays_2 : decode cX4_plays 2 = .ok (.iload_n 3, 1) := by decide +kernel
theorem dX4_plays_3 : decode cX4_plays 3 = .ok (.bipush 20, 2) := by decide +kernel
theorem dX4_plays_5 : decode cX4_plays 5 = .ok (.if_icmp .gt 20, 3) := by decide +kernel
theorem dX4_plays_8 : decode cX4_plays 8 = .ok (.aload_n 0, 1) := by decide +kernel
theorem dX4_plays_9 : decode cX4_plays 9 = .ok (.getfield 20, 3) := by decide +kernel
theorem dX4_plays_12 : decode cX4_plays 12 = .ok (.iload_n 1, 1) := by decide +kernel
theorem dX4_plays_13 : decode cX4_plays 13 = .ok (.iconst 1, 1) := by decide +kernel
theorem dX4_plays_14 : decode cX4_plays 14 = .ok (.iadd, 1) := by decide +kernel
theorem dX4_plays_15 : decode cX4_plays 15 = .ok (.aaload, 1) := by decide +kernel
theorem dX4_plays_16 : decode cX4_plays 16 = .ok (.iload_n 3, 1) := by decide +kernel
theorem dX4_plays_17 : decode cX4_plays 17 = .ok (.lconst 0, 1) := by decide +kernel
theorem dX4_plays_18 : decode cX4_plays 18 = .ok (.lastore, 1) := by decide +kernel
theorem dX4_plays_19 : decode cX4_plays 19 = .ok (.iinc 3 1, 3) := by decide +kernel
theorem dX4_plays_22 : decode cX4_plays 22 = .ok (.goto (-20), 3) := by decide +kernel
theorem dX4_plays_25 : decode cX4_plays 25 = .ok (.lconst 0, 1) := by decide +kernel
theorem dX4_plays_26 : decode cX4_plays 26 = .ok (.lstore_n 3, 1) := by decide +kernel
theorem dX4_plays_27 : decode cX4_plays 27 = .ok (.iconst 1, 1) := by decide +kernel
theorem dX4_plays_28 : decode cX4_plays 28 = .ok (.istore 5, 2) := by decide +kernel
theorem dX4_plays_30 : decode cX4_plays 30 = .ok (.iload 5, 2) := by decide +kernel
theorem dX4_plays_32 : decode cX4_plays 32 = .ok (.bipush 20, 2) := by decide +kernel
theorem dX4_plays_34 : decode cX4_plays 34 = .ok (.if_icmp .gt 127, 3) := by decide +kernel
theorem dX4_plays_37 : decode cX4_plays 37 = .ok (.aload_n 0, 1) := by decide +kernel
theorem dX4_plays_38 : decode cX4_plays 38 = .ok (.getfield 20, 3) := by decide +kernel
theorem dX4_plays_41 : decode cX4_plays 41 = .ok (.iload_n 1, 1) := by decide +kernel
theorem dX4_plays_42 : decode cX4_plays 42 = .ok (.aaload, 1) := by decide +kernel
theorem dX4_plays_43 : decode cX4_plays 43 = .ok (.iload 5, 2) := by decide +kernel
theorem dX4_plays_45 : decode cX4_plays 45 = .ok (.laload, 1) := by decide +kernel
theorem dX4_plays_46 : decode cX4_plays 46 = .ok (.lstore 6, 2) := by decide +kernel
theorem dX4_plays_48 : decode cX4_plays 48 = .ok (.lload 6, 2) := by decide +kernel
theorem dX4_plays_50 : decode cX4_plays 50 = .ok (.lconst 0, 1) := by decide +kernel
theorem dX4_plays_51 : decode cX4_plays 51 = .ok (.lcmp, 1) := by decide +kernel
theorem dX4_plays_52 : decode cX4_plays 52 = .ok (.ifCond .eq 103, 3) := by decide +kernel
theorem dX4_plays_55 : decode cX4_plays 55 = .ok (.aload_n 0, 1) := by decide +kernel
theorem dX4_plays_56 : decode cX4_plays 56 = .ok (.getfield 23, 3) := by decide +kernel
theorem dX4_plays_59 : decode cX4_plays 59 = .ok (.aload_n 0, 1) := by decide +kernel
theorem dX4_plays_60 : decode cX4_plays 60 = .ok (.getfield 27, 3) := by decide +kernel
theorem dX4_plays_63 : decode cX4_plays 63 = .ok (.iload_n 2, 1) := by decide +kernel
theorem dX4_plays_64 : decode cX4_plays 64 = .ok (.iload 5, 2) := by decide +kernel
theorem dX4_plays_66 : decode cX4_plays 66 = .ok (.aload_n 0, 1) := by decide +kernel
theorem dX4_plays_67 : decode cX4_plays 67 = .ok (.getfield 23, 3) := by decide +kernel
theorem dX4_plays_70 : decode cX4_plays 70 = .ok (.getfield 52, 3) := by decide +kernel
theorem dX4_plays_73 : decode cX4_plays 73 = .ok (.iload_n 2, 1) := by decide +kernel
theorem dX4_plays_74 : decode cX4_plays 74 = .ok (.iaload, 1) := by decide +kernel
theorem dX4_plays_75 : decode cX4_plays 75 = .ok (.aload_n 0, 1) := by decide +kernel
theorem dX4_plays_76 : decode cX4_plays 76 = .ok (.getfield 23, 3) := by decide +kernel
theorem dX4_plays_79 : decode cX4_plays 79 = .ok (.getfield 76, 3) := by decide +kernel
theorem dX4_plays_82 : decode cX4_plays 82 = .ok (.iload_n 1, 1) := by decide +kernel
theorem dX4_plays_83 : decode cX4_plays 83 = .ok (.iadd, 1) := by decide +kernel
theorem dX4_plays_84 : decode cX4_plays 84 = .ok (.invokevirtual 79, 3) := by decide +kernel
theorem dX4_plays_87 : decode cX4_plays 87 = .ok (.istore 8, 2) := by decide +kernel
theorem dX4_plays_89 : decode cX4_plays 89 = .ok (.aload_n 0, 1) := by decide +kernel
theorem dX4_plays_90 : decode cX4_plays 90 = .ok (.getfield 20, 3) := by decide +kernel
theorem dX4_plays_93 : decode cX4_plays 93 = .ok (.iload_n 1, 1) := by decide +kernel
theorem dX4_plays_94 : decode cX4_plays 94 = .ok (.iconst 1, 1) := by decide +kernel
theorem dX4_plays_95 : decode cX4_plays 95 = .ok (.iadd, 1) := by decide +kernel
theorem dX4_plays_96 : decode cX4_plays 96 = .ok (.aaload, 1) := by decide +kernel
theorem dX4_plays_97 : decode cX4_plays 97 = .ok (.aload_n 0, 1) := by decide +kernel
theorem dX4_plays_98 : decode cX4_plays 98 = .ok (.getfield 23, 3) := by decide +kernel
theorem dX4_plays_101 : decode cX4_plays 101 = .ok (.iload 5, 2) := by decide +kernel
theorem dX4_plays_103 : decode cX4_plays 103 = .ok (.invokevirtual 83, 3) := by decide +kernel
theorem dX4_plays_106 : decode cX4_plays 106 = .ok (.dup2, 1) := by decide +kernel
theorem dX4_plays_107 : decode cX4_plays 107 = .ok (.laload, 1) := by decide +kernel
theorem dX4_plays_108 : decode cX4_plays 108 = .ok (.lload 6, 2) := by decide +kernel
theorem dX4_plays_110 : decode cX4_plays 110 = .ok (.iload 8, 2) := by decide +kernel
theorem dX4_plays_112 : decode cX4_plays 112 = .ok (.i2l, 1) := by decide +kernel
theorem dX4_plays_113 : decode cX4_plays 113 = .ok (.lmul, 1) := by decide +kernel
theorem dX4_plays_114 : decode cX4_plays 114 = .ok (.ladd, 1) := by decide +kernel
theorem dX4_plays_115 : decode cX4_plays 115 = .ok (.lastore, 1) := by decide +kernel
theorem dX4_plays_116 : decode cX4_plays 116 = .ok (.aload_n 0, 1) := by decide +kernel
theorem dX4_plays_117 : decode cX4_plays 117 = .ok (.getfield 20, 3) := by decide +kernel
theorem dX4_plays_120 : decode cX4_plays 120 = .ok (.iload_n 1, 1) := by decide +kernel
theorem dX4_plays_121 : decode cX4_plays 121 = .ok (.iconst 1, 1) := by decide +kernel
theorem dX4_plays_122 : decode cX4_plays 122 = .ok (.iadd, 1) := by decide +kernel
theorem dX4_plays_123 : decode cX4_plays 123 = .ok (.aaload, 1) := by decide +kernel
theorem dX4_plays_124 : decode cX4_plays 124 = .ok (.aload_n 0, 1) := by decide +kernel
theorem dX4_plays_125 : decode cX4_plays 125 = .ok (.getfield 23, 3) := by decide +kernel
theorem dX4_plays_128 : decode cX4_plays 128 = .ok (.iload 5, 2) := by decide +kernel
theorem dX4_plays_130 : decode cX4_plays 130 = .ok (.invokevirtual 86, 3) := by decide +kernel
theorem dX4_plays_133 : decode cX4_plays 133 = .ok (.dup2, 1) := by decide +kernel
theorem dX4_plays_134 : decode cX4_plays 134 = .ok (.laload, 1) := by decide +kernel
theorem dX4_plays_135 : decode cX4_plays 135 = .ok (.lload 6, 2) := by decide +kernel
theorem dX4_plays_137 : decode cX4_plays 137 = .ok (.bipush 10, 2) := by decide +kernel
theorem dX4_plays_139 : decode cX4_plays 139 = .ok (.iload 8, 2) := by decide +kernel
theorem dX4_plays_141 : decode cX4_plays 141 = .ok (.isub, 1) := by decide +kernel
theorem dX4_plays_142 : decode cX4_plays 142 = .ok (.i2l, 1) := by decide +kernel
theorem dX4_plays_143 : decode cX4_plays 143 = .ok (.lmul, 1) := by decide +kernel
theorem dX4_plays_144 : decode cX4_plays 144 = .ok (.ladd, 1) := by decide +kernel
theorem dX4_plays_145 : decode cX4_plays 145 = .ok (.lastore, 1) := by decide +kernel
theorem dX4_plays_146 : decode cX4_plays 146 = .ok (.lload_n 3, 1) := by decide +kernel
theorem dX4_plays_147 : decode cX4_plays 147 = .ok (.lload 6, 2) := by decide +kernel
theorem dX4_plays_149 : decode cX4_plays 149 = .ok (.iload 8, 2) := by decide +kernel
theorem dX4_plays_151 : decode cX4_plays 151 = .ok (.i2l, 1) := by decide +kernel
theorem dX4_plays_152 : decode cX4_plays 152 = .ok (.lmul, 1) := by decide +kernel
theorem dX4_plays_153 : decode cX4_plays 153 = .ok (.ladd, 1) := by decide +kernel
theorem dX4_plays_154 : decode cX4_plays 154 = .ok (.lstore_n 3, 1) := by decide +kernel
theorem dX4_plays_155 : decode cX4_plays 155 = .ok (.iinc 5 1, 3) := by decide +kernel
theorem dX4_plays_158 : decode cX4_plays 158 = .ok (.goto (-128), 3) := by decide +kernel
theorem dX4_plays_161 : decode cX4_plays 161 = .ok (.lload_n 3, 1) := by decide +kernel
theorem dX4_plays_162 : decode cX4_plays 162 = .ok (.lreturn, 1) := by decide +kernel
set_option maxRecDepth 20000 in
theorem r_X4_plays : m_Right (yX4_plays, cX4_plays, 9, (some .long)) q_X4_plays := m_right_nd (m_right_nd (m_right_nd (m_right_nd (m_right_nd (m_right_nd (m_right_lf ⟨1, dX4_plays_0, rfl, rfl, by decide +kernel⟩) (m_right_nd (m_right_lf ⟨1, dX4_plays_1, rfl, rfl, rfl⟩) (m_right_lf ⟨1, dX4_plays_2, rfl, rfl, rfl⟩))) (m_right_nd (m_right_lf ⟨2, dX4_plays_3, rfl, rfl, by decide +kernel⟩) (m_right_nd (m_right_lf ⟨3, dX4_plays_5, rfl, rfl, 25, rfl, by decide⟩) (m_right_lf ⟨1, dX4_plays_8, rfl, rfl, rfl⟩)))) (m_right_nd (m_right_nd (m_right_lf ⟨3, dX4_plays_9, rfl, rfl, 4, 4, rfl, Or.inl ⟨(RX4, TX4, 7), rfl, by decide, wd_287⟩⟩) (m_right_nd (m_right_lf ⟨1, dX4_plays_12, rfl, rfl, rfl⟩) (m_right_lf ⟨1, dX4_plays_13, rfl, rfl, by decide +kernel⟩))) (m_right_nd (m_right_lf ⟨1, dX4_plays_14, rfl, rfl⟩) (m_right_nd (m_right_lf ⟨1, dX4_plays_15, rfl, rfl⟩) (m_right_lf ⟨1, dX4_plays_16, rfl, rfl, rfl⟩))))) (m_right_nd (m_right_nd (m_right_nd (m_right_lf ⟨1, dX4_plays_17, rfl, rfl, by decide +kernel⟩) (m_right_nd (m_right_lf ⟨1, dX4_plays_18, rfl, rfl⟩) (m_right_lf ⟨3, dX4_plays_19, rfl, rfl, rfl, by decide +kernel⟩))) (m_right_nd (m_right_lf ⟨3, dX4_plays_22, rfl, 2, rfl, by decide⟩) (m_right_nd (m_right_lf ⟨1, dX4_plays_25, rfl, rfl, by decide +kernel⟩) (m_right_lf ⟨1, dX4_plays_26, rfl, rfl, rfl⟩)))) (m_right_nd (m_right_nd (m_right_lf ⟨1, dX4_plays_27, rfl, rfl, by decide +kernel⟩) (m_right_nd (m_right_lf ⟨2, dX4_plays_28, rfl, rfl, rfl⟩) (m_right_lf ⟨2, dX4_plays_30, rfl, rfl, rfl⟩))) (m_right_nd (m_right_nd (m_right_lf ⟨2, dX4_plays_32, rfl, rfl, by decide +kernel⟩) (m_right_lf ⟨3, dX4_plays_34, rfl, rfl, 161, rfl, by decide⟩)) (m_right_nd (m_right_lf ⟨1, dX4_plays_37, rfl, rfl, rfl⟩) (m_right_lf ⟨3, dX4_plays_38, rfl, rfl, 4, 4, rfl, Or.inl ⟨(RX4, TX4, 7), rfl, by decide, wd_287⟩⟩)))))) (m_right_nd (m_right_nd (m_right_nd (m_right_nd (m_right_lf ⟨1, dX4_plays_41, rfl, rfl, rfl⟩) (m_right_nd (m_right_lf ⟨1, dX4_plays_42, rfl, rfl⟩) (m_right_lf ⟨2, dX4_plays_43, rfl, rfl, rfl⟩))) (m_right_nd (m_right_lf ⟨1, dX4_plays_45, rfl, rfl⟩) (m_right_nd (m_right_lf ⟨2, dX4_plays_46, rfl, rfl, rfl⟩) (m_right_lf ⟨2, dX4_plays_48, rfl, rfl, rfl⟩)))) (m_right_nd (m_right_nd (m_right_lf ⟨1, dX4_plays_50, rfl, rfl, by decide +kernel⟩) (m_right_nd (m_right_lf ⟨1, dX4_plays_51, rfl, rfl⟩) (m_right_lf ⟨3, dX4_plays_52, rfl, rfl, 155, rfl, by decide⟩))) (m_right_nd (m_right_lf ⟨1, dX4_plays_55, rfl, rfl, rfl⟩) (m_right_nd (m_right_lf ⟨3, dX4_plays_56, rfl, rfl, 4, 5, rfl, Or.inl ⟨(RX4, TX4, 7), rfl, by decide, wd_288⟩⟩) (m_right_lf ⟨1, dX4_plays_59, rfl, rfl, rfl⟩))))) (m_right_nd (m_right_nd (m_right_nd (m_right_lf ⟨3, dX4_plays_60, rfl, rfl, 4, 6, rfl, Or.inl ⟨(RX4, TX4, 7), rfl, by decide, wd_289⟩⟩) (m_right_nd (m_right_lf ⟨1, dX4_plays_63, rfl, rfl, rfl⟩) (m_right_lf ⟨2, dX4_plays_64, rfl, rfl, rfl⟩))) (m_right_nd (m_right_lf ⟨1, dX4_plays_66, rfl, rfl, rfl⟩) (m_right_nd (m_right_lf ⟨3, dX4_plays_67, rfl, rfl, 4, 5, rfl, Or.inl ⟨(RX4, TX4, 7), rfl, by decide, wd_288⟩⟩) (m_right_lf ⟨3, dX4_plays_70, rfl, rfl, 7, 3, rfl, Or.inl ⟨(RX7, TX7, 16), rfl, by decide, wd_105⟩⟩)))) (m_right_nd (m_right_nd (m_right_lf ⟨1, dX4_plays_73, rfl, rfl, rfl⟩) (m_right_nd (m_right_lf ⟨1, dX4_plays_74, rfl, rfl⟩) (m_right_lf ⟨1, dX4_plays_75, rfl, rfl, rfl⟩))) (m_right_nd (m_right_nd (m_right_lf ⟨3, dX4_plays_76, rfl, rfl, 4, 5, rfl, Or.inl ⟨(RX4, TX4, 7), rfl, by decide, wd_288⟩⟩) (m_right_lf ⟨3, dX4_plays_79, rfl, rfl, 7, 5, rfl, Or.inl ⟨(RX7, TX7, 16), rfl, by decide, wd_113⟩⟩)) (m_right_nd (m_right_lf ⟨1, dX4_plays_82, rfl, rfl, rfl⟩) (m_right_lf ⟨1, dX4_plays_83, rfl, rfl⟩))))))) (m_right_nd (m_right_nd (m_right_nd (m_right_nd (m_right_nd (m_right_lf ⟨3, dX4_plays_84, rfl, rfl, 65, 5, 7, (yX7_oddsOf, cX7_oddsOf, 7, (some .int)), rfl, me_X7_oddsOf, mc_X7_oddsOf, Or.inl ⟨(RX7, TX7, 16), rfl, rfl⟩, wd_728, wd_545, wd_546, wd_63⟩) (m_right_nd (m_right_lf ⟨2, dX4_plays_87, rfl, rfl, rfl⟩) (m_right_lf ⟨1, dX4_plays_89, rfl, rfl, rfl⟩))) (m_right_nd (m_right_lf ⟨3, dX4_plays_90, rfl, rfl, 4, 4, rfl, Or.inl ⟨(RX4, TX4, 7), rfl, by decide, wd_287⟩⟩) (m_right_nd (m_right_lf ⟨1, dX4_plays_93, rfl, rfl, rfl⟩) (m_right_lf ⟨1, dX4_plays_94, rfl, rfl, by decide +kernel⟩)))) (m_right_nd (m_right_nd (m_right_lf ⟨1, dX4_plays_95, rfl, rfl⟩) (m_right_nd (m_right_lf ⟨1, dX4_plays_96, rfl, rfl⟩) (m_right_lf ⟨1, dX4_plays_97, rfl, rfl, rfl⟩))) (m_right_nd (m_right_lf ⟨3, dX4_plays_98, rfl, rfl, 4, 5, rfl, Or.inl ⟨(RX4, TX4, 7), rfl, by decide, wd_288⟩⟩) (m_right_nd (m_right_lf ⟨2, dX4_plays_101, rfl, rfl, rfl⟩) (m_right_lf ⟨3, dX4_plays_103, rfl, rfl, 59, 1, 7, (yX7_menIfWon, cX7_menIfWon, 2, (some .int)), rfl, me_X7_menIfWon, mc_X7_menIfWon, Or.inl ⟨(RX7, TX7, 16), rfl, rfl⟩, wd_729, wd_562, wd_563, wd_63⟩))))) (m_right_nd (m_right_nd (m_right_nd (m_right_lf ⟨1, dX4_plays_106, rfl, rfl⟩) (m_right_nd (m_right_lf ⟨1, dX4_plays_107, rfl, rfl⟩) (m_right_lf ⟨2, dX4_plays_108, rfl, rfl, rfl⟩))) (m_right_nd (m_right_lf ⟨2, dX4_plays_110, rfl, rfl, rfl⟩) (m_right_nd (m_right_lf ⟨1, dX4_plays_112, rfl, rfl⟩) (m_right_lf ⟨1, dX4_plays_113, rfl, rfl⟩)))) (m_right_nd (m_right_nd (m_right_lf ⟨1, dX4_plays_114, rfl, rfl⟩) (m_right_nd (m_right_lf ⟨1, dX4_plays_115, rfl, rfl⟩) (m_right_lf ⟨1, dX4_plays_116, rfl, rfl, rfl⟩))) (m_right_nd (m_right_nd (m_right_lf ⟨3, dX4_plays_117, rfl, rfl, 4, 4, rfl, Or.inl ⟨(RX4, TX4, 7), rfl, by decide, wd_287⟩⟩) (m_right_lf ⟨1, dX4_plays_120, rfl, rfl, rfl⟩)) (m_right_nd (m_right_lf ⟨1, dX4_plays_121, rfl, rfl, by decide +kernel⟩) (m_right_lf ⟨1, dX4_plays_122, rfl, rfl⟩)))))) (m_right_nd (m_right_nd (m_right_nd (m_right_nd (m_right_lf ⟨1, dX4_plays_123, rfl, rfl⟩) (m_right_nd (m_right_lf ⟨1, dX4_plays_124, rfl, rfl, rfl⟩) (m_right_lf ⟨3, dX4_plays_125, rfl, rfl, 4, 5, rfl, Or.inl ⟨(RX4, TX4, 7), rfl, by decide, wd_288⟩⟩))) (m_right_nd (m_right_lf ⟨2, dX4_plays_128, rfl, rfl, rfl⟩) (m_right_nd (m_right_lf ⟨3, dX4_plays_130, rfl, rfl, 60, 1, 7, (yX7_menIfLost, cX7_menIfLost, 2, (some .int)), rfl, me_X7_menIfLost, mc_X7_menIfLost, Or.inl ⟨(RX7, TX7, 16), rfl, rfl⟩, wd_730, wd_567, wd_568, wd_63⟩) (m_right_lf ⟨1, dX4_plays_133, rfl, rfl⟩)))) (m_right_nd (m_right_nd (m_right_lf ⟨1, dX4_plays_134, rfl, rfl⟩) (m_right_nd (m_right_lf ⟨2, dX4_plays_135, rfl, rfl, rfl⟩) (m_right_lf ⟨2, dX4_plays_137, rfl, rfl, by decide +kernel⟩))) (m_right_nd (m_right_nd (m_right_lf ⟨2, dX4_plays_139, rfl, rfl, rfl⟩) (m_right_lf ⟨1, dX4_plays_141, rfl, rfl⟩)) (m_right_nd (m_right_lf ⟨1, dX4_plays_142, rfl, rfl⟩) (m_right_lf ⟨1, dX4_plays_143, rfl, rfl⟩))))) (m_right_nd (m_right_nd (m_right_nd (m_right_lf ⟨1, dX4_plays_144, rfl, rfl⟩) (m_right_nd (m_right_lf ⟨1, dX4_plays_145, rfl, rfl⟩) (m_right_lf ⟨1, dX4_plays_146, rfl, rfl, rfl⟩))) (m_right_nd (m_right_lf ⟨2, dX4_plays_147, rfl, rfl, rfl⟩) (m_right_nd (m_right_lf ⟨2, dX4_plays_149, rfl, rfl, rfl⟩) (m_right_lf ⟨1, dX4_plays_151, rfl, rfl⟩)))) (m_right_nd (m_right_nd (m_right_lf ⟨1, dX4_plays_152, rfl, rfl⟩) (m_right_nd (m_right_lf ⟨1, dX4_plays_153, rfl, rfl⟩) (m_right_lf ⟨1, dX4_plays_154, rfl, rfl, rfl⟩))) (m_right_nd (m_right_nd (m_right_lf ⟨3, dX4_plays_155, rfl, rfl, rfl, by decide +kernel⟩) (m_right_lf ⟨3, dX4_plays_158, rfl, 30, rfl, by decide⟩)) (m_right_nd (m_right_lf ⟨1, dX4_plays_161, rfl, rfl, rfl⟩) (m_right_lf ⟨1, dX4_plays_162, rfl, rfl⟩)))))))
theorem dX5_init_0 : decode cX5_init 0 = .ok (.aload_n 0, 1) := by decide +kernel
theorem dX5_init_1 : decode cX5_init 1 = .ok (.invokespecial 3, 3) := by decide +kernel
theorem dX5_init_4 : decode cX5_init 4 = .ok (.return_, 1) := by decide +kernel
set_option maxRecDepth 20000 in
theorem r_X5_init : m_Right (yX5_init, cX5_init, 1, none) q_X5_init := m_right_nd (m_right_lf ⟨1, dX5_init_0, rfl, rfl, rfl⟩) (m_right_nd (m_right_lf ⟨3, dX5_init_1, rfl, rfl, Or.inl ⟨rfl, wd_261, wd_86, wd_87⟩⟩) (m_right_lf ⟨1, dX5_init_4, rfl, rfl⟩))
theorem dX5_atBest_0 : decode cX5_atBest 0 = .ok (.aload_n 0, 1) := by decide +kernel
theorem dX5_atBest_1 : decode cX5_atBest 1 = .ok (.aload_n 1, 1) := by decide +kernel
theorem dX5_atBest_2 : decode cX5_atBest 2 = .ok (.iload_n 2, 1) := by decide +kernel
theorem dX5_atBest_3 : decode cX5_atBest 3 = .ok (.iload_n 3, 1) := by decide +kernel
theorem dX5_atBest_4 : decode cX5_atBest 4 = .ok (.invokevirtual 9, 3) := by decide +kernel
theorem dX5_atBest_7 : decode cX5_atBest 7 = .ok (.aload_n 0, 1) := by decide +kernel
theorem dX5_atBest_8 : decode cX5_atBest 8 = .ok (.aload_n 1, 1) := by decide +kernel
theorem dX5_atBest_9 : decode cX5_atBest 9 = .ok (.getfield 15, 3) := by decide +kernel
theorem dX5_atBest_12 : decode cX5_atBest 12 = .ok (.iload_n 2, 1) := by decide +kernel
theorem dX5_atBest_13 : decode cX5_atBest 13 = .ok (.iaload, 1) := by decide +kernel
theorem dX5_atBest_14 : decode cX5_atBest 14 = .ok (.aload_n 1, 1) := by decide +kernel
theorem dX5_atBest_15 : decode cX5_atBest 15 = .ok (.getfield 15, 3) := by decide +kernel
theorem dX5_atBest_18 : decode cX5_atBest 18 = .ok (.iload_n 3, 1) := by decide +kernel
theorem dX5_atBest_19 : decode cX5_atBest 19 = .ok (.iaload, 1) := by decide +kernel
theorem dX5_atBest_20 : decode cX5_atBest 20 = .ok (.aload_n 1, 1) := by decide +kernel
theorem dX5_atBest_21 : decode cX5_atBest 21 = .ok (.getfield 21, 3) := by decide +kernel
theorem dX5_atBest_24 : decode cX5_atBest 24 = .ok (.iload 4, 2) := by decide +kernel
theorem dX5_atBest_26 : decode cX5_atBest 26 = .ok (.invokestatic 25, 3) := by decide +kernel
theorem dX5_atBest_29 : decode cX5_atBest 29 = .ok (.lreturn, 1) := by decide +kernel
set_option maxRecDepth 20000 in
theorem r_X5_atBest : m_Right (yX5_atBest, cX5_atBest, 5, (some .long)) q_X5_atBest := m_right_nd (m_right_nd (m_right_nd (m_right_nd (m_right_lf ⟨1, dX5_atBest_0, rfl, rfl, rfl⟩) (m_right_lf ⟨1, dX5_atBest_1, rfl, rfl, rfl⟩)) (m_right_nd (m_right_lf ⟨1, dX5_atBest_2, rfl, rfl, rfl⟩) (m_right_lf ⟨1, dX5_atBest_3, rfl, rfl, rfl⟩))) (m_right_nd (m_right_nd (m_right_lf ⟨3, dX5_atBest_4, rfl, rfl, 35, 3, 5, (yX5_asks, cX5_asks, 4, none), rfl, me_X5_asks, mc_X5_asks, Or.inl ⟨(RX5, TX5, 3), rfl, rfl⟩, wd_670, wd_672, wd_12, wd_67⟩) (m_right_lf ⟨1, dX5_atBest_7, rfl, rfl, rfl⟩)) (m_right_nd (m_right_lf ⟨1, dX5_atBest_8, rfl, rfl, rfl⟩) (m_right_nd (m_right_lf ⟨3, dX5_atBest_9, rfl, rfl, 7, 3, rfl, Or.inl ⟨(RX7, TX7, 16), rfl, by decide, wd_103⟩⟩) (m_right_lf ⟨1, dX5_atBest_12, rfl, rfl, rfl⟩))))) (m_right_nd (m_right_nd (m_right_nd (m_right_lf ⟨1, dX5_atBest_13, rfl, rfl⟩) (m_right_lf ⟨1, dX5_atBest_14, rfl, rfl, rfl⟩)) (m_right_nd (m_right_lf ⟨3, dX5_atBest_15, rfl, rfl, 7, 3, rfl, Or.inl ⟨(RX7, TX7, 16), rfl, by decide, wd_103⟩⟩) (m_right_nd (m_right_lf ⟨1, dX5_atBest_18, rfl, rfl, rfl⟩) (m_right_lf ⟨1, dX5_atBest_19, rfl, rfl⟩)))) (m_right_nd (m_right_nd (m_right_lf ⟨1, dX5_atBest_20, rfl, rfl, rfl⟩) (m_right_lf ⟨3, dX5_atBest_21, rfl, rfl, 7, 5, rfl, Or.inl ⟨(RX7, TX7, 16), rfl, by decide, wd_111⟩⟩)) (m_right_nd (m_right_lf ⟨2, dX5_atBest_24, rfl, rfl, rfl⟩) (m_right_nd (m_right_lf ⟨3, dX5_atBest_26, rfl, rfl, Or.inr (Or.inr ⟨36, 5, (yX5_best, cX5_best, 10, (some .long)), rfl, me_X5_best, mc_X5_best, wd_674, wd_675, wd_67⟩)⟩) (m_right_lf ⟨1, dX5_atBest_29, rfl, rfl⟩)))))
theorem dX5_losesFirst_0 : decode cX5_losesFirst 0 = .ok (.iload 4, 2) := by decide +kernel
theorem dX5_losesFirst_2 : decode cX5_losesFirst 2 = .ok (.iconst 2, 1) := by decide +kernel
theorem dX5_losesFirst_3 : decode cX5_losesFirst 3 = .ok (.if_icmp .ge 5, 3) := by decide +kernel
theorem dX5_losesFirst_6 : decode cX5_losesFirst 6 = .ok (.iconst 0, 1) := by decide +kernel
theorem dX5_losesFirst_7 : decode cX5_losesFirst 7 = .ok (.ireturn, 1) := by decide +kernel
theorem dX5_losesFirst_8 : decode cX5_losesFirst 8 = .ok (.aload_n 0, 1) := by decide +kernel
theorem dX5_losesFirst_9 : decode cX5_losesFirst 9 = .ok (.aload_n 1, 1) := by decide +kernel
theorem dX5_losesFirst_10 : decode cX5_losesFirst 10 = .ok (.iload_n 2, 1) := by decide +kernel
theorem dX5_losesFirst_11 : decode cX5_losesFirst 11 = .ok (.iload_n 3, 1) := by decide +kernel
theorem dX5_losesFirst_12 : decode cX5_losesFirst 12 = .ok (.invokevirtual 9, 3) := by decide +kernel
theorem dX5_losesFirst_15 : decode cX5_losesFirst 15 = .ok (.aload_n 1, 1) := by decide +kernel
theorem dX5_losesFirst_16 : decode cX5_losesFirst 16 = .ok (.getfield 15, 3) := by decide +kernel
theorem dX5_losesFirst_19 : decode cX5_losesFirst 19 = .ok (.iload_n 2, 1) := by decide +kernel
theorem dX5_losesFirst_20 : decode cX5_losesFirst 20 = .ok (.iaload, 1) := by decide +kernel
theorem dX5_losesFirst_21 : decode cX5_losesFirst 21 = .ok (.istore 5, 2) := by decide +kernel
theorem dX5_losesFirst_23 : decode cX5_losesFirst 23 = .ok (.aload_n 1, 1) := by decide +kernel
theorem dX5_losesFirst_24 : decode cX5_losesFirst 24 = .ok (.getfield 15, 3) := by decide +kernel
theorem dX5_losesFirst_27 : decode cX5_losesFirst 27 = .ok (.iload_n 3, 1) := by decide +kernel
theorem dX5_losesFirst_28 : decode cX5_losesFirst 28 = .ok (.iaload, 1) := by decide +kernel
theorem dX5_losesFirst_29 : decode cX5_losesFirst 29 = .ok (.istore 6, 2) := by decide +kernel
theorem dX5_losesFirst_31 : decode cX5_losesFirst 31 = .ok (.aload_n 0, 1) := by decide +kernel
theorem dX5_losesFirst_32 : decode cX5_losesFirst 32 = .ok (.iload 5, 2) := by decide +kernel
theorem dX5_losesFirst_34 : decode cX5_losesFirst 34 = .ok (.iload 6, 2) := by decide +kernel
theorem dX5_losesFirst_36 : decode cX5_losesFirst 36 = .ok (.aload_n 1, 1) := by decide +kernel
theorem dX5_losesFirst_37 : decode cX5_losesFirst 37 = .ok (.getfield 21, 3) := by decide +kernel
theorem dX5_losesFirst_40 : decode cX5_losesFirst 40 = .ok (.iload 4, 2) := by decide +kernel
theorem dX5_losesFirst_42 : decode cX5_losesFirst 42 = .ok (.invokestatic 29, 3) := by decide +kernel
theorem dX5_losesFirst_45 : decode cX5_losesFirst 45 = .ok (.aload_n 0, 1) := by decide +kernel
theorem dX5_losesFirst_46 : decode cX5_losesFirst 46 = .ok (.iload 5, 2) := by decide +kernel
theorem dX5_losesFirst_48 : decode cX5_losesFirst 48 = .ok (.iload 6, 2) := by decide +kernel
theorem dX5_losesFirst_50 : decode cX5_losesFirst 50 = .ok (.aload_n 1, 1) := by decide +kernel
theorem dX5_losesFirst_51 : decode cX5_losesFirst 51 = .ok (.getfield 21, 3) := by decide +kernel
theorem dX5_losesFirst_54 : decode cX5_losesFirst 54 = .ok (.iload 4, 2) := by decide +kernel
theorem dX5_losesFirst_56 : decode cX5_losesFirst 56 = .ok (.invokestatic 32, 3) := by decide +kernel
theorem dX5_losesFirst_59 : decode cX5_losesFirst 59 = .ok (.lcmp, 1) := by decide +kernel
theorem dX5_losesFirst_60 : decode cX5_losesFirst 60 = .ok (.ifCond .le 7, 3) := by decide +kernel
theorem dX5_losesFirst_63 : decode cX5_losesFirst 63 = .ok (.iconst 1, 1) := by decide +kernel
theorem dX5_losesFirst_64 : decode cX5_losesFirst 64 = .ok (.goto 4, 3) := by decide +kernel
theorem dX5_losesFirst_67 : decode cX5_losesFirst 67 = .ok (.iconst 0, 1) := by decide +kernel
theorem dX5_losesFirst_68 : decode cX5_losesFirst 68 = .ok (.ireturn, 1) := by decide +kernel
set_option maxRecDepth 20000 in
theorem r_X5_losesFirst : m_Right (yX5_losesFirst, cX5_losesFirst, 7, (some .boolean)) q_X5_losesFirst := m_right_nd (m_right_nd (m_right_nd (m_right_nd (m_right_nd (m_right_lf ⟨2, dX5_losesFirst_0, rfl, rfl, rfl⟩) (m_right_lf ⟨1, dX5_losesFirst_2, rfl, rfl, by decide +kernel⟩)) (m_right_nd (m_right_lf ⟨3, dX5_losesFirst_3, rfl, rfl, 8, rfl, by decide⟩) (m_right_nd (m_right_lf ⟨1, dX5_losesFirst_6, rfl, rfl, by decide +kernel⟩) (m_right_lf ⟨1, dX5_losesFirst_7, rfl, 1, .boolean, rfl, rfl, Or.inr (Or.inl ⟨rfl, rfl⟩)⟩)))) (m_right_nd (m_right_nd (m_right_lf ⟨1, dX5_losesFirst_8, rfl, rfl, rfl⟩) (m_right_lf ⟨1, dX5_losesFirst_9, rfl, rfl, rfl⟩)) (m_right_nd (m_right_lf ⟨1, dX5_losesFirst_10, rfl, rfl, rfl⟩) (m_right_nd (m_right_lf ⟨1, dX5_losesFirst_11, rfl, rfl, rfl⟩) (m_right_lf ⟨3, dX5_losesFirst_12, rfl, rfl, 35, 3, 5, (yX5_asks, cX5_asks, 4, none), rfl, me_X5_asks, mc_X5_asks, Or.inl ⟨(RX5, TX5, 3), rfl, rfl⟩, wd_670, wd_672, wd_12, wd_67⟩))))) (m_right_nd (m_right_nd (m_right_nd (m_right_lf ⟨1, dX5_losesFirst_15, rfl, rfl, rfl⟩) (m_right_lf ⟨3, dX5_losesFirst_16, rfl, rfl, 7, 3, rfl, Or.inl ⟨(RX7, TX7, 16), rfl, by decide, wd_103⟩⟩)) (m_right_nd (m_right_lf ⟨1, dX5_losesFirst_19, rfl, rfl, rfl⟩) (m_right_nd (m_right_lf ⟨1, dX5_losesFirst_20, rfl, rfl⟩) (m_right_lf ⟨2, dX5_losesFirst_21, rfl, rfl, rfl⟩)))) (m_right_nd (m_right_nd (m_right_lf ⟨1, dX5_losesFirst_23, rfl, rfl, rfl⟩) (m_right_lf ⟨3, dX5_losesFirst_24, rfl, rfl, 7, 3, rfl, Or.inl ⟨(RX7, TX7, 16), rfl, by decide, wd_103⟩⟩)) (m_right_nd (m_right_lf ⟨1, dX5_losesFirst_27, rfl, rfl, rfl⟩) (m_right_nd (m_right_lf ⟨1, dX5_losesFirst_28, rfl, rfl⟩) (m_right_lf ⟨2, dX5_losesFirst_29, rfl, rfl, rfl⟩)))))) (m_right_nd (m_right_nd (m_right_nd (m_right_nd (m_right_lf ⟨1, dX5_losesFirst_31, rfl, rfl, rfl⟩) (m_right_lf ⟨2, dX5_losesFirst_32, rfl, rfl, rfl⟩)) (m_right_nd (m_right_lf ⟨2, dX5_losesFirst_34, rfl, rfl, rfl⟩) (m_right_nd (m_right_lf ⟨1, dX5_losesFirst_36, rfl, rfl, rfl⟩) (m_right_lf ⟨3, dX5_losesFirst_37, rfl, rfl, 7, 5, rfl, Or.inl ⟨(RX7, TX7, 16), rfl, by decide, wd_111⟩⟩)))) (m_right_nd (m_right_nd (m_right_lf ⟨2, dX5_losesFirst_40, rfl, rfl, rfl⟩) (m_right_lf ⟨3, dX5_losesFirst_42, rfl, rfl, Or.inr (Or.inr ⟨38, 5, (yX5_ifLost, cX5_ifLost, 5, (some .long)), rfl, me_X5_ifLost, mc_X5_ifLost, wd_683, wd_684, wd_67⟩)⟩)) (m_right_nd (m_right_lf ⟨1, dX5_losesFirst_45, rfl, rfl, rfl⟩) (m_right_nd (m_right_lf ⟨2, dX5_losesFirst_46, rfl, rfl, rfl⟩) (m_right_lf ⟨2, dX5_losesFirst_48, rfl, rfl, rfl⟩))))) (m_right_nd (m_right_nd (m_right_nd (m_right_lf ⟨1, dX5_losesFirst_50, rfl, rfl, rfl⟩) (m_right_lf ⟨3, dX5_losesFirst_51, rfl, rfl, 7, 5, rfl, Or.inl ⟨(RX7, TX7, 16), rfl, by decide, wd_111⟩⟩)) (m_right_nd (m_right_lf ⟨2, dX5_losesFirst_54, rfl, rfl, rfl⟩) (m_right_nd (m_right_lf ⟨3, dX5_losesFirst_56, rfl, rfl, Or.inr (Or.inr ⟨37, 5, (yX5_ifWon, cX5_ifWon, 5, (some .long)), rfl, me_X5_ifWon, mc_X5_ifWon, wd_678, wd_679, wd_67⟩)⟩) (m_right_lf ⟨1, dX5_losesFirst_59, rfl, rfl⟩)))) (m_right_nd (m_right_nd (m_right_lf ⟨3, dX5_losesFirst_60, rfl, rfl, 67, rfl, by decide⟩) (m_right_lf ⟨1, dX5_losesFirst_63, rfl, rfl, by decide +kernel⟩)) (m_right_nd (m_right_lf ⟨3, dX5_losesFirst_64, rfl, 68, rfl, by decide⟩) (m_right_nd (m_right_lf ⟨1, dX5_losesFirst_67, rfl, rfl, by decide +kernel⟩) (m_right_lf ⟨1, dX5_losesFirst_68, rfl, 1, .boolean, rfl, rfl, Or.inr (Or.inl ⟨rfl, rfl⟩)⟩))))))
theorem dX5_asks_0 : decode cX5_asks 0 = .ok (.aload_n 0, 1) := by decide +kernel
theorem dX5_asks_1 : decode cX5_asks 1 = .ok (.aload_n 1, 1) := by decide +kernel
theorem dX5_asks_2 : decode cX5_asks 2 = .ok (.putfield 35, 3) := by decide +kernel
theorem dX5_asks_5 : decode cX5_asks 5 = .ok (.aload_n 0, 1) := by decide +kernel
theorem dX5_asks_6 : decode cX5_asks 6 = .ok (.iload_n 2, 1) := by decide +kernel
theorem dX5_asks_7 : decode cX5_asks 7 = .ok (.putfield 39, 3) := by decide +kernel
theorem dX5_asks_10 : decode cX5_asks 10 = .ok (.aload_n 0, 1) := by decide +kernel
theorem dX5_asks_11 : decode cX5_asks 11 = .ok (.iload_n 3, 1) := by decide +kernel
theorem dX5_asks_12 : decode cX5_asks 12 = .ok (.putfield 42, 3) := by decide +kernel
theorem dX5_asks_15 : decode cX5_asks 15 = .ok (.return_, 1) := by decide +kernel
set_option maxRecDepth 20000 in
theorem r_X5_asks : m_Right (yX5_asks, cX5_asks, 4, none) q_X5_asks := m_right_nd (m_right_nd (m_right_nd (m_right_lf ⟨1, dX5_asks_0, rfl, rfl, rfl⟩) (m_right_lf ⟨1, dX5_asks_1, rfl, rfl, rfl⟩)) (m_right_nd (m_right_lf ⟨3, dX5_asks_2, rfl, rfl, 5, 0, 3, (RX5, TX5, 3), rfl, rfl, by decide, wd_262, Or.inl rfl, tyX5 0, tyX5_ok 0 (by decide), Or.inr (Or.inr (Or.inr ⟨rfl, Or.inl ⟨_, rfl⟩⟩))⟩) (m_right_nd (m_right_lf ⟨1, dX5_asks_5, rfl, rfl, rfl⟩) (m_right_lf ⟨1, dX5_asks_6, rfl, rfl, rfl⟩)))) (m_right_nd (m_right_nd (m_right_lf ⟨3, dX5_asks_7, rfl, rfl, 5, 1, 0, (RX5, TX5, 3), rfl, rfl, by decide, wd_263, Or.inl rfl, tyX5 1, tyX5_ok 1 (by decide), Or.inl ⟨rfl, rfl⟩⟩) (m_right_lf ⟨1, dX5_asks_10, rfl, rfl, rfl⟩)) (m_right_nd (m_right_lf ⟨1, dX5_asks_11, rfl, rfl, rfl⟩) (m_right_nd (m_right_lf ⟨3, dX5_asks_12, rfl, rfl, 5, 2, 0, (RX5, TX5, 3), rfl, rfl, by decide, wd_264, Or.inl rfl, tyX5 2, tyX5_ok 2 (by decide), Or.inl ⟨rfl, rfl⟩⟩) (m_right_lf ⟨1, dX5_asks_15, rfl, rfl⟩))))
theorem dX5_best_0 : decode cX5_best 0 = .ok (.aload_n 0, 1) := by decide +kernel
theorem dX5_best_1 : decode cX5_best 1 = .ok (.getfield 35, 3) := by decide +kernel
theorem dX5_best_4 : decode cX5_best 4 = .ok (.aload_n 0, 1) := by decide +kernel
theorem dX5_best_5 : decode cX5_best 5 = .ok (.getfield 39, 3) := by decide +kernel
theorem dX5_best_8 : decode cX5_best 8 = .ok (.aload_n 0, 1) := by decide +kernel
theorem dX5_best_9 : decode cX5_best 9 = .ok (.getfield 42, 3) := by decide +kernel
theorem dX5_best_12 : decode cX5_best 12 = .ok (.iload_n 1, 1) := by decide +kernel
theorem dX5_best_13 : decode cX5_best 13 = .ok (.iload_n 2, 1) := by decide +kernel
theorem dX5_best_14 : decode cX5_best 14 = .ok (.iload_n 3, 1) := by decide +kernel
theorem dX5_best_15 : decode cX5_best 15 = .ok (.invokevirtual 45, 3) := by decide +kernel
theorem dX5_best_18 : decode cX5_best 18 = .ok (.istore 5, 2) := by decide +kernel
theorem dX5_best_20 : decode cX5_best 20 = .ok (.iload 4, 2) := by decide +kernel
theorem dX5_best_22 : decode cX5_best 22 = .ok (.iconst 1, 1) := by decide +kernel
theorem dX5_best_23 : decode cX5_best 23 = .ok (.if_icmp .gt 7, 3) := by decide +kernel
theorem dX5_best_26 : decode cX5_best 26 = .ok (.iload 5, 2) := by decide +kernel
theorem dX5_best_28 : decode cX5_best 28 = .ok (.i2l, 1) := by decide +kernel
theorem dX5_best_29 : decode cX5_best 29 = .ok (.lreturn, 1) := by decide +kernel
theorem dX5_best_30 : decode cX5_best 30 = .ok (.aload_n 0, 1) := by decide +kernel
theorem dX5_best_31 : decode cX5_best 31 = .ok (.iload_n 1, 1) := by decide +kernel
theorem dX5_best_32 : decode cX5_best 32 = .ok (.iload_n 2, 1) := by decide +kernel
theorem dX5_best_33 : decode cX5_best 33 = .ok (.iload_n 3, 1) := by decide +kernel
theorem dX5_best_34 : decode cX5_best 34 = .ok (.iload 4, 2) := by decide +kernel
theorem dX5_best_36 : decode cX5_best 36 = .ok (.invokestatic 32, 3) := by decide +kernel
theorem dX5_best_39 : decode cX5_best 39 = .ok (.lstore 6, 2) := by decide +kernel
theorem dX5_best_41 : decode cX5_best 41 = .ok (.aload_n 0, 1) := by decide +kernel
theorem dX5_best_42 : decode cX5_best 42 = .ok (.iload_n 1, 1) := by decide +kernel
theorem dX5_best_43 : decode cX5_best 43 = .ok (.iload_n 2, 1) := by decide +kernel
theorem dX5_best_44 : decode cX5_best 44 = .ok (.iload_n 3, 1) := by decide +kernel
theorem dX5_best_45 : decode cX5_best 45 = .ok (.iload 4, 2) := by decide +kernel
theorem dX5_best_47 : decode cX5_best 47 = .ok (.invokestatic 29, 3) := by decide +kernel
theorem dX5_best_50 : decode cX5_best 50 = .ok (.lstore 8, 2) := by decide +kernel
theorem dX5_best_52 : decode cX5_best 52 = .ok (.ldc2_w 49, 3) := by decide +kernel
theorem dX5_best_55 : decode cX5_best 55 = .ok (.lload 8, 2) := by decide +kernel
theorem dX5_best_57 : decode cX5_best 57 = .ok (.lmul, 1) := by decide +kernel
theorem dX5_best_58 : decode cX5_best 58 = .ok (.iload 5, 2) := by decide +kernel
theorem dX5_best_60 : decode cX5_best 60 = .ok (.i2l, 1) := by decide +kernel
theorem dX5_best_61 : decode cX5_best 61 = .ok (.lload 6, 2) := by decide +kernel
theorem dX5_best_63 : decode cX5_best 63 = .ok (.lmul, 1) := by decide +kernel
theorem dX5_best_64 : decode cX5_best 64 = .ok (.bipush 10, 2) := by decide +kernel
theorem dX5_best_66 : decode cX5_best 66 = .ok (.iload 5, 2) := by decide +kernel
theorem dX5_best_68 : decode cX5_best 68 = .ok (.isub, 1) := by decide +kernel
theorem dX5_best_69 : decode cX5_best 69 = .ok (.i2l, 1) := by decide +kernel
theorem dX5_best_70 : decode cX5_best 70 = .ok (.lload 8, 2) := by decide +kernel
theorem dX5_best_72 : decode cX5_best 72 = .ok (.lmul, 1) := by decide +kernel
theorem dX5_best_73 : decode cX5_best 73 = .ok (.ladd, 1) := by decide +kernel
theorem dX5_best_74 : decode cX5_best 74 = .ok (.invokestatic 51, 3) := by decide +kernel
theorem dX5_best_77 : decode cX5_best 77 = .ok (.lreturn, 1) := by decide +kernel
set_option maxRecDepth 20000 in
theorem r_X5_best : m_Right (yX5_best, cX5_best, 10, (some .long)) q_X5_best := m_right_nd (m_right_nd (m_right_nd (m_right_nd (m_right_nd (m_right_lf ⟨1, dX5_best_0, rfl, rfl, rfl⟩) (m_right_lf ⟨3, dX5_best_1, rfl, rfl, 5, 0, rfl, Or.inl ⟨(RX5, TX5, 3), rfl, by decide, wd_262⟩⟩)) (m_right_nd (m_right_lf ⟨1, dX5_best_4, rfl, rfl, rfl⟩) (m_right_nd (m_right_lf ⟨3, dX5_best_5, rfl, rfl, 5, 1, rfl, Or.inl ⟨(RX5, TX5, 3), rfl, by decide, wd_263⟩⟩) (m_right_lf ⟨1, dX5_best_8, rfl, rfl, rfl⟩)))) (m_right_nd (m_right_nd (m_right_lf ⟨3, dX5_best_9, rfl, rfl, 5, 2, rfl, Or.inl ⟨(RX5, TX5, 3), rfl, by decide, wd_264⟩⟩) (m_right_nd (m_right_lf ⟨1, dX5_best_12, rfl, rfl, rfl⟩) (m_right_lf ⟨1, dX5_best_13, rfl, rfl, rfl⟩))) (m_right_nd (m_right_lf ⟨1, dX5_best_14, rfl, rfl, rfl⟩) (m_right_nd (m_right_lf ⟨3, dX5_best_15, rfl, rfl, 65, 5, 7, (yX7_oddsOf, cX7_oddsOf, 7, (some .int)), rfl, me_X7_oddsOf, mc_X7_oddsOf, Or.inl ⟨(RX7, TX7, 16), rfl, rfl⟩, wd_677, wd_545, wd_546, wd_63⟩) (m_right_lf ⟨2, dX5_best_18, rfl, rfl, rfl⟩))))) (m_right_nd (m_right_nd (m_right_nd (m_right_lf ⟨2, dX5_best_20, rfl, rfl, rfl⟩) (m_right_nd (m_right_lf ⟨1, dX5_best_22, rfl, rfl, by decide +kernel⟩) (m_right_lf ⟨3, dX5_best_23, rfl, rfl, 30, rfl, by decide⟩))) (m_right_nd (m_right_lf ⟨2, dX5_best_26, rfl, rfl, rfl⟩) (m_right_nd (m_right_lf ⟨1, dX5_best_28, rfl, rfl⟩) (m_right_lf ⟨1, dX5_best_29, rfl, rfl⟩)))) (m_right_nd (m_right_nd (m_right_lf ⟨1, dX5_best_30, rfl, rfl, rfl⟩) (m_right_nd (m_right_lf ⟨1, dX5_best_31, rfl, rfl, rfl⟩) (m_right_lf ⟨1, dX5_best_32, rfl, rfl, rfl⟩))) (m_right_nd (m_right_lf ⟨1, dX5_best_33, rfl, rfl, rfl⟩) (m_right_nd (m_right_lf ⟨2, dX5_best_34, rfl, rfl, rfl⟩) (m_right_lf ⟨3, dX5_best_36, rfl, rfl, Or.inr (Or.inr ⟨37, 5, (yX5_ifWon, cX5_ifWon, 5, (some .long)), rfl, me_X5_ifWon, mc_X5_ifWon, wd_678, wd_679, wd_67⟩)⟩)))))) (m_right_nd (m_right_nd (m_right_nd (m_right_nd (m_right_lf ⟨2, dX5_best_39, rfl, rfl, rfl⟩) (m_right_nd (m_right_lf ⟨1, dX5_best_41, rfl, rfl, rfl⟩) (m_right_lf ⟨1, dX5_best_42, rfl, rfl, rfl⟩))) (m_right_nd (m_right_lf ⟨1, dX5_best_43, rfl, rfl, rfl⟩) (m_right_nd (m_right_lf ⟨1, dX5_best_44, rfl, rfl, rfl⟩) (m_right_lf ⟨2, dX5_best_45, rfl, rfl, rfl⟩)))) (m_right_nd (m_right_nd (m_right_lf ⟨3, dX5_best_47, rfl, rfl, Or.inr (Or.inr ⟨38, 5, (yX5_ifLost, cX5_ifLost, 5, (some .long)), rfl, me_X5_ifLost, mc_X5_ifLost, wd_683, wd_684, wd_67⟩)⟩) (m_right_nd (m_right_lf ⟨2, dX5_best_50, rfl, rfl, rfl⟩) (m_right_lf ⟨3, dX5_best_52, rfl, rfl, _, rfl, wd_686⟩))) (m_right_nd (m_right_lf ⟨2, dX5_best_55, rfl, rfl, rfl⟩) (m_right_nd (m_right_lf ⟨1, dX5_best_57, rfl, rfl⟩) (m_right_lf ⟨2, dX5_best_58, rfl, rfl, rfl⟩))))) (m_right_nd (m_right_nd (m_right_nd (m_right_lf ⟨1, dX5_best_60, rfl, rfl⟩) (m_right_nd (m_right_lf ⟨2, dX5_best_61, rfl, rfl, rfl⟩) (m_right_lf ⟨1, dX5_best_63, rfl, rfl⟩))) (m_right_nd (m_right_lf ⟨2, dX5_best_64, rfl, rfl, by decide +kernel⟩) (m_right_nd (m_right_lf ⟨2, dX5_best_66, rfl, rfl, rfl⟩) (m_right_lf ⟨1, dX5_best_68, rfl, rfl⟩)))) (m_right_nd (m_right_nd (m_right_lf ⟨1, dX5_best_69, rfl, rfl⟩) (m_right_nd (m_right_lf ⟨2, dX5_best_70, rfl, rfl, rfl⟩) (m_right_lf ⟨1, dX5_best_72, rfl, rfl⟩))) (m_right_nd (m_right_lf ⟨1, dX5_best_73, rfl, rfl⟩) (m_right_nd (m_right_lf ⟨3, dX5_best_74, rfl, rfl, Or.inl ⟨_, rfl, wd_72, Or.inr (Or.inr (Or.inr (Or.inr (⟨rfl, wm_687, wm_688, wm_689⟩))))⟩⟩) (m_right_lf ⟨1, dX5_best_77, rfl, rfl⟩))))))
theorem dX5_ifWon_0 : decode cX5_ifWon 0 = .ok (.aload_n 0, 1) := by decide +kernel
theorem dX5_ifWon_1 : decode cX5_ifWon 1 = .ok (.aload_n 0, 1) := by decide +kernel
theorem dX5_ifWon_2 : decode cX5_ifWon 2 = .ok (.getfield 35, 3) := by decide +kernel
theorem dX5_ifWon_5 : decode cX5_ifWon 5 = .ok (.iload_n 1, 1) := by decide +kernel
theorem dX5_ifWon_6 : decode cX5_ifWon 6 = .ok (.invokevirtual 57, 3) := by decide +kernel
theorem dX5_ifWon_9 : decode cX5_ifWon 9 = .ok (.aload_n 0, 1) := by decide +kernel
theorem dX5_ifWon_10 : decode cX5_ifWon 10 = .ok (.getfield 35, 3) := by decide +kernel
theorem dX5_ifWon_13 : decode cX5_ifWon 13 = .ok (.iload_n 2, 1) := by decide +kernel
theorem dX5_ifWon_14 : decode cX5_ifWon 14 = .ok (.invokevirtual 61, 3) := by decide +kernel
theorem dX5_ifWon_17 : decode cX5_ifWon 17 = .ok (.iload_n 3, 1) := by decide +kernel
theorem dX5_ifWon_18 : decode cX5_ifWon 18 = .ok (.iconst 1, 1) := by decide +kernel
theorem dX5_ifWon_19 : decode cX5_ifWon 19 = .ok (.iadd, 1) := by decide +kernel
theorem dX5_ifWon_20 : decode cX5_ifWon 20 = .ok (.iload 4, 2) := by decide +kernel
theorem dX5_ifWon_22 : decode cX5_ifWon 22 = .ok (.iconst 1, 1) := by decide +kernel
theorem dX5_ifWon_23 : decode cX5_ifWon 23 = .ok (.isub, 1) := by decide +kernel
theorem dX5_ifWon_24 : decode cX5_ifWon 24 = .ok (.invokestatic 25, 3) := by decide +kernel
theorem dX5_ifWon_27 : decode cX5_ifWon 27 = .ok (.lreturn, 1) := by decide +kernel
set_option maxRecDepth 20000 in
theorem r_X5_ifWon : m_Right (yX5_ifWon, cX5_ifWon, 5, (some .long)) q_X5_ifWon := m_right_nd (m_right_nd (m_right_nd (m_right_nd (m_right_lf ⟨1, dX5_ifWon_0, rfl, rfl, rfl⟩) (m_right_lf ⟨1, dX5_ifWon_1, rfl, rfl, rfl⟩)) (m_right_nd (m_right_lf ⟨3, dX5_ifWon_2, rfl, rfl, 5, 0, rfl, Or.inl ⟨(RX5, TX5, 3), rfl, by decide, wd_262⟩⟩) (m_right_lf ⟨1, dX5_ifWon_5, rfl, rfl, rfl⟩))) (m_right_nd (m_right_nd (m_right_lf ⟨3, dX5_ifWon_6, rfl, rfl, 59, 1, 7, (yX7_menIfWon, cX7_menIfWon, 2, (some .int)), rfl, me_X7_menIfWon, mc_X7_menIfWon, Or.inl ⟨(RX7, TX7, 16), rfl, rfl⟩, wd_681, wd_562, wd_563, wd_63⟩) (m_right_lf ⟨1, dX5_ifWon_9, rfl, rfl, rfl⟩)) (m_right_nd (m_right_lf ⟨3, dX5_ifWon_10, rfl, rfl, 5, 0, rfl, Or.inl ⟨(RX5, TX5, 3), rfl, by decide, wd_262⟩⟩) (m_right_lf ⟨1, dX5_ifWon_13, rfl, rfl, rfl⟩)))) (m_right_nd (m_right_nd (m_right_nd (m_right_lf ⟨3, dX5_ifWon_14, rfl, rfl, 60, 1, 7, (yX7_menIfLost, cX7_menIfLost, 2, (some .int)), rfl, me_X7_menIfLost, mc_X7_menIfLost, Or.inl ⟨(RX7, TX7, 16), rfl, rfl⟩, wd_682, wd_567, wd_568, wd_63⟩) (m_right_lf ⟨1, dX5_ifWon_17, rfl, rfl, rfl⟩)) (m_right_nd (m_right_lf ⟨1, dX5_ifWon_18, rfl, rfl, by decide +kernel⟩) (m_right_lf ⟨1, dX5_ifWon_19, rfl, rfl⟩))) (m_right_nd (m_right_nd (m_right_lf ⟨2, dX5_ifWon_20, rfl, rfl, rfl⟩) (m_right_lf ⟨1, dX5_ifWon_22, rfl, rfl, by decide +kernel⟩)) (m_right_nd (m_right_lf ⟨1, dX5_ifWon_23, rfl, rfl⟩) (m_right_nd (m_right_lf ⟨3, dX5_ifWon_24, rfl, rfl, Or.inr (Or.inr ⟨36, 5, (yX5_best, cX5_best, 10, (some .long)), rfl, me_X5_best, mc_X5_best, wd_674, wd_675, wd_67⟩)⟩) (m_right_lf ⟨1, dX5_ifWon_27, rfl, rfl⟩)))))
theorem dX5_ifLost_0 : decode cX5_ifLost 0 = .ok (.aload_n 0, 1) := by decide +kernel
theorem dX5_ifLost_1 : decode cX5_ifLost 1 = .ok (.aload_n 0, 1) := by decide +kernel
theorem dX5_ifLost_2 : decode cX5_ifLost 2 = .ok (.getfield 35, 3) := by decide +kernel
theorem dX5_ifLost_5 : decode cX5_ifLost 5 = .ok (.iload_n 1, 1) := by decide +kernel
theorem dX5_ifLost_6 : decode cX5_ifLost 6 = .ok (.invokevirtual 61, 3) := by decide +kernel
theorem dX5_ifLost_9 : decode cX5_ifLost 9 = .ok (.aload_n 0, 1) := by decide +kernel
theorem dX5_ifLost_10 : decode cX5_ifLost 10 = .ok (.getfield 35, 3) := by decide +kernel
theorem dX5_ifLost_13 : decode cX5_ifLost 13 = .ok (.iload_n 2, 1) := by decide +kernel
theorem dX5_ifLost_14 : decode cX5_ifLost 14 = .ok (.invokevirtual 57, 3) := by decide +kernel
theorem dX5_ifLost_17 : decode cX5_ifLost 17 = .ok (.iload_n 3, 1) := by decide +kernel
theorem dX5_ifLost_18 : decode cX5_ifLost 18 = .ok (.iconst 1, 1) := by decide +kernel
theorem dX5_ifLost_19 : decode cX5_ifLost 19 = .ok (.iadd, 1) := by decide +kernel
theorem dX5_ifLost_20 : decode cX5_ifLost 20 = .ok (.iload 4, 2) := by decide +kernel
theorem dX5_ifLost_22 : decode cX5_ifLost 22 = .ok (.iconst 1, 1) := by decide +kernel
theorem dX5_ifLost_23 : decode cX5_ifLost 23 = .ok (.isub, 1) := by decide +kernel
theorem dX5_ifLost_24 : decode cX5_ifLost 24 = .ok (.invokestatic 25, 3) := by decide +kernel
theorem dX5_ifLost_27 : decode cX5_ifLost 27 = .ok (.lreturn, 1) := by decide +kernel
set_option maxRecDepth 20000 in
theorem r_X5_ifLost : m_Right (yX5_ifLost, cX5_ifLost, 5, (some .long)) q_X5_ifLost := m_right_nd (m_right_nd (m_right_nd (m_right_nd (m_right_lf ⟨1, dX5_ifLost_0, rfl, rfl, rfl⟩) (m_right_lf ⟨1, dX5_ifLost_1, rfl, rfl, rfl⟩)) (m_right_nd (m_right_lf ⟨3, dX5_ifLost_2, rfl, rfl, 5, 0, rfl, Or.inl ⟨(RX5, TX5, 3), rfl, by decide, wd_262⟩⟩) (m_right_lf ⟨1, dX5_ifLost_5, rfl, rfl, rfl⟩))) (m_right_nd (m_right_nd (m_right_lf ⟨3, dX5_ifLost_6, rfl, rfl, 60, 1, 7, (yX7_menIfLost, cX7_menIfLost, 2, (some .int)), rfl, me_X7_menIfLost, mc_X7_menIfLost, Or.inl ⟨(RX7, TX7, 16), rfl, rfl⟩, wd_682, wd_567, wd_568, wd_63⟩) (m_right_lf ⟨1, dX5_ifLost_9, rfl, rfl, rfl⟩)) (m_right_nd (m_right_lf ⟨3, dX5_ifLost_10, rfl, rfl, 5, 0, rfl, Or.inl ⟨(RX5, TX5, 3), rfl, by decide, wd_262⟩⟩) (m_right_lf ⟨1, dX5_ifLost_13, rfl, rfl, rfl⟩)))) (m_right_nd (m_right_nd (m_right_nd (m_right_lf ⟨3, dX5_ifLost_14, rfl, rfl, 59, 1, 7, (yX7_menIfWon, cX7_menIfWon, 2, (some .int)), rfl, me_X7_menIfWon, mc_X7_menIfWon, Or.inl ⟨(RX7, TX7, 16), rfl, rfl⟩, wd_681, wd_562, wd_563, wd_63⟩) (m_right_lf ⟨1, dX5_ifLost_17, rfl, rfl, rfl⟩)) (m_right_nd (m_right_lf ⟨1, dX5_ifLost_18, rfl, rfl, by decide +kernel⟩) (m_right_lf ⟨1, dX5_ifLost_19, rfl, rfl⟩))) (m_right_nd (m_right_nd (m_right_lf ⟨2, dX5_ifLost_20, rfl, rfl, rfl⟩) (m_right_lf ⟨1, dX5_ifLost_22, rfl, rfl, by decide +kernel⟩)) (m_right_nd (m_right_lf ⟨1, dX5_ifLost_23, rfl, rfl⟩) (m_right_nd (m_right_lf ⟨3, dX5_ifLost_24, rfl, rfl, Or.inr (Or.inr ⟨36, 5, (yX5_best, cX5_best, 10, (some .long)), rfl, me_X5_best, mc_X5_best, wd_674, wd_675, wd_67⟩)⟩) (m_right_lf ⟨1, dX5_ifLost_27, rfl, rfl⟩)))))
theorem dX6_init_0 : decode cX6_init 0 = .ok (.aload_n 0, 1) := by decide +kernel
theorem dX6_init_1 : decode cX6_init 1 = .ok (.invokespecial 3, 3) := by decide +kernel
theorem dX6_init_4 : decode cX6_init 4 = .ok (.aload_n 0, 1) := by decide +kernel
theorem dX6_init_5 : decode cX6_init 5 = .ok (.bipush 100, 2) := by decide +kernel
theorem dX6_init_7 : decode cX6_init 7 = .ok (.newarray .int, 2) := by decide +kernel
theorem dX6_init_9 : decode cX6_init 9 = .ok (.putfield 9, 3) := by decide +kernel
theorem dX6_init_12 : decode cX6_init 12 = .ok (.return_, 1) := by decide +kernel
set_option maxRecDepth 20000 in
theorem r_X6_init : m_Right (yX6_init, cX6_init, 1, none) q_X6_init := m_right_nd (m_right_nd (m_right_lf ⟨1, dX6_init_0, rfl, rfl, rfl⟩) (m_right_nd (m_right_lf ⟨3, dX6_init_1, rfl, rfl, Or.inl ⟨rfl, wd_174, wd_86, wd_87⟩⟩) (m_right_lf ⟨1, dX6_init_4, rfl, rfl, rfl⟩))) (m_right_nd (m_right_nd (m_right_lf ⟨2, dX6_init_5, rfl, rfl, by decide +kernel⟩) (m_right_lf ⟨2, dX6_init_7, rfl, rfl, Or.inl ⟨rfl, rfl⟩, wd_168⟩)) (m_right_nd (m_right_lf ⟨3, dX6_init_9, rfl, rfl, 6, 3, 3, (RX6, TX6, 7), rfl, rfl, by decide, wd_181, Or.inr ⟨rfl, rfl, rfl⟩, tyX6 3, tyX6_ok 3 (by decide), Or.inr (Or.inr (Or.inr ⟨rfl, Or.inr ⟨_, rfl⟩⟩))⟩) (m_right_lf ⟨1, dX6_init_12, rfl, rfl⟩)))
theorem dX6_reads_0 : decode cX6_reads 0 = .ok (.aload_n 0, 1) := by decide +kernel
theorem dX6_reads_1 : decode cX6_reads 1 = .ok (.aload_n 1, 1) := by decide +kernel
theorem dX6_reads_2 : decode cX6_reads 2 = .ok (.putfield 15, 3) := by decide +kernel
theorem dX6_reads_5 : decode cX6_reads 5 = .ok (.aload_n 0, 1) := by decide +kernel
theorem dX6_reads_6 : decode cX6_reads 6 = .ok (.iload_n 2, 1) := by decide +kernel
theorem dX6_reads_7 : decode cX6_reads 7 = .ok (.aload_n 1, 1) := by decide +kernel
theorem dX6_reads_8 : decode cX6_reads 8 = .ok (.arraylength, 1) := by decide +kernel
theorem dX6_reads_9 : decode cX6_reads 9 = .ok (.invokestatic 18, 3) := by decide +kernel
theorem dX6_reads_12 : decode cX6_reads 12 = .ok (.putfield 24, 3) := by decide +kernel
theorem dX6_reads_15 : decode cX6_reads 15 = .ok (.aload_n 0, 1) := by decide +kernel
theorem dX6_reads_16 : decode cX6_reads 16 = .ok (.iconst 0, 1) := by decide +kernel
theorem dX6_reads_17 : decode cX6_reads 17 = .ok (.putfield 28, 3) := by decide +kernel
theorem dX6_reads_20 : decode cX6_reads 20 = .ok (.aload_n 0, 1) := by decide +kernel
theorem dX6_reads_21 : decode cX6_reads 21 = .ok (.iconst 1, 1) := by decide +kernel
theorem dX6_reads_22 : decode cX6_reads 22 = .ok (.putfield 31, 3) := by decide +kernel
theorem dX6_reads_25 : decode cX6_reads 25 = .ok (.aload_n 0, 1) := by decide +kernel
theorem dX6_reads_26 : decode cX6_reads 26 = .ok (.iconst 1, 1) := by decide +kernel
theorem dX6_reads_27 : decode cX6_reads 27 = .ok (.putfield 34, 3) := by decide +kernel
theorem dX6_reads_30 : decode cX6_reads 30 = .ok (.aload_n 0, 1) := by decide +kernel
theorem dX6_reads_31 : decode cX6_reads 31 = .ok (.iconst 0, 1) := by decide +kernel
theorem dX6_reads_32 : decode cX6_reads 32 = .ok (.putfield 37, 3) := by decide +kernel
theorem dX6_reads_35 : decode cX6_reads 35 = .ok (.iconst 1, 1) := by decide +kernel
theorem dX6_reads_36 : decode cX6_reads 36 = .ok (.istore_n 3, 1) := by decide +kernel
theorem dX6_reads_37 : decode cX6_reads 37 = .ok (.iload_n 3, 1) := by decide +kernel
theorem dX6_reads_38 : decode cX6_reads 38 = .ok (.bipush 10, 2) := by decide +kernel
theorem dX6_reads_40 : decode cX6_reads 40 = .ok (.if_icmp .gt 48, 3) := by decide +kernel
theorem dX6_reads_43 : decode cX6_reads 43 = .ok (.aload_n 0, 1) := by decide +kernel
theorem dX6_reads_44 : decode cX6_reads 44 = .ok (.invokevirtual 40, 3) := by decide +kernel
theorem dX6_reads_47 : decode cX6_reads 47 = .ok (.ifCond .ne 5, 3) := by decide +kernel
theorem dX6_reads_50 : decode cX6_reads 50 = .ok (.iconst 0, 1) := by decide +kernel
theorem dX6_reads_51 : decode cX6_reads 51 = .ok (.ireturn, 1) := by decide +kernel
theorem dX6_reads_52 : decode cX6_reads 52 = .ok (.aload_n 0, 1) := by decide +kernel
theorem dX6_reads_53 : decode cX6_reads 53 = .ok (.getfield 28, 3) := by decide +kernel
theorem dX6_reads_56 : decode cX6_reads 56 = .ok (.aload_n 0, 1) := by decide +kernel
theorem dX6_reads_57 : decode cX6_reads 57 = .ok (.getfield 24, 3) := by decide +kernel
theorem dX6_reads_60 : decode cX6_reads 60 = .ok (.if_icmp .ne 5, 3) := by decide +kernel
theorem dX6_reads_63 : decode cX6_reads 63 = .ok (.iconst 1, 1) := by decide +kernel
theorem dX6_reads_64 : decode cX6_reads 64 = .ok (.ireturn, 1) := by decide +kernel
theorem dX6_reads_65 : decode cX6_reads 65 = .ok (.iload_n 3, 1) := by decide +kernel
theorem dX6_reads_66 : decode cX6_reads 66 = .ok (.bipush 10, 2) := by decide +kernel
theorem dX6_reads_68 : decode cX6_reads 68 = .ok (.if_icmp .eq 12, 3) := by decide +kernel
theorem dX6_reads_71 : decode cX6_reads 71 = .ok (.aload_n 0, 1) := by decide +kernel
theorem dX6_reads_72 : decode cX6_reads 72 = .ok (.bipush 59, 2) := by decide +kernel
theorem dX6_reads_74 : decode cX6_reads 74 = .ok (.invokevirtual 44, 3) := by decide +kernel
theorem dX6_reads_77 : decode cX6_reads 77 = .ok (.ifCond .ne 5, 3) := by decide +kernel
theorem dX6_reads_80 : decode cX6_reads 80 = .ok (.iconst 0, 1) := by decide +kernel
theorem dX6_reads_81 : decode cX6_reads 81 = .ok (.ireturn, 1) := by decide +kernel
theorem dX6_reads_82 : decode cX6_reads 82 = .ok (.iinc 3 1, 3) := by decide +kernel
theorem dX6_reads_85 : decode cX6_reads 85 = .ok (.goto (-48), 3) := by decide +kernel
theorem dX6_reads_88 : decode cX6_reads 88 = .ok (.iconst 0, 1) := by decide +kernel
theorem dX6_reads_89 : decode cX6_reads 89 = .ok (.ireturn, 1) := by decide +kernel
set_option maxRecDepth 20000 in
theorem r_X6_reads : m_Right (yX6_reads, cX6_reads, 4, (some .boolean)) q_X6_reads := m_right_nd (m_right_nd (m_right_nd (m_right_nd (m_right_nd (m_right_lf ⟨1, dX6_reads_0, rfl, rfl, rfl⟩) (m_right_nd (m_right_lf ⟨1, dX6_reads_1, rfl, rfl, rfl⟩) (m_right_lf ⟨3, dX6_reads_2, rfl, rfl, 6, 5, 3, (RX6, TX6, 7), rfl, rfl, by decide, wd_185, Or.inl rfl, tyX6 5, tyX6_ok 5 (by decide), Or.inr (Or.inr (Or.inr ⟨rfl, Or.inr ⟨_, rfl⟩⟩))⟩))) (m_right_nd (m_right_lf ⟨1, dX6_reads_5, rfl, rfl, rfl⟩) (m_right_nd (m_right_lf ⟨1, dX6_reads_6, rfl, rfl, rfl⟩) (m_right_lf ⟨1, dX6_reads_7, rfl, rfl, rfl⟩)))) (m_right_nd (m_right_nd (m_right_lf ⟨1, dX6_reads_8, rfl, rfl⟩) (m_right_nd (m_right_lf ⟨3, dX6_reads_9, rfl, rfl, Or.inl ⟨_, rfl, wd_72, Or.inr (Or.inl ⟨rfl, wm_391, wm_392, wm_393⟩)⟩⟩) (m_right_lf ⟨3, dX6_reads_12, rfl, rfl, 6, 6, 0, (RX6, TX6, 7), rfl, rfl, by decide, wd_186, Or.inl rfl, tyX6 6, tyX6_ok 6 (by decide), Or.inl ⟨rfl, rfl⟩⟩))) (m_right_nd (m_right_lf ⟨1, dX6_reads_15, rfl, rfl, rfl⟩) (m_right_nd (m_right_lf ⟨1, dX6_reads_16, rfl, rfl, by decide +kernel⟩) (m_right_lf ⟨3, dX6_reads_17, rfl, rfl, 6, 0, 0, (RX6, TX6, 7), rfl, rfl, by decide, wd_175, Or.inl rfl, tyX6 0, tyX6_ok 0 (by decide), Or.inl ⟨rfl, rfl⟩⟩))))) (m_right_nd (m_right_nd (m_right_nd (m_right_lf ⟨1, dX6_reads_20, rfl, rfl, rfl⟩) (m_right_nd (m_right_lf ⟨1, dX6_reads_21, rfl, rfl, by decide +kernel⟩) (m_right_lf ⟨3, dX6_reads_22, rfl, rfl, 6, 1, 0, (RX6, TX6, 7), rfl, rfl, by decide, wd_178, Or.inl rfl, tyX6 1, tyX6_ok 1 (by decide), Or.inl ⟨rfl, rfl⟩⟩))) (m_right_nd (m_right_lf ⟨1, dX6_reads_25, rfl, rfl, rfl⟩) (m_right_nd (m_right_lf ⟨1, dX6_reads_26, rfl, rfl, by decide +kernel⟩) (m_right_lf ⟨3, dX6_reads_27, rfl, rfl, 6, 2, 0, (RX6, TX6, 7), rfl, rfl, by decide, wd_180, Or.inl rfl, tyX6 2, tyX6_ok 2 (by decide), Or.inl ⟨rfl, rfl⟩⟩)))) (m_right_nd (m_right_nd (m_right_lf ⟨1, dX6_reads_30, rfl, rfl, rfl⟩) (m_right_nd (m_right_lf ⟨1, dX6_reads_31, rfl, rfl, by decide +kernel⟩) (m_right_lf ⟨3, dX6_reads_32, rfl, rfl, 6, 4, 0, (RX6, TX6, 7), rfl, rfl, by decide, wd_184, Or.inl rfl, tyX6 4, tyX6_ok 4 (by decide), Or.inl ⟨rfl, rfl⟩⟩))) (m_right_nd (m_right_nd (m_right_lf ⟨1, dX6_reads_35, rfl, rfl, by decide +kernel⟩) (m_right_lf ⟨1, dX6_reads_36, rfl, rfl, rfl⟩)) (m_right_nd (m_right_lf ⟨1, dX6_reads_37, rfl, rfl, rfl⟩) (m_right_lf ⟨2, dX6_reads_38, rfl, rfl, by decide +kernel⟩)))))) (m_right_nd (m_right_nd (m_right_nd (m_right_nd (m_right_lf ⟨3, dX6_reads_40, rfl, rfl, 88, rfl, by decide⟩) (m_right_nd (m_right_lf ⟨1, dX6_reads_43, rfl, rfl, rfl⟩) (m_right_lf ⟨3, dX6_reads_44, rfl, rfl, 44, 0, 6, (yX6_clause, cX6_clause, 3, (some .boolean)), rfl, me_X6_clause, mc_X6_clause, Or.inl ⟨(RX6, TX6, 7), rfl, rfl⟩, wd_394, wd_396, wd_0, wd_64⟩))) (m_right_nd (m_right_lf ⟨3, dX6_reads_47, rfl, rfl, 52, rfl, by decide⟩) (m_right_nd (m_right_lf ⟨1, dX6_reads_50, rfl, rfl, by decide +kernel⟩) (m_right_lf ⟨1, dX6_reads_51, rfl, 1, .boolean, rfl, rfl, Or.inr (Or.inl ⟨rfl, rfl⟩)⟩)))) (m_right_nd (m_right_nd (m_right_lf ⟨1, dX6_reads_52, rfl, rfl, rfl⟩) (m_right_nd (m_right_lf ⟨3, dX6_reads_53, rfl, rfl, 6, 0, rfl, Or.inl ⟨(RX6, TX6, 7), rfl, by decide, wd_175⟩⟩) (m_right_lf ⟨1, dX6_reads_56, rfl, rfl, rfl⟩))) (m_right_nd (m_right_nd (m_right_lf ⟨3, dX6_reads_57, rfl, rfl, 6, 6, rfl, Or.inl ⟨(RX6, TX6, 7), rfl, by decide, wd_186⟩⟩) (m_right_lf ⟨3, dX6_reads_60, rfl, rfl, 65, rfl, by decide⟩)) (m_right_nd (m_right_lf ⟨1, dX6_reads_63, rfl, rfl, by decide +kernel⟩) (m_right_lf ⟨1, dX6_reads_64, rfl, 1, .boolean, rfl, rfl, Or.inr (Or.inl ⟨rfl, rfl⟩)⟩))))) (m_right_nd (m_right_nd (m_right_nd (m_right_lf ⟨1, dX6_reads_65, rfl, rfl, rfl⟩) (m_right_nd (m_right_lf ⟨2, dX6_reads_66, rfl, rfl, by decide +kernel⟩) (m_right_lf ⟨3, dX6_reads_68, rfl, rfl, 80, rfl, by decide⟩))) (m_right_nd (m_right_lf ⟨1, dX6_reads_71, rfl, rfl, rfl⟩) (m_right_nd (m_right_lf ⟨2, dX6_reads_72, rfl, rfl, by decide +kernel⟩) (m_right_lf ⟨3, dX6_reads_74, rfl, rfl, 42, 1, 6, (yX6_sign, cX6_sign, 2, (some .boolean)), rfl, me_X6_sign, mc_X6_sign, Or.inl ⟨(RX6, TX6, 7), rfl, rfl⟩, wd_402, wd_404, wd_2, wd_64⟩)))) (m_right_nd (m_right_nd (m_right_lf ⟨3, dX6_reads_77, rfl, rfl, 82, rfl, by decide⟩) (m_right_nd (m_right_lf ⟨1, dX6_reads_80, rfl, rfl, by decide +kernel⟩) (m_right_lf ⟨1, dX6_reads_81, rfl, 1, .boolean, rfl, rfl, Or.inr (Or.inl ⟨rfl, rfl⟩)⟩))) (m_right_nd (m_right_nd (m_right_lf ⟨3, dX6_reads_82, rfl, rfl, rfl, by decide +kernel⟩) (m_right_lf ⟨3, dX6_reads_85, rfl, 37, rfl, by decide⟩)) (m_right_nd (m_right_lf ⟨1, dX6_reads_88, rfl, rfl, by decide +kernel⟩) (m_right_lf ⟨1, dX6_reads_89, rfl, 1, .boolean, rfl, rfl, Or.inr (Or.inl ⟨rfl, rfl⟩)⟩))))))
theorem dX6_peek_0 : decode cX6_peek 0 = .ok (.aload_n 0, 1) := by decide +kernel
theorem dX6_peek_1 : decode cX6_peek 1 = .ok (.getfield 28, 3) := by decide +kernel
theorem dX6_peek_4 : decode cX6_peek 4 = .ok (.aload_n 0, 1) := by decide +kernel
theorem dX6_peek_5 : decode cX6_peek 5 = .ok (.getfield 24, 3) := by decide +kernel
theorem dX6_peek_8 : decode cX6_peek 8 = .ok (.if_icmp .ge 15, 3) := by decide +kernel
theorem dX6_peek_11 : decode cX6_peek 11 = .ok (.aload_n 0, 1) := by decide +kernel
theorem dX6_peek_12 : decode cX6_peek 12 = .ok (.getfield 15, 3) := by decide +kernel
theorem dX6_peek_15 : decode cX6_peek 15 = .ok (.aload_n 0, 1) := by decide +kernel
theorem dX6_peek_16 : decode cX6_peek 16 = .ok (.getfield 28, 3) := by decide +kernel
theorem dX6_peek_19 : decode cX6_peek 19 = .ok (.iaload, 1) := by decide +kernel
theorem dX6_peek_20 : decode cX6_peek 20 = .ok (.goto 4, 3) := by decide +kernel
theorem dX6_peek_23 : decode cX6_peek 23 = .ok (.iconst (-1), 1) := by decide +kernel
theorem dX6_peek_24 : decode cX6_peek 24 = .ok (.ireturn, 1) := by decide +kernel
set_option maxRecDepth 20000 in
theorem r_X6_peek : m_Right (yX6_peek, cX6_peek, 1, (some .int)) q_X6_peek := m_right_nd (m_right_nd (m_right_nd (m_right_lf ⟨1, dX6_peek_0, rfl, rfl, rfl⟩) (m_right_nd (m_right_lf ⟨3, dX6_peek_1, rfl, rfl, 6, 0, rfl, Or.inl ⟨(RX6, TX6, 7), rfl, by decide, wd_175⟩⟩) (m_right_lf ⟨1, dX6_peek_4, rfl, rfl, rfl⟩))) (m_right_nd (m_right_lf ⟨3, dX6_peek_5, rfl, rfl, 6, 6, rfl, Or.inl ⟨(RX6, TX6, 7), rfl, by decide, wd_186⟩⟩) (m_right_nd (m_right_lf ⟨3, dX6_peek_8, rfl, rfl, 23, rfl, by decide⟩) (m_right_lf ⟨1, dX6_peek_11, rfl, rfl, rfl⟩)))) (m_right_nd (m_right_nd (m_right_lf ⟨3, dX6_peek_12, rfl, rfl, 6, 5, rfl, Or.inl ⟨(RX6, TX6, 7), rfl, by decide, wd_185⟩⟩) (m_right_nd (m_right_lf ⟨1, dX6_peek_15, rfl, rfl, rfl⟩) (m_right_lf ⟨3, dX6_peek_16, rfl, rfl, 6, 0, rfl, Or.inl ⟨(RX6, TX6, 7), rfl, by decide, wd_175⟩⟩))) (m_right_nd (m_right_nd (m_right_lf ⟨1, dX6_peek_19, rfl, rfl⟩) (m_right_lf ⟨3, dX6_peek_20, rfl, 24, rfl, by decide⟩)) (m_right_nd (m_right_lf ⟨1, dX6_peek_23, rfl, rfl, by decide +kernel⟩) (m_right_lf ⟨1, dX6_peek_24, rfl, 0, .int, rfl, rfl, Or.inl ⟨rfl, rfl⟩⟩))))
theorem dX6_sign_0 : decode cX6_sign 0 = .ok (.aload_n 0, 1) := by decide +kernel
theorem dX6_sign_1 : decode cX6_sign 1 = .ok (.invokevirtual 48, 3) := by decide +kernel
theorem dX6_sign_4 : decode cX6_sign 4 = .ok (.iload_n 1, 1) := by decide +kernel
theorem dX6_sign_5 : decode cX6_sign 5 = .ok (.if_icmp .eq 5, 3) := by decide +kernel
theorem dX6_sign_8 : decode cX6_sign 8 = .ok (.iconst 0, 1) := by decide +kernel
theorem dX6_sign_9 : decode cX6_sign 9 = .ok (.ireturn, 1) := by decide +kernel
theorem dX6_sign_10 : decode cX6_sign 10 = .ok (.aload_n 0, 1) := by decide +kernel
theorem dX6_sign_11 : decode cX6_sign 11 = .ok (.dup, 1) := by decide +kernel
theorem dX6_sign_12 : decode cX6_sign 12 = .ok (.getfield 28, 3) := by decide +kernel
theorem dX6_sign_15 : decode cX6_sign 15 = .ok (.iconst 1, 1) := by decide +kernel
theorem dX6_sign_16 : decode cX6_sign 16 = .ok (.iadd, 1) := by decide +kernel
theorem dX6_sign_17 : decode cX6_sign 17 = .ok (.putfield 28, 3) := by decide +kernel
theorem dX6_sign_20 : decode cX6_sign 20 = .ok (.iconst 1, 1) := by decide +kernel
theorem dX6_sign_21 : decode cX6_sign 21 = .ok (.ireturn, 1) := by decide +kernel
set_option maxRecDepth 20000 in
theorem r_X6_sign : m_Right (yX6_sign, cX6_sign, 2, (some .boolean)) q_X6_sign := m_right_nd (m_right_nd (m_right_nd (m_right_lf ⟨1, dX6_sign_0, rfl, rfl, rfl⟩) (m_right_nd (m_right_lf ⟨3, dX6_sign_1, rfl, rfl, 41, 0, 6, (yX6_peek, cX6_peek, 1, (some .int)), rfl, me_X6_peek, mc_X6_peek, Or.inl ⟨(RX6, TX6, 7), rfl, rfl⟩, wd_406, wd_408, wd_3, wd_64⟩) (m_right_lf ⟨1, dX6_sign_4, rfl, rfl, rfl⟩))) (m_right_nd (m_right_nd (m_right_lf ⟨3, dX6_sign_5, rfl, rfl, 10, rfl, by decide⟩) (m_right_lf ⟨1, dX6_sign_8, rfl, rfl, by decide +kernel⟩)) (m_right_nd (m_right_lf ⟨1, dX6_sign_9, rfl, 1, .boolean, rfl, rfl, Or.inr (Or.inl ⟨rfl, rfl⟩)⟩) (m_right_lf ⟨1, dX6_sign_10, rfl, rfl, rfl⟩)))) (m_right_nd (m_right_nd (m_right_lf ⟨1, dX6_sign_11, rfl, rfl⟩) (m_right_nd (m_right_lf ⟨3, dX6_sign_12, rfl, rfl, 6, 0, rfl, Or.inl ⟨(RX6, TX6, 7), rfl, by decide, wd_175⟩⟩) (m_right_lf ⟨1, dX6_sign_15, rfl, rfl, by decide +kernel⟩))) (m_right_nd (m_right_nd (m_right_lf ⟨1, dX6_sign_16, rfl, rfl⟩) (m_right_lf ⟨3, dX6_sign_17, rfl, rfl, 6, 0, 0, (RX6, TX6, 7), rfl, rfl, by decide, wd_175, Or.inl rfl, tyX6 0, tyX6_ok 0 (by decide), Or.inl ⟨rfl, rfl⟩⟩)) (m_right_nd (m_right_lf ⟨1, dX6_sign_20, rfl, rfl, by decide +kernel⟩) (m_right_lf ⟨1, dX6_sign_21, rfl, 1, .boolean, rfl, rfl, Or.inr (Or.inl ⟨rfl, rfl⟩)⟩))))
theorem dX6_signs_0 : decode cX6_signs 0 = .ok (.aload_n 0, 1) := by decide +kernel
theorem dX6_signs_1 : decode cX6_signs 1 = .ok (.iload_n 1, 1) := by decide +kernel
theorem dX6_signs_2 : decode cX6_signs 2 = .ok (.invokevirtual 44, 3) := by decide +kernel
theorem dX6_signs_5 : decode cX6_signs 5 = .ok (.ifCond .eq 23, 3) := by decide +kernel
theorem dX6_signs_8 : decode cX6_signs 8 = .ok (.aload_n 0, 1) := by decide +kernel
theorem dX6_signs_9 : decode cX6_signs 9 = .ok (.iload_n 2, 1) := by decide +kernel
theorem dX6_signs_10 : decode cX6_signs 10 = .ok (.invokevirtual 44, 3) := by decide +kernel
theorem dX6_signs_13 : decode cX6_signs 13 = .ok (.ifCond .eq 15, 3) := by decide +kernel
theorem dX6_signs_16 : decode cX6_signs 16 = .ok (.aload_n 0, 1) := by decide +kernel
theorem dX6_signs_17 : decode cX6_signs 17 = .ok (.iload_n 3, 1) := by decide +kernel
theorem dX6_signs_18 : decode cX6_signs 18 = .ok (.invokevirtual 44, 3) := by decide +kernel
theorem dX6_signs_21 : decode cX6_signs 21 = .ok (.ifCond .eq 7, 3) := by decide +kernel
theorem dX6_signs_24 : decode cX6_signs 24 = .ok (.iconst 1, 1) := by decide +kernel
theorem dX6_signs_25 : decode cX6_signs 25 = .ok (.goto 4, 3) := by decide +kernel
theorem dX6_signs_28 : decode cX6_signs 28 = .ok (.iconst 0, 1) := by decide +kernel
theorem dX6_signs_29 : decode cX6_signs 29 = .ok (.ireturn, 1) := by decide +kernel
set_option maxRecDepth 20000 in
theorem r_X6_signs : m_Right (yX6_signs, cX6_signs, 4, (some .boolean)) q_X6_signs := m_right_nd (m_right_nd (m_right_nd (m_right_nd (m_right_lf ⟨1, dX6_signs_0, rfl, rfl, rfl⟩) (m_right_lf ⟨1, dX6_signs_1, rfl, rfl, rfl⟩)) (m_right_nd (m_right_lf ⟨3, dX6_signs_2, rfl, rfl, 42, 1, 6, (yX6_sign, cX6_sign, 2, (some .boolean)), rfl, me_X6_sign, mc_X6_sign, Or.inl ⟨(RX6, TX6, 7), rfl, rfl⟩, wd_402, wd_404, wd_2, wd_64⟩) (m_right_lf ⟨3, dX6_signs_5, rfl, rfl, 28, rfl, by decide⟩))) (m_right_nd (m_right_nd (m_right_lf ⟨1, dX6_signs_8, rfl, rfl, rfl⟩) (m_right_lf ⟨1, dX6_signs_9, rfl, rfl, rfl⟩)) (m_right_nd (m_right_lf ⟨3, dX6_signs_10, rfl, rfl, 42, 1, 6, (yX6_sign, cX6_sign, 2, (some .boolean)), rfl, me_X6_sign, mc_X6_sign, Or.inl ⟨(RX6, TX6, 7), rfl, rfl⟩, wd_402, wd_404, wd_2, wd_64⟩) (m_right_lf ⟨3, dX6_signs_13, rfl, rfl, 28, rfl, by decide⟩)))) (m_right_nd (m_right_nd (m_right_nd (m_right_lf ⟨1, dX6_signs_16, rfl, rfl, rfl⟩) (m_right_lf ⟨1, dX6_signs_17, rfl, rfl, rfl⟩)) (m_right_nd (m_right_lf ⟨3, dX6_signs_18, rfl, rfl, 42, 1, 6, (yX6_sign, cX6_sign, 2, (some .boolean)), rfl, me_X6_sign, mc_X6_sign, Or.inl ⟨(RX6, TX6, 7), rfl, rfl⟩, wd_402, wd_404, wd_2, wd_64⟩) (m_right_lf ⟨3, dX6_signs_21, rfl, rfl, 28, rfl, by decide⟩))) (m_right_nd (m_right_nd (m_right_lf ⟨1, dX6_signs_24, rfl, rfl, by decide +kernel⟩) (m_right_lf ⟨3, dX6_signs_25, rfl, 29, rfl, by decide⟩)) (m_right_nd (m_right_lf ⟨1, dX6_signs_28, rfl, rfl, by decide +kernel⟩) (m_right_lf ⟨1, dX6_signs_29, rfl, 1, .boolean, rfl, rfl, Or.inr (Or.inl ⟨rfl, rfl⟩)⟩))))
theorem dX6_clause_0 : decode cX6_clause 0 = .ok (.aload_n 0, 1) := by decide +kernel
theorem dX6_clause_1 : decode cX6_clause 1 = .ok (.invokevirtual 52, 3) := by decide +kernel
theorem dX6_clause_4 : decode cX6_clause 4 = .ok (.istore_n 1, 1) := by decide +kernel
theorem dX6_clause_5 : decode cX6_clause 5 = .ok (.iload_n 1, 1) := by decide +kernel
theorem dX6_clause_6 : decode cX6_clause 6 = .ok (.ifCond .lt 12, 3) := by decide +kernel
theorem dX6_clause_9 : decode cX6_clause 9 = .ok (.aload_n 0, 1) := by decide +kernel
theorem dX6_clause_10 : decode cX6_clause 10 = .ok (.bipush 32, 2) := by decide +kernel
theorem dX6_clause_12 : decode cX6_clause 12 = .ok (.invokevirtual 44, 3) := by decide +kernel
theorem dX6_clause_15 : decode cX6_clause 15 = .ok (.ifCond .ne 5, 3) := by decide +kernel
theorem dX6_clause_18 : decode cX6_clause 18 = .ok (.iconst 0, 1) := by decide +kernel
theorem dX6_clause_19 : decode cX6_clause 19 = .ok (.ireturn, 1) := by decide +kernel
theorem dX6_clause_20 : decode cX6_clause 20 = .ok (.aload_n 0, 1) := by decide +kernel
theorem dX6_clause_21 : decode cX6_clause 21 = .ok (.invokevirtual 55, 3) := by decide +kernel
theorem dX6_clause_24 : decode cX6_clause 24 = .ok (.istore_n 2, 1) := by decide +kernel
theorem dX6_clause_25 : decode cX6_clause 25 = .ok (.iload_n 2, 1) := by decide +kernel
theorem dX6_clause_26 : decode cX6_clause 26 = .ok (.ifCond .ge 5, 3) := by decide +kernel
theorem dX6_clause_29 : decode cX6_clause 29 = .ok (.iconst 0, 1) := by decide +kernel
theorem dX6_clause_30 : decode cX6_clause 30 = .ok (.ireturn, 1) := by decide +kernel
theorem dX6_clause_31 : decode cX6_clause 31 = .ok (.iload_n 1, 1) := by decide +kernel
theorem dX6_clause_32 : decode cX6_clause 32 = .ok (.iconst 2, 1) := by decide +kernel
theorem dX6_clause_33 : decode cX6_clause 33 = .ok (.if_icmp .ne 10, 3) := by decide +kernel
theorem dX6_clause_36 : decode cX6_clause 36 = .ok (.aload_n 0, 1) := by decide +kernel
theorem dX6_clause_37 : decode cX6_clause 37 = .ok (.iload_n 2, 1) := by decide +kernel
theorem dX6_clause_38 : decode cX6_clause 38 = .ok (.putfield 31, 3) := by decide +kernel
theorem dX6_clause_41 : decode cX6_clause 41 = .ok (.iconst 1, 1) := by decide +kernel
theorem dX6_clause_42 : decode cX6_clause 42 = .ok (.ireturn, 1) := by decide +kernel
theorem dX6_clause_43 : decode cX6_clause 43 = .ok (.iload_n 1, 1) := by decide +kernel
theorem dX6_clause_44 : decode cX6_clause 44 = .ok (.iconst 3, 1) := by decide +kernel
theorem dX6_clause_45 : decode cX6_clause 45 = .ok (.if_icmp .ne 10, 3) := by decide +kernel
theorem dX6_clause_48 : decode cX6_clause 48 = .ok (.aload_n 0, 1) := by decide +kernel
theorem dX6_clause_49 : decode cX6_clause 49 = .ok (.iload_n 2, 1) := by decide +kernel
theorem dX6_clause_50 : decode cX6_clause 50 = .ok (.putfield 34, 3) := by decide +kernel
theorem dX6_clause_53 : decode cX6_clause 53 = .ok (.iconst 1, 1) := by decide +kernel
theorem dX6_clause_54 : decode cX6_clause 54 = .ok (.ireturn, 1) := by decide +kernel
theorem dX6_clause_55 : decode cX6_clause 55 = .ok (.aload_n 0, 1) := by decide +kernel
theorem dX6_clause_56 : decode cX6_clause 56 = .ok (.bipush 32, 2) := by decide +kernel
theorem dX6_clause_58 : decode cX6_clause 58 = .ok (.invokevirtual 44, 3) := by decide +kernel
theorem dX6_clause_61 : decode cX6_clause 61 = .ok (.ifCond .eq 11, 3) := by decide +kernel
theorem dX6_clause_64 : decode cX6_clause 64 = .ok (.aload_n 0, 1) := by decide +kernel
theorem dX6_clause_65 : decode cX6_clause 65 = .ok (.iconst 0, 1) := by decide +kernel
theorem dX6_clause_66 : decode cX6_clause 66 = .ok (.invokevirtual 58, 3) := by decide +kernel
theorem dX6_clause_69 : decode cX6_clause 69 = .ok (.ifCond .ne 5, 3) := by decide +kernel
theorem dX6_clause_72 : decode cX6_clause 72 = .ok (.iconst 0, 1) := by decide +kernel
theorem dX6_clause_73 : decode cX6_clause 73 = .ok (.ireturn, 1) := by decide +kernel
theorem dX6_clause_74 : decode cX6_clause 74 = .ok (.aload_n 0, 1) := by decide +kernel
theorem dX6_clause_75 : decode cX6_clause 75 = .ok (.bipush (-4), 2) := by decide +kernel
theorem dX6_clause_77 : decode cX6_clause 77 = .ok (.invokevirtual 64, 3) := by decide +kernel
theorem dX6_clause_80 : decode cX6_clause 80 = .ok (.aload_n 0, 1) := by decide +kernel
theorem dX6_clause_81 : decode cX6_clause 81 = .ok (.iload_n 1, 1) := by decide +kernel
theorem dX6_clause_82 : decode cX6_clause 82 = .ok (.ifCond .ne 7, 3) := by decide +kernel
theorem dX6_clause_85 : decode cX6_clause 85 = .ok (.iload_n 2, 1) := by decide +kernel
theorem dX6_clause_86 : decode cX6_clause 86 = .ok (.goto 5, 3) := by decide +kernel
theorem dX6_clause_89 : decode cX6_clause 89 = .ok (.iload_n 2, 1) := by decide +kernel
theorem dX6_clause_90 : decode cX6_clause 90 = .ok (.ineg, 1) := by decide +kernel
theorem dX6_clause_91 : decode cX6_clause 91 = .ok (.invokevirtual 64, 3) := by decide +kernel
theorem dX6_clause_94 : decode cX6_clause 94 = .ok (.iconst 1, 1) := by decide +kernel
theorem dX6_clause_95 : decode cX6_clause 95 = .ok (.ireturn, 1) := by decide +kernel
set_option maxRecDepth 20000 in
theorem r_X6_clause : m_Right (yX6_clause, cX6_clause, 3, (some .boolean)) q_X6_clause := m_right_nd (m_right_nd (m_right_nd (m_right_nd (m_right_nd (m_right_lf ⟨1, dX6_clause_0, rfl, rfl, rfl⟩) (m_right_nd (m_right_lf ⟨3, dX6_clause_1, rfl, rfl, 45, 0, 6, (yX6_word, cX6_word, 1, (some .int)), rfl, me_X6_word, mc_X6_word, Or.inl ⟨(RX6, TX6, 7), rfl, rfl⟩, wd_398, wd_400, wd_1, wd_64⟩) (m_right_lf ⟨1, dX6_clause_4, rfl, rfl, rfl⟩))) (m_right_nd (m_right_nd (m_right_lf ⟨1, dX6_clause_5, rfl, rfl, rfl⟩) (m_right_lf ⟨3, dX6_clause_6, rfl, rfl, 18, rfl, by decide⟩)) (m_right_nd (m_right_lf ⟨1, dX6_clause_9, rfl, rfl, rfl⟩) (m_right_lf ⟨2, dX6_clause_10, rfl, rfl, by decide +kernel⟩)))) (m_right_nd (m_right_nd (m_right_lf ⟨3, dX6_clause_12, rfl, rfl, 42, 1, 6, (yX6_sign, cX6_sign, 2, (some .boolean)), rfl, me_X6_sign, mc_X6_sign, Or.inl ⟨(RX6, TX6, 7), rfl, rfl⟩, wd_402, wd_404, wd_2, wd_64⟩) (m_right_nd (m_right_lf ⟨3, dX6_clause_15, rfl, rfl, 20, rfl, by decide⟩) (m_right_lf ⟨1, dX6_clause_18, rfl, rfl, by decide +kernel⟩))) (m_right_nd (m_right_nd (m_right_lf ⟨1, dX6_clause_19, rfl, 1, .boolean, rfl, rfl, Or.inr (Or.inl ⟨rfl, rfl⟩)⟩) (m_right_lf ⟨1, dX6_clause_20, rfl, rfl, rfl⟩)) (m_right_nd (m_right_lf ⟨3, dX6_clause_21, rfl, rfl, 46, 0, 6, (yX6_number, cX6_number, 3, (some .int)), rfl, me_X6_number, mc_X6_number, Or.inl ⟨(RX6, TX6, 7), rfl, rfl⟩, wd_414, wd_416, wd_5, wd_64⟩) (m_right_lf ⟨1, dX6_clause_24, rfl, rfl, rfl⟩))))) (m_right_nd (m_right_nd (m_right_nd (m_right_lf ⟨1, dX6_clause_25, rfl, rfl, rfl⟩) (m_right_nd (m_right_lf ⟨3, dX6_clause_26, rfl, rfl, 31, rfl, by decide⟩) (m_right_lf ⟨1, dX6_clause_29, rfl, rfl, by decide +kernel⟩))) (m_right_nd (m_right_nd (m_right_lf ⟨1, dX6_clause_30, rfl, 1, .boolean, rfl, rfl, Or.inr (Or.inl ⟨rfl, rfl⟩)⟩) (m_right_lf ⟨1, dX6_clause_31, rfl, rfl, rfl⟩)) (m_right_nd (m_right_lf ⟨1, dX6_clause_32, rfl, rfl, by decide +kernel⟩) (m_right_lf ⟨3, dX6_clause_33, rfl, rfl, 43, rfl, by decide⟩)))) (m_right_nd (m_right_nd (m_right_lf ⟨1, dX6_clause_36, rfl, rfl, rfl⟩) (m_right_nd (m_right_lf ⟨1, dX6_clause_37, rfl, rfl, rfl⟩) (m_right_lf ⟨3, dX6_clause_38, rfl, rfl, 6, 1, 0, (RX6, TX6, 7), rfl, rfl, by decide, wd_178, Or.inl rfl, tyX6 1, tyX6_ok 1 (by decide), Or.inl ⟨rfl, rfl⟩⟩))) (m_right_nd (m_right_nd (m_right_lf ⟨1, dX6_clause_41, rfl, rfl, by decide +kernel⟩) (m_right_lf ⟨1, dX6_clause_42, rfl, 1, .boolean, rfl, rfl, Or.inr (Or.inl ⟨rfl, rfl⟩)⟩)) (m_right_nd (m_right_lf ⟨1, dX6_clause_43, rfl, rfl, rfl⟩) (m_right_lf ⟨1, dX6_clause_44, rfl, rfl, by decide +kernel⟩)))))) (m_right_nd (m_right_nd (m_right_nd (m_right_nd (m_right_lf ⟨3, dX6_clause_45, rfl, rfl, 55, rfl, by decide⟩) (m_right_nd (m_right_lf ⟨1, dX6_clause_48, rfl, rfl, rfl⟩) (m_right_lf ⟨1, dX6_clause_49, rfl, rfl, rfl⟩))) (m_right_nd (m_right_nd (m_right_lf ⟨3, dX6_clause_50, rfl, rfl, 6, 2, 0, (RX6, TX6, 7), rfl, rfl, by decide, wd_180, Or.inl rfl, tyX6 2, tyX6_ok 2 (by decide), Or.inl ⟨rfl, rfl⟩⟩) (m_right_lf ⟨1, dX6_clause_53, rfl, rfl, by decide +kernel⟩)) (m_right_nd (m_right_lf ⟨1, dX6_clause_54, rfl, 1, .boolean, rfl, rfl, Or.inr (Or.inl ⟨rfl, rfl⟩)⟩) (m_right_lf ⟨1, dX6_clause_55, rfl, rfl, rfl⟩)))) (m_right_nd (m_right_nd (m_right_lf ⟨2, dX6_clause_56, rfl, rfl, by decide +kernel⟩) (m_right_nd (m_right_lf ⟨3, dX6_clause_58, rfl, rfl, 42, 1, 6, (yX6_sign, cX6_sign, 2, (some .boolean)), rfl, me_X6_sign, mc_X6_sign, Or.inl ⟨(RX6, TX6, 7), rfl, rfl⟩, wd_402, wd_404, wd_2, wd_64⟩) (m_right_lf ⟨3, dX6_clause_61, rfl, rfl, 72, rfl, by decide⟩))) (m_right_nd (m_right_nd (m_right_lf ⟨1, dX6_clause_64, rfl, rfl, rfl⟩) (m_right_lf ⟨1, dX6_clause_65, rfl, rfl, by decide +kernel⟩)) (m_right_nd (m_right_lf ⟨3, dX6_clause_66, rfl, rfl, 48, 1, 6, (yX6_either, cX6_either, 4, (some .boolean)), rfl, me_X6_either, mc_X6_either, Or.inl ⟨(RX6, TX6, 7), rfl, rfl⟩, wd_421, wd_423, wd_6, wd_64⟩) (m_right_lf ⟨3, dX6_clause_69, rfl, rfl, 74, rfl, by decide⟩))))) (m_right_nd (m_right_nd (m_right_nd (m_right_lf ⟨1, dX6_clause_72, rfl, rfl, by decide +kernel⟩) (m_right_nd (m_right_lf ⟨1, dX6_clause_73, rfl, 1, .boolean, rfl, rfl, Or.inr (Or.inl ⟨rfl, rfl⟩)⟩) (m_right_lf ⟨1, dX6_clause_74, rfl, rfl, rfl⟩))) (m_right_nd (m_right_nd (m_right_lf ⟨2, dX6_clause_75, rfl, rfl, by decide +kernel⟩) (m_right_lf ⟨3, dX6_clause_77, rfl, rfl, 53, 1, 6, (yX6_put, cX6_put, 2, none), rfl, me_X6_put, mc_X6_put, Or.inl ⟨(RX6, TX6, 7), rfl, rfl⟩, wd_432, wd_434, wd_8, wd_64⟩)) (m_right_nd (m_right_lf ⟨1, dX6_clause_80, rfl, rfl, rfl⟩) (m_right_lf ⟨1, dX6_clause_81, rfl, rfl, rfl⟩)))) (m_right_nd (m_right_nd (m_right_nd (m_right_lf ⟨3, dX6_clause_82, rfl, rfl, 89, rfl, by decide⟩) (m_right_lf ⟨1, dX6_clause_85, rfl, rfl, rfl⟩)) (m_right_nd (m_right_lf ⟨3, dX6_clause_86, rfl, 91, rfl, by decide⟩) (m_right_lf ⟨1, dX6_clause_89, rfl, rfl, rfl⟩))) (m_right_nd (m_right_nd (m_right_lf ⟨1, dX6_clause_90, rfl, rfl⟩) (m_right_lf ⟨3, dX6_clause_91, rfl, rfl, 53, 1, 6, (yX6_put, cX6_put, 2, none), rfl, me_X6_put, mc_X6_put, Or.inl ⟨(RX6, TX6, 7), rfl, rfl⟩, wd_432, wd_434, wd_8, wd_64⟩)) (m_right_nd (m_right_lf ⟨1, dX6_clause_94, rfl, rfl, by decide +kernel⟩) (m_right_lf ⟨1, dX6_clause_95, rfl, 1, .boolean, rfl, rfl, Or.inr (Or.inl ⟨rfl, rfl⟩)⟩))))))
theorem dX6_word_0 : decode cX6_word 0 = .ok (.aload_n 0, 1) := by decide +kernel
theorem dX6_word_1 : decode cX6_word 1 = .ok (.bipush 100, 2) := by decide +kernel
theorem dX6_word_3 : decode cX6_word 3 = .ok (.invokevirtual 44, 3) := by decide +kernel
theorem dX6_word_6 : decode cX6_word 6 = .ok (.ifCond .eq 22, 3) := by decide +kernel
theorem dX6_word_9 : decode cX6_word 9 = .ok (.aload_n 0, 1) := by decide +kernel
theorem dX6_word_10 : decode cX6_word 10 = .ok (.bipush 117, 2) := by decide +kernel
theorem dX6_word_12 : decode cX6_word 12 = .ok (.bipush 99, 2) := by decide +kernel
theorem dX6_word_14 : decode cX6_word 14 = .ok (.bipush 107, 2) := by decide +kernel
theorem dX6_word_16 : decode cX6_word 16 = .ok (.invokevirtual 68, 3) := by decide +kernel
theorem dX6_word_19 : decode cX6_word 19 = .ok (.ifCond .eq 7, 3) := by decide +kernel
theorem dX6_word_22 : decode cX6_word 22 = .ok (.iconst 1, 1) := by decide +kernel
theorem dX6_word_23 : decode cX6_word 23 = .ok (.goto 4, 3) := by decide +kernel
theorem dX6_word_26 : decode cX6_word 26 = .ok (.iconst (-1), 1) := by decide +kernel
theorem dX6_word_27 : decode cX6_word 27 = .ok (.ireturn, 1) := by decide +kernel
theorem dX6_word_28 : decode cX6_word 28 = .ok (.aload_n 0, 1) := by decide +kernel
theorem dX6_word_29 : decode cX6_word 29 = .ok (.bipush 109, 2) := by decide +kernel
theorem dX6_word_31 : decode cX6_word 31 = .ok (.invokevirtual 44, 3) := by decide +kernel
theorem dX6_word_34 : decode cX6_word 34 = .ok (.ifCond .eq 22, 3) := by decide +kernel
theorem dX6_word_37 : decode cX6_word 37 = .ok (.aload_n 0, 1) := by decide +kernel
theorem dX6_word_38 : decode cX6_word 38 = .ok (.bipush 111, 2) := by decide +kernel
theorem dX6_word_40 : decode cX6_word 40 = .ok (.bipush 114, 2) := by decide +kernel
theorem dX6_word_42 : decode cX6_word 42 = .ok (.bipush 101, 2) := by decide +kernel
theorem dX6_word_44 : decode cX6_word 44 = .ok (.invokevirtual 68, 3) := by decide +kernel
theorem dX6_word_47 : decode cX6_word 47 = .ok (.ifCond .eq 7, 3) := by decide +kernel
theorem dX6_word_50 : decode cX6_word 50 = .ok (.iconst 3, 1) := by decide +kernel
theorem dX6_word_51 : decode cX6_word 51 = .ok (.goto 4, 3) := by decide +kernel
theorem dX6_word_54 : decode cX6_word 54 = .ok (.iconst (-1), 1) := by decide +kernel
theorem dX6_word_55 : decode cX6_word 55 = .ok (.ireturn, 1) := by decide +kernel
theorem dX6_word_56 : decode cX6_word 56 = .ok (.aload_n 0, 1) := by decide +kernel
theorem dX6_word_57 : decode cX6_word 57 = .ok (.bipush 108, 2) := by decide +kernel
theorem dX6_word_59 : decode cX6_word 59 = .ok (.invokevirtual 44, 3) := by decide +kernel
theorem dX6_word_62 : decode cX6_word 62 = .ok (.ifCond .ne 5, 3) := by decide +kernel
theorem dX6_word_65 : decode cX6_word 65 = .ok (.iconst (-1), 1) := by decide +kernel
theorem dX6_word_66 : decode cX6_word 66 = .ok (.ireturn, 1) := by decide +kernel
theorem dX6_word_67 : decode cX6_word 67 = .ok (.aload_n 0, 1) := by decide +kernel
theorem dX6_word_68 : decode cX6_word 68 = .ok (.invokevirtual 48, 3) := by decide +kernel
theorem dX6_word_71 : decode cX6_word 71 = .ok (.bipush 105, 2) := by decide +kernel
theorem dX6_word_73 : decode cX6_word 73 = .ok (.if_icmp .ne 22, 3) := by decide +kernel
theorem dX6_word_76 : decode cX6_word 76 = .ok (.aload_n 0, 1) := by decide +kernel
theorem dX6_word_77 : decode cX6_word 77 = .ok (.bipush 105, 2) := by decide +kernel
theorem dX6_word_79 : decode cX6_word 79 = .ok (.bipush 102, 2) := by decide +kernel
theorem dX6_word_81 : decode cX6_word 81 = .ok (.bipush 116, 2) := by decide +kernel
theorem dX6_word_83 : decode cX6_word 83 = .ok (.invokevirtual 68, 3) := by decide +kernel
theorem dX6_word_86 : decode cX6_word 86 = .ok (.ifCond .eq 7, 3) := by decide +kernel
theorem dX6_word_89 : decode cX6_word 89 = .ok (.iconst 0, 1) := by decide +kernel
theorem dX6_word_90 : decode cX6_word 90 = .ok (.goto 4, 3) := by decide +kernel
theorem dX6_word_93 : decode cX6_word 93 = .ok (.iconst (-1), 1) := by decide +kernel
theorem dX6_word_94 : decode cX6_word 94 = .ok (.ireturn, 1) := by decide +kernel
theorem dX6_word_95 : decode cX6_word 95 = .ok (.aload_n 0, 1) := by decide +kernel
theorem dX6_word_96 : decode cX6_word 96 = .ok (.bipush 101, 2) := by decide +kernel
theorem dX6_word_98 : decode cX6_word 98 = .ok (.bipush 115, 2) := by decide +kernel
theorem dX6_word_100 : decode cX6_word 100 = .ok (.bipush 115, 2) := by decide +kernel
theorem dX6_word_102 : decode cX6_word 102 = .ok (.invokevirtual 68, 3) := by decide +kernel
theorem dX6_word_105 : decode cX6_word 105 = .ok (.ifCond .eq 7, 3) := by decide +kernel
theorem dX6_word_108 : decode cX6_word 108 = .ok (.iconst 2, 1) := by decide +kernel
theorem dX6_word_109 : decode cX6_word 109 = .ok (.goto 4, 3) := by decide +kernel
theorem dX6_word_112 : decode cX6_word 112 = .ok (.iconst (-1), 1) := by decide +kernel
theorem dX6_word_113 : decode cX6_word 113 = .ok (.ireturn, 1) := by decide +kernel
set_option maxRecDepth 20000 in
theorem r_X6_word : m_Right (yX6_word, cX6_word, 1, (some .int)) q_X6_word := m_right_nd (m_right_nd (m_right_nd (m_right_nd (m_right_nd (m_right_lf ⟨1, dX6_word_0, rfl, rfl, rfl⟩) (m_right_nd (m_right_lf ⟨2, dX6_word_1, rfl, rfl, by decide +kernel⟩) (m_right_lf ⟨3, dX6_word_3, rfl, rfl, 42, 1, 6, (yX6_sign, cX6_sign, 2, (some .boolean)), rfl, me_X6_sign, mc_X6_sign, Or.inl ⟨(RX6, TX6, 7), rfl, rfl⟩, wd_402, wd_404, wd_2, wd_64⟩))) (m_right_nd (m_right_nd (m_right_lf ⟨3, dX6_word_6, rfl, rfl, 28, rfl, by decide⟩) (m_right_lf ⟨1, dX6_word_9, rfl, rfl, rfl⟩)) (m_right_nd (m_right_lf ⟨2, dX6_word_10, rfl, rfl, by decide +kernel⟩) (m_right_lf ⟨2, dX6_word_12, rfl, rfl, by decide +kernel⟩)))) (m_right_nd (m_right_nd (m_right_lf ⟨2, dX6_word_14, rfl, rfl, by decide +kernel⟩) (m_right_nd (m_right_lf ⟨3, dX6_word_16, rfl, rfl, 43, 3, 6, (yX6_signs, cX6_signs, 4, (some .boolean)), rfl, me_X6_signs, mc_X6_signs, Or.inl ⟨(RX6, TX6, 7), rfl, rfl⟩, wd_410, wd_412, wd_4, wd_64⟩) (m_right_lf ⟨3, dX6_word_19, rfl, rfl, 26, rfl, by decide⟩))) (m_right_nd (m_right_nd (m_right_lf ⟨1, dX6_word_22, rfl, rfl, by decide +kernel⟩) (m_right_lf ⟨3, dX6_word_23, rfl, 27, rfl, by decide⟩)) (m_right_nd (m_right_lf ⟨1, dX6_word_26, rfl, rfl, by decide +kernel⟩) (m_right_lf ⟨1, dX6_word_27, rfl, 0, .int, rfl, rfl, Or.inl ⟨rfl, rfl⟩⟩))))) (m_right_nd (m_right_nd (m_right_nd (m_right_lf ⟨1, dX6_word_28, rfl, rfl, rfl⟩) (m_right_nd (m_right_lf ⟨2, dX6_word_29, rfl, rfl, by decide +kernel⟩) (m_right_lf ⟨3, dX6_word_31, rfl, rfl, 42, 1, 6, (yX6_sign, cX6_sign, 2, (some .boolean)), rfl, me_X6_sign, mc_X6_sign, Or.inl ⟨(RX6, TX6, 7), rfl, rfl⟩, wd_402, wd_404, wd_2, wd_64⟩))) (m_right_nd (m_right_nd (m_right_lf ⟨3, dX6_word_34, rfl, rfl, 56, rfl, by decide⟩) (m_right_lf ⟨1, dX6_word_37, rfl, rfl, rfl⟩)) (m_right_nd (m_right_lf ⟨2, dX6_word_38, rfl, rfl, by decide +kernel⟩) (m_right_lf ⟨2, dX6_word_40, rfl, rfl, by decide +kernel⟩)))) (m_right_nd (m_right_nd (m_right_nd (m_right_lf ⟨2, dX6_word_42, rfl, rfl, by decide +kernel⟩) (m_right_lf ⟨3, dX6_word_44, rfl, rfl, 43, 3, 6, (yX6_signs, cX6_signs, 4, (some .boolean)), rfl, me_X6_signs, mc_X6_signs, Or.inl ⟨(RX6, TX6, 7), rfl, rfl⟩, wd_410, wd_412, wd_4, wd_64⟩)) (m_right_nd (m_right_lf ⟨3, dX6_word_47, rfl, rfl, 54, rfl, by decide⟩) (m_right_lf ⟨1, dX6_word_50, rfl, rfl, by decide +kernel⟩))) (m_right_nd (m_right_nd (m_right_lf ⟨3, dX6_word_51, rfl, 55, rfl, by decide⟩) (m_right_lf ⟨1, dX6_word_54, rfl, rfl, by decide +kernel⟩)) (m_right_nd (m_right_lf ⟨1, dX6_word_55, rfl, 0, .int, rfl, rfl, Or.inl ⟨rfl, rfl⟩⟩) (m_right_lf ⟨1, dX6_word_56, rfl, rfl, rfl⟩)))))) (m_right_nd (m_right_nd (m_right_nd (m_right_nd (m_right_lf ⟨2, dX6_word_57, rfl, rfl, by decide +kernel⟩) (m_right_nd (m_right_lf ⟨3, dX6_word_59, rfl, rfl, 42, 1, 6, (yX6_sign, cX6_sign, 2, (some .boolean)), rfl, me_X6_sign, mc_X6_sign, Or.inl ⟨(RX6, TX6, 7), rfl, rfl⟩, wd_402, wd_404, wd_2, wd_64⟩) (m_right_lf ⟨3, dX6_word_62, rfl, rfl, 67, rfl, by decide⟩))) (m_right_nd (m_right_nd (m_right_lf ⟨1, dX6_word_65, rfl, rfl, by decide +kernel⟩) (m_right_lf ⟨1, dX6_word_66, rfl, 0, .int, rfl, rfl, Or.inl ⟨rfl, rfl⟩⟩)) (m_right_nd (m_right_lf ⟨1, dX6_word_67, rfl, rfl, rfl⟩) (m_right_lf ⟨3, dX6_word_68, rfl, rfl, 41, 0, 6, (yX6_peek, cX6_peek, 1, (some .int)), rfl, me_X6_peek, mc_X6_peek, Or.inl ⟨(RX6, TX6, 7), rfl, rfl⟩, wd_406, wd_408, wd_3, wd_64⟩)))) (m_right_nd (m_right_nd (m_right_lf ⟨2, dX6_word_71, rfl, rfl, by decide +kernel⟩) (m_right_nd (m_right_lf ⟨3, dX6_word_73, rfl, rfl, 95, rfl, by decide⟩) (m_right_lf ⟨1, dX6_word_76, rfl, rfl, rfl⟩))) (m_right_nd (m_right_nd (m_right_lf ⟨2, dX6_word_77, rfl, rfl, by decide +kernel⟩) (m_right_lf ⟨2, dX6_word_79, rfl, rfl, by decide +kernel⟩)) (m_right_nd (m_right_lf ⟨2, dX6_word_81, rfl, rfl, by decide +kernel⟩) (m_right_lf ⟨3, dX6_word_83, rfl, rfl, 43, 3, 6, (yX6_signs, cX6_signs, 4, (some .boolean)), rfl, me_X6_signs, mc_X6_signs, Or.inl ⟨(RX6, TX6, 7), rfl, rfl⟩, wd_410, wd_412, wd_4, wd_64⟩))))) (m_right_nd (m_right_nd (m_right_nd (m_right_lf ⟨3, dX6_word_86, rfl, rfl, 93, rfl, by decide⟩) (m_right_nd (m_right_lf ⟨1, dX6_word_89, rfl, rfl, by decide +kernel⟩) (m_right_lf ⟨3, dX6_word_90, rfl, 94, rfl, by decide⟩))) (m_right_nd (m_right_nd (m_right_lf ⟨1, dX6_word_93, rfl, rfl, by decide +kernel⟩) (m_right_lf ⟨1, dX6_word_94, rfl, 0, .int, rfl, rfl, Or.inl ⟨rfl, rfl⟩⟩)) (m_right_nd (m_right_lf ⟨1, dX6_word_95, rfl, rfl, rfl⟩) (m_right_lf ⟨2, dX6_word_96, rfl, rfl, by decide +kernel⟩)))) (m_right_nd (m_right_nd (m_right_nd (m_right_lf ⟨2, dX6_word_98, rfl, rfl, by decide +kernel⟩) (m_right_lf ⟨2, dX6_word_100, rfl, rfl, by decide +kernel⟩)) (m_right_nd (m_right_lf ⟨3, dX6_word_102, rfl, rfl, 43, 3, 6, (yX6_signs, cX6_signs, 4, (some .boolean)), rfl, me_X6_signs, mc_X6_signs, Or.inl ⟨(RX6, TX6, 7), rfl, rfl⟩, wd_410, wd_412, wd_4, wd_64⟩) (m_right_lf ⟨3, dX6_word_105, rfl, rfl, 112, rfl, by decide⟩))) (m_right_nd (m_right_nd (m_right_lf ⟨1, dX6_word_108, rfl, rfl, by decide +kernel⟩) (m_right_lf ⟨3, dX6_word_109, rfl, 113, rfl, by decide⟩)) (m_right_nd (m_right_lf ⟨1, dX6_word_112, rfl, rfl, by decide +kernel⟩) (m_right_lf ⟨1, dX6_word_113, rfl, 0, .int, rfl, rfl, Or.inl ⟨rfl, rfl⟩⟩))))))
theorem dX6_number_0 : decode cX6_number 0 = .ok (.aload_n 0, 1) := by decide +kernel
theorem dX6_number_1 : decode cX6_number 1 = .ok (.invokevirtual 48, 3) := by decide +kernel
theorem dX6_number_4 : decode cX6_number 4 = .ok (.invokestatic 72, 3) := by decide +kernel
theorem dX6_number_7 : decode cX6_number 7 = .ok (.istore_n 1, 1) := by decide +kernel
theorem dX6_number_8 : decode cX6_number 8 = .ok (.iload_n 1, 1) := by decide +kernel
theorem dX6_number_9 : decode cX6_number 9 = .ok (.ifCond .ge 5, 3) := by decide +kernel
theorem dX6_number_12 : decode cX6_number 12 = .ok (.iconst (-1), 1) := by decide +kernel
theorem dX6_number_13 : decode cX6_number 13 = .ok (.ireturn, 1) := by decide +kernel
theorem dX6_number_14 : decode cX6_number 14 = .ok (.aload_n 0, 1) := by decide +kernel
theorem dX6_number_15 : decode cX6_number 15 = .ok (.dup, 1) := by decide +kernel
theorem dX6_number_16 : decode cX6_number 16 = .ok (.getfield 28, 3) := by decide +kernel
theorem dX6_number_19 : decode cX6_number 19 = .ok (.iconst 1, 1) := by decide +kernel
theorem dX6_number_20 : decode cX6_number 20 = .ok (.iadd, 1) := by decide +kernel
theorem dX6_number_21 : decode cX6_number 21 = .ok (.putfield 28, 3) := by decide +kernel
theorem dX6_number_24 : decode cX6_number 24 = .ok (.aload_n 0, 1) := by decide +kernel
theorem dX6_number_25 : decode cX6_number 25 = .ok (.invokevirtual 48, 3) := by decide +kernel
theorem dX6_number_28 : decode cX6_number 28 = .ok (.invokestatic 72, 3) := by decide +kernel
theorem dX6_number_31 : decode cX6_number 31 = .ok (.istore_n 2, 1) := by decide +kernel
theorem dX6_number_32 : decode cX6_number 32 = .ok (.iload_n 1, 1) := by decide +kernel
theorem dX6_number_33 : decode cX6_number 33 = .ok (.ifCond .eq 7, 3) := by decide +kernel
theorem dX6_number_36 : decode cX6_number 36 = .ok (.iload_n 2, 1) := by decide +kernel
theorem dX6_number_37 : decode cX6_number 37 = .ok (.ifCond .ge 5, 3) := by decide +kernel
theorem dX6_number_40 : decode cX6_number 40 = .ok (.iload_n 1, 1) := by decide +kernel
theorem dX6_number_41 : decode cX6_number 41 = .ok (.ireturn, 1) := by decide +kernel
theorem dX6_number_42 : decode cX6_number 42 = .ok (.aload_n 0, 1) := by decide +kernel
theorem dX6_number_43 : decode cX6_number 43 = .ok (.dup, 1) := by decide +kernel
theorem dX6_number_44 : decode cX6_number 44 = .ok (.getfield 28, 3) := by decide +kernel
theorem dX6_number_47 : decode cX6_number 47 = .ok (.iconst 1, 1) := by decide +kernel
theorem dX6_number_48 : decode cX6_number 48 = .ok (.iadd, 1) := by decide +kernel
theorem dX6_number_49 : decode cX6_number 49 = .ok (.putfield 28, 3) := by decide +kernel
theorem dX6_number_52 : decode cX6_number 52 = .ok (.iload_n 1, 1) := by decide +kernel
theorem dX6_number_53 : decode cX6_number 53 = .ok (.bipush 10, 2) := by decide +kernel
theorem dX6_number_55 : decode cX6_number 55 = .ok (.imul, 1) := by decide +kernel
theorem dX6_number_56 : decode cX6_number 56 = .ok (.iload_n 2, 1) := by decide +kernel
theorem dX6_number_57 : decode cX6_number 57 = .ok (.iadd, 1) := by decide +kernel
theorem dX6_number_58 : decode cX6_number 58 = .ok (.ireturn, 1) := by decide +kernel
set_option maxRecDepth 20000 in
theorem r_X6_number : m_Right (yX6_number, cX6_number, 3, (some .int)) q_X6_number := m_right_nd (m_right_nd (m_right_nd (m_right_nd (m_right_nd (m_right_lf ⟨1, dX6_number_0, rfl, rfl, rfl⟩) (m_right_lf ⟨3, dX6_number_1, rfl, rfl, 41, 0, 6, (yX6_peek, cX6_peek, 1, (some .int)), rfl, me_X6_peek, mc_X6_peek, Or.inl ⟨(RX6, TX6, 7), rfl, rfl⟩, wd_406, wd_408, wd_3, wd_64⟩)) (m_right_nd (m_right_lf ⟨3, dX6_number_4, rfl, rfl, Or.inr (Or.inr ⟨47, 1, (yX6_digit, cX6_digit, 1, (some .int)), rfl, me_X6_digit, mc_X6_digit, wd_418, wd_419, wd_64⟩)⟩) (m_right_lf ⟨1, dX6_number_7, rfl, rfl, rfl⟩))) (m_right_nd (m_right_nd (m_right_lf ⟨1, dX6_number_8, rfl, rfl, rfl⟩) (m_right_lf ⟨3, dX6_number_9, rfl, rfl, 14, rfl, by decide⟩)) (m_right_nd (m_right_lf ⟨1, dX6_number_12, rfl, rfl, by decide +kernel⟩) (m_right_nd (m_right_lf ⟨1, dX6_number_13, rfl, 0, .int, rfl, rfl, Or.inl ⟨rfl, rfl⟩⟩) (m_right_lf ⟨1, dX6_number_14, rfl, rfl, rfl⟩))))) (m_right_nd (m_right_nd (m_right_nd (m_right_lf ⟨1, dX6_number_15, rfl, rfl⟩) (m_right_lf ⟨3, dX6_number_16, rfl, rfl, 6, 0, rfl, Or.inl ⟨(RX6, TX6, 7), rfl, by decide, wd_175⟩⟩)) (m_right_nd (m_right_lf ⟨1, dX6_number_19, rfl, rfl, by decide +kernel⟩) (m_right_lf ⟨1, dX6_number_20, rfl, rfl⟩))) (m_right_nd (m_right_nd (m_right_lf ⟨3, dX6_number_21, rfl, rfl, 6, 0, 0, (RX6, TX6, 7), rfl, rfl, by decide, wd_175, Or.inl rfl, tyX6 0, tyX6_ok 0 (by decide), Or.inl ⟨rfl, rfl⟩⟩) (m_right_lf ⟨1, dX6_number_24, rfl, rfl, rfl⟩)) (m_right_nd (m_right_lf ⟨3, dX6_number_25, rfl, rfl, 41, 0, 6, (yX6_peek, cX6_peek, 1, (some .int)), rfl, me_X6_peek, mc_X6_peek, Or.inl ⟨(RX6, TX6, 7), rfl, rfl⟩, wd_406, wd_408, wd_3, wd_64⟩) (m_right_nd (m_right_lf ⟨3, dX6_number_28, rfl, rfl, Or.inr (Or.inr ⟨47, 1, (yX6_digit, cX6_digit, 1, (some .int)), rfl, me_X6_digit, mc_X6_digit, wd_418, wd_419, wd_64⟩)⟩) (m_right_lf ⟨1, dX6_number_31, rfl, rfl, rfl⟩)))))) (m_right_nd (m_right_nd (m_right_nd (m_right_nd (m_right_lf ⟨1, dX6_number_32, rfl, rfl, rfl⟩) (m_right_lf ⟨3, dX6_number_33, rfl, rfl, 40, rfl, by decide⟩)) (m_right_nd (m_right_lf ⟨1, dX6_number_36, rfl, rfl, rfl⟩) (m_right_lf ⟨3, dX6_number_37, rfl, rfl, 42, rfl, by decide⟩))) (m_right_nd (m_right_nd (m_right_lf ⟨1, dX6_number_40, rfl, rfl, rfl⟩) (m_right_lf ⟨1, dX6_number_41, rfl, 0, .int, rfl, rfl, Or.inl ⟨rfl, rfl⟩⟩)) (m_right_nd (m_right_lf ⟨1, dX6_number_42, rfl, rfl, rfl⟩) (m_right_nd (m_right_lf ⟨1, dX6_number_43, rfl, rfl⟩) (m_right_lf ⟨3, dX6_number_44, rfl, rfl, 6, 0, rfl, Or.inl ⟨(RX6, TX6, 7), rfl, by decide, wd_175⟩⟩))))) (m_right_nd (m_right_nd (m_right_nd (m_right_lf ⟨1, dX6_number_47, rfl, rfl, by decide +kernel⟩) (m_right_lf ⟨1, dX6_number_48, rfl, rfl⟩)) (m_right_nd (m_right_lf ⟨3, dX6_number_49, rfl, rfl, 6, 0, 0, (RX6, TX6, 7), rfl, rfl, by decide, wd_175, Or.inl rfl, tyX6 0, tyX6_ok 0 (by decide), Or.inl ⟨rfl, rfl⟩⟩) (m_right_lf ⟨1, dX6_number_52, rfl, rfl, rfl⟩))) (m_right_nd (m_right_nd (m_right_lf ⟨2, dX6_number_53, rfl, rfl, by decide +kernel⟩) (m_right_lf ⟨1, dX6_number_55, rfl, rfl⟩)) (m_right_nd (m_right_lf ⟨1, dX6_number_56, rfl, rfl, rfl⟩) (m_right_nd (m_right_lf ⟨1, dX6_number_57, rfl, rfl⟩) (m_right_lf ⟨1, dX6_number_58, rfl, 0, .int, rfl, rfl, Or.inl ⟨rfl, rfl⟩⟩))))))
theorem dX6_digit_0 : decode cX6_digit 0 = .ok (.iload_n 0, 1) := by decide +kernel
theorem dX6_digit_1 : decode cX6_digit 1 = .ok (.bipush 48, 2) := by decide +kernel
theorem dX6_digit_3 : decode cX6_digit 3 = .ok (.if_icmp .lt 16, 3) := by decide +kernel
theorem dX6_digit_6 : decode cX6_digit 6 = .ok (.iload_n 0, 1) := by decide +kernel
theorem dX6_digit_7 : decode cX6_digit 7 = .ok (.bipush 57, 2) := by decide +kernel
theorem dX6_digit_9 : decode cX6_digit 9 = .ok (.if_icmp .gt 10, 3) := by decide +kernel
theorem dX6_digit_12 : decode cX6_digit 12 = .ok (.iload_n 0, 1) := by decide +kernel
theorem dX6_digit_13 : decode cX6_digit 13 = .ok (.bipush 48, 2) := by decide +kernel
theorem dX6_digit_15 : decode cX6_digit 15 = .ok (.isub, 1) := by decide +kernel
theorem dX6_digit_16 : decode cX6_digit 16 = .ok (.goto 4, 3) := by decide +kernel
theorem dX6_digit_19 : decode cX6_digit 19 = .ok (.iconst (-1), 1) := by decide +kernel
theorem dX6_digit_20 : decode cX6_digit 20 = .ok (.ireturn, 1) := by decide +kernel
set_option maxRecDepth 20000 in
theorem r_X6_digit : m_Right (yX6_digit, cX6_digit, 1, (some .int)) q_X6_digit := m_right_nd (m_right_nd (m_right_nd (m_right_lf ⟨1, dX6_digit_0, rfl, rfl, rfl⟩) (m_right_nd (m_right_lf ⟨2, dX6_digit_1, rfl, rfl, by decide +kernel⟩) (m_right_lf ⟨3, dX6_digit_3, rfl, rfl, 19, rfl, by decide⟩))) (m_right_nd (m_right_lf ⟨1, dX6_digit_6, rfl, rfl, rfl⟩) (m_right_nd (m_right_lf ⟨2, dX6_digit_7, rfl, rfl, by decide +kernel⟩) (m_right_lf ⟨3, dX6_digit_9, rfl, rfl, 19, rfl, by decide⟩)))) (m_right_nd (m_right_nd (m_right_lf ⟨1, dX6_digit_12, rfl, rfl, rfl⟩) (m_right_nd (m_right_lf ⟨2, dX6_digit_13, rfl, rfl, by decide +kernel⟩) (m_right_lf ⟨1, dX6_digit_15, rfl, rfl⟩))) (m_right_nd (m_right_lf ⟨3, dX6_digit_16, rfl, 20, rfl, by decide⟩) (m_right_nd (m_right_lf ⟨1, dX6_digit_19, rfl, rfl, by decide +kernel⟩) (m_right_lf ⟨1, dX6_digit_20, rfl, 0, .int, rfl, rfl, Or.inl ⟨rfl, rfl⟩⟩))))
theorem dX6_either_0 : decode cX6_either 0 = .ok (.aload_n 0, 1) := by decide +kernel
theorem dX6_either_1 : decode cX6_either 1 = .ok (.iload_n 1, 1) := by decide +kernel
theorem dX6_either_2 : decode cX6_either 2 = .ok (.invokevirtual 76, 3) := by decide +kernel
theorem dX6_either_5 : decode cX6_either 5 = .ok (.istore_n 2, 1) := by decide +kernel
theorem dX6_either_6 : decode cX6_either 6 = .ok (.iconst 0, 1) := by decide +kernel
theorem dX6_either_7 : decode cX6_either 7 = .ok (.istore_n 3, 1) := by decide +kernel
theorem dX6_either_8 : decode cX6_either 8 = .ok (.iload_n 3, 1) := by decide +kernel
theorem dX6_either_9 : decode cX6_either 9 = .ok (.bipush 100, 2) := by decide +kernel
theorem dX6_either_11 : decode cX6_either 11 = .ok (.if_icmp .ge 34, 3) := by decide +kernel
theorem dX6_either_14 : decode cX6_either 14 = .ok (.iload_n 2, 1) := by decide +kernel
theorem dX6_either_15 : decode cX6_either 15 = .ok (.ifCond .eq 30, 3) := by decide +kernel
theorem dX6_either_18 : decode cX6_either 18 = .ok (.aload_n 0, 1) := by decide +kernel
theorem dX6_either_19 : decode cX6_either 19 = .ok (.bipush 124, 2) := by decide +kernel
theorem dX6_either_21 : decode cX6_either 21 = .ok (.invokevirtual 44, 3) := by decide +kernel
theorem dX6_either_24 : decode cX6_either 24 = .ok (.ifCond .eq 21, 3) := by decide +kernel
theorem dX6_either_27 : decode cX6_either 27 = .ok (.aload_n 0, 1) := by decide +kernel
theorem dX6_either_28 : decode cX6_either 28 = .ok (.iload_n 1, 1) := by decide +kernel
theorem dX6_either_29 : decode cX6_either 29 = .ok (.invokevirtual 76, 3) := by decide +kernel
theorem dX6_either_32 : decode cX6_either 32 = .ok (.istore_n 2, 1) := by decide +kernel
theorem dX6_either_33 : decode cX6_either 33 = .ok (.aload_n 0, 1) := by decide +kernel
theorem dX6_either_34 : decode cX6_either 34 = .ok (.bipush (-3), 2) := by decide +kernel
theorem dX6_either_36 : decode cX6_either 36 = .ok (.invokevirtual 64, 3) := by decide +kernel
theorem dX6_either_39 : decode cX6_either 39 = .ok (.iinc 3 1, 3) := by decide +kernel
theorem dX6_either_42 : decode cX6_either 42 = .ok (.goto (-34), 3) := by decide +kernel
theorem dX6_either_45 : decode cX6_either 45 = .ok (.iload_n 2, 1) := by decide +kernel
theorem dX6_either_46 : decode cX6_either 46 = .ok (.ireturn, 1) := by decide +kernel
set_option maxRecDepth 20000 in
theorem r_X6_either : m_Right (yX6_either, cX6_either, 4, (some .boolean)) q_X6_either := m_right_nd (m_right_nd (m_right_nd (m_right_nd (m_right_lf ⟨1, dX6_either_0, rfl, rfl, rfl⟩) (m_right_nd (m_right_lf ⟨1, dX6_either_1, rfl, rfl, rfl⟩) (m_right_lf ⟨3, dX6_either_2, rfl, rfl, 49, 1, 6, (yX6_both, cX6_both, 4, (some .boolean)), rfl, me_X6_both, mc_X6_both, Or.inl ⟨(RX6, TX6, 7), rfl, rfl⟩, wd_425, wd_427, wd_7, wd_64⟩))) (m_right_nd (m_right_lf ⟨1, dX6_either_5, rfl, rfl, rfl⟩) (m_right_nd (m_right_lf ⟨1, dX6_either_6, rfl, rfl, by decide +kernel⟩) (m_right_lf ⟨1, dX6_either_7, rfl, rfl, rfl⟩)))) (m_right_nd (m_right_nd (m_right_lf ⟨1, dX6_either_8, rfl, rfl, rfl⟩) (m_right_nd (m_right_lf ⟨2, dX6_either_9, rfl, rfl, by decide +kernel⟩) (m_right_lf ⟨3, dX6_either_11, rfl, rfl, 45, rfl, by decide⟩))) (m_right_nd (m_right_nd (m_right_lf ⟨1, dX6_either_14, rfl, rfl, rfl⟩) (m_right_lf ⟨3, dX6_either_15, rfl, rfl, 45, rfl, by decide⟩)) (m_right_nd (m_right_lf ⟨1, dX6_either_18, rfl, rfl, rfl⟩) (m_right_lf ⟨2, dX6_either_19, rfl, rfl, by decide +kernel⟩))))) (m_right_nd (m_right_nd (m_right_nd (m_right_lf ⟨3, dX6_either_21, rfl, rfl, 42, 1, 6, (yX6_sign, cX6_sign, 2, (some .boolean)), rfl, me_X6_sign, mc_X6_sign, Or.inl ⟨(RX6, TX6, 7), rfl, rfl⟩, wd_402, wd_404, wd_2, wd_64⟩) (m_right_nd (m_right_lf ⟨3, dX6_either_24, rfl, rfl, 45, rfl, by decide⟩) (m_right_lf ⟨1, dX6_either_27, rfl, rfl, rfl⟩))) (m_right_nd (m_right_lf ⟨1, dX6_either_28, rfl, rfl, rfl⟩) (m_right_nd (m_right_lf ⟨3, dX6_either_29, rfl, rfl, 49, 1, 6, (yX6_both, cX6_both, 4, (some .boolean)), rfl, me_X6_both, mc_X6_both, Or.inl ⟨(RX6, TX6, 7), rfl, rfl⟩, wd_425, wd_427, wd_7, wd_64⟩) (m_right_lf ⟨1, dX6_either_32, rfl, rfl, rfl⟩)))) (m_right_nd (m_right_nd (m_right_lf ⟨1, dX6_either_33, rfl, rfl, rfl⟩) (m_right_nd (m_right_lf ⟨2, dX6_either_34, rfl, rfl, by decide +kernel⟩) (m_right_lf ⟨3, dX6_either_36, rfl, rfl, 53, 1, 6, (yX6_put, cX6_put, 2, none), rfl, me_X6_put, mc_X6_put, Or.inl ⟨(RX6, TX6, 7), rfl, rfl⟩, wd_432, wd_434, wd_8, wd_64⟩))) (m_right_nd (m_right_nd (m_right_lf ⟨3, dX6_either_39, rfl, rfl, rfl, by decide +kernel⟩) (m_right_lf ⟨3, dX6_either_42, rfl, 8, rfl, by decide⟩)) (m_right_nd (m_right_lf ⟨1, dX6_either_45, rfl, rfl, rfl⟩) (m_right_lf ⟨1, dX6_either_46, rfl, 1, .boolean, rfl, rfl, Or.inr (Or.inl ⟨rfl, rfl⟩)⟩)))))
theorem dX6_both_0 : decode cX6_both 0 = .ok (.aload_n 0, 1) := by decide +kernel
theorem dX6_both_1 : decode cX6_both 1 = .ok (.iload_n 1, 1) := by decide +kernel
theorem dX6_both_2 : decode cX6_both 2 = .ok (.invokestatic 79, 3) := by decide +kernel
theorem dX6_both_5 : decode cX6_both 5 = .ok (.istore_n 2, 1) := by decide +kernel
theorem dX6_both_6 : decode cX6_both 6 = .ok (.iconst 0, 1) := by decide +kernel
theorem dX6_both_7 : decode cX6_both 7 = .ok (.istore_n 3, 1) := by decide +kernel
theorem dX6_both_8 : decode cX6_both 8 = .ok (.iload_n 3, 1) := by decide +kernel
theorem dX6_both_9 : decode cX6_both 9 = .ok (.bipush 100, 2) := by decide +kernel
theorem dX6_both_11 : decode cX6_both 11 = .ok (.if_icmp .ge 34, 3) := by decide +kernel
theorem dX6_both_14 : decode cX6_both 14 = .ok (.iload_n 2, 1) := by decide +kernel
theorem dX6_both_15 : decode cX6_both 15 = .ok (.ifCond .eq 30, 3) := by decide +kernel
theorem dX6_both_18 : decode cX6_both 18 = .ok (.aload_n 0, 1) := by decide +kernel
theorem dX6_both_19 : decode cX6_both 19 = .ok (.bipush 38, 2) := by decide +kernel
theorem dX6_both_21 : decode cX6_both 21 = .ok (.invokevirtual 44, 3) := by decide +kernel
theorem dX6_both_24 : decode cX6_both 24 = .ok (.ifCond .eq 21, 3) := by decide +kernel
theorem dX6_both_27 : decode cX6_both 27 = .ok (.aload_n 0, 1) := by decide +kernel
theorem dX6_both_28 : decode cX6_both 28 = .ok (.iload_n 1, 1) := by decide +kernel
theorem dX6_both_29 : decode cX6_both 29 = .ok (.invokestatic 79, 3) := by decide +kernel
theorem dX6_both_32 : decode cX6_both 32 = .ok (.istore_n 2, 1) := by decide +kernel
theorem dX6_both_33 : decode cX6_both 33 = .ok (.aload_n 0, 1) := by decide +kernel
theorem dX6_both_34 : decode cX6_both 34 = .ok (.bipush (-2), 2) := by decide +kernel
theorem dX6_both_36 : decode cX6_both 36 = .ok (.invokevirtual 64, 3) := by decide +kernel
theorem dX6_both_39 : decode cX6_both 39 = .ok (.iinc 3 1, 3) := by decide +kernel
theorem dX6_both_42 : decode cX6_both 42 = .ok (.goto (-34), 3) := by decide +kernel
theorem dX6_both_45 : decode cX6_both 45 = .ok (.iload_n 2, 1) := by decide +kernel
theorem dX6_both_46 : decode cX6_both 46 = .ok (.ireturn, 1) := by decide +kernel
set_option maxRecDepth 20000 in
theorem r_X6_both : m_Right (yX6_both, cX6_both, 4, (some .boolean)) q_X6_both := m_right_nd (m_right_nd (m_right_nd (m_right_nd (m_right_lf ⟨1, dX6_both_0, rfl, rfl, rfl⟩) (m_right_nd (m_right_lf ⟨1, dX6_both_1, rfl, rfl, rfl⟩) (m_right_lf ⟨3, dX6_both_2, rfl, rfl, Or.inr (Or.inr ⟨50, 2, (yX6_one, cX6_one, 7, (some .boolean)), rfl, me_X6_one, mc_X6_one, wd_429, wd_430, wd_64⟩)⟩))) (m_right_nd (m_right_lf ⟨1, dX6_both_5, rfl, rfl, rfl⟩) (m_right_nd (m_right_lf ⟨1, dX6_both_6, rfl, rfl, by decide +kernel⟩) (m_right_lf ⟨1, dX6_both_7, rfl, rfl, rfl⟩)))) (m_right_nd (m_right_nd (m_right_lf ⟨1, dX6_both_8, rfl, rfl, rfl⟩) (m_right_nd (m_right_lf ⟨2, dX6_both_9, rfl, rfl, by decide +kernel⟩) (m_right_lf ⟨3, dX6_both_11, rfl, rfl, 45, rfl, by decide⟩))) (m_right_nd (m_right_nd (m_right_lf ⟨1, dX6_both_14, rfl, rfl, rfl⟩) (m_right_lf ⟨3, dX6_both_15, rfl, rfl, 45, rfl, by decide⟩)) (m_right_nd (m_right_lf ⟨1, dX6_both_18, rfl, rfl, rfl⟩) (m_right_lf ⟨2, dX6_both_19, rfl, rfl, by decide +kernel⟩))))) (m_right_nd (m_right_nd (m_right_nd (m_right_lf ⟨3, dX6_both_21, rfl, rfl, 42, 1, 6, (yX6_sign, cX6_sign, 2, (some .boolean)), rfl, me_X6_sign, mc_X6_sign, Or.inl ⟨(RX6, TX6, 7), rfl, rfl⟩, wd_402, wd_404, wd_2, wd_64⟩) (m_right_nd (m_right_lf ⟨3, dX6_both_24, rfl, rfl, 45, rfl, by decide⟩) (m_right_lf ⟨1, dX6_both_27, rfl, rfl, rfl⟩))) (m_right_nd (m_right_lf ⟨1, dX6_both_28, rfl, rfl, rfl⟩) (m_right_nd (m_right_lf ⟨3, dX6_both_29, rfl, rfl, Or.inr (Or.inr ⟨50, 2, (yX6_one, cX6_one, 7, (some .boolean)), rfl, me_X6_one, mc_X6_one, wd_429, wd_430, wd_64⟩)⟩) (m_right_lf ⟨1, dX6_both_32, rfl, rfl, rfl⟩)))) (m_right_nd (m_right_nd (m_right_lf ⟨1, dX6_both_33, rfl, rfl, rfl⟩) (m_right_nd (m_right_lf ⟨2, dX6_both_34, rfl, rfl, by decide +kernel⟩) (m_right_lf ⟨3, dX6_both_36, rfl, rfl, 53, 1, 6, (yX6_put, cX6_put, 2, none), rfl, me_X6_put, mc_X6_put, Or.inl ⟨(RX6, TX6, 7), rfl, rfl⟩, wd_432, wd_434, wd_8, wd_64⟩))) (m_right_nd (m_right_nd (m_right_lf ⟨3, dX6_both_39, rfl, rfl, rfl, by decide +kernel⟩) (m_right_lf ⟨3, dX6_both_42, rfl, 8, rfl, by decide⟩)) (m_right_nd (m_right_lf ⟨1, dX6_both_45, rfl, rfl, rfl⟩) (m_right_lf ⟨1, dX6_both_46, rfl, 1, .boolean, rfl, rfl, Or.inr (Or.inl ⟨rfl, rfl⟩)⟩)))))
theorem dX6_one_0 : decode cX6_one 0 = .ok (.aload_n 0, 1) := by decide +kernel
theorem dX6_one_1 : decode cX6_one 1 = .ok (.invokevirtual 48, 3) := by decide +kernel
theorem dX6_one_4 : decode cX6_one 4 = .ok (.istore_n 2, 1) := by decide +kernel
theorem dX6_one_5 : decode cX6_one 5 = .ok (.iload_n 2, 1) := by decide +kernel
theorem dX6_one_6 : decode cX6_one 6 = .ok (.bipush 33, 2) := by decide +kernel
theorem dX6_one_8 : decode cX6_one 8 = .ok (.if_icmp .eq 9, 3) := by decide +kernel
theorem dX6_one_11 : decode cX6_one 11 = .ok (.iload_n 2, 1) := by decide +kernel
theorem dX6_one_12 : decode cX6_one 12 = .ok (.bipush 40, 2) := by decide +kernel
theorem dX6_one_14 : decode cX6_one 14 = .ok (.if_icmp .ne 7, 3) := by decide +kernel
theorem dX6_one_17 : decode cX6_one 17 = .ok (.iconst 1, 1) := by decide +kernel
theorem dX6_one_18 : decode cX6_one 18 = .ok (.goto 4, 3) := by decide +kernel
theorem dX6_one_21 : decode cX6_one 21 = .ok (.iconst 0, 1) := by decide +kernel
theorem dX6_one_22 : decode cX6_one 22 = .ok (.istore_n 3, 1) := by decide +kernel
theorem dX6_one_23 : decode cX6_one 23 = .ok (.iload_n 3, 1) := by decide +kernel
theorem dX6_one_24 : decode cX6_one 24 = .ok (.ifCond .eq 10, 3) := by decide +kernel
theorem dX6_one_27 : decode cX6_one 27 = .ok (.iload_n 1, 1) := by decide +kernel
theorem dX6_one_28 : decode cX6_one 28 = .ok (.iconst 5, 1) := by decide +kernel
theorem dX6_one_29 : decode cX6_one 29 = .ok (.if_icmp .lt 5, 3) := by decide +kernel
theorem dX6_one_32 : decode cX6_one 32 = .ok (.iconst 0, 1) := by decide +kernel
theorem dX6_one_33 : decode cX6_one 33 = .ok (.ireturn, 1) := by decide +kernel
theorem dX6_one_34 : decode cX6_one 34 = .ok (.aload_n 0, 1) := by decide +kernel
theorem dX6_one_35 : decode cX6_one 35 = .ok (.bipush 40, 2) := by decide +kernel
theorem dX6_one_37 : decode cX6_one 37 = .ok (.invokevirtual 44, 3) := by decide +kernel
theorem dX6_one_40 : decode cX6_one 40 = .ok (.ifCond .eq 28, 3) := by decide +kernel
theorem dX6_one_43 : decode cX6_one 43 = .ok (.aload_n 0, 1) := by decide +kernel
theorem dX6_one_44 : decode cX6_one 44 = .ok (.iload_n 1, 1) := by decide +kernel
theorem dX6_one_45 : decode cX6_one 45 = .ok (.iconst 1, 1) := by decide +kernel
theorem dX6_one_46 : decode cX6_one 46 = .ok (.iadd, 1) := by decide +kernel
theorem dX6_one_47 : decode cX6_one 47 = .ok (.invokevirtual 58, 3) := by decide +kernel
theorem dX6_one_50 : decode cX6_one 50 = .ok (.ifCond .eq 16, 3) := by decide +kernel
theorem dX6_one_53 : decode cX6_one 53 = .ok (.aload_n 0, 1) := by decide +kernel
theorem dX6_one_54 : decode cX6_one 54 = .ok (.bipush 41, 2) := by decide +kernel
theorem dX6_one_56 : decode cX6_one 56 = .ok (.invokevirtual 44, 3) := by decide +kernel
theorem dX6_one_59 : decode cX6_one 59 = .ok (.ifCond .eq 7, 3) := by decide +kernel
theorem dX6_one_62 : decode cX6_one 62 = .ok (.iconst 1, 1) := by decide +kernel
theorem dX6_one_63 : decode cX6_one 63 = .ok (.goto 4, 3) := by decide +kernel
theorem dX6_one_66 : decode cX6_one 66 = .ok (.iconst 0, 1) := by decide +kernel
theorem dX6_one_67 : decode cX6_one 67 = .ok (.ireturn, 1) := by decide +kernel
theorem dX6_one_68 : decode cX6_one 68 = .ok (.aload_n 0, 1) := by decide +kernel
theorem dX6_one_69 : decode cX6_one 69 = .ok (.bipush 33, 2) := by decide +kernel
theorem dX6_one_71 : decode cX6_one 71 = .ok (.invokevirtual 44, 3) := by decide +kernel
theorem dX6_one_74 : decode cX6_one 74 = .ok (.ifCond .eq 20, 3) := by decide +kernel
theorem dX6_one_77 : decode cX6_one 77 = .ok (.aload_n 0, 1) := by decide +kernel
theorem dX6_one_78 : decode cX6_one 78 = .ok (.iload_n 1, 1) := by decide +kernel
theorem dX6_one_79 : decode cX6_one 79 = .ok (.iconst 1, 1) := by decide +kernel
theorem dX6_one_80 : decode cX6_one 80 = .ok (.iadd, 1) := by decide +kernel
theorem dX6_one_81 : decode cX6_one 81 = .ok (.invokestatic 79, 3) := by decide +kernel
theorem dX6_one_84 : decode cX6_one 84 = .ok (.istore 4, 2) := by decide +kernel
theorem dX6_one_86 : decode cX6_one 86 = .ok (.aload_n 0, 1) := by decide +kernel
theorem dX6_one_87 : decode cX6_one 87 = .ok (.iconst (-1), 1) := by decide +kernel
theorem dX6_one_88 : decode cX6_one 88 = .ok (.invokevirtual 64, 3) := by decide +kernel
theorem dX6_one_91 : decode cX6_one 91 = .ok (.iload 4, 2) := by decide +kernel
theorem dX6_one_93 : decode cX6_one 93 = .ok (.ireturn, 1) := by decide +kernel
theorem dX6_one_94 : decode cX6_one 94 = .ok (.iload_n 2, 1) := by decide +kernel
theorem dX6_one_95 : decode cX6_one 95 = .ok (.invokestatic 83, 3) := by decide +kernel
theorem dX6_one_98 : decode cX6_one 98 = .ok (.istore 4, 2) := by decide +kernel
theorem dX6_one_100 : decode cX6_one 100 = .ok (.iload 4, 2) := by decide +kernel
theorem dX6_one_102 : decode cX6_one 102 = .ok (.ifCond .ge 5, 3) := by decide +kernel
theorem dX6_one_105 : decode cX6_one 105 = .ok (.iconst 0, 1) := by decide +kernel
theorem dX6_one_106 : decode cX6_one 106 = .ok (.ireturn, 1) := by decide +kernel
theorem dX6_one_107 : decode cX6_one 107 = .ok (.aload_n 0, 1) := by decide +kernel
theorem dX6_one_108 : decode cX6_one 108 = .ok (.dup, 1) := by decide +kernel
theorem dX6_one_109 : decode cX6_one 109 = .ok (.getfield 28, 3) := by decide +kernel
theorem dX6_one_112 : decode cX6_one 112 = .ok (.iconst 1, 1) := by decide +kernel
theorem dX6_one_113 : decode cX6_one 113 = .ok (.iadd, 1) := by decide +kernel
theorem dX6_one_114 : decode cX6_one 114 = .ok (.putfield 28, 3) := by decide +kernel
theorem dX6_one_117 : decode cX6_one 117 = .ok (.aload_n 0, 1) := by decide +kernel
theorem dX6_one_118 : decode cX6_one 118 = .ok (.invokevirtual 48, 3) := by decide +kernel
theorem dX6_one_121 : decode cX6_one 121 = .ok (.invokestatic 86, 3) := by decide +kernel
theorem dX6_one_124 : decode cX6_one 124 = .ok (.istore 5, 2) := by decide +kernel
theorem dX6_one_126 : decode cX6_one 126 = .ok (.iload 5, 2) := by decide +kernel
theorem dX6_one_128 : decode cX6_one 128 = .ok (.ifCond .ge 5, 3) := by decide +kernel
theorem dX6_one_131 : decode cX6_one 131 = .ok (.iconst 0, 1) := by decide +kernel
theorem dX6_one_132 : decode cX6_one 132 = .ok (.ireturn, 1) := by decide +kernel
theorem dX6_one_133 : decode cX6_one 133 = .ok (.aload_n 0, 1) := by decide +kernel
theorem dX6_one_134 : decode cX6_one 134 = .ok (.dup, 1) := by decide +kernel
theorem dX6_one_135 : decode cX6_one 135 = .ok (.getfield 28, 3) := by decide +kernel
theorem dX6_one_138 : decode cX6_one 138 = .ok (.iconst 1, 1) := by decide +kernel
theorem dX6_one_139 : decode cX6_one 139 = .ok (.iadd, 1) := by decide +kernel
theorem dX6_one_140 : decode cX6_one 140 = .ok (.putfield 28, 3) := by decide +kernel
theorem dX6_one_143 : decode cX6_one 143 = .ok (.aload_n 0, 1) := by decide +kernel
theorem dX6_one_144 : decode cX6_one 144 = .ok (.invokevirtual 55, 3) := by decide +kernel
theorem dX6_one_147 : decode cX6_one 147 = .ok (.istore 6, 2) := by decide +kernel
theorem dX6_one_149 : decode cX6_one 149 = .ok (.iload 6, 2) := by decide +kernel
theorem dX6_one_151 : decode cX6_one 151 = .ok (.ifCond .ge 5, 3) := by decide +kernel
theorem dX6_one_154 : decode cX6_one 154 = .ok (.iconst 0, 1) := by decide +kernel
theorem dX6_one_155 : decode cX6_one 155 = .ok (.ireturn, 1) := by decide +kernel
theorem dX6_one_156 : decode cX6_one 156 = .ok (.aload_n 0, 1) := by decide +kernel
theorem dX6_one_157 : decode cX6_one 157 = .ok (.iload 4, 2) := by decide +kernel
theorem dX6_one_159 : decode cX6_one 159 = .ok (.iload 5, 2) := by decide +kernel
theorem dX6_one_161 : decode cX6_one 161 = .ok (.iload 6, 2) := by decide +kernel
theorem dX6_one_163 : decode cX6_one 163 = .ok (.invokestatic 89, 3) := by decide +kernel
theorem dX6_one_166 : decode cX6_one 166 = .ok (.invokevirtual 64, 3) := by decide +kernel
theorem dX6_one_169 : decode cX6_one 169 = .ok (.iconst 1, 1) := by decide +kernel
theorem dX6_one_170 : decode cX6_one 170 = .ok (.ireturn, 1) := by decide +kernel
set_option maxRecDepth 20000 in
theorem r_X6_one : m_Right (yX6_one, cX6_one, 7, (some .boolean)) q_X6_one := m_right_nd (m_right_nd (m_right_nd (m_right_nd (m_right_nd (m_right_nd (m_right_lf ⟨1, dX6_one_0, rfl, rfl, rfl⟩) (m_right_lf ⟨3, dX6_one_1, rfl, rfl, 41, 0, 6, (yX6_peek, cX6_peek, 1, (some .int)), rfl, me_X6_peek, mc_X6_peek, Or.inl ⟨(RX6, TX6, 7), rfl, rfl⟩, wd_406, wd_408, wd_3, wd_64⟩)) (m_right_nd (m_right_lf ⟨1, dX6_one_4, rfl, rfl, rfl⟩) (m_right_nd (m_right_lf ⟨1, dX6_one_5, rfl, rfl, rfl⟩) (m_right_lf ⟨2, dX6_one_6, rfl, rfl, by decide +kernel⟩)))) (m_right_nd (m_right_nd (m_right_lf ⟨3, dX6_one_8, rfl, rfl, 17, rfl, by decide⟩) (m_right_nd (m_right_lf ⟨1, dX6_one_11, rfl, rfl, rfl⟩) (m_right_lf ⟨2, dX6_one_12, rfl, rfl, by decide +kernel⟩))) (m_right_nd (m_right_lf ⟨3, dX6_one_14, rfl, rfl, 21, rfl, by decide⟩) (m_right_nd (m_right_lf ⟨1, dX6_one_17, rfl, rfl, by decide +kernel⟩) (m_right_lf ⟨3, dX6_one_18, rfl, 22, rfl, by decide⟩))))) (m_right_nd (m_right_nd (m_right_nd (m_right_lf ⟨1, dX6_one_21, rfl, rfl, by decide +kernel⟩) (m_right_nd (m_right_lf ⟨1, dX6_one_22, rfl, rfl, rfl⟩) (m_right_lf ⟨1, dX6_one_23, rfl, rfl, rfl⟩))) (m_right_nd (m_right_lf ⟨3, dX6_one_24, rfl, rfl, 34, rfl, by decide⟩) (m_right_nd (m_right_lf ⟨1, dX6_one_27, rfl, rfl, rfl⟩) (m_right_lf ⟨1, dX6_one_28, rfl, rfl, by decide +kernel⟩)))) (m_right_nd (m_right_nd (m_right_lf ⟨3, dX6_one_29, rfl, rfl, 34, rfl, by decide⟩) (m_right_nd (m_right_lf ⟨1, dX6_one_32, rfl, rfl, by decide +kernel⟩) (m_right_lf ⟨1, dX6_one_33, rfl, 1, .boolean, rfl, rfl, Or.inr (Or.inl ⟨rfl, rfl⟩)⟩))) (m_right_nd (m_right_lf ⟨1, dX6_one_34, rfl, rfl, rfl⟩) (m_right_nd (m_right_lf ⟨2, dX6_one_35, rfl, rfl, by decide +kernel⟩) (m_right_lf ⟨3, dX6_one_37, rfl, rfl, 42, 1, 6, (yX6_sign, cX6_sign, 2, (some .boolean)), rfl, me_X6_sign, mc_X6_sign, Or.inl ⟨(RX6, TX6, 7), rfl, rfl⟩, wd_402, wd_404, wd_2, wd_64⟩)))))) (m_right_nd (m_right_nd (m_right_nd (m_right_nd (m_right_lf ⟨3, dX6_one_40, rfl, rfl, 68, rfl, by decide⟩) (m_right_nd (m_right_lf ⟨1, dX6_one_43, rfl, rfl, rfl⟩) (m_right_lf ⟨1, dX6_one_44, rfl, rfl, rfl⟩))) (m_right_nd (m_right_lf ⟨1, dX6_one_45, rfl, rfl, by decide +kernel⟩) (m_right_nd (m_right_lf ⟨1, dX6_one_46, rfl, rfl⟩) (m_right_lf ⟨3, dX6_one_47, rfl, rfl, 48, 1, 6, (yX6_either, cX6_either, 4, (some .boolean)), rfl, me_X6_either, mc_X6_either, Or.inl ⟨(RX6, TX6, 7), rfl, rfl⟩, wd_421, wd_423, wd_6, wd_64⟩)))) (m_right_nd (m_right_nd (m_right_lf ⟨3, dX6_one_50, rfl, rfl, 66, rfl, by decide⟩) (m_right_nd (m_right_lf ⟨1, dX6_one_53, rfl, rfl, rfl⟩) (m_right_lf ⟨2, dX6_one_54, rfl, rfl, by decide +kernel⟩))) (m_right_nd (m_right_lf ⟨3, dX6_one_56, rfl, rfl, 42, 1, 6, (yX6_sign, cX6_sign, 2, (some .boolean)), rfl, me_X6_sign, mc_X6_sign, Or.inl ⟨(RX6, TX6, 7), rfl, rfl⟩, wd_402, wd_404, wd_2, wd_64⟩) (m_right_nd (m_right_lf ⟨3, dX6_one_59, rfl, rfl, 66, rfl, by decide⟩) (m_right_lf ⟨1, dX6_one_62, rfl, rfl, by decide +kernel⟩))))) (m_right_nd (m_right_nd (m_right_nd (m_right_lf ⟨3, dX6_one_63, rfl, 67, rfl, by decide⟩) (m_right_nd (m_right_lf ⟨1, dX6_one_66, rfl, rfl, by decide +kernel⟩) (m_right_lf ⟨1, dX6_one_67, rfl, 1, .boolean, rfl, rfl, Or.inr (Or.inl ⟨rfl, rfl⟩)⟩))) (m_right_nd (m_right_lf ⟨1, dX6_one_68, rfl, rfl, rfl⟩) (m_right_nd (m_right_lf ⟨2, dX6_one_69, rfl, rfl, by decide +kernel⟩) (m_right_lf ⟨3, dX6_one_71, rfl, rfl, 42, 1, 6, (yX6_sign, cX6_sign, 2, (some .boolean)), rfl, me_X6_sign, mc_X6_sign, Or.inl ⟨(RX6, TX6, 7), rfl, rfl⟩, wd_402, wd_404, wd_2, wd_64⟩)))) (m_right_nd (m_right_nd (m_right_lf ⟨3, dX6_one_74, rfl, rfl, 94, rfl, by decide⟩) (m_right_nd (m_right_lf ⟨1, dX6_one_77, rfl, rfl, rfl⟩) (m_right_lf ⟨1, dX6_one_78, rfl, rfl, rfl⟩))) (m_right_nd (m_right_lf ⟨1, dX6_one_79, rfl, rfl, by decide +kernel⟩) (m_right_nd (m_right_lf ⟨1, dX6_one_80, rfl, rfl⟩) (m_right_lf ⟨3, dX6_one_81, rfl, rfl, Or.inr (Or.inr ⟨50, 2, (yX6_one, cX6_one, 7, (some .boolean)), rfl, me_X6_one, mc_X6_one, wd_429, wd_430, wd_64⟩)⟩))))))) (m_right_nd (m_right_nd (m_right_nd (m_right_nd (m_right_nd (m_right_lf ⟨2, dX6_one_84, rfl, rfl, rfl⟩) (m_right_nd (m_right_lf ⟨1, dX6_one_86, rfl, rfl, rfl⟩) (m_right_lf ⟨1, dX6_one_87, rfl, rfl, by decide +kernel⟩))) (m_right_nd (m_right_lf ⟨3, dX6_one_88, rfl, rfl, 53, 1, 6, (yX6_put, cX6_put, 2, none), rfl, me_X6_put, mc_X6_put, Or.inl ⟨(RX6, TX6, 7), rfl, rfl⟩, wd_432, wd_434, wd_8, wd_64⟩) (m_right_nd (m_right_lf ⟨2, dX6_one_91, rfl, rfl, rfl⟩) (m_right_lf ⟨1, dX6_one_93, rfl, 1, .boolean, rfl, rfl, Or.inr (Or.inl ⟨rfl, rfl⟩)⟩)))) (m_right_nd (m_right_nd (m_right_lf ⟨1, dX6_one_94, rfl, rfl, rfl⟩) (m_right_nd (m_right_lf ⟨3, dX6_one_95, rfl, rfl, Or.inr (Or.inr ⟨51, 1, (yX6_aboutOf, cX6_aboutOf, 1, (some .int)), rfl, me_X6_aboutOf, mc_X6_aboutOf, wd_436, wd_437, wd_64⟩)⟩) (m_right_lf ⟨2, dX6_one_98, rfl, rfl, rfl⟩))) (m_right_nd (m_right_lf ⟨2, dX6_one_100, rfl, rfl, rfl⟩) (m_right_nd (m_right_lf ⟨3, dX6_one_102, rfl, rfl, 107, rfl, by decide⟩) (m_right_lf ⟨1, dX6_one_105, rfl, rfl, by decide +kernel⟩))))) (m_right_nd (m_right_nd (m_right_nd (m_right_lf ⟨1, dX6_one_106, rfl, 1, .boolean, rfl, rfl, Or.inr (Or.inl ⟨rfl, rfl⟩)⟩) (m_right_nd (m_right_lf ⟨1, dX6_one_107, rfl, rfl, rfl⟩) (m_right_lf ⟨1, dX6_one_108, rfl, rfl⟩))) (m_right_nd (m_right_lf ⟨3, dX6_one_109, rfl, rfl, 6, 0, rfl, Or.inl ⟨(RX6, TX6, 7), rfl, by decide, wd_175⟩⟩) (m_right_nd (m_right_lf ⟨1, dX6_one_112, rfl, rfl, by decide +kernel⟩) (m_right_lf ⟨1, dX6_one_113, rfl, rfl⟩)))) (m_right_nd (m_right_nd (m_right_lf ⟨3, dX6_one_114, rfl, rfl, 6, 0, 0, (RX6, TX6, 7), rfl, rfl, by decide, wd_175, Or.inl rfl, tyX6 0, tyX6_ok 0 (by decide), Or.inl ⟨rfl, rfl⟩⟩) (m_right_nd (m_right_lf ⟨1, dX6_one_117, rfl, rfl, rfl⟩) (m_right_lf ⟨3, dX6_one_118, rfl, rfl, 41, 0, 6, (yX6_peek, cX6_peek, 1, (some .int)), rfl, me_X6_peek, mc_X6_peek, Or.inl ⟨(RX6, TX6, 7), rfl, rfl⟩, wd_406, wd_408, wd_3, wd_64⟩))) (m_right_nd (m_right_lf ⟨3, dX6_one_121, rfl, rfl, Or.inr (Or.inr ⟨52, 1, (yX6_comparisonOf, cX6_comparisonOf, 1, (some .int)), rfl, me_X6_comparisonOf, mc_X6_comparisonOf, wd_439, wd_440, wd_64⟩)⟩) (m_right_nd (m_right_lf ⟨2, dX6_one_124, rfl, rfl, rfl⟩) (m_right_lf ⟨2, dX6_one_126, rfl, rfl, rfl⟩)))))) (m_right_nd (m_right_nd (m_right_nd (m_right_nd (m_right_lf ⟨3, dX6_one_128, rfl, rfl, 133, rfl, by decide⟩) (m_right_nd (m_right_lf ⟨1, dX6_one_131, rfl, rfl, by decide +kernel⟩) (m_right_lf ⟨1, dX6_one_132, rfl, 1, .boolean, rfl, rfl, Or.inr (Or.inl ⟨rfl, rfl⟩)⟩))) (m_right_nd (m_right_lf ⟨1, dX6_one_133, rfl, rfl, rfl⟩) (m_right_nd (m_right_lf ⟨1, dX6_one_134, rfl, rfl⟩) (m_right_lf ⟨3, dX6_one_135, rfl, rfl, 6, 0, rfl, Or.inl ⟨(RX6, TX6, 7), rfl, by decide, wd_175⟩⟩)))) (m_right_nd (m_right_nd (m_right_lf ⟨1, dX6_one_138, rfl, rfl, by decide +kernel⟩) (m_right_nd (m_right_lf ⟨1, dX6_one_139, rfl, rfl⟩) (m_right_lf ⟨3, dX6_one_140, rfl, rfl, 6, 0, 0, (RX6, TX6, 7), rfl, rfl, by decide, wd_175, Or.inl rfl, tyX6 0, tyX6_ok 0 (by decide), Or.inl ⟨rfl, rfl⟩⟩))) (m_right_nd (m_right_lf ⟨1, dX6_one_143, rfl, rfl, rfl⟩) (m_right_nd (m_right_lf ⟨3, dX6_one_144, rfl, rfl, 46, 0, 6, (yX6_number, cX6_number, 3, (some .int)), rfl, me_X6_number, mc_X6_number, Or.inl ⟨(RX6, TX6, 7), rfl, rfl⟩, wd_414, wd_416, wd_5, wd_64⟩) (m_right_lf ⟨2, dX6_one_147, rfl, rfl, rfl⟩))))) (m_right_nd (m_right_nd (m_right_nd (m_right_lf ⟨2, dX6_one_149, rfl, rfl, rfl⟩) (m_right_nd (m_right_lf ⟨3, dX6_one_151, rfl, rfl, 156, rfl, by decide⟩) (m_right_lf ⟨1, dX6_one_154, rfl, rfl, by decide +kernel⟩))) (m_right_nd (m_right_lf ⟨1, dX6_one_155, rfl, 1, .boolean, rfl, rfl, Or.inr (Or.inl ⟨rfl, rfl⟩)⟩) (m_right_nd (m_right_lf ⟨1, dX6_one_156, rfl, rfl, rfl⟩) (m_right_lf ⟨2, dX6_one_157, rfl, rfl, rfl⟩)))) (m_right_nd (m_right_nd (m_right_lf ⟨2, dX6_one_159, rfl, rfl, rfl⟩) (m_right_nd (m_right_lf ⟨2, dX6_one_161, rfl, rfl, rfl⟩) (m_right_lf ⟨3, dX6_one_163, rfl, rfl, Or.inr (Or.inr ⟨26, 3, (yX3_testOf, cX3_testOf, 3, (some .int)), rfl, me_X3_testOf, mc_X3_testOf, wd_442, wd_443, wd_73⟩)⟩))) (m_right_nd (m_right_lf ⟨3, dX6_one_166, rfl, rfl, 53, 1, 6, (yX6_put, cX6_put, 2, none), rfl, me_X6_put, mc_X6_put, Or.inl ⟨(RX6, TX6, 7), rfl, rfl⟩, wd_432, wd_434, wd_8, wd_64⟩) (m_right_nd (m_right_lf ⟨1, dX6_one_169, rfl, rfl, by decide +kernel⟩) (m_right_lf ⟨1, dX6_one_170, rfl, 1, .boolean, rfl, rfl, Or.inr (Or.inl ⟨rfl, rfl⟩)⟩)))))))
theorem dX6_aboutOf_0 : decode cX6_aboutOf 0 = .ok (.iload_n 0, 1) := by decide +kernel
theorem dX6_aboutOf_1 : decode cX6_aboutOf 1 = .ok (.tableswitch 65 103 112 #[63, 65, 65, 65, 57, 65, 59, 65, 61, 55], 55) := by decide +kernel
theorem dX6_aboutOf_56 : decode cX6_aboutOf 56 = .ok (.iconst 0, 1) := by decide +kernel
theorem dX6_aboutOf_57 : decode cX6_aboutOf 57 = .ok (.ireturn, 1) := by decide +kernel
theorem dX6_aboutOf_58 : decode cX6_aboutOf 58 = .ok (.iconst 1, 1) := by decide +kernel
theorem dX6_aboutOf_59 : decode cX6_aboutOf 59 = .ok (.ireturn, 1) := by decide +kernel
theorem dX6_aboutOf_60 : decode cX6_aboutOf 60 = .ok (.iconst 2, 1) := by decide +kernel
theorem dX6_aboutOf_61 : decode cX6_aboutOf 61 = .ok (.ireturn, 1) := by decide +kernel
theorem dX6_aboutOf_62 : decode cX6_aboutOf 62 = .ok (.iconst 3, 1) := by decide +kernel
theorem dX6_aboutOf_63 : decode cX6_aboutOf 63 = .ok (.ireturn, 1) := by decide +kernel
theorem dX6_aboutOf_64 : decode cX6_aboutOf 64 = .ok (.iconst 4, 1) := by decide +kernel
theorem dX6_aboutOf_65 : decode cX6_aboutOf 65 = .ok (.ireturn, 1) := by decide +kernel
theorem dX6_aboutOf_66 : decode cX6_aboutOf 66 = .ok (.iconst (-1), 1) := by decide +kernel
theorem dX6_aboutOf_67 : decode cX6_aboutOf 67 = .ok (.ireturn, 1) := by decide +kernel
set_option maxRecDepth 20000 in
theorem r_X6_aboutOf : m_Right (yX6_aboutOf, cX6_aboutOf, 1, (some .int)) q_X6_aboutOf := m_right_nd (m_right_nd (m_right_nd (m_right_lf ⟨1, dX6_aboutOf_0, rfl, rfl, rfl⟩) (m_right_nd (m_right_lf ⟨55, dX6_aboutOf_1, 66, [64, 66, 66, 66, 58, 66, 60, 66, 62, 56], rfl, by decide, by decide +kernel⟩) (m_right_lf ⟨1, dX6_aboutOf_56, rfl, rfl, by decide +kernel⟩))) (m_right_nd (m_right_nd (m_right_lf ⟨1, dX6_aboutOf_57, rfl, 0, .int, rfl, rfl, Or.inl ⟨rfl, rfl⟩⟩) (m_right_lf ⟨1, dX6_aboutOf_58, rfl, rfl, by decide +kernel⟩)) (m_right_nd (m_right_lf ⟨1, dX6_aboutOf_59, rfl, 0, .int, rfl, rfl, Or.inl ⟨rfl, rfl⟩⟩) (m_right_lf ⟨1, dX6_aboutOf_60, rfl, rfl, by decide +kernel⟩)))) (m_right_nd (m_right_nd (m_right_lf ⟨1, dX6_aboutOf_61, rfl, 0, .int, rfl, rfl, Or.inl ⟨rfl, rfl⟩⟩) (m_right_nd (m_right_lf ⟨1, dX6_aboutOf_62, rfl, rfl, by decide +kernel⟩) (m_right_lf ⟨1, dX6_aboutOf_63, rfl, 0, .int, rfl, rfl, Or.inl ⟨rfl, rfl⟩⟩))) (m_right_nd (m_right_nd (m_right_lf ⟨1, dX6_aboutOf_64, rfl, rfl, by decide +kernel⟩) (m_right_lf ⟨1, dX6_aboutOf_65, rfl, 0, .int, rfl, rfl, Or.inl ⟨rfl, rfl⟩⟩)) (m_right_nd (m_right_lf ⟨1, dX6_aboutOf_66, rfl, rfl, by decide +kernel⟩) (m_right_lf ⟨1, dX6_aboutOf_67, rfl, 0, .int, rfl, rfl, Or.inl ⟨rfl, rfl⟩⟩))))
theorem dX6_comparisonOf_0 : decode cX6_comparisonOf 0 = .ok (.iload_n 0, 1) := by decide +kernel
theorem dX6_comparisonOf_1 : decode cX6_comparisonOf 1 = .ok (.tableswitch 33 60 62 #[27, 29, 31], 27) := by decide +kernel
theorem dX6_comparisonOf_28 : decode cX6_comparisonOf 28 = .ok (.iconst 0, 1) := by decide +kernel
theorem dX6_comparisonOf_29 : decode cX6_comparisonOf 29 = .ok (.ireturn, 1) := by decide +kernel
theorem dX6_comparisonOf_30 : decode cX6_comparisonOf 30 = .ok (.iconst 1, 1) := by decide +kernel
theorem dX6_comparisonOf_31 : decode cX6_comparisonOf 31 = .ok (.ireturn, 1) := by decide +kernel
theorem dX6_comparisonOf_32 : decode cX6_comparisonOf 32 = .ok (.iconst 2, 1) := by decide +kernel
theorem dX6_comparisonOf_33 : decode cX6_comparisonOf 33 = .ok (.ireturn, 1) := by decide +kernel
theorem dX6_comparisonOf_34 : decode cX6_comparisonOf 34 = .ok (.iconst (-1), 1) := by decide +kernel
theorem dX6_comparisonOf_35 : decode cX6_comparisonOf 35 = .ok (.ireturn, 1) := by decide +kernel
set_option maxRecDepth 20000 in
theorem r_X6_comparisonOf : m_Right (yX6_comparisonOf, cX6_comparisonOf, 1, (some .int)) q_X6_comparisonOf := m_right_nd (m_right_nd (m_right_nd (m_right_lf ⟨1, dX6_comparisonOf_0, rfl, rfl, rfl⟩) (m_right_lf ⟨27, dX6_comparisonOf_1, 34, [28, 30, 32], rfl, by decide, by decide +kernel⟩)) (m_right_nd (m_right_lf ⟨1, dX6_comparisonOf_28, rfl, rfl, by decide +kernel⟩) (m_right_nd (m_right_lf ⟨1, dX6_comparisonOf_29, rfl, 0, .int, rfl, rfl, Or.inl ⟨rfl, rfl⟩⟩) (m_right_lf ⟨1, dX6_comparisonOf_30, rfl, rfl, by decide +kernel⟩)))) (m_right_nd (m_right_nd (m_right_lf ⟨1, dX6_comparisonOf_31, rfl, 0, .int, rfl, rfl, Or.inl ⟨rfl, rfl⟩⟩) (m_right_lf ⟨1, dX6_comparisonOf_32, rfl, rfl, by decide +kernel⟩)) (m_right_nd (m_right_lf ⟨1, dX6_comparisonOf_33, rfl, 0, .int, rfl, rfl, Or.inl ⟨rfl, rfl⟩⟩) (m_right_nd (m_right_lf ⟨1, dX6_comparisonOf_34, rfl, rfl, by decide +kernel⟩) (m_right_lf ⟨1, dX6_comparisonOf_35, rfl, 0, .int, rfl, rfl, Or.inl ⟨rfl, rfl⟩⟩))))
theorem dX6_put_0 : decode cX6_put 0 = .ok (.aload_n 0, 1) := by decide +kernel
theorem dX6_put_1 : decode cX6_put 1 = .ok (.getfield 37, 3) := by decide +kernel
theorem dX6_put_4 : decode cX6_put 4 = .ok (.bipush 100, 2) := by decide +kernel
theorem dX6_put_6 : decode cX6_put 6 = .ok (.if_icmp .ge 23, 3) := by decide +kernel
theorem dX6_put_9 : decode cX6_put 9 = .ok (.aload_n 0, 1) := by decide +kernel
theorem dX6_put_10 : decode cX6_put 10 = .ok (.getfield 9, 3) := by decide +kernel
theorem dX6_put_13 : decode cX6_put 13 = .ok (.aload_n 0, 1) := by decide +kernel
theorem dX6_put_14 : decode cX6_put 14 = .ok (.getfield 37, 3) := by decide +kernel
theorem dX6_put_17 : decode cX6_put 17 = .ok (.iload_n 1, 1) := by decide +kernel
theorem dX6_put_18 : decode cX6_put 18 = .ok (.iastore, 1) := by decide +kernel
theorem dX6_put_19 : decode cX6_put 19 = .ok (.aload_n 0, 1) := by decide +kernel
theorem dX6_put_20 : decode cX6_put 20 = .ok (.dup, 1) := by decide +kernel
theorem dX6_put_21 : decode cX6_put 21 = .ok (.getfield 37, 3) := by decide +kernel
theorem dX6_put_24 : decode cX6_put 24 = .ok (.iconst 1, 1) := by decide +kernel
theorem dX6_put_25 : decode cX6_put 25 = .ok (.iadd, 1) := by decide +kernel
theorem dX6_put_26 : decode cX6_put 26 = .ok (.putfield 37, 3) := by decide +kernel
theorem dX6_put_29 : decode cX6_put 29 = .ok (.return_, 1) := by decide +kernel
set_option maxRecDepth 20000 in
theorem r_X6_put : m_Right (yX6_put, cX6_put, 2, none) q_X6_put := m_right_nd (m_right_nd (m_right_nd (m_right_nd (m_right_lf ⟨1, dX6_put_0, rfl, rfl, rfl⟩) (m_right_lf ⟨3, dX6_put_1, rfl, rfl, 6, 4, rfl, Or.inl ⟨(RX6, TX6, 7), rfl, by decide, wd_184⟩⟩)) (m_right_nd (m_right_lf ⟨2, dX6_put_4, rfl, rfl, by decide +kernel⟩) (m_right_lf ⟨3, dX6_put_6, rfl, rfl, 29, rfl, by decide⟩))) (m_right_nd (m_right_nd (m_right_lf ⟨1, dX6_put_9, rfl, rfl, rfl⟩) (m_right_lf ⟨3, dX6_put_10, rfl, rfl, 6, 3, rfl, Or.inl ⟨(RX6, TX6, 7), rfl, by decide, wd_181⟩⟩)) (m_right_nd (m_right_lf ⟨1, dX6_put_13, rfl, rfl, rfl⟩) (m_right_lf ⟨3, dX6_put_14, rfl, rfl, 6, 4, rfl, Or.inl ⟨(RX6, TX6, 7), rfl, by decide, wd_184⟩⟩)))) (m_right_nd (m_right_nd (m_right_nd (m_right_lf ⟨1, dX6_put_17, rfl, rfl, rfl⟩) (m_right_lf ⟨1, dX6_put_18, rfl, rfl⟩)) (m_right_nd (m_right_lf ⟨1, dX6_put_19, rfl, rfl, rfl⟩) (m_right_lf ⟨1, dX6_put_20, rfl, rfl⟩))) (m_right_nd (m_right_nd (m_right_lf ⟨3, dX6_put_21, rfl, rfl, 6, 4, rfl, Or.inl ⟨(RX6, TX6, 7), rfl, by decide, wd_184⟩⟩) (m_right_lf ⟨1, dX6_put_24, rfl, rfl, by decide +kernel⟩)) (m_right_nd (m_right_lf ⟨1, dX6_put_25, rfl, rfl⟩) (m_right_nd (m_right_lf ⟨3, dX6_put_26, rfl, rfl, 6, 4, 0, (RX6, TX6, 7), rfl, rfl, by decide, wd_184, Or.inl rfl, tyX6 4, tyX6_ok 4 (by decide), Or.inl ⟨rfl, rfl⟩⟩) (m_right_lf ⟨1, dX6_put_29, rfl, rfl⟩)))))
theorem dX7_init_0 : decode cX7_init 0 = .ok (.aload_n 0, 1) := by decide +kernel
theorem dX7_init_1 : decode cX7_init 1 = .ok (.invokespecial 3, 3) := by decide +kernel
theorem dX7_init_4 : decode cX7_init 4 = .ok (.aload_n 0, 1) := by decide +kernel
theorem dX7_init_5 : decode cX7_init 5 = .ok (.iconst 5, 1) := by decide +kernel
theorem dX7_init_6 : decode cX7_init 6 = .ok (.newarray .int, 2) := by decide +kernel
theorem dX7_init_8 : decode cX7_init 8 = .ok (.putfield 9, 3) := by decide +kernel
theorem dX7_init_11 : decode cX7_init 11 = .ok (.aload_n 0, 1) := by decide +kernel
theorem dX7_init_12 : decode cX7_init 12 = .ok (.iconst 5, 1) := by decide +kernel
theorem dX7_init_13 : decode cX7_init 13 = .ok (.newarray .int, 2) := by decide +kernel
theorem dX7_init_15 : decode cX7_init 15 = .ok (.putfield 15, 3) := by decide +kernel
theorem dX7_init_18 : decode cX7_init 18 = .ok (.aload_n 0, 1) := by decide +kernel
theorem dX7_init_19 : decode cX7_init 19 = .ok (.iconst 5, 1) := by decide +kernel
theorem dX7_init_20 : decode cX7_init 20 = .ok (.newarray .int, 2) := by decide +kernel
theorem dX7_init_22 : decode cX7_init 22 = .ok (.putfield 18, 3) := by decide +kernel
theorem dX7_init_25 : decode cX7_init 25 = .ok (.aload_n 0, 1) := by decide +kernel
theorem dX7_init_26 : decode cX7_init 26 = .ok (.bipush 20, 2) := by decide +kernel
theorem dX7_init_28 : decode cX7_init 28 = .ok (.newarray .int, 2) := by decide +kernel
theorem dX7_init_30 : decode cX7_init 30 = .ok (.putfield 21, 3) := by decide +kernel
theorem dX7_init_33 : decode cX7_init 33 = .ok (.aload_n 0, 1) := by decide +kernel
theorem dX7_init_34 : decode cX7_init 34 = .ok (.bipush 100, 2) := by decide +kernel
theorem dX7_init_36 : decode cX7_init 36 = .ok (.newarray .int, 2) := by decide +kernel
theorem dX7_init_38 : decode cX7_init 38 = .ok (.putfield 24, 3) := by decide +kernel
theorem dX7_init_41 : decode cX7_init 41 = .ok (.aload_n 0, 1) := by decide +kernel
theorem dX7_init_42 : decode cX7_init 42 = .ok (.bipush 8, 2) := by decide +kernel
theorem dX7_init_44 : decode cX7_init 44 = .ok (.newarray .int, 2) := by decide +kernel
theorem dX7_init_46 : decode cX7_init 46 = .ok (.putfield 27, 3) := by decide +kernel
theorem dX7_init_49 : decode cX7_init 49 = .ok (.aload_n 0, 1) := by decide +kernel
theorem dX7_init_50 : decode cX7_init 50 = .ok (.bipush 8, 2) := by decide +kernel
theorem dX7_init_52 : decode cX7_init 52 = .ok (.newarray .int, 2) := by decide +kernel
theorem dX7_init_54 : decode cX7_init 54 = .ok (.putfield 30, 3) := by decide +kernel
theorem dX7_init_57 : decode cX7_init 57 = .ok (.aload_n 0, 1) := by decide +kernel
theorem dX7_init_58 : decode cX7_init 58 = .ok (.bipush 8, 2) := by decide +kernel
theorem dX7_init_60 : decode cX7_init 60 = .ok (.newarray .int, 2) := by decide +kernel
theorem dX7_init_62 : decode cX7_init 62 = .ok (.putfield 33, 3) := by decide +kernel
theorem dX7_init_65 : decode cX7_init 65 = .ok (.aload_n 0, 1) := by decide +kernel
theorem dX7_init_66 : decode cX7_init 66 = .ok (.iconst 5, 1) := by decide +kernel
theorem dX7_init_67 : decode cX7_init 67 = .ok (.newarray .int, 2) := by decide +kernel
theorem dX7_init_69 : decode cX7_init 69 = .ok (.putfield 38, 3) := by decide +kernel
theorem dX7_init_72 : decode cX7_init 72 = .ok (.return_, 1) := by decide +kernel
set_option maxRecDepth 20000 in
theorem r_X7_init : m_Right (yX7_init, cX7_init, 1, none) q_X7_init := m_right_nd (m_right_nd (m_right_nd (m_right_nd (m_right_nd (m_right_lf ⟨1, dX7_init_0, rfl, rfl, rfl⟩) (m_right_lf ⟨3, dX7_init_1, rfl, rfl, Or.inl ⟨rfl, wd_93, wd_86, wd_87⟩⟩)) (m_right_nd (m_right_lf ⟨1, dX7_init_4, rfl, rfl, rfl⟩) (m_right_lf ⟨1, dX7_init_5, rfl, rfl, by decide +kernel⟩))) (m_right_nd (m_right_nd (m_right_lf ⟨2, dX7_init_6, rfl, rfl, Or.inl ⟨rfl, rfl⟩, wd_168⟩) (m_right_lf ⟨3, dX7_init_8, rfl, rfl, 7, 1, 3, (RX7, TX7, 16), rfl, rfl, by decide, wd_98, Or.inr ⟨rfl, rfl, rfl⟩, tyX7 1, tyX7_ok 1 (by decide), Or.inr (Or.inr (Or.inr ⟨rfl, Or.inr ⟨_, rfl⟩⟩))⟩)) (m_right_nd (m_right_lf ⟨1, dX7_init_11, rfl, rfl, rfl⟩) (m_right_nd (m_right_lf ⟨1, dX7_init_12, rfl, rfl, by decide +kernel⟩) (m_right_lf ⟨2, dX7_init_13, rfl, rfl, Or.inl ⟨rfl, rfl⟩, wd_168⟩))))) (m_right_nd (m_right_nd (m_right_nd (m_right_lf ⟨3, dX7_init_15, rfl, rfl, 7, 2, 3, (RX7, TX7, 16), rfl, rfl, by decide, wd_100, Or.inr ⟨rfl, rfl, rfl⟩, tyX7 2, tyX7_ok 2 (by decide), Or.inr (Or.inr (Or.inr ⟨rfl, Or.inr ⟨_, rfl⟩⟩))⟩) (m_right_lf ⟨1, dX7_init_18, rfl, rfl, rfl⟩)) (m_right_nd (m_right_lf ⟨1, dX7_init_19, rfl, rfl, by decide +kernel⟩) (m_right_nd (m_right_lf ⟨2, dX7_init_20, rfl, rfl, Or.inl ⟨rfl, rfl⟩, wd_168⟩) (m_right_lf ⟨3, dX7_init_22, rfl, rfl, 7, 3, 3, (RX7, TX7, 16), rfl, rfl, by decide, wd_102, Or.inr ⟨rfl, rfl, rfl⟩, tyX7 3, tyX7_ok 3 (by decide), Or.inr (Or.inr (Or.inr ⟨rfl, Or.inr ⟨_, rfl⟩⟩))⟩)))) (m_right_nd (m_right_nd (m_right_lf ⟨1, dX7_init_25, rfl, rfl, rfl⟩) (m_right_lf ⟨2, dX7_init_26, rfl, rfl, by decide +kernel⟩)) (m_right_nd (m_right_lf ⟨2, dX7_init_28, rfl, rfl, Or.inl ⟨rfl, rfl⟩, wd_168⟩) (m_right_nd (m_right_lf ⟨3, dX7_init_30, rfl, rfl, 7, 4, 3, (RX7, TX7, 16), rfl, rfl, by decide, wd_108, Or.inr ⟨rfl, rfl, rfl⟩, tyX7 4, tyX7_ok 4 (by decide), Or.inr (Or.inr (Or.inr ⟨rfl, Or.inr ⟨_, rfl⟩⟩))⟩) (m_right_lf ⟨1, dX7_init_33, rfl, rfl, rfl⟩)))))) (m_right_nd (m_right_nd (m_right_nd (m_right_nd (m_right_lf ⟨2, dX7_init_34, rfl, rfl, by decide +kernel⟩) (m_right_lf ⟨2, dX7_init_36, rfl, rfl, Or.inl ⟨rfl, rfl⟩, wd_168⟩)) (m_right_nd (m_right_lf ⟨3, dX7_init_38, rfl, rfl, 7, 8, 3, (RX7, TX7, 16), rfl, rfl, by decide, wd_120, Or.inr ⟨rfl, rfl, rfl⟩, tyX7 8, tyX7_ok 8 (by decide), Or.inr (Or.inr (Or.inr ⟨rfl, Or.inr ⟨_, rfl⟩⟩))⟩) (m_right_nd (m_right_lf ⟨1, dX7_init_41, rfl, rfl, rfl⟩) (m_right_lf ⟨2, dX7_init_42, rfl, rfl, by decide +kernel⟩)))) (m_right_nd (m_right_nd (m_right_lf ⟨2, dX7_init_44, rfl, rfl, Or.inl ⟨rfl, rfl⟩, wd_168⟩) (m_right_lf ⟨3, dX7_init_46, rfl, rfl, 7, 10, 3, (RX7, TX7, 16), rfl, rfl, by decide, wd_124, Or.inr ⟨rfl, rfl, rfl⟩, tyX7 10, tyX7_ok 10 (by decide), Or.inr (Or.inr (Or.inr ⟨rfl, Or.inr ⟨_, rfl⟩⟩))⟩)) (m_right_nd (m_right_lf ⟨1, dX7_init_49, rfl, rfl, rfl⟩) (m_right_nd (m_right_lf ⟨2, dX7_init_50, rfl, rfl, by decide +kernel⟩) (m_right_lf ⟨2, dX7_init_52, rfl, rfl, Or.inl ⟨rfl, rfl⟩, wd_168⟩))))) (m_right_nd (m_right_nd (m_right_nd (m_right_lf ⟨3, dX7_init_54, rfl, rfl, 7, 11, 3, (RX7, TX7, 16), rfl, rfl, by decide, wd_126, Or.inr ⟨rfl, rfl, rfl⟩, tyX7 11, tyX7_ok 11 (by decide), Or.inr (Or.inr (Or.inr ⟨rfl, Or.inr ⟨_, rfl⟩⟩))⟩) (m_right_lf ⟨1, dX7_init_57, rfl, rfl, rfl⟩)) (m_right_nd (m_right_lf ⟨2, dX7_init_58, rfl, rfl, by decide +kernel⟩) (m_right_nd (m_right_lf ⟨2, dX7_init_60, rfl, rfl, Or.inl ⟨rfl, rfl⟩, wd_168⟩) (m_right_lf ⟨3, dX7_init_62, rfl, rfl, 7, 13, 3, (RX7, TX7, 16), rfl, rfl, by decide, wd_130, Or.inr ⟨rfl, rfl, rfl⟩, tyX7 13, tyX7_ok 13 (by decide), Or.inr (Or.inr (Or.inr ⟨rfl, Or.inr ⟨_, rfl⟩⟩))⟩)))) (m_right_nd (m_right_nd (m_right_lf ⟨1, dX7_init_65, rfl, rfl, rfl⟩) (m_right_lf ⟨1, dX7_init_66, rfl, rfl, by decide +kernel⟩)) (m_right_nd (m_right_lf ⟨2, dX7_init_67, rfl, rfl, Or.inl ⟨rfl, rfl⟩, wd_168⟩) (m_right_nd (m_right_lf ⟨3, dX7_init_69, rfl, rfl, 7, 15, 3, (RX7, TX7, 16), rfl, rfl, by decide, wd_134, Or.inr ⟨rfl, rfl, rfl⟩, tyX7 15, tyX7_ok 15 (by decide), Or.inr (Or.inr (Or.inr ⟨rfl, Or.inr ⟨_, rfl⟩⟩))⟩) (m_right_lf ⟨1, dX7_init_72, rfl, rfl⟩))))))
theorem dX7_becomes_0 : decode cX7_becomes 0 = .ok (.aload_n 0, 1) := by decide +kernel
theorem dX7_becomes_1 : decode cX7_becomes 1 = .ok (.aload_n 1, 1) := by decide +kernel
theorem dX7_becomes_2 : decode cX7_becomes 2 = .ok (.getfield 41, 3) := by decide +kernel
theorem dX7_becomes_5 : decode cX7_becomes 5 = .ok (.putfield 41, 3) := by decide +kernel
theorem dX7_becomes_8 : decode cX7_becomes 8 = .ok (.aload_n 1, 1) := by decide +kernel
theorem dX7_becomes_9 : decode cX7_becomes 9 = .ok (.getfield 9, 3) := by decide +kernel
theorem dX7_becomes_12 : decode cX7_becomes 12 = .ok (.iconst 0, 1) := by decide +kernel
theorem dX7_becomes_13 : decode cX7_becomes 13 = .ok (.aload_n 0, 1) := by decide +kernel
theorem dX7_becomes_14 : decode cX7_becomes 14 = .ok (.getfield 9, 3) := by decide +kernel
theorem dX7_becomes_17 : decode cX7_becomes 17 = .ok (.iconst 0, 1) := by decide +kernel
theorem dX7_becomes_18 : decode cX7_becomes 18 = .ok (.iconst 5, 1) := by decide +kernel
theorem dX7_becomes_19 : decode cX7_becomes 19 = .ok (.invokestatic 45, 3) := by decide +kernel
theorem dX7_becomes_22 : decode cX7_becomes 22 = .ok (.aload_n 1, 1) := by decide +kernel
theorem dX7_becomes_23 : decode cX7_becomes 23 = .ok (.getfield 15, 3) := by decide +kernel
theorem dX7_becomes_26 : decode cX7_becomes 26 = .ok (.iconst 0, 1) := by decide +kernel
theorem dX7_becomes_27 : decode cX7_becomes 27 = .ok (.aload_n 0, 1) := by decide +kernel
theorem dX7_becomes_28 : decode cX7_becomes 28 = .ok (.getfield 15, 3) := by decide +kernel
theorem dX7_becomes_31 : decode cX7_becomes 31 = .ok (.iconst 0, 1) := by decide +kernel
theorem dX7_becomes_32 : decode cX7_becomes 32 = .ok (.iconst 5, 1) := by decide +kernel
theorem dX7_becomes_33 : decode cX7_becomes 33 = .ok (.invokestatic 45, 3) := by decide +kernel
theorem dX7_becomes_36 : decode cX7_becomes 36 = .ok (.aload_n 1, 1) := by decide +kernel
theorem dX7_becomes_37 : decode cX7_becomes 37 = .ok (.getfield 18, 3) := by decide +kernel
theorem dX7_becomes_40 : decode cX7_becomes 40 = .ok (.iconst 0, 1) := by decide +kernel
theorem dX7_becomes_41 : decode cX7_becomes 41 = .ok (.aload_n 0, 1) := by decide +kernel
theorem dX7_becomes_42 : decode cX7_becomes 42 = .ok (.getfield 18, 3) := by decide +kernel
theorem dX7_becomes_45 : decode cX7_becomes 45 = .ok (.iconst 0, 1) := by decide +kernel
theorem dX7_becomes_46 : decode cX7_becomes 46 = .ok (.iconst 5, 1) := by decide +kernel
theorem dX7_becomes_47 : decode cX7_becomes 47 = .ok (.invokestatic 45, 3) := by decide +kernel
theorem dX7_becomes_50 : decode cX7_becomes 50 = .ok (.aload_n 1, 1) := by decide +kernel
theorem dX7_becomes_51 : decode cX7_becomes 51 = .ok (.getfield 21, 3) := by decide +kernel
theorem dX7_becomes_54 : decode cX7_becomes 54 = .ok (.iconst 0, 1) := by decide +kernel
theorem dX7_becomes_55 : decode cX7_becomes 55 = .ok (.aload_n 0, 1) := by decide +kernel
theorem dX7_becomes_56 : decode cX7_becomes 56 = .ok (.getfield 21, 3) := by decide +kernel
theorem dX7_becomes_59 : decode cX7_becomes 59 = .ok (.iconst 0, 1) := by decide +kernel
theorem dX7_becomes_60 : decode cX7_becomes 60 = .ok (.bipush 20, 2) := by decide +kernel
theorem dX7_becomes_62 : decode cX7_becomes 62 = .ok (.invokestatic 45, 3) := by decide +kernel
theorem dX7_becomes_65 : decode cX7_becomes 65 = .ok (.aload_n 0, 1) := by decide +kernel
theorem dX7_becomes_66 : decode cX7_becomes 66 = .ok (.aload_n 1, 1) := by decide +kernel
theorem dX7_becomes_67 : decode cX7_becomes 67 = .ok (.getfield 51, 3) := by decide +kernel
theorem dX7_becomes_70 : decode cX7_becomes 70 = .ok (.putfield 51, 3) := by decide +kernel
theorem dX7_becomes_73 : decode cX7_becomes 73 = .ok (.aload_n 0, 1) := by decide +kernel
theorem dX7_becomes_74 : decode cX7_becomes 74 = .ok (.aload_n 1, 1) := by decide +kernel
theorem dX7_becomes_75 : decode cX7_becomes 75 = .ok (.getfield 54, 3) := by decide +kernel
theorem dX7_becomes_78 : decode cX7_becomes 78 = .ok (.putfield 54, 3) := by decide +kernel
theorem dX7_becomes_81 : decode cX7_becomes 81 = .ok (.aload_n 0, 1) := by decide +kernel
theorem dX7_becomes_82 : decode cX7_becomes 82 = .ok (.aload_n 1, 1) := by decide +kernel
theorem dX7_becomes_83 : decode cX7_becomes 83 = .ok (.getfield 57, 3) := by decide +kernel
theorem dX7_becomes_86 : decode cX7_becomes 86 = .ok (.putfield 57, 3) := by decide +kernel
theorem dX7_becomes_89 : decode cX7_becomes 89 = .ok (.aload_n 1, 1) := by decide +kernel
theorem dX7_becomes_90 : decode cX7_becomes 90 = .ok (.getfield 24, 3) := by decide +kernel
theorem dX7_becomes_93 : decode cX7_becomes 93 = .ok (.iconst 0, 1) := by decide +kernel
theorem dX7_becomes_94 : decode cX7_becomes 94 = .ok (.aload_n 0, 1) := by decide +kernel
theorem dX7_becomes_95 : decode cX7_becomes 95 = .ok (.getfield 24, 3) := by decide +kernel
theorem dX7_becomes_98 : decode cX7_becomes 98 = .ok (.iconst 0, 1) := by decide +kernel
theorem dX7_becomes_99 : decode cX7_becomes 99 = .ok (.bipush 100, 2) := by decide +kernel
theorem dX7_becomes_101 : decode cX7_becomes 101 = .ok (.invokestatic 45, 3) := by decide +kernel
theorem dX7_becomes_104 : decode cX7_becomes 104 = .ok (.aload_n 0, 1) := by decide +kernel
theorem dX7_becomes_105 : decode cX7_becomes 105 = .ok (.aload_n 1, 1) := by decide +kernel
theorem dX7_becomes_106 : decode cX7_becomes 106 = .ok (.getfield 61, 3) := by decide +kernel
theorem dX7_becomes_109 : decode cX7_becomes 109 = .ok (.putfield 61, 3) := by decide +kernel
theorem dX7_becomes_112 : decode cX7_becomes 112 = .ok (.aload_n 1, 1) := by decide +kernel
theorem dX7_becomes_113 : decode cX7_becomes 113 = .ok (.getfield 27, 3) := by decide +kernel
theorem dX7_becomes_116 : decode cX7_becomes 116 = .ok (.iconst 0, 1) := by decide +kernel
theorem dX7_becomes_117 : decode cX7_becomes 117 = .ok (.aload_n 0, 1) := by decide +kernel
theorem dX7_becomes_118 : decode cX7_becomes 118 = .ok (.getfield 27, 3) := by decide +kernel
theorem dX7_becomes_121 : decode cX7_becomes 121 = .ok (.iconst 0, 1) := by decide +kernel
theorem dX7_becomes_122 : decode cX7_becomes 122 = .ok (.bipush 8, 2) := by decide +kernel
theorem dX7_becomes_124 : decode cX7_becomes 124 = .ok (.invokestatic 45, 3) := by decide +kernel
theorem dX7_becomes_127 : decode cX7_becomes 127 = .ok (.aload_n 1, 1) := by decide +kernel
theorem dX7_becomes_128 : decode cX7_becomes 128 = .ok (.getfield 30, 3) := by decide +kernel
theorem dX7_becomes_131 : decode cX7_becomes 131 = .ok (.iconst 0, 1) := by decide +kernel
theorem dX7_becomes_132 : decode cX7_becomes 132 = .ok (.aload_n 0, 1) := by decide +kernel
theorem dX7_becomes_133 : decode cX7_becomes 133 = .ok (.getfield 30, 3) := by decide +kernel
theorem dX7_becomes_136 : decode cX7_becomes 136 = .ok (.iconst 0, 1) := by decide +kernel
theorem dX7_becomes_137 : decode cX7_becomes 137 = .ok (.bipush 8, 2) := by decide +kernel
theorem dX7_becomes_139 : decode cX7_becomes 139 = .ok (.invokestatic 45, 3) := by decide +kernel
theorem dX7_becomes_142 : decode cX7_becomes 142 = .ok (.aload_n 0, 1) := by decide +kernel
theorem dX7_becomes_143 : decode cX7_becomes 143 = .ok (.aload_n 1, 1) := by decide +kernel
theorem dX7_becomes_144 : decode cX7_becomes 144 = .ok (.getfield 64, 3) := by decide +kernel
theorem dX7_becomes_147 : decode cX7_becomes 147 = .ok (.putfield 64, 3) := by decide +kernel
theorem dX7_becomes_150 : decode cX7_becomes 150 = .ok (.aload_n 1, 1) := by decide +kernel
theorem dX7_becomes_151 : decode cX7_becomes 151 = .ok (.getfield 33, 3) := by decide +kernel
theorem dX7_becomes_154 : decode cX7_becomes 154 = .ok (.iconst 0, 1) := by decide +kernel
theorem dX7_becomes_155 : decode cX7_becomes 155 = .ok (.aload_n 0, 1) := by decide +kernel
theorem dX7_becomes_156 : decode cX7_becomes 156 = .ok (.getfield 33, 3) := by decide +kernel
theorem dX7_becomes_159 : decode cX7_becomes 159 = .ok (.iconst 0, 1) := by decide +kernel
theorem dX7_becomes_160 : decode cX7_becomes 160 = .ok (.bipush 8, 2) := by decide +kernel
theorem dX7_becomes_162 : decode cX7_becomes 162 = .ok (.invokestatic 45, 3) := by decide +kernel
theorem dX7_becomes_165 : decode cX7_becomes 165 = .ok (.aload_n 0, 1) := by decide +kernel
theorem dX7_becomes_166 : decode cX7_becomes 166 = .ok (.aload_n 1, 1) := by decide +kernel
theorem dX7_becomes_167 : decode cX7_becomes 167 = .ok (.getfield 67, 3) := by decide +kernel
theorem dX7_becomes_170 : decode cX7_becomes 170 = .ok (.putfield 67, 3) := by decide +kernel
theorem dX7_becomes_173 : decode cX7_becomes 173 = .ok (.return_, 1) := by decide +kernel
set_option maxRecDepth 20000 in
theorem r_X7_becomes : m_Right (yX7_becomes, cX7_becomes, 2, none) q_X7_becomes := m_right_nd (m_right_nd (m_right_nd (m_right_nd (m_right_nd (m_right_nd (m_right_lf ⟨1, dX7_becomes_0, rfl, rfl, rfl⟩) (m_right_lf ⟨1, dX7_becomes_1, rfl, rfl, rfl⟩)) (m_right_nd (m_right_lf ⟨3, dX7_becomes_2, rfl, rfl, 7, 0, rfl, Or.inl ⟨(RX7, TX7, 16), rfl, by decide, wd_94⟩⟩) (m_right_nd (m_right_lf ⟨3, dX7_becomes_5, rfl, rfl, 7, 0, 0, (RX7, TX7, 16), rfl, rfl, by decide, wd_94, Or.inl rfl, tyX7 0, tyX7_ok 0 (by decide), Or.inl ⟨rfl, rfl⟩⟩) (m_right_lf ⟨1, dX7_becomes_8, rfl, rfl, rfl⟩)))) (m_right_nd (m_right_nd (m_right_lf ⟨3, dX7_becomes_9, rfl, rfl, 7, 1, rfl, Or.inl ⟨(RX7, TX7, 16), rfl, by decide, wd_98⟩⟩) (m_right_nd (m_right_lf ⟨1, dX7_becomes_12, rfl, rfl, by decide +kernel⟩) (m_right_lf ⟨1, dX7_becomes_13, rfl, rfl, rfl⟩))) (m_right_nd (m_right_lf ⟨3, dX7_becomes_14, rfl, rfl, 7, 1, rfl, Or.inl ⟨(RX7, TX7, 16), rfl, by decide, wd_98⟩⟩) (m_right_nd (m_right_lf ⟨1, dX7_becomes_17, rfl, rfl, by decide +kernel⟩) (m_right_lf ⟨1, dX7_becomes_18, rfl, rfl, by decide +kernel⟩))))) (m_right_nd (m_right_nd (m_right_nd (m_right_lf ⟨3, dX7_becomes_19, rfl, rfl, Or.inr (Or.inl ⟨rfl, wd_751, wd_453, wd_452, wd_74⟩)⟩) (m_right_nd (m_right_lf ⟨1, dX7_becomes_22, rfl, rfl, rfl⟩) (m_right_lf ⟨3, dX7_becomes_23, rfl, rfl, 7, 2, rfl, Or.inl ⟨(RX7, TX7, 16), rfl, by decide, wd_100⟩⟩))) (m_right_nd (m_right_lf ⟨1, dX7_becomes_26, rfl, rfl, by decide +kernel⟩) (m_right_nd (m_right_lf ⟨1, dX7_becomes_27, rfl, rfl, rfl⟩) (m_right_lf ⟨3, dX7_becomes_28, rfl, rfl, 7, 2, rfl, Or.inl ⟨(RX7, TX7, 16), rfl, by decide, wd_100⟩⟩)))) (m_right_nd (m_right_nd (m_right_lf ⟨1, dX7_becomes_31, rfl, rfl, by decide +kernel⟩) (m_right_nd (m_right_lf ⟨1, dX7_becomes_32, rfl, rfl, by decide +kernel⟩) (m_right_lf ⟨3, dX7_becomes_33, rfl, rfl, Or.inr (Or.inl ⟨rfl, wd_751, wd_453, wd_452, wd_74⟩)⟩))) (m_right_nd (m_right_lf ⟨1, dX7_becomes_36, rfl, rfl, rfl⟩) (m_right_nd (m_right_lf ⟨3, dX7_becomes_37, rfl, rfl, 7, 3, rfl, Or.inl ⟨(RX7, TX7, 16), rfl, by decide, wd_102⟩⟩) (m_right_lf ⟨1, dX7_becomes_40, rfl, rfl, by decide +kernel⟩)))))) (m_right_nd (m_right_nd (m_right_nd (m_right_nd (m_right_lf ⟨1, dX7_becomes_41, rfl, rfl, rfl⟩) (m_right_lf ⟨3, dX7_becomes_42, rfl, rfl, 7, 3, rfl, Or.inl ⟨(RX7, TX7, 16), rfl, by decide, wd_102⟩⟩)) (m_right_nd (m_right_lf ⟨1, dX7_becomes_45, rfl, rfl, by decide +kernel⟩) (m_right_nd (m_right_lf ⟨1, dX7_becomes_46, rfl, rfl, by decide +kernel⟩) (m_right_lf ⟨3, dX7_becomes_47, rfl, rfl, Or.inr (Or.inl ⟨rfl, wd_751, wd_453, wd_452, wd_74⟩)⟩)))) (m_right_nd (m_right_nd (m_right_lf ⟨1, dX7_becomes_50, rfl, rfl, rfl⟩) (m_right_nd (m_right_lf ⟨3, dX7_becomes_51, rfl, rfl, 7, 4, rfl, Or.inl ⟨(RX7, TX7, 16), rfl, by decide, wd_108⟩⟩) (m_right_lf ⟨1, dX7_becomes_54, rfl, rfl, by decide +kernel⟩))) (m_right_nd (m_right_lf ⟨1, dX7_becomes_55, rfl, rfl, rfl⟩) (m_right_nd (m_right_lf ⟨3, dX7_becomes_56, rfl, rfl, 7, 4, rfl, Or.inl ⟨(RX7, TX7, 16), rfl, by decide, wd_108⟩⟩) (m_right_lf ⟨1, dX7_becomes_59, rfl, rfl, by decide +kernel⟩))))) (m_right_nd (m_right_nd (m_right_nd (m_right_lf ⟨2, dX7_becomes_60, rfl, rfl, by decide +kernel⟩) (m_right_nd (m_right_lf ⟨3, dX7_becomes_62, rfl, rfl, Or.inr (Or.inl ⟨rfl, wd_751, wd_453, wd_452, wd_74⟩)⟩) (m_right_lf ⟨1, dX7_becomes_65, rfl, rfl, rfl⟩))) (m_right_nd (m_right_lf ⟨1, dX7_becomes_66, rfl, rfl, rfl⟩) (m_right_nd (m_right_lf ⟨3, dX7_becomes_67, rfl, rfl, 7, 5, rfl, Or.inl ⟨(RX7, TX7, 16), rfl, by decide, wd_112⟩⟩) (m_right_lf ⟨3, dX7_becomes_70, rfl, rfl, 7, 5, 0, (RX7, TX7, 16), rfl, rfl, by decide, wd_112, Or.inl rfl, tyX7 5, tyX7_ok 5 (by decide), Or.inl ⟨rfl, rfl⟩⟩)))) (m_right_nd (m_right_nd (m_right_lf ⟨1, dX7_becomes_73, rfl, rfl, rfl⟩) (m_right_nd (m_right_lf ⟨1, dX7_becomes_74, rfl, rfl, rfl⟩) (m_right_lf ⟨3, dX7_becomes_75, rfl, rfl, 7, 6, rfl, Or.inl ⟨(RX7, TX7, 16), rfl, by decide, wd_116⟩⟩))) (m_right_nd (m_right_lf ⟨3, dX7_becomes_78, rfl, rfl, 7, 6, 0, (RX7, TX7, 16), rfl, rfl, by decide, wd_116, Or.inl rfl, tyX7 6, tyX7_ok 6 (by decide), Or.inl ⟨rfl, rfl⟩⟩) (m_right_nd (m_right_lf ⟨1, dX7_becomes_81, rfl, rfl, rfl⟩) (m_right_lf ⟨1, dX7_becomes_82, rfl, rfl, rfl⟩))))))) (m_right_nd (m_right_nd (m_right_nd (m_right_nd (m_right_nd (m_right_lf ⟨3, dX7_becomes_83, rfl, rfl, 7, 7, rfl, Or.inl ⟨(RX7, TX7, 16), rfl, by decide, wd_118⟩⟩) (m_right_lf ⟨3, dX7_becomes_86, rfl, rfl, 7, 7, 3, (RX7, TX7, 16), rfl, rfl, by decide, wd_118, Or.inl rfl, tyX7 7, tyX7_ok 7 (by decide), Or.inr (Or.inr (Or.inr ⟨rfl, Or.inl ⟨_, rfl⟩⟩))⟩)) (m_right_nd (m_right_lf ⟨1, dX7_becomes_89, rfl, rfl, rfl⟩) (m_right_nd (m_right_lf ⟨3, dX7_becomes_90, rfl, rfl, 7, 8, rfl, Or.inl ⟨(RX7, TX7, 16), rfl, by decide, wd_120⟩⟩) (m_right_lf ⟨1, dX7_becomes_93, rfl, rfl, by decide +kernel⟩)))) (m_right_nd (m_right_nd (m_right_lf ⟨1, dX7_becomes_94, rfl, rfl, rfl⟩) (m_right_nd (m_right_lf ⟨3, dX7_becomes_95, rfl, rfl, 7, 8, rfl, Or.inl ⟨(RX7, TX7, 16), rfl, by decide, wd_120⟩⟩) (m_right_lf ⟨1, dX7_becomes_98, rfl, rfl, by decide +kernel⟩))) (m_right_nd (m_right_lf ⟨2, dX7_becomes_99, rfl, rfl, by decide +kernel⟩) (m_right_nd (m_right_lf ⟨3, dX7_becomes_101, rfl, rfl, Or.inr (Or.inl ⟨rfl, wd_751, wd_453, wd_452, wd_74⟩)⟩) (m_right_lf ⟨1, dX7_becomes_104, rfl, rfl, rfl⟩))))) (m_right_nd (m_right_nd (m_right_nd (m_right_lf ⟨1, dX7_becomes_105, rfl, rfl, rfl⟩) (m_right_nd (m_right_lf ⟨3, dX7_becomes_106, rfl, rfl, 7, 9, rfl, Or.inl ⟨(RX7, TX7, 16), rfl, by decide, wd_123⟩⟩) (m_right_lf ⟨3, dX7_becomes_109, rfl, rfl, 7, 9, 0, (RX7, TX7, 16), rfl, rfl, by decide, wd_123, Or.inl rfl, tyX7 9, tyX7_ok 9 (by decide), Or.inl ⟨rfl, rfl⟩⟩))) (m_right_nd (m_right_lf ⟨1, dX7_becomes_112, rfl, rfl, rfl⟩) (m_right_nd (m_right_lf ⟨3, dX7_becomes_113, rfl, rfl, 7, 10, rfl, Or.inl ⟨(RX7, TX7, 16), rfl, by decide, wd_124⟩⟩) (m_right_lf ⟨1, dX7_becomes_116, rfl, rfl, by decide +kernel⟩)))) (m_right_nd (m_right_nd (m_right_lf ⟨1, dX7_becomes_117, rfl, rfl, rfl⟩) (m_right_nd (m_right_lf ⟨3, dX7_becomes_118, rfl, rfl, 7, 10, rfl, Or.inl ⟨(RX7, TX7, 16), rfl, by decide, wd_124⟩⟩) (m_right_lf ⟨1, dX7_becomes_121, rfl, rfl, by decide +kernel⟩))) (m_right_nd (m_right_lf ⟨2, dX7_becomes_122, rfl, rfl, by decide +kernel⟩) (m_right_nd (m_right_lf ⟨3, dX7_becomes_124, rfl, rfl, Or.inr (Or.inl ⟨rfl, wd_751, wd_453, wd_452, wd_74⟩)⟩) (m_right_lf ⟨1, dX7_becomes_127, rfl, rfl, rfl⟩)))))) (m_right_nd (m_right_nd (m_right_nd (m_right_nd (m_right_lf ⟨3, dX7_becomes_128, rfl, rfl, 7, 11, rfl, Or.inl ⟨(RX7, TX7, 16), rfl, by decide, wd_126⟩⟩) (m_right_nd (m_right_lf ⟨1, dX7_becomes_131, rfl, rfl, by decide +kernel⟩) (m_right_lf ⟨1, dX7_becomes_132, rfl, rfl, rfl⟩))) (m_right_nd (m_right_lf ⟨3, dX7_becomes_133, rfl, rfl, 7, 11, rfl, Or.inl ⟨(RX7, TX7, 16), rfl, by decide, wd_126⟩⟩) (m_right_nd (m_right_lf ⟨1, dX7_becomes_136, rfl, rfl, by decide +kernel⟩) (m_right_lf ⟨2, dX7_becomes_137, rfl, rfl, by decide +kernel⟩)))) (m_right_nd (m_right_nd (m_right_lf ⟨3, dX7_becomes_139, rfl, rfl, Or.inr (Or.inl ⟨rfl, wd_751, wd_453, wd_452, wd_74⟩)⟩) (m_right_nd (m_right_lf ⟨1, dX7_becomes_142, rfl, rfl, rfl⟩) (m_right_lf ⟨1, dX7_becomes_143, rfl, rfl, rfl⟩))) (m_right_nd (m_right_lf ⟨3, dX7_becomes_144, rfl, rfl, 7, 12, rfl, Or.inl ⟨(RX7, TX7, 16), rfl, by decide, wd_128⟩⟩) (m_right_nd (m_right_lf ⟨3, dX7_becomes_147, rfl, rfl, 7, 12, 0, (RX7, TX7, 16), rfl, rfl, by decide, wd_128, Or.inl rfl, tyX7 12, tyX7_ok 12 (by decide), Or.inl ⟨rfl, rfl⟩⟩) (m_right_lf ⟨1, dX7_becomes_150, rfl, rfl, rfl⟩))))) (m_right_nd (m_right_nd (m_right_nd (m_right_lf ⟨3, dX7_becomes_151, rfl, rfl, 7, 13, rfl, Or.inl ⟨(RX7, TX7, 16), rfl, by decide, wd_130⟩⟩) (m_right_nd (m_right_lf ⟨1, dX7_becomes_154, rfl, rfl, by decide +kernel⟩) (m_right_lf ⟨1, dX7_becomes_155, rfl, rfl, rfl⟩))) (m_right_nd (m_right_lf ⟨3, dX7_becomes_156, rfl, rfl, 7, 13, rfl, Or.inl ⟨(RX7, TX7, 16), rfl, by decide, wd_130⟩⟩) (m_right_nd (m_right_lf ⟨1, dX7_becomes_159, rfl, rfl, by decide +kernel⟩) (m_right_lf ⟨2, dX7_becomes_160, rfl, rfl, by decide +kernel⟩)))) (m_right_nd (m_right_nd (m_right_lf ⟨3, dX7_becomes_162, rfl, rfl, Or.inr (Or.inl ⟨rfl, wd_751, wd_453, wd_452, wd_74⟩)⟩) (m_right_nd (m_right_lf ⟨1, dX7_becomes_165, rfl, rfl, rfl⟩) (m_right_lf ⟨1, dX7_becomes_166, rfl, rfl, rfl⟩))) (m_right_nd (m_right_lf ⟨3, dX7_becomes_167, rfl, rfl, 7, 14, rfl, Or.inl ⟨(RX7, TX7, 16), rfl, by decide, wd_132⟩⟩) (m_right_nd (m_right_lf ⟨3, dX7_becomes_170, rfl, rfl, 7, 14, 0, (RX7, TX7, 16), rfl, rfl, by decide, wd_132, Or.inl rfl, tyX7 14, tyX7_ok 14 (by decide), Or.inl ⟨rfl, rfl⟩⟩) (m_right_lf ⟨1, dX7_becomes_173, rfl, rfl⟩)))))))
theorem dX7_comes_0 : decode cX7_comes 0 = .ok (.aload_n 0, 1) := by decide +kernel
theorem dX7_comes_1 : decode cX7_comes 1 = .ok (.getfield 9, 3) := by decide +kernel
theorem dX7_comes_4 : decode cX7_comes 4 = .ok (.aload_n 0, 1) := by decide +kernel
theorem dX7_comes_5 : decode cX7_comes 5 = .ok (.getfield 41, 3) := by decide +kernel
theorem dX7_comes_8 : decode cX7_comes 8 = .ok (.iload_n 1, 1) := by decide +kernel
theorem dX7_comes_9 : decode cX7_comes 9 = .ok (.iastore, 1) := by decide +kernel
theorem dX7_comes_10 : decode cX7_comes 10 = .ok (.aload_n 0, 1) := by decide +kernel
theorem dX7_comes_11 : decode cX7_comes 11 = .ok (.getfield 15, 3) := by decide +kernel
theorem dX7_comes_14 : decode cX7_comes 14 = .ok (.aload_n 0, 1) := by decide +kernel
theorem dX7_comes_15 : decode cX7_comes 15 = .ok (.getfield 41, 3) := by decide +kernel
theorem dX7_comes_18 : decode cX7_comes 18 = .ok (.iload_n 2, 1) := by decide +kernel
theorem dX7_comes_19 : decode cX7_comes 19 = .ok (.iastore, 1) := by decide +kernel
theorem dX7_comes_20 : decode cX7_comes 20 = .ok (.aload_n 0, 1) := by decide +kernel
theorem dX7_comes_21 : decode cX7_comes 21 = .ok (.getfield 18, 3) := by decide +kernel
theorem dX7_comes_24 : decode cX7_comes 24 = .ok (.aload_n 0, 1) := by decide +kernel
theorem dX7_comes_25 : decode cX7_comes 25 = .ok (.getfield 41, 3) := by decide +kernel
theorem dX7_comes_28 : decode cX7_comes 28 = .ok (.bipush 8, 2) := by decide +kernel
theorem dX7_comes_30 : decode cX7_comes 30 = .ok (.iastore, 1) := by decide +kernel
theorem dX7_comes_31 : decode cX7_comes 31 = .ok (.iconst 0, 1) := by decide +kernel
theorem dX7_comes_32 : decode cX7_comes 32 = .ok (.istore_n 3, 1) := by decide +kernel
theorem dX7_comes_33 : decode cX7_comes 33 = .ok (.iload_n 3, 1) := by decide +kernel
theorem dX7_comes_34 : decode cX7_comes 34 = .ok (.iconst 4, 1) := by decide +kernel
theorem dX7_comes_35 : decode cX7_comes 35 = .ok (.if_icmp .ge 23, 3) := by decide +kernel
theorem dX7_comes_38 : decode cX7_comes 38 = .ok (.aload_n 0, 1) := by decide +kernel
theorem dX7_comes_39 : decode cX7_comes 39 = .ok (.getfield 21, 3) := by decide +kernel
theorem dX7_comes_42 : decode cX7_comes 42 = .ok (.aload_n 0, 1) := by decide +kernel
theorem dX7_comes_43 : decode cX7_comes 43 = .ok (.getfield 41, 3) := by decide +kernel
theorem dX7_comes_46 : decode cX7_comes 46 = .ok (.iconst 4, 1) := by decide +kernel
theorem dX7_comes_47 : decode cX7_comes 47 = .ok (.imul, 1) := by decide +kernel
theorem dX7_comes_48 : decode cX7_comes 48 = .ok (.iload_n 3, 1) := by decide +kernel
theorem dX7_comes_49 : decode cX7_comes 49 = .ok (.iadd, 1) := by decide +kernel
theorem dX7_comes_50 : decode cX7_comes 50 = .ok (.iconst 4, 1) := by decide +kernel
theorem dX7_comes_51 : decode cX7_comes 51 = .ok (.iastore, 1) := by decide +kernel
theorem dX7_comes_52 : decode cX7_comes 52 = .ok (.iinc 3 1, 3) := by decide +kernel
theorem dX7_comes_55 : decode cX7_comes 55 = .ok (.goto (-22), 3) := by decide +kernel
theorem dX7_comes_58 : decode cX7_comes 58 = .ok (.aload_n 0, 1) := by decide +kernel
theorem dX7_comes_59 : decode cX7_comes 59 = .ok (.dup, 1) := by decide +kernel
theorem dX7_comes_60 : decode cX7_comes 60 = .ok (.getfield 41, 3) := by decide +kernel
theorem dX7_comes_63 : decode cX7_comes 63 = .ok (.iconst 1, 1) := by decide +kernel
theorem dX7_comes_64 : decode cX7_comes 64 = .ok (.iadd, 1) := by decide +kernel
theorem dX7_comes_65 : decode cX7_comes 65 = .ok (.putfield 41, 3) := by decide +kernel
theorem dX7_comes_68 : decode cX7_comes 68 = .ok (.return_, 1) := by decide +kernel
set_option maxRecDepth 20000 in
theorem r_X7_comes : m_Right (yX7_comes, cX7_comes, 4, none) q_X7_comes := m_right_nd (m_right_nd (m_right_nd (m_right_nd (m_right_nd (m_right_lf ⟨1, dX7_comes_0, rfl, rfl, rfl⟩) (m_right_lf ⟨3, dX7_comes_1, rfl, rfl, 7, 1, rfl, Or.inl ⟨(RX7, TX7, 16), rfl, by decide, wd_98⟩⟩)) (m_right_nd (m_right_lf ⟨1, dX7_comes_4, rfl, rfl, rfl⟩) (m_right_nd (m_right_lf ⟨3, dX7_comes_5, rfl, rfl, 7, 0, rfl, Or.inl ⟨(RX7, TX7, 16), rfl, by decide, wd_94⟩⟩) (m_right_lf ⟨1, dX7_comes_8, rfl, rfl, rfl⟩)))) (m_right_nd (m_right_nd (m_right_lf ⟨1, dX7_comes_9, rfl, rfl⟩) (m_right_lf ⟨1, dX7_comes_10, rfl, rfl, rfl⟩)) (m_right_nd (m_right_lf ⟨3, dX7_comes_11, rfl, rfl, 7, 2, rfl, Or.inl ⟨(RX7, TX7, 16), rfl, by decide, wd_100⟩⟩) (m_right_nd (m_right_lf ⟨1, dX7_comes_14, rfl, rfl, rfl⟩) (m_right_lf ⟨3, dX7_comes_15, rfl, rfl, 7, 0, rfl, Or.inl ⟨(RX7, TX7, 16), rfl, by decide, wd_94⟩⟩))))) (m_right_nd (m_right_nd (m_right_nd (m_right_lf ⟨1, dX7_comes_18, rfl, rfl, rfl⟩) (m_right_lf ⟨1, dX7_comes_19, rfl, rfl⟩)) (m_right_nd (m_right_lf ⟨1, dX7_comes_20, rfl, rfl, rfl⟩) (m_right_nd (m_right_lf ⟨3, dX7_comes_21, rfl, rfl, 7, 3, rfl, Or.inl ⟨(RX7, TX7, 16), rfl, by decide, wd_102⟩⟩) (m_right_lf ⟨1, dX7_comes_24, rfl, rfl, rfl⟩)))) (m_right_nd (m_right_nd (m_right_lf ⟨3, dX7_comes_25, rfl, rfl, 7, 0, rfl, Or.inl ⟨(RX7, TX7, 16), rfl, by decide, wd_94⟩⟩) (m_right_nd (m_right_lf ⟨2, dX7_comes_28, rfl, rfl, by decide +kernel⟩) (m_right_lf ⟨1, dX7_comes_30, rfl, rfl⟩))) (m_right_nd (m_right_lf ⟨1, dX7_comes_31, rfl, rfl, by decide +kernel⟩) (m_right_nd (m_right_lf ⟨1, dX7_comes_32, rfl, rfl, rfl⟩) (m_right_lf ⟨1, dX7_comes_33, rfl, rfl, rfl⟩)))))) (m_right_nd (m_right_nd (m_right_nd (m_right_nd (m_right_lf ⟨1, dX7_comes_34, rfl, rfl, by decide +kernel⟩) (m_right_lf ⟨3, dX7_comes_35, rfl, rfl, 58, rfl, by decide⟩)) (m_right_nd (m_right_lf ⟨1, dX7_comes_38, rfl, rfl, rfl⟩) (m_right_nd (m_right_lf ⟨3, dX7_comes_39, rfl, rfl, 7, 4, rfl, Or.inl ⟨(RX7, TX7, 16), rfl, by decide, wd_108⟩⟩) (m_right_lf ⟨1, dX7_comes_42, rfl, rfl, rfl⟩)))) (m_right_nd (m_right_nd (m_right_lf ⟨3, dX7_comes_43, rfl, rfl, 7, 0, rfl, Or.inl ⟨(RX7, TX7, 16), rfl, by decide, wd_94⟩⟩) (m_right_lf ⟨1, dX7_comes_46, rfl, rfl, by decide +kernel⟩)) (m_right_nd (m_right_lf ⟨1, dX7_comes_47, rfl, rfl⟩) (m_right_nd (m_right_lf ⟨1, dX7_comes_48, rfl, rfl, rfl⟩) (m_right_lf ⟨1, dX7_comes_49, rfl, rfl⟩))))) (m_right_nd (m_right_nd (m_right_nd (m_right_lf ⟨1, dX7_comes_50, rfl, rfl, by decide +kernel⟩) (m_right_lf ⟨1, dX7_comes_51, rfl, rfl⟩)) (m_right_nd (m_right_lf ⟨3, dX7_comes_52, rfl, rfl, rfl, by decide +kernel⟩) (m_right_nd (m_right_lf ⟨3, dX7_comes_55, rfl, 33, rfl, by decide⟩) (m_right_lf ⟨1, dX7_comes_58, rfl, rfl, rfl⟩)))) (m_right_nd (m_right_nd (m_right_lf ⟨1, dX7_comes_59, rfl, rfl⟩) (m_right_nd (m_right_lf ⟨3, dX7_comes_60, rfl, rfl, 7, 0, rfl, Or.inl ⟨(RX7, TX7, 16), rfl, by decide, wd_94⟩⟩) (m_right_lf ⟨1, dX7_comes_63, rfl, rfl, by decide +kernel⟩))) (m_right_nd (m_right_lf ⟨1, dX7_comes_64, rfl, rfl⟩) (m_right_nd (m_right_lf ⟨3, dX7_comes_65, rfl, rfl, 7, 0, 0, (RX7, TX7, 16), rfl, rfl, by decide, wd_94, Or.inl rfl, tyX7 0, tyX7_ok 0 (by decide), Or.inl ⟨rfl, rfl⟩⟩) (m_right_lf ⟨1, dX7_comes_68, rfl, rfl⟩))))))
theorem dX7_less_0 : decode cX7_less 0 = .ok (.aload_n 0, 1) := by decide +kernel
theorem dX7_less_1 : decode cX7_less 1 = .ok (.getfield 57, 3) := by decide +kernel
theorem dX7_less_4 : decode cX7_less 4 = .ok (.ifnonnull 7, 3) := by decide +kernel
theorem dX7_less_7 : decode cX7_less 7 = .ok (.iconst 1, 1) := by decide +kernel
theorem dX7_less_8 : decode cX7_less 8 = .ok (.goto 10, 3) := by decide +kernel
theorem dX7_less_11 : decode cX7_less 11 = .ok (.aload_n 0, 1) := by decide +kernel
theorem dX7_less_12 : decode cX7_less 12 = .ok (.getfield 57, 3) := by decide +kernel
theorem dX7_less_15 : decode cX7_less 15 = .ok (.getfield 70, 3) := by decide +kernel
theorem dX7_less_18 : decode cX7_less 18 = .ok (.ireturn, 1) := by decide +kernel
set_option maxRecDepth 20000 in
theorem r_X7_less : m_Right (yX7_less, cX7_less, 1, (some .int)) q_X7_less := m_right_nd (m_right_nd (m_right_nd (m_right_lf ⟨1, dX7_less_0, rfl, rfl, rfl⟩) (m_right_lf ⟨3, dX7_less_1, rfl, rfl, 7, 7, rfl, Or.inl ⟨(RX7, TX7, 16), rfl, by decide, wd_118⟩⟩)) (m_right_nd (m_right_lf ⟨3, dX7_less_4, rfl, rfl, 11, rfl, by decide⟩) (m_right_lf ⟨1, dX7_less_7, rfl, rfl, by decide +kernel⟩))) (m_right_nd (m_right_nd (m_right_lf ⟨3, dX7_less_8, rfl, 18, rfl, by decide⟩) (m_right_lf ⟨1, dX7_less_11, rfl, rfl, rfl⟩)) (m_right_nd (m_right_lf ⟨3, dX7_less_12, rfl, rfl, 7, 7, rfl, Or.inl ⟨(RX7, TX7, 16), rfl, by decide, wd_118⟩⟩) (m_right_nd (m_right_lf ⟨3, dX7_less_15, rfl, rfl, 3, 0, rfl, Or.inl ⟨(RX3, TX3, 3), rfl, by decide, wd_455⟩⟩) (m_right_lf ⟨1, dX7_less_18, rfl, 0, .int, rfl, rfl, Or.inl ⟨rfl, rfl⟩⟩))))
theorem dX7_more_0 : decode cX7_more 0 = .ok (.aload_n 0, 1) := by decide +kernel
theorem dX7_more_1 : decode cX7_more 1 = .ok (.getfield 57, 3) := by decide +kernel
theorem dX7_more_4 : decode cX7_more 4 = .ok (.ifnonnull 7, 3) := by decide +kernel
theorem dX7_more_7 : decode cX7_more 7 = .ok (.iconst 1, 1) := by decide +kernel
theorem dX7_more_8 : decode cX7_more 8 = .ok (.goto 10, 3) := by decide +kernel
theorem dX7_more_11 : decode cX7_more 11 = .ok (.aload_n 0, 1) := by decide +kernel
theorem dX7_more_12 : decode cX7_more 12 = .ok (.getfield 57, 3) := by decide +kernel
theorem dX7_more_15 : decode cX7_more 15 = .ok (.getfield 73, 3) := by decide +kernel
theorem dX7_more_18 : decode cX7_more 18 = .ok (.ireturn, 1) := by decide +kernel
set_option maxRecDepth 20000 in
theorem r_X7_more : m_Right (yX7_more, cX7_more, 1, (some .int)) q_X7_more := m_right_nd (m_right_nd (m_right_nd (m_right_lf ⟨1, dX7_more_0, rfl, rfl, rfl⟩) (m_right_lf ⟨3, dX7_more_1, rfl, rfl, 7, 7, rfl, Or.inl ⟨(RX7, TX7, 16), rfl, by decide, wd_118⟩⟩)) (m_right_nd (m_right_lf ⟨3, dX7_more_4, rfl, rfl, 11, rfl, by decide⟩) (m_right_lf ⟨1, dX7_more_7, rfl, rfl, by decide +kernel⟩))) (m_right_nd (m_right_nd (m_right_lf ⟨3, dX7_more_8, rfl, 18, rfl, by decide⟩) (m_right_lf ⟨1, dX7_more_11, rfl, rfl, rfl⟩)) (m_right_nd (m_right_lf ⟨3, dX7_more_12, rfl, rfl, 7, 7, rfl, Or.inl ⟨(RX7, TX7, 16), rfl, by decide, wd_118⟩⟩) (m_right_nd (m_right_lf ⟨3, dX7_more_15, rfl, rfl, 3, 1, rfl, Or.inl ⟨(RX3, TX3, 3), rfl, by decide, wd_457⟩⟩) (m_right_lf ⟨1, dX7_more_18, rfl, 0, .int, rfl, rfl, Or.inl ⟨rfl, rfl⟩⟩))))
theorem dX7_menIfWon_0 : decode cX7_menIfWon 0 = .ok (.iconst 1, 1) := by decide +kernel
theorem dX7_menIfWon_1 : decode cX7_menIfWon 1 = .ok (.iload_n 1, 1) := by decide +kernel
theorem dX7_menIfWon_2 : decode cX7_menIfWon 2 = .ok (.aload_n 0, 1) := by decide +kernel
theorem dX7_menIfWon_3 : decode cX7_menIfWon 3 = .ok (.invokevirtual 76, 3) := by decide +kernel
theorem dX7_menIfWon_6 : decode cX7_menIfWon 6 = .ok (.isub, 1) := by decide +kernel
theorem dX7_menIfWon_7 : decode cX7_menIfWon 7 = .ok (.invokestatic 79, 3) := by decide +kernel
theorem dX7_menIfWon_10 : decode cX7_menIfWon 10 = .ok (.ireturn, 1) := by decide +kernel
set_option maxRecDepth 20000 in
theorem r_X7_menIfWon : m_Right (yX7_menIfWon, cX7_menIfWon, 2, (some .int)) q_X7_menIfWon := m_right_nd (m_right_nd (m_right_lf ⟨1, dX7_menIfWon_0, rfl, rfl, by decide +kernel⟩) (m_right_nd (m_right_lf ⟨1, dX7_menIfWon_1, rfl, rfl, rfl⟩) (m_right_lf ⟨1, dX7_menIfWon_2, rfl, rfl, rfl⟩))) (m_right_nd (m_right_nd (m_right_lf ⟨3, dX7_menIfWon_3, rfl, rfl, 57, 0, 7, (yX7_less, cX7_less, 1, (some .int)), rfl, me_X7_less, mc_X7_less, Or.inl ⟨(RX7, TX7, 16), rfl, rfl⟩, wd_565, wd_501, wd_502, wd_63⟩) (m_right_lf ⟨1, dX7_menIfWon_6, rfl, rfl⟩)) (m_right_nd (m_right_lf ⟨3, dX7_menIfWon_7, rfl, rfl, Or.inl ⟨_, rfl, wd_72, Or.inl ⟨rfl, wm_550, wm_551, wm_552⟩⟩⟩) (m_right_lf ⟨1, dX7_menIfWon_10, rfl, 0, .int, rfl, rfl, Or.inl ⟨rfl, rfl⟩⟩)))
