/-! By program (wip/whole/gen2.py): the words of the tables by their places, and the code tables' rightness. -/
theorem dX10_stakes_0 : decode cX10_stakes 0 = .ok (.aload_n 0, 1) := by decide +kernel
theorem dX10_stakes_1 : decode cX10_stakes 1 = .ok (.iload_n 1, 1) := by decide +kernel
theorem dX10_stakes_2 : decode cX10_stakes 2 = .ok (.iload_n 2, 1) := by decide +kernel
theorem dX10_stakes_3 : decode cX10_stakes 3 = .ok (.invokevirtual 180, 3) := by decide +kernel
theorem dX10_stakes_6 : decode cX10_stakes 6 = .ok (.ifCond .eq 23, 3) := by decide +kernel
theorem dX10_stakes_9 : decode cX10_stakes 9 = .ok (.iload_n 3, 1) := by decide +kernel
theorem dX10_stakes_10 : decode cX10_stakes 10 = .ok (.iconst 0, 1) := by decide +kernel
theorem dX10_stakes_11 : decode cX10_stakes 11 = .ok (.bipush 10, 2) := by decide +kernel
theorem dX10_stakes_13 : decode cX10_stakes 13 = .ok (.invokestatic 48, 3) := by decide +kernel
theorem dX10_stakes_16 : decode cX10_stakes 16 = .ok (.ifCond .eq 13, 3) := by decide +kernel
theorem dX10_stakes_19 : decode cX10_stakes 19 = .ok (.iload 4, 2) := by decide +kernel
theorem dX10_stakes_21 : decode cX10_stakes 21 = .ok (.iconst 0, 1) := by decide +kernel
theorem dX10_stakes_22 : decode cX10_stakes 22 = .ok (.iconst 1, 1) := by decide +kernel
theorem dX10_stakes_23 : decode cX10_stakes 23 = .ok (.invokestatic 48, 3) := by decide +kernel
theorem dX10_stakes_26 : decode cX10_stakes 26 = .ok (.ifCond .ne 7, 3) := by decide +kernel
theorem dX10_stakes_29 : decode cX10_stakes 29 = .ok (.ldc2_w 184, 3) := by decide +kernel
theorem dX10_stakes_32 : decode cX10_stakes 32 = .ok (.lreturn, 1) := by decide +kernel
theorem dX10_stakes_33 : decode cX10_stakes 33 = .ok (.aload_n 0, 1) := by decide +kernel
theorem dX10_stakes_34 : decode cX10_stakes 34 = .ok (.iload_n 1, 1) := by decide +kernel
theorem dX10_stakes_35 : decode cX10_stakes 35 = .ok (.iload_n 2, 1) := by decide +kernel
theorem dX10_stakes_36 : decode cX10_stakes 36 = .ok (.iload_n 3, 1) := by decide +kernel
theorem dX10_stakes_37 : decode cX10_stakes 37 = .ok (.iconst 0, 1) := by decide +kernel
theorem dX10_stakes_38 : decode cX10_stakes 38 = .ok (.invokevirtual 186, 3) := by decide +kernel
theorem dX10_stakes_41 : decode cX10_stakes 41 = .ok (.aload_n 0, 1) := by decide +kernel
theorem dX10_stakes_42 : decode cX10_stakes 42 = .ok (.getfield 163, 3) := by decide +kernel
theorem dX10_stakes_45 : decode cX10_stakes 45 = .ok (.iload_n 3, 1) := by decide +kernel
theorem dX10_stakes_46 : decode cX10_stakes 46 = .ok (.invokestatic 190, 3) := by decide +kernel
theorem dX10_stakes_49 : decode cX10_stakes 49 = .ok (.iload 4, 2) := by decide +kernel
theorem dX10_stakes_51 : decode cX10_stakes 51 = .ok (.invokestatic 194, 3) := by decide +kernel
theorem dX10_stakes_54 : decode cX10_stakes 54 = .ok (.lreturn, 1) := by decide +kernel
set_option maxRecDepth 20000 in
theorem r_X10_stakes : m_Right (yX10_stakes, cX10_stakes, 5, (some .long)) q_X10_stakes := m_right_nd (m_right_nd (m_right_nd (m_right_nd (m_right_lf ⟨1, dX10_stakes_0, rfl, rfl, rfl⟩) (m_right_nd (m_right_lf ⟨1, dX10_stakes_1, rfl, rfl, rfl⟩) (m_right_lf ⟨1, dX10_stakes_2, rfl, rfl, rfl⟩))) (m_right_nd (m_right_nd (m_right_lf ⟨3, dX10_stakes_3, rfl, rfl, 120, 2, 10, (yX10_areTwo, cX10_areTwo, 3, (some .boolean)), rfl, me_X10_areTwo, mc_X10_areTwo, Or.inl ⟨(RX10, TX10, 24), rfl, rfl⟩, wd_1125, wd_1127, wd_39, wd_71⟩) (m_right_lf ⟨3, dX10_stakes_6, rfl, rfl, 29, rfl, by decide⟩)) (m_right_nd (m_right_lf ⟨1, dX10_stakes_9, rfl, rfl, rfl⟩) (m_right_lf ⟨1, dX10_stakes_10, rfl, rfl, by decide +kernel⟩)))) (m_right_nd (m_right_nd (m_right_nd (m_right_lf ⟨2, dX10_stakes_11, rfl, rfl, by decide +kernel⟩) (m_right_lf ⟨3, dX10_stakes_13, rfl, rfl, Or.inr (Or.inr ⟨118, 3, (yX10_in, cX10_in, 3, (some .boolean)), rfl, me_X10_in, mc_X10_in, wd_943, wd_944, wd_71⟩)⟩)) (m_right_nd (m_right_lf ⟨3, dX10_stakes_16, rfl, rfl, 29, rfl, by decide⟩) (m_right_lf ⟨2, dX10_stakes_19, rfl, rfl, rfl⟩))) (m_right_nd (m_right_nd (m_right_lf ⟨1, dX10_stakes_21, rfl, rfl, by decide +kernel⟩) (m_right_lf ⟨1, dX10_stakes_22, rfl, rfl, by decide +kernel⟩)) (m_right_nd (m_right_lf ⟨3, dX10_stakes_23, rfl, rfl, Or.inr (Or.inr ⟨118, 3, (yX10_in, cX10_in, 3, (some .boolean)), rfl, me_X10_in, mc_X10_in, wd_943, wd_944, wd_71⟩)⟩) (m_right_lf ⟨3, dX10_stakes_26, rfl, rfl, 33, rfl, by decide⟩))))) (m_right_nd (m_right_nd (m_right_nd (m_right_lf ⟨3, dX10_stakes_29, rfl, rfl, _, rfl, wd_1129⟩) (m_right_nd (m_right_lf ⟨1, dX10_stakes_32, rfl, rfl⟩) (m_right_lf ⟨1, dX10_stakes_33, rfl, rfl, rfl⟩))) (m_right_nd (m_right_nd (m_right_lf ⟨1, dX10_stakes_34, rfl, rfl, rfl⟩) (m_right_lf ⟨1, dX10_stakes_35, rfl, rfl, rfl⟩)) (m_right_nd (m_right_lf ⟨1, dX10_stakes_36, rfl, rfl, rfl⟩) (m_right_lf ⟨1, dX10_stakes_37, rfl, rfl, by decide +kernel⟩)))) (m_right_nd (m_right_nd (m_right_nd (m_right_lf ⟨3, dX10_stakes_38, rfl, rfl, 156, 4, 10, (yX10_gamesOn, cX10_gamesOn, 6, none), rfl, me_X10_gamesOn, mc_X10_gamesOn, Or.inl ⟨(RX10, TX10, 24), rfl, rfl⟩, wd_1130, wd_1132, wd_40, wd_71⟩) (m_right_lf ⟨1, dX10_stakes_41, rfl, rfl, rfl⟩)) (m_right_nd (m_right_lf ⟨3, dX10_stakes_42, rfl, rfl, 10, 14, rfl, Or.inl ⟨(RX10, TX10, 24), rfl, by decide, wd_880⟩⟩) (m_right_lf ⟨1, dX10_stakes_45, rfl, rfl, rfl⟩))) (m_right_nd (m_right_nd (m_right_lf ⟨3, dX10_stakes_46, rfl, rfl, Or.inr (Or.inr ⟨153, 1, (yX10_tens, cX10_tens, 4, (some .long)), rfl, me_X10_tens, mc_X10_tens, wd_1151, wd_1152, wd_71⟩)⟩) (m_right_lf ⟨2, dX10_stakes_49, rfl, rfl, rfl⟩)) (m_right_nd (m_right_lf ⟨3, dX10_stakes_51, rfl, rfl, Or.inr (Or.inr ⟨157, 3, (yX10_lowest, cX10_lowest, 11, (some .long)), rfl, me_X10_lowest, mc_X10_lowest, wd_1154, wd_1155, wd_71⟩)⟩) (m_right_lf ⟨1, dX10_stakes_54, rfl, rfl⟩)))))
theorem dX10_even_0 : decode cX10_even 0 = .ok (.aload_n 0, 1) := by decide +kernel
theorem dX10_even_1 : decode cX10_even 1 = .ok (.iload_n 1, 1) := by decide +kernel
theorem dX10_even_2 : decode cX10_even 2 = .ok (.invokevirtual 52, 3) := by decide +kernel
theorem dX10_even_5 : decode cX10_even 5 = .ok (.ifCond .eq 11, 3) := by decide +kernel
theorem dX10_even_8 : decode cX10_even 8 = .ok (.aload_n 0, 1) := by decide +kernel
theorem dX10_even_9 : decode cX10_even 9 = .ok (.iload_n 2, 1) := by decide +kernel
theorem dX10_even_10 : decode cX10_even 10 = .ok (.invokevirtual 52, 3) := by decide +kernel
theorem dX10_even_13 : decode cX10_even 13 = .ok (.ifCond .ne 5, 3) := by decide +kernel
theorem dX10_even_16 : decode cX10_even 16 = .ok (.iconst (-1), 1) := by decide +kernel
theorem dX10_even_17 : decode cX10_even 17 = .ok (.ireturn, 1) := by decide +kernel
theorem dX10_even_18 : decode cX10_even 18 = .ok (.iload_n 1, 1) := by decide +kernel
theorem dX10_even_19 : decode cX10_even 19 = .ok (.iload_n 2, 1) := by decide +kernel
theorem dX10_even_20 : decode cX10_even 20 = .ok (.if_icmp .ne 6, 3) := by decide +kernel
theorem dX10_even_23 : decode cX10_even 23 = .ok (.bipush (-2), 2) := by decide +kernel
theorem dX10_even_25 : decode cX10_even 25 = .ok (.ireturn, 1) := by decide +kernel
theorem dX10_even_26 : decode cX10_even 26 = .ok (.aload_n 0, 1) := by decide +kernel
theorem dX10_even_27 : decode cX10_even 27 = .ok (.getfield 9, 3) := by decide +kernel
theorem dX10_even_30 : decode cX10_even 30 = .ok (.iconst 1, 1) := by decide +kernel
theorem dX10_even_31 : decode cX10_even 31 = .ok (.iload_n 1, 1) := by decide +kernel
theorem dX10_even_32 : decode cX10_even 32 = .ok (.iadd, 1) := by decide +kernel
theorem dX10_even_33 : decode cX10_even 33 = .ok (.iaload, 1) := by decide +kernel
theorem dX10_even_34 : decode cX10_even 34 = .ok (.istore_n 3, 1) := by decide +kernel
theorem dX10_even_35 : decode cX10_even 35 = .ok (.iconst 0, 1) := by decide +kernel
theorem dX10_even_36 : decode cX10_even 36 = .ok (.istore 4, 2) := by decide +kernel
theorem dX10_even_38 : decode cX10_even 38 = .ok (.bipush 99, 2) := by decide +kernel
theorem dX10_even_40 : decode cX10_even 40 = .ok (.istore 5, 2) := by decide +kernel
theorem dX10_even_42 : decode cX10_even 42 = .ok (.iconst 1, 1) := by decide +kernel
theorem dX10_even_43 : decode cX10_even 43 = .ok (.istore 6, 2) := by decide +kernel
theorem dX10_even_45 : decode cX10_even 45 = .ok (.iload 6, 2) := by decide +kernel
theorem dX10_even_47 : decode cX10_even 47 = .ok (.bipush 20, 2) := by decide +kernel
theorem dX10_even_49 : decode cX10_even 49 = .ok (.if_icmp .gt 76, 3) := by decide +kernel
theorem dX10_even_52 : decode cX10_even 52 = .ok (.aload_n 0, 1) := by decide +kernel
theorem dX10_even_53 : decode cX10_even 53 = .ok (.getfield 9, 3) := by decide +kernel
theorem dX10_even_56 : decode cX10_even 56 = .ok (.iconst 1, 1) := by decide +kernel
theorem dX10_even_57 : decode cX10_even 57 = .ok (.iload_n 1, 1) := by decide +kernel
theorem dX10_even_58 : decode cX10_even 58 = .ok (.iadd, 1) := by decide +kernel
theorem dX10_even_59 : decode cX10_even 59 = .ok (.iload 6, 2) := by decide +kernel
theorem dX10_even_61 : decode cX10_even 61 = .ok (.iastore, 1) := by decide +kernel
theorem dX10_even_62 : decode cX10_even 62 = .ok (.aload_n 0, 1) := by decide +kernel
theorem dX10_even_63 : decode cX10_even 63 = .ok (.iload_n 1, 1) := by decide +kernel
theorem dX10_even_64 : decode cX10_even 64 = .ok (.iload_n 2, 1) := by decide +kernel
theorem dX10_even_65 : decode cX10_even 65 = .ok (.invokevirtual 148, 3) := by decide +kernel
theorem dX10_even_68 : decode cX10_even 68 = .ok (.iconst 5, 1) := by decide +kernel
theorem dX10_even_69 : decode cX10_even 69 = .ok (.isub, 1) := by decide +kernel
theorem dX10_even_70 : decode cX10_even 70 = .ok (.istore 7, 2) := by decide +kernel
theorem dX10_even_72 : decode cX10_even 72 = .ok (.iload 7, 2) := by decide +kernel
theorem dX10_even_74 : decode cX10_even 74 = .ok (.ifCond .ge 9, 3) := by decide +kernel
theorem dX10_even_77 : decode cX10_even 77 = .ok (.iload 7, 2) := by decide +kernel
theorem dX10_even_79 : decode cX10_even 79 = .ok (.ineg, 1) := by decide +kernel
theorem dX10_even_80 : decode cX10_even 80 = .ok (.goto 5, 3) := by decide +kernel
theorem dX10_even_83 : decode cX10_even 83 = .ok (.iload 7, 2) := by decide +kernel
theorem dX10_even_85 : decode cX10_even 85 = .ok (.istore 7, 2) := by decide +kernel
theorem dX10_even_87 : decode cX10_even 87 = .ok (.iload 7, 2) := by decide +kernel
theorem dX10_even_89 : decode cX10_even 89 = .ok (.iload 5, 2) := by decide +kernel
theorem dX10_even_91 : decode cX10_even 91 = .ok (.if_icmp .ge 8, 3) := by decide +kernel
theorem dX10_even_94 : decode cX10_even 94 = .ok (.iload 6, 2) := by decide +kernel
theorem dX10_even_96 : decode cX10_even 96 = .ok (.goto 5, 3) := by decide +kernel
theorem dX10_even_99 : decode cX10_even 99 = .ok (.iload 4, 2) := by decide +kernel
theorem dX10_even_101 : decode cX10_even 101 = .ok (.istore 4, 2) := by decide +kernel
theorem dX10_even_103 : decode cX10_even 103 = .ok (.iload 7, 2) := by decide +kernel
theorem dX10_even_105 : decode cX10_even 105 = .ok (.iload 5, 2) := by decide +kernel
theorem dX10_even_107 : decode cX10_even 107 = .ok (.if_icmp .ge 8, 3) := by decide +kernel
theorem dX10_even_110 : decode cX10_even 110 = .ok (.iload 7, 2) := by decide +kernel
theorem dX10_even_112 : decode cX10_even 112 = .ok (.goto 5, 3) := by decide +kernel
theorem dX10_even_115 : decode cX10_even 115 = .ok (.iload 5, 2) := by decide +kernel
theorem dX10_even_117 : decode cX10_even 117 = .ok (.istore 5, 2) := by decide +kernel
theorem dX10_even_119 : decode cX10_even 119 = .ok (.iinc 6 1, 3) := by decide +kernel
theorem dX10_even_122 : decode cX10_even 122 = .ok (.goto (-77), 3) := by decide +kernel
theorem dX10_even_125 : decode cX10_even 125 = .ok (.aload_n 0, 1) := by decide +kernel
theorem dX10_even_126 : decode cX10_even 126 = .ok (.getfield 9, 3) := by decide +kernel
theorem dX10_even_129 : decode cX10_even 129 = .ok (.iconst 1, 1) := by decide +kernel
theorem dX10_even_130 : decode cX10_even 130 = .ok (.iload_n 1, 1) := by decide +kernel
theorem dX10_even_131 : decode cX10_even 131 = .ok (.iadd, 1) := by decide +kernel
theorem dX10_even_132 : decode cX10_even 132 = .ok (.iload_n 3, 1) := by decide +kernel
theorem dX10_even_133 : decode cX10_even 133 = .ok (.iastore, 1) := by decide +kernel
theorem dX10_even_134 : decode cX10_even 134 = .ok (.iload 4, 2) := by decide +kernel
theorem dX10_even_136 : decode cX10_even 136 = .ok (.ireturn, 1) := by decide +kernel
set_option maxRecDepth 20000 in
theorem r_X10_even : m_Right (yX10_even, cX10_even, 8, (some .int)) q_X10_even := m_right_nd (m_right_nd (m_right_nd (m_right_nd (m_right_nd (m_right_nd (m_right_lf ⟨1, dX10_even_0, rfl, rfl, rfl⟩) (m_right_lf ⟨1, dX10_even_1, rfl, rfl, rfl⟩)) (m_right_nd (m_right_lf ⟨3, dX10_even_2, rfl, rfl, 119, 1, 10, (yX10_isPlayer, cX10_isPlayer, 2, (some .boolean)), rfl, me_X10_isPlayer, mc_X10_isPlayer, Or.inl ⟨(RX10, TX10, 24), rfl, rfl⟩, wd_1065, wd_1067, wd_31, wd_71⟩) (m_right_lf ⟨3, dX10_even_5, rfl, rfl, 16, rfl, by decide⟩))) (m_right_nd (m_right_nd (m_right_lf ⟨1, dX10_even_8, rfl, rfl, rfl⟩) (m_right_lf ⟨1, dX10_even_9, rfl, rfl, rfl⟩)) (m_right_nd (m_right_lf ⟨3, dX10_even_10, rfl, rfl, 119, 1, 10, (yX10_isPlayer, cX10_isPlayer, 2, (some .boolean)), rfl, me_X10_isPlayer, mc_X10_isPlayer, Or.inl ⟨(RX10, TX10, 24), rfl, rfl⟩, wd_1065, wd_1067, wd_31, wd_71⟩) (m_right_nd (m_right_lf ⟨3, dX10_even_13, rfl, rfl, 18, rfl, by decide⟩) (m_right_lf ⟨1, dX10_even_16, rfl, rfl, by decide +kernel⟩))))) (m_right_nd (m_right_nd (m_right_nd (m_right_lf ⟨1, dX10_even_17, rfl, 0, .int, rfl, rfl, Or.inl ⟨rfl, rfl⟩⟩) (m_right_lf ⟨1, dX10_even_18, rfl, rfl, rfl⟩)) (m_right_nd (m_right_lf ⟨1, dX10_even_19, rfl, rfl, rfl⟩) (m_right_nd (m_right_lf ⟨3, dX10_even_20, rfl, rfl, 26, rfl, by decide⟩) (m_right_lf ⟨2, dX10_even_23, rfl, rfl, by decide +kernel⟩)))) (m_right_nd (m_right_nd (m_right_lf ⟨1, dX10_even_25, rfl, 0, .int, rfl, rfl, Or.inl ⟨rfl, rfl⟩⟩) (m_right_lf ⟨1, dX10_even_26, rfl, rfl, rfl⟩)) (m_right_nd (m_right_lf ⟨3, dX10_even_27, rfl, rfl, 10, 1, rfl, Or.inl ⟨(RX10, TX10, 24), rfl, by decide, wd_867⟩⟩) (m_right_nd (m_right_lf ⟨1, dX10_even_30, rfl, rfl, by decide +kernel⟩) (m_right_lf ⟨1, dX10_even_31, rfl, rfl, rfl⟩)))))) (m_right_nd (m_right_nd (m_right_nd (m_right_nd (m_right_lf ⟨1, dX10_even_32, rfl, rfl⟩) (m_right_lf ⟨1, dX10_even_33, rfl, rfl⟩)) (m_right_nd (m_right_lf ⟨1, dX10_even_34, rfl, rfl, rfl⟩) (m_right_lf ⟨1, dX10_even_35, rfl, rfl, by decide +kernel⟩))) (m_right_nd (m_right_nd (m_right_lf ⟨2, dX10_even_36, rfl, rfl, rfl⟩) (m_right_lf ⟨2, dX10_even_38, rfl, rfl, by decide +kernel⟩)) (m_right_nd (m_right_lf ⟨2, dX10_even_40, rfl, rfl, rfl⟩) (m_right_nd (m_right_lf ⟨1, dX10_even_42, rfl, rfl, by decide +kernel⟩) (m_right_lf ⟨2, dX10_even_43, rfl, rfl, rfl⟩))))) (m_right_nd (m_right_nd (m_right_nd (m_right_lf ⟨2, dX10_even_45, rfl, rfl, rfl⟩) (m_right_lf ⟨2, dX10_even_47, rfl, rfl, by decide +kernel⟩)) (m_right_nd (m_right_lf ⟨3, dX10_even_49, rfl, rfl, 125, rfl, by decide⟩) (m_right_nd (m_right_lf ⟨1, dX10_even_52, rfl, rfl, rfl⟩) (m_right_lf ⟨3, dX10_even_53, rfl, rfl, 10, 1, rfl, Or.inl ⟨(RX10, TX10, 24), rfl, by decide, wd_867⟩⟩)))) (m_right_nd (m_right_nd (m_right_lf ⟨1, dX10_even_56, rfl, rfl, by decide +kernel⟩) (m_right_lf ⟨1, dX10_even_57, rfl, rfl, rfl⟩)) (m_right_nd (m_right_lf ⟨1, dX10_even_58, rfl, rfl⟩) (m_right_nd (m_right_lf ⟨2, dX10_even_59, rfl, rfl, rfl⟩) (m_right_lf ⟨1, dX10_even_61, rfl, rfl⟩))))))) (m_right_nd (m_right_nd (m_right_nd (m_right_nd (m_right_nd (m_right_lf ⟨1, dX10_even_62, rfl, rfl, rfl⟩) (m_right_lf ⟨1, dX10_even_63, rfl, rfl, rfl⟩)) (m_right_nd (m_right_lf ⟨1, dX10_even_64, rfl, rfl, rfl⟩) (m_right_lf ⟨3, dX10_even_65, rfl, rfl, 146, 2, 10, (yX10_oddsOf, cX10_oddsOf, 4, (some .int)), rfl, me_X10_oddsOf, mc_X10_oddsOf, Or.inl ⟨(RX10, TX10, 24), rfl, rfl⟩, wd_1101, wd_1103, wd_35, wd_71⟩))) (m_right_nd (m_right_nd (m_right_lf ⟨1, dX10_even_68, rfl, rfl, by decide +kernel⟩) (m_right_lf ⟨1, dX10_even_69, rfl, rfl⟩)) (m_right_nd (m_right_lf ⟨2, dX10_even_70, rfl, rfl, rfl⟩) (m_right_nd (m_right_lf ⟨2, dX10_even_72, rfl, rfl, rfl⟩) (m_right_lf ⟨3, dX10_even_74, rfl, rfl, 83, rfl, by decide⟩))))) (m_right_nd (m_right_nd (m_right_nd (m_right_lf ⟨2, dX10_even_77, rfl, rfl, rfl⟩) (m_right_lf ⟨1, dX10_even_79, rfl, rfl⟩)) (m_right_nd (m_right_lf ⟨3, dX10_even_80, rfl, 85, rfl, by decide⟩) (m_right_nd (m_right_lf ⟨2, dX10_even_83, rfl, rfl, rfl⟩) (m_right_lf ⟨2, dX10_even_85, rfl, rfl, rfl⟩)))) (m_right_nd (m_right_nd (m_right_lf ⟨2, dX10_even_87, rfl, rfl, rfl⟩) (m_right_lf ⟨2, dX10_even_89, rfl, rfl, rfl⟩)) (m_right_nd (m_right_lf ⟨3, dX10_even_91, rfl, rfl, 99, rfl, by decide⟩) (m_right_nd (m_right_lf ⟨2, dX10_even_94, rfl, rfl, rfl⟩) (m_right_lf ⟨3, dX10_even_96, rfl, 101, rfl, by decide⟩)))))) (m_right_nd (m_right_nd (m_right_nd (m_right_nd (m_right_lf ⟨2, dX10_even_99, rfl, rfl, rfl⟩) (m_right_lf ⟨2, dX10_even_101, rfl, rfl, rfl⟩)) (m_right_nd (m_right_lf ⟨2, dX10_even_103, rfl, rfl, rfl⟩) (m_right_nd (m_right_lf ⟨2, dX10_even_105, rfl, rfl, rfl⟩) (m_right_lf ⟨3, dX10_even_107, rfl, rfl, 115, rfl, by decide⟩)))) (m_right_nd (m_right_nd (m_right_lf ⟨2, dX10_even_110, rfl, rfl, rfl⟩) (m_right_lf ⟨3, dX10_even_112, rfl, 117, rfl, by decide⟩)) (m_right_nd (m_right_lf ⟨2, dX10_even_115, rfl, rfl, rfl⟩) (m_right_nd (m_right_lf ⟨2, dX10_even_117, rfl, rfl, rfl⟩) (m_right_lf ⟨3, dX10_even_119, rfl, rfl, rfl, by decide +kernel⟩))))) (m_right_nd (m_right_nd (m_right_nd (m_right_lf ⟨3, dX10_even_122, rfl, 45, rfl, by decide⟩) (m_right_lf ⟨1, dX10_even_125, rfl, rfl, rfl⟩)) (m_right_nd (m_right_lf ⟨3, dX10_even_126, rfl, rfl, 10, 1, rfl, Or.inl ⟨(RX10, TX10, 24), rfl, by decide, wd_867⟩⟩) (m_right_nd (m_right_lf ⟨1, dX10_even_129, rfl, rfl, by decide +kernel⟩) (m_right_lf ⟨1, dX10_even_130, rfl, rfl, rfl⟩)))) (m_right_nd (m_right_nd (m_right_lf ⟨1, dX10_even_131, rfl, rfl⟩) (m_right_lf ⟨1, dX10_even_132, rfl, rfl, rfl⟩)) (m_right_nd (m_right_lf ⟨1, dX10_even_133, rfl, rfl⟩) (m_right_nd (m_right_lf ⟨2, dX10_even_134, rfl, rfl, rfl⟩) (m_right_lf ⟨1, dX10_even_136, rfl, 0, .int, rfl, rfl, Or.inl ⟨rfl, rfl⟩⟩)))))))
theorem dX10_bestFor_0 : decode cX10_bestFor 0 = .ok (.aload_n 0, 1) := by decide +kernel
theorem dX10_bestFor_1 : decode cX10_bestFor 1 = .ok (.iload_n 1, 1) := by decide +kernel
theorem dX10_bestFor_2 : decode cX10_bestFor 2 = .ok (.iload_n 2, 1) := by decide +kernel
theorem dX10_bestFor_3 : decode cX10_bestFor 3 = .ok (.invokevirtual 148, 3) := by decide +kernel
theorem dX10_bestFor_6 : decode cX10_bestFor 6 = .ok (.istore 4, 2) := by decide +kernel
theorem dX10_bestFor_8 : decode cX10_bestFor 8 = .ok (.iload_n 3, 1) := by decide +kernel
theorem dX10_bestFor_9 : decode cX10_bestFor 9 = .ok (.iconst 1, 1) := by decide +kernel
theorem dX10_bestFor_10 : decode cX10_bestFor 10 = .ok (.if_icmp .ne 12, 3) := by decide +kernel
theorem dX10_bestFor_13 : decode cX10_bestFor 13 = .ok (.aload_n 0, 1) := by decide +kernel
theorem dX10_bestFor_14 : decode cX10_bestFor 14 = .ok (.iconst 0, 1) := by decide +kernel
theorem dX10_bestFor_15 : decode cX10_bestFor 15 = .ok (.putfield 202, 3) := by decide +kernel
theorem dX10_bestFor_18 : decode cX10_bestFor 18 = .ok (.iload 4, 2) := by decide +kernel
theorem dX10_bestFor_20 : decode cX10_bestFor 20 = .ok (.i2l, 1) := by decide +kernel
theorem dX10_bestFor_21 : decode cX10_bestFor 21 = .ok (.lreturn, 1) := by decide +kernel
theorem dX10_bestFor_22 : decode cX10_bestFor 22 = .ok (.aload_n 0, 1) := by decide +kernel
theorem dX10_bestFor_23 : decode cX10_bestFor 23 = .ok (.getfield 9, 3) := by decide +kernel
theorem dX10_bestFor_26 : decode cX10_bestFor 26 = .ok (.iconst 1, 1) := by decide +kernel
theorem dX10_bestFor_27 : decode cX10_bestFor 27 = .ok (.iload_n 1, 1) := by decide +kernel
theorem dX10_bestFor_28 : decode cX10_bestFor 28 = .ok (.iadd, 1) := by decide +kernel
theorem dX10_bestFor_29 : decode cX10_bestFor 29 = .ok (.iaload, 1) := by decide +kernel
theorem dX10_bestFor_30 : decode cX10_bestFor 30 = .ok (.istore 5, 2) := by decide +kernel
theorem dX10_bestFor_32 : decode cX10_bestFor 32 = .ok (.aload_n 0, 1) := by decide +kernel
theorem dX10_bestFor_33 : decode cX10_bestFor 33 = .ok (.getfield 9, 3) := by decide +kernel
theorem dX10_bestFor_36 : decode cX10_bestFor 36 = .ok (.iconst 1, 1) := by decide +kernel
theorem dX10_bestFor_37 : decode cX10_bestFor 37 = .ok (.iload_n 2, 1) := by decide +kernel
theorem dX10_bestFor_38 : decode cX10_bestFor 38 = .ok (.iadd, 1) := by decide +kernel
theorem dX10_bestFor_39 : decode cX10_bestFor 39 = .ok (.iaload, 1) := by decide +kernel
theorem dX10_bestFor_40 : decode cX10_bestFor 40 = .ok (.istore 6, 2) := by decide +kernel
theorem dX10_bestFor_42 : decode cX10_bestFor 42 = .ok (.aload_n 0, 1) := by decide +kernel
theorem dX10_bestFor_43 : decode cX10_bestFor 43 = .ok (.iload_n 1, 1) := by decide +kernel
theorem dX10_bestFor_44 : decode cX10_bestFor 44 = .ok (.iload_n 2, 1) := by decide +kernel
theorem dX10_bestFor_45 : decode cX10_bestFor 45 = .ok (.invokevirtual 157, 3) := by decide +kernel
theorem dX10_bestFor_48 : decode cX10_bestFor 48 = .ok (.aload_n 0, 1) := by decide +kernel
theorem dX10_bestFor_49 : decode cX10_bestFor 49 = .ok (.iload_n 1, 1) := by decide +kernel
theorem dX10_bestFor_50 : decode cX10_bestFor 50 = .ok (.iload_n 2, 1) := by decide +kernel
theorem dX10_bestFor_51 : decode cX10_bestFor 51 = .ok (.iload_n 3, 1) := by decide +kernel
theorem dX10_bestFor_52 : decode cX10_bestFor 52 = .ok (.iconst 1, 1) := by decide +kernel
theorem dX10_bestFor_53 : decode cX10_bestFor 53 = .ok (.isub, 1) := by decide +kernel
theorem dX10_bestFor_54 : decode cX10_bestFor 54 = .ok (.invokevirtual 205, 3) := by decide +kernel
theorem dX10_bestFor_57 : decode cX10_bestFor 57 = .ok (.lstore 7, 2) := by decide +kernel
theorem dX10_bestFor_59 : decode cX10_bestFor 59 = .ok (.aload_n 0, 1) := by decide +kernel
theorem dX10_bestFor_60 : decode cX10_bestFor 60 = .ok (.getfield 9, 3) := by decide +kernel
theorem dX10_bestFor_63 : decode cX10_bestFor 63 = .ok (.iconst 1, 1) := by decide +kernel
theorem dX10_bestFor_64 : decode cX10_bestFor 64 = .ok (.iload_n 1, 1) := by decide +kernel
theorem dX10_bestFor_65 : decode cX10_bestFor 65 = .ok (.iadd, 1) := by decide +kernel
theorem dX10_bestFor_66 : decode cX10_bestFor 66 = .ok (.aload_n 0, 1) := by decide +kernel
theorem dX10_bestFor_67 : decode cX10_bestFor 67 = .ok (.iload 5, 2) := by decide +kernel
theorem dX10_bestFor_69 : decode cX10_bestFor 69 = .ok (.invokevirtual 154, 3) := by decide +kernel
theorem dX10_bestFor_72 : decode cX10_bestFor 72 = .ok (.iastore, 1) := by decide +kernel
theorem dX10_bestFor_73 : decode cX10_bestFor 73 = .ok (.aload_n 0, 1) := by decide +kernel
theorem dX10_bestFor_74 : decode cX10_bestFor 74 = .ok (.getfield 9, 3) := by decide +kernel
theorem dX10_bestFor_77 : decode cX10_bestFor 77 = .ok (.iconst 1, 1) := by decide +kernel
theorem dX10_bestFor_78 : decode cX10_bestFor 78 = .ok (.iload_n 2, 1) := by decide +kernel
theorem dX10_bestFor_79 : decode cX10_bestFor 79 = .ok (.iadd, 1) := by decide +kernel
theorem dX10_bestFor_80 : decode cX10_bestFor 80 = .ok (.aload_n 0, 1) := by decide +kernel
theorem dX10_bestFor_81 : decode cX10_bestFor 81 = .ok (.iload 6, 2) := by decide +kernel
theorem dX10_bestFor_83 : decode cX10_bestFor 83 = .ok (.invokevirtual 151, 3) := by decide +kernel
theorem dX10_bestFor_86 : decode cX10_bestFor 86 = .ok (.iastore, 1) := by decide +kernel
theorem dX10_bestFor_87 : decode cX10_bestFor 87 = .ok (.aload_n 0, 1) := by decide +kernel
theorem dX10_bestFor_88 : decode cX10_bestFor 88 = .ok (.iload_n 1, 1) := by decide +kernel
theorem dX10_bestFor_89 : decode cX10_bestFor 89 = .ok (.iload_n 2, 1) := by decide +kernel
theorem dX10_bestFor_90 : decode cX10_bestFor 90 = .ok (.iload_n 3, 1) := by decide +kernel
theorem dX10_bestFor_91 : decode cX10_bestFor 91 = .ok (.iconst 1, 1) := by decide +kernel
theorem dX10_bestFor_92 : decode cX10_bestFor 92 = .ok (.isub, 1) := by decide +kernel
theorem dX10_bestFor_93 : decode cX10_bestFor 93 = .ok (.invokevirtual 205, 3) := by decide +kernel
theorem dX10_bestFor_96 : decode cX10_bestFor 96 = .ok (.lstore 9, 2) := by decide +kernel
theorem dX10_bestFor_98 : decode cX10_bestFor 98 = .ok (.aload_n 0, 1) := by decide +kernel
theorem dX10_bestFor_99 : decode cX10_bestFor 99 = .ok (.getfield 9, 3) := by decide +kernel
theorem dX10_bestFor_102 : decode cX10_bestFor 102 = .ok (.iconst 1, 1) := by decide +kernel
theorem dX10_bestFor_103 : decode cX10_bestFor 103 = .ok (.iload_n 1, 1) := by decide +kernel
theorem dX10_bestFor_104 : decode cX10_bestFor 104 = .ok (.iadd, 1) := by decide +kernel
theorem dX10_bestFor_105 : decode cX10_bestFor 105 = .ok (.iload 5, 2) := by decide +kernel
theorem dX10_bestFor_107 : decode cX10_bestFor 107 = .ok (.iastore, 1) := by decide +kernel
theorem dX10_bestFor_108 : decode cX10_bestFor 108 = .ok (.aload_n 0, 1) := by decide +kernel
theorem dX10_bestFor_109 : decode cX10_bestFor 109 = .ok (.getfield 9, 3) := by decide +kernel
theorem dX10_bestFor_112 : decode cX10_bestFor 112 = .ok (.iconst 1, 1) := by decide +kernel
theorem dX10_bestFor_113 : decode cX10_bestFor 113 = .ok (.iload_n 2, 1) := by decide +kernel
theorem dX10_bestFor_114 : decode cX10_bestFor 114 = .ok (.iadd, 1) := by decide +kernel
theorem dX10_bestFor_115 : decode cX10_bestFor 115 = .ok (.iload 6, 2) := by decide +kernel
theorem dX10_bestFor_117 : decode cX10_bestFor 117 = .ok (.iastore, 1) := by decide +kernel
theorem dX10_bestFor_118 : decode cX10_bestFor 118 = .ok (.aload_n 0, 1) := by decide +kernel
theorem dX10_bestFor_119 : decode cX10_bestFor 119 = .ok (.getfield 9, 3) := by decide +kernel
theorem dX10_bestFor_122 : decode cX10_bestFor 122 = .ok (.iconst 0, 1) := by decide +kernel
theorem dX10_bestFor_123 : decode cX10_bestFor 123 = .ok (.dup2, 1) := by decide +kernel
theorem dX10_bestFor_124 : decode cX10_bestFor 124 = .ok (.iaload, 1) := by decide +kernel
theorem dX10_bestFor_125 : decode cX10_bestFor 125 = .ok (.iconst 1, 1) := by decide +kernel
theorem dX10_bestFor_126 : decode cX10_bestFor 126 = .ok (.isub, 1) := by decide +kernel
theorem dX10_bestFor_127 : decode cX10_bestFor 127 = .ok (.iastore, 1) := by decide +kernel
theorem dX10_bestFor_128 : decode cX10_bestFor 128 = .ok (.iload 4, 2) := by decide +kernel
theorem dX10_bestFor_130 : decode cX10_bestFor 130 = .ok (.i2l, 1) := by decide +kernel
theorem dX10_bestFor_131 : decode cX10_bestFor 131 = .ok (.lload 7, 2) := by decide +kernel
theorem dX10_bestFor_133 : decode cX10_bestFor 133 = .ok (.lmul, 1) := by decide +kernel
theorem dX10_bestFor_134 : decode cX10_bestFor 134 = .ok (.bipush 10, 2) := by decide +kernel
theorem dX10_bestFor_136 : decode cX10_bestFor 136 = .ok (.iload 4, 2) := by decide +kernel
theorem dX10_bestFor_138 : decode cX10_bestFor 138 = .ok (.isub, 1) := by decide +kernel
theorem dX10_bestFor_139 : decode cX10_bestFor 139 = .ok (.i2l, 1) := by decide +kernel
theorem dX10_bestFor_140 : decode cX10_bestFor 140 = .ok (.lload 9, 2) := by decide +kernel
theorem dX10_bestFor_142 : decode cX10_bestFor 142 = .ok (.lmul, 1) := by decide +kernel
theorem dX10_bestFor_143 : decode cX10_bestFor 143 = .ok (.ladd, 1) := by decide +kernel
theorem dX10_bestFor_144 : decode cX10_bestFor 144 = .ok (.lstore 11, 2) := by decide +kernel
theorem dX10_bestFor_146 : decode cX10_bestFor 146 = .ok (.aload_n 0, 1) := by decide +kernel
theorem dX10_bestFor_147 : decode cX10_bestFor 147 = .ok (.ldc2_w 161, 3) := by decide +kernel
theorem dX10_bestFor_150 : decode cX10_bestFor 150 = .ok (.lload 9, 2) := by decide +kernel
theorem dX10_bestFor_152 : decode cX10_bestFor 152 = .ok (.lmul, 1) := by decide +kernel
theorem dX10_bestFor_153 : decode cX10_bestFor 153 = .ok (.lload 11, 2) := by decide +kernel
theorem dX10_bestFor_155 : decode cX10_bestFor 155 = .ok (.lcmp, 1) := by decide +kernel
theorem dX10_bestFor_156 : decode cX10_bestFor 156 = .ok (.ifCond .le 7, 3) := by decide +kernel
theorem dX10_bestFor_159 : decode cX10_bestFor 159 = .ok (.iconst 1, 1) := by decide +kernel
theorem dX10_bestFor_160 : decode cX10_bestFor 160 = .ok (.goto 4, 3) := by decide +kernel
theorem dX10_bestFor_163 : decode cX10_bestFor 163 = .ok (.iconst 0, 1) := by decide +kernel
theorem dX10_bestFor_164 : decode cX10_bestFor 164 = .ok (.putfield 202, 3) := by decide +kernel
theorem dX10_bestFor_167 : decode cX10_bestFor 167 = .ok (.aload_n 0, 1) := by decide +kernel
theorem dX10_bestFor_168 : decode cX10_bestFor 168 = .ok (.getfield 202, 3) := by decide +kernel
theorem dX10_bestFor_171 : decode cX10_bestFor 171 = .ok (.ifCond .eq 12, 3) := by decide +kernel
theorem dX10_bestFor_174 : decode cX10_bestFor 174 = .ok (.ldc2_w 161, 3) := by decide +kernel
theorem dX10_bestFor_177 : decode cX10_bestFor 177 = .ok (.lload 9, 2) := by decide +kernel
theorem dX10_bestFor_179 : decode cX10_bestFor 179 = .ok (.lmul, 1) := by decide +kernel
theorem dX10_bestFor_180 : decode cX10_bestFor 180 = .ok (.goto 5, 3) := by decide +kernel
theorem dX10_bestFor_183 : decode cX10_bestFor 183 = .ok (.lload 11, 2) := by decide +kernel
theorem dX10_bestFor_185 : decode cX10_bestFor 185 = .ok (.lreturn, 1) := by decide +kernel
set_option maxRecDepth 20000 in
theorem r_X10_bestFor : m_Right (yX10_bestFor, cX10_bestFor, 13, (some .long)) q_X10_bestFor := m_right_nd (m_right_nd (m_right_nd (m_right_nd (m_right_nd (m_right_nd (m_right_lf ⟨1, dX10_bestFor_0, rfl, rfl, rfl⟩) (m_right_nd (m_right_lf ⟨1, dX10_bestFor_1, rfl, rfl, rfl⟩) (m_right_lf ⟨1, dX10_bestFor_2, rfl, rfl, rfl⟩))) (m_right_nd (m_right_nd (m_right_lf ⟨3, dX10_bestFor_3, rfl, rfl, 146, 2, 10, (yX10_oddsOf, cX10_oddsOf, 4, (some .int)), rfl, me_X10_oddsOf, mc_X10_oddsOf, Or.inl ⟨(RX10, TX10, 24), rfl, rfl⟩, wd_1101, wd_1103, wd_35, wd_71⟩) (m_right_lf ⟨2, dX10_bestFor_6, rfl, rfl, rfl⟩)) (m_right_nd (m_right_lf ⟨1, dX10_bestFor_8, rfl, rfl, rfl⟩) (m_right_lf ⟨1, dX10_bestFor_9, rfl, rfl, by decide +kernel⟩)))) (m_right_nd (m_right_nd (m_right_nd (m_right_lf ⟨3, dX10_bestFor_10, rfl, rfl, 22, rfl, by decide⟩) (m_right_lf ⟨1, dX10_bestFor_13, rfl, rfl, rfl⟩)) (m_right_nd (m_right_lf ⟨1, dX10_bestFor_14, rfl, rfl, by decide +kernel⟩) (m_right_lf ⟨3, dX10_bestFor_15, rfl, rfl, 10, 15, 2, (RX10, TX10, 24), rfl, rfl, by decide, wd_881, Or.inl rfl, tyX10 15, tyX10_ok 15 (by decide), Or.inr (Or.inr (Or.inl ⟨rfl, rfl⟩))⟩))) (m_right_nd (m_right_nd (m_right_lf ⟨2, dX10_bestFor_18, rfl, rfl, rfl⟩) (m_right_lf ⟨1, dX10_bestFor_20, rfl, rfl⟩)) (m_right_nd (m_right_lf ⟨1, dX10_bestFor_21, rfl, rfl⟩) (m_right_lf ⟨1, dX10_bestFor_22, rfl, rfl, rfl⟩))))) (m_right_nd (m_right_nd (m_right_nd (m_right_lf ⟨3, dX10_bestFor_23, rfl, rfl, 10, 1, rfl, Or.inl ⟨(RX10, TX10, 24), rfl, by decide, wd_867⟩⟩) (m_right_nd (m_right_lf ⟨1, dX10_bestFor_26, rfl, rfl, by decide +kernel⟩) (m_right_lf ⟨1, dX10_bestFor_27, rfl, rfl, rfl⟩))) (m_right_nd (m_right_nd (m_right_lf ⟨1, dX10_bestFor_28, rfl, rfl⟩) (m_right_lf ⟨1, dX10_bestFor_29, rfl, rfl⟩)) (m_right_nd (m_right_lf ⟨2, dX10_bestFor_30, rfl, rfl, rfl⟩) (m_right_lf ⟨1, dX10_bestFor_32, rfl, rfl, rfl⟩)))) (m_right_nd (m_right_nd (m_right_nd (m_right_lf ⟨3, dX10_bestFor_33, rfl, rfl, 10, 1, rfl, Or.inl ⟨(RX10, TX10, 24), rfl, by decide, wd_867⟩⟩) (m_right_lf ⟨1, dX10_bestFor_36, rfl, rfl, by decide +kernel⟩)) (m_right_nd (m_right_lf ⟨1, dX10_bestFor_37, rfl, rfl, rfl⟩) (m_right_lf ⟨1, dX10_bestFor_38, rfl, rfl⟩))) (m_right_nd (m_right_nd (m_right_lf ⟨1, dX10_bestFor_39, rfl, rfl⟩) (m_right_lf ⟨2, dX10_bestFor_40, rfl, rfl, rfl⟩)) (m_right_nd (m_right_lf ⟨1, dX10_bestFor_42, rfl, rfl, rfl⟩) (m_right_lf ⟨1, dX10_bestFor_43, rfl, rfl, rfl⟩)))))) (m_right_nd (m_right_nd (m_right_nd (m_right_nd (m_right_lf ⟨1, dX10_bestFor_44, rfl, rfl, rfl⟩) (m_right_nd (m_right_lf ⟨3, dX10_bestFor_45, rfl, rfl, 151, 2, 10, (yX10_plays, cX10_plays, 3, none), rfl, me_X10_plays, mc_X10_plays, Or.inl ⟨(RX10, TX10, 24), rfl, rfl⟩, wd_1109, wd_1111, wd_36, wd_71⟩) (m_right_lf ⟨1, dX10_bestFor_48, rfl, rfl, rfl⟩))) (m_right_nd (m_right_nd (m_right_lf ⟨1, dX10_bestFor_49, rfl, rfl, rfl⟩) (m_right_lf ⟨1, dX10_bestFor_50, rfl, rfl, rfl⟩)) (m_right_nd (m_right_lf ⟨1, dX10_bestFor_51, rfl, rfl, rfl⟩) (m_right_lf ⟨1, dX10_bestFor_52, rfl, rfl, by decide +kernel⟩)))) (m_right_nd (m_right_nd (m_right_nd (m_right_lf ⟨1, dX10_bestFor_53, rfl, rfl⟩) (m_right_lf ⟨3, dX10_bestFor_54, rfl, rfl, 165, 3, 10, (yX10_bestFor, cX10_bestFor, 13, (some .long)), rfl, me_X10_bestFor, mc_X10_bestFor, Or.inl ⟨(RX10, TX10, 24), rfl, rfl⟩, wd_1185, wd_1187, wd_46, wd_71⟩)) (m_right_nd (m_right_lf ⟨2, dX10_bestFor_57, rfl, rfl, rfl⟩) (m_right_lf ⟨1, dX10_bestFor_59, rfl, rfl, rfl⟩))) (m_right_nd (m_right_nd (m_right_lf ⟨3, dX10_bestFor_60, rfl, rfl, 10, 1, rfl, Or.inl ⟨(RX10, TX10, 24), rfl, by decide, wd_867⟩⟩) (m_right_lf ⟨1, dX10_bestFor_63, rfl, rfl, by decide +kernel⟩)) (m_right_nd (m_right_lf ⟨1, dX10_bestFor_64, rfl, rfl, rfl⟩) (m_right_lf ⟨1, dX10_bestFor_65, rfl, rfl⟩))))) (m_right_nd (m_right_nd (m_right_nd (m_right_lf ⟨1, dX10_bestFor_66, rfl, rfl, rfl⟩) (m_right_nd (m_right_lf ⟨2, dX10_bestFor_67, rfl, rfl, rfl⟩) (m_right_lf ⟨3, dX10_bestFor_69, rfl, rfl, 150, 1, 10, (yX10_moreOf, cX10_moreOf, 3, (some .int)), rfl, me_X10_moreOf, mc_X10_moreOf, Or.inl ⟨(RX10, TX10, 24), rfl, rfl⟩, wd_1117, wd_1119, wd_38, wd_71⟩))) (m_right_nd (m_right_nd (m_right_lf ⟨1, dX10_bestFor_72, rfl, rfl⟩) (m_right_lf ⟨1, dX10_bestFor_73, rfl, rfl, rfl⟩)) (m_right_nd (m_right_lf ⟨3, dX10_bestFor_74, rfl, rfl, 10, 1, rfl, Or.inl ⟨(RX10, TX10, 24), rfl, by decide, wd_867⟩⟩) (m_right_lf ⟨1, dX10_bestFor_77, rfl, rfl, by decide +kernel⟩)))) (m_right_nd (m_right_nd (m_right_nd (m_right_lf ⟨1, dX10_bestFor_78, rfl, rfl, rfl⟩) (m_right_lf ⟨1, dX10_bestFor_79, rfl, rfl⟩)) (m_right_nd (m_right_lf ⟨1, dX10_bestFor_80, rfl, rfl, rfl⟩) (m_right_lf ⟨2, dX10_bestFor_81, rfl, rfl, rfl⟩))) (m_right_nd (m_right_nd (m_right_lf ⟨3, dX10_bestFor_83, rfl, rfl, 149, 1, 10, (yX10_fewer, cX10_fewer, 3, (some .int)), rfl, me_X10_fewer, mc_X10_fewer, Or.inl ⟨(RX10, TX10, 24), rfl, rfl⟩, wd_1113, wd_1115, wd_37, wd_71⟩) (m_right_lf ⟨1, dX10_bestFor_86, rfl, rfl⟩)) (m_right_nd (m_right_lf ⟨1, dX10_bestFor_87, rfl, rfl, rfl⟩) (m_right_lf ⟨1, dX10_bestFor_88, rfl, rfl, rfl⟩))))))) (m_right_nd (m_right_nd (m_right_nd (m_right_nd (m_right_nd (m_right_lf ⟨1, dX10_bestFor_89, rfl, rfl, rfl⟩) (m_right_nd (m_right_lf ⟨1, dX10_bestFor_90, rfl, rfl, rfl⟩) (m_right_lf ⟨1, dX10_bestFor_91, rfl, rfl, by decide +kernel⟩))) (m_right_nd (m_right_nd (m_right_lf ⟨1, dX10_bestFor_92, rfl, rfl⟩) (m_right_lf ⟨3, dX10_bestFor_93, rfl, rfl, 165, 3, 10, (yX10_bestFor, cX10_bestFor, 13, (some .long)), rfl, me_X10_bestFor, mc_X10_bestFor, Or.inl ⟨(RX10, TX10, 24), rfl, rfl⟩, wd_1185, wd_1187, wd_46, wd_71⟩)) (m_right_nd (m_right_lf ⟨2, dX10_bestFor_96, rfl, rfl, rfl⟩) (m_right_lf ⟨1, dX10_bestFor_98, rfl, rfl, rfl⟩)))) (m_right_nd (m_right_nd (m_right_nd (m_right_lf ⟨3, dX10_bestFor_99, rfl, rfl, 10, 1, rfl, Or.inl ⟨(RX10, TX10, 24), rfl, by decide, wd_867⟩⟩) (m_right_lf ⟨1, dX10_bestFor_102, rfl, rfl, by decide +kernel⟩)) (m_right_nd (m_right_lf ⟨1, dX10_bestFor_103, rfl, rfl, rfl⟩) (m_right_lf ⟨1, dX10_bestFor_104, rfl, rfl⟩))) (m_right_nd (m_right_nd (m_right_lf ⟨2, dX10_bestFor_105, rfl, rfl, rfl⟩) (m_right_lf ⟨1, dX10_bestFor_107, rfl, rfl⟩)) (m_right_nd (m_right_lf ⟨1, dX10_bestFor_108, rfl, rfl, rfl⟩) (m_right_lf ⟨3, dX10_bestFor_109, rfl, rfl, 10, 1, rfl, Or.inl ⟨(RX10, TX10, 24), rfl, by decide, wd_867⟩⟩))))) (m_right_nd (m_right_nd (m_right_nd (m_right_lf ⟨1, dX10_bestFor_112, rfl, rfl, by decide +kernel⟩) (m_right_nd (m_right_lf ⟨1, dX10_bestFor_113, rfl, rfl, rfl⟩) (m_right_lf ⟨1, dX10_bestFor_114, rfl, rfl⟩))) (m_right_nd (m_right_nd (m_right_lf ⟨2, dX10_bestFor_115, rfl, rfl, rfl⟩) (m_right_lf ⟨1, dX10_bestFor_117, rfl, rfl⟩)) (m_right_nd (m_right_lf ⟨1, dX10_bestFor_118, rfl, rfl, rfl⟩) (m_right_lf ⟨3, dX10_bestFor_119, rfl, rfl, 10, 1, rfl, Or.inl ⟨(RX10, TX10, 24), rfl, by decide, wd_867⟩⟩)))) (m_right_nd (m_right_nd (m_right_nd (m_right_lf ⟨1, dX10_bestFor_122, rfl, rfl, by decide +kernel⟩) (m_right_lf ⟨1, dX10_bestFor_123, rfl, rfl⟩)) (m_right_nd (m_right_lf ⟨1, dX10_bestFor_124, rfl, rfl⟩) (m_right_lf ⟨1, dX10_bestFor_125, rfl, rfl, by decide +kernel⟩))) (m_right_nd (m_right_nd (m_right_lf ⟨1, dX10_bestFor_126, rfl, rfl⟩) (m_right_lf ⟨1, dX10_bestFor_127, rfl, rfl⟩)) (m_right_nd (m_right_lf ⟨2, dX10_bestFor_128, rfl, rfl, rfl⟩) (m_right_lf ⟨1, dX10_bestFor_130, rfl, rfl⟩)))))) (m_right_nd (m_right_nd (m_right_nd (m_right_nd (m_right_lf ⟨2, dX10_bestFor_131, rfl, rfl, rfl⟩) (m_right_nd (m_right_lf ⟨1, dX10_bestFor_133, rfl, rfl⟩) (m_right_lf ⟨2, dX10_bestFor_134, rfl, rfl, by decide +kernel⟩))) (m_right_nd (m_right_nd (m_right_lf ⟨2, dX10_bestFor_136, rfl, rfl, rfl⟩) (m_right_lf ⟨1, dX10_bestFor_138, rfl, rfl⟩)) (m_right_nd (m_right_lf ⟨1, dX10_bestFor_139, rfl, rfl⟩) (m_right_lf ⟨2, dX10_bestFor_140, rfl, rfl, rfl⟩)))) (m_right_nd (m_right_nd (m_right_nd (m_right_lf ⟨1, dX10_bestFor_142, rfl, rfl⟩) (m_right_lf ⟨1, dX10_bestFor_143, rfl, rfl⟩)) (m_right_nd (m_right_lf ⟨2, dX10_bestFor_144, rfl, rfl, rfl⟩) (m_right_lf ⟨1, dX10_bestFor_146, rfl, rfl, rfl⟩))) (m_right_nd (m_right_nd (m_right_lf ⟨3, dX10_bestFor_147, rfl, rfl, _, rfl, wd_1146⟩) (m_right_lf ⟨2, dX10_bestFor_150, rfl, rfl, rfl⟩)) (m_right_nd (m_right_lf ⟨1, dX10_bestFor_152, rfl, rfl⟩) (m_right_lf ⟨2, dX10_bestFor_153, rfl, rfl, rfl⟩))))) (m_right_nd (m_right_nd (m_right_nd (m_right_lf ⟨1, dX10_bestFor_155, rfl, rfl⟩) (m_right_nd (m_right_lf ⟨3, dX10_bestFor_156, rfl, rfl, 163, rfl, by decide⟩) (m_right_lf ⟨1, dX10_bestFor_159, rfl, rfl, by decide +kernel⟩))) (m_right_nd (m_right_nd (m_right_lf ⟨3, dX10_bestFor_160, rfl, 164, rfl, by decide⟩) (m_right_lf ⟨1, dX10_bestFor_163, rfl, rfl, by decide +kernel⟩)) (m_right_nd (m_right_lf ⟨3, dX10_bestFor_164, rfl, rfl, 10, 15, 2, (RX10, TX10, 24), rfl, rfl, by decide, wd_881, Or.inl rfl, tyX10 15, tyX10_ok 15 (by decide), Or.inr (Or.inr (Or.inl ⟨rfl, rfl⟩))⟩) (m_right_lf ⟨1, dX10_bestFor_167, rfl, rfl, rfl⟩)))) (m_right_nd (m_right_nd (m_right_nd (m_right_lf ⟨3, dX10_bestFor_168, rfl, rfl, 10, 15, rfl, Or.inl ⟨(RX10, TX10, 24), rfl, by decide, wd_881⟩⟩) (m_right_lf ⟨3, dX10_bestFor_171, rfl, rfl, 183, rfl, by decide⟩)) (m_right_nd (m_right_lf ⟨3, dX10_bestFor_174, rfl, rfl, _, rfl, wd_1146⟩) (m_right_lf ⟨2, dX10_bestFor_177, rfl, rfl, rfl⟩))) (m_right_nd (m_right_nd (m_right_lf ⟨1, dX10_bestFor_179, rfl, rfl⟩) (m_right_lf ⟨3, dX10_bestFor_180, rfl, 185, rfl, by decide⟩)) (m_right_nd (m_right_lf ⟨2, dX10_bestFor_183, rfl, rfl, rfl⟩) (m_right_lf ⟨1, dX10_bestFor_185, rfl, rfl⟩)))))))
theorem dX10_purpose_0 : decode cX10_purpose 0 = .ok (.aload_n 0, 1) := by decide +kernel
theorem dX10_purpose_1 : decode cX10_purpose 1 = .ok (.iload_n 1, 1) := by decide +kernel
theorem dX10_purpose_2 : decode cX10_purpose 2 = .ok (.iload_n 2, 1) := by decide +kernel
theorem dX10_purpose_3 : decode cX10_purpose 3 = .ok (.invokevirtual 180, 3) := by decide +kernel
theorem dX10_purpose_6 : decode cX10_purpose 6 = .ok (.ifCond .eq 23, 3) := by decide +kernel
theorem dX10_purpose_9 : decode cX10_purpose 9 = .ok (.iload_n 3, 1) := by decide +kernel
theorem dX10_purpose_10 : decode cX10_purpose 10 = .ok (.iconst 1, 1) := by decide +kernel
theorem dX10_purpose_11 : decode cX10_purpose 11 = .ok (.bipush 8, 2) := by decide +kernel
theorem dX10_purpose_13 : decode cX10_purpose 13 = .ok (.invokestatic 48, 3) := by decide +kernel
theorem dX10_purpose_16 : decode cX10_purpose 16 = .ok (.ifCond .eq 13, 3) := by decide +kernel
theorem dX10_purpose_19 : decode cX10_purpose 19 = .ok (.iload 4, 2) := by decide +kernel
theorem dX10_purpose_21 : decode cX10_purpose 21 = .ok (.iconst 0, 1) := by decide +kernel
theorem dX10_purpose_22 : decode cX10_purpose 22 = .ok (.iconst 1, 1) := by decide +kernel
theorem dX10_purpose_23 : decode cX10_purpose 23 = .ok (.invokestatic 48, 3) := by decide +kernel
theorem dX10_purpose_26 : decode cX10_purpose 26 = .ok (.ifCond .ne 7, 3) := by decide +kernel
theorem dX10_purpose_29 : decode cX10_purpose 29 = .ok (.ldc2_w 184, 3) := by decide +kernel
theorem dX10_purpose_32 : decode cX10_purpose 32 = .ok (.lreturn, 1) := by decide +kernel
theorem dX10_purpose_33 : decode cX10_purpose 33 = .ok (.aload_n 0, 1) := by decide +kernel
theorem dX10_purpose_34 : decode cX10_purpose 34 = .ok (.iload_n 1, 1) := by decide +kernel
theorem dX10_purpose_35 : decode cX10_purpose 35 = .ok (.iload_n 2, 1) := by decide +kernel
theorem dX10_purpose_36 : decode cX10_purpose 36 = .ok (.iload_n 3, 1) := by decide +kernel
theorem dX10_purpose_37 : decode cX10_purpose 37 = .ok (.invokevirtual 205, 3) := by decide +kernel
theorem dX10_purpose_40 : decode cX10_purpose 40 = .ok (.iload_n 3, 1) := by decide +kernel
theorem dX10_purpose_41 : decode cX10_purpose 41 = .ok (.invokestatic 190, 3) := by decide +kernel
theorem dX10_purpose_44 : decode cX10_purpose 44 = .ok (.iload 4, 2) := by decide +kernel
theorem dX10_purpose_46 : decode cX10_purpose 46 = .ok (.invokestatic 194, 3) := by decide +kernel
theorem dX10_purpose_49 : decode cX10_purpose 49 = .ok (.lreturn, 1) := by decide +kernel
set_option maxRecDepth 20000 in
theorem r_X10_purpose : m_Right (yX10_purpose, cX10_purpose, 5, (some .long)) q_X10_purpose := m_right_nd (m_right_nd (m_right_nd (m_right_nd (m_right_lf ⟨1, dX10_purpose_0, rfl, rfl, rfl⟩) (m_right_nd (m_right_lf ⟨1, dX10_purpose_1, rfl, rfl, rfl⟩) (m_right_lf ⟨1, dX10_purpose_2, rfl, rfl, rfl⟩))) (m_right_nd (m_right_lf ⟨3, dX10_purpose_3, rfl, rfl, 120, 2, 10, (yX10_areTwo, cX10_areTwo, 3, (some .boolean)), rfl, me_X10_areTwo, mc_X10_areTwo, Or.inl ⟨(RX10, TX10, 24), rfl, rfl⟩, wd_1125, wd_1127, wd_39, wd_71⟩) (m_right_nd (m_right_lf ⟨3, dX10_purpose_6, rfl, rfl, 29, rfl, by decide⟩) (m_right_lf ⟨1, dX10_purpose_9, rfl, rfl, rfl⟩)))) (m_right_nd (m_right_nd (m_right_lf ⟨1, dX10_purpose_10, rfl, rfl, by decide +kernel⟩) (m_right_nd (m_right_lf ⟨2, dX10_purpose_11, rfl, rfl, by decide +kernel⟩) (m_right_lf ⟨3, dX10_purpose_13, rfl, rfl, Or.inr (Or.inr ⟨118, 3, (yX10_in, cX10_in, 3, (some .boolean)), rfl, me_X10_in, mc_X10_in, wd_943, wd_944, wd_71⟩)⟩))) (m_right_nd (m_right_nd (m_right_lf ⟨3, dX10_purpose_16, rfl, rfl, 29, rfl, by decide⟩) (m_right_lf ⟨2, dX10_purpose_19, rfl, rfl, rfl⟩)) (m_right_nd (m_right_lf ⟨1, dX10_purpose_21, rfl, rfl, by decide +kernel⟩) (m_right_lf ⟨1, dX10_purpose_22, rfl, rfl, by decide +kernel⟩))))) (m_right_nd (m_right_nd (m_right_nd (m_right_lf ⟨3, dX10_purpose_23, rfl, rfl, Or.inr (Or.inr ⟨118, 3, (yX10_in, cX10_in, 3, (some .boolean)), rfl, me_X10_in, mc_X10_in, wd_943, wd_944, wd_71⟩)⟩) (m_right_nd (m_right_lf ⟨3, dX10_purpose_26, rfl, rfl, 33, rfl, by decide⟩) (m_right_lf ⟨3, dX10_purpose_29, rfl, rfl, _, rfl, wd_1129⟩))) (m_right_nd (m_right_nd (m_right_lf ⟨1, dX10_purpose_32, rfl, rfl⟩) (m_right_lf ⟨1, dX10_purpose_33, rfl, rfl, rfl⟩)) (m_right_nd (m_right_lf ⟨1, dX10_purpose_34, rfl, rfl, rfl⟩) (m_right_lf ⟨1, dX10_purpose_35, rfl, rfl, rfl⟩)))) (m_right_nd (m_right_nd (m_right_lf ⟨1, dX10_purpose_36, rfl, rfl, rfl⟩) (m_right_nd (m_right_lf ⟨3, dX10_purpose_37, rfl, rfl, 165, 3, 10, (yX10_bestFor, cX10_bestFor, 13, (some .long)), rfl, me_X10_bestFor, mc_X10_bestFor, Or.inl ⟨(RX10, TX10, 24), rfl, rfl⟩, wd_1185, wd_1187, wd_46, wd_71⟩) (m_right_lf ⟨1, dX10_purpose_40, rfl, rfl, rfl⟩))) (m_right_nd (m_right_nd (m_right_lf ⟨3, dX10_purpose_41, rfl, rfl, Or.inr (Or.inr ⟨153, 1, (yX10_tens, cX10_tens, 4, (some .long)), rfl, me_X10_tens, mc_X10_tens, wd_1151, wd_1152, wd_71⟩)⟩) (m_right_lf ⟨2, dX10_purpose_44, rfl, rfl, rfl⟩)) (m_right_nd (m_right_lf ⟨3, dX10_purpose_46, rfl, rfl, Or.inr (Or.inr ⟨157, 3, (yX10_lowest, cX10_lowest, 11, (some .long)), rfl, me_X10_lowest, mc_X10_lowest, wd_1154, wd_1155, wd_71⟩)⟩) (m_right_lf ⟨1, dX10_purpose_49, rfl, rfl⟩)))))
theorem dX10_loses_0 : decode cX10_loses 0 = .ok (.aload_n 0, 1) := by decide +kernel
theorem dX10_loses_1 : decode cX10_loses 1 = .ok (.iload_n 1, 1) := by decide +kernel
theorem dX10_loses_2 : decode cX10_loses 2 = .ok (.invokevirtual 52, 3) := by decide +kernel
theorem dX10_loses_5 : decode cX10_loses 5 = .ok (.ifCond .eq 11, 3) := by decide +kernel
theorem dX10_loses_8 : decode cX10_loses 8 = .ok (.aload_n 0, 1) := by decide +kernel
theorem dX10_loses_9 : decode cX10_loses 9 = .ok (.iload_n 2, 1) := by decide +kernel
theorem dX10_loses_10 : decode cX10_loses 10 = .ok (.invokevirtual 52, 3) := by decide +kernel
theorem dX10_loses_13 : decode cX10_loses 13 = .ok (.ifCond .ne 5, 3) := by decide +kernel
theorem dX10_loses_16 : decode cX10_loses 16 = .ok (.iconst (-1), 1) := by decide +kernel
theorem dX10_loses_17 : decode cX10_loses 17 = .ok (.ireturn, 1) := by decide +kernel
theorem dX10_loses_18 : decode cX10_loses 18 = .ok (.iload_n 1, 1) := by decide +kernel
theorem dX10_loses_19 : decode cX10_loses 19 = .ok (.iload_n 2, 1) := by decide +kernel
theorem dX10_loses_20 : decode cX10_loses 20 = .ok (.if_icmp .eq 13, 3) := by decide +kernel
theorem dX10_loses_23 : decode cX10_loses 23 = .ok (.iload_n 3, 1) := by decide +kernel
theorem dX10_loses_24 : decode cX10_loses 24 = .ok (.iconst 1, 1) := by decide +kernel
theorem dX10_loses_25 : decode cX10_loses 25 = .ok (.bipush 8, 2) := by decide +kernel
theorem dX10_loses_27 : decode cX10_loses 27 = .ok (.invokestatic 48, 3) := by decide +kernel
theorem dX10_loses_30 : decode cX10_loses 30 = .ok (.ifCond .ne 6, 3) := by decide +kernel
theorem dX10_loses_33 : decode cX10_loses 33 = .ok (.bipush (-2), 2) := by decide +kernel
theorem dX10_loses_35 : decode cX10_loses 35 = .ok (.ireturn, 1) := by decide +kernel
theorem dX10_loses_36 : decode cX10_loses 36 = .ok (.aload_n 0, 1) := by decide +kernel
theorem dX10_loses_37 : decode cX10_loses 37 = .ok (.iload_n 1, 1) := by decide +kernel
theorem dX10_loses_38 : decode cX10_loses 38 = .ok (.iload_n 2, 1) := by decide +kernel
theorem dX10_loses_39 : decode cX10_loses 39 = .ok (.iload_n 3, 1) := by decide +kernel
theorem dX10_loses_40 : decode cX10_loses 40 = .ok (.invokevirtual 205, 3) := by decide +kernel
theorem dX10_loses_43 : decode cX10_loses 43 = .ok (.pop2, 1) := by decide +kernel
theorem dX10_loses_44 : decode cX10_loses 44 = .ok (.aload_n 0, 1) := by decide +kernel
theorem dX10_loses_45 : decode cX10_loses 45 = .ok (.getfield 202, 3) := by decide +kernel
theorem dX10_loses_48 : decode cX10_loses 48 = .ok (.ifCond .eq 7, 3) := by decide +kernel
theorem dX10_loses_51 : decode cX10_loses 51 = .ok (.iconst 1, 1) := by decide +kernel
theorem dX10_loses_52 : decode cX10_loses 52 = .ok (.goto 4, 3) := by decide +kernel
theorem dX10_loses_55 : decode cX10_loses 55 = .ok (.iconst 0, 1) := by decide +kernel
theorem dX10_loses_56 : decode cX10_loses 56 = .ok (.ireturn, 1) := by decide +kernel
set_option maxRecDepth 20000 in
theorem r_X10_loses : m_Right (yX10_loses, cX10_loses, 4, (some .int)) q_X10_loses := m_right_nd (m_right_nd (m_right_nd (m_right_nd (m_right_nd (m_right_lf ⟨1, dX10_loses_0, rfl, rfl, rfl⟩) (m_right_lf ⟨1, dX10_loses_1, rfl, rfl, rfl⟩)) (m_right_nd (m_right_lf ⟨3, dX10_loses_2, rfl, rfl, 119, 1, 10, (yX10_isPlayer, cX10_isPlayer, 2, (some .boolean)), rfl, me_X10_isPlayer, mc_X10_isPlayer, Or.inl ⟨(RX10, TX10, 24), rfl, rfl⟩, wd_1065, wd_1067, wd_31, wd_71⟩) (m_right_lf ⟨3, dX10_loses_5, rfl, rfl, 16, rfl, by decide⟩))) (m_right_nd (m_right_nd (m_right_lf ⟨1, dX10_loses_8, rfl, rfl, rfl⟩) (m_right_lf ⟨1, dX10_loses_9, rfl, rfl, rfl⟩)) (m_right_nd (m_right_lf ⟨3, dX10_loses_10, rfl, rfl, 119, 1, 10, (yX10_isPlayer, cX10_isPlayer, 2, (some .boolean)), rfl, me_X10_isPlayer, mc_X10_isPlayer, Or.inl ⟨(RX10, TX10, 24), rfl, rfl⟩, wd_1065, wd_1067, wd_31, wd_71⟩) (m_right_lf ⟨3, dX10_loses_13, rfl, rfl, 18, rfl, by decide⟩)))) (m_right_nd (m_right_nd (m_right_nd (m_right_lf ⟨1, dX10_loses_16, rfl, rfl, by decide +kernel⟩) (m_right_lf ⟨1, dX10_loses_17, rfl, 0, .int, rfl, rfl, Or.inl ⟨rfl, rfl⟩⟩)) (m_right_nd (m_right_lf ⟨1, dX10_loses_18, rfl, rfl, rfl⟩) (m_right_lf ⟨1, dX10_loses_19, rfl, rfl, rfl⟩))) (m_right_nd (m_right_nd (m_right_lf ⟨3, dX10_loses_20, rfl, rfl, 33, rfl, by decide⟩) (m_right_lf ⟨1, dX10_loses_23, rfl, rfl, rfl⟩)) (m_right_nd (m_right_lf ⟨1, dX10_loses_24, rfl, rfl, by decide +kernel⟩) (m_right_lf ⟨2, dX10_loses_25, rfl, rfl, by decide +kernel⟩))))) (m_right_nd (m_right_nd (m_right_nd (m_right_nd (m_right_lf ⟨3, dX10_loses_27, rfl, rfl, Or.inr (Or.inr ⟨118, 3, (yX10_in, cX10_in, 3, (some .boolean)), rfl, me_X10_in, mc_X10_in, wd_943, wd_944, wd_71⟩)⟩) (m_right_lf ⟨3, dX10_loses_30, rfl, rfl, 36, rfl, by decide⟩)) (m_right_nd (m_right_lf ⟨2, dX10_loses_33, rfl, rfl, by decide +kernel⟩) (m_right_lf ⟨1, dX10_loses_35, rfl, 0, .int, rfl, rfl, Or.inl ⟨rfl, rfl⟩⟩))) (m_right_nd (m_right_nd (m_right_lf ⟨1, dX10_loses_36, rfl, rfl, rfl⟩) (m_right_lf ⟨1, dX10_loses_37, rfl, rfl, rfl⟩)) (m_right_nd (m_right_lf ⟨1, dX10_loses_38, rfl, rfl, rfl⟩) (m_right_lf ⟨1, dX10_loses_39, rfl, rfl, rfl⟩)))) (m_right_nd (m_right_nd (m_right_nd (m_right_lf ⟨3, dX10_loses_40, rfl, rfl, 165, 3, 10, (yX10_bestFor, cX10_bestFor, 13, (some .long)), rfl, me_X10_bestFor, mc_X10_bestFor, Or.inl ⟨(RX10, TX10, 24), rfl, rfl⟩, wd_1185, wd_1187, wd_46, wd_71⟩) (m_right_lf ⟨1, dX10_loses_43, rfl, rfl⟩)) (m_right_nd (m_right_lf ⟨1, dX10_loses_44, rfl, rfl, rfl⟩) (m_right_lf ⟨3, dX10_loses_45, rfl, rfl, 10, 15, rfl, Or.inl ⟨(RX10, TX10, 24), rfl, by decide, wd_881⟩⟩))) (m_right_nd (m_right_nd (m_right_lf ⟨3, dX10_loses_48, rfl, rfl, 55, rfl, by decide⟩) (m_right_lf ⟨1, dX10_loses_51, rfl, rfl, by decide +kernel⟩)) (m_right_nd (m_right_lf ⟨3, dX10_loses_52, rfl, 56, rfl, by decide⟩) (m_right_nd (m_right_lf ⟨1, dX10_loses_55, rfl, rfl, by decide +kernel⟩) (m_right_lf ⟨1, dX10_loses_56, rfl, 0, .int, rfl, rfl, Or.inl ⟨rfl, rfl⟩⟩))))))
theorem dX10_wonBy_0 : decode cX10_wonBy 0 = .ok (.iload_n 2, 1) := by decide +kernel
theorem dX10_wonBy_1 : decode cX10_wonBy 1 = .ok (.iload_n 3, 1) := by decide +kernel
theorem dX10_wonBy_2 : decode cX10_wonBy 2 = .ok (.if_icmp .ne 5, 3) := by decide +kernel
theorem dX10_wonBy_5 : decode cX10_wonBy 5 = .ok (.lconst 0, 1) := by decide +kernel
theorem dX10_wonBy_6 : decode cX10_wonBy 6 = .ok (.lreturn, 1) := by decide +kernel
theorem dX10_wonBy_7 : decode cX10_wonBy 7 = .ok (.aload_n 0, 1) := by decide +kernel
theorem dX10_wonBy_8 : decode cX10_wonBy 8 = .ok (.getfield 35, 3) := by decide +kernel
theorem dX10_wonBy_11 : decode cX10_wonBy 11 = .ok (.iload_n 2, 1) := by decide +kernel
theorem dX10_wonBy_12 : decode cX10_wonBy 12 = .ok (.iaload, 1) := by decide +kernel
theorem dX10_wonBy_13 : decode cX10_wonBy 13 = .ok (.istore 4, 2) := by decide +kernel
theorem dX10_wonBy_15 : decode cX10_wonBy 15 = .ok (.aload_n 0, 1) := by decide +kernel
theorem dX10_wonBy_16 : decode cX10_wonBy 16 = .ok (.iload_n 1, 1) := by decide +kernel
theorem dX10_wonBy_17 : decode cX10_wonBy 17 = .ok (.iload 4, 2) := by decide +kernel
theorem dX10_wonBy_19 : decode cX10_wonBy 19 = .ok (.invokevirtual 148, 3) := by decide +kernel
theorem dX10_wonBy_22 : decode cX10_wonBy 22 = .ok (.istore 5, 2) := by decide +kernel
theorem dX10_wonBy_24 : decode cX10_wonBy 24 = .ok (.aload_n 0, 1) := by decide +kernel
theorem dX10_wonBy_25 : decode cX10_wonBy 25 = .ok (.getfield 9, 3) := by decide +kernel
theorem dX10_wonBy_28 : decode cX10_wonBy 28 = .ok (.iconst 1, 1) := by decide +kernel
theorem dX10_wonBy_29 : decode cX10_wonBy 29 = .ok (.iload_n 1, 1) := by decide +kernel
theorem dX10_wonBy_30 : decode cX10_wonBy 30 = .ok (.iadd, 1) := by decide +kernel
theorem dX10_wonBy_31 : decode cX10_wonBy 31 = .ok (.iaload, 1) := by decide +kernel
theorem dX10_wonBy_32 : decode cX10_wonBy 32 = .ok (.istore 6, 2) := by decide +kernel
theorem dX10_wonBy_34 : decode cX10_wonBy 34 = .ok (.aload_n 0, 1) := by decide +kernel
theorem dX10_wonBy_35 : decode cX10_wonBy 35 = .ok (.getfield 9, 3) := by decide +kernel
theorem dX10_wonBy_38 : decode cX10_wonBy 38 = .ok (.iconst 0, 1) := by decide +kernel
theorem dX10_wonBy_39 : decode cX10_wonBy 39 = .ok (.dup2, 1) := by decide +kernel
theorem dX10_wonBy_40 : decode cX10_wonBy 40 = .ok (.iaload, 1) := by decide +kernel
theorem dX10_wonBy_41 : decode cX10_wonBy 41 = .ok (.iconst 1, 1) := by decide +kernel
theorem dX10_wonBy_42 : decode cX10_wonBy 42 = .ok (.iadd, 1) := by decide +kernel
theorem dX10_wonBy_43 : decode cX10_wonBy 43 = .ok (.iastore, 1) := by decide +kernel
theorem dX10_wonBy_44 : decode cX10_wonBy 44 = .ok (.aload_n 0, 1) := by decide +kernel
theorem dX10_wonBy_45 : decode cX10_wonBy 45 = .ok (.getfield 9, 3) := by decide +kernel
theorem dX10_wonBy_48 : decode cX10_wonBy 48 = .ok (.iconst 1, 1) := by decide +kernel
theorem dX10_wonBy_49 : decode cX10_wonBy 49 = .ok (.iload_n 1, 1) := by decide +kernel
theorem dX10_wonBy_50 : decode cX10_wonBy 50 = .ok (.iadd, 1) := by decide +kernel
theorem dX10_wonBy_51 : decode cX10_wonBy 51 = .ok (.aload_n 0, 1) := by decide +kernel
theorem dX10_wonBy_52 : decode cX10_wonBy 52 = .ok (.iload 6, 2) := by decide +kernel
theorem dX10_wonBy_54 : decode cX10_wonBy 54 = .ok (.invokevirtual 151, 3) := by decide +kernel
theorem dX10_wonBy_57 : decode cX10_wonBy 57 = .ok (.iastore, 1) := by decide +kernel
theorem dX10_wonBy_58 : decode cX10_wonBy 58 = .ok (.iload 5, 2) := by decide +kernel
theorem dX10_wonBy_60 : decode cX10_wonBy 60 = .ok (.i2l, 1) := by decide +kernel
theorem dX10_wonBy_61 : decode cX10_wonBy 61 = .ok (.iload_n 3, 1) := by decide +kernel
theorem dX10_wonBy_62 : decode cX10_wonBy 62 = .ok (.iconst 1, 1) := by decide +kernel
theorem dX10_wonBy_63 : decode cX10_wonBy 63 = .ok (.isub, 1) := by decide +kernel
theorem dX10_wonBy_64 : decode cX10_wonBy 64 = .ok (.iload_n 2, 1) := by decide +kernel
theorem dX10_wonBy_65 : decode cX10_wonBy 65 = .ok (.isub, 1) := by decide +kernel
theorem dX10_wonBy_66 : decode cX10_wonBy 66 = .ok (.invokestatic 190, 3) := by decide +kernel
theorem dX10_wonBy_69 : decode cX10_wonBy 69 = .ok (.aload_n 0, 1) := by decide +kernel
theorem dX10_wonBy_70 : decode cX10_wonBy 70 = .ok (.iload_n 1, 1) := by decide +kernel
theorem dX10_wonBy_71 : decode cX10_wonBy 71 = .ok (.iload_n 2, 1) := by decide +kernel
theorem dX10_wonBy_72 : decode cX10_wonBy 72 = .ok (.iconst 1, 1) := by decide +kernel
theorem dX10_wonBy_73 : decode cX10_wonBy 73 = .ok (.iadd, 1) := by decide +kernel
theorem dX10_wonBy_74 : decode cX10_wonBy 74 = .ok (.iload_n 3, 1) := by decide +kernel
theorem dX10_wonBy_75 : decode cX10_wonBy 75 = .ok (.invokevirtual 209, 3) := by decide +kernel
theorem dX10_wonBy_78 : decode cX10_wonBy 78 = .ok (.ladd, 1) := by decide +kernel
theorem dX10_wonBy_79 : decode cX10_wonBy 79 = .ok (.lmul, 1) := by decide +kernel
theorem dX10_wonBy_80 : decode cX10_wonBy 80 = .ok (.lstore 7, 2) := by decide +kernel
theorem dX10_wonBy_82 : decode cX10_wonBy 82 = .ok (.aload_n 0, 1) := by decide +kernel
theorem dX10_wonBy_83 : decode cX10_wonBy 83 = .ok (.getfield 9, 3) := by decide +kernel
theorem dX10_wonBy_86 : decode cX10_wonBy 86 = .ok (.iconst 1, 1) := by decide +kernel
theorem dX10_wonBy_87 : decode cX10_wonBy 87 = .ok (.iload_n 1, 1) := by decide +kernel
theorem dX10_wonBy_88 : decode cX10_wonBy 88 = .ok (.iadd, 1) := by decide +kernel
theorem dX10_wonBy_89 : decode cX10_wonBy 89 = .ok (.aload_n 0, 1) := by decide +kernel
theorem dX10_wonBy_90 : decode cX10_wonBy 90 = .ok (.iload 6, 2) := by decide +kernel
theorem dX10_wonBy_92 : decode cX10_wonBy 92 = .ok (.invokevirtual 154, 3) := by decide +kernel
theorem dX10_wonBy_95 : decode cX10_wonBy 95 = .ok (.iastore, 1) := by decide +kernel
theorem dX10_wonBy_96 : decode cX10_wonBy 96 = .ok (.lload 7, 2) := by decide +kernel
theorem dX10_wonBy_98 : decode cX10_wonBy 98 = .ok (.bipush 10, 2) := by decide +kernel
theorem dX10_wonBy_100 : decode cX10_wonBy 100 = .ok (.iload 5, 2) := by decide +kernel
theorem dX10_wonBy_102 : decode cX10_wonBy 102 = .ok (.isub, 1) := by decide +kernel
theorem dX10_wonBy_103 : decode cX10_wonBy 103 = .ok (.i2l, 1) := by decide +kernel
theorem dX10_wonBy_104 : decode cX10_wonBy 104 = .ok (.aload_n 0, 1) := by decide +kernel
theorem dX10_wonBy_105 : decode cX10_wonBy 105 = .ok (.iload_n 1, 1) := by decide +kernel
theorem dX10_wonBy_106 : decode cX10_wonBy 106 = .ok (.iload_n 2, 1) := by decide +kernel
theorem dX10_wonBy_107 : decode cX10_wonBy 107 = .ok (.iconst 1, 1) := by decide +kernel
theorem dX10_wonBy_108 : decode cX10_wonBy 108 = .ok (.iadd, 1) := by decide +kernel
theorem dX10_wonBy_109 : decode cX10_wonBy 109 = .ok (.iload_n 3, 1) := by decide +kernel
theorem dX10_wonBy_110 : decode cX10_wonBy 110 = .ok (.invokevirtual 209, 3) := by decide +kernel
theorem dX10_wonBy_113 : decode cX10_wonBy 113 = .ok (.lmul, 1) := by decide +kernel
theorem dX10_wonBy_114 : decode cX10_wonBy 114 = .ok (.ladd, 1) := by decide +kernel
theorem dX10_wonBy_115 : decode cX10_wonBy 115 = .ok (.lstore 7, 2) := by decide +kernel
theorem dX10_wonBy_117 : decode cX10_wonBy 117 = .ok (.aload_n 0, 1) := by decide +kernel
theorem dX10_wonBy_118 : decode cX10_wonBy 118 = .ok (.getfield 9, 3) := by decide +kernel
theorem dX10_wonBy_121 : decode cX10_wonBy 121 = .ok (.iconst 1, 1) := by decide +kernel
theorem dX10_wonBy_122 : decode cX10_wonBy 122 = .ok (.iload_n 1, 1) := by decide +kernel
theorem dX10_wonBy_123 : decode cX10_wonBy 123 = .ok (.iadd, 1) := by decide +kernel
theorem dX10_wonBy_124 : decode cX10_wonBy 124 = .ok (.iload 6, 2) := by decide +kernel
theorem dX10_wonBy_126 : decode cX10_wonBy 126 = .ok (.iastore, 1) := by decide +kernel
theorem dX10_wonBy_127 : decode cX10_wonBy 127 = .ok (.aload_n 0, 1) := by decide +kernel
theorem dX10_wonBy_128 : decode cX10_wonBy 128 = .ok (.getfield 9, 3) := by decide +kernel
theorem dX10_wonBy_131 : decode cX10_wonBy 131 = .ok (.iconst 0, 1) := by decide +kernel
theorem dX10_wonBy_132 : decode cX10_wonBy 132 = .ok (.dup2, 1) := by decide +kernel
theorem dX10_wonBy_133 : decode cX10_wonBy 133 = .ok (.iaload, 1) := by decide +kernel
theorem dX10_wonBy_134 : decode cX10_wonBy 134 = .ok (.iconst 1, 1) := by decide +kernel
theorem dX10_wonBy_135 : decode cX10_wonBy 135 = .ok (.isub, 1) := by decide +kernel
theorem dX10_wonBy_136 : decode cX10_wonBy 136 = .ok (.iastore, 1) := by decide +kernel
theorem dX10_wonBy_137 : decode cX10_wonBy 137 = .ok (.lload 7, 2) := by decide +kernel
theorem dX10_wonBy_139 : decode cX10_wonBy 139 = .ok (.lreturn, 1) := by decide +kernel
set_option maxRecDepth 20000 in
theorem r_X10_wonBy : m_Right (yX10_wonBy, cX10_wonBy, 9, (some .long)) q_X10_wonBy := m_right_nd (m_right_nd (m_right_nd (m_right_nd (m_right_nd (m_right_nd (m_right_lf ⟨1, dX10_wonBy_0, rfl, rfl, rfl⟩) (m_right_nd (m_right_lf ⟨1, dX10_wonBy_1, rfl, rfl, rfl⟩) (m_right_lf ⟨3, dX10_wonBy_2, rfl, rfl, 7, rfl, by decide⟩))) (m_right_nd (m_right_lf ⟨1, dX10_wonBy_5, rfl, rfl, by decide +kernel⟩) (m_right_nd (m_right_lf ⟨1, dX10_wonBy_6, rfl, rfl⟩) (m_right_lf ⟨1, dX10_wonBy_7, rfl, rfl, rfl⟩)))) (m_right_nd (m_right_nd (m_right_lf ⟨3, dX10_wonBy_8, rfl, rfl, 10, 16, rfl, Or.inl ⟨(RX10, TX10, 24), rfl, by decide, wd_882⟩⟩) (m_right_nd (m_right_lf ⟨1, dX10_wonBy_11, rfl, rfl, rfl⟩) (m_right_lf ⟨1, dX10_wonBy_12, rfl, rfl⟩))) (m_right_nd (m_right_lf ⟨2, dX10_wonBy_13, rfl, rfl, rfl⟩) (m_right_nd (m_right_lf ⟨1, dX10_wonBy_15, rfl, rfl, rfl⟩) (m_right_lf ⟨1, dX10_wonBy_16, rfl, rfl, rfl⟩))))) (m_right_nd (m_right_nd (m_right_nd (m_right_lf ⟨2, dX10_wonBy_17, rfl, rfl, rfl⟩) (m_right_nd (m_right_lf ⟨3, dX10_wonBy_19, rfl, rfl, 146, 2, 10, (yX10_oddsOf, cX10_oddsOf, 4, (some .int)), rfl, me_X10_oddsOf, mc_X10_oddsOf, Or.inl ⟨(RX10, TX10, 24), rfl, rfl⟩, wd_1101, wd_1103, wd_35, wd_71⟩) (m_right_lf ⟨2, dX10_wonBy_22, rfl, rfl, rfl⟩))) (m_right_nd (m_right_lf ⟨1, dX10_wonBy_24, rfl, rfl, rfl⟩) (m_right_nd (m_right_lf ⟨3, dX10_wonBy_25, rfl, rfl, 10, 1, rfl, Or.inl ⟨(RX10, TX10, 24), rfl, by decide, wd_867⟩⟩) (m_right_lf ⟨1, dX10_wonBy_28, rfl, rfl, by decide +kernel⟩)))) (m_right_nd (m_right_nd (m_right_lf ⟨1, dX10_wonBy_29, rfl, rfl, rfl⟩) (m_right_nd (m_right_lf ⟨1, dX10_wonBy_30, rfl, rfl⟩) (m_right_lf ⟨1, dX10_wonBy_31, rfl, rfl⟩))) (m_right_nd (m_right_lf ⟨2, dX10_wonBy_32, rfl, rfl, rfl⟩) (m_right_nd (m_right_lf ⟨1, dX10_wonBy_34, rfl, rfl, rfl⟩) (m_right_lf ⟨3, dX10_wonBy_35, rfl, rfl, 10, 1, rfl, Or.inl ⟨(RX10, TX10, 24), rfl, by decide, wd_867⟩⟩)))))) (m_right_nd (m_right_nd (m_right_nd (m_right_nd (m_right_lf ⟨1, dX10_wonBy_38, rfl, rfl, by decide +kernel⟩) (m_right_nd (m_right_lf ⟨1, dX10_wonBy_39, rfl, rfl⟩) (m_right_lf ⟨1, dX10_wonBy_40, rfl, rfl⟩))) (m_right_nd (m_right_lf ⟨1, dX10_wonBy_41, rfl, rfl, by decide +kernel⟩) (m_right_nd (m_right_lf ⟨1, dX10_wonBy_42, rfl, rfl⟩) (m_right_lf ⟨1, dX10_wonBy_43, rfl, rfl⟩)))) (m_right_nd (m_right_nd (m_right_lf ⟨1, dX10_wonBy_44, rfl, rfl, rfl⟩) (m_right_nd (m_right_lf ⟨3, dX10_wonBy_45, rfl, rfl, 10, 1, rfl, Or.inl ⟨(RX10, TX10, 24), rfl, by decide, wd_867⟩⟩) (m_right_lf ⟨1, dX10_wonBy_48, rfl, rfl, by decide +kernel⟩))) (m_right_nd (m_right_lf ⟨1, dX10_wonBy_49, rfl, rfl, rfl⟩) (m_right_nd (m_right_lf ⟨1, dX10_wonBy_50, rfl, rfl⟩) (m_right_lf ⟨1, dX10_wonBy_51, rfl, rfl, rfl⟩))))) (m_right_nd (m_right_nd (m_right_nd (m_right_lf ⟨2, dX10_wonBy_52, rfl, rfl, rfl⟩) (m_right_nd (m_right_lf ⟨3, dX10_wonBy_54, rfl, rfl, 149, 1, 10, (yX10_fewer, cX10_fewer, 3, (some .int)), rfl, me_X10_fewer, mc_X10_fewer, Or.inl ⟨(RX10, TX10, 24), rfl, rfl⟩, wd_1113, wd_1115, wd_37, wd_71⟩) (m_right_lf ⟨1, dX10_wonBy_57, rfl, rfl⟩))) (m_right_nd (m_right_lf ⟨2, dX10_wonBy_58, rfl, rfl, rfl⟩) (m_right_nd (m_right_lf ⟨1, dX10_wonBy_60, rfl, rfl⟩) (m_right_lf ⟨1, dX10_wonBy_61, rfl, rfl, rfl⟩)))) (m_right_nd (m_right_nd (m_right_lf ⟨1, dX10_wonBy_62, rfl, rfl, by decide +kernel⟩) (m_right_nd (m_right_lf ⟨1, dX10_wonBy_63, rfl, rfl⟩) (m_right_lf ⟨1, dX10_wonBy_64, rfl, rfl, rfl⟩))) (m_right_nd (m_right_nd (m_right_lf ⟨1, dX10_wonBy_65, rfl, rfl⟩) (m_right_lf ⟨3, dX10_wonBy_66, rfl, rfl, Or.inr (Or.inr ⟨153, 1, (yX10_tens, cX10_tens, 4, (some .long)), rfl, me_X10_tens, mc_X10_tens, wd_1151, wd_1152, wd_71⟩)⟩)) (m_right_nd (m_right_lf ⟨1, dX10_wonBy_69, rfl, rfl, rfl⟩) (m_right_lf ⟨1, dX10_wonBy_70, rfl, rfl, rfl⟩))))))) (m_right_nd (m_right_nd (m_right_nd (m_right_nd (m_right_nd (m_right_lf ⟨1, dX10_wonBy_71, rfl, rfl, rfl⟩) (m_right_nd (m_right_lf ⟨1, dX10_wonBy_72, rfl, rfl, by decide +kernel⟩) (m_right_lf ⟨1, dX10_wonBy_73, rfl, rfl⟩))) (m_right_nd (m_right_lf ⟨1, dX10_wonBy_74, rfl, rfl, rfl⟩) (m_right_nd (m_right_lf ⟨3, dX10_wonBy_75, rfl, rfl, 168, 3, 10, (yX10_wonBy, cX10_wonBy, 9, (some .long)), rfl, me_X10_wonBy, mc_X10_wonBy, Or.inl ⟨(RX10, TX10, 24), rfl, rfl⟩, wd_1210, wd_1212, wd_50, wd_71⟩) (m_right_lf ⟨1, dX10_wonBy_78, rfl, rfl⟩)))) (m_right_nd (m_right_nd (m_right_lf ⟨1, dX10_wonBy_79, rfl, rfl⟩) (m_right_nd (m_right_lf ⟨2, dX10_wonBy_80, rfl, rfl, rfl⟩) (m_right_lf ⟨1, dX10_wonBy_82, rfl, rfl, rfl⟩))) (m_right_nd (m_right_lf ⟨3, dX10_wonBy_83, rfl, rfl, 10, 1, rfl, Or.inl ⟨(RX10, TX10, 24), rfl, by decide, wd_867⟩⟩) (m_right_nd (m_right_lf ⟨1, dX10_wonBy_86, rfl, rfl, by decide +kernel⟩) (m_right_lf ⟨1, dX10_wonBy_87, rfl, rfl, rfl⟩))))) (m_right_nd (m_right_nd (m_right_nd (m_right_lf ⟨1, dX10_wonBy_88, rfl, rfl⟩) (m_right_nd (m_right_lf ⟨1, dX10_wonBy_89, rfl, rfl, rfl⟩) (m_right_lf ⟨2, dX10_wonBy_90, rfl, rfl, rfl⟩))) (m_right_nd (m_right_lf ⟨3, dX10_wonBy_92, rfl, rfl, 150, 1, 10, (yX10_moreOf, cX10_moreOf, 3, (some .int)), rfl, me_X10_moreOf, mc_X10_moreOf, Or.inl ⟨(RX10, TX10, 24), rfl, rfl⟩, wd_1117, wd_1119, wd_38, wd_71⟩) (m_right_nd (m_right_lf ⟨1, dX10_wonBy_95, rfl, rfl⟩) (m_right_lf ⟨2, dX10_wonBy_96, rfl, rfl, rfl⟩)))) (m_right_nd (m_right_nd (m_right_lf ⟨2, dX10_wonBy_98, rfl, rfl, by decide +kernel⟩) (m_right_nd (m_right_lf ⟨2, dX10_wonBy_100, rfl, rfl, rfl⟩) (m_right_lf ⟨1, dX10_wonBy_102, rfl, rfl⟩))) (m_right_nd (m_right_lf ⟨1, dX10_wonBy_103, rfl, rfl⟩) (m_right_nd (m_right_lf ⟨1, dX10_wonBy_104, rfl, rfl, rfl⟩) (m_right_lf ⟨1, dX10_wonBy_105, rfl, rfl, rfl⟩)))))) (m_right_nd (m_right_nd (m_right_nd (m_right_nd (m_right_lf ⟨1, dX10_wonBy_106, rfl, rfl, rfl⟩) (m_right_nd (m_right_lf ⟨1, dX10_wonBy_107, rfl, rfl, by decide +kernel⟩) (m_right_lf ⟨1, dX10_wonBy_108, rfl, rfl⟩))) (m_right_nd (m_right_lf ⟨1, dX10_wonBy_109, rfl, rfl, rfl⟩) (m_right_nd (m_right_lf ⟨3, dX10_wonBy_110, rfl, rfl, 168, 3, 10, (yX10_wonBy, cX10_wonBy, 9, (some .long)), rfl, me_X10_wonBy, mc_X10_wonBy, Or.inl ⟨(RX10, TX10, 24), rfl, rfl⟩, wd_1210, wd_1212, wd_50, wd_71⟩) (m_right_lf ⟨1, dX10_wonBy_113, rfl, rfl⟩)))) (m_right_nd (m_right_nd (m_right_lf ⟨1, dX10_wonBy_114, rfl, rfl⟩) (m_right_nd (m_right_lf ⟨2, dX10_wonBy_115, rfl, rfl, rfl⟩) (m_right_lf ⟨1, dX10_wonBy_117, rfl, rfl, rfl⟩))) (m_right_nd (m_right_lf ⟨3, dX10_wonBy_118, rfl, rfl, 10, 1, rfl, Or.inl ⟨(RX10, TX10, 24), rfl, by decide, wd_867⟩⟩) (m_right_nd (m_right_lf ⟨1, dX10_wonBy_121, rfl, rfl, by decide +kernel⟩) (m_right_lf ⟨1, dX10_wonBy_122, rfl, rfl, rfl⟩))))) (m_right_nd (m_right_nd (m_right_nd (m_right_lf ⟨1, dX10_wonBy_123, rfl, rfl⟩) (m_right_nd (m_right_lf ⟨2, dX10_wonBy_124, rfl, rfl, rfl⟩) (m_right_lf ⟨1, dX10_wonBy_126, rfl, rfl⟩))) (m_right_nd (m_right_lf ⟨1, dX10_wonBy_127, rfl, rfl, rfl⟩) (m_right_nd (m_right_lf ⟨3, dX10_wonBy_128, rfl, rfl, 10, 1, rfl, Or.inl ⟨(RX10, TX10, 24), rfl, by decide, wd_867⟩⟩) (m_right_lf ⟨1, dX10_wonBy_131, rfl, rfl, by decide +kernel⟩)))) (m_right_nd (m_right_nd (m_right_lf ⟨1, dX10_wonBy_132, rfl, rfl⟩) (m_right_nd (m_right_lf ⟨1, dX10_wonBy_133, rfl, rfl⟩) (m_right_lf ⟨1, dX10_wonBy_134, rfl, rfl, by decide +kernel⟩))) (m_right_nd (m_right_nd (m_right_lf ⟨1, dX10_wonBy_135, rfl, rfl⟩) (m_right_lf ⟨1, dX10_wonBy_136, rfl, rfl⟩)) (m_right_nd (m_right_lf ⟨2, dX10_wonBy_137, rfl, rfl, rfl⟩) (m_right_lf ⟨1, dX10_wonBy_139, rfl, rfl⟩)))))))
theorem dX10_ordersFrom_0 : decode cX10_ordersFrom 0 = .ok (.iload_n 2, 1) := by decide +kernel
theorem dX10_ordersFrom_1 : decode cX10_ordersFrom 1 = .ok (.ifCond .ne 69, 3) := by decide +kernel
theorem dX10_ordersFrom_4 : decode cX10_ordersFrom 4 = .ok (.aload_n 0, 1) := by decide +kernel
theorem dX10_ordersFrom_5 : decode cX10_ordersFrom 5 = .ok (.iload_n 1, 1) := by decide +kernel
theorem dX10_ordersFrom_6 : decode cX10_ordersFrom 6 = .ok (.iconst 0, 1) := by decide +kernel
theorem dX10_ordersFrom_7 : decode cX10_ordersFrom 7 = .ok (.iload_n 3, 1) := by decide +kernel
theorem dX10_ordersFrom_8 : decode cX10_ordersFrom 8 = .ok (.invokevirtual 209, 3) := by decide +kernel
theorem dX10_ordersFrom_11 : decode cX10_ordersFrom 11 = .ok (.lstore 4, 2) := by decide +kernel
theorem dX10_ordersFrom_13 : decode cX10_ordersFrom 13 = .ok (.lload 4, 2) := by decide +kernel
theorem dX10_ordersFrom_15 : decode cX10_ordersFrom 15 = .ok (.aload_n 0, 1) := by decide +kernel
theorem dX10_ordersFrom_16 : decode cX10_ordersFrom 16 = .ok (.getfield 212, 3) := by decide +kernel
theorem dX10_ordersFrom_19 : decode cX10_ordersFrom 19 = .ok (.lcmp, 1) := by decide +kernel
theorem dX10_ordersFrom_20 : decode cX10_ordersFrom 20 = .ok (.ifCond .le 49, 3) := by decide +kernel
theorem dX10_ordersFrom_23 : decode cX10_ordersFrom 23 = .ok (.aload_n 0, 1) := by decide +kernel
theorem dX10_ordersFrom_24 : decode cX10_ordersFrom 24 = .ok (.lload 4, 2) := by decide +kernel
theorem dX10_ordersFrom_26 : decode cX10_ordersFrom 26 = .ok (.putfield 212, 3) := by decide +kernel
theorem dX10_ordersFrom_29 : decode cX10_ordersFrom 29 = .ok (.iconst 0, 1) := by decide +kernel
theorem dX10_ordersFrom_30 : decode cX10_ordersFrom 30 = .ok (.istore 6, 2) := by decide +kernel
theorem dX10_ordersFrom_32 : decode cX10_ordersFrom 32 = .ok (.iload 6, 2) := by decide +kernel
theorem dX10_ordersFrom_34 : decode cX10_ordersFrom 34 = .ok (.iconst 4, 1) := by decide +kernel
theorem dX10_ordersFrom_35 : decode cX10_ordersFrom 35 = .ok (.if_icmp .ge 34, 3) := by decide +kernel
theorem dX10_ordersFrom_38 : decode cX10_ordersFrom 38 = .ok (.aload_n 0, 1) := by decide +kernel
theorem dX10_ordersFrom_39 : decode cX10_ordersFrom 39 = .ok (.getfield 38, 3) := by decide +kernel
theorem dX10_ordersFrom_42 : decode cX10_ordersFrom 42 = .ok (.iload 6, 2) := by decide +kernel
theorem dX10_ordersFrom_44 : decode cX10_ordersFrom 44 = .ok (.iload 6, 2) := by decide +kernel
theorem dX10_ordersFrom_46 : decode cX10_ordersFrom 46 = .ok (.iload_n 3, 1) := by decide +kernel
theorem dX10_ordersFrom_47 : decode cX10_ordersFrom 47 = .ok (.if_icmp .ge 13, 3) := by decide +kernel
theorem dX10_ordersFrom_50 : decode cX10_ordersFrom 50 = .ok (.aload_n 0, 1) := by decide +kernel
theorem dX10_ordersFrom_51 : decode cX10_ordersFrom 51 = .ok (.getfield 35, 3) := by decide +kernel
theorem dX10_ordersFrom_54 : decode cX10_ordersFrom 54 = .ok (.iload 6, 2) := by decide +kernel
theorem dX10_ordersFrom_56 : decode cX10_ordersFrom 56 = .ok (.iaload, 1) := by decide +kernel
theorem dX10_ordersFrom_57 : decode cX10_ordersFrom 57 = .ok (.goto 5, 3) := by decide +kernel
theorem dX10_ordersFrom_60 : decode cX10_ordersFrom 60 = .ok (.bipush (-5), 2) := by decide +kernel
theorem dX10_ordersFrom_62 : decode cX10_ordersFrom 62 = .ok (.iastore, 1) := by decide +kernel
theorem dX10_ordersFrom_63 : decode cX10_ordersFrom 63 = .ok (.iinc 6 1, 3) := by decide +kernel
theorem dX10_ordersFrom_66 : decode cX10_ordersFrom 66 = .ok (.goto (-34), 3) := by decide +kernel
theorem dX10_ordersFrom_69 : decode cX10_ordersFrom 69 = .ok (.return_, 1) := by decide +kernel
theorem dX10_ordersFrom_70 : decode cX10_ordersFrom 70 = .ok (.iconst 0, 1) := by decide +kernel
theorem dX10_ordersFrom_71 : decode cX10_ordersFrom 71 = .ok (.istore 4, 2) := by decide +kernel
theorem dX10_ordersFrom_73 : decode cX10_ordersFrom 73 = .ok (.iload 4, 2) := by decide +kernel
theorem dX10_ordersFrom_75 : decode cX10_ordersFrom 75 = .ok (.aload_n 0, 1) := by decide +kernel
theorem dX10_ordersFrom_76 : decode cX10_ordersFrom 76 = .ok (.getfield 9, 3) := by decide +kernel
theorem dX10_ordersFrom_79 : decode cX10_ordersFrom 79 = .ok (.bipush 6, 2) := by decide +kernel
theorem dX10_ordersFrom_81 : decode cX10_ordersFrom 81 = .ok (.iaload, 1) := by decide +kernel
theorem dX10_ordersFrom_82 : decode cX10_ordersFrom 82 = .ok (.if_icmp .ge 43, 3) := by decide +kernel
theorem dX10_ordersFrom_85 : decode cX10_ordersFrom 85 = .ok (.iload_n 2, 1) := by decide +kernel
theorem dX10_ordersFrom_86 : decode cX10_ordersFrom 86 = .ok (.iload 4, 2) := by decide +kernel
theorem dX10_ordersFrom_88 : decode cX10_ordersFrom 88 = .ok (.ishr, 1) := by decide +kernel
theorem dX10_ordersFrom_89 : decode cX10_ordersFrom 89 = .ok (.iconst 1, 1) := by decide +kernel
theorem dX10_ordersFrom_90 : decode cX10_ordersFrom 90 = .ok (.iand, 1) := by decide +kernel
theorem dX10_ordersFrom_91 : decode cX10_ordersFrom 91 = .ok (.iconst 1, 1) := by decide +kernel
theorem dX10_ordersFrom_92 : decode cX10_ordersFrom 92 = .ok (.if_icmp .ne 27, 3) := by decide +kernel
theorem dX10_ordersFrom_95 : decode cX10_ordersFrom 95 = .ok (.aload_n 0, 1) := by decide +kernel
theorem dX10_ordersFrom_96 : decode cX10_ordersFrom 96 = .ok (.getfield 35, 3) := by decide +kernel
theorem dX10_ordersFrom_99 : decode cX10_ordersFrom 99 = .ok (.iload_n 3, 1) := by decide +kernel
theorem dX10_ordersFrom_100 : decode cX10_ordersFrom 100 = .ok (.iload 4, 2) := by decide +kernel
theorem dX10_ordersFrom_102 : decode cX10_ordersFrom 102 = .ok (.iastore, 1) := by decide +kernel
theorem dX10_ordersFrom_103 : decode cX10_ordersFrom 103 = .ok (.aload_n 0, 1) := by decide +kernel
theorem dX10_ordersFrom_104 : decode cX10_ordersFrom 104 = .ok (.iload_n 1, 1) := by decide +kernel
theorem dX10_ordersFrom_105 : decode cX10_ordersFrom 105 = .ok (.iload_n 2, 1) := by decide +kernel
theorem dX10_ordersFrom_106 : decode cX10_ordersFrom 106 = .ok (.iconst 1, 1) := by decide +kernel
theorem dX10_ordersFrom_107 : decode cX10_ordersFrom 107 = .ok (.iload 4, 2) := by decide +kernel
theorem dX10_ordersFrom_109 : decode cX10_ordersFrom 109 = .ok (.ishl, 1) := by decide +kernel
theorem dX10_ordersFrom_110 : decode cX10_ordersFrom 110 = .ok (.iconst (-1), 1) := by decide +kernel
theorem dX10_ordersFrom_111 : decode cX10_ordersFrom 111 = .ok (.ixor, 1) := by decide +kernel
theorem dX10_ordersFrom_112 : decode cX10_ordersFrom 112 = .ok (.iand, 1) := by decide +kernel
theorem dX10_ordersFrom_113 : decode cX10_ordersFrom 113 = .ok (.iload_n 3, 1) := by decide +kernel
theorem dX10_ordersFrom_114 : decode cX10_ordersFrom 114 = .ok (.iconst 1, 1) := by decide +kernel
theorem dX10_ordersFrom_115 : decode cX10_ordersFrom 115 = .ok (.iadd, 1) := by decide +kernel
theorem dX10_ordersFrom_116 : decode cX10_ordersFrom 116 = .ok (.invokevirtual 215, 3) := by decide +kernel
theorem dX10_ordersFrom_119 : decode cX10_ordersFrom 119 = .ok (.iinc 4 1, 3) := by decide +kernel
theorem dX10_ordersFrom_122 : decode cX10_ordersFrom 122 = .ok (.goto (-49), 3) := by decide +kernel
theorem dX10_ordersFrom_125 : decode cX10_ordersFrom 125 = .ok (.return_, 1) := by decide +kernel
set_option maxRecDepth 20000 in
theorem r_X10_ordersFrom : m_Right (yX10_ordersFrom, cX10_ordersFrom, 7, none) q_X10_ordersFrom := m_right_nd (m_right_nd (m_right_nd (m_right_nd (m_right_nd (m_right_nd (m_right_lf ⟨1, dX10_ordersFrom_0, rfl, rfl, rfl⟩) (m_right_lf ⟨3, dX10_ordersFrom_1, rfl, rfl, 70, rfl, by decide⟩)) (m_right_nd (m_right_lf ⟨1, dX10_ordersFrom_4, rfl, rfl, rfl⟩) (m_right_lf ⟨1, dX10_ordersFrom_5, rfl, rfl, rfl⟩))) (m_right_nd (m_right_nd (m_right_lf ⟨1, dX10_ordersFrom_6, rfl, rfl, by decide +kernel⟩) (m_right_lf ⟨1, dX10_ordersFrom_7, rfl, rfl, rfl⟩)) (m_right_nd (m_right_lf ⟨3, dX10_ordersFrom_8, rfl, rfl, 168, 3, 10, (yX10_wonBy, cX10_wonBy, 9, (some .long)), rfl, me_X10_wonBy, mc_X10_wonBy, Or.inl ⟨(RX10, TX10, 24), rfl, rfl⟩, wd_1210, wd_1212, wd_50, wd_71⟩) (m_right_nd (m_right_lf ⟨2, dX10_ordersFrom_11, rfl, rfl, rfl⟩) (m_right_lf ⟨2, dX10_ordersFrom_13, rfl, rfl, rfl⟩))))) (m_right_nd (m_right_nd (m_right_nd (m_right_lf ⟨1, dX10_ordersFrom_15, rfl, rfl, rfl⟩) (m_right_lf ⟨3, dX10_ordersFrom_16, rfl, rfl, 10, 18, rfl, Or.inl ⟨(RX10, TX10, 24), rfl, by decide, wd_884⟩⟩)) (m_right_nd (m_right_lf ⟨1, dX10_ordersFrom_19, rfl, rfl⟩) (m_right_lf ⟨3, dX10_ordersFrom_20, rfl, rfl, 69, rfl, by decide⟩))) (m_right_nd (m_right_nd (m_right_lf ⟨1, dX10_ordersFrom_23, rfl, rfl, rfl⟩) (m_right_lf ⟨2, dX10_ordersFrom_24, rfl, rfl, rfl⟩)) (m_right_nd (m_right_lf ⟨3, dX10_ordersFrom_26, rfl, rfl, 10, 18, 1, (RX10, TX10, 24), rfl, rfl, by decide, wd_884, Or.inl rfl, tyX10 18, tyX10_ok 18 (by decide), Or.inr (Or.inl ⟨rfl, rfl⟩)⟩) (m_right_nd (m_right_lf ⟨1, dX10_ordersFrom_29, rfl, rfl, by decide +kernel⟩) (m_right_lf ⟨2, dX10_ordersFrom_30, rfl, rfl, rfl⟩)))))) (m_right_nd (m_right_nd (m_right_nd (m_right_nd (m_right_lf ⟨2, dX10_ordersFrom_32, rfl, rfl, rfl⟩) (m_right_lf ⟨1, dX10_ordersFrom_34, rfl, rfl, by decide +kernel⟩)) (m_right_nd (m_right_lf ⟨3, dX10_ordersFrom_35, rfl, rfl, 69, rfl, by decide⟩) (m_right_lf ⟨1, dX10_ordersFrom_38, rfl, rfl, rfl⟩))) (m_right_nd (m_right_nd (m_right_lf ⟨3, dX10_ordersFrom_39, rfl, rfl, 10, 17, rfl, Or.inl ⟨(RX10, TX10, 24), rfl, by decide, wd_883⟩⟩) (m_right_lf ⟨2, dX10_ordersFrom_42, rfl, rfl, rfl⟩)) (m_right_nd (m_right_lf ⟨2, dX10_ordersFrom_44, rfl, rfl, rfl⟩) (m_right_nd (m_right_lf ⟨1, dX10_ordersFrom_46, rfl, rfl, rfl⟩) (m_right_lf ⟨3, dX10_ordersFrom_47, rfl, rfl, 60, rfl, by decide⟩))))) (m_right_nd (m_right_nd (m_right_nd (m_right_lf ⟨1, dX10_ordersFrom_50, rfl, rfl, rfl⟩) (m_right_lf ⟨3, dX10_ordersFrom_51, rfl, rfl, 10, 16, rfl, Or.inl ⟨(RX10, TX10, 24), rfl, by decide, wd_882⟩⟩)) (m_right_nd (m_right_lf ⟨2, dX10_ordersFrom_54, rfl, rfl, rfl⟩) (m_right_lf ⟨1, dX10_ordersFrom_56, rfl, rfl⟩))) (m_right_nd (m_right_nd (m_right_lf ⟨3, dX10_ordersFrom_57, rfl, 62, rfl, by decide⟩) (m_right_lf ⟨2, dX10_ordersFrom_60, rfl, rfl, by decide +kernel⟩)) (m_right_nd (m_right_lf ⟨1, dX10_ordersFrom_62, rfl, rfl⟩) (m_right_nd (m_right_lf ⟨3, dX10_ordersFrom_63, rfl, rfl, rfl, by decide +kernel⟩) (m_right_lf ⟨3, dX10_ordersFrom_66, rfl, 32, rfl, by decide⟩))))))) (m_right_nd (m_right_nd (m_right_nd (m_right_nd (m_right_nd (m_right_lf ⟨1, dX10_ordersFrom_69, rfl, rfl⟩) (m_right_lf ⟨1, dX10_ordersFrom_70, rfl, rfl, by decide +kernel⟩)) (m_right_nd (m_right_lf ⟨2, dX10_ordersFrom_71, rfl, rfl, rfl⟩) (m_right_lf ⟨2, dX10_ordersFrom_73, rfl, rfl, rfl⟩))) (m_right_nd (m_right_nd (m_right_lf ⟨1, dX10_ordersFrom_75, rfl, rfl, rfl⟩) (m_right_lf ⟨3, dX10_ordersFrom_76, rfl, rfl, 10, 1, rfl, Or.inl ⟨(RX10, TX10, 24), rfl, by decide, wd_867⟩⟩)) (m_right_nd (m_right_lf ⟨2, dX10_ordersFrom_79, rfl, rfl, by decide +kernel⟩) (m_right_nd (m_right_lf ⟨1, dX10_ordersFrom_81, rfl, rfl⟩) (m_right_lf ⟨3, dX10_ordersFrom_82, rfl, rfl, 125, rfl, by decide⟩))))) (m_right_nd (m_right_nd (m_right_nd (m_right_lf ⟨1, dX10_ordersFrom_85, rfl, rfl, rfl⟩) (m_right_lf ⟨2, dX10_ordersFrom_86, rfl, rfl, rfl⟩)) (m_right_nd (m_right_lf ⟨1, dX10_ordersFrom_88, rfl, rfl⟩) (m_right_lf ⟨1, dX10_ordersFrom_89, rfl, rfl, by decide +kernel⟩))) (m_right_nd (m_right_nd (m_right_lf ⟨1, dX10_ordersFrom_90, rfl, rfl⟩) (m_right_lf ⟨1, dX10_ordersFrom_91, rfl, rfl, by decide +kernel⟩)) (m_right_nd (m_right_lf ⟨3, dX10_ordersFrom_92, rfl, rfl, 119, rfl, by decide⟩) (m_right_nd (m_right_lf ⟨1, dX10_ordersFrom_95, rfl, rfl, rfl⟩) (m_right_lf ⟨3, dX10_ordersFrom_96, rfl, rfl, 10, 16, rfl, Or.inl ⟨(RX10, TX10, 24), rfl, by decide, wd_882⟩⟩)))))) (m_right_nd (m_right_nd (m_right_nd (m_right_nd (m_right_lf ⟨1, dX10_ordersFrom_99, rfl, rfl, rfl⟩) (m_right_lf ⟨2, dX10_ordersFrom_100, rfl, rfl, rfl⟩)) (m_right_nd (m_right_lf ⟨1, dX10_ordersFrom_102, rfl, rfl⟩) (m_right_lf ⟨1, dX10_ordersFrom_103, rfl, rfl, rfl⟩))) (m_right_nd (m_right_nd (m_right_lf ⟨1, dX10_ordersFrom_104, rfl, rfl, rfl⟩) (m_right_lf ⟨1, dX10_ordersFrom_105, rfl, rfl, rfl⟩)) (m_right_nd (m_right_lf ⟨1, dX10_ordersFrom_106, rfl, rfl, by decide +kernel⟩) (m_right_nd (m_right_lf ⟨2, dX10_ordersFrom_107, rfl, rfl, rfl⟩) (m_right_lf ⟨1, dX10_ordersFrom_109, rfl, rfl⟩))))) (m_right_nd (m_right_nd (m_right_nd (m_right_lf ⟨1, dX10_ordersFrom_110, rfl, rfl, by decide +kernel⟩) (m_right_lf ⟨1, dX10_ordersFrom_111, rfl, rfl⟩)) (m_right_nd (m_right_lf ⟨1, dX10_ordersFrom_112, rfl, rfl⟩) (m_right_nd (m_right_lf ⟨1, dX10_ordersFrom_113, rfl, rfl, rfl⟩) (m_right_lf ⟨1, dX10_ordersFrom_114, rfl, rfl, by decide +kernel⟩)))) (m_right_nd (m_right_nd (m_right_lf ⟨1, dX10_ordersFrom_115, rfl, rfl⟩) (m_right_lf ⟨3, dX10_ordersFrom_116, rfl, rfl, 169, 3, 10, (yX10_ordersFrom, cX10_ordersFrom, 7, none), rfl, me_X10_ordersFrom, mc_X10_ordersFrom, Or.inl ⟨(RX10, TX10, 24), rfl, rfl⟩, wd_1206, wd_1208, wd_49, wd_71⟩)) (m_right_nd (m_right_lf ⟨3, dX10_ordersFrom_119, rfl, rfl, rfl, by decide +kernel⟩) (m_right_nd (m_right_lf ⟨3, dX10_ordersFrom_122, rfl, 73, rfl, by decide⟩) (m_right_lf ⟨1, dX10_ordersFrom_125, rfl, rfl⟩)))))))
theorem dX10_isSet_0 : decode cX10_isSet 0 = .ok (.iload_n 2, 1) := by decide +kernel
theorem dX10_isSet_1 : decode cX10_isSet 1 = .ok (.ifCond .lt 27, 3) := by decide +kernel
theorem dX10_isSet_4 : decode cX10_isSet 4 = .ok (.iload_n 2, 1) := by decide +kernel
theorem dX10_isSet_5 : decode cX10_isSet 5 = .ok (.aload_n 0, 1) := by decide +kernel
theorem dX10_isSet_6 : decode cX10_isSet 6 = .ok (.getfield 9, 3) := by decide +kernel
theorem dX10_isSet_9 : decode cX10_isSet 9 = .ok (.bipush 6, 2) := by decide +kernel
theorem dX10_isSet_11 : decode cX10_isSet 11 = .ok (.iaload, 1) := by decide +kernel
theorem dX10_isSet_12 : decode cX10_isSet 12 = .ok (.ishr, 1) := by decide +kernel
theorem dX10_isSet_13 : decode cX10_isSet 13 = .ok (.ifCond .ne 15, 3) := by decide +kernel
theorem dX10_isSet_16 : decode cX10_isSet 16 = .ok (.iload_n 2, 1) := by decide +kernel
theorem dX10_isSet_17 : decode cX10_isSet 17 = .ok (.iload_n 1, 1) := by decide +kernel
theorem dX10_isSet_18 : decode cX10_isSet 18 = .ok (.ishr, 1) := by decide +kernel
theorem dX10_isSet_19 : decode cX10_isSet 19 = .ok (.iconst 1, 1) := by decide +kernel
theorem dX10_isSet_20 : decode cX10_isSet 20 = .ok (.iand, 1) := by decide +kernel
theorem dX10_isSet_21 : decode cX10_isSet 21 = .ok (.ifCond .ne 7, 3) := by decide +kernel
theorem dX10_isSet_24 : decode cX10_isSet 24 = .ok (.iconst 1, 1) := by decide +kernel
theorem dX10_isSet_25 : decode cX10_isSet 25 = .ok (.goto 4, 3) := by decide +kernel
theorem dX10_isSet_28 : decode cX10_isSet 28 = .ok (.iconst 0, 1) := by decide +kernel
theorem dX10_isSet_29 : decode cX10_isSet 29 = .ok (.ireturn, 1) := by decide +kernel
set_option maxRecDepth 20000 in
theorem r_X10_isSet : m_Right (yX10_isSet, cX10_isSet, 3, (some .boolean)) q_X10_isSet := m_right_nd (m_right_nd (m_right_nd (m_right_nd (m_right_lf ⟨1, dX10_isSet_0, rfl, rfl, rfl⟩) (m_right_lf ⟨3, dX10_isSet_1, rfl, rfl, 28, rfl, by decide⟩)) (m_right_nd (m_right_lf ⟨1, dX10_isSet_4, rfl, rfl, rfl⟩) (m_right_lf ⟨1, dX10_isSet_5, rfl, rfl, rfl⟩))) (m_right_nd (m_right_nd (m_right_lf ⟨3, dX10_isSet_6, rfl, rfl, 10, 1, rfl, Or.inl ⟨(RX10, TX10, 24), rfl, by decide, wd_867⟩⟩) (m_right_lf ⟨2, dX10_isSet_9, rfl, rfl, by decide +kernel⟩)) (m_right_nd (m_right_lf ⟨1, dX10_isSet_11, rfl, rfl⟩) (m_right_nd (m_right_lf ⟨1, dX10_isSet_12, rfl, rfl⟩) (m_right_lf ⟨3, dX10_isSet_13, rfl, rfl, 28, rfl, by decide⟩))))) (m_right_nd (m_right_nd (m_right_nd (m_right_lf ⟨1, dX10_isSet_16, rfl, rfl, rfl⟩) (m_right_lf ⟨1, dX10_isSet_17, rfl, rfl, rfl⟩)) (m_right_nd (m_right_lf ⟨1, dX10_isSet_18, rfl, rfl⟩) (m_right_nd (m_right_lf ⟨1, dX10_isSet_19, rfl, rfl, by decide +kernel⟩) (m_right_lf ⟨1, dX10_isSet_20, rfl, rfl⟩)))) (m_right_nd (m_right_nd (m_right_lf ⟨3, dX10_isSet_21, rfl, rfl, 28, rfl, by decide⟩) (m_right_lf ⟨1, dX10_isSet_24, rfl, rfl, by decide +kernel⟩)) (m_right_nd (m_right_lf ⟨3, dX10_isSet_25, rfl, 29, rfl, by decide⟩) (m_right_nd (m_right_lf ⟨1, dX10_isSet_28, rfl, rfl, by decide +kernel⟩) (m_right_lf ⟨1, dX10_isSet_29, rfl, 1, .boolean, rfl, rfl, Or.inr (Or.inl ⟨rfl, rfl⟩)⟩)))))
theorem dX10_looksForOrder_0 : decode cX10_looksForOrder 0 = .ok (.aload_n 0, 1) := by decide +kernel
theorem dX10_looksForOrder_1 : decode cX10_looksForOrder 1 = .ok (.ldc2_w 219, 3) := by decide +kernel
theorem dX10_looksForOrder_4 : decode cX10_looksForOrder 4 = .ok (.putfield 212, 3) := by decide +kernel
theorem dX10_looksForOrder_7 : decode cX10_looksForOrder 7 = .ok (.aload_n 0, 1) := by decide +kernel
theorem dX10_looksForOrder_8 : decode cX10_looksForOrder 8 = .ok (.iload_n 1, 1) := by decide +kernel
theorem dX10_looksForOrder_9 : decode cX10_looksForOrder 9 = .ok (.iload_n 2, 1) := by decide +kernel
theorem dX10_looksForOrder_10 : decode cX10_looksForOrder 10 = .ok (.iconst 0, 1) := by decide +kernel
theorem dX10_looksForOrder_11 : decode cX10_looksForOrder 11 = .ok (.invokevirtual 215, 3) := by decide +kernel
theorem dX10_looksForOrder_14 : decode cX10_looksForOrder 14 = .ok (.return_, 1) := by decide +kernel
set_option maxRecDepth 20000 in
theorem r_X10_looksForOrder : m_Right (yX10_looksForOrder, cX10_looksForOrder, 3, none) q_X10_looksForOrder := m_right_nd (m_right_nd (m_right_nd (m_right_lf ⟨1, dX10_looksForOrder_0, rfl, rfl, rfl⟩) (m_right_lf ⟨3, dX10_looksForOrder_1, rfl, rfl, _, rfl, wd_1205⟩)) (m_right_nd (m_right_lf ⟨3, dX10_looksForOrder_4, rfl, rfl, 10, 18, 1, (RX10, TX10, 24), rfl, rfl, by decide, wd_884, Or.inl rfl, tyX10 18, tyX10_ok 18 (by decide), Or.inr (Or.inl ⟨rfl, rfl⟩)⟩) (m_right_lf ⟨1, dX10_looksForOrder_7, rfl, rfl, rfl⟩))) (m_right_nd (m_right_nd (m_right_lf ⟨1, dX10_looksForOrder_8, rfl, rfl, rfl⟩) (m_right_lf ⟨1, dX10_looksForOrder_9, rfl, rfl, rfl⟩)) (m_right_nd (m_right_lf ⟨1, dX10_looksForOrder_10, rfl, rfl, by decide +kernel⟩) (m_right_nd (m_right_lf ⟨3, dX10_looksForOrder_11, rfl, rfl, 169, 3, 10, (yX10_ordersFrom, cX10_ordersFrom, 7, none), rfl, me_X10_ordersFrom, mc_X10_ordersFrom, Or.inl ⟨(RX10, TX10, 24), rfl, rfl⟩, wd_1206, wd_1208, wd_49, wd_71⟩) (m_right_lf ⟨1, dX10_looksForOrder_14, rfl, rfl⟩))))
theorem dX10_order_0 : decode cX10_order 0 = .ok (.aload_n 0, 1) := by decide +kernel
theorem dX10_order_1 : decode cX10_order 1 = .ok (.iload_n 1, 1) := by decide +kernel
theorem dX10_order_2 : decode cX10_order 2 = .ok (.invokevirtual 52, 3) := by decide +kernel
theorem dX10_order_5 : decode cX10_order 5 = .ok (.ifCond .eq 12, 3) := by decide +kernel
theorem dX10_order_8 : decode cX10_order 8 = .ok (.iload_n 3, 1) := by decide +kernel
theorem dX10_order_9 : decode cX10_order 9 = .ok (.iconst 0, 1) := by decide +kernel
theorem dX10_order_10 : decode cX10_order 10 = .ok (.iconst 3, 1) := by decide +kernel
theorem dX10_order_11 : decode cX10_order 11 = .ok (.invokestatic 48, 3) := by decide +kernel
theorem dX10_order_14 : decode cX10_order 14 = .ok (.ifCond .ne 5, 3) := by decide +kernel
theorem dX10_order_17 : decode cX10_order 17 = .ok (.iconst (-1), 1) := by decide +kernel
theorem dX10_order_18 : decode cX10_order 18 = .ok (.ireturn, 1) := by decide +kernel
theorem dX10_order_19 : decode cX10_order 19 = .ok (.aload_n 0, 1) := by decide +kernel
theorem dX10_order_20 : decode cX10_order 20 = .ok (.iload_n 1, 1) := by decide +kernel
theorem dX10_order_21 : decode cX10_order 21 = .ok (.iload_n 2, 1) := by decide +kernel
theorem dX10_order_22 : decode cX10_order 22 = .ok (.invokevirtual 221, 3) := by decide +kernel
theorem dX10_order_25 : decode cX10_order 25 = .ok (.ifCond .ne 6, 3) := by decide +kernel
theorem dX10_order_28 : decode cX10_order 28 = .ok (.bipush (-2), 2) := by decide +kernel
theorem dX10_order_30 : decode cX10_order 30 = .ok (.ireturn, 1) := by decide +kernel
theorem dX10_order_31 : decode cX10_order 31 = .ok (.aload_n 0, 1) := by decide +kernel
theorem dX10_order_32 : decode cX10_order 32 = .ok (.iload_n 1, 1) := by decide +kernel
theorem dX10_order_33 : decode cX10_order 33 = .ok (.iload_n 2, 1) := by decide +kernel
theorem dX10_order_34 : decode cX10_order 34 = .ok (.invokevirtual 224, 3) := by decide +kernel
theorem dX10_order_37 : decode cX10_order 37 = .ok (.aload_n 0, 1) := by decide +kernel
theorem dX10_order_38 : decode cX10_order 38 = .ok (.getfield 38, 3) := by decide +kernel
theorem dX10_order_41 : decode cX10_order 41 = .ok (.iload_n 3, 1) := by decide +kernel
theorem dX10_order_42 : decode cX10_order 42 = .ok (.iaload, 1) := by decide +kernel
theorem dX10_order_43 : decode cX10_order 43 = .ok (.ireturn, 1) := by decide +kernel
set_option maxRecDepth 20000 in
theorem r_X10_order : m_Right (yX10_order, cX10_order, 4, (some .int)) q_X10_order := m_right_nd (m_right_nd (m_right_nd (m_right_nd (m_right_lf ⟨1, dX10_order_0, rfl, rfl, rfl⟩) (m_right_nd (m_right_lf ⟨1, dX10_order_1, rfl, rfl, rfl⟩) (m_right_lf ⟨3, dX10_order_2, rfl, rfl, 119, 1, 10, (yX10_isPlayer, cX10_isPlayer, 2, (some .boolean)), rfl, me_X10_isPlayer, mc_X10_isPlayer, Or.inl ⟨(RX10, TX10, 24), rfl, rfl⟩, wd_1065, wd_1067, wd_31, wd_71⟩))) (m_right_nd (m_right_lf ⟨3, dX10_order_5, rfl, rfl, 17, rfl, by decide⟩) (m_right_nd (m_right_lf ⟨1, dX10_order_8, rfl, rfl, rfl⟩) (m_right_lf ⟨1, dX10_order_9, rfl, rfl, by decide +kernel⟩)))) (m_right_nd (m_right_nd (m_right_lf ⟨1, dX10_order_10, rfl, rfl, by decide +kernel⟩) (m_right_nd (m_right_lf ⟨3, dX10_order_11, rfl, rfl, Or.inr (Or.inr ⟨118, 3, (yX10_in, cX10_in, 3, (some .boolean)), rfl, me_X10_in, mc_X10_in, wd_943, wd_944, wd_71⟩)⟩) (m_right_lf ⟨3, dX10_order_14, rfl, rfl, 19, rfl, by decide⟩))) (m_right_nd (m_right_nd (m_right_lf ⟨1, dX10_order_17, rfl, rfl, by decide +kernel⟩) (m_right_lf ⟨1, dX10_order_18, rfl, 0, .int, rfl, rfl, Or.inl ⟨rfl, rfl⟩⟩)) (m_right_nd (m_right_lf ⟨1, dX10_order_19, rfl, rfl, rfl⟩) (m_right_lf ⟨1, dX10_order_20, rfl, rfl, rfl⟩))))) (m_right_nd (m_right_nd (m_right_nd (m_right_lf ⟨1, dX10_order_21, rfl, rfl, rfl⟩) (m_right_nd (m_right_lf ⟨3, dX10_order_22, rfl, rfl, 170, 2, 10, (yX10_isSet, cX10_isSet, 3, (some .boolean)), rfl, me_X10_isSet, mc_X10_isSet, Or.inl ⟨(RX10, TX10, 24), rfl, rfl⟩, wd_1197, wd_1199, wd_47, wd_71⟩) (m_right_lf ⟨3, dX10_order_25, rfl, rfl, 31, rfl, by decide⟩))) (m_right_nd (m_right_nd (m_right_lf ⟨2, dX10_order_28, rfl, rfl, by decide +kernel⟩) (m_right_lf ⟨1, dX10_order_30, rfl, 0, .int, rfl, rfl, Or.inl ⟨rfl, rfl⟩⟩)) (m_right_nd (m_right_lf ⟨1, dX10_order_31, rfl, rfl, rfl⟩) (m_right_lf ⟨1, dX10_order_32, rfl, rfl, rfl⟩)))) (m_right_nd (m_right_nd (m_right_lf ⟨1, dX10_order_33, rfl, rfl, rfl⟩) (m_right_nd (m_right_lf ⟨3, dX10_order_34, rfl, rfl, 171, 2, 10, (yX10_looksForOrder, cX10_looksForOrder, 3, none), rfl, me_X10_looksForOrder, mc_X10_looksForOrder, Or.inl ⟨(RX10, TX10, 24), rfl, rfl⟩, wd_1201, wd_1203, wd_48, wd_71⟩) (m_right_lf ⟨1, dX10_order_37, rfl, rfl, rfl⟩))) (m_right_nd (m_right_nd (m_right_lf ⟨3, dX10_order_38, rfl, rfl, 10, 17, rfl, Or.inl ⟨(RX10, TX10, 24), rfl, by decide, wd_883⟩⟩) (m_right_lf ⟨1, dX10_order_41, rfl, rfl, rfl⟩)) (m_right_nd (m_right_lf ⟨1, dX10_order_42, rfl, rfl⟩) (m_right_lf ⟨1, dX10_order_43, rfl, 0, .int, rfl, rfl, Or.inl ⟨rfl, rfl⟩⟩)))))
theorem dX10_orderMean_0 : decode cX10_orderMean 0 = .ok (.aload_n 0, 1) := by decide +kernel
theorem dX10_orderMean_1 : decode cX10_orderMean 1 = .ok (.iload_n 1, 1) := by decide +kernel
theorem dX10_orderMean_2 : decode cX10_orderMean 2 = .ok (.invokevirtual 52, 3) := by decide +kernel
theorem dX10_orderMean_5 : decode cX10_orderMean 5 = .ok (.ifCond .eq 21, 3) := by decide +kernel
theorem dX10_orderMean_8 : decode cX10_orderMean 8 = .ok (.aload_n 0, 1) := by decide +kernel
theorem dX10_orderMean_9 : decode cX10_orderMean 9 = .ok (.iload_n 1, 1) := by decide +kernel
theorem dX10_orderMean_10 : decode cX10_orderMean 10 = .ok (.iload_n 2, 1) := by decide +kernel
theorem dX10_orderMean_11 : decode cX10_orderMean 11 = .ok (.invokevirtual 221, 3) := by decide +kernel
theorem dX10_orderMean_14 : decode cX10_orderMean 14 = .ok (.ifCond .eq 12, 3) := by decide +kernel
theorem dX10_orderMean_17 : decode cX10_orderMean 17 = .ok (.iload_n 3, 1) := by decide +kernel
theorem dX10_orderMean_18 : decode cX10_orderMean 18 = .ok (.iconst 0, 1) := by decide +kernel
theorem dX10_orderMean_19 : decode cX10_orderMean 19 = .ok (.iconst 1, 1) := by decide +kernel
theorem dX10_orderMean_20 : decode cX10_orderMean 20 = .ok (.invokestatic 48, 3) := by decide +kernel
theorem dX10_orderMean_23 : decode cX10_orderMean 23 = .ok (.ifCond .ne 7, 3) := by decide +kernel
theorem dX10_orderMean_26 : decode cX10_orderMean 26 = .ok (.ldc2_w 184, 3) := by decide +kernel
theorem dX10_orderMean_29 : decode cX10_orderMean 29 = .ok (.lreturn, 1) := by decide +kernel
theorem dX10_orderMean_30 : decode cX10_orderMean 30 = .ok (.aload_n 0, 1) := by decide +kernel
theorem dX10_orderMean_31 : decode cX10_orderMean 31 = .ok (.iload_n 1, 1) := by decide +kernel
theorem dX10_orderMean_32 : decode cX10_orderMean 32 = .ok (.iload_n 2, 1) := by decide +kernel
theorem dX10_orderMean_33 : decode cX10_orderMean 33 = .ok (.invokevirtual 224, 3) := by decide +kernel
theorem dX10_orderMean_36 : decode cX10_orderMean 36 = .ok (.iconst 0, 1) := by decide +kernel
theorem dX10_orderMean_37 : decode cX10_orderMean 37 = .ok (.istore 4, 2) := by decide +kernel
theorem dX10_orderMean_39 : decode cX10_orderMean 39 = .ok (.iconst 0, 1) := by decide +kernel
theorem dX10_orderMean_40 : decode cX10_orderMean 40 = .ok (.istore 5, 2) := by decide +kernel
theorem dX10_orderMean_42 : decode cX10_orderMean 42 = .ok (.iload 5, 2) := by decide +kernel
theorem dX10_orderMean_44 : decode cX10_orderMean 44 = .ok (.iconst 5, 1) := by decide +kernel
theorem dX10_orderMean_45 : decode cX10_orderMean 45 = .ok (.if_icmp .ge 20, 3) := by decide +kernel
theorem dX10_orderMean_48 : decode cX10_orderMean 48 = .ok (.iload 4, 2) := by decide +kernel
theorem dX10_orderMean_50 : decode cX10_orderMean 50 = .ok (.iload_n 2, 1) := by decide +kernel
theorem dX10_orderMean_51 : decode cX10_orderMean 51 = .ok (.iload 5, 2) := by decide +kernel
theorem dX10_orderMean_53 : decode cX10_orderMean 53 = .ok (.ishr, 1) := by decide +kernel
theorem dX10_orderMean_54 : decode cX10_orderMean 54 = .ok (.iconst 1, 1) := by decide +kernel
theorem dX10_orderMean_55 : decode cX10_orderMean 55 = .ok (.iand, 1) := by decide +kernel
theorem dX10_orderMean_56 : decode cX10_orderMean 56 = .ok (.iadd, 1) := by decide +kernel
theorem dX10_orderMean_57 : decode cX10_orderMean 57 = .ok (.istore 4, 2) := by decide +kernel
theorem dX10_orderMean_59 : decode cX10_orderMean 59 = .ok (.iinc 5 1, 3) := by decide +kernel
theorem dX10_orderMean_62 : decode cX10_orderMean 62 = .ok (.goto (-20), 3) := by decide +kernel
theorem dX10_orderMean_65 : decode cX10_orderMean 65 = .ok (.aload_n 0, 1) := by decide +kernel
theorem dX10_orderMean_66 : decode cX10_orderMean 66 = .ok (.getfield 212, 3) := by decide +kernel
theorem dX10_orderMean_69 : decode cX10_orderMean 69 = .ok (.iload 4, 2) := by decide +kernel
theorem dX10_orderMean_71 : decode cX10_orderMean 71 = .ok (.invokestatic 190, 3) := by decide +kernel
theorem dX10_orderMean_74 : decode cX10_orderMean 74 = .ok (.iload_n 3, 1) := by decide +kernel
theorem dX10_orderMean_75 : decode cX10_orderMean 75 = .ok (.invokestatic 194, 3) := by decide +kernel
theorem dX10_orderMean_78 : decode cX10_orderMean 78 = .ok (.lreturn, 1) := by decide +kernel
set_option maxRecDepth 20000 in
theorem r_X10_orderMean : m_Right (yX10_orderMean, cX10_orderMean, 6, (some .long)) q_X10_orderMean := m_right_nd (m_right_nd (m_right_nd (m_right_nd (m_right_nd (m_right_lf ⟨1, dX10_orderMean_0, rfl, rfl, rfl⟩) (m_right_lf ⟨1, dX10_orderMean_1, rfl, rfl, rfl⟩)) (m_right_nd (m_right_lf ⟨3, dX10_orderMean_2, rfl, rfl, 119, 1, 10, (yX10_isPlayer, cX10_isPlayer, 2, (some .boolean)), rfl, me_X10_isPlayer, mc_X10_isPlayer, Or.inl ⟨(RX10, TX10, 24), rfl, rfl⟩, wd_1065, wd_1067, wd_31, wd_71⟩) (m_right_nd (m_right_lf ⟨3, dX10_orderMean_5, rfl, rfl, 26, rfl, by decide⟩) (m_right_lf ⟨1, dX10_orderMean_8, rfl, rfl, rfl⟩)))) (m_right_nd (m_right_nd (m_right_lf ⟨1, dX10_orderMean_9, rfl, rfl, rfl⟩) (m_right_nd (m_right_lf ⟨1, dX10_orderMean_10, rfl, rfl, rfl⟩) (m_right_lf ⟨3, dX10_orderMean_11, rfl, rfl, 170, 2, 10, (yX10_isSet, cX10_isSet, 3, (some .boolean)), rfl, me_X10_isSet, mc_X10_isSet, Or.inl ⟨(RX10, TX10, 24), rfl, rfl⟩, wd_1197, wd_1199, wd_47, wd_71⟩))) (m_right_nd (m_right_lf ⟨3, dX10_orderMean_14, rfl, rfl, 26, rfl, by decide⟩) (m_right_nd (m_right_lf ⟨1, dX10_orderMean_17, rfl, rfl, rfl⟩) (m_right_lf ⟨1, dX10_orderMean_18, rfl, rfl, by decide +kernel⟩))))) (m_right_nd (m_right_nd (m_right_nd (m_right_lf ⟨1, dX10_orderMean_19, rfl, rfl, by decide +kernel⟩) (m_right_lf ⟨3, dX10_orderMean_20, rfl, rfl, Or.inr (Or.inr ⟨118, 3, (yX10_in, cX10_in, 3, (some .boolean)), rfl, me_X10_in, mc_X10_in, wd_943, wd_944, wd_71⟩)⟩)) (m_right_nd (m_right_lf ⟨3, dX10_orderMean_23, rfl, rfl, 30, rfl, by decide⟩) (m_right_nd (m_right_lf ⟨3, dX10_orderMean_26, rfl, rfl, _, rfl, wd_1129⟩) (m_right_lf ⟨1, dX10_orderMean_29, rfl, rfl⟩)))) (m_right_nd (m_right_nd (m_right_lf ⟨1, dX10_orderMean_30, rfl, rfl, rfl⟩) (m_right_nd (m_right_lf ⟨1, dX10_orderMean_31, rfl, rfl, rfl⟩) (m_right_lf ⟨1, dX10_orderMean_32, rfl, rfl, rfl⟩))) (m_right_nd (m_right_lf ⟨3, dX10_orderMean_33, rfl, rfl, 171, 2, 10, (yX10_looksForOrder, cX10_looksForOrder, 3, none), rfl, me_X10_looksForOrder, mc_X10_looksForOrder, Or.inl ⟨(RX10, TX10, 24), rfl, rfl⟩, wd_1201, wd_1203, wd_48, wd_71⟩) (m_right_nd (m_right_lf ⟨1, dX10_orderMean_36, rfl, rfl, by decide +kernel⟩) (m_right_lf ⟨2, dX10_orderMean_37, rfl, rfl, rfl⟩)))))) (m_right_nd (m_right_nd (m_right_nd (m_right_nd (m_right_lf ⟨1, dX10_orderMean_39, rfl, rfl, by decide +kernel⟩) (m_right_lf ⟨2, dX10_orderMean_40, rfl, rfl, rfl⟩)) (m_right_nd (m_right_lf ⟨2, dX10_orderMean_42, rfl, rfl, rfl⟩) (m_right_nd (m_right_lf ⟨1, dX10_orderMean_44, rfl, rfl, by decide +kernel⟩) (m_right_lf ⟨3, dX10_orderMean_45, rfl, rfl, 65, rfl, by decide⟩)))) (m_right_nd (m_right_nd (m_right_lf ⟨2, dX10_orderMean_48, rfl, rfl, rfl⟩) (m_right_nd (m_right_lf ⟨1, dX10_orderMean_50, rfl, rfl, rfl⟩) (m_right_lf ⟨2, dX10_orderMean_51, rfl, rfl, rfl⟩))) (m_right_nd (m_right_lf ⟨1, dX10_orderMean_53, rfl, rfl⟩) (m_right_nd (m_right_lf ⟨1, dX10_orderMean_54, rfl, rfl, by decide +kernel⟩) (m_right_lf ⟨1, dX10_orderMean_55, rfl, rfl⟩))))) (m_right_nd (m_right_nd (m_right_nd (m_right_lf ⟨1, dX10_orderMean_56, rfl, rfl⟩) (m_right_lf ⟨2, dX10_orderMean_57, rfl, rfl, rfl⟩)) (m_right_nd (m_right_lf ⟨3, dX10_orderMean_59, rfl, rfl, rfl, by decide +kernel⟩) (m_right_nd (m_right_lf ⟨3, dX10_orderMean_62, rfl, 42, rfl, by decide⟩) (m_right_lf ⟨1, dX10_orderMean_65, rfl, rfl, rfl⟩)))) (m_right_nd (m_right_nd (m_right_lf ⟨3, dX10_orderMean_66, rfl, rfl, 10, 18, rfl, Or.inl ⟨(RX10, TX10, 24), rfl, by decide, wd_884⟩⟩) (m_right_nd (m_right_lf ⟨2, dX10_orderMean_69, rfl, rfl, rfl⟩) (m_right_lf ⟨3, dX10_orderMean_71, rfl, rfl, Or.inr (Or.inr ⟨153, 1, (yX10_tens, cX10_tens, 4, (some .long)), rfl, me_X10_tens, mc_X10_tens, wd_1151, wd_1152, wd_71⟩)⟩))) (m_right_nd (m_right_lf ⟨1, dX10_orderMean_74, rfl, rfl, rfl⟩) (m_right_nd (m_right_lf ⟨3, dX10_orderMean_75, rfl, rfl, Or.inr (Or.inr ⟨157, 3, (yX10_lowest, cX10_lowest, 11, (some .long)), rfl, me_X10_lowest, mc_X10_lowest, wd_1154, wd_1155, wd_71⟩)⟩) (m_right_lf ⟨1, dX10_orderMean_78, rfl, rfl⟩))))))
theorem dX10_tables_0 : decode cX10_tables 0 = .ok (.aload_n 0, 1) := by decide +kernel
theorem dX10_tables_1 : decode cX10_tables 1 = .ok (.iload_n 2, 1) := by decide +kernel
theorem dX10_tables_2 : decode cX10_tables 2 = .ok (.iload_n 3, 1) := by decide +kernel
theorem dX10_tables_3 : decode cX10_tables 3 = .ok (.invokevirtual 148, 3) := by decide +kernel
theorem dX10_tables_6 : decode cX10_tables 6 = .ok (.istore 7, 2) := by decide +kernel
theorem dX10_tables_8 : decode cX10_tables 8 = .ok (.iload 6, 2) := by decide +kernel
theorem dX10_tables_10 : decode cX10_tables 10 = .ok (.iconst 1, 1) := by decide +kernel
theorem dX10_tables_11 : decode cX10_tables 11 = .ok (.if_icmp .ne 30, 3) := by decide +kernel
theorem dX10_tables_14 : decode cX10_tables 14 = .ok (.iload_n 1, 1) := by decide +kernel
theorem dX10_tables_15 : decode cX10_tables 15 = .ok (.iload_n 2, 1) := by decide +kernel
theorem dX10_tables_16 : decode cX10_tables 16 = .ok (.if_icmp .ne 9, 3) := by decide +kernel
theorem dX10_tables_19 : decode cX10_tables 19 = .ok (.iload 7, 2) := by decide +kernel
theorem dX10_tables_21 : decode cX10_tables 21 = .ok (.i2l, 1) := by decide +kernel
theorem dX10_tables_22 : decode cX10_tables 22 = .ok (.goto 18, 3) := by decide +kernel
theorem dX10_tables_25 : decode cX10_tables 25 = .ok (.iload_n 1, 1) := by decide +kernel
theorem dX10_tables_26 : decode cX10_tables 26 = .ok (.iload_n 3, 1) := by decide +kernel
theorem dX10_tables_27 : decode cX10_tables 27 = .ok (.if_icmp .ne 12, 3) := by decide +kernel
theorem dX10_tables_30 : decode cX10_tables 30 = .ok (.bipush 10, 2) := by decide +kernel
theorem dX10_tables_32 : decode cX10_tables 32 = .ok (.iload 7, 2) := by decide +kernel
theorem dX10_tables_34 : decode cX10_tables 34 = .ok (.isub, 1) := by decide +kernel
theorem dX10_tables_35 : decode cX10_tables 35 = .ok (.i2l, 1) := by decide +kernel
theorem dX10_tables_36 : decode cX10_tables 36 = .ok (.goto 4, 3) := by decide +kernel
theorem dX10_tables_39 : decode cX10_tables 39 = .ok (.lconst 0, 1) := by decide +kernel
theorem dX10_tables_40 : decode cX10_tables 40 = .ok (.lreturn, 1) := by decide +kernel
theorem dX10_tables_41 : decode cX10_tables 41 = .ok (.aload_n 0, 1) := by decide +kernel
theorem dX10_tables_42 : decode cX10_tables 42 = .ok (.getfield 9, 3) := by decide +kernel
theorem dX10_tables_45 : decode cX10_tables 45 = .ok (.iconst 1, 1) := by decide +kernel
theorem dX10_tables_46 : decode cX10_tables 46 = .ok (.iload_n 2, 1) := by decide +kernel
theorem dX10_tables_47 : decode cX10_tables 47 = .ok (.iadd, 1) := by decide +kernel
theorem dX10_tables_48 : decode cX10_tables 48 = .ok (.iaload, 1) := by decide +kernel
theorem dX10_tables_49 : decode cX10_tables 49 = .ok (.istore 8, 2) := by decide +kernel
theorem dX10_tables_51 : decode cX10_tables 51 = .ok (.aload_n 0, 1) := by decide +kernel
theorem dX10_tables_52 : decode cX10_tables 52 = .ok (.getfield 9, 3) := by decide +kernel
theorem dX10_tables_55 : decode cX10_tables 55 = .ok (.iconst 1, 1) := by decide +kernel
theorem dX10_tables_56 : decode cX10_tables 56 = .ok (.iload_n 3, 1) := by decide +kernel
theorem dX10_tables_57 : decode cX10_tables 57 = .ok (.iadd, 1) := by decide +kernel
theorem dX10_tables_58 : decode cX10_tables 58 = .ok (.iaload, 1) := by decide +kernel
theorem dX10_tables_59 : decode cX10_tables 59 = .ok (.istore 9, 2) := by decide +kernel
theorem dX10_tables_61 : decode cX10_tables 61 = .ok (.aload_n 0, 1) := by decide +kernel
theorem dX10_tables_62 : decode cX10_tables 62 = .ok (.iload_n 2, 1) := by decide +kernel
theorem dX10_tables_63 : decode cX10_tables 63 = .ok (.iload_n 3, 1) := by decide +kernel
theorem dX10_tables_64 : decode cX10_tables 64 = .ok (.invokevirtual 157, 3) := by decide +kernel
theorem dX10_tables_67 : decode cX10_tables 67 = .ok (.iload 7, 2) := by decide +kernel
theorem dX10_tables_69 : decode cX10_tables 69 = .ok (.i2l, 1) := by decide +kernel
theorem dX10_tables_70 : decode cX10_tables 70 = .ok (.aload_n 0, 1) := by decide +kernel
theorem dX10_tables_71 : decode cX10_tables 71 = .ok (.iload_n 1, 1) := by decide +kernel
theorem dX10_tables_72 : decode cX10_tables 72 = .ok (.iload_n 2, 1) := by decide +kernel
theorem dX10_tables_73 : decode cX10_tables 73 = .ok (.iload_n 3, 1) := by decide +kernel
theorem dX10_tables_74 : decode cX10_tables 74 = .ok (.iload 4, 2) := by decide +kernel
theorem dX10_tables_76 : decode cX10_tables 76 = .ok (.iload 5, 2) := by decide +kernel
theorem dX10_tables_78 : decode cX10_tables 78 = .ok (.iload 6, 2) := by decide +kernel
theorem dX10_tables_80 : decode cX10_tables 80 = .ok (.invokevirtual 227, 3) := by decide +kernel
theorem dX10_tables_83 : decode cX10_tables 83 = .ok (.lmul, 1) := by decide +kernel
theorem dX10_tables_84 : decode cX10_tables 84 = .ok (.lstore 10, 2) := by decide +kernel
theorem dX10_tables_86 : decode cX10_tables 86 = .ok (.aload_n 0, 1) := by decide +kernel
theorem dX10_tables_87 : decode cX10_tables 87 = .ok (.getfield 9, 3) := by decide +kernel
theorem dX10_tables_90 : decode cX10_tables 90 = .ok (.iconst 1, 1) := by decide +kernel
theorem dX10_tables_91 : decode cX10_tables 91 = .ok (.iload_n 2, 1) := by decide +kernel
theorem dX10_tables_92 : decode cX10_tables 92 = .ok (.iadd, 1) := by decide +kernel
theorem dX10_tables_93 : decode cX10_tables 93 = .ok (.aload_n 0, 1) := by decide +kernel
theorem dX10_tables_94 : decode cX10_tables 94 = .ok (.iload 8, 2) := by decide +kernel
theorem dX10_tables_96 : decode cX10_tables 96 = .ok (.invokevirtual 154, 3) := by decide +kernel
theorem dX10_tables_99 : decode cX10_tables 99 = .ok (.iastore, 1) := by decide +kernel
theorem dX10_tables_100 : decode cX10_tables 100 = .ok (.aload_n 0, 1) := by decide +kernel
theorem dX10_tables_101 : decode cX10_tables 101 = .ok (.getfield 9, 3) := by decide +kernel
theorem dX10_tables_104 : decode cX10_tables 104 = .ok (.iconst 1, 1) := by decide +kernel
theorem dX10_tables_105 : decode cX10_tables 105 = .ok (.iload_n 3, 1) := by decide +kernel
theorem dX10_tables_106 : decode cX10_tables 106 = .ok (.iadd, 1) := by decide +kernel
theorem dX10_tables_107 : decode cX10_tables 107 = .ok (.aload_n 0, 1) := by decide +kernel
theorem dX10_tables_108 : decode cX10_tables 108 = .ok (.iload 9, 2) := by decide +kernel
theorem dX10_tables_110 : decode cX10_tables 110 = .ok (.invokevirtual 151, 3) := by decide +kernel
theorem dX10_tables_113 : decode cX10_tables 113 = .ok (.iastore, 1) := by decide +kernel
theorem dX10_tables_114 : decode cX10_tables 114 = .ok (.lload 10, 2) := by decide +kernel
theorem dX10_tables_116 : decode cX10_tables 116 = .ok (.bipush 10, 2) := by decide +kernel
theorem dX10_tables_118 : decode cX10_tables 118 = .ok (.iload 7, 2) := by decide +kernel
theorem dX10_tables_120 : decode cX10_tables 120 = .ok (.isub, 1) := by decide +kernel
theorem dX10_tables_121 : decode cX10_tables 121 = .ok (.i2l, 1) := by decide +kernel
theorem dX10_tables_122 : decode cX10_tables 122 = .ok (.aload_n 0, 1) := by decide +kernel
theorem dX10_tables_123 : decode cX10_tables 123 = .ok (.iload_n 1, 1) := by decide +kernel
theorem dX10_tables_124 : decode cX10_tables 124 = .ok (.iload_n 3, 1) := by decide +kernel
theorem dX10_tables_125 : decode cX10_tables 125 = .ok (.iload_n 2, 1) := by decide +kernel
theorem dX10_tables_126 : decode cX10_tables 126 = .ok (.iload 4, 2) := by decide +kernel
theorem dX10_tables_128 : decode cX10_tables 128 = .ok (.iload 5, 2) := by decide +kernel
theorem dX10_tables_130 : decode cX10_tables 130 = .ok (.iload 6, 2) := by decide +kernel
theorem dX10_tables_132 : decode cX10_tables 132 = .ok (.invokevirtual 227, 3) := by decide +kernel
theorem dX10_tables_135 : decode cX10_tables 135 = .ok (.lmul, 1) := by decide +kernel
theorem dX10_tables_136 : decode cX10_tables 136 = .ok (.ladd, 1) := by decide +kernel
theorem dX10_tables_137 : decode cX10_tables 137 = .ok (.lstore 10, 2) := by decide +kernel
theorem dX10_tables_139 : decode cX10_tables 139 = .ok (.aload_n 0, 1) := by decide +kernel
theorem dX10_tables_140 : decode cX10_tables 140 = .ok (.getfield 9, 3) := by decide +kernel
theorem dX10_tables_143 : decode cX10_tables 143 = .ok (.iconst 1, 1) := by decide +kernel
theorem dX10_tables_144 : decode cX10_tables 144 = .ok (.iload_n 2, 1) := by decide +kernel
theorem dX10_tables_145 : decode cX10_tables 145 = .ok (.iadd, 1) := by decide +kernel
theorem dX10_tables_146 : decode cX10_tables 146 = .ok (.iload 8, 2) := by decide +kernel
theorem dX10_tables_148 : decode cX10_tables 148 = .ok (.iastore, 1) := by decide +kernel
theorem dX10_tables_149 : decode cX10_tables 149 = .ok (.aload_n 0, 1) := by decide +kernel
theorem dX10_tables_150 : decode cX10_tables 150 = .ok (.getfield 9, 3) := by decide +kernel
theorem dX10_tables_153 : decode cX10_tables 153 = .ok (.iconst 1, 1) := by decide +kernel
theorem dX10_tables_154 : decode cX10_tables 154 = .ok (.iload_n 3, 1) := by decide +kernel
theorem dX10_tables_155 : decode cX10_tables 155 = .ok (.iadd, 1) := by decide +kernel
theorem dX10_tables_156 : decode cX10_tables 156 = .ok (.iload 9, 2) := by decide +kernel
theorem dX10_tables_158 : decode cX10_tables 158 = .ok (.iastore, 1) := by decide +kernel
theorem dX10_tables_159 : decode cX10_tables 159 = .ok (.aload_n 0, 1) := by decide +kernel
theorem dX10_tables_160 : decode cX10_tables 160 = .ok (.getfield 9, 3) := by decide +kernel
theorem dX10_tables_163 : decode cX10_tables 163 = .ok (.iconst 0, 1) := by decide +kernel
theorem dX10_tables_164 : decode cX10_tables 164 = .ok (.dup2, 1) := by decide +kernel
theorem dX10_tables_165 : decode cX10_tables 165 = .ok (.iaload, 1) := by decide +kernel
theorem dX10_tables_166 : decode cX10_tables 166 = .ok (.iconst 1, 1) := by decide +kernel
theorem dX10_tables_167 : decode cX10_tables 167 = .ok (.isub, 1) := by decide +kernel
theorem dX10_tables_168 : decode cX10_tables 168 = .ok (.iastore, 1) := by decide +kernel
theorem dX10_tables_169 : decode cX10_tables 169 = .ok (.lload 10, 2) := by decide +kernel
theorem dX10_tables_171 : decode cX10_tables 171 = .ok (.lreturn, 1) := by decide +kernel
set_option maxRecDepth 20000 in
theorem r_X10_tables : m_Right (yX10_tables, cX10_tables, 12, (some .long)) q_X10_tables := m_right_nd (m_right_nd (m_right_nd (m_right_nd (m_right_nd (m_right_nd (m_right_lf ⟨1, dX10_tables_0, rfl, rfl, rfl⟩) (m_right_nd (m_right_lf ⟨1, dX10_tables_1, rfl, rfl, rfl⟩) (m_right_lf ⟨1, dX10_tables_2, rfl, rfl, rfl⟩))) (m_right_nd (m_right_nd (m_right_lf ⟨3, dX10_tables_3, rfl, rfl, 146, 2, 10, (yX10_oddsOf, cX10_oddsOf, 4, (some .int)), rfl, me_X10_oddsOf, mc_X10_oddsOf, Or.inl ⟨(RX10, TX10, 24), rfl, rfl⟩, wd_1101, wd_1103, wd_35, wd_71⟩) (m_right_lf ⟨2, dX10_tables_6, rfl, rfl, rfl⟩)) (m_right_nd (m_right_lf ⟨2, dX10_tables_8, rfl, rfl, rfl⟩) (m_right_lf ⟨1, dX10_tables_10, rfl, rfl, by decide +kernel⟩)))) (m_right_nd (m_right_nd (m_right_lf ⟨3, dX10_tables_11, rfl, rfl, 41, rfl, by decide⟩) (m_right_nd (m_right_lf ⟨1, dX10_tables_14, rfl, rfl, rfl⟩) (m_right_lf ⟨1, dX10_tables_15, rfl, rfl, rfl⟩))) (m_right_nd (m_right_nd (m_right_lf ⟨3, dX10_tables_16, rfl, rfl, 25, rfl, by decide⟩) (m_right_lf ⟨2, dX10_tables_19, rfl, rfl, rfl⟩)) (m_right_nd (m_right_lf ⟨1, dX10_tables_21, rfl, rfl⟩) (m_right_lf ⟨3, dX10_tables_22, rfl, 40, rfl, by decide⟩))))) (m_right_nd (m_right_nd (m_right_nd (m_right_lf ⟨1, dX10_tables_25, rfl, rfl, rfl⟩) (m_right_nd (m_right_lf ⟨1, dX10_tables_26, rfl, rfl, rfl⟩) (m_right_lf ⟨3, dX10_tables_27, rfl, rfl, 39, rfl, by decide⟩))) (m_right_nd (m_right_nd (m_right_lf ⟨2, dX10_tables_30, rfl, rfl, by decide +kernel⟩) (m_right_lf ⟨2, dX10_tables_32, rfl, rfl, rfl⟩)) (m_right_nd (m_right_lf ⟨1, dX10_tables_34, rfl, rfl⟩) (m_right_lf ⟨1, dX10_tables_35, rfl, rfl⟩)))) (m_right_nd (m_right_nd (m_right_lf ⟨3, dX10_tables_36, rfl, 40, rfl, by decide⟩) (m_right_nd (m_right_lf ⟨1, dX10_tables_39, rfl, rfl, by decide +kernel⟩) (m_right_lf ⟨1, dX10_tables_40, rfl, rfl⟩))) (m_right_nd (m_right_nd (m_right_lf ⟨1, dX10_tables_41, rfl, rfl, rfl⟩) (m_right_lf ⟨3, dX10_tables_42, rfl, rfl, 10, 1, rfl, Or.inl ⟨(RX10, TX10, 24), rfl, by decide, wd_867⟩⟩)) (m_right_nd (m_right_lf ⟨1, dX10_tables_45, rfl, rfl, by decide +kernel⟩) (m_right_lf ⟨1, dX10_tables_46, rfl, rfl, rfl⟩)))))) (m_right_nd (m_right_nd (m_right_nd (m_right_nd (m_right_lf ⟨1, dX10_tables_47, rfl, rfl⟩) (m_right_nd (m_right_lf ⟨1, dX10_tables_48, rfl, rfl⟩) (m_right_lf ⟨2, dX10_tables_49, rfl, rfl, rfl⟩))) (m_right_nd (m_right_nd (m_right_lf ⟨1, dX10_tables_51, rfl, rfl, rfl⟩) (m_right_lf ⟨3, dX10_tables_52, rfl, rfl, 10, 1, rfl, Or.inl ⟨(RX10, TX10, 24), rfl, by decide, wd_867⟩⟩)) (m_right_nd (m_right_lf ⟨1, dX10_tables_55, rfl, rfl, by decide +kernel⟩) (m_right_lf ⟨1, dX10_tables_56, rfl, rfl, rfl⟩)))) (m_right_nd (m_right_nd (m_right_lf ⟨1, dX10_tables_57, rfl, rfl⟩) (m_right_nd (m_right_lf ⟨1, dX10_tables_58, rfl, rfl⟩) (m_right_lf ⟨2, dX10_tables_59, rfl, rfl, rfl⟩))) (m_right_nd (m_right_nd (m_right_lf ⟨1, dX10_tables_61, rfl, rfl, rfl⟩) (m_right_lf ⟨1, dX10_tables_62, rfl, rfl, rfl⟩)) (m_right_nd (m_right_lf ⟨1, dX10_tables_63, rfl, rfl, rfl⟩) (m_right_lf ⟨3, dX10_tables_64, rfl, rfl, 151, 2, 10, (yX10_plays, cX10_plays, 3, none), rfl, me_X10_plays, mc_X10_plays, Or.inl ⟨(RX10, TX10, 24), rfl, rfl⟩, wd_1109, wd_1111, wd_36, wd_71⟩))))) (m_right_nd (m_right_nd (m_right_nd (m_right_lf ⟨2, dX10_tables_67, rfl, rfl, rfl⟩) (m_right_nd (m_right_lf ⟨1, dX10_tables_69, rfl, rfl⟩) (m_right_lf ⟨1, dX10_tables_70, rfl, rfl, rfl⟩))) (m_right_nd (m_right_nd (m_right_lf ⟨1, dX10_tables_71, rfl, rfl, rfl⟩) (m_right_lf ⟨1, dX10_tables_72, rfl, rfl, rfl⟩)) (m_right_nd (m_right_lf ⟨1, dX10_tables_73, rfl, rfl, rfl⟩) (m_right_lf ⟨2, dX10_tables_74, rfl, rfl, rfl⟩)))) (m_right_nd (m_right_nd (m_right_lf ⟨2, dX10_tables_76, rfl, rfl, rfl⟩) (m_right_nd (m_right_lf ⟨2, dX10_tables_78, rfl, rfl, rfl⟩) (m_right_lf ⟨3, dX10_tables_80, rfl, rfl, 175, 6, 10, (yX10_nextTable, cX10_nextTable, 9, (some .long)), rfl, me_X10_nextTable, mc_X10_nextTable, Or.inl ⟨(RX10, TX10, 24), rfl, rfl⟩, wd_1226, wd_1228, wd_52, wd_71⟩))) (m_right_nd (m_right_nd (m_right_lf ⟨1, dX10_tables_83, rfl, rfl⟩) (m_right_lf ⟨2, dX10_tables_84, rfl, rfl, rfl⟩)) (m_right_nd (m_right_lf ⟨1, dX10_tables_86, rfl, rfl, rfl⟩) (m_right_lf ⟨3, dX10_tables_87, rfl, rfl, 10, 1, rfl, Or.inl ⟨(RX10, TX10, 24), rfl, by decide, wd_867⟩⟩))))))) (m_right_nd (m_right_nd (m_right_nd (m_right_nd (m_right_nd (m_right_lf ⟨1, dX10_tables_90, rfl, rfl, by decide +kernel⟩) (m_right_nd (m_right_lf ⟨1, dX10_tables_91, rfl, rfl, rfl⟩) (m_right_lf ⟨1, dX10_tables_92, rfl, rfl⟩))) (m_right_nd (m_right_nd (m_right_lf ⟨1, dX10_tables_93, rfl, rfl, rfl⟩) (m_right_lf ⟨2, dX10_tables_94, rfl, rfl, rfl⟩)) (m_right_nd (m_right_lf ⟨3, dX10_tables_96, rfl, rfl, 150, 1, 10, (yX10_moreOf, cX10_moreOf, 3, (some .int)), rfl, me_X10_moreOf, mc_X10_moreOf, Or.inl ⟨(RX10, TX10, 24), rfl, rfl⟩, wd_1117, wd_1119, wd_38, wd_71⟩) (m_right_lf ⟨1, dX10_tables_99, rfl, rfl⟩)))) (m_right_nd (m_right_nd (m_right_lf ⟨1, dX10_tables_100, rfl, rfl, rfl⟩) (m_right_nd (m_right_lf ⟨3, dX10_tables_101, rfl, rfl, 10, 1, rfl, Or.inl ⟨(RX10, TX10, 24), rfl, by decide, wd_867⟩⟩) (m_right_lf ⟨1, dX10_tables_104, rfl, rfl, by decide +kernel⟩))) (m_right_nd (m_right_nd (m_right_lf ⟨1, dX10_tables_105, rfl, rfl, rfl⟩) (m_right_lf ⟨1, dX10_tables_106, rfl, rfl⟩)) (m_right_nd (m_right_lf ⟨1, dX10_tables_107, rfl, rfl, rfl⟩) (m_right_lf ⟨2, dX10_tables_108, rfl, rfl, rfl⟩))))) (m_right_nd (m_right_nd (m_right_nd (m_right_lf ⟨3, dX10_tables_110, rfl, rfl, 149, 1, 10, (yX10_fewer, cX10_fewer, 3, (some .int)), rfl, me_X10_fewer, mc_X10_fewer, Or.inl ⟨(RX10, TX10, 24), rfl, rfl⟩, wd_1113, wd_1115, wd_37, wd_71⟩) (m_right_nd (m_right_lf ⟨1, dX10_tables_113, rfl, rfl⟩) (m_right_lf ⟨2, dX10_tables_114, rfl, rfl, rfl⟩))) (m_right_nd (m_right_nd (m_right_lf ⟨2, dX10_tables_116, rfl, rfl, by decide +kernel⟩) (m_right_lf ⟨2, dX10_tables_118, rfl, rfl, rfl⟩)) (m_right_nd (m_right_lf ⟨1, dX10_tables_120, rfl, rfl⟩) (m_right_lf ⟨1, dX10_tables_121, rfl, rfl⟩)))) (m_right_nd (m_right_nd (m_right_lf ⟨1, dX10_tables_122, rfl, rfl, rfl⟩) (m_right_nd (m_right_lf ⟨1, dX10_tables_123, rfl, rfl, rfl⟩) (m_right_lf ⟨1, dX10_tables_124, rfl, rfl, rfl⟩))) (m_right_nd (m_right_nd (m_right_lf ⟨1, dX10_tables_125, rfl, rfl, rfl⟩) (m_right_lf ⟨2, dX10_tables_126, rfl, rfl, rfl⟩)) (m_right_nd (m_right_lf ⟨2, dX10_tables_128, rfl, rfl, rfl⟩) (m_right_lf ⟨2, dX10_tables_130, rfl, rfl, rfl⟩)))))) (m_right_nd (m_right_nd (m_right_nd (m_right_nd (m_right_lf ⟨3, dX10_tables_132, rfl, rfl, 175, 6, 10, (yX10_nextTable, cX10_nextTable, 9, (some .long)), rfl, me_X10_nextTable, mc_X10_nextTable, Or.inl ⟨(RX10, TX10, 24), rfl, rfl⟩, wd_1226, wd_1228, wd_52, wd_71⟩) (m_right_nd (m_right_lf ⟨1, dX10_tables_135, rfl, rfl⟩) (m_right_lf ⟨1, dX10_tables_136, rfl, rfl⟩))) (m_right_nd (m_right_nd (m_right_lf ⟨2, dX10_tables_137, rfl, rfl, rfl⟩) (m_right_lf ⟨1, dX10_tables_139, rfl, rfl, rfl⟩)) (m_right_nd (m_right_lf ⟨3, dX10_tables_140, rfl, rfl, 10, 1, rfl, Or.inl ⟨(RX10, TX10, 24), rfl, by decide, wd_867⟩⟩) (m_right_lf ⟨1, dX10_tables_143, rfl, rfl, by decide +kernel⟩)))) (m_right_nd (m_right_nd (m_right_lf ⟨1, dX10_tables_144, rfl, rfl, rfl⟩) (m_right_nd (m_right_lf ⟨1, dX10_tables_145, rfl, rfl⟩) (m_right_lf ⟨2, dX10_tables_146, rfl, rfl, rfl⟩))) (m_right_nd (m_right_nd (m_right_lf ⟨1, dX10_tables_148, rfl, rfl⟩) (m_right_lf ⟨1, dX10_tables_149, rfl, rfl, rfl⟩)) (m_right_nd (m_right_lf ⟨3, dX10_tables_150, rfl, rfl, 10, 1, rfl, Or.inl ⟨(RX10, TX10, 24), rfl, by decide, wd_867⟩⟩) (m_right_lf ⟨1, dX10_tables_153, rfl, rfl, by decide +kernel⟩))))) (m_right_nd (m_right_nd (m_right_nd (m_right_lf ⟨1, dX10_tables_154, rfl, rfl, rfl⟩) (m_right_nd (m_right_lf ⟨1, dX10_tables_155, rfl, rfl⟩) (m_right_lf ⟨2, dX10_tables_156, rfl, rfl, rfl⟩))) (m_right_nd (m_right_nd (m_right_lf ⟨1, dX10_tables_158, rfl, rfl⟩) (m_right_lf ⟨1, dX10_tables_159, rfl, rfl, rfl⟩)) (m_right_nd (m_right_lf ⟨3, dX10_tables_160, rfl, rfl, 10, 1, rfl, Or.inl ⟨(RX10, TX10, 24), rfl, by decide, wd_867⟩⟩) (m_right_lf ⟨1, dX10_tables_163, rfl, rfl, by decide +kernel⟩)))) (m_right_nd (m_right_nd (m_right_lf ⟨1, dX10_tables_164, rfl, rfl⟩) (m_right_nd (m_right_lf ⟨1, dX10_tables_165, rfl, rfl⟩) (m_right_lf ⟨1, dX10_tables_166, rfl, rfl, by decide +kernel⟩))) (m_right_nd (m_right_nd (m_right_lf ⟨1, dX10_tables_167, rfl, rfl⟩) (m_right_lf ⟨1, dX10_tables_168, rfl, rfl⟩)) (m_right_nd (m_right_lf ⟨2, dX10_tables_169, rfl, rfl, rfl⟩) (m_right_lf ⟨1, dX10_tables_171, rfl, rfl⟩)))))))
theorem dX10_nextTable_0 : decode cX10_nextTable 0 = .ok (.iconst 1, 1) := by decide +kernel
theorem dX10_nextTable_1 : decode cX10_nextTable 1 = .ok (.istore 7, 2) := by decide +kernel
theorem dX10_nextTable_3 : decode cX10_nextTable 3 = .ok (.iconst 0, 1) := by decide +kernel
theorem dX10_nextTable_4 : decode cX10_nextTable 4 = .ok (.istore 8, 2) := by decide +kernel
theorem dX10_nextTable_6 : decode cX10_nextTable 6 = .ok (.iload 8, 2) := by decide +kernel
theorem dX10_nextTable_8 : decode cX10_nextTable 8 = .ok (.iload 5, 2) := by decide +kernel
theorem dX10_nextTable_10 : decode cX10_nextTable 10 = .ok (.if_icmp .ge 16, 3) := by decide +kernel
theorem dX10_nextTable_13 : decode cX10_nextTable 13 = .ok (.iload 7, 2) := by decide +kernel
theorem dX10_nextTable_15 : decode cX10_nextTable 15 = .ok (.bipush 10, 2) := by decide +kernel
theorem dX10_nextTable_17 : decode cX10_nextTable 17 = .ok (.imul, 1) := by decide +kernel
theorem dX10_nextTable_18 : decode cX10_nextTable 18 = .ok (.istore 7, 2) := by decide +kernel
theorem dX10_nextTable_20 : decode cX10_nextTable 20 = .ok (.iinc 8 1, 3) := by decide +kernel
theorem dX10_nextTable_23 : decode cX10_nextTable 23 = .ok (.goto (-17), 3) := by decide +kernel
theorem dX10_nextTable_26 : decode cX10_nextTable 26 = .ok (.bipush 10, 2) := by decide +kernel
theorem dX10_nextTable_28 : decode cX10_nextTable 28 = .ok (.iload 4, 2) := by decide +kernel
theorem dX10_nextTable_30 : decode cX10_nextTable 30 = .ok (.imul, 1) := by decide +kernel
theorem dX10_nextTable_31 : decode cX10_nextTable 31 = .ok (.iload_n 3, 1) := by decide +kernel
theorem dX10_nextTable_32 : decode cX10_nextTable 32 = .ok (.iadd, 1) := by decide +kernel
theorem dX10_nextTable_33 : decode cX10_nextTable 33 = .ok (.istore 8, 2) := by decide +kernel
theorem dX10_nextTable_35 : decode cX10_nextTable 35 = .ok (.aload_n 0, 1) := by decide +kernel
theorem dX10_nextTable_36 : decode cX10_nextTable 36 = .ok (.iload_n 1, 1) := by decide +kernel
theorem dX10_nextTable_37 : decode cX10_nextTable 37 = .ok (.iload_n 2, 1) := by decide +kernel
theorem dX10_nextTable_38 : decode cX10_nextTable 38 = .ok (.iload 8, 2) := by decide +kernel
theorem dX10_nextTable_40 : decode cX10_nextTable 40 = .ok (.iload 7, 2) := by decide +kernel
theorem dX10_nextTable_42 : decode cX10_nextTable 42 = .ok (.idiv, 1) := by decide +kernel
theorem dX10_nextTable_43 : decode cX10_nextTable 43 = .ok (.iload 8, 2) := by decide +kernel
theorem dX10_nextTable_45 : decode cX10_nextTable 45 = .ok (.iload 7, 2) := by decide +kernel
theorem dX10_nextTable_47 : decode cX10_nextTable 47 = .ok (.irem, 1) := by decide +kernel
theorem dX10_nextTable_48 : decode cX10_nextTable 48 = .ok (.iload 5, 2) := by decide +kernel
theorem dX10_nextTable_50 : decode cX10_nextTable 50 = .ok (.iload 6, 2) := by decide +kernel
theorem dX10_nextTable_52 : decode cX10_nextTable 52 = .ok (.iconst 1, 1) := by decide +kernel
theorem dX10_nextTable_53 : decode cX10_nextTable 53 = .ok (.isub, 1) := by decide +kernel
theorem dX10_nextTable_54 : decode cX10_nextTable 54 = .ok (.invokevirtual 231, 3) := by decide +kernel
theorem dX10_nextTable_57 : decode cX10_nextTable 57 = .ok (.lreturn, 1) := by decide +kernel
set_option maxRecDepth 20000 in
theorem r_X10_nextTable : m_Right (yX10_nextTable, cX10_nextTable, 9, (some .long)) q_X10_nextTable := m_right_nd (m_right_nd (m_right_nd (m_right_nd (m_right_nd (m_right_lf ⟨1, dX10_nextTable_0, rfl, rfl, by decide +kernel⟩) (m_right_lf ⟨2, dX10_nextTable_1, rfl, rfl, rfl⟩)) (m_right_nd (m_right_lf ⟨1, dX10_nextTable_3, rfl, rfl, by decide +kernel⟩) (m_right_lf ⟨2, dX10_nextTable_4, rfl, rfl, rfl⟩))) (m_right_nd (m_right_nd (m_right_lf ⟨2, dX10_nextTable_6, rfl, rfl, rfl⟩) (m_right_lf ⟨2, dX10_nextTable_8, rfl, rfl, rfl⟩)) (m_right_nd (m_right_lf ⟨3, dX10_nextTable_10, rfl, rfl, 26, rfl, by decide⟩) (m_right_lf ⟨2, dX10_nextTable_13, rfl, rfl, rfl⟩)))) (m_right_nd (m_right_nd (m_right_nd (m_right_lf ⟨2, dX10_nextTable_15, rfl, rfl, by decide +kernel⟩) (m_right_lf ⟨1, dX10_nextTable_17, rfl, rfl⟩)) (m_right_nd (m_right_lf ⟨2, dX10_nextTable_18, rfl, rfl, rfl⟩) (m_right_lf ⟨3, dX10_nextTable_20, rfl, rfl, rfl, by decide +kernel⟩))) (m_right_nd (m_right_nd (m_right_lf ⟨3, dX10_nextTable_23, rfl, 6, rfl, by decide⟩) (m_right_lf ⟨2, dX10_nextTable_26, rfl, rfl, by decide +kernel⟩)) (m_right_nd (m_right_lf ⟨2, dX10_nextTable_28, rfl, rfl, rfl⟩) (m_right_nd (m_right_lf ⟨1, dX10_nextTable_30, rfl, rfl⟩) (m_right_lf ⟨1, dX10_nextTable_31, rfl, rfl, rfl⟩)))))) (m_right_nd (m_right_nd (m_right_nd (m_right_nd (m_right_lf ⟨1, dX10_nextTable_32, rfl, rfl⟩) (m_right_lf ⟨2, dX10_nextTable_33, rfl, rfl, rfl⟩)) (m_right_nd (m_right_lf ⟨1, dX10_nextTable_35, rfl, rfl, rfl⟩) (m_right_lf ⟨1, dX10_nextTable_36, rfl, rfl, rfl⟩))) (m_right_nd (m_right_nd (m_right_lf ⟨1, dX10_nextTable_37, rfl, rfl, rfl⟩) (m_right_lf ⟨2, dX10_nextTable_38, rfl, rfl, rfl⟩)) (m_right_nd (m_right_lf ⟨2, dX10_nextTable_40, rfl, rfl, rfl⟩) (m_right_lf ⟨1, dX10_nextTable_42, rfl, rfl⟩)))) (m_right_nd (m_right_nd (m_right_nd (m_right_lf ⟨2, dX10_nextTable_43, rfl, rfl, rfl⟩) (m_right_lf ⟨2, dX10_nextTable_45, rfl, rfl, rfl⟩)) (m_right_nd (m_right_lf ⟨1, dX10_nextTable_47, rfl, rfl⟩) (m_right_lf ⟨2, dX10_nextTable_48, rfl, rfl, rfl⟩))) (m_right_nd (m_right_nd (m_right_lf ⟨2, dX10_nextTable_50, rfl, rfl, rfl⟩) (m_right_lf ⟨1, dX10_nextTable_52, rfl, rfl, by decide +kernel⟩)) (m_right_nd (m_right_lf ⟨1, dX10_nextTable_53, rfl, rfl⟩) (m_right_nd (m_right_lf ⟨3, dX10_nextTable_54, rfl, rfl, 174, 6, 10, (yX10_tables, cX10_tables, 12, (some .long)), rfl, me_X10_tables, mc_X10_tables, Or.inl ⟨(RX10, TX10, 24), rfl, rfl⟩, wd_1222, wd_1224, wd_51, wd_71⟩) (m_right_lf ⟨1, dX10_nextTable_57, rfl, rfl⟩))))))
theorem dX10_table_0 : decode cX10_table 0 = .ok (.aload_n 0, 1) := by decide +kernel
theorem dX10_table_1 : decode cX10_table 1 = .ok (.iload_n 1, 1) := by decide +kernel
theorem dX10_table_2 : decode cX10_table 2 = .ok (.invokevirtual 52, 3) := by decide +kernel
theorem dX10_table_5 : decode cX10_table 5 = .ok (.ifCond .eq 33, 3) := by decide +kernel
theorem dX10_table_8 : decode cX10_table 8 = .ok (.iload_n 2, 1) := by decide +kernel
theorem dX10_table_9 : decode cX10_table 9 = .ok (.iconst 1, 1) := by decide +kernel
theorem dX10_table_10 : decode cX10_table 10 = .ok (.bipush 8, 2) := by decide +kernel
theorem dX10_table_12 : decode cX10_table 12 = .ok (.invokestatic 48, 3) := by decide +kernel
theorem dX10_table_15 : decode cX10_table 15 = .ok (.ifCond .eq 23, 3) := by decide +kernel
theorem dX10_table_18 : decode cX10_table 18 = .ok (.iload_n 3, 1) := by decide +kernel
theorem dX10_table_19 : decode cX10_table 19 = .ok (.iconst 0, 1) := by decide +kernel
theorem dX10_table_20 : decode cX10_table 20 = .ok (.iconst 1, 1) := by decide +kernel
theorem dX10_table_21 : decode cX10_table 21 = .ok (.invokestatic 48, 3) := by decide +kernel
theorem dX10_table_24 : decode cX10_table 24 = .ok (.ifCond .eq 14, 3) := by decide +kernel
theorem dX10_table_27 : decode cX10_table 27 = .ok (.aload_n 0, 1) := by decide +kernel
theorem dX10_table_28 : decode cX10_table 28 = .ok (.getfield 9, 3) := by decide +kernel
theorem dX10_table_31 : decode cX10_table 31 = .ok (.bipush 6, 2) := by decide +kernel
theorem dX10_table_33 : decode cX10_table 33 = .ok (.iaload, 1) := by decide +kernel
theorem dX10_table_34 : decode cX10_table 34 = .ok (.iconst 2, 1) := by decide +kernel
theorem dX10_table_35 : decode cX10_table 35 = .ok (.if_icmp .ge 7, 3) := by decide +kernel
theorem dX10_table_38 : decode cX10_table 38 = .ok (.ldc2_w 184, 3) := by decide +kernel
theorem dX10_table_41 : decode cX10_table 41 = .ok (.lreturn, 1) := by decide +kernel
theorem dX10_table_42 : decode cX10_table 42 = .ok (.iconst 0, 1) := by decide +kernel
theorem dX10_table_43 : decode cX10_table 43 = .ok (.istore 4, 2) := by decide +kernel
theorem dX10_table_45 : decode cX10_table 45 = .ok (.iconst 2, 1) := by decide +kernel
theorem dX10_table_46 : decode cX10_table 46 = .ok (.istore 5, 2) := by decide +kernel
theorem dX10_table_48 : decode cX10_table 48 = .ok (.iload 5, 2) := by decide +kernel
theorem dX10_table_50 : decode cX10_table 50 = .ok (.aload_n 0, 1) := by decide +kernel
theorem dX10_table_51 : decode cX10_table 51 = .ok (.getfield 9, 3) := by decide +kernel
theorem dX10_table_54 : decode cX10_table 54 = .ok (.bipush 6, 2) := by decide +kernel
theorem dX10_table_56 : decode cX10_table 56 = .ok (.iaload, 1) := by decide +kernel
theorem dX10_table_57 : decode cX10_table 57 = .ok (.if_icmp .ge 19, 3) := by decide +kernel
theorem dX10_table_60 : decode cX10_table 60 = .ok (.bipush 10, 2) := by decide +kernel
theorem dX10_table_62 : decode cX10_table 62 = .ok (.iload 4, 2) := by decide +kernel
theorem dX10_table_64 : decode cX10_table 64 = .ok (.imul, 1) := by decide +kernel
theorem dX10_table_65 : decode cX10_table 65 = .ok (.iload 5, 2) := by decide +kernel
theorem dX10_table_67 : decode cX10_table 67 = .ok (.iadd, 1) := by decide +kernel
theorem dX10_table_68 : decode cX10_table 68 = .ok (.istore 4, 2) := by decide +kernel
theorem dX10_table_70 : decode cX10_table 70 = .ok (.iinc 5 1, 3) := by decide +kernel
theorem dX10_table_73 : decode cX10_table 73 = .ok (.goto (-25), 3) := by decide +kernel
theorem dX10_table_76 : decode cX10_table 76 = .ok (.aload_n 0, 1) := by decide +kernel
theorem dX10_table_77 : decode cX10_table 77 = .ok (.iload_n 1, 1) := by decide +kernel
theorem dX10_table_78 : decode cX10_table 78 = .ok (.iconst 0, 1) := by decide +kernel
theorem dX10_table_79 : decode cX10_table 79 = .ok (.iconst 1, 1) := by decide +kernel
theorem dX10_table_80 : decode cX10_table 80 = .ok (.iload 4, 2) := by decide +kernel
theorem dX10_table_82 : decode cX10_table 82 = .ok (.aload_n 0, 1) := by decide +kernel
theorem dX10_table_83 : decode cX10_table 83 = .ok (.getfield 9, 3) := by decide +kernel
theorem dX10_table_86 : decode cX10_table 86 = .ok (.bipush 6, 2) := by decide +kernel
theorem dX10_table_88 : decode cX10_table 88 = .ok (.iaload, 1) := by decide +kernel
theorem dX10_table_89 : decode cX10_table 89 = .ok (.iconst 2, 1) := by decide +kernel
theorem dX10_table_90 : decode cX10_table 90 = .ok (.isub, 1) := by decide +kernel
theorem dX10_table_91 : decode cX10_table 91 = .ok (.iload_n 2, 1) := by decide +kernel
theorem dX10_table_92 : decode cX10_table 92 = .ok (.invokevirtual 231, 3) := by decide +kernel
theorem dX10_table_95 : decode cX10_table 95 = .ok (.iload_n 2, 1) := by decide +kernel
theorem dX10_table_96 : decode cX10_table 96 = .ok (.invokestatic 190, 3) := by decide +kernel
theorem dX10_table_99 : decode cX10_table 99 = .ok (.iload_n 3, 1) := by decide +kernel
theorem dX10_table_100 : decode cX10_table 100 = .ok (.invokestatic 194, 3) := by decide +kernel
theorem dX10_table_103 : decode cX10_table 103 = .ok (.lreturn, 1) := by decide +kernel
set_option maxRecDepth 20000 in
theorem r_X10_table : m_Right (yX10_table, cX10_table, 6, (some .long)) q_X10_table := m_right_nd (m_right_nd (m_right_nd (m_right_nd (m_right_nd (m_right_lf ⟨1, dX10_table_0, rfl, rfl, rfl⟩) (m_right_nd (m_right_lf ⟨1, dX10_table_1, rfl, rfl, rfl⟩) (m_right_lf ⟨3, dX10_table_2, rfl, rfl, 119, 1, 10, (yX10_isPlayer, cX10_isPlayer, 2, (some .boolean)), rfl, me_X10_isPlayer, mc_X10_isPlayer, Or.inl ⟨(RX10, TX10, 24), rfl, rfl⟩, wd_1065, wd_1067, wd_31, wd_71⟩))) (m_right_nd (m_right_nd (m_right_lf ⟨3, dX10_table_5, rfl, rfl, 38, rfl, by decide⟩) (m_right_lf ⟨1, dX10_table_8, rfl, rfl, rfl⟩)) (m_right_nd (m_right_lf ⟨1, dX10_table_9, rfl, rfl, by decide +kernel⟩) (m_right_lf ⟨2, dX10_table_10, rfl, rfl, by decide +kernel⟩)))) (m_right_nd (m_right_nd (m_right_lf ⟨3, dX10_table_12, rfl, rfl, Or.inr (Or.inr ⟨118, 3, (yX10_in, cX10_in, 3, (some .boolean)), rfl, me_X10_in, mc_X10_in, wd_943, wd_944, wd_71⟩)⟩) (m_right_nd (m_right_lf ⟨3, dX10_table_15, rfl, rfl, 38, rfl, by decide⟩) (m_right_lf ⟨1, dX10_table_18, rfl, rfl, rfl⟩))) (m_right_nd (m_right_nd (m_right_lf ⟨1, dX10_table_19, rfl, rfl, by decide +kernel⟩) (m_right_lf ⟨1, dX10_table_20, rfl, rfl, by decide +kernel⟩)) (m_right_nd (m_right_lf ⟨3, dX10_table_21, rfl, rfl, Or.inr (Or.inr ⟨118, 3, (yX10_in, cX10_in, 3, (some .boolean)), rfl, me_X10_in, mc_X10_in, wd_943, wd_944, wd_71⟩)⟩) (m_right_lf ⟨3, dX10_table_24, rfl, rfl, 38, rfl, by decide⟩))))) (m_right_nd (m_right_nd (m_right_nd (m_right_lf ⟨1, dX10_table_27, rfl, rfl, rfl⟩) (m_right_nd (m_right_lf ⟨3, dX10_table_28, rfl, rfl, 10, 1, rfl, Or.inl ⟨(RX10, TX10, 24), rfl, by decide, wd_867⟩⟩) (m_right_lf ⟨2, dX10_table_31, rfl, rfl, by decide +kernel⟩))) (m_right_nd (m_right_nd (m_right_lf ⟨1, dX10_table_33, rfl, rfl⟩) (m_right_lf ⟨1, dX10_table_34, rfl, rfl, by decide +kernel⟩)) (m_right_nd (m_right_lf ⟨3, dX10_table_35, rfl, rfl, 42, rfl, by decide⟩) (m_right_lf ⟨3, dX10_table_38, rfl, rfl, _, rfl, wd_1129⟩)))) (m_right_nd (m_right_nd (m_right_nd (m_right_lf ⟨1, dX10_table_41, rfl, rfl⟩) (m_right_lf ⟨1, dX10_table_42, rfl, rfl, by decide +kernel⟩)) (m_right_nd (m_right_lf ⟨2, dX10_table_43, rfl, rfl, rfl⟩) (m_right_lf ⟨1, dX10_table_45, rfl, rfl, by decide +kernel⟩))) (m_right_nd (m_right_nd (m_right_lf ⟨2, dX10_table_46, rfl, rfl, rfl⟩) (m_right_lf ⟨2, dX10_table_48, rfl, rfl, rfl⟩)) (m_right_nd (m_right_lf ⟨1, dX10_table_50, rfl, rfl, rfl⟩) (m_right_lf ⟨3, dX10_table_51, rfl, rfl, 10, 1, rfl, Or.inl ⟨(RX10, TX10, 24), rfl, by decide, wd_867⟩⟩)))))) (m_right_nd (m_right_nd (m_right_nd (m_right_nd (m_right_lf ⟨2, dX10_table_54, rfl, rfl, by decide +kernel⟩) (m_right_nd (m_right_lf ⟨1, dX10_table_56, rfl, rfl⟩) (m_right_lf ⟨3, dX10_table_57, rfl, rfl, 76, rfl, by decide⟩))) (m_right_nd (m_right_nd (m_right_lf ⟨2, dX10_table_60, rfl, rfl, by decide +kernel⟩) (m_right_lf ⟨2, dX10_table_62, rfl, rfl, rfl⟩)) (m_right_nd (m_right_lf ⟨1, dX10_table_64, rfl, rfl⟩) (m_right_lf ⟨2, dX10_table_65, rfl, rfl, rfl⟩)))) (m_right_nd (m_right_nd (m_right_lf ⟨1, dX10_table_67, rfl, rfl⟩) (m_right_nd (m_right_lf ⟨2, dX10_table_68, rfl, rfl, rfl⟩) (m_right_lf ⟨3, dX10_table_70, rfl, rfl, rfl, by decide +kernel⟩))) (m_right_nd (m_right_nd (m_right_lf ⟨3, dX10_table_73, rfl, 48, rfl, by decide⟩) (m_right_lf ⟨1, dX10_table_76, rfl, rfl, rfl⟩)) (m_right_nd (m_right_lf ⟨1, dX10_table_77, rfl, rfl, rfl⟩) (m_right_lf ⟨1, dX10_table_78, rfl, rfl, by decide +kernel⟩))))) (m_right_nd (m_right_nd (m_right_nd (m_right_lf ⟨1, dX10_table_79, rfl, rfl, by decide +kernel⟩) (m_right_nd (m_right_lf ⟨2, dX10_table_80, rfl, rfl, rfl⟩) (m_right_lf ⟨1, dX10_table_82, rfl, rfl, rfl⟩))) (m_right_nd (m_right_nd (m_right_lf ⟨3, dX10_table_83, rfl, rfl, 10, 1, rfl, Or.inl ⟨(RX10, TX10, 24), rfl, by decide, wd_867⟩⟩) (m_right_lf ⟨2, dX10_table_86, rfl, rfl, by decide +kernel⟩)) (m_right_nd (m_right_lf ⟨1, dX10_table_88, rfl, rfl⟩) (m_right_lf ⟨1, dX10_table_89, rfl, rfl, by decide +kernel⟩)))) (m_right_nd (m_right_nd (m_right_nd (m_right_lf ⟨1, dX10_table_90, rfl, rfl⟩) (m_right_lf ⟨1, dX10_table_91, rfl, rfl, rfl⟩)) (m_right_nd (m_right_lf ⟨3, dX10_table_92, rfl, rfl, 174, 6, 10, (yX10_tables, cX10_tables, 12, (some .long)), rfl, me_X10_tables, mc_X10_tables, Or.inl ⟨(RX10, TX10, 24), rfl, rfl⟩, wd_1222, wd_1224, wd_51, wd_71⟩) (m_right_lf ⟨1, dX10_table_95, rfl, rfl, rfl⟩))) (m_right_nd (m_right_nd (m_right_lf ⟨3, dX10_table_96, rfl, rfl, Or.inr (Or.inr ⟨153, 1, (yX10_tens, cX10_tens, 4, (some .long)), rfl, me_X10_tens, mc_X10_tens, wd_1151, wd_1152, wd_71⟩)⟩) (m_right_lf ⟨1, dX10_table_99, rfl, rfl, rfl⟩)) (m_right_nd (m_right_lf ⟨3, dX10_table_100, rfl, rfl, Or.inr (Or.inr ⟨157, 3, (yX10_lowest, cX10_lowest, 11, (some .long)), rfl, me_X10_lowest, mc_X10_lowest, wd_1154, wd_1155, wd_71⟩)⟩) (m_right_lf ⟨1, dX10_table_103, rfl, rfl⟩))))))
theorem dX10_book_0 : decode cX10_book 0 = .ok (.iload_n 1, 1) := by decide +kernel
theorem dX10_book_1 : decode cX10_book 1 = .ok (.iconst (-1), 1) := by decide +kernel
theorem dX10_book_2 : decode cX10_book 2 = .ok (.if_icmp .ne 13, 3) := by decide +kernel
theorem dX10_book_5 : decode cX10_book 5 = .ok (.aload_n 0, 1) := by decide +kernel
theorem dX10_book_6 : decode cX10_book 6 = .ok (.getfield 9, 3) := by decide +kernel
theorem dX10_book_9 : decode cX10_book 9 = .ok (.bipush 8, 2) := by decide +kernel
theorem dX10_book_11 : decode cX10_book 11 = .ok (.iconst 0, 1) := by decide +kernel
theorem dX10_book_12 : decode cX10_book 12 = .ok (.iastore, 1) := by decide +kernel
theorem dX10_book_13 : decode cX10_book 13 = .ok (.iconst 0, 1) := by decide +kernel
theorem dX10_book_14 : decode cX10_book 14 = .ok (.ireturn, 1) := by decide +kernel
theorem dX10_book_15 : decode cX10_book 15 = .ok (.aload_n 0, 1) := by decide +kernel
theorem dX10_book_16 : decode cX10_book 16 = .ok (.iload_n 1, 1) := by decide +kernel
theorem dX10_book_17 : decode cX10_book 17 = .ok (.invokevirtual 52, 3) := by decide +kernel
theorem dX10_book_20 : decode cX10_book 20 = .ok (.ifCond .eq 11, 3) := by decide +kernel
theorem dX10_book_23 : decode cX10_book 23 = .ok (.aload_n 0, 1) := by decide +kernel
theorem dX10_book_24 : decode cX10_book 24 = .ok (.iload_n 2, 1) := by decide +kernel
theorem dX10_book_25 : decode cX10_book 25 = .ok (.invokevirtual 52, 3) := by decide +kernel
theorem dX10_book_28 : decode cX10_book 28 = .ok (.ifCond .ne 5, 3) := by decide +kernel
theorem dX10_book_31 : decode cX10_book 31 = .ok (.iconst (-1), 1) := by decide +kernel
theorem dX10_book_32 : decode cX10_book 32 = .ok (.ireturn, 1) := by decide +kernel
theorem dX10_book_33 : decode cX10_book 33 = .ok (.iload_n 1, 1) := by decide +kernel
theorem dX10_book_34 : decode cX10_book 34 = .ok (.iload_n 2, 1) := by decide +kernel
theorem dX10_book_35 : decode cX10_book 35 = .ok (.if_icmp .ne 6, 3) := by decide +kernel
theorem dX10_book_38 : decode cX10_book 38 = .ok (.bipush (-2), 2) := by decide +kernel
theorem dX10_book_40 : decode cX10_book 40 = .ok (.ireturn, 1) := by decide +kernel
theorem dX10_book_41 : decode cX10_book 41 = .ok (.aload_n 0, 1) := by decide +kernel
theorem dX10_book_42 : decode cX10_book 42 = .ok (.getfield 9, 3) := by decide +kernel
theorem dX10_book_45 : decode cX10_book 45 = .ok (.bipush 8, 2) := by decide +kernel
theorem dX10_book_47 : decode cX10_book 47 = .ok (.iaload, 1) := by decide +kernel
theorem dX10_book_48 : decode cX10_book 48 = .ok (.bipush 8, 2) := by decide +kernel
theorem dX10_book_50 : decode cX10_book 50 = .ok (.if_icmp .ne 6, 3) := by decide +kernel
theorem dX10_book_53 : decode cX10_book 53 = .ok (.bipush (-4), 2) := by decide +kernel
theorem dX10_book_55 : decode cX10_book 55 = .ok (.ireturn, 1) := by decide +kernel
theorem dX10_book_56 : decode cX10_book 56 = .ok (.aload_n 0, 1) := by decide +kernel
theorem dX10_book_57 : decode cX10_book 57 = .ok (.getfield 9, 3) := by decide +kernel
theorem dX10_book_60 : decode cX10_book 60 = .ok (.bipush 42, 2) := by decide +kernel
theorem dX10_book_62 : decode cX10_book 62 = .ok (.aload_n 0, 1) := by decide +kernel
theorem dX10_book_63 : decode cX10_book 63 = .ok (.getfield 9, 3) := by decide +kernel
theorem dX10_book_66 : decode cX10_book 66 = .ok (.bipush 8, 2) := by decide +kernel
theorem dX10_book_68 : decode cX10_book 68 = .ok (.iaload, 1) := by decide +kernel
theorem dX10_book_69 : decode cX10_book 69 = .ok (.iadd, 1) := by decide +kernel
theorem dX10_book_70 : decode cX10_book 70 = .ok (.iload_n 1, 1) := by decide +kernel
theorem dX10_book_71 : decode cX10_book 71 = .ok (.iastore, 1) := by decide +kernel
theorem dX10_book_72 : decode cX10_book 72 = .ok (.aload_n 0, 1) := by decide +kernel
theorem dX10_book_73 : decode cX10_book 73 = .ok (.getfield 9, 3) := by decide +kernel
theorem dX10_book_76 : decode cX10_book 76 = .ok (.bipush 50, 2) := by decide +kernel
theorem dX10_book_78 : decode cX10_book 78 = .ok (.aload_n 0, 1) := by decide +kernel
theorem dX10_book_79 : decode cX10_book 79 = .ok (.getfield 9, 3) := by decide +kernel
theorem dX10_book_82 : decode cX10_book 82 = .ok (.bipush 8, 2) := by decide +kernel
theorem dX10_book_84 : decode cX10_book 84 = .ok (.iaload, 1) := by decide +kernel
theorem dX10_book_85 : decode cX10_book 85 = .ok (.iadd, 1) := by decide +kernel
theorem dX10_book_86 : decode cX10_book 86 = .ok (.iload_n 2, 1) := by decide +kernel
theorem dX10_book_87 : decode cX10_book 87 = .ok (.iastore, 1) := by decide +kernel
theorem dX10_book_88 : decode cX10_book 88 = .ok (.aload_n 0, 1) := by decide +kernel
theorem dX10_book_89 : decode cX10_book 89 = .ok (.getfield 9, 3) := by decide +kernel
theorem dX10_book_92 : decode cX10_book 92 = .ok (.bipush 58, 2) := by decide +kernel
theorem dX10_book_94 : decode cX10_book 94 = .ok (.aload_n 0, 1) := by decide +kernel
theorem dX10_book_95 : decode cX10_book 95 = .ok (.getfield 9, 3) := by decide +kernel
theorem dX10_book_98 : decode cX10_book 98 = .ok (.bipush 8, 2) := by decide +kernel
theorem dX10_book_100 : decode cX10_book 100 = .ok (.iaload, 1) := by decide +kernel
theorem dX10_book_101 : decode cX10_book 101 = .ok (.iadd, 1) := by decide +kernel
theorem dX10_book_102 : decode cX10_book 102 = .ok (.iload_n 3, 1) := by decide +kernel
theorem dX10_book_103 : decode cX10_book 103 = .ok (.ifCond .eq 7, 3) := by decide +kernel
theorem dX10_book_106 : decode cX10_book 106 = .ok (.iconst 1, 1) := by decide +kernel
theorem dX10_book_107 : decode cX10_book 107 = .ok (.goto 4, 3) := by decide +kernel
theorem dX10_book_110 : decode cX10_book 110 = .ok (.iconst 0, 1) := by decide +kernel
theorem dX10_book_111 : decode cX10_book 111 = .ok (.iastore, 1) := by decide +kernel
theorem dX10_book_112 : decode cX10_book 112 = .ok (.aload_n 0, 1) := by decide +kernel
theorem dX10_book_113 : decode cX10_book 113 = .ok (.getfield 9, 3) := by decide +kernel
theorem dX10_book_116 : decode cX10_book 116 = .ok (.bipush 8, 2) := by decide +kernel
theorem dX10_book_118 : decode cX10_book 118 = .ok (.dup2, 1) := by decide +kernel
theorem dX10_book_119 : decode cX10_book 119 = .ok (.iaload, 1) := by decide +kernel
theorem dX10_book_120 : decode cX10_book 120 = .ok (.iconst 1, 1) := by decide +kernel
theorem dX10_book_121 : decode cX10_book 121 = .ok (.iadd, 1) := by decide +kernel
theorem dX10_book_122 : decode cX10_book 122 = .ok (.iastore, 1) := by decide +kernel
theorem dX10_book_123 : decode cX10_book 123 = .ok (.aload_n 0, 1) := by decide +kernel
theorem dX10_book_124 : decode cX10_book 124 = .ok (.getfield 9, 3) := by decide +kernel
theorem dX10_book_127 : decode cX10_book 127 = .ok (.bipush 8, 2) := by decide +kernel
theorem dX10_book_129 : decode cX10_book 129 = .ok (.iaload, 1) := by decide +kernel
theorem dX10_book_130 : decode cX10_book 130 = .ok (.ireturn, 1) := by decide +kernel
set_option maxRecDepth 20000 in
theorem r_X10_book : m_Right (yX10_book, cX10_book, 4, (some .int)) q_X10_book := m_right_nd (m_right_nd (m_right_nd (m_right_nd (m_right_nd (m_right_nd (m_right_lf ⟨1, dX10_book_0, rfl, rfl, rfl⟩) (m_right_lf ⟨1, dX10_book_1, rfl, rfl, by decide +kernel⟩)) (m_right_nd (m_right_lf ⟨3, dX10_book_2, rfl, rfl, 15, rfl, by decide⟩) (m_right_nd (m_right_lf ⟨1, dX10_book_5, rfl, rfl, rfl⟩) (m_right_lf ⟨3, dX10_book_6, rfl, rfl, 10, 1, rfl, Or.inl ⟨(RX10, TX10, 24), rfl, by decide, wd_867⟩⟩)))) (m_right_nd (m_right_nd (m_right_lf ⟨2, dX10_book_9, rfl, rfl, by decide +kernel⟩) (m_right_lf ⟨1, dX10_book_11, rfl, rfl, by decide +kernel⟩)) (m_right_nd (m_right_lf ⟨1, dX10_book_12, rfl, rfl⟩) (m_right_nd (m_right_lf ⟨1, dX10_book_13, rfl, rfl, by decide +kernel⟩) (m_right_lf ⟨1, dX10_book_14, rfl, 0, .int, rfl, rfl, Or.inl ⟨rfl, rfl⟩⟩))))) (m_right_nd (m_right_nd (m_right_nd (m_right_lf ⟨1, dX10_book_15, rfl, rfl, rfl⟩) (m_right_lf ⟨1, dX10_book_16, rfl, rfl, rfl⟩)) (m_right_nd (m_right_lf ⟨3, dX10_book_17, rfl, rfl, 119, 1, 10, (yX10_isPlayer, cX10_isPlayer, 2, (some .boolean)), rfl, me_X10_isPlayer, mc_X10_isPlayer, Or.inl ⟨(RX10, TX10, 24), rfl, rfl⟩, wd_1065, wd_1067, wd_31, wd_71⟩) (m_right_nd (m_right_lf ⟨3, dX10_book_20, rfl, rfl, 31, rfl, by decide⟩) (m_right_lf ⟨1, dX10_book_23, rfl, rfl, rfl⟩)))) (m_right_nd (m_right_nd (m_right_lf ⟨1, dX10_book_24, rfl, rfl, rfl⟩) (m_right_lf ⟨3, dX10_book_25, rfl, rfl, 119, 1, 10, (yX10_isPlayer, cX10_isPlayer, 2, (some .boolean)), rfl, me_X10_isPlayer, mc_X10_isPlayer, Or.inl ⟨(RX10, TX10, 24), rfl, rfl⟩, wd_1065, wd_1067, wd_31, wd_71⟩)) (m_right_nd (m_right_lf ⟨3, dX10_book_28, rfl, rfl, 33, rfl, by decide⟩) (m_right_nd (m_right_lf ⟨1, dX10_book_31, rfl, rfl, by decide +kernel⟩) (m_right_lf ⟨1, dX10_book_32, rfl, 0, .int, rfl, rfl, Or.inl ⟨rfl, rfl⟩⟩)))))) (m_right_nd (m_right_nd (m_right_nd (m_right_nd (m_right_lf ⟨1, dX10_book_33, rfl, rfl, rfl⟩) (m_right_lf ⟨1, dX10_book_34, rfl, rfl, rfl⟩)) (m_right_nd (m_right_lf ⟨3, dX10_book_35, rfl, rfl, 41, rfl, by decide⟩) (m_right_nd (m_right_lf ⟨2, dX10_book_38, rfl, rfl, by decide +kernel⟩) (m_right_lf ⟨1, dX10_book_40, rfl, 0, .int, rfl, rfl, Or.inl ⟨rfl, rfl⟩⟩)))) (m_right_nd (m_right_nd (m_right_lf ⟨1, dX10_book_41, rfl, rfl, rfl⟩) (m_right_lf ⟨3, dX10_book_42, rfl, rfl, 10, 1, rfl, Or.inl ⟨(RX10, TX10, 24), rfl, by decide, wd_867⟩⟩)) (m_right_nd (m_right_lf ⟨2, dX10_book_45, rfl, rfl, by decide +kernel⟩) (m_right_nd (m_right_lf ⟨1, dX10_book_47, rfl, rfl⟩) (m_right_lf ⟨2, dX10_book_48, rfl, rfl, by decide +kernel⟩))))) (m_right_nd (m_right_nd (m_right_nd (m_right_lf ⟨3, dX10_book_50, rfl, rfl, 56, rfl, by decide⟩) (m_right_lf ⟨2, dX10_book_53, rfl, rfl, by decide +kernel⟩)) (m_right_nd (m_right_lf ⟨1, dX10_book_55, rfl, 0, .int, rfl, rfl, Or.inl ⟨rfl, rfl⟩⟩) (m_right_nd (m_right_lf ⟨1, dX10_book_56, rfl, rfl, rfl⟩) (m_right_lf ⟨3, dX10_book_57, rfl, rfl, 10, 1, rfl, Or.inl ⟨(RX10, TX10, 24), rfl, by decide, wd_867⟩⟩)))) (m_right_nd (m_right_nd (m_right_lf ⟨2, dX10_book_60, rfl, rfl, by decide +kernel⟩) (m_right_lf ⟨1, dX10_book_62, rfl, rfl, rfl⟩)) (m_right_nd (m_right_lf ⟨3, dX10_book_63, rfl, rfl, 10, 1, rfl, Or.inl ⟨(RX10, TX10, 24), rfl, by decide, wd_867⟩⟩) (m_right_nd (m_right_lf ⟨2, dX10_book_66, rfl, rfl, by decide +kernel⟩) (m_right_lf ⟨1, dX10_book_68, rfl, rfl⟩))))))) (m_right_nd (m_right_nd (m_right_nd (m_right_nd (m_right_nd (m_right_lf ⟨1, dX10_book_69, rfl, rfl⟩) (m_right_lf ⟨1, dX10_book_70, rfl, rfl, rfl⟩)) (m_right_nd (m_right_lf ⟨1, dX10_book_71, rfl, rfl⟩) (m_right_nd (m_right_lf ⟨1, dX10_book_72, rfl, rfl, rfl⟩) (m_right_lf ⟨3, dX10_book_73, rfl, rfl, 10, 1, rfl, Or.inl ⟨(RX10, TX10, 24), rfl, by decide, wd_867⟩⟩)))) (m_right_nd (m_right_nd (m_right_lf ⟨2, dX10_book_76, rfl, rfl, by decide +kernel⟩) (m_right_lf ⟨1, dX10_book_78, rfl, rfl, rfl⟩)) (m_right_nd (m_right_lf ⟨3, dX10_book_79, rfl, rfl, 10, 1, rfl, Or.inl ⟨(RX10, TX10, 24), rfl, by decide, wd_867⟩⟩) (m_right_nd (m_right_lf ⟨2, dX10_book_82, rfl, rfl, by decide +kernel⟩) (m_right_lf ⟨1, dX10_book_84, rfl, rfl⟩))))) (m_right_nd (m_right_nd (m_right_nd (m_right_lf ⟨1, dX10_book_85, rfl, rfl⟩) (m_right_lf ⟨1, dX10_book_86, rfl, rfl, rfl⟩)) (m_right_nd (m_right_lf ⟨1, dX10_book_87, rfl, rfl⟩) (m_right_nd (m_right_lf ⟨1, dX10_book_88, rfl, rfl, rfl⟩) (m_right_lf ⟨3, dX10_book_89, rfl, rfl, 10, 1, rfl, Or.inl ⟨(RX10, TX10, 24), rfl, by decide, wd_867⟩⟩)))) (m_right_nd (m_right_nd (m_right_lf ⟨2, dX10_book_92, rfl, rfl, by decide +kernel⟩) (m_right_lf ⟨1, dX10_book_94, rfl, rfl, rfl⟩)) (m_right_nd (m_right_lf ⟨3, dX10_book_95, rfl, rfl, 10, 1, rfl, Or.inl ⟨(RX10, TX10, 24), rfl, by decide, wd_867⟩⟩) (m_right_nd (m_right_lf ⟨2, dX10_book_98, rfl, rfl, by decide +kernel⟩) (m_right_lf ⟨1, dX10_book_100, rfl, rfl⟩)))))) (m_right_nd (m_right_nd (m_right_nd (m_right_nd (m_right_lf ⟨1, dX10_book_101, rfl, rfl⟩) (m_right_lf ⟨1, dX10_book_102, rfl, rfl, rfl⟩)) (m_right_nd (m_right_lf ⟨3, dX10_book_103, rfl, rfl, 110, rfl, by decide⟩) (m_right_nd (m_right_lf ⟨1, dX10_book_106, rfl, rfl, by decide +kernel⟩) (m_right_lf ⟨3, dX10_book_107, rfl, 111, rfl, by decide⟩)))) (m_right_nd (m_right_nd (m_right_lf ⟨1, dX10_book_110, rfl, rfl, by decide +kernel⟩) (m_right_lf ⟨1, dX10_book_111, rfl, rfl⟩)) (m_right_nd (m_right_lf ⟨1, dX10_book_112, rfl, rfl, rfl⟩) (m_right_nd (m_right_lf ⟨3, dX10_book_113, rfl, rfl, 10, 1, rfl, Or.inl ⟨(RX10, TX10, 24), rfl, by decide, wd_867⟩⟩) (m_right_lf ⟨2, dX10_book_116, rfl, rfl, by decide +kernel⟩))))) (m_right_nd (m_right_nd (m_right_nd (m_right_lf ⟨1, dX10_book_118, rfl, rfl⟩) (m_right_lf ⟨1, dX10_book_119, rfl, rfl⟩)) (m_right_nd (m_right_lf ⟨1, dX10_book_120, rfl, rfl, by decide +kernel⟩) (m_right_nd (m_right_lf ⟨1, dX10_book_121, rfl, rfl⟩) (m_right_lf ⟨1, dX10_book_122, rfl, rfl⟩)))) (m_right_nd (m_right_nd (m_right_lf ⟨1, dX10_book_123, rfl, rfl, rfl⟩) (m_right_lf ⟨3, dX10_book_124, rfl, rfl, 10, 1, rfl, Or.inl ⟨(RX10, TX10, 24), rfl, by decide, wd_867⟩⟩)) (m_right_nd (m_right_lf ⟨2, dX10_book_127, rfl, rfl, by decide +kernel⟩) (m_right_nd (m_right_lf ⟨1, dX10_book_129, rfl, rfl⟩) (m_right_lf ⟨1, dX10_book_130, rfl, 0, .int, rfl, rfl, Or.inl ⟨rfl, rfl⟩⟩)))))))
theorem dX10_booksGame_0 : decode cX10_booksGame 0 = .ok (.aload_n 0, 1) := by decide +kernel
theorem dX10_booksGame_1 : decode cX10_booksGame 1 = .ok (.getfield 9, 3) := by decide +kernel
theorem dX10_booksGame_4 : decode cX10_booksGame 4 = .ok (.bipush 42, 2) := by decide +kernel
theorem dX10_booksGame_6 : decode cX10_booksGame 6 = .ok (.iload_n 1, 1) := by decide +kernel
theorem dX10_booksGame_7 : decode cX10_booksGame 7 = .ok (.iadd, 1) := by decide +kernel
theorem dX10_booksGame_8 : decode cX10_booksGame 8 = .ok (.iaload, 1) := by decide +kernel
theorem dX10_booksGame_9 : decode cX10_booksGame 9 = .ok (.istore_n 2, 1) := by decide +kernel
theorem dX10_booksGame_10 : decode cX10_booksGame 10 = .ok (.aload_n 0, 1) := by decide +kernel
theorem dX10_booksGame_11 : decode cX10_booksGame 11 = .ok (.getfield 9, 3) := by decide +kernel
theorem dX10_booksGame_14 : decode cX10_booksGame 14 = .ok (.bipush 50, 2) := by decide +kernel
theorem dX10_booksGame_16 : decode cX10_booksGame 16 = .ok (.iload_n 1, 1) := by decide +kernel
theorem dX10_booksGame_17 : decode cX10_booksGame 17 = .ok (.iadd, 1) := by decide +kernel
theorem dX10_booksGame_18 : decode cX10_booksGame 18 = .ok (.iaload, 1) := by decide +kernel
theorem dX10_booksGame_19 : decode cX10_booksGame 19 = .ok (.istore_n 3, 1) := by decide +kernel
theorem dX10_booksGame_20 : decode cX10_booksGame 20 = .ok (.aload_n 0, 1) := by decide +kernel
theorem dX10_booksGame_21 : decode cX10_booksGame 21 = .ok (.getfield 9, 3) := by decide +kernel
theorem dX10_booksGame_24 : decode cX10_booksGame 24 = .ok (.bipush 58, 2) := by decide +kernel
theorem dX10_booksGame_26 : decode cX10_booksGame 26 = .ok (.iload_n 1, 1) := by decide +kernel
theorem dX10_booksGame_27 : decode cX10_booksGame 27 = .ok (.iadd, 1) := by decide +kernel
theorem dX10_booksGame_28 : decode cX10_booksGame 28 = .ok (.iaload, 1) := by decide +kernel
theorem dX10_booksGame_29 : decode cX10_booksGame 29 = .ok (.iconst 1, 1) := by decide +kernel
theorem dX10_booksGame_30 : decode cX10_booksGame 30 = .ok (.if_icmp .ne 7, 3) := by decide +kernel
theorem dX10_booksGame_33 : decode cX10_booksGame 33 = .ok (.iconst 1, 1) := by decide +kernel
theorem dX10_booksGame_34 : decode cX10_booksGame 34 = .ok (.goto 4, 3) := by decide +kernel
theorem dX10_booksGame_37 : decode cX10_booksGame 37 = .ok (.iconst 0, 1) := by decide +kernel
theorem dX10_booksGame_38 : decode cX10_booksGame 38 = .ok (.istore 4, 2) := by decide +kernel
theorem dX10_booksGame_40 : decode cX10_booksGame 40 = .ok (.aload_n 0, 1) := by decide +kernel
theorem dX10_booksGame_41 : decode cX10_booksGame 41 = .ok (.iload 4, 2) := by decide +kernel
theorem dX10_booksGame_43 : decode cX10_booksGame 43 = .ok (.ifCond .eq 7, 3) := by decide +kernel
theorem dX10_booksGame_46 : decode cX10_booksGame 46 = .ok (.iload_n 2, 1) := by decide +kernel
theorem dX10_booksGame_47 : decode cX10_booksGame 47 = .ok (.goto 4, 3) := by decide +kernel
theorem dX10_booksGame_50 : decode cX10_booksGame 50 = .ok (.iload_n 3, 1) := by decide +kernel
theorem dX10_booksGame_51 : decode cX10_booksGame 51 = .ok (.iload 4, 2) := by decide +kernel
theorem dX10_booksGame_53 : decode cX10_booksGame 53 = .ok (.ifCond .eq 7, 3) := by decide +kernel
theorem dX10_booksGame_56 : decode cX10_booksGame 56 = .ok (.iload_n 3, 1) := by decide +kernel
theorem dX10_booksGame_57 : decode cX10_booksGame 57 = .ok (.goto 4, 3) := by decide +kernel
theorem dX10_booksGame_60 : decode cX10_booksGame 60 = .ok (.iload_n 2, 1) := by decide +kernel
theorem dX10_booksGame_61 : decode cX10_booksGame 61 = .ok (.invokevirtual 157, 3) := by decide +kernel
theorem dX10_booksGame_64 : decode cX10_booksGame 64 = .ok (.return_, 1) := by decide +kernel
set_option maxRecDepth 20000 in
theorem r_X10_booksGame : m_Right (yX10_booksGame, cX10_booksGame, 5, none) q_X10_booksGame := m_right_nd (m_right_nd (m_right_nd (m_right_nd (m_right_nd (m_right_lf ⟨1, dX10_booksGame_0, rfl, rfl, rfl⟩) (m_right_lf ⟨3, dX10_booksGame_1, rfl, rfl, 10, 1, rfl, Or.inl ⟨(RX10, TX10, 24), rfl, by decide, wd_867⟩⟩)) (m_right_nd (m_right_lf ⟨2, dX10_booksGame_4, rfl, rfl, by decide +kernel⟩) (m_right_lf ⟨1, dX10_booksGame_6, rfl, rfl, rfl⟩))) (m_right_nd (m_right_nd (m_right_lf ⟨1, dX10_booksGame_7, rfl, rfl⟩) (m_right_lf ⟨1, dX10_booksGame_8, rfl, rfl⟩)) (m_right_nd (m_right_lf ⟨1, dX10_booksGame_9, rfl, rfl, rfl⟩) (m_right_nd (m_right_lf ⟨1, dX10_booksGame_10, rfl, rfl, rfl⟩) (m_right_lf ⟨3, dX10_booksGame_11, rfl, rfl, 10, 1, rfl, Or.inl ⟨(RX10, TX10, 24), rfl, by decide, wd_867⟩⟩))))) (m_right_nd (m_right_nd (m_right_nd (m_right_lf ⟨2, dX10_booksGame_14, rfl, rfl, by decide +kernel⟩) (m_right_lf ⟨1, dX10_booksGame_16, rfl, rfl, rfl⟩)) (m_right_nd (m_right_lf ⟨1, dX10_booksGame_17, rfl, rfl⟩) (m_right_nd (m_right_lf ⟨1, dX10_booksGame_18, rfl, rfl⟩) (m_right_lf ⟨1, dX10_booksGame_19, rfl, rfl, rfl⟩)))) (m_right_nd (m_right_nd (m_right_lf ⟨1, dX10_booksGame_20, rfl, rfl, rfl⟩) (m_right_lf ⟨3, dX10_booksGame_21, rfl, rfl, 10, 1, rfl, Or.inl ⟨(RX10, TX10, 24), rfl, by decide, wd_867⟩⟩)) (m_right_nd (m_right_lf ⟨2, dX10_booksGame_24, rfl, rfl, by decide +kernel⟩) (m_right_nd (m_right_lf ⟨1, dX10_booksGame_26, rfl, rfl, rfl⟩) (m_right_lf ⟨1, dX10_booksGame_27, rfl, rfl⟩)))))) (m_right_nd (m_right_nd (m_right_nd (m_right_nd (m_right_lf ⟨1, dX10_booksGame_28, rfl, rfl⟩) (m_right_lf ⟨1, dX10_booksGame_29, rfl, rfl, by decide +kernel⟩)) (m_right_nd (m_right_lf ⟨3, dX10_booksGame_30, rfl, rfl, 37, rfl, by decide⟩) (m_right_nd (m_right_lf ⟨1, dX10_booksGame_33, rfl, rfl, by decide +kernel⟩) (m_right_lf ⟨3, dX10_booksGame_34, rfl, 38, rfl, by decide⟩)))) (m_right_nd (m_right_nd (m_right_lf ⟨1, dX10_booksGame_37, rfl, rfl, by decide +kernel⟩) (m_right_lf ⟨2, dX10_booksGame_38, rfl, rfl, rfl⟩)) (m_right_nd (m_right_lf ⟨1, dX10_booksGame_40, rfl, rfl, rfl⟩) (m_right_nd (m_right_lf ⟨2, dX10_booksGame_41, rfl, rfl, rfl⟩) (m_right_lf ⟨3, dX10_booksGame_43, rfl, rfl, 50, rfl, by decide⟩))))) (m_right_nd (m_right_nd (m_right_nd (m_right_lf ⟨1, dX10_booksGame_46, rfl, rfl, rfl⟩) (m_right_lf ⟨3, dX10_booksGame_47, rfl, 51, rfl, by decide⟩)) (m_right_nd (m_right_lf ⟨1, dX10_booksGame_50, rfl, rfl, rfl⟩) (m_right_nd (m_right_lf ⟨2, dX10_booksGame_51, rfl, rfl, rfl⟩) (m_right_lf ⟨3, dX10_booksGame_53, rfl, rfl, 60, rfl, by decide⟩)))) (m_right_nd (m_right_nd (m_right_lf ⟨1, dX10_booksGame_56, rfl, rfl, rfl⟩) (m_right_lf ⟨3, dX10_booksGame_57, rfl, 61, rfl, by decide⟩)) (m_right_nd (m_right_lf ⟨1, dX10_booksGame_60, rfl, rfl, rfl⟩) (m_right_nd (m_right_lf ⟨3, dX10_booksGame_61, rfl, rfl, 151, 2, 10, (yX10_plays, cX10_plays, 3, none), rfl, me_X10_plays, mc_X10_plays, Or.inl ⟨(RX10, TX10, 24), rfl, rfl⟩, wd_1109, wd_1111, wd_36, wd_71⟩) (m_right_lf ⟨1, dX10_booksGame_64, rfl, rfl⟩))))))
theorem dX10_likely_0 : decode cX10_likely 0 = .ok (.aload_n 0, 1) := by decide +kernel
theorem dX10_likely_1 : decode cX10_likely 1 = .ok (.iload_n 1, 1) := by decide +kernel
theorem dX10_likely_2 : decode cX10_likely 2 = .ok (.invokevirtual 52, 3) := by decide +kernel
theorem dX10_likely_5 : decode cX10_likely 5 = .ok (.ifCond .ne 5, 3) := by decide +kernel
theorem dX10_likely_8 : decode cX10_likely 8 = .ok (.iconst (-1), 1) := by decide +kernel
theorem dX10_likely_9 : decode cX10_likely 9 = .ok (.ireturn, 1) := by decide +kernel
theorem dX10_likely_10 : decode cX10_likely 10 = .ok (.aload_n 0, 1) := by decide +kernel
theorem dX10_likely_11 : decode cX10_likely 11 = .ok (.getfield 9, 3) := by decide +kernel
theorem dX10_likely_14 : decode cX10_likely 14 = .ok (.bipush 17, 2) := by decide +kernel
theorem dX10_likely_16 : decode cX10_likely 16 = .ok (.iload_n 1, 1) := by decide +kernel
theorem dX10_likely_17 : decode cX10_likely 17 = .ok (.iadd, 1) := by decide +kernel
theorem dX10_likely_18 : decode cX10_likely 18 = .ok (.iaload, 1) := by decide +kernel
theorem dX10_likely_19 : decode cX10_likely 19 = .ok (.istore_n 2, 1) := by decide +kernel
theorem dX10_likely_20 : decode cX10_likely 20 = .ok (.iconst 0, 1) := by decide +kernel
theorem dX10_likely_21 : decode cX10_likely 21 = .ok (.istore_n 3, 1) := by decide +kernel
theorem dX10_likely_22 : decode cX10_likely 22 = .ok (.ldc2_w 219, 3) := by decide +kernel
theorem dX10_likely_25 : decode cX10_likely 25 = .ok (.lstore 4, 2) := by decide +kernel
theorem dX10_likely_27 : decode cX10_likely 27 = .ok (.iconst 0, 1) := by decide +kernel
theorem dX10_likely_28 : decode cX10_likely 28 = .ok (.istore 6, 2) := by decide +kernel
theorem dX10_likely_30 : decode cX10_likely 30 = .ok (.iload 6, 2) := by decide +kernel
theorem dX10_likely_32 : decode cX10_likely 32 = .ok (.bipush 10, 2) := by decide +kernel
theorem dX10_likely_34 : decode cX10_likely 34 = .ok (.if_icmp .ge 147, 3) := by decide +kernel
theorem dX10_likely_37 : decode cX10_likely 37 = .ok (.aload_n 0, 1) := by decide +kernel
theorem dX10_likely_38 : decode cX10_likely 38 = .ok (.getfield 9, 3) := by decide +kernel
theorem dX10_likely_41 : decode cX10_likely 41 = .ok (.bipush 17, 2) := by decide +kernel
theorem dX10_likely_43 : decode cX10_likely 43 = .ok (.iload_n 1, 1) := by decide +kernel
theorem dX10_likely_44 : decode cX10_likely 44 = .ok (.iadd, 1) := by decide +kernel
theorem dX10_likely_45 : decode cX10_likely 45 = .ok (.iload 6, 2) := by decide +kernel
theorem dX10_likely_47 : decode cX10_likely 47 = .ok (.iastore, 1) := by decide +kernel
theorem dX10_likely_48 : decode cX10_likely 48 = .ok (.aload_n 0, 1) := by decide +kernel
theorem dX10_likely_49 : decode cX10_likely 49 = .ok (.invokevirtual 167, 3) := by decide +kernel
theorem dX10_likely_52 : decode cX10_likely 52 = .ok (.lconst 1, 1) := by decide +kernel
theorem dX10_likely_53 : decode cX10_likely 53 = .ok (.lstore 7, 2) := by decide +kernel
theorem dX10_likely_55 : decode cX10_likely 55 = .ok (.iconst 0, 1) := by decide +kernel
theorem dX10_likely_56 : decode cX10_likely 56 = .ok (.istore 9, 2) := by decide +kernel
theorem dX10_likely_58 : decode cX10_likely 58 = .ok (.iload 9, 2) := by decide +kernel
theorem dX10_likely_60 : decode cX10_likely 60 = .ok (.aload_n 0, 1) := by decide +kernel
theorem dX10_likely_61 : decode cX10_likely 61 = .ok (.getfield 9, 3) := by decide +kernel
theorem dX10_likely_64 : decode cX10_likely 64 = .ok (.bipush 8, 2) := by decide +kernel
theorem dX10_likely_66 : decode cX10_likely 66 = .ok (.iaload, 1) := by decide +kernel
theorem dX10_likely_67 : decode cX10_likely 67 = .ok (.if_icmp .ge 72, 3) := by decide +kernel
theorem dX10_likely_70 : decode cX10_likely 70 = .ok (.aload_n 0, 1) := by decide +kernel
theorem dX10_likely_71 : decode cX10_likely 71 = .ok (.aload_n 0, 1) := by decide +kernel
theorem dX10_likely_72 : decode cX10_likely 72 = .ok (.getfield 9, 3) := by decide +kernel
theorem dX10_likely_75 : decode cX10_likely 75 = .ok (.bipush 42, 2) := by decide +kernel
theorem dX10_likely_77 : decode cX10_likely 77 = .ok (.iload 9, 2) := by decide +kernel
theorem dX10_likely_79 : decode cX10_likely 79 = .ok (.iadd, 1) := by decide +kernel
theorem dX10_likely_80 : decode cX10_likely 80 = .ok (.iaload, 1) := by decide +kernel
theorem dX10_likely_81 : decode cX10_likely 81 = .ok (.aload_n 0, 1) := by decide +kernel
theorem dX10_likely_82 : decode cX10_likely 82 = .ok (.getfield 9, 3) := by decide +kernel
theorem dX10_likely_85 : decode cX10_likely 85 = .ok (.bipush 50, 2) := by decide +kernel
theorem dX10_likely_87 : decode cX10_likely 87 = .ok (.iload 9, 2) := by decide +kernel
theorem dX10_likely_89 : decode cX10_likely 89 = .ok (.iadd, 1) := by decide +kernel
theorem dX10_likely_90 : decode cX10_likely 90 = .ok (.iaload, 1) := by decide +kernel
theorem dX10_likely_91 : decode cX10_likely 91 = .ok (.invokevirtual 148, 3) := by decide +kernel
theorem dX10_likely_94 : decode cX10_likely 94 = .ok (.istore 10, 2) := by decide +kernel
theorem dX10_likely_96 : decode cX10_likely 96 = .ok (.lload 7, 2) := by decide +kernel
theorem dX10_likely_98 : decode cX10_likely 98 = .ok (.aload_n 0, 1) := by decide +kernel
theorem dX10_likely_99 : decode cX10_likely 99 = .ok (.getfield 9, 3) := by decide +kernel
theorem dX10_likely_102 : decode cX10_likely 102 = .ok (.bipush 58, 2) := by decide +kernel
theorem dX10_likely_104 : decode cX10_likely 104 = .ok (.iload 9, 2) := by decide +kernel
theorem dX10_likely_106 : decode cX10_likely 106 = .ok (.iadd, 1) := by decide +kernel
theorem dX10_likely_107 : decode cX10_likely 107 = .ok (.iaload, 1) := by decide +kernel
theorem dX10_likely_108 : decode cX10_likely 108 = .ok (.iconst 1, 1) := by decide +kernel
theorem dX10_likely_109 : decode cX10_likely 109 = .ok (.if_icmp .ne 9, 3) := by decide +kernel
theorem dX10_likely_112 : decode cX10_likely 112 = .ok (.iload 10, 2) := by decide +kernel
theorem dX10_likely_114 : decode cX10_likely 114 = .ok (.i2l, 1) := by decide +kernel
theorem dX10_likely_115 : decode cX10_likely 115 = .ok (.goto 9, 3) := by decide +kernel
theorem dX10_likely_118 : decode cX10_likely 118 = .ok (.bipush 10, 2) := by decide +kernel
theorem dX10_likely_120 : decode cX10_likely 120 = .ok (.iload 10, 2) := by decide +kernel
theorem dX10_likely_122 : decode cX10_likely 122 = .ok (.isub, 1) := by decide +kernel
theorem dX10_likely_123 : decode cX10_likely 123 = .ok (.i2l, 1) := by decide +kernel
theorem dX10_likely_124 : decode cX10_likely 124 = .ok (.lmul, 1) := by decide +kernel
theorem dX10_likely_125 : decode cX10_likely 125 = .ok (.lstore 7, 2) := by decide +kernel
theorem dX10_likely_127 : decode cX10_likely 127 = .ok (.aload_n 0, 1) := by decide +kernel
theorem dX10_likely_128 : decode cX10_likely 128 = .ok (.iload 9, 2) := by decide +kernel
theorem dX10_likely_130 : decode cX10_likely 130 = .ok (.invokevirtual 234, 3) := by decide +kernel
theorem dX10_likely_133 : decode cX10_likely 133 = .ok (.iinc 9 1, 3) := by decide +kernel
theorem dX10_likely_136 : decode cX10_likely 136 = .ok (.goto (-78), 3) := by decide +kernel
theorem dX10_likely_139 : decode cX10_likely 139 = .ok (.aload_n 0, 1) := by decide +kernel
theorem dX10_likely_140 : decode cX10_likely 140 = .ok (.invokevirtual 177, 3) := by decide +kernel
theorem dX10_likely_143 : decode cX10_likely 143 = .ok (.lload 7, 2) := by decide +kernel
theorem dX10_likely_145 : decode cX10_likely 145 = .ok (.lload 4, 2) := by decide +kernel
theorem dX10_likely_147 : decode cX10_likely 147 = .ok (.lcmp, 1) := by decide +kernel
theorem dX10_likely_148 : decode cX10_likely 148 = .ok (.ifCond .le 8, 3) := by decide +kernel
theorem dX10_likely_151 : decode cX10_likely 151 = .ok (.iload 6, 2) := by decide +kernel
theorem dX10_likely_153 : decode cX10_likely 153 = .ok (.goto 4, 3) := by decide +kernel
theorem dX10_likely_156 : decode cX10_likely 156 = .ok (.iload_n 3, 1) := by decide +kernel
theorem dX10_likely_157 : decode cX10_likely 157 = .ok (.istore_n 3, 1) := by decide +kernel
theorem dX10_likely_158 : decode cX10_likely 158 = .ok (.lload 7, 2) := by decide +kernel
theorem dX10_likely_160 : decode cX10_likely 160 = .ok (.lload 4, 2) := by decide +kernel
theorem dX10_likely_162 : decode cX10_likely 162 = .ok (.lcmp, 1) := by decide +kernel
theorem dX10_likely_163 : decode cX10_likely 163 = .ok (.ifCond .le 8, 3) := by decide +kernel
theorem dX10_likely_166 : decode cX10_likely 166 = .ok (.lload 7, 2) := by decide +kernel
theorem dX10_likely_168 : decode cX10_likely 168 = .ok (.goto 5, 3) := by decide +kernel
theorem dX10_likely_171 : decode cX10_likely 171 = .ok (.lload 4, 2) := by decide +kernel
theorem dX10_likely_173 : decode cX10_likely 173 = .ok (.lstore 4, 2) := by decide +kernel
theorem dX10_likely_175 : decode cX10_likely 175 = .ok (.iinc 6 1, 3) := by decide +kernel
theorem dX10_likely_178 : decode cX10_likely 178 = .ok (.goto (-148), 3) := by decide +kernel
theorem dX10_likely_181 : decode cX10_likely 181 = .ok (.aload_n 0, 1) := by decide +kernel
theorem dX10_likely_182 : decode cX10_likely 182 = .ok (.getfield 9, 3) := by decide +kernel
theorem dX10_likely_185 : decode cX10_likely 185 = .ok (.bipush 17, 2) := by decide +kernel
theorem dX10_likely_187 : decode cX10_likely 187 = .ok (.iload_n 1, 1) := by decide +kernel
theorem dX10_likely_188 : decode cX10_likely 188 = .ok (.iadd, 1) := by decide +kernel
theorem dX10_likely_189 : decode cX10_likely 189 = .ok (.iload_n 2, 1) := by decide +kernel
theorem dX10_likely_190 : decode cX10_likely 190 = .ok (.iastore, 1) := by decide +kernel
theorem dX10_likely_191 : decode cX10_likely 191 = .ok (.iload_n 3, 1) := by decide +kernel
theorem dX10_likely_192 : decode cX10_likely 192 = .ok (.ireturn, 1) := by decide +kernel
set_option maxRecDepth 20000 in
theorem r_X10_likely : m_Right (yX10_likely, cX10_likely, 11, (some .int)) q_X10_likely := m_right_nd (m_right_nd (m_right_nd (m_right_nd (m_right_nd (m_right_nd (m_right_lf ⟨1, dX10_likely_0, rfl, rfl, rfl⟩) (m_right_nd (m_right_lf ⟨1, dX10_likely_1, rfl, rfl, rfl⟩) (m_right_lf ⟨3, dX10_likely_2, rfl, rfl, 119, 1, 10, (yX10_isPlayer, cX10_isPlayer, 2, (some .boolean)), rfl, me_X10_isPlayer, mc_X10_isPlayer, Or.inl ⟨(RX10, TX10, 24), rfl, rfl⟩, wd_1065, wd_1067, wd_31, wd_71⟩))) (m_right_nd (m_right_lf ⟨3, dX10_likely_5, rfl, rfl, 10, rfl, by decide⟩) (m_right_nd (m_right_lf ⟨1, dX10_likely_8, rfl, rfl, by decide +kernel⟩) (m_right_lf ⟨1, dX10_likely_9, rfl, 0, .int, rfl, rfl, Or.inl ⟨rfl, rfl⟩⟩)))) (m_right_nd (m_right_nd (m_right_lf ⟨1, dX10_likely_10, rfl, rfl, rfl⟩) (m_right_nd (m_right_lf ⟨3, dX10_likely_11, rfl, rfl, 10, 1, rfl, Or.inl ⟨(RX10, TX10, 24), rfl, by decide, wd_867⟩⟩) (m_right_lf ⟨2, dX10_likely_14, rfl, rfl, by decide +kernel⟩))) (m_right_nd (m_right_nd (m_right_lf ⟨1, dX10_likely_16, rfl, rfl, rfl⟩) (m_right_lf ⟨1, dX10_likely_17, rfl, rfl⟩)) (m_right_nd (m_right_lf ⟨1, dX10_likely_18, rfl, rfl⟩) (m_right_lf ⟨1, dX10_likely_19, rfl, rfl, rfl⟩))))) (m_right_nd (m_right_nd (m_right_nd (m_right_lf ⟨1, dX10_likely_20, rfl, rfl, by decide +kernel⟩) (m_right_nd (m_right_lf ⟨1, dX10_likely_21, rfl, rfl, rfl⟩) (m_right_lf ⟨3, dX10_likely_22, rfl, rfl, _, rfl, wd_1205⟩))) (m_right_nd (m_right_nd (m_right_lf ⟨2, dX10_likely_25, rfl, rfl, rfl⟩) (m_right_lf ⟨1, dX10_likely_27, rfl, rfl, by decide +kernel⟩)) (m_right_nd (m_right_lf ⟨2, dX10_likely_28, rfl, rfl, rfl⟩) (m_right_lf ⟨2, dX10_likely_30, rfl, rfl, rfl⟩)))) (m_right_nd (m_right_nd (m_right_lf ⟨2, dX10_likely_32, rfl, rfl, by decide +kernel⟩) (m_right_nd (m_right_lf ⟨3, dX10_likely_34, rfl, rfl, 181, rfl, by decide⟩) (m_right_lf ⟨1, dX10_likely_37, rfl, rfl, rfl⟩))) (m_right_nd (m_right_nd (m_right_lf ⟨3, dX10_likely_38, rfl, rfl, 10, 1, rfl, Or.inl ⟨(RX10, TX10, 24), rfl, by decide, wd_867⟩⟩) (m_right_lf ⟨2, dX10_likely_41, rfl, rfl, by decide +kernel⟩)) (m_right_nd (m_right_lf ⟨1, dX10_likely_43, rfl, rfl, rfl⟩) (m_right_lf ⟨1, dX10_likely_44, rfl, rfl⟩)))))) (m_right_nd (m_right_nd (m_right_nd (m_right_nd (m_right_lf ⟨2, dX10_likely_45, rfl, rfl, rfl⟩) (m_right_nd (m_right_lf ⟨1, dX10_likely_47, rfl, rfl⟩) (m_right_lf ⟨1, dX10_likely_48, rfl, rfl, rfl⟩))) (m_right_nd (m_right_lf ⟨3, dX10_likely_49, rfl, rfl, 121, 0, 10, (yX10_keeps, cX10_keeps, 2, none), rfl, me_X10_keeps, mc_X10_keeps, Or.inl ⟨(RX10, TX10, 24), rfl, rfl⟩, wd_1134, wd_1136, wd_41, wd_71⟩) (m_right_nd (m_right_lf ⟨1, dX10_likely_52, rfl, rfl, by decide +kernel⟩) (m_right_lf ⟨2, dX10_likely_53, rfl, rfl, rfl⟩)))) (m_right_nd (m_right_nd (m_right_lf ⟨1, dX10_likely_55, rfl, rfl, by decide +kernel⟩) (m_right_nd (m_right_lf ⟨2, dX10_likely_56, rfl, rfl, rfl⟩) (m_right_lf ⟨2, dX10_likely_58, rfl, rfl, rfl⟩))) (m_right_nd (m_right_nd (m_right_lf ⟨1, dX10_likely_60, rfl, rfl, rfl⟩) (m_right_lf ⟨3, dX10_likely_61, rfl, rfl, 10, 1, rfl, Or.inl ⟨(RX10, TX10, 24), rfl, by decide, wd_867⟩⟩)) (m_right_nd (m_right_lf ⟨2, dX10_likely_64, rfl, rfl, by decide +kernel⟩) (m_right_lf ⟨1, dX10_likely_66, rfl, rfl⟩))))) (m_right_nd (m_right_nd (m_right_nd (m_right_lf ⟨3, dX10_likely_67, rfl, rfl, 139, rfl, by decide⟩) (m_right_nd (m_right_lf ⟨1, dX10_likely_70, rfl, rfl, rfl⟩) (m_right_lf ⟨1, dX10_likely_71, rfl, rfl, rfl⟩))) (m_right_nd (m_right_nd (m_right_lf ⟨3, dX10_likely_72, rfl, rfl, 10, 1, rfl, Or.inl ⟨(RX10, TX10, 24), rfl, by decide, wd_867⟩⟩) (m_right_lf ⟨2, dX10_likely_75, rfl, rfl, by decide +kernel⟩)) (m_right_nd (m_right_lf ⟨2, dX10_likely_77, rfl, rfl, rfl⟩) (m_right_lf ⟨1, dX10_likely_79, rfl, rfl⟩)))) (m_right_nd (m_right_nd (m_right_lf ⟨1, dX10_likely_80, rfl, rfl⟩) (m_right_nd (m_right_lf ⟨1, dX10_likely_81, rfl, rfl, rfl⟩) (m_right_lf ⟨3, dX10_likely_82, rfl, rfl, 10, 1, rfl, Or.inl ⟨(RX10, TX10, 24), rfl, by decide, wd_867⟩⟩))) (m_right_nd (m_right_nd (m_right_lf ⟨2, dX10_likely_85, rfl, rfl, by decide +kernel⟩) (m_right_lf ⟨2, dX10_likely_87, rfl, rfl, rfl⟩)) (m_right_nd (m_right_lf ⟨1, dX10_likely_89, rfl, rfl⟩) (m_right_lf ⟨1, dX10_likely_90, rfl, rfl⟩))))))) (m_right_nd (m_right_nd (m_right_nd (m_right_nd (m_right_nd (m_right_lf ⟨3, dX10_likely_91, rfl, rfl, 146, 2, 10, (yX10_oddsOf, cX10_oddsOf, 4, (some .int)), rfl, me_X10_oddsOf, mc_X10_oddsOf, Or.inl ⟨(RX10, TX10, 24), rfl, rfl⟩, wd_1101, wd_1103, wd_35, wd_71⟩) (m_right_nd (m_right_lf ⟨2, dX10_likely_94, rfl, rfl, rfl⟩) (m_right_lf ⟨2, dX10_likely_96, rfl, rfl, rfl⟩))) (m_right_nd (m_right_lf ⟨1, dX10_likely_98, rfl, rfl, rfl⟩) (m_right_nd (m_right_lf ⟨3, dX10_likely_99, rfl, rfl, 10, 1, rfl, Or.inl ⟨(RX10, TX10, 24), rfl, by decide, wd_867⟩⟩) (m_right_lf ⟨2, dX10_likely_102, rfl, rfl, by decide +kernel⟩)))) (m_right_nd (m_right_nd (m_right_lf ⟨2, dX10_likely_104, rfl, rfl, rfl⟩) (m_right_nd (m_right_lf ⟨1, dX10_likely_106, rfl, rfl⟩) (m_right_lf ⟨1, dX10_likely_107, rfl, rfl⟩))) (m_right_nd (m_right_nd (m_right_lf ⟨1, dX10_likely_108, rfl, rfl, by decide +kernel⟩) (m_right_lf ⟨3, dX10_likely_109, rfl, rfl, 118, rfl, by decide⟩)) (m_right_nd (m_right_lf ⟨2, dX10_likely_112, rfl, rfl, rfl⟩) (m_right_lf ⟨1, dX10_likely_114, rfl, rfl⟩))))) (m_right_nd (m_right_nd (m_right_nd (m_right_lf ⟨3, dX10_likely_115, rfl, 124, rfl, by decide⟩) (m_right_nd (m_right_lf ⟨2, dX10_likely_118, rfl, rfl, by decide +kernel⟩) (m_right_lf ⟨2, dX10_likely_120, rfl, rfl, rfl⟩))) (m_right_nd (m_right_nd (m_right_lf ⟨1, dX10_likely_122, rfl, rfl⟩) (m_right_lf ⟨1, dX10_likely_123, rfl, rfl⟩)) (m_right_nd (m_right_lf ⟨1, dX10_likely_124, rfl, rfl⟩) (m_right_lf ⟨2, dX10_likely_125, rfl, rfl, rfl⟩)))) (m_right_nd (m_right_nd (m_right_lf ⟨1, dX10_likely_127, rfl, rfl, rfl⟩) (m_right_nd (m_right_lf ⟨2, dX10_likely_128, rfl, rfl, rfl⟩) (m_right_lf ⟨3, dX10_likely_130, rfl, rfl, 178, 1, 10, (yX10_booksGame, cX10_booksGame, 5, none), rfl, me_X10_booksGame, mc_X10_booksGame, Or.inl ⟨(RX10, TX10, 24), rfl, rfl⟩, wd_1238, wd_1240, wd_53, wd_71⟩))) (m_right_nd (m_right_nd (m_right_lf ⟨3, dX10_likely_133, rfl, rfl, rfl, by decide +kernel⟩) (m_right_lf ⟨3, dX10_likely_136, rfl, 58, rfl, by decide⟩)) (m_right_nd (m_right_lf ⟨1, dX10_likely_139, rfl, rfl, rfl⟩) (m_right_lf ⟨3, dX10_likely_140, rfl, rfl, 122, 0, 10, (yX10_goesBack, cX10_goesBack, 2, none), rfl, me_X10_goesBack, mc_X10_goesBack, Or.inl ⟨(RX10, TX10, 24), rfl, rfl⟩, wd_1147, wd_1149, wd_44, wd_71⟩)))))) (m_right_nd (m_right_nd (m_right_nd (m_right_nd (m_right_lf ⟨2, dX10_likely_143, rfl, rfl, rfl⟩) (m_right_nd (m_right_lf ⟨2, dX10_likely_145, rfl, rfl, rfl⟩) (m_right_lf ⟨1, dX10_likely_147, rfl, rfl⟩))) (m_right_nd (m_right_lf ⟨3, dX10_likely_148, rfl, rfl, 156, rfl, by decide⟩) (m_right_nd (m_right_lf ⟨2, dX10_likely_151, rfl, rfl, rfl⟩) (m_right_lf ⟨3, dX10_likely_153, rfl, 157, rfl, by decide⟩)))) (m_right_nd (m_right_nd (m_right_lf ⟨1, dX10_likely_156, rfl, rfl, rfl⟩) (m_right_nd (m_right_lf ⟨1, dX10_likely_157, rfl, rfl, rfl⟩) (m_right_lf ⟨2, dX10_likely_158, rfl, rfl, rfl⟩))) (m_right_nd (m_right_nd (m_right_lf ⟨2, dX10_likely_160, rfl, rfl, rfl⟩) (m_right_lf ⟨1, dX10_likely_162, rfl, rfl⟩)) (m_right_nd (m_right_lf ⟨3, dX10_likely_163, rfl, rfl, 171, rfl, by decide⟩) (m_right_lf ⟨2, dX10_likely_166, rfl, rfl, rfl⟩))))) (m_right_nd (m_right_nd (m_right_nd (m_right_lf ⟨3, dX10_likely_168, rfl, 173, rfl, by decide⟩) (m_right_nd (m_right_lf ⟨2, dX10_likely_171, rfl, rfl, rfl⟩) (m_right_lf ⟨2, dX10_likely_173, rfl, rfl, rfl⟩))) (m_right_nd (m_right_nd (m_right_lf ⟨3, dX10_likely_175, rfl, rfl, rfl, by decide +kernel⟩) (m_right_lf ⟨3, dX10_likely_178, rfl, 30, rfl, by decide⟩)) (m_right_nd (m_right_lf ⟨1, dX10_likely_181, rfl, rfl, rfl⟩) (m_right_lf ⟨3, dX10_likely_182, rfl, rfl, 10, 1, rfl, Or.inl ⟨(RX10, TX10, 24), rfl, by decide, wd_867⟩⟩)))) (m_right_nd (m_right_nd (m_right_lf ⟨2, dX10_likely_185, rfl, rfl, by decide +kernel⟩) (m_right_nd (m_right_lf ⟨1, dX10_likely_187, rfl, rfl, rfl⟩) (m_right_lf ⟨1, dX10_likely_188, rfl, rfl⟩))) (m_right_nd (m_right_nd (m_right_lf ⟨1, dX10_likely_189, rfl, rfl, rfl⟩) (m_right_lf ⟨1, dX10_likely_190, rfl, rfl⟩)) (m_right_nd (m_right_lf ⟨1, dX10_likely_191, rfl, rfl, rfl⟩) (m_right_lf ⟨1, dX10_likely_192, rfl, 0, .int, rfl, rfl, Or.inl ⟨rfl, rfl⟩⟩)))))))
