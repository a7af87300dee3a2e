/-! By program (wip/whole/gen2.py): the words of the tables by their places, and the code tables' rightness. -/
theorem dX10_says_0 : decode cX10_says 0 = .ok (.aload_n 0, 1) := by decide +kernel
theorem dX10_says_1 : decode cX10_says 1 = .ok (.iload_n 1, 1) := by decide +kernel
theorem dX10_says_2 : decode cX10_says 2 = .ok (.invokevirtual 52, 3) := by decide +kernel
theorem dX10_says_5 : decode cX10_says 5 = .ok (.ifCond .ne 5, 3) := by decide +kernel
theorem dX10_says_8 : decode cX10_says 8 = .ok (.iconst (-1), 1) := by decide +kernel
theorem dX10_says_9 : decode cX10_says 9 = .ok (.ireturn, 1) := by decide +kernel
theorem dX10_says_10 : decode cX10_says 10 = .ok (.aload_n 0, 1) := by decide +kernel
theorem dX10_says_11 : decode cX10_says 11 = .ok (.invokevirtual 167, 3) := by decide +kernel
theorem dX10_says_14 : decode cX10_says 14 = .ok (.iconst 0, 1) := by decide +kernel
theorem dX10_says_15 : decode cX10_says 15 = .ok (.istore_n 2, 1) := by decide +kernel
theorem dX10_says_16 : decode cX10_says 16 = .ok (.iload_n 2, 1) := by decide +kernel
theorem dX10_says_17 : decode cX10_says 17 = .ok (.aload_n 0, 1) := by decide +kernel
theorem dX10_says_18 : decode cX10_says 18 = .ok (.getfield 9, 3) := by decide +kernel
theorem dX10_says_21 : decode cX10_says 21 = .ok (.bipush 8, 2) := by decide +kernel
theorem dX10_says_23 : decode cX10_says 23 = .ok (.iaload, 1) := by decide +kernel
theorem dX10_says_24 : decode cX10_says 24 = .ok (.if_icmp .ge 14, 3) := by decide +kernel
theorem dX10_says_27 : decode cX10_says 27 = .ok (.aload_n 0, 1) := by decide +kernel
theorem dX10_says_28 : decode cX10_says 28 = .ok (.iload_n 2, 1) := by decide +kernel
theorem dX10_says_29 : decode cX10_says 29 = .ok (.invokevirtual 234, 3) := by decide +kernel
theorem dX10_says_32 : decode cX10_says 32 = .ok (.iinc 2 1, 3) := by decide +kernel
theorem dX10_says_35 : decode cX10_says 35 = .ok (.goto (-19), 3) := by decide +kernel
theorem dX10_says_38 : decode cX10_says 38 = .ok (.aload_n 0, 1) := by decide +kernel
theorem dX10_says_39 : decode cX10_says 39 = .ok (.getfield 9, 3) := by decide +kernel
theorem dX10_says_42 : decode cX10_says 42 = .ok (.iconst 1, 1) := by decide +kernel
theorem dX10_says_43 : decode cX10_says 43 = .ok (.iload_n 1, 1) := by decide +kernel
theorem dX10_says_44 : decode cX10_says 44 = .ok (.iadd, 1) := by decide +kernel
theorem dX10_says_45 : decode cX10_says 45 = .ok (.iaload, 1) := by decide +kernel
theorem dX10_says_46 : decode cX10_says 46 = .ok (.istore_n 2, 1) := by decide +kernel
theorem dX10_says_47 : decode cX10_says 47 = .ok (.aload_n 0, 1) := by decide +kernel
theorem dX10_says_48 : decode cX10_says 48 = .ok (.invokevirtual 177, 3) := by decide +kernel
theorem dX10_says_51 : decode cX10_says 51 = .ok (.iload_n 2, 1) := by decide +kernel
theorem dX10_says_52 : decode cX10_says 52 = .ok (.ireturn, 1) := by decide +kernel
set_option maxRecDepth 20000 in
theorem r_X10_says : m_Right (yX10_says, cX10_says, 3, (some .int)) q_X10_says := m_right_nd (m_right_nd (m_right_nd (m_right_nd (m_right_nd (m_right_lf ⟨1, dX10_says_0, rfl, rfl, rfl⟩) (m_right_lf ⟨1, dX10_says_1, rfl, rfl, rfl⟩)) (m_right_nd (m_right_lf ⟨3, dX10_says_2, rfl, rfl, 119, 1, 10, (yX10_isPlayer, cX10_isPlayer, 2, (some .boolean)), rfl, me_X10_isPlayer, mc_X10_isPlayer, Or.inl ⟨(RX10, TX10, 24), rfl, rfl⟩, wd_1065, wd_1067, wd_31, wd_71⟩) (m_right_lf ⟨3, dX10_says_5, rfl, rfl, 10, rfl, by decide⟩))) (m_right_nd (m_right_nd (m_right_lf ⟨1, dX10_says_8, rfl, rfl, by decide +kernel⟩) (m_right_lf ⟨1, dX10_says_9, rfl, 0, .int, rfl, rfl, Or.inl ⟨rfl, rfl⟩⟩)) (m_right_nd (m_right_lf ⟨1, dX10_says_10, rfl, rfl, rfl⟩) (m_right_lf ⟨3, dX10_says_11, rfl, rfl, 121, 0, 10, (yX10_keeps, cX10_keeps, 2, none), rfl, me_X10_keeps, mc_X10_keeps, Or.inl ⟨(RX10, TX10, 24), rfl, rfl⟩, wd_1134, wd_1136, wd_41, wd_71⟩)))) (m_right_nd (m_right_nd (m_right_nd (m_right_lf ⟨1, dX10_says_14, rfl, rfl, by decide +kernel⟩) (m_right_lf ⟨1, dX10_says_15, rfl, rfl, rfl⟩)) (m_right_nd (m_right_lf ⟨1, dX10_says_16, rfl, rfl, rfl⟩) (m_right_lf ⟨1, dX10_says_17, rfl, rfl, rfl⟩))) (m_right_nd (m_right_nd (m_right_lf ⟨3, dX10_says_18, rfl, rfl, 10, 1, rfl, Or.inl ⟨(RX10, TX10, 24), rfl, by decide, wd_867⟩⟩) (m_right_lf ⟨2, dX10_says_21, rfl, rfl, by decide +kernel⟩)) (m_right_nd (m_right_lf ⟨1, dX10_says_23, rfl, rfl⟩) (m_right_lf ⟨3, dX10_says_24, rfl, rfl, 38, rfl, by decide⟩))))) (m_right_nd (m_right_nd (m_right_nd (m_right_nd (m_right_lf ⟨1, dX10_says_27, rfl, rfl, rfl⟩) (m_right_lf ⟨1, dX10_says_28, rfl, rfl, rfl⟩)) (m_right_nd (m_right_lf ⟨3, dX10_says_29, rfl, rfl, 178, 1, 10, (yX10_booksGame, cX10_booksGame, 5, none), rfl, me_X10_booksGame, mc_X10_booksGame, Or.inl ⟨(RX10, TX10, 24), rfl, rfl⟩, wd_1238, wd_1240, wd_53, wd_71⟩) (m_right_lf ⟨3, dX10_says_32, rfl, rfl, rfl, by decide +kernel⟩))) (m_right_nd (m_right_nd (m_right_lf ⟨3, dX10_says_35, rfl, 16, rfl, by decide⟩) (m_right_lf ⟨1, dX10_says_38, rfl, rfl, rfl⟩)) (m_right_nd (m_right_lf ⟨3, dX10_says_39, rfl, rfl, 10, 1, rfl, Or.inl ⟨(RX10, TX10, 24), rfl, by decide, wd_867⟩⟩) (m_right_lf ⟨1, dX10_says_42, rfl, rfl, by decide +kernel⟩)))) (m_right_nd (m_right_nd (m_right_nd (m_right_lf ⟨1, dX10_says_43, rfl, rfl, rfl⟩) (m_right_lf ⟨1, dX10_says_44, rfl, rfl⟩)) (m_right_nd (m_right_lf ⟨1, dX10_says_45, rfl, rfl⟩) (m_right_lf ⟨1, dX10_says_46, rfl, rfl, rfl⟩))) (m_right_nd (m_right_nd (m_right_lf ⟨1, dX10_says_47, rfl, rfl, rfl⟩) (m_right_lf ⟨3, dX10_says_48, rfl, rfl, 122, 0, 10, (yX10_goesBack, cX10_goesBack, 2, none), rfl, me_X10_goesBack, mc_X10_goesBack, Or.inl ⟨(RX10, TX10, 24), rfl, rfl⟩, wd_1147, wd_1149, wd_44, wd_71⟩)) (m_right_nd (m_right_lf ⟨1, dX10_says_51, rfl, rfl, rfl⟩) (m_right_lf ⟨1, dX10_says_52, rfl, 0, .int, rfl, rfl, Or.inl ⟨rfl, rfl⟩⟩)))))
theorem dX10_tale_0 : decode cX10_tale 0 = .ok (.iload_n 1, 1) := by decide +kernel
theorem dX10_tale_1 : decode cX10_tale 1 = .ok (.iconst (-1), 1) := by decide +kernel
theorem dX10_tale_2 : decode cX10_tale 2 = .ok (.if_icmp .ne 13, 3) := by decide +kernel
theorem dX10_tale_5 : decode cX10_tale 5 = .ok (.aload_n 0, 1) := by decide +kernel
theorem dX10_tale_6 : decode cX10_tale 6 = .ok (.getfield 9, 3) := by decide +kernel
theorem dX10_tale_9 : decode cX10_tale 9 = .ok (.bipush 9, 2) := by decide +kernel
theorem dX10_tale_11 : decode cX10_tale 11 = .ok (.iconst 0, 1) := by decide +kernel
theorem dX10_tale_12 : decode cX10_tale 12 = .ok (.iastore, 1) := by decide +kernel
theorem dX10_tale_13 : decode cX10_tale 13 = .ok (.iconst 0, 1) := by decide +kernel
theorem dX10_tale_14 : decode cX10_tale 14 = .ok (.ireturn, 1) := by decide +kernel
theorem dX10_tale_15 : decode cX10_tale 15 = .ok (.iload_n 1, 1) := by decide +kernel
theorem dX10_tale_16 : decode cX10_tale 16 = .ok (.iconst 1, 1) := by decide +kernel
theorem dX10_tale_17 : decode cX10_tale 17 = .ok (.bipush 20, 2) := by decide +kernel
theorem dX10_tale_19 : decode cX10_tale 19 = .ok (.invokestatic 48, 3) := by decide +kernel
theorem dX10_tale_22 : decode cX10_tale 22 = .ok (.ifCond .ne 6, 3) := by decide +kernel
theorem dX10_tale_25 : decode cX10_tale 25 = .ok (.bipush (-2), 2) := by decide +kernel
theorem dX10_tale_27 : decode cX10_tale 27 = .ok (.ireturn, 1) := by decide +kernel
theorem dX10_tale_28 : decode cX10_tale 28 = .ok (.aload_n 0, 1) := by decide +kernel
theorem dX10_tale_29 : decode cX10_tale 29 = .ok (.getfield 9, 3) := by decide +kernel
theorem dX10_tale_32 : decode cX10_tale 32 = .ok (.bipush 9, 2) := by decide +kernel
theorem dX10_tale_34 : decode cX10_tale 34 = .ok (.iaload, 1) := by decide +kernel
theorem dX10_tale_35 : decode cX10_tale 35 = .ok (.bipush 8, 2) := by decide +kernel
theorem dX10_tale_37 : decode cX10_tale 37 = .ok (.if_icmp .ne 6, 3) := by decide +kernel
theorem dX10_tale_40 : decode cX10_tale 40 = .ok (.bipush (-4), 2) := by decide +kernel
theorem dX10_tale_42 : decode cX10_tale 42 = .ok (.ireturn, 1) := by decide +kernel
theorem dX10_tale_43 : decode cX10_tale 43 = .ok (.aload_n 0, 1) := by decide +kernel
theorem dX10_tale_44 : decode cX10_tale 44 = .ok (.getfield 9, 3) := by decide +kernel
theorem dX10_tale_47 : decode cX10_tale 47 = .ok (.bipush 66, 2) := by decide +kernel
theorem dX10_tale_49 : decode cX10_tale 49 = .ok (.aload_n 0, 1) := by decide +kernel
theorem dX10_tale_50 : decode cX10_tale 50 = .ok (.getfield 9, 3) := by decide +kernel
theorem dX10_tale_53 : decode cX10_tale 53 = .ok (.bipush 9, 2) := by decide +kernel
theorem dX10_tale_55 : decode cX10_tale 55 = .ok (.iaload, 1) := by decide +kernel
theorem dX10_tale_56 : decode cX10_tale 56 = .ok (.iadd, 1) := by decide +kernel
theorem dX10_tale_57 : decode cX10_tale 57 = .ok (.iload_n 1, 1) := by decide +kernel
theorem dX10_tale_58 : decode cX10_tale 58 = .ok (.iastore, 1) := by decide +kernel
theorem dX10_tale_59 : decode cX10_tale 59 = .ok (.aload_n 0, 1) := by decide +kernel
theorem dX10_tale_60 : decode cX10_tale 60 = .ok (.getfield 9, 3) := by decide +kernel
theorem dX10_tale_63 : decode cX10_tale 63 = .ok (.bipush 9, 2) := by decide +kernel
theorem dX10_tale_65 : decode cX10_tale 65 = .ok (.dup2, 1) := by decide +kernel
theorem dX10_tale_66 : decode cX10_tale 66 = .ok (.iaload, 1) := by decide +kernel
theorem dX10_tale_67 : decode cX10_tale 67 = .ok (.iconst 1, 1) := by decide +kernel
theorem dX10_tale_68 : decode cX10_tale 68 = .ok (.iadd, 1) := by decide +kernel
theorem dX10_tale_69 : decode cX10_tale 69 = .ok (.iastore, 1) := by decide +kernel
theorem dX10_tale_70 : decode cX10_tale 70 = .ok (.aload_n 0, 1) := by decide +kernel
theorem dX10_tale_71 : decode cX10_tale 71 = .ok (.getfield 9, 3) := by decide +kernel
theorem dX10_tale_74 : decode cX10_tale 74 = .ok (.bipush 9, 2) := by decide +kernel
theorem dX10_tale_76 : decode cX10_tale 76 = .ok (.iaload, 1) := by decide +kernel
theorem dX10_tale_77 : decode cX10_tale 77 = .ok (.ireturn, 1) := by decide +kernel
set_option maxRecDepth 20000 in
theorem r_X10_tale : m_Right (yX10_tale, cX10_tale, 2, (some .int)) q_X10_tale := m_right_nd (m_right_nd (m_right_nd (m_right_nd (m_right_nd (m_right_lf ⟨1, dX10_tale_0, rfl, rfl, rfl⟩) (m_right_nd (m_right_lf ⟨1, dX10_tale_1, rfl, rfl, by decide +kernel⟩) (m_right_lf ⟨3, dX10_tale_2, rfl, rfl, 15, rfl, by decide⟩))) (m_right_nd (m_right_lf ⟨1, dX10_tale_5, rfl, rfl, rfl⟩) (m_right_nd (m_right_lf ⟨3, dX10_tale_6, rfl, rfl, 10, 1, rfl, Or.inl ⟨(RX10, TX10, 24), rfl, by decide, wd_867⟩⟩) (m_right_lf ⟨2, dX10_tale_9, rfl, rfl, by decide +kernel⟩)))) (m_right_nd (m_right_nd (m_right_lf ⟨1, dX10_tale_11, rfl, rfl, by decide +kernel⟩) (m_right_nd (m_right_lf ⟨1, dX10_tale_12, rfl, rfl⟩) (m_right_lf ⟨1, dX10_tale_13, rfl, rfl, by decide +kernel⟩))) (m_right_nd (m_right_lf ⟨1, dX10_tale_14, rfl, 0, .int, rfl, rfl, Or.inl ⟨rfl, rfl⟩⟩) (m_right_nd (m_right_lf ⟨1, dX10_tale_15, rfl, rfl, rfl⟩) (m_right_lf ⟨1, dX10_tale_16, rfl, rfl, by decide +kernel⟩))))) (m_right_nd (m_right_nd (m_right_nd (m_right_lf ⟨2, dX10_tale_17, rfl, rfl, by decide +kernel⟩) (m_right_nd (m_right_lf ⟨3, dX10_tale_19, rfl, rfl, Or.inr (Or.inr ⟨118, 3, (yX10_in, cX10_in, 3, (some .boolean)), rfl, me_X10_in, mc_X10_in, wd_943, wd_944, wd_71⟩)⟩) (m_right_lf ⟨3, dX10_tale_22, rfl, rfl, 28, rfl, by decide⟩))) (m_right_nd (m_right_lf ⟨2, dX10_tale_25, rfl, rfl, by decide +kernel⟩) (m_right_nd (m_right_lf ⟨1, dX10_tale_27, rfl, 0, .int, rfl, rfl, Or.inl ⟨rfl, rfl⟩⟩) (m_right_lf ⟨1, dX10_tale_28, rfl, rfl, rfl⟩)))) (m_right_nd (m_right_nd (m_right_lf ⟨3, dX10_tale_29, rfl, rfl, 10, 1, rfl, Or.inl ⟨(RX10, TX10, 24), rfl, by decide, wd_867⟩⟩) (m_right_nd (m_right_lf ⟨2, dX10_tale_32, rfl, rfl, by decide +kernel⟩) (m_right_lf ⟨1, dX10_tale_34, rfl, rfl⟩))) (m_right_nd (m_right_lf ⟨2, dX10_tale_35, rfl, rfl, by decide +kernel⟩) (m_right_nd (m_right_lf ⟨3, dX10_tale_37, rfl, rfl, 43, rfl, by decide⟩) (m_right_lf ⟨2, dX10_tale_40, rfl, rfl, by decide +kernel⟩)))))) (m_right_nd (m_right_nd (m_right_nd (m_right_nd (m_right_lf ⟨1, dX10_tale_42, rfl, 0, .int, rfl, rfl, Or.inl ⟨rfl, rfl⟩⟩) (m_right_nd (m_right_lf ⟨1, dX10_tale_43, rfl, rfl, rfl⟩) (m_right_lf ⟨3, dX10_tale_44, rfl, rfl, 10, 1, rfl, Or.inl ⟨(RX10, TX10, 24), rfl, by decide, wd_867⟩⟩))) (m_right_nd (m_right_lf ⟨2, dX10_tale_47, rfl, rfl, by decide +kernel⟩) (m_right_nd (m_right_lf ⟨1, dX10_tale_49, rfl, rfl, rfl⟩) (m_right_lf ⟨3, dX10_tale_50, rfl, rfl, 10, 1, rfl, Or.inl ⟨(RX10, TX10, 24), rfl, by decide, wd_867⟩⟩)))) (m_right_nd (m_right_nd (m_right_lf ⟨2, dX10_tale_53, rfl, rfl, by decide +kernel⟩) (m_right_nd (m_right_lf ⟨1, dX10_tale_55, rfl, rfl⟩) (m_right_lf ⟨1, dX10_tale_56, rfl, rfl⟩))) (m_right_nd (m_right_lf ⟨1, dX10_tale_57, rfl, rfl, rfl⟩) (m_right_nd (m_right_lf ⟨1, dX10_tale_58, rfl, rfl⟩) (m_right_lf ⟨1, dX10_tale_59, rfl, rfl, rfl⟩))))) (m_right_nd (m_right_nd (m_right_nd (m_right_lf ⟨3, dX10_tale_60, rfl, rfl, 10, 1, rfl, Or.inl ⟨(RX10, TX10, 24), rfl, by decide, wd_867⟩⟩) (m_right_nd (m_right_lf ⟨2, dX10_tale_63, rfl, rfl, by decide +kernel⟩) (m_right_lf ⟨1, dX10_tale_65, rfl, rfl⟩))) (m_right_nd (m_right_lf ⟨1, dX10_tale_66, rfl, rfl⟩) (m_right_nd (m_right_lf ⟨1, dX10_tale_67, rfl, rfl, by decide +kernel⟩) (m_right_lf ⟨1, dX10_tale_68, rfl, rfl⟩)))) (m_right_nd (m_right_nd (m_right_lf ⟨1, dX10_tale_69, rfl, rfl⟩) (m_right_nd (m_right_lf ⟨1, dX10_tale_70, rfl, rfl, rfl⟩) (m_right_lf ⟨3, dX10_tale_71, rfl, rfl, 10, 1, rfl, Or.inl ⟨(RX10, TX10, 24), rfl, by decide, wd_867⟩⟩))) (m_right_nd (m_right_lf ⟨2, dX10_tale_74, rfl, rfl, by decide +kernel⟩) (m_right_nd (m_right_lf ⟨1, dX10_tale_76, rfl, rfl⟩) (m_right_lf ⟨1, dX10_tale_77, rfl, 0, .int, rfl, rfl, Or.inl ⟨rfl, rfl⟩⟩))))))
theorem dX10_looked_0 : decode cX10_looked 0 = .ok (.aload_n 0, 1) := by decide +kernel
theorem dX10_looked_1 : decode cX10_looked 1 = .ok (.getfield 9, 3) := by decide +kernel
theorem dX10_looked_4 : decode cX10_looked 4 = .ok (.bipush 6, 2) := by decide +kernel
theorem dX10_looked_6 : decode cX10_looked 6 = .ok (.iaload, 1) := by decide +kernel
theorem dX10_looked_7 : decode cX10_looked 7 = .ok (.ifCond .ne 6, 3) := by decide +kernel
theorem dX10_looked_10 : decode cX10_looked 10 = .ok (.bipush (-3), 2) := by decide +kernel
theorem dX10_looked_12 : decode cX10_looked 12 = .ok (.ireturn, 1) := by decide +kernel
theorem dX10_looked_13 : decode cX10_looked 13 = .ok (.aload_n 0, 1) := by decide +kernel
theorem dX10_looked_14 : decode cX10_looked 14 = .ok (.invokevirtual 167, 3) := by decide +kernel
theorem dX10_looked_17 : decode cX10_looked 17 = .ok (.bipush (-5), 2) := by decide +kernel
theorem dX10_looked_19 : decode cX10_looked 19 = .ok (.istore_n 1, 1) := by decide +kernel
theorem dX10_looked_20 : decode cX10_looked 20 = .ok (.iconst 0, 1) := by decide +kernel
theorem dX10_looked_21 : decode cX10_looked 21 = .ok (.istore_n 2, 1) := by decide +kernel
theorem dX10_looked_22 : decode cX10_looked 22 = .ok (.iload_n 2, 1) := by decide +kernel
theorem dX10_looked_23 : decode cX10_looked 23 = .ok (.aload_n 0, 1) := by decide +kernel
theorem dX10_looked_24 : decode cX10_looked 24 = .ok (.getfield 9, 3) := by decide +kernel
theorem dX10_looked_27 : decode cX10_looked 27 = .ok (.bipush 9, 2) := by decide +kernel
theorem dX10_looked_29 : decode cX10_looked 29 = .ok (.iaload, 1) := by decide +kernel
theorem dX10_looked_30 : decode cX10_looked 30 = .ok (.if_icmp .ge 66, 3) := by decide +kernel
theorem dX10_looked_33 : decode cX10_looked 33 = .ok (.iload_n 1, 1) := by decide +kernel
theorem dX10_looked_34 : decode cX10_looked 34 = .ok (.bipush (-5), 2) := by decide +kernel
theorem dX10_looked_36 : decode cX10_looked 36 = .ok (.if_icmp .ne 60, 3) := by decide +kernel
theorem dX10_looked_39 : decode cX10_looked 39 = .ok (.iload_n 2, 1) := by decide +kernel
theorem dX10_looked_40 : decode cX10_looked 40 = .ok (.aload_n 0, 1) := by decide +kernel
theorem dX10_looked_41 : decode cX10_looked 41 = .ok (.getfield 9, 3) := by decide +kernel
theorem dX10_looked_44 : decode cX10_looked 44 = .ok (.bipush 8, 2) := by decide +kernel
theorem dX10_looked_46 : decode cX10_looked 46 = .ok (.iaload, 1) := by decide +kernel
theorem dX10_looked_47 : decode cX10_looked 47 = .ok (.if_icmp .ge 8, 3) := by decide +kernel
theorem dX10_looked_50 : decode cX10_looked 50 = .ok (.aload_n 0, 1) := by decide +kernel
theorem dX10_looked_51 : decode cX10_looked 51 = .ok (.iload_n 2, 1) := by decide +kernel
theorem dX10_looked_52 : decode cX10_looked 52 = .ok (.invokevirtual 234, 3) := by decide +kernel
theorem dX10_looked_55 : decode cX10_looked 55 = .ok (.iload_n 2, 1) := by decide +kernel
theorem dX10_looked_56 : decode cX10_looked 56 = .ok (.aload_n 0, 1) := by decide +kernel
theorem dX10_looked_57 : decode cX10_looked 57 = .ok (.getfield 9, 3) := by decide +kernel
theorem dX10_looked_60 : decode cX10_looked 60 = .ok (.bipush 8, 2) := by decide +kernel
theorem dX10_looked_62 : decode cX10_looked 62 = .ok (.iaload, 1) := by decide +kernel
theorem dX10_looked_63 : decode cX10_looked 63 = .ok (.if_icmp .ge 21, 3) := by decide +kernel
theorem dX10_looked_66 : decode cX10_looked 66 = .ok (.aload_n 0, 1) := by decide +kernel
theorem dX10_looked_67 : decode cX10_looked 67 = .ok (.getfield 9, 3) := by decide +kernel
theorem dX10_looked_70 : decode cX10_looked 70 = .ok (.iconst 1, 1) := by decide +kernel
theorem dX10_looked_71 : decode cX10_looked 71 = .ok (.iaload, 1) := by decide +kernel
theorem dX10_looked_72 : decode cX10_looked 72 = .ok (.aload_n 0, 1) := by decide +kernel
theorem dX10_looked_73 : decode cX10_looked 73 = .ok (.getfield 9, 3) := by decide +kernel
theorem dX10_looked_76 : decode cX10_looked 76 = .ok (.bipush 66, 2) := by decide +kernel
theorem dX10_looked_78 : decode cX10_looked 78 = .ok (.iload_n 2, 1) := by decide +kernel
theorem dX10_looked_79 : decode cX10_looked 79 = .ok (.iadd, 1) := by decide +kernel
theorem dX10_looked_80 : decode cX10_looked 80 = .ok (.iaload, 1) := by decide +kernel
theorem dX10_looked_81 : decode cX10_looked 81 = .ok (.if_icmp .eq 7, 3) := by decide +kernel
theorem dX10_looked_84 : decode cX10_looked 84 = .ok (.iload_n 2, 1) := by decide +kernel
theorem dX10_looked_85 : decode cX10_looked 85 = .ok (.goto 4, 3) := by decide +kernel
theorem dX10_looked_88 : decode cX10_looked 88 = .ok (.iload_n 1, 1) := by decide +kernel
theorem dX10_looked_89 : decode cX10_looked 89 = .ok (.istore_n 1, 1) := by decide +kernel
theorem dX10_looked_90 : decode cX10_looked 90 = .ok (.iinc 2 1, 3) := by decide +kernel
theorem dX10_looked_93 : decode cX10_looked 93 = .ok (.goto (-71), 3) := by decide +kernel
theorem dX10_looked_96 : decode cX10_looked 96 = .ok (.aload_n 0, 1) := by decide +kernel
theorem dX10_looked_97 : decode cX10_looked 97 = .ok (.invokevirtual 177, 3) := by decide +kernel
theorem dX10_looked_100 : decode cX10_looked 100 = .ok (.iload_n 1, 1) := by decide +kernel
theorem dX10_looked_101 : decode cX10_looked 101 = .ok (.ireturn, 1) := by decide +kernel
set_option maxRecDepth 20000 in
theorem r_X10_looked : m_Right (yX10_looked, cX10_looked, 3, (some .int)) q_X10_looked := m_right_nd (m_right_nd (m_right_nd (m_right_nd (m_right_nd (m_right_lf ⟨1, dX10_looked_0, rfl, rfl, rfl⟩) (m_right_nd (m_right_lf ⟨3, dX10_looked_1, rfl, rfl, 10, 1, rfl, Or.inl ⟨(RX10, TX10, 24), rfl, by decide, wd_867⟩⟩) (m_right_lf ⟨2, dX10_looked_4, rfl, rfl, by decide +kernel⟩))) (m_right_nd (m_right_nd (m_right_lf ⟨1, dX10_looked_6, rfl, rfl⟩) (m_right_lf ⟨3, dX10_looked_7, rfl, rfl, 13, rfl, by decide⟩)) (m_right_nd (m_right_lf ⟨2, dX10_looked_10, rfl, rfl, by decide +kernel⟩) (m_right_lf ⟨1, dX10_looked_12, rfl, 0, .int, rfl, rfl, Or.inl ⟨rfl, rfl⟩⟩)))) (m_right_nd (m_right_nd (m_right_lf ⟨1, dX10_looked_13, rfl, rfl, rfl⟩) (m_right_nd (m_right_lf ⟨3, dX10_looked_14, rfl, rfl, 121, 0, 10, (yX10_keeps, cX10_keeps, 2, none), rfl, me_X10_keeps, mc_X10_keeps, Or.inl ⟨(RX10, TX10, 24), rfl, rfl⟩, wd_1134, wd_1136, wd_41, wd_71⟩) (m_right_lf ⟨2, dX10_looked_17, rfl, rfl, by decide +kernel⟩))) (m_right_nd (m_right_nd (m_right_lf ⟨1, dX10_looked_19, rfl, rfl, rfl⟩) (m_right_lf ⟨1, dX10_looked_20, rfl, rfl, by decide +kernel⟩)) (m_right_nd (m_right_lf ⟨1, dX10_looked_21, rfl, rfl, rfl⟩) (m_right_lf ⟨1, dX10_looked_22, rfl, rfl, rfl⟩))))) (m_right_nd (m_right_nd (m_right_nd (m_right_lf ⟨1, dX10_looked_23, rfl, rfl, rfl⟩) (m_right_nd (m_right_lf ⟨3, dX10_looked_24, rfl, rfl, 10, 1, rfl, Or.inl ⟨(RX10, TX10, 24), rfl, by decide, wd_867⟩⟩) (m_right_lf ⟨2, dX10_looked_27, rfl, rfl, by decide +kernel⟩))) (m_right_nd (m_right_nd (m_right_lf ⟨1, dX10_looked_29, rfl, rfl⟩) (m_right_lf ⟨3, dX10_looked_30, rfl, rfl, 96, rfl, by decide⟩)) (m_right_nd (m_right_lf ⟨1, dX10_looked_33, rfl, rfl, rfl⟩) (m_right_lf ⟨2, dX10_looked_34, rfl, rfl, by decide +kernel⟩)))) (m_right_nd (m_right_nd (m_right_nd (m_right_lf ⟨3, dX10_looked_36, rfl, rfl, 96, rfl, by decide⟩) (m_right_lf ⟨1, dX10_looked_39, rfl, rfl, rfl⟩)) (m_right_nd (m_right_lf ⟨1, dX10_looked_40, rfl, rfl, rfl⟩) (m_right_lf ⟨3, dX10_looked_41, rfl, rfl, 10, 1, rfl, Or.inl ⟨(RX10, TX10, 24), rfl, by decide, wd_867⟩⟩))) (m_right_nd (m_right_nd (m_right_lf ⟨2, dX10_looked_44, rfl, rfl, by decide +kernel⟩) (m_right_lf ⟨1, dX10_looked_46, rfl, rfl⟩)) (m_right_nd (m_right_lf ⟨3, dX10_looked_47, rfl, rfl, 55, rfl, by decide⟩) (m_right_lf ⟨1, dX10_looked_50, rfl, rfl, rfl⟩)))))) (m_right_nd (m_right_nd (m_right_nd (m_right_nd (m_right_lf ⟨1, dX10_looked_51, rfl, rfl, rfl⟩) (m_right_nd (m_right_lf ⟨3, dX10_looked_52, rfl, rfl, 178, 1, 10, (yX10_booksGame, cX10_booksGame, 5, none), rfl, me_X10_booksGame, mc_X10_booksGame, Or.inl ⟨(RX10, TX10, 24), rfl, rfl⟩, wd_1238, wd_1240, wd_53, wd_71⟩) (m_right_lf ⟨1, dX10_looked_55, rfl, rfl, rfl⟩))) (m_right_nd (m_right_nd (m_right_lf ⟨1, dX10_looked_56, rfl, rfl, rfl⟩) (m_right_lf ⟨3, dX10_looked_57, rfl, rfl, 10, 1, rfl, Or.inl ⟨(RX10, TX10, 24), rfl, by decide, wd_867⟩⟩)) (m_right_nd (m_right_lf ⟨2, dX10_looked_60, rfl, rfl, by decide +kernel⟩) (m_right_lf ⟨1, dX10_looked_62, rfl, rfl⟩)))) (m_right_nd (m_right_nd (m_right_lf ⟨3, dX10_looked_63, rfl, rfl, 84, rfl, by decide⟩) (m_right_nd (m_right_lf ⟨1, dX10_looked_66, rfl, rfl, rfl⟩) (m_right_lf ⟨3, dX10_looked_67, rfl, rfl, 10, 1, rfl, Or.inl ⟨(RX10, TX10, 24), rfl, by decide, wd_867⟩⟩))) (m_right_nd (m_right_nd (m_right_lf ⟨1, dX10_looked_70, rfl, rfl, by decide +kernel⟩) (m_right_lf ⟨1, dX10_looked_71, rfl, rfl⟩)) (m_right_nd (m_right_lf ⟨1, dX10_looked_72, rfl, rfl, rfl⟩) (m_right_lf ⟨3, dX10_looked_73, rfl, rfl, 10, 1, rfl, Or.inl ⟨(RX10, TX10, 24), rfl, by decide, wd_867⟩⟩))))) (m_right_nd (m_right_nd (m_right_nd (m_right_lf ⟨2, dX10_looked_76, rfl, rfl, by decide +kernel⟩) (m_right_nd (m_right_lf ⟨1, dX10_looked_78, rfl, rfl, rfl⟩) (m_right_lf ⟨1, dX10_looked_79, rfl, rfl⟩))) (m_right_nd (m_right_nd (m_right_lf ⟨1, dX10_looked_80, rfl, rfl⟩) (m_right_lf ⟨3, dX10_looked_81, rfl, rfl, 88, rfl, by decide⟩)) (m_right_nd (m_right_lf ⟨1, dX10_looked_84, rfl, rfl, rfl⟩) (m_right_lf ⟨3, dX10_looked_85, rfl, 89, rfl, by decide⟩)))) (m_right_nd (m_right_nd (m_right_nd (m_right_lf ⟨1, dX10_looked_88, rfl, rfl, rfl⟩) (m_right_lf ⟨1, dX10_looked_89, rfl, rfl, rfl⟩)) (m_right_nd (m_right_lf ⟨3, dX10_looked_90, rfl, rfl, rfl, by decide +kernel⟩) (m_right_lf ⟨3, dX10_looked_93, rfl, 22, rfl, by decide⟩))) (m_right_nd (m_right_nd (m_right_lf ⟨1, dX10_looked_96, rfl, rfl, rfl⟩) (m_right_lf ⟨3, dX10_looked_97, rfl, rfl, 122, 0, 10, (yX10_goesBack, cX10_goesBack, 2, none), rfl, me_X10_goesBack, mc_X10_goesBack, Or.inl ⟨(RX10, TX10, 24), rfl, rfl⟩, wd_1147, wd_1149, wd_44, wd_71⟩)) (m_right_nd (m_right_lf ⟨1, dX10_looked_100, rfl, rfl, rfl⟩) (m_right_lf ⟨1, dX10_looked_101, rfl, 0, .int, rfl, rfl, Or.inl ⟨rfl, rfl⟩⟩))))))
theorem dX10_ranBody_0 : decode cX10_ranBody 0 = .ok (.aload_n 0, 1) := by decide +kernel
theorem dX10_ranBody_1 : decode cX10_ranBody 1 = .ok (.getfield 237, 3) := by decide +kernel
theorem dX10_ranBody_4 : decode cX10_ranBody 4 = .ok (.bipush 20, 2) := by decide +kernel
theorem dX10_ranBody_6 : decode cX10_ranBody 6 = .ok (.if_icmp .ge 13, 3) := by decide +kernel
theorem dX10_ranBody_9 : decode cX10_ranBody 9 = .ok (.aload_n 0, 1) := by decide +kernel
theorem dX10_ranBody_10 : decode cX10_ranBody 10 = .ok (.getfield 41, 3) := by decide +kernel
theorem dX10_ranBody_13 : decode cX10_ranBody 13 = .ok (.aload_n 0, 1) := by decide +kernel
theorem dX10_ranBody_14 : decode cX10_ranBody 14 = .ok (.getfield 237, 3) := by decide +kernel
theorem dX10_ranBody_17 : decode cX10_ranBody 17 = .ok (.iload_n 1, 1) := by decide +kernel
theorem dX10_ranBody_18 : decode cX10_ranBody 18 = .ok (.iastore, 1) := by decide +kernel
theorem dX10_ranBody_19 : decode cX10_ranBody 19 = .ok (.aload_n 0, 1) := by decide +kernel
theorem dX10_ranBody_20 : decode cX10_ranBody 20 = .ok (.dup, 1) := by decide +kernel
theorem dX10_ranBody_21 : decode cX10_ranBody 21 = .ok (.getfield 237, 3) := by decide +kernel
theorem dX10_ranBody_24 : decode cX10_ranBody 24 = .ok (.iconst 1, 1) := by decide +kernel
theorem dX10_ranBody_25 : decode cX10_ranBody 25 = .ok (.iadd, 1) := by decide +kernel
theorem dX10_ranBody_26 : decode cX10_ranBody 26 = .ok (.putfield 237, 3) := by decide +kernel
theorem dX10_ranBody_29 : decode cX10_ranBody 29 = .ok (.return_, 1) := by decide +kernel
set_option maxRecDepth 20000 in
theorem r_X10_ranBody : m_Right (yX10_ranBody, cX10_ranBody, 2, none) q_X10_ranBody := m_right_nd (m_right_nd (m_right_nd (m_right_nd (m_right_lf ⟨1, dX10_ranBody_0, rfl, rfl, rfl⟩) (m_right_lf ⟨3, dX10_ranBody_1, rfl, rfl, 10, 20, rfl, Or.inl ⟨(RX10, TX10, 24), rfl, by decide, wd_886⟩⟩)) (m_right_nd (m_right_lf ⟨2, dX10_ranBody_4, rfl, rfl, by decide +kernel⟩) (m_right_lf ⟨3, dX10_ranBody_6, rfl, rfl, 19, rfl, by decide⟩))) (m_right_nd (m_right_nd (m_right_lf ⟨1, dX10_ranBody_9, rfl, rfl, rfl⟩) (m_right_lf ⟨3, dX10_ranBody_10, rfl, rfl, 10, 19, rfl, Or.inl ⟨(RX10, TX10, 24), rfl, by decide, wd_885⟩⟩)) (m_right_nd (m_right_lf ⟨1, dX10_ranBody_13, rfl, rfl, rfl⟩) (m_right_lf ⟨3, dX10_ranBody_14, rfl, rfl, 10, 20, rfl, Or.inl ⟨(RX10, TX10, 24), rfl, by decide, wd_886⟩⟩)))) (m_right_nd (m_right_nd (m_right_nd (m_right_lf ⟨1, dX10_ranBody_17, rfl, rfl, rfl⟩) (m_right_lf ⟨1, dX10_ranBody_18, rfl, rfl⟩)) (m_right_nd (m_right_lf ⟨1, dX10_ranBody_19, rfl, rfl, rfl⟩) (m_right_lf ⟨1, dX10_ranBody_20, rfl, rfl⟩))) (m_right_nd (m_right_nd (m_right_lf ⟨3, dX10_ranBody_21, rfl, rfl, 10, 20, rfl, Or.inl ⟨(RX10, TX10, 24), rfl, by decide, wd_886⟩⟩) (m_right_lf ⟨1, dX10_ranBody_24, rfl, rfl, by decide +kernel⟩)) (m_right_nd (m_right_lf ⟨1, dX10_ranBody_25, rfl, rfl⟩) (m_right_nd (m_right_lf ⟨3, dX10_ranBody_26, rfl, rfl, 10, 20, 0, (RX10, TX10, 24), rfl, rfl, by decide, wd_886, Or.inl rfl, tyX10 20, tyX10_ok 20 (by decide), Or.inl ⟨rfl, rfl⟩⟩) (m_right_lf ⟨1, dX10_ranBody_29, rfl, rfl⟩)))))
theorem dX10_isUnder_0 : decode cX10_isUnder 0 = .ok (.iload_n 1, 1) := by decide +kernel
theorem dX10_isUnder_1 : decode cX10_isUnder 1 = .ok (.ifCond .eq 24, 3) := by decide +kernel
theorem dX10_isUnder_4 : decode cX10_isUnder 4 = .ok (.iload_n 1, 1) := by decide +kernel
theorem dX10_isUnder_5 : decode cX10_isUnder 5 = .ok (.iload_n 0, 1) := by decide +kernel
theorem dX10_isUnder_6 : decode cX10_isUnder 6 = .ok (.if_icmp .eq 19, 3) := by decide +kernel
theorem dX10_isUnder_9 : decode cX10_isUnder 9 = .ok (.iload_n 1, 1) := by decide +kernel
theorem dX10_isUnder_10 : decode cX10_isUnder 10 = .ok (.ifCond .le 19, 3) := by decide +kernel
theorem dX10_isUnder_13 : decode cX10_isUnder 13 = .ok (.iload_n 1, 1) := by decide +kernel
theorem dX10_isUnder_14 : decode cX10_isUnder 14 = .ok (.iconst 4, 1) := by decide +kernel
theorem dX10_isUnder_15 : decode cX10_isUnder 15 = .ok (.if_icmp .ge 14, 3) := by decide +kernel
theorem dX10_isUnder_18 : decode cX10_isUnder 18 = .ok (.iload_n 0, 1) := by decide +kernel
theorem dX10_isUnder_19 : decode cX10_isUnder 19 = .ok (.iload_n 1, 1) := by decide +kernel
theorem dX10_isUnder_20 : decode cX10_isUnder 20 = .ok (.iconst 3, 1) := by decide +kernel
theorem dX10_isUnder_21 : decode cX10_isUnder 21 = .ok (.iadd, 1) := by decide +kernel
theorem dX10_isUnder_22 : decode cX10_isUnder 22 = .ok (.if_icmp .ne 7, 3) := by decide +kernel
theorem dX10_isUnder_25 : decode cX10_isUnder 25 = .ok (.iconst 1, 1) := by decide +kernel
theorem dX10_isUnder_26 : decode cX10_isUnder 26 = .ok (.goto 4, 3) := by decide +kernel
theorem dX10_isUnder_29 : decode cX10_isUnder 29 = .ok (.iconst 0, 1) := by decide +kernel
theorem dX10_isUnder_30 : decode cX10_isUnder 30 = .ok (.ireturn, 1) := by decide +kernel
set_option maxRecDepth 20000 in
theorem r_X10_isUnder : m_Right (yX10_isUnder, cX10_isUnder, 2, (some .boolean)) q_X10_isUnder := m_right_nd (m_right_nd (m_right_nd (m_right_nd (m_right_lf ⟨1, dX10_isUnder_0, rfl, rfl, rfl⟩) (m_right_lf ⟨3, dX10_isUnder_1, rfl, rfl, 25, rfl, by decide⟩)) (m_right_nd (m_right_lf ⟨1, dX10_isUnder_4, rfl, rfl, rfl⟩) (m_right_lf ⟨1, dX10_isUnder_5, rfl, rfl, rfl⟩))) (m_right_nd (m_right_nd (m_right_lf ⟨3, dX10_isUnder_6, rfl, rfl, 25, rfl, by decide⟩) (m_right_lf ⟨1, dX10_isUnder_9, rfl, rfl, rfl⟩)) (m_right_nd (m_right_lf ⟨3, dX10_isUnder_10, rfl, rfl, 29, rfl, by decide⟩) (m_right_nd (m_right_lf ⟨1, dX10_isUnder_13, rfl, rfl, rfl⟩) (m_right_lf ⟨1, dX10_isUnder_14, rfl, rfl, by decide +kernel⟩))))) (m_right_nd (m_right_nd (m_right_nd (m_right_lf ⟨3, dX10_isUnder_15, rfl, rfl, 29, rfl, by decide⟩) (m_right_lf ⟨1, dX10_isUnder_18, rfl, rfl, rfl⟩)) (m_right_nd (m_right_lf ⟨1, dX10_isUnder_19, rfl, rfl, rfl⟩) (m_right_nd (m_right_lf ⟨1, dX10_isUnder_20, rfl, rfl, by decide +kernel⟩) (m_right_lf ⟨1, dX10_isUnder_21, rfl, rfl⟩)))) (m_right_nd (m_right_nd (m_right_lf ⟨3, dX10_isUnder_22, rfl, rfl, 29, rfl, by decide⟩) (m_right_lf ⟨1, dX10_isUnder_25, rfl, rfl, by decide +kernel⟩)) (m_right_nd (m_right_lf ⟨3, dX10_isUnder_26, rfl, 30, rfl, by decide⟩) (m_right_nd (m_right_lf ⟨1, dX10_isUnder_29, rfl, rfl, by decide +kernel⟩) (m_right_lf ⟨1, dX10_isUnder_30, rfl, 1, .boolean, rfl, rfl, Or.inr (Or.inl ⟨rfl, rfl⟩)⟩)))))
theorem dX10_plainMoves_0 : decode cX10_plainMoves 0 = .ok (.aload_n 0, 1) := by decide +kernel
theorem dX10_plainMoves_1 : decode cX10_plainMoves 1 = .ok (.iconst 1, 1) := by decide +kernel
theorem dX10_plainMoves_2 : decode cX10_plainMoves 2 = .ok (.invokevirtual 240, 3) := by decide +kernel
theorem dX10_plainMoves_5 : decode cX10_plainMoves 5 = .ok (.iload_n 1, 1) := by decide +kernel
theorem dX10_plainMoves_6 : decode cX10_plainMoves 6 = .ok (.aload_n 0, 1) := by decide +kernel
theorem dX10_plainMoves_7 : decode cX10_plainMoves 7 = .ok (.getfield 243, 3) := by decide +kernel
theorem dX10_plainMoves_10 : decode cX10_plainMoves 10 = .ok (.iadd, 1) := by decide +kernel
theorem dX10_plainMoves_11 : decode cX10_plainMoves 11 = .ok (.ireturn, 1) := by decide +kernel
set_option maxRecDepth 20000 in
theorem r_X10_plainMoves : m_Right (yX10_plainMoves, cX10_plainMoves, 2, (some .int)) q_X10_plainMoves := m_right_nd (m_right_nd (m_right_nd (m_right_lf ⟨1, dX10_plainMoves_0, rfl, rfl, rfl⟩) (m_right_lf ⟨1, dX10_plainMoves_1, rfl, rfl, by decide +kernel⟩)) (m_right_nd (m_right_lf ⟨3, dX10_plainMoves_2, rfl, rfl, 183, 1, 10, (yX10_ranBody, cX10_ranBody, 2, none), rfl, me_X10_ranBody, mc_X10_ranBody, Or.inl ⟨(RX10, TX10, 24), rfl, rfl⟩, wd_1265, wd_1267, wd_55, wd_71⟩) (m_right_lf ⟨1, dX10_plainMoves_5, rfl, rfl, rfl⟩))) (m_right_nd (m_right_nd (m_right_lf ⟨1, dX10_plainMoves_6, rfl, rfl, rfl⟩) (m_right_lf ⟨3, dX10_plainMoves_7, rfl, rfl, 10, 22, rfl, Or.inl ⟨(RX10, TX10, 24), rfl, by decide, wd_888⟩⟩)) (m_right_nd (m_right_lf ⟨1, dX10_plainMoves_10, rfl, rfl⟩) (m_right_lf ⟨1, dX10_plainMoves_11, rfl, 0, .int, rfl, rfl, Or.inl ⟨rfl, rfl⟩⟩)))
theorem dX10_movesActs_0 : decode cX10_movesActs 0 = .ok (.aload_n 0, 1) := by decide +kernel
theorem dX10_movesActs_1 : decode cX10_movesActs 1 = .ok (.getfield 246, 3) := by decide +kernel
theorem dX10_movesActs_4 : decode cX10_movesActs 4 = .ok (.iconst 1, 1) := by decide +kernel
theorem dX10_movesActs_5 : decode cX10_movesActs 5 = .ok (.invokestatic 249, 3) := by decide +kernel
theorem dX10_movesActs_8 : decode cX10_movesActs 8 = .ok (.ifCond .eq 17, 3) := by decide +kernel
theorem dX10_movesActs_11 : decode cX10_movesActs 11 = .ok (.aload_n 0, 1) := by decide +kernel
theorem dX10_movesActs_12 : decode cX10_movesActs 12 = .ok (.bipush 11, 2) := by decide +kernel
theorem dX10_movesActs_14 : decode cX10_movesActs 14 = .ok (.invokevirtual 240, 3) := by decide +kernel
theorem dX10_movesActs_17 : decode cX10_movesActs 17 = .ok (.aload_n 0, 1) := by decide +kernel
theorem dX10_movesActs_18 : decode cX10_movesActs 18 = .ok (.iload_n 1, 1) := by decide +kernel
theorem dX10_movesActs_19 : decode cX10_movesActs 19 = .ok (.iconst 3, 1) := by decide +kernel
theorem dX10_movesActs_20 : decode cX10_movesActs 20 = .ok (.imul, 1) := by decide +kernel
theorem dX10_movesActs_21 : decode cX10_movesActs 21 = .ok (.invokevirtual 252, 3) := by decide +kernel
theorem dX10_movesActs_24 : decode cX10_movesActs 24 = .ok (.ireturn, 1) := by decide +kernel
theorem dX10_movesActs_25 : decode cX10_movesActs 25 = .ok (.aload_n 0, 1) := by decide +kernel
theorem dX10_movesActs_26 : decode cX10_movesActs 26 = .ok (.getfield 246, 3) := by decide +kernel
theorem dX10_movesActs_29 : decode cX10_movesActs 29 = .ok (.iconst 5, 1) := by decide +kernel
theorem dX10_movesActs_30 : decode cX10_movesActs 30 = .ok (.if_icmp .ne 20, 3) := by decide +kernel
theorem dX10_movesActs_33 : decode cX10_movesActs 33 = .ok (.aload_n 0, 1) := by decide +kernel
theorem dX10_movesActs_34 : decode cX10_movesActs 34 = .ok (.bipush 51, 2) := by decide +kernel
theorem dX10_movesActs_36 : decode cX10_movesActs 36 = .ok (.invokevirtual 240, 3) := by decide +kernel
theorem dX10_movesActs_39 : decode cX10_movesActs 39 = .ok (.aload_n 0, 1) := by decide +kernel
theorem dX10_movesActs_40 : decode cX10_movesActs 40 = .ok (.iload_n 1, 1) := by decide +kernel
theorem dX10_movesActs_41 : decode cX10_movesActs 41 = .ok (.invokevirtual 252, 3) := by decide +kernel
theorem dX10_movesActs_44 : decode cX10_movesActs 44 = .ok (.aload_n 0, 1) := by decide +kernel
theorem dX10_movesActs_45 : decode cX10_movesActs 45 = .ok (.getfield 243, 3) := by decide +kernel
theorem dX10_movesActs_48 : decode cX10_movesActs 48 = .ok (.ixor, 1) := by decide +kernel
theorem dX10_movesActs_49 : decode cX10_movesActs 49 = .ok (.ireturn, 1) := by decide +kernel
theorem dX10_movesActs_50 : decode cX10_movesActs 50 = .ok (.aload_n 0, 1) := by decide +kernel
theorem dX10_movesActs_51 : decode cX10_movesActs 51 = .ok (.iload_n 1, 1) := by decide +kernel
theorem dX10_movesActs_52 : decode cX10_movesActs 52 = .ok (.invokevirtual 252, 3) := by decide +kernel
theorem dX10_movesActs_55 : decode cX10_movesActs 55 = .ok (.ireturn, 1) := by decide +kernel
set_option maxRecDepth 20000 in
theorem r_X10_movesActs : m_Right (yX10_movesActs, cX10_movesActs, 2, (some .int)) q_X10_movesActs := m_right_nd (m_right_nd (m_right_nd (m_right_nd (m_right_nd (m_right_lf ⟨1, dX10_movesActs_0, rfl, rfl, rfl⟩) (m_right_lf ⟨3, dX10_movesActs_1, rfl, rfl, 10, 21, rfl, Or.inl ⟨(RX10, TX10, 24), rfl, by decide, wd_887⟩⟩)) (m_right_nd (m_right_lf ⟨1, dX10_movesActs_4, rfl, rfl, by decide +kernel⟩) (m_right_lf ⟨3, dX10_movesActs_5, rfl, rfl, Or.inr (Or.inr ⟨184, 2, (yX10_isUnder, cX10_isUnder, 2, (some .boolean)), rfl, me_X10_isUnder, mc_X10_isUnder, wd_1262, wd_1263, wd_71⟩)⟩))) (m_right_nd (m_right_nd (m_right_lf ⟨3, dX10_movesActs_8, rfl, rfl, 25, rfl, by decide⟩) (m_right_lf ⟨1, dX10_movesActs_11, rfl, rfl, rfl⟩)) (m_right_nd (m_right_lf ⟨2, dX10_movesActs_12, rfl, rfl, by decide +kernel⟩) (m_right_lf ⟨3, dX10_movesActs_14, rfl, rfl, 183, 1, 10, (yX10_ranBody, cX10_ranBody, 2, none), rfl, me_X10_ranBody, mc_X10_ranBody, Or.inl ⟨(RX10, TX10, 24), rfl, rfl⟩, wd_1265, wd_1267, wd_55, wd_71⟩)))) (m_right_nd (m_right_nd (m_right_nd (m_right_lf ⟨1, dX10_movesActs_17, rfl, rfl, rfl⟩) (m_right_lf ⟨1, dX10_movesActs_18, rfl, rfl, rfl⟩)) (m_right_nd (m_right_lf ⟨1, dX10_movesActs_19, rfl, rfl, by decide +kernel⟩) (m_right_lf ⟨1, dX10_movesActs_20, rfl, rfl⟩))) (m_right_nd (m_right_nd (m_right_lf ⟨3, dX10_movesActs_21, rfl, rfl, 185, 1, 10, (yX10_plainMoves, cX10_plainMoves, 2, (some .int)), rfl, me_X10_plainMoves, mc_X10_plainMoves, Or.inl ⟨(RX10, TX10, 24), rfl, rfl⟩, wd_1269, wd_1271, wd_56, wd_71⟩) (m_right_lf ⟨1, dX10_movesActs_24, rfl, 0, .int, rfl, rfl, Or.inl ⟨rfl, rfl⟩⟩)) (m_right_nd (m_right_lf ⟨1, dX10_movesActs_25, rfl, rfl, rfl⟩) (m_right_lf ⟨3, dX10_movesActs_26, rfl, rfl, 10, 21, rfl, Or.inl ⟨(RX10, TX10, 24), rfl, by decide, wd_887⟩⟩))))) (m_right_nd (m_right_nd (m_right_nd (m_right_nd (m_right_lf ⟨1, dX10_movesActs_29, rfl, rfl, by decide +kernel⟩) (m_right_lf ⟨3, dX10_movesActs_30, rfl, rfl, 50, rfl, by decide⟩)) (m_right_nd (m_right_lf ⟨1, dX10_movesActs_33, rfl, rfl, rfl⟩) (m_right_lf ⟨2, dX10_movesActs_34, rfl, rfl, by decide +kernel⟩))) (m_right_nd (m_right_nd (m_right_lf ⟨3, dX10_movesActs_36, rfl, rfl, 183, 1, 10, (yX10_ranBody, cX10_ranBody, 2, none), rfl, me_X10_ranBody, mc_X10_ranBody, Or.inl ⟨(RX10, TX10, 24), rfl, rfl⟩, wd_1265, wd_1267, wd_55, wd_71⟩) (m_right_lf ⟨1, dX10_movesActs_39, rfl, rfl, rfl⟩)) (m_right_nd (m_right_lf ⟨1, dX10_movesActs_40, rfl, rfl, rfl⟩) (m_right_lf ⟨3, dX10_movesActs_41, rfl, rfl, 185, 1, 10, (yX10_plainMoves, cX10_plainMoves, 2, (some .int)), rfl, me_X10_plainMoves, mc_X10_plainMoves, Or.inl ⟨(RX10, TX10, 24), rfl, rfl⟩, wd_1269, wd_1271, wd_56, wd_71⟩)))) (m_right_nd (m_right_nd (m_right_nd (m_right_lf ⟨1, dX10_movesActs_44, rfl, rfl, rfl⟩) (m_right_lf ⟨3, dX10_movesActs_45, rfl, rfl, 10, 22, rfl, Or.inl ⟨(RX10, TX10, 24), rfl, by decide, wd_888⟩⟩)) (m_right_nd (m_right_lf ⟨1, dX10_movesActs_48, rfl, rfl⟩) (m_right_lf ⟨1, dX10_movesActs_49, rfl, 0, .int, rfl, rfl, Or.inl ⟨rfl, rfl⟩⟩))) (m_right_nd (m_right_nd (m_right_lf ⟨1, dX10_movesActs_50, rfl, rfl, rfl⟩) (m_right_lf ⟨1, dX10_movesActs_51, rfl, rfl, rfl⟩)) (m_right_nd (m_right_lf ⟨3, dX10_movesActs_52, rfl, rfl, 185, 1, 10, (yX10_plainMoves, cX10_plainMoves, 2, (some .int)), rfl, me_X10_plainMoves, mc_X10_plainMoves, Or.inl ⟨(RX10, TX10, 24), rfl, rfl⟩, wd_1269, wd_1271, wd_56, wd_71⟩) (m_right_lf ⟨1, dX10_movesActs_55, rfl, 0, .int, rfl, rfl, Or.inl ⟨rfl, rfl⟩⟩)))))
theorem dX10_plainBets_0 : decode cX10_plainBets 0 = .ok (.aload_n 0, 1) := by decide +kernel
theorem dX10_plainBets_1 : decode cX10_plainBets 1 = .ok (.iconst 2, 1) := by decide +kernel
theorem dX10_plainBets_2 : decode cX10_plainBets 2 = .ok (.invokevirtual 240, 3) := by decide +kernel
theorem dX10_plainBets_5 : decode cX10_plainBets 5 = .ok (.aload_n 0, 1) := by decide +kernel
theorem dX10_plainBets_6 : decode cX10_plainBets 6 = .ok (.iload_n 1, 1) := by decide +kernel
theorem dX10_plainBets_7 : decode cX10_plainBets 7 = .ok (.invokevirtual 255, 3) := by decide +kernel
theorem dX10_plainBets_10 : decode cX10_plainBets 10 = .ok (.aload_n 0, 1) := by decide +kernel
theorem dX10_plainBets_11 : decode cX10_plainBets 11 = .ok (.getfield 258, 3) := by decide +kernel
theorem dX10_plainBets_14 : decode cX10_plainBets 14 = .ok (.isub, 1) := by decide +kernel
theorem dX10_plainBets_15 : decode cX10_plainBets 15 = .ok (.ireturn, 1) := by decide +kernel
set_option maxRecDepth 20000 in
theorem r_X10_plainBets : m_Right (yX10_plainBets, cX10_plainBets, 2, (some .int)) q_X10_plainBets := m_right_nd (m_right_nd (m_right_nd (m_right_lf ⟨1, dX10_plainBets_0, rfl, rfl, rfl⟩) (m_right_lf ⟨1, dX10_plainBets_1, rfl, rfl, by decide +kernel⟩)) (m_right_nd (m_right_lf ⟨3, dX10_plainBets_2, rfl, rfl, 183, 1, 10, (yX10_ranBody, cX10_ranBody, 2, none), rfl, me_X10_ranBody, mc_X10_ranBody, Or.inl ⟨(RX10, TX10, 24), rfl, rfl⟩, wd_1265, wd_1267, wd_55, wd_71⟩) (m_right_nd (m_right_lf ⟨1, dX10_plainBets_5, rfl, rfl, rfl⟩) (m_right_lf ⟨1, dX10_plainBets_6, rfl, rfl, rfl⟩)))) (m_right_nd (m_right_nd (m_right_lf ⟨3, dX10_plainBets_7, rfl, rfl, 186, 1, 10, (yX10_movesActs, cX10_movesActs, 2, (some .int)), rfl, me_X10_movesActs, mc_X10_movesActs, Or.inl ⟨(RX10, TX10, 24), rfl, rfl⟩, wd_1258, wd_1260, wd_54, wd_71⟩) (m_right_lf ⟨1, dX10_plainBets_10, rfl, rfl, rfl⟩)) (m_right_nd (m_right_lf ⟨3, dX10_plainBets_11, rfl, rfl, 10, 23, rfl, Or.inl ⟨(RX10, TX10, 24), rfl, by decide, wd_889⟩⟩) (m_right_nd (m_right_lf ⟨1, dX10_plainBets_14, rfl, rfl⟩) (m_right_lf ⟨1, dX10_plainBets_15, rfl, 0, .int, rfl, rfl, Or.inl ⟨rfl, rfl⟩⟩))))
theorem dX10_betsActs_0 : decode cX10_betsActs 0 = .ok (.aload_n 0, 1) := by decide +kernel
theorem dX10_betsActs_1 : decode cX10_betsActs 1 = .ok (.getfield 246, 3) := by decide +kernel
theorem dX10_betsActs_4 : decode cX10_betsActs 4 = .ok (.iconst 2, 1) := by decide +kernel
theorem dX10_betsActs_5 : decode cX10_betsActs 5 = .ok (.invokestatic 249, 3) := by decide +kernel
theorem dX10_betsActs_8 : decode cX10_betsActs 8 = .ok (.ifCond .eq 16, 3) := by decide +kernel
theorem dX10_betsActs_11 : decode cX10_betsActs 11 = .ok (.aload_n 0, 1) := by decide +kernel
theorem dX10_betsActs_12 : decode cX10_betsActs 12 = .ok (.bipush 21, 2) := by decide +kernel
theorem dX10_betsActs_14 : decode cX10_betsActs 14 = .ok (.invokevirtual 240, 3) := by decide +kernel
theorem dX10_betsActs_17 : decode cX10_betsActs 17 = .ok (.aload_n 0, 1) := by decide +kernel
theorem dX10_betsActs_18 : decode cX10_betsActs 18 = .ok (.iload_n 1, 1) := by decide +kernel
theorem dX10_betsActs_19 : decode cX10_betsActs 19 = .ok (.invokevirtual 261, 3) := by decide +kernel
theorem dX10_betsActs_22 : decode cX10_betsActs 22 = .ok (.ineg, 1) := by decide +kernel
theorem dX10_betsActs_23 : decode cX10_betsActs 23 = .ok (.ireturn, 1) := by decide +kernel
theorem dX10_betsActs_24 : decode cX10_betsActs 24 = .ok (.aload_n 0, 1) := by decide +kernel
theorem dX10_betsActs_25 : decode cX10_betsActs 25 = .ok (.getfield 246, 3) := by decide +kernel
theorem dX10_betsActs_28 : decode cX10_betsActs 28 = .ok (.bipush 6, 2) := by decide +kernel
theorem dX10_betsActs_30 : decode cX10_betsActs 30 = .ok (.if_icmp .ne 20, 3) := by decide +kernel
theorem dX10_betsActs_33 : decode cX10_betsActs 33 = .ok (.aload_n 0, 1) := by decide +kernel
theorem dX10_betsActs_34 : decode cX10_betsActs 34 = .ok (.bipush 61, 2) := by decide +kernel
theorem dX10_betsActs_36 : decode cX10_betsActs 36 = .ok (.invokevirtual 240, 3) := by decide +kernel
theorem dX10_betsActs_39 : decode cX10_betsActs 39 = .ok (.aload_n 0, 1) := by decide +kernel
theorem dX10_betsActs_40 : decode cX10_betsActs 40 = .ok (.iload_n 1, 1) := by decide +kernel
theorem dX10_betsActs_41 : decode cX10_betsActs 41 = .ok (.invokevirtual 261, 3) := by decide +kernel
theorem dX10_betsActs_44 : decode cX10_betsActs 44 = .ok (.aload_n 0, 1) := by decide +kernel
theorem dX10_betsActs_45 : decode cX10_betsActs 45 = .ok (.getfield 258, 3) := by decide +kernel
theorem dX10_betsActs_48 : decode cX10_betsActs 48 = .ok (.iadd, 1) := by decide +kernel
theorem dX10_betsActs_49 : decode cX10_betsActs 49 = .ok (.ireturn, 1) := by decide +kernel
theorem dX10_betsActs_50 : decode cX10_betsActs 50 = .ok (.aload_n 0, 1) := by decide +kernel
theorem dX10_betsActs_51 : decode cX10_betsActs 51 = .ok (.iload_n 1, 1) := by decide +kernel
theorem dX10_betsActs_52 : decode cX10_betsActs 52 = .ok (.invokevirtual 261, 3) := by decide +kernel
theorem dX10_betsActs_55 : decode cX10_betsActs 55 = .ok (.ireturn, 1) := by decide +kernel
set_option maxRecDepth 20000 in
theorem r_X10_betsActs : m_Right (yX10_betsActs, cX10_betsActs, 2, (some .int)) q_X10_betsActs := m_right_nd (m_right_nd (m_right_nd (m_right_nd (m_right_lf ⟨1, dX10_betsActs_0, rfl, rfl, rfl⟩) (m_right_nd (m_right_lf ⟨3, dX10_betsActs_1, rfl, rfl, 10, 21, rfl, Or.inl ⟨(RX10, TX10, 24), rfl, by decide, wd_887⟩⟩) (m_right_lf ⟨1, dX10_betsActs_4, rfl, rfl, by decide +kernel⟩))) (m_right_nd (m_right_nd (m_right_lf ⟨3, dX10_betsActs_5, rfl, rfl, Or.inr (Or.inr ⟨184, 2, (yX10_isUnder, cX10_isUnder, 2, (some .boolean)), rfl, me_X10_isUnder, mc_X10_isUnder, wd_1262, wd_1263, wd_71⟩)⟩) (m_right_lf ⟨3, dX10_betsActs_8, rfl, rfl, 24, rfl, by decide⟩)) (m_right_nd (m_right_lf ⟨1, dX10_betsActs_11, rfl, rfl, rfl⟩) (m_right_lf ⟨2, dX10_betsActs_12, rfl, rfl, by decide +kernel⟩)))) (m_right_nd (m_right_nd (m_right_nd (m_right_lf ⟨3, dX10_betsActs_14, rfl, rfl, 183, 1, 10, (yX10_ranBody, cX10_ranBody, 2, none), rfl, me_X10_ranBody, mc_X10_ranBody, Or.inl ⟨(RX10, TX10, 24), rfl, rfl⟩, wd_1265, wd_1267, wd_55, wd_71⟩) (m_right_lf ⟨1, dX10_betsActs_17, rfl, rfl, rfl⟩)) (m_right_nd (m_right_lf ⟨1, dX10_betsActs_18, rfl, rfl, rfl⟩) (m_right_lf ⟨3, dX10_betsActs_19, rfl, rfl, 187, 1, 10, (yX10_plainBets, cX10_plainBets, 2, (some .int)), rfl, me_X10_plainBets, mc_X10_plainBets, Or.inl ⟨(RX10, TX10, 24), rfl, rfl⟩, wd_1277, wd_1279, wd_58, wd_71⟩))) (m_right_nd (m_right_nd (m_right_lf ⟨1, dX10_betsActs_22, rfl, rfl⟩) (m_right_lf ⟨1, dX10_betsActs_23, rfl, 0, .int, rfl, rfl, Or.inl ⟨rfl, rfl⟩⟩)) (m_right_nd (m_right_lf ⟨1, dX10_betsActs_24, rfl, rfl, rfl⟩) (m_right_lf ⟨3, dX10_betsActs_25, rfl, rfl, 10, 21, rfl, Or.inl ⟨(RX10, TX10, 24), rfl, by decide, wd_887⟩⟩))))) (m_right_nd (m_right_nd (m_right_nd (m_right_nd (m_right_lf ⟨2, dX10_betsActs_28, rfl, rfl, by decide +kernel⟩) (m_right_lf ⟨3, dX10_betsActs_30, rfl, rfl, 50, rfl, by decide⟩)) (m_right_nd (m_right_lf ⟨1, dX10_betsActs_33, rfl, rfl, rfl⟩) (m_right_lf ⟨2, dX10_betsActs_34, rfl, rfl, by decide +kernel⟩))) (m_right_nd (m_right_nd (m_right_lf ⟨3, dX10_betsActs_36, rfl, rfl, 183, 1, 10, (yX10_ranBody, cX10_ranBody, 2, none), rfl, me_X10_ranBody, mc_X10_ranBody, Or.inl ⟨(RX10, TX10, 24), rfl, rfl⟩, wd_1265, wd_1267, wd_55, wd_71⟩) (m_right_lf ⟨1, dX10_betsActs_39, rfl, rfl, rfl⟩)) (m_right_nd (m_right_lf ⟨1, dX10_betsActs_40, rfl, rfl, rfl⟩) (m_right_lf ⟨3, dX10_betsActs_41, rfl, rfl, 187, 1, 10, (yX10_plainBets, cX10_plainBets, 2, (some .int)), rfl, me_X10_plainBets, mc_X10_plainBets, Or.inl ⟨(RX10, TX10, 24), rfl, rfl⟩, wd_1277, wd_1279, wd_58, wd_71⟩)))) (m_right_nd (m_right_nd (m_right_nd (m_right_lf ⟨1, dX10_betsActs_44, rfl, rfl, rfl⟩) (m_right_lf ⟨3, dX10_betsActs_45, rfl, rfl, 10, 23, rfl, Or.inl ⟨(RX10, TX10, 24), rfl, by decide, wd_889⟩⟩)) (m_right_nd (m_right_lf ⟨1, dX10_betsActs_48, rfl, rfl⟩) (m_right_lf ⟨1, dX10_betsActs_49, rfl, 0, .int, rfl, rfl, Or.inl ⟨rfl, rfl⟩⟩))) (m_right_nd (m_right_nd (m_right_lf ⟨1, dX10_betsActs_50, rfl, rfl, rfl⟩) (m_right_lf ⟨1, dX10_betsActs_51, rfl, rfl, rfl⟩)) (m_right_nd (m_right_lf ⟨3, dX10_betsActs_52, rfl, rfl, 187, 1, 10, (yX10_plainBets, cX10_plainBets, 2, (some .int)), rfl, me_X10_plainBets, mc_X10_plainBets, Or.inl ⟨(RX10, TX10, 24), rfl, rfl⟩, wd_1277, wd_1279, wd_58, wd_71⟩) (m_right_lf ⟨1, dX10_betsActs_55, rfl, 0, .int, rfl, rfl, Or.inl ⟨rfl, rfl⟩⟩)))))
theorem dX10_plainTells_0 : decode cX10_plainTells 0 = .ok (.aload_n 0, 1) := by decide +kernel
theorem dX10_plainTells_1 : decode cX10_plainTells 1 = .ok (.iconst 3, 1) := by decide +kernel
theorem dX10_plainTells_2 : decode cX10_plainTells 2 = .ok (.invokevirtual 240, 3) := by decide +kernel
theorem dX10_plainTells_5 : decode cX10_plainTells 5 = .ok (.aload_n 0, 1) := by decide +kernel
theorem dX10_plainTells_6 : decode cX10_plainTells 6 = .ok (.iload_n 1, 1) := by decide +kernel
theorem dX10_plainTells_7 : decode cX10_plainTells 7 = .ok (.invokevirtual 264, 3) := by decide +kernel
theorem dX10_plainTells_10 : decode cX10_plainTells 10 = .ok (.iconst 2, 1) := by decide +kernel
theorem dX10_plainTells_11 : decode cX10_plainTells 11 = .ok (.imul, 1) := by decide +kernel
theorem dX10_plainTells_12 : decode cX10_plainTells 12 = .ok (.ireturn, 1) := by decide +kernel
set_option maxRecDepth 20000 in
theorem r_X10_plainTells : m_Right (yX10_plainTells, cX10_plainTells, 2, (some .int)) q_X10_plainTells := m_right_nd (m_right_nd (m_right_nd (m_right_lf ⟨1, dX10_plainTells_0, rfl, rfl, rfl⟩) (m_right_lf ⟨1, dX10_plainTells_1, rfl, rfl, by decide +kernel⟩)) (m_right_nd (m_right_lf ⟨3, dX10_plainTells_2, rfl, rfl, 183, 1, 10, (yX10_ranBody, cX10_ranBody, 2, none), rfl, me_X10_ranBody, mc_X10_ranBody, Or.inl ⟨(RX10, TX10, 24), rfl, rfl⟩, wd_1265, wd_1267, wd_55, wd_71⟩) (m_right_lf ⟨1, dX10_plainTells_5, rfl, rfl, rfl⟩))) (m_right_nd (m_right_nd (m_right_lf ⟨1, dX10_plainTells_6, rfl, rfl, rfl⟩) (m_right_lf ⟨3, dX10_plainTells_7, rfl, rfl, 188, 1, 10, (yX10_betsActs, cX10_betsActs, 2, (some .int)), rfl, me_X10_betsActs, mc_X10_betsActs, Or.inl ⟨(RX10, TX10, 24), rfl, rfl⟩, wd_1273, wd_1275, wd_57, wd_71⟩)) (m_right_nd (m_right_lf ⟨1, dX10_plainTells_10, rfl, rfl, by decide +kernel⟩) (m_right_nd (m_right_lf ⟨1, dX10_plainTells_11, rfl, rfl⟩) (m_right_lf ⟨1, dX10_plainTells_12, rfl, 0, .int, rfl, rfl, Or.inl ⟨rfl, rfl⟩⟩))))
theorem dX10_tellsActs_0 : decode cX10_tellsActs 0 = .ok (.aload_n 0, 1) := by decide +kernel
theorem dX10_tellsActs_1 : decode cX10_tellsActs 1 = .ok (.getfield 246, 3) := by decide +kernel
theorem dX10_tellsActs_4 : decode cX10_tellsActs 4 = .ok (.iconst 3, 1) := by decide +kernel
theorem dX10_tellsActs_5 : decode cX10_tellsActs 5 = .ok (.invokestatic 249, 3) := by decide +kernel
theorem dX10_tellsActs_8 : decode cX10_tellsActs 8 = .ok (.ifCond .eq 18, 3) := by decide +kernel
theorem dX10_tellsActs_11 : decode cX10_tellsActs 11 = .ok (.aload_n 0, 1) := by decide +kernel
theorem dX10_tellsActs_12 : decode cX10_tellsActs 12 = .ok (.bipush 31, 2) := by decide +kernel
theorem dX10_tellsActs_14 : decode cX10_tellsActs 14 = .ok (.invokevirtual 240, 3) := by decide +kernel
theorem dX10_tellsActs_17 : decode cX10_tellsActs 17 = .ok (.aload_n 0, 1) := by decide +kernel
theorem dX10_tellsActs_18 : decode cX10_tellsActs 18 = .ok (.iload_n 1, 1) := by decide +kernel
theorem dX10_tellsActs_19 : decode cX10_tellsActs 19 = .ok (.invokevirtual 267, 3) := by decide +kernel
theorem dX10_tellsActs_22 : decode cX10_tellsActs 22 = .ok (.bipush 7, 2) := by decide +kernel
theorem dX10_tellsActs_24 : decode cX10_tellsActs 24 = .ok (.ixor, 1) := by decide +kernel
theorem dX10_tellsActs_25 : decode cX10_tellsActs 25 = .ok (.ireturn, 1) := by decide +kernel
theorem dX10_tellsActs_26 : decode cX10_tellsActs 26 = .ok (.aload_n 0, 1) := by decide +kernel
theorem dX10_tellsActs_27 : decode cX10_tellsActs 27 = .ok (.getfield 246, 3) := by decide +kernel
theorem dX10_tellsActs_30 : decode cX10_tellsActs 30 = .ok (.iconst 4, 1) := by decide +kernel
theorem dX10_tellsActs_31 : decode cX10_tellsActs 31 = .ok (.if_icmp .ne 25, 3) := by decide +kernel
theorem dX10_tellsActs_34 : decode cX10_tellsActs 34 = .ok (.aload_n 0, 1) := by decide +kernel
theorem dX10_tellsActs_35 : decode cX10_tellsActs 35 = .ok (.bipush 41, 2) := by decide +kernel
theorem dX10_tellsActs_37 : decode cX10_tellsActs 37 = .ok (.invokevirtual 240, 3) := by decide +kernel
theorem dX10_tellsActs_40 : decode cX10_tellsActs 40 = .ok (.aload_n 0, 1) := by decide +kernel
theorem dX10_tellsActs_41 : decode cX10_tellsActs 41 = .ok (.iload_n 1, 1) := by decide +kernel
theorem dX10_tellsActs_42 : decode cX10_tellsActs 42 = .ok (.iconst 1, 1) := by decide +kernel
theorem dX10_tellsActs_43 : decode cX10_tellsActs 43 = .ok (.isub, 1) := by decide +kernel
theorem dX10_tellsActs_44 : decode cX10_tellsActs 44 = .ok (.invokevirtual 267, 3) := by decide +kernel
theorem dX10_tellsActs_47 : decode cX10_tellsActs 47 = .ok (.istore_n 2, 1) := by decide +kernel
theorem dX10_tellsActs_48 : decode cX10_tellsActs 48 = .ok (.iload_n 2, 1) := by decide +kernel
theorem dX10_tellsActs_49 : decode cX10_tellsActs 49 = .ok (.aload_n 0, 1) := by decide +kernel
theorem dX10_tellsActs_50 : decode cX10_tellsActs 50 = .ok (.iconst 2, 1) := by decide +kernel
theorem dX10_tellsActs_51 : decode cX10_tellsActs 51 = .ok (.invokevirtual 255, 3) := by decide +kernel
theorem dX10_tellsActs_54 : decode cX10_tellsActs 54 = .ok (.iadd, 1) := by decide +kernel
theorem dX10_tellsActs_55 : decode cX10_tellsActs 55 = .ok (.ireturn, 1) := by decide +kernel
theorem dX10_tellsActs_56 : decode cX10_tellsActs 56 = .ok (.aload_n 0, 1) := by decide +kernel
theorem dX10_tellsActs_57 : decode cX10_tellsActs 57 = .ok (.iload_n 1, 1) := by decide +kernel
theorem dX10_tellsActs_58 : decode cX10_tellsActs 58 = .ok (.invokevirtual 267, 3) := by decide +kernel
theorem dX10_tellsActs_61 : decode cX10_tellsActs 61 = .ok (.ireturn, 1) := by decide +kernel
set_option maxRecDepth 20000 in
theorem r_X10_tellsActs : m_Right (yX10_tellsActs, cX10_tellsActs, 3, (some .int)) q_X10_tellsActs := m_right_nd (m_right_nd (m_right_nd (m_right_nd (m_right_nd (m_right_lf ⟨1, dX10_tellsActs_0, rfl, rfl, rfl⟩) (m_right_lf ⟨3, dX10_tellsActs_1, rfl, rfl, 10, 21, rfl, Or.inl ⟨(RX10, TX10, 24), rfl, by decide, wd_887⟩⟩)) (m_right_nd (m_right_lf ⟨1, dX10_tellsActs_4, rfl, rfl, by decide +kernel⟩) (m_right_lf ⟨3, dX10_tellsActs_5, rfl, rfl, Or.inr (Or.inr ⟨184, 2, (yX10_isUnder, cX10_isUnder, 2, (some .boolean)), rfl, me_X10_isUnder, mc_X10_isUnder, wd_1262, wd_1263, wd_71⟩)⟩))) (m_right_nd (m_right_nd (m_right_lf ⟨3, dX10_tellsActs_8, rfl, rfl, 26, rfl, by decide⟩) (m_right_lf ⟨1, dX10_tellsActs_11, rfl, rfl, rfl⟩)) (m_right_nd (m_right_lf ⟨2, dX10_tellsActs_12, rfl, rfl, by decide +kernel⟩) (m_right_nd (m_right_lf ⟨3, dX10_tellsActs_14, rfl, rfl, 183, 1, 10, (yX10_ranBody, cX10_ranBody, 2, none), rfl, me_X10_ranBody, mc_X10_ranBody, Or.inl ⟨(RX10, TX10, 24), rfl, rfl⟩, wd_1265, wd_1267, wd_55, wd_71⟩) (m_right_lf ⟨1, dX10_tellsActs_17, rfl, rfl, rfl⟩))))) (m_right_nd (m_right_nd (m_right_nd (m_right_lf ⟨1, dX10_tellsActs_18, rfl, rfl, rfl⟩) (m_right_lf ⟨3, dX10_tellsActs_19, rfl, rfl, 189, 1, 10, (yX10_plainTells, cX10_plainTells, 2, (some .int)), rfl, me_X10_plainTells, mc_X10_plainTells, Or.inl ⟨(RX10, TX10, 24), rfl, rfl⟩, wd_1285, wd_1287, wd_60, wd_71⟩)) (m_right_nd (m_right_lf ⟨2, dX10_tellsActs_22, rfl, rfl, by decide +kernel⟩) (m_right_lf ⟨1, dX10_tellsActs_24, rfl, rfl⟩))) (m_right_nd (m_right_nd (m_right_lf ⟨1, dX10_tellsActs_25, rfl, 0, .int, rfl, rfl, Or.inl ⟨rfl, rfl⟩⟩) (m_right_lf ⟨1, dX10_tellsActs_26, rfl, rfl, rfl⟩)) (m_right_nd (m_right_lf ⟨3, dX10_tellsActs_27, rfl, rfl, 10, 21, rfl, Or.inl ⟨(RX10, TX10, 24), rfl, by decide, wd_887⟩⟩) (m_right_nd (m_right_lf ⟨1, dX10_tellsActs_30, rfl, rfl, by decide +kernel⟩) (m_right_lf ⟨3, dX10_tellsActs_31, rfl, rfl, 56, rfl, by decide⟩)))))) (m_right_nd (m_right_nd (m_right_nd (m_right_nd (m_right_lf ⟨1, dX10_tellsActs_34, rfl, rfl, rfl⟩) (m_right_lf ⟨2, dX10_tellsActs_35, rfl, rfl, by decide +kernel⟩)) (m_right_nd (m_right_lf ⟨3, dX10_tellsActs_37, rfl, rfl, 183, 1, 10, (yX10_ranBody, cX10_ranBody, 2, none), rfl, me_X10_ranBody, mc_X10_ranBody, Or.inl ⟨(RX10, TX10, 24), rfl, rfl⟩, wd_1265, wd_1267, wd_55, wd_71⟩) (m_right_lf ⟨1, dX10_tellsActs_40, rfl, rfl, rfl⟩))) (m_right_nd (m_right_nd (m_right_lf ⟨1, dX10_tellsActs_41, rfl, rfl, rfl⟩) (m_right_lf ⟨1, dX10_tellsActs_42, rfl, rfl, by decide +kernel⟩)) (m_right_nd (m_right_lf ⟨1, dX10_tellsActs_43, rfl, rfl⟩) (m_right_nd (m_right_lf ⟨3, dX10_tellsActs_44, rfl, rfl, 189, 1, 10, (yX10_plainTells, cX10_plainTells, 2, (some .int)), rfl, me_X10_plainTells, mc_X10_plainTells, Or.inl ⟨(RX10, TX10, 24), rfl, rfl⟩, wd_1285, wd_1287, wd_60, wd_71⟩) (m_right_lf ⟨1, dX10_tellsActs_47, rfl, rfl, rfl⟩))))) (m_right_nd (m_right_nd (m_right_nd (m_right_lf ⟨1, dX10_tellsActs_48, rfl, rfl, rfl⟩) (m_right_lf ⟨1, dX10_tellsActs_49, rfl, rfl, rfl⟩)) (m_right_nd (m_right_lf ⟨1, dX10_tellsActs_50, rfl, rfl, by decide +kernel⟩) (m_right_nd (m_right_lf ⟨3, dX10_tellsActs_51, rfl, rfl, 186, 1, 10, (yX10_movesActs, cX10_movesActs, 2, (some .int)), rfl, me_X10_movesActs, mc_X10_movesActs, Or.inl ⟨(RX10, TX10, 24), rfl, rfl⟩, wd_1258, wd_1260, wd_54, wd_71⟩) (m_right_lf ⟨1, dX10_tellsActs_54, rfl, rfl⟩)))) (m_right_nd (m_right_nd (m_right_lf ⟨1, dX10_tellsActs_55, rfl, 0, .int, rfl, rfl, Or.inl ⟨rfl, rfl⟩⟩) (m_right_lf ⟨1, dX10_tellsActs_56, rfl, rfl, rfl⟩)) (m_right_nd (m_right_lf ⟨1, dX10_tellsActs_57, rfl, rfl, rfl⟩) (m_right_nd (m_right_lf ⟨3, dX10_tellsActs_58, rfl, rfl, 189, 1, 10, (yX10_plainTells, cX10_plainTells, 2, (some .int)), rfl, me_X10_plainTells, mc_X10_plainTells, Or.inl ⟨(RX10, TX10, 24), rfl, rfl⟩, wd_1285, wd_1287, wd_60, wd_71⟩) (m_right_lf ⟨1, dX10_tellsActs_61, rfl, 0, .int, rfl, rfl, Or.inl ⟨rfl, rfl⟩⟩))))))
theorem dX10_act_0 : decode cX10_act 0 = .ok (.aload_n 0, 1) := by decide +kernel
theorem dX10_act_1 : decode cX10_act 1 = .ok (.iconst 0, 1) := by decide +kernel
theorem dX10_act_2 : decode cX10_act 2 = .ok (.putfield 237, 3) := by decide +kernel
theorem dX10_act_5 : decode cX10_act 5 = .ok (.aload_n 0, 1) := by decide +kernel
theorem dX10_act_6 : decode cX10_act 6 = .ok (.iload_n 1, 1) := by decide +kernel
theorem dX10_act_7 : decode cX10_act 7 = .ok (.invokevirtual 52, 3) := by decide +kernel
theorem dX10_act_10 : decode cX10_act 10 = .ok (.ifCond .eq 12, 3) := by decide +kernel
theorem dX10_act_13 : decode cX10_act 13 = .ok (.iload_n 2, 1) := by decide +kernel
theorem dX10_act_14 : decode cX10_act 14 = .ok (.iconst 0, 1) := by decide +kernel
theorem dX10_act_15 : decode cX10_act 15 = .ok (.iconst 2, 1) := by decide +kernel
theorem dX10_act_16 : decode cX10_act 16 = .ok (.invokestatic 48, 3) := by decide +kernel
theorem dX10_act_19 : decode cX10_act 19 = .ok (.ifCond .ne 5, 3) := by decide +kernel
theorem dX10_act_22 : decode cX10_act 22 = .ok (.iconst 0, 1) := by decide +kernel
theorem dX10_act_23 : decode cX10_act 23 = .ok (.ireturn, 1) := by decide +kernel
theorem dX10_act_24 : decode cX10_act 24 = .ok (.aload_n 0, 1) := by decide +kernel
theorem dX10_act_25 : decode cX10_act 25 = .ok (.aload_n 0, 1) := by decide +kernel
theorem dX10_act_26 : decode cX10_act 26 = .ok (.getfield 9, 3) := by decide +kernel
theorem dX10_act_29 : decode cX10_act 29 = .ok (.bipush 12, 2) := by decide +kernel
theorem dX10_act_31 : decode cX10_act 31 = .ok (.iload_n 1, 1) := by decide +kernel
theorem dX10_act_32 : decode cX10_act 32 = .ok (.iadd, 1) := by decide +kernel
theorem dX10_act_33 : decode cX10_act 33 = .ok (.iaload, 1) := by decide +kernel
theorem dX10_act_34 : decode cX10_act 34 = .ok (.putfield 246, 3) := by decide +kernel
theorem dX10_act_37 : decode cX10_act 37 = .ok (.aload_n 0, 1) := by decide +kernel
theorem dX10_act_38 : decode cX10_act 38 = .ok (.iload_n 1, 1) := by decide +kernel
theorem dX10_act_39 : decode cX10_act 39 = .ok (.putfield 243, 3) := by decide +kernel
theorem dX10_act_42 : decode cX10_act 42 = .ok (.aload_n 0, 1) := by decide +kernel
theorem dX10_act_43 : decode cX10_act 43 = .ok (.aload_n 0, 1) := by decide +kernel
theorem dX10_act_44 : decode cX10_act 44 = .ok (.getfield 9, 3) := by decide +kernel
theorem dX10_act_47 : decode cX10_act 47 = .ok (.bipush 17, 2) := by decide +kernel
theorem dX10_act_49 : decode cX10_act 49 = .ok (.iload_n 1, 1) := by decide +kernel
theorem dX10_act_50 : decode cX10_act 50 = .ok (.iadd, 1) := by decide +kernel
theorem dX10_act_51 : decode cX10_act 51 = .ok (.iaload, 1) := by decide +kernel
theorem dX10_act_52 : decode cX10_act 52 = .ok (.putfield 258, 3) := by decide +kernel
theorem dX10_act_55 : decode cX10_act 55 = .ok (.iload_n 2, 1) := by decide +kernel
theorem dX10_act_56 : decode cX10_act 56 = .ok (.ifCond .ne 11, 3) := by decide +kernel
theorem dX10_act_59 : decode cX10_act 59 = .ok (.aload_n 0, 1) := by decide +kernel
theorem dX10_act_60 : decode cX10_act 60 = .ok (.iload_n 3, 1) := by decide +kernel
theorem dX10_act_61 : decode cX10_act 61 = .ok (.invokevirtual 255, 3) := by decide +kernel
theorem dX10_act_64 : decode cX10_act 64 = .ok (.goto 21, 3) := by decide +kernel
theorem dX10_act_67 : decode cX10_act 67 = .ok (.iload_n 2, 1) := by decide +kernel
theorem dX10_act_68 : decode cX10_act 68 = .ok (.iconst 1, 1) := by decide +kernel
theorem dX10_act_69 : decode cX10_act 69 = .ok (.if_icmp .ne 11, 3) := by decide +kernel
theorem dX10_act_72 : decode cX10_act 72 = .ok (.aload_n 0, 1) := by decide +kernel
theorem dX10_act_73 : decode cX10_act 73 = .ok (.iload_n 3, 1) := by decide +kernel
theorem dX10_act_74 : decode cX10_act 74 = .ok (.invokevirtual 264, 3) := by decide +kernel
theorem dX10_act_77 : decode cX10_act 77 = .ok (.goto 8, 3) := by decide +kernel
theorem dX10_act_80 : decode cX10_act 80 = .ok (.aload_n 0, 1) := by decide +kernel
theorem dX10_act_81 : decode cX10_act 81 = .ok (.iload_n 3, 1) := by decide +kernel
theorem dX10_act_82 : decode cX10_act 82 = .ok (.invokevirtual 270, 3) := by decide +kernel
theorem dX10_act_85 : decode cX10_act 85 = .ok (.ireturn, 1) := by decide +kernel
set_option maxRecDepth 20000 in
theorem r_X10_act : m_Right (yX10_act, cX10_act, 4, (some .int)) q_X10_act := m_right_nd (m_right_nd (m_right_nd (m_right_nd (m_right_nd (m_right_lf ⟨1, dX10_act_0, rfl, rfl, rfl⟩) (m_right_nd (m_right_lf ⟨1, dX10_act_1, rfl, rfl, by decide +kernel⟩) (m_right_lf ⟨3, dX10_act_2, rfl, rfl, 10, 20, 0, (RX10, TX10, 24), rfl, rfl, by decide, wd_886, Or.inl rfl, tyX10 20, tyX10_ok 20 (by decide), Or.inl ⟨rfl, rfl⟩⟩))) (m_right_nd (m_right_lf ⟨1, dX10_act_5, rfl, rfl, rfl⟩) (m_right_nd (m_right_lf ⟨1, dX10_act_6, rfl, rfl, rfl⟩) (m_right_lf ⟨3, dX10_act_7, rfl, rfl, 119, 1, 10, (yX10_isPlayer, cX10_isPlayer, 2, (some .boolean)), rfl, me_X10_isPlayer, mc_X10_isPlayer, Or.inl ⟨(RX10, TX10, 24), rfl, rfl⟩, wd_1065, wd_1067, wd_31, wd_71⟩)))) (m_right_nd (m_right_nd (m_right_lf ⟨3, dX10_act_10, rfl, rfl, 22, rfl, by decide⟩) (m_right_nd (m_right_lf ⟨1, dX10_act_13, rfl, rfl, rfl⟩) (m_right_lf ⟨1, dX10_act_14, rfl, rfl, by decide +kernel⟩))) (m_right_nd (m_right_lf ⟨1, dX10_act_15, rfl, rfl, by decide +kernel⟩) (m_right_nd (m_right_lf ⟨3, dX10_act_16, rfl, rfl, Or.inr (Or.inr ⟨118, 3, (yX10_in, cX10_in, 3, (some .boolean)), rfl, me_X10_in, mc_X10_in, wd_943, wd_944, wd_71⟩)⟩) (m_right_lf ⟨3, dX10_act_19, rfl, rfl, 24, rfl, by decide⟩))))) (m_right_nd (m_right_nd (m_right_nd (m_right_lf ⟨1, dX10_act_22, rfl, rfl, by decide +kernel⟩) (m_right_nd (m_right_lf ⟨1, dX10_act_23, rfl, 0, .int, rfl, rfl, Or.inl ⟨rfl, rfl⟩⟩) (m_right_lf ⟨1, dX10_act_24, rfl, rfl, rfl⟩))) (m_right_nd (m_right_lf ⟨1, dX10_act_25, rfl, rfl, rfl⟩) (m_right_nd (m_right_lf ⟨3, dX10_act_26, rfl, rfl, 10, 1, rfl, Or.inl ⟨(RX10, TX10, 24), rfl, by decide, wd_867⟩⟩) (m_right_lf ⟨2, dX10_act_29, rfl, rfl, by decide +kernel⟩)))) (m_right_nd (m_right_nd (m_right_lf ⟨1, dX10_act_31, rfl, rfl, rfl⟩) (m_right_nd (m_right_lf ⟨1, dX10_act_32, rfl, rfl⟩) (m_right_lf ⟨1, dX10_act_33, rfl, rfl⟩))) (m_right_nd (m_right_nd (m_right_lf ⟨3, dX10_act_34, rfl, rfl, 10, 21, 0, (RX10, TX10, 24), rfl, rfl, by decide, wd_887, Or.inl rfl, tyX10 21, tyX10_ok 21 (by decide), Or.inl ⟨rfl, rfl⟩⟩) (m_right_lf ⟨1, dX10_act_37, rfl, rfl, rfl⟩)) (m_right_nd (m_right_lf ⟨1, dX10_act_38, rfl, rfl, rfl⟩) (m_right_lf ⟨3, dX10_act_39, rfl, rfl, 10, 22, 0, (RX10, TX10, 24), rfl, rfl, by decide, wd_888, Or.inl rfl, tyX10 22, tyX10_ok 22 (by decide), Or.inl ⟨rfl, rfl⟩⟩)))))) (m_right_nd (m_right_nd (m_right_nd (m_right_nd (m_right_lf ⟨1, dX10_act_42, rfl, rfl, rfl⟩) (m_right_nd (m_right_lf ⟨1, dX10_act_43, rfl, rfl, rfl⟩) (m_right_lf ⟨3, dX10_act_44, rfl, rfl, 10, 1, rfl, Or.inl ⟨(RX10, TX10, 24), rfl, by decide, wd_867⟩⟩))) (m_right_nd (m_right_lf ⟨2, dX10_act_47, rfl, rfl, by decide +kernel⟩) (m_right_nd (m_right_lf ⟨1, dX10_act_49, rfl, rfl, rfl⟩) (m_right_lf ⟨1, dX10_act_50, rfl, rfl⟩)))) (m_right_nd (m_right_nd (m_right_lf ⟨1, dX10_act_51, rfl, rfl⟩) (m_right_nd (m_right_lf ⟨3, dX10_act_52, rfl, rfl, 10, 23, 0, (RX10, TX10, 24), rfl, rfl, by decide, wd_889, Or.inl rfl, tyX10 23, tyX10_ok 23 (by decide), Or.inl ⟨rfl, rfl⟩⟩) (m_right_lf ⟨1, dX10_act_55, rfl, rfl, rfl⟩))) (m_right_nd (m_right_lf ⟨3, dX10_act_56, rfl, rfl, 67, rfl, by decide⟩) (m_right_nd (m_right_lf ⟨1, dX10_act_59, rfl, rfl, rfl⟩) (m_right_lf ⟨1, dX10_act_60, rfl, rfl, rfl⟩))))) (m_right_nd (m_right_nd (m_right_nd (m_right_lf ⟨3, dX10_act_61, rfl, rfl, 186, 1, 10, (yX10_movesActs, cX10_movesActs, 2, (some .int)), rfl, me_X10_movesActs, mc_X10_movesActs, Or.inl ⟨(RX10, TX10, 24), rfl, rfl⟩, wd_1258, wd_1260, wd_54, wd_71⟩) (m_right_nd (m_right_lf ⟨3, dX10_act_64, rfl, 85, rfl, by decide⟩) (m_right_lf ⟨1, dX10_act_67, rfl, rfl, rfl⟩))) (m_right_nd (m_right_lf ⟨1, dX10_act_68, rfl, rfl, by decide +kernel⟩) (m_right_nd (m_right_lf ⟨3, dX10_act_69, rfl, rfl, 80, rfl, by decide⟩) (m_right_lf ⟨1, dX10_act_72, rfl, rfl, rfl⟩)))) (m_right_nd (m_right_nd (m_right_lf ⟨1, dX10_act_73, rfl, rfl, rfl⟩) (m_right_nd (m_right_lf ⟨3, dX10_act_74, rfl, rfl, 188, 1, 10, (yX10_betsActs, cX10_betsActs, 2, (some .int)), rfl, me_X10_betsActs, mc_X10_betsActs, Or.inl ⟨(RX10, TX10, 24), rfl, rfl⟩, wd_1273, wd_1275, wd_57, wd_71⟩) (m_right_lf ⟨3, dX10_act_77, rfl, 85, rfl, by decide⟩))) (m_right_nd (m_right_nd (m_right_lf ⟨1, dX10_act_80, rfl, rfl, rfl⟩) (m_right_lf ⟨1, dX10_act_81, rfl, rfl, rfl⟩)) (m_right_nd (m_right_lf ⟨3, dX10_act_82, rfl, rfl, 190, 1, 10, (yX10_tellsActs, cX10_tellsActs, 3, (some .int)), rfl, me_X10_tellsActs, mc_X10_tellsActs, Or.inl ⟨(RX10, TX10, 24), rfl, rfl⟩, wd_1281, wd_1283, wd_59, wd_71⟩) (m_right_lf ⟨1, dX10_act_85, rfl, 0, .int, rfl, rfl, Or.inl ⟨rfl, rfl⟩⟩))))))
theorem dX10_trace_0 : decode cX10_trace 0 = .ok (.iload_n 1, 1) := by decide +kernel
theorem dX10_trace_1 : decode cX10_trace 1 = .ok (.iconst 0, 1) := by decide +kernel
theorem dX10_trace_2 : decode cX10_trace 2 = .ok (.aload_n 0, 1) := by decide +kernel
theorem dX10_trace_3 : decode cX10_trace 3 = .ok (.getfield 237, 3) := by decide +kernel
theorem dX10_trace_6 : decode cX10_trace 6 = .ok (.bipush 20, 2) := by decide +kernel
theorem dX10_trace_8 : decode cX10_trace 8 = .ok (.if_icmp .ge 10, 3) := by decide +kernel
theorem dX10_trace_11 : decode cX10_trace 11 = .ok (.aload_n 0, 1) := by decide +kernel
theorem dX10_trace_12 : decode cX10_trace 12 = .ok (.getfield 237, 3) := by decide +kernel
theorem dX10_trace_15 : decode cX10_trace 15 = .ok (.goto 5, 3) := by decide +kernel
theorem dX10_trace_18 : decode cX10_trace 18 = .ok (.bipush 20, 2) := by decide +kernel
theorem dX10_trace_20 : decode cX10_trace 20 = .ok (.iconst 1, 1) := by decide +kernel
theorem dX10_trace_21 : decode cX10_trace 21 = .ok (.isub, 1) := by decide +kernel
theorem dX10_trace_22 : decode cX10_trace 22 = .ok (.invokestatic 48, 3) := by decide +kernel
theorem dX10_trace_25 : decode cX10_trace 25 = .ok (.ifCond .eq 12, 3) := by decide +kernel
theorem dX10_trace_28 : decode cX10_trace 28 = .ok (.aload_n 0, 1) := by decide +kernel
theorem dX10_trace_29 : decode cX10_trace 29 = .ok (.getfield 41, 3) := by decide +kernel
theorem dX10_trace_32 : decode cX10_trace 32 = .ok (.iload_n 1, 1) := by decide +kernel
theorem dX10_trace_33 : decode cX10_trace 33 = .ok (.iaload, 1) := by decide +kernel
theorem dX10_trace_34 : decode cX10_trace 34 = .ok (.goto 4, 3) := by decide +kernel
theorem dX10_trace_37 : decode cX10_trace 37 = .ok (.iconst (-1), 1) := by decide +kernel
theorem dX10_trace_38 : decode cX10_trace 38 = .ok (.ireturn, 1) := by decide +kernel
set_option maxRecDepth 20000 in
theorem r_X10_trace : m_Right (yX10_trace, cX10_trace, 2, (some .int)) q_X10_trace := m_right_nd (m_right_nd (m_right_nd (m_right_nd (m_right_lf ⟨1, dX10_trace_0, rfl, rfl, rfl⟩) (m_right_lf ⟨1, dX10_trace_1, rfl, rfl, by decide +kernel⟩)) (m_right_nd (m_right_lf ⟨1, dX10_trace_2, rfl, rfl, rfl⟩) (m_right_nd (m_right_lf ⟨3, dX10_trace_3, rfl, rfl, 10, 20, rfl, Or.inl ⟨(RX10, TX10, 24), rfl, by decide, wd_886⟩⟩) (m_right_lf ⟨2, dX10_trace_6, rfl, rfl, by decide +kernel⟩)))) (m_right_nd (m_right_nd (m_right_lf ⟨3, dX10_trace_8, rfl, rfl, 18, rfl, by decide⟩) (m_right_lf ⟨1, dX10_trace_11, rfl, rfl, rfl⟩)) (m_right_nd (m_right_lf ⟨3, dX10_trace_12, rfl, rfl, 10, 20, rfl, Or.inl ⟨(RX10, TX10, 24), rfl, by decide, wd_886⟩⟩) (m_right_nd (m_right_lf ⟨3, dX10_trace_15, rfl, 20, rfl, by decide⟩) (m_right_lf ⟨2, dX10_trace_18, rfl, rfl, by decide +kernel⟩))))) (m_right_nd (m_right_nd (m_right_nd (m_right_lf ⟨1, dX10_trace_20, rfl, rfl, by decide +kernel⟩) (m_right_lf ⟨1, dX10_trace_21, rfl, rfl⟩)) (m_right_nd (m_right_lf ⟨3, dX10_trace_22, rfl, rfl, Or.inr (Or.inr ⟨118, 3, (yX10_in, cX10_in, 3, (some .boolean)), rfl, me_X10_in, mc_X10_in, wd_943, wd_944, wd_71⟩)⟩) (m_right_nd (m_right_lf ⟨3, dX10_trace_25, rfl, rfl, 37, rfl, by decide⟩) (m_right_lf ⟨1, dX10_trace_28, rfl, rfl, rfl⟩)))) (m_right_nd (m_right_nd (m_right_lf ⟨3, dX10_trace_29, rfl, rfl, 10, 19, rfl, Or.inl ⟨(RX10, TX10, 24), rfl, by decide, wd_885⟩⟩) (m_right_nd (m_right_lf ⟨1, dX10_trace_32, rfl, rfl, rfl⟩) (m_right_lf ⟨1, dX10_trace_33, rfl, rfl⟩))) (m_right_nd (m_right_lf ⟨3, dX10_trace_34, rfl, 38, rfl, by decide⟩) (m_right_nd (m_right_lf ⟨1, dX10_trace_37, rfl, rfl, by decide +kernel⟩) (m_right_lf ⟨1, dX10_trace_38, rfl, 0, .int, rfl, rfl, Or.inl ⟨rfl, rfl⟩⟩)))))
theorem dX10_as_0 : decode cX10_as 0 = .ok (.aload_n 0, 1) := by decide +kernel
theorem dX10_as_1 : decode cX10_as 1 = .ok (.iload_n 1, 1) := by decide +kernel
theorem dX10_as_2 : decode cX10_as 2 = .ok (.invokevirtual 52, 3) := by decide +kernel
theorem dX10_as_5 : decode cX10_as 5 = .ok (.ifCond .eq 13, 3) := by decide +kernel
theorem dX10_as_8 : decode cX10_as 8 = .ok (.iload_n 2, 1) := by decide +kernel
theorem dX10_as_9 : decode cX10_as 9 = .ok (.iconst 0, 1) := by decide +kernel
theorem dX10_as_10 : decode cX10_as 10 = .ok (.bipush 6, 2) := by decide +kernel
theorem dX10_as_12 : decode cX10_as 12 = .ok (.invokestatic 48, 3) := by decide +kernel
theorem dX10_as_15 : decode cX10_as 15 = .ok (.ifCond .ne 5, 3) := by decide +kernel
theorem dX10_as_18 : decode cX10_as 18 = .ok (.iconst (-1), 1) := by decide +kernel
theorem dX10_as_19 : decode cX10_as 19 = .ok (.ireturn, 1) := by decide +kernel
theorem dX10_as_20 : decode cX10_as 20 = .ok (.aload_n 0, 1) := by decide +kernel
theorem dX10_as_21 : decode cX10_as 21 = .ok (.getfield 9, 3) := by decide +kernel
theorem dX10_as_24 : decode cX10_as 24 = .ok (.bipush 12, 2) := by decide +kernel
theorem dX10_as_26 : decode cX10_as 26 = .ok (.iload_n 1, 1) := by decide +kernel
theorem dX10_as_27 : decode cX10_as 27 = .ok (.iadd, 1) := by decide +kernel
theorem dX10_as_28 : decode cX10_as 28 = .ok (.iaload, 1) := by decide +kernel
theorem dX10_as_29 : decode cX10_as 29 = .ok (.iload_n 2, 1) := by decide +kernel
theorem dX10_as_30 : decode cX10_as 30 = .ok (.invokestatic 249, 3) := by decide +kernel
theorem dX10_as_33 : decode cX10_as 33 = .ok (.ifCond .eq 15, 3) := by decide +kernel
theorem dX10_as_36 : decode cX10_as 36 = .ok (.aload_n 0, 1) := by decide +kernel
theorem dX10_as_37 : decode cX10_as 37 = .ok (.getfield 9, 3) := by decide +kernel
theorem dX10_as_40 : decode cX10_as 40 = .ok (.bipush 17, 2) := by decide +kernel
theorem dX10_as_42 : decode cX10_as 42 = .ok (.iload_n 1, 1) := by decide +kernel
theorem dX10_as_43 : decode cX10_as 43 = .ok (.iadd, 1) := by decide +kernel
theorem dX10_as_44 : decode cX10_as 44 = .ok (.iaload, 1) := by decide +kernel
theorem dX10_as_45 : decode cX10_as 45 = .ok (.goto 5, 3) := by decide +kernel
theorem dX10_as_48 : decode cX10_as 48 = .ok (.bipush (-6), 2) := by decide +kernel
theorem dX10_as_50 : decode cX10_as 50 = .ok (.ireturn, 1) := by decide +kernel
set_option maxRecDepth 20000 in
theorem r_X10_as : m_Right (yX10_as, cX10_as, 3, (some .int)) q_X10_as := m_right_nd (m_right_nd (m_right_nd (m_right_nd (m_right_lf ⟨1, dX10_as_0, rfl, rfl, rfl⟩) (m_right_nd (m_right_lf ⟨1, dX10_as_1, rfl, rfl, rfl⟩) (m_right_lf ⟨3, dX10_as_2, rfl, rfl, 119, 1, 10, (yX10_isPlayer, cX10_isPlayer, 2, (some .boolean)), rfl, me_X10_isPlayer, mc_X10_isPlayer, Or.inl ⟨(RX10, TX10, 24), rfl, rfl⟩, wd_1065, wd_1067, wd_31, wd_71⟩))) (m_right_nd (m_right_nd (m_right_lf ⟨3, dX10_as_5, rfl, rfl, 18, rfl, by decide⟩) (m_right_lf ⟨1, dX10_as_8, rfl, rfl, rfl⟩)) (m_right_nd (m_right_lf ⟨1, dX10_as_9, rfl, rfl, by decide +kernel⟩) (m_right_lf ⟨2, dX10_as_10, rfl, rfl, by decide +kernel⟩)))) (m_right_nd (m_right_nd (m_right_lf ⟨3, dX10_as_12, rfl, rfl, Or.inr (Or.inr ⟨118, 3, (yX10_in, cX10_in, 3, (some .boolean)), rfl, me_X10_in, mc_X10_in, wd_943, wd_944, wd_71⟩)⟩) (m_right_nd (m_right_lf ⟨3, dX10_as_15, rfl, rfl, 20, rfl, by decide⟩) (m_right_lf ⟨1, dX10_as_18, rfl, rfl, by decide +kernel⟩))) (m_right_nd (m_right_nd (m_right_lf ⟨1, dX10_as_19, rfl, 0, .int, rfl, rfl, Or.inl ⟨rfl, rfl⟩⟩) (m_right_lf ⟨1, dX10_as_20, rfl, rfl, rfl⟩)) (m_right_nd (m_right_lf ⟨3, dX10_as_21, rfl, rfl, 10, 1, rfl, Or.inl ⟨(RX10, TX10, 24), rfl, by decide, wd_867⟩⟩) (m_right_lf ⟨2, dX10_as_24, rfl, rfl, by decide +kernel⟩))))) (m_right_nd (m_right_nd (m_right_nd (m_right_lf ⟨1, dX10_as_26, rfl, rfl, rfl⟩) (m_right_nd (m_right_lf ⟨1, dX10_as_27, rfl, rfl⟩) (m_right_lf ⟨1, dX10_as_28, rfl, rfl⟩))) (m_right_nd (m_right_nd (m_right_lf ⟨1, dX10_as_29, rfl, rfl, rfl⟩) (m_right_lf ⟨3, dX10_as_30, rfl, rfl, Or.inr (Or.inr ⟨184, 2, (yX10_isUnder, cX10_isUnder, 2, (some .boolean)), rfl, me_X10_isUnder, mc_X10_isUnder, wd_1262, wd_1263, wd_71⟩)⟩)) (m_right_nd (m_right_lf ⟨3, dX10_as_33, rfl, rfl, 48, rfl, by decide⟩) (m_right_lf ⟨1, dX10_as_36, rfl, rfl, rfl⟩)))) (m_right_nd (m_right_nd (m_right_nd (m_right_lf ⟨3, dX10_as_37, rfl, rfl, 10, 1, rfl, Or.inl ⟨(RX10, TX10, 24), rfl, by decide, wd_867⟩⟩) (m_right_lf ⟨2, dX10_as_40, rfl, rfl, by decide +kernel⟩)) (m_right_nd (m_right_lf ⟨1, dX10_as_42, rfl, rfl, rfl⟩) (m_right_lf ⟨1, dX10_as_43, rfl, rfl⟩))) (m_right_nd (m_right_nd (m_right_lf ⟨1, dX10_as_44, rfl, rfl⟩) (m_right_lf ⟨3, dX10_as_45, rfl, 50, rfl, by decide⟩)) (m_right_nd (m_right_lf ⟨2, dX10_as_48, rfl, rfl, by decide +kernel⟩) (m_right_lf ⟨1, dX10_as_50, rfl, 0, .int, rfl, rfl, Or.inl ⟨rfl, rfl⟩⟩)))))
theorem dX10_image_0 : decode cX10_image 0 = .ok (.iconst 0, 1) := by decide +kernel
theorem dX10_image_1 : decode cX10_image 1 = .ok (.istore_n 1, 1) := by decide +kernel
theorem dX10_image_2 : decode cX10_image 2 = .ok (.iload_n 1, 1) := by decide +kernel
theorem dX10_image_3 : decode cX10_image 3 = .ok (.sipush 889, 3) := by decide +kernel
theorem dX10_image_6 : decode cX10_image 6 = .ok (.if_icmp .ge 21, 3) := by decide +kernel
theorem dX10_image_9 : decode cX10_image 9 = .ok (.aload_n 0, 1) := by decide +kernel
theorem dX10_image_10 : decode cX10_image 10 = .ok (.getfield 15, 3) := by decide +kernel
theorem dX10_image_13 : decode cX10_image 13 = .ok (.iload_n 1, 1) := by decide +kernel
theorem dX10_image_14 : decode cX10_image 14 = .ok (.aload_n 0, 1) := by decide +kernel
theorem dX10_image_15 : decode cX10_image 15 = .ok (.getfield 9, 3) := by decide +kernel
theorem dX10_image_18 : decode cX10_image 18 = .ok (.iload_n 1, 1) := by decide +kernel
theorem dX10_image_19 : decode cX10_image 19 = .ok (.iaload, 1) := by decide +kernel
theorem dX10_image_20 : decode cX10_image 20 = .ok (.iastore, 1) := by decide +kernel
theorem dX10_image_21 : decode cX10_image 21 = .ok (.iinc 1 1, 3) := by decide +kernel
theorem dX10_image_24 : decode cX10_image 24 = .ok (.goto (-22), 3) := by decide +kernel
theorem dX10_image_27 : decode cX10_image 27 = .ok (.aload_n 0, 1) := by decide +kernel
theorem dX10_image_28 : decode cX10_image 28 = .ok (.iconst 1, 1) := by decide +kernel
theorem dX10_image_29 : decode cX10_image 29 = .ok (.putfield 273, 3) := by decide +kernel
theorem dX10_image_32 : decode cX10_image 32 = .ok (.aload_n 0, 1) := by decide +kernel
theorem dX10_image_33 : decode cX10_image 33 = .ok (.getfield 9, 3) := by decide +kernel
theorem dX10_image_36 : decode cX10_image 36 = .ok (.bipush 6, 2) := by decide +kernel
theorem dX10_image_38 : decode cX10_image 38 = .ok (.iaload, 1) := by decide +kernel
theorem dX10_image_39 : decode cX10_image 39 = .ok (.ireturn, 1) := by decide +kernel
set_option maxRecDepth 20000 in
theorem r_X10_image : m_Right (yX10_image, cX10_image, 2, (some .int)) q_X10_image := m_right_nd (m_right_nd (m_right_nd (m_right_nd (m_right_lf ⟨1, dX10_image_0, rfl, rfl, by decide +kernel⟩) (m_right_lf ⟨1, dX10_image_1, rfl, rfl, rfl⟩)) (m_right_nd (m_right_lf ⟨1, dX10_image_2, rfl, rfl, rfl⟩) (m_right_nd (m_right_lf ⟨3, dX10_image_3, rfl, rfl, by decide +kernel⟩) (m_right_lf ⟨3, dX10_image_6, rfl, rfl, 27, rfl, by decide⟩)))) (m_right_nd (m_right_nd (m_right_lf ⟨1, dX10_image_9, rfl, rfl, rfl⟩) (m_right_nd (m_right_lf ⟨3, dX10_image_10, rfl, rfl, 10, 2, rfl, Or.inl ⟨(RX10, TX10, 24), rfl, by decide, wd_868⟩⟩) (m_right_lf ⟨1, dX10_image_13, rfl, rfl, rfl⟩))) (m_right_nd (m_right_lf ⟨1, dX10_image_14, rfl, rfl, rfl⟩) (m_right_nd (m_right_lf ⟨3, dX10_image_15, rfl, rfl, 10, 1, rfl, Or.inl ⟨(RX10, TX10, 24), rfl, by decide, wd_867⟩⟩) (m_right_lf ⟨1, dX10_image_18, rfl, rfl, rfl⟩))))) (m_right_nd (m_right_nd (m_right_nd (m_right_lf ⟨1, dX10_image_19, rfl, rfl⟩) (m_right_nd (m_right_lf ⟨1, dX10_image_20, rfl, rfl⟩) (m_right_lf ⟨3, dX10_image_21, rfl, rfl, rfl, by decide +kernel⟩))) (m_right_nd (m_right_lf ⟨3, dX10_image_24, rfl, 2, rfl, by decide⟩) (m_right_nd (m_right_lf ⟨1, dX10_image_27, rfl, rfl, rfl⟩) (m_right_lf ⟨1, dX10_image_28, rfl, rfl, by decide +kernel⟩)))) (m_right_nd (m_right_nd (m_right_lf ⟨3, dX10_image_29, rfl, rfl, 10, 4, 2, (RX10, TX10, 24), rfl, rfl, by decide, wd_870, Or.inl rfl, tyX10 4, tyX10_ok 4 (by decide), Or.inr (Or.inr (Or.inl ⟨rfl, rfl⟩))⟩) (m_right_nd (m_right_lf ⟨1, dX10_image_32, rfl, rfl, rfl⟩) (m_right_lf ⟨3, dX10_image_33, rfl, rfl, 10, 1, rfl, Or.inl ⟨(RX10, TX10, 24), rfl, by decide, wd_867⟩⟩))) (m_right_nd (m_right_lf ⟨2, dX10_image_36, rfl, rfl, by decide +kernel⟩) (m_right_nd (m_right_lf ⟨1, dX10_image_38, rfl, rfl⟩) (m_right_lf ⟨1, dX10_image_39, rfl, 0, .int, rfl, rfl, Or.inl ⟨rfl, rfl⟩⟩)))))
theorem dX10_undo_0 : decode cX10_undo 0 = .ok (.aload_n 0, 1) := by decide +kernel
theorem dX10_undo_1 : decode cX10_undo 1 = .ok (.getfield 273, 3) := by decide +kernel
theorem dX10_undo_4 : decode cX10_undo 4 = .ok (.ifCond .ne 6, 3) := by decide +kernel
theorem dX10_undo_7 : decode cX10_undo 7 = .ok (.bipush (-3), 2) := by decide +kernel
theorem dX10_undo_9 : decode cX10_undo 9 = .ok (.ireturn, 1) := by decide +kernel
theorem dX10_undo_10 : decode cX10_undo 10 = .ok (.iconst 0, 1) := by decide +kernel
theorem dX10_undo_11 : decode cX10_undo 11 = .ok (.istore_n 1, 1) := by decide +kernel
theorem dX10_undo_12 : decode cX10_undo 12 = .ok (.iload_n 1, 1) := by decide +kernel
theorem dX10_undo_13 : decode cX10_undo 13 = .ok (.sipush 889, 3) := by decide +kernel
theorem dX10_undo_16 : decode cX10_undo 16 = .ok (.if_icmp .ge 21, 3) := by decide +kernel
theorem dX10_undo_19 : decode cX10_undo 19 = .ok (.aload_n 0, 1) := by decide +kernel
theorem dX10_undo_20 : decode cX10_undo 20 = .ok (.getfield 9, 3) := by decide +kernel
theorem dX10_undo_23 : decode cX10_undo 23 = .ok (.iload_n 1, 1) := by decide +kernel
theorem dX10_undo_24 : decode cX10_undo 24 = .ok (.aload_n 0, 1) := by decide +kernel
theorem dX10_undo_25 : decode cX10_undo 25 = .ok (.getfield 15, 3) := by decide +kernel
theorem dX10_undo_28 : decode cX10_undo 28 = .ok (.iload_n 1, 1) := by decide +kernel
theorem dX10_undo_29 : decode cX10_undo 29 = .ok (.iaload, 1) := by decide +kernel
theorem dX10_undo_30 : decode cX10_undo 30 = .ok (.iastore, 1) := by decide +kernel
theorem dX10_undo_31 : decode cX10_undo 31 = .ok (.iinc 1 1, 3) := by decide +kernel
theorem dX10_undo_34 : decode cX10_undo 34 = .ok (.goto (-22), 3) := by decide +kernel
theorem dX10_undo_37 : decode cX10_undo 37 = .ok (.aload_n 0, 1) := by decide +kernel
theorem dX10_undo_38 : decode cX10_undo 38 = .ok (.getfield 9, 3) := by decide +kernel
theorem dX10_undo_41 : decode cX10_undo 41 = .ok (.bipush 6, 2) := by decide +kernel
theorem dX10_undo_43 : decode cX10_undo 43 = .ok (.iaload, 1) := by decide +kernel
theorem dX10_undo_44 : decode cX10_undo 44 = .ok (.ireturn, 1) := by decide +kernel
set_option maxRecDepth 20000 in
theorem r_X10_undo : m_Right (yX10_undo, cX10_undo, 2, (some .int)) q_X10_undo := m_right_nd (m_right_nd (m_right_nd (m_right_nd (m_right_lf ⟨1, dX10_undo_0, rfl, rfl, rfl⟩) (m_right_nd (m_right_lf ⟨3, dX10_undo_1, rfl, rfl, 10, 4, rfl, Or.inl ⟨(RX10, TX10, 24), rfl, by decide, wd_870⟩⟩) (m_right_lf ⟨3, dX10_undo_4, rfl, rfl, 10, rfl, by decide⟩))) (m_right_nd (m_right_lf ⟨2, dX10_undo_7, rfl, rfl, by decide +kernel⟩) (m_right_nd (m_right_lf ⟨1, dX10_undo_9, rfl, 0, .int, rfl, rfl, Or.inl ⟨rfl, rfl⟩⟩) (m_right_lf ⟨1, dX10_undo_10, rfl, rfl, by decide +kernel⟩)))) (m_right_nd (m_right_nd (m_right_lf ⟨1, dX10_undo_11, rfl, rfl, rfl⟩) (m_right_nd (m_right_lf ⟨1, dX10_undo_12, rfl, rfl, rfl⟩) (m_right_lf ⟨3, dX10_undo_13, rfl, rfl, by decide +kernel⟩))) (m_right_nd (m_right_lf ⟨3, dX10_undo_16, rfl, rfl, 37, rfl, by decide⟩) (m_right_nd (m_right_lf ⟨1, dX10_undo_19, rfl, rfl, rfl⟩) (m_right_lf ⟨3, dX10_undo_20, rfl, rfl, 10, 1, rfl, Or.inl ⟨(RX10, TX10, 24), rfl, by decide, wd_867⟩⟩))))) (m_right_nd (m_right_nd (m_right_nd (m_right_lf ⟨1, dX10_undo_23, rfl, rfl, rfl⟩) (m_right_nd (m_right_lf ⟨1, dX10_undo_24, rfl, rfl, rfl⟩) (m_right_lf ⟨3, dX10_undo_25, rfl, rfl, 10, 2, rfl, Or.inl ⟨(RX10, TX10, 24), rfl, by decide, wd_868⟩⟩))) (m_right_nd (m_right_lf ⟨1, dX10_undo_28, rfl, rfl, rfl⟩) (m_right_nd (m_right_lf ⟨1, dX10_undo_29, rfl, rfl⟩) (m_right_lf ⟨1, dX10_undo_30, rfl, rfl⟩)))) (m_right_nd (m_right_nd (m_right_lf ⟨3, dX10_undo_31, rfl, rfl, rfl, by decide +kernel⟩) (m_right_nd (m_right_lf ⟨3, dX10_undo_34, rfl, 12, rfl, by decide⟩) (m_right_lf ⟨1, dX10_undo_37, rfl, rfl, rfl⟩))) (m_right_nd (m_right_nd (m_right_lf ⟨3, dX10_undo_38, rfl, rfl, 10, 1, rfl, Or.inl ⟨(RX10, TX10, 24), rfl, by decide, wd_867⟩⟩) (m_right_lf ⟨2, dX10_undo_41, rfl, rfl, by decide +kernel⟩)) (m_right_nd (m_right_lf ⟨1, dX10_undo_43, rfl, rfl⟩) (m_right_lf ⟨1, dX10_undo_44, rfl, 0, .int, rfl, rfl, Or.inl ⟨rfl, rfl⟩⟩)))))
theorem dX10_count_0 : decode cX10_count 0 = .ok (.iload_n 1, 1) := by decide +kernel
theorem dX10_count_1 : decode cX10_count 1 = .ok (.iconst 5, 1) := by decide +kernel
theorem dX10_count_2 : decode cX10_count 2 = .ok (.if_icmp .ne 10, 3) := by decide +kernel
theorem dX10_count_5 : decode cX10_count 5 = .ok (.aload_n 0, 1) := by decide +kernel
theorem dX10_count_6 : decode cX10_count 6 = .ok (.getfield 237, 3) := by decide +kernel
theorem dX10_count_9 : decode cX10_count 9 = .ok (.goto 25, 3) := by decide +kernel
theorem dX10_count_12 : decode cX10_count 12 = .ok (.iload_n 1, 1) := by decide +kernel
theorem dX10_count_13 : decode cX10_count 13 = .ok (.iconst 0, 1) := by decide +kernel
theorem dX10_count_14 : decode cX10_count 14 = .ok (.iconst 4, 1) := by decide +kernel
theorem dX10_count_15 : decode cX10_count 15 = .ok (.invokestatic 48, 3) := by decide +kernel
theorem dX10_count_18 : decode cX10_count 18 = .ok (.ifCond .eq 15, 3) := by decide +kernel
theorem dX10_count_21 : decode cX10_count 21 = .ok (.aload_n 0, 1) := by decide +kernel
theorem dX10_count_22 : decode cX10_count 22 = .ok (.getfield 9, 3) := by decide +kernel
theorem dX10_count_25 : decode cX10_count 25 = .ok (.bipush 6, 2) := by decide +kernel
theorem dX10_count_27 : decode cX10_count 27 = .ok (.iload_n 1, 1) := by decide +kernel
theorem dX10_count_28 : decode cX10_count 28 = .ok (.iadd, 1) := by decide +kernel
theorem dX10_count_29 : decode cX10_count 29 = .ok (.iaload, 1) := by decide +kernel
theorem dX10_count_30 : decode cX10_count 30 = .ok (.goto 4, 3) := by decide +kernel
theorem dX10_count_33 : decode cX10_count 33 = .ok (.iconst (-1), 1) := by decide +kernel
theorem dX10_count_34 : decode cX10_count 34 = .ok (.ireturn, 1) := by decide +kernel
set_option maxRecDepth 20000 in
theorem r_X10_count : m_Right (yX10_count, cX10_count, 2, (some .int)) q_X10_count := m_right_nd (m_right_nd (m_right_nd (m_right_nd (m_right_lf ⟨1, dX10_count_0, rfl, rfl, rfl⟩) (m_right_lf ⟨1, dX10_count_1, rfl, rfl, by decide +kernel⟩)) (m_right_nd (m_right_lf ⟨3, dX10_count_2, rfl, rfl, 12, rfl, by decide⟩) (m_right_nd (m_right_lf ⟨1, dX10_count_5, rfl, rfl, rfl⟩) (m_right_lf ⟨3, dX10_count_6, rfl, rfl, 10, 20, rfl, Or.inl ⟨(RX10, TX10, 24), rfl, by decide, wd_886⟩⟩)))) (m_right_nd (m_right_nd (m_right_lf ⟨3, dX10_count_9, rfl, 34, rfl, by decide⟩) (m_right_lf ⟨1, dX10_count_12, rfl, rfl, rfl⟩)) (m_right_nd (m_right_lf ⟨1, dX10_count_13, rfl, rfl, by decide +kernel⟩) (m_right_nd (m_right_lf ⟨1, dX10_count_14, rfl, rfl, by decide +kernel⟩) (m_right_lf ⟨3, dX10_count_15, rfl, rfl, Or.inr (Or.inr ⟨118, 3, (yX10_in, cX10_in, 3, (some .boolean)), rfl, me_X10_in, mc_X10_in, wd_943, wd_944, wd_71⟩)⟩))))) (m_right_nd (m_right_nd (m_right_nd (m_right_lf ⟨3, dX10_count_18, rfl, rfl, 33, rfl, by decide⟩) (m_right_lf ⟨1, dX10_count_21, rfl, rfl, rfl⟩)) (m_right_nd (m_right_lf ⟨3, dX10_count_22, rfl, rfl, 10, 1, rfl, Or.inl ⟨(RX10, TX10, 24), rfl, by decide, wd_867⟩⟩) (m_right_nd (m_right_lf ⟨2, dX10_count_25, rfl, rfl, by decide +kernel⟩) (m_right_lf ⟨1, dX10_count_27, rfl, rfl, rfl⟩)))) (m_right_nd (m_right_nd (m_right_lf ⟨1, dX10_count_28, rfl, rfl⟩) (m_right_lf ⟨1, dX10_count_29, rfl, rfl⟩)) (m_right_nd (m_right_lf ⟨3, dX10_count_30, rfl, 34, rfl, by decide⟩) (m_right_nd (m_right_lf ⟨1, dX10_count_33, rfl, rfl, by decide +kernel⟩) (m_right_lf ⟨1, dX10_count_34, rfl, 0, .int, rfl, rfl, Or.inl ⟨rfl, rfl⟩⟩)))))
theorem dJ6_bitCount_0f7a4_0 : decode cJ6_bitCount_0f7a4 0 = .ok (.iload_n 0, 1) := by decide +kernel
theorem dJ6_bitCount_0f7a4_1 : decode cJ6_bitCount_0f7a4 1 = .ok (.iload_n 0, 1) := by decide +kernel
theorem dJ6_bitCount_0f7a4_2 : decode cJ6_bitCount_0f7a4 2 = .ok (.iconst 1, 1) := by decide +kernel
theorem dJ6_bitCount_0f7a4_3 : decode cJ6_bitCount_0f7a4 3 = .ok (.iushr, 1) := by decide +kernel
theorem dJ6_bitCount_0f7a4_4 : decode cJ6_bitCount_0f7a4 4 = .ok (.ldc_w 265, 3) := by decide +kernel
theorem dJ6_bitCount_0f7a4_7 : decode cJ6_bitCount_0f7a4 7 = .ok (.iand, 1) := by decide +kernel
theorem dJ6_bitCount_0f7a4_8 : decode cJ6_bitCount_0f7a4 8 = .ok (.isub, 1) := by decide +kernel
theorem dJ6_bitCount_0f7a4_9 : decode cJ6_bitCount_0f7a4 9 = .ok (.istore_n 0, 1) := by decide +kernel
theorem dJ6_bitCount_0f7a4_10 : decode cJ6_bitCount_0f7a4 10 = .ok (.iload_n 0, 1) := by decide +kernel
theorem dJ6_bitCount_0f7a4_11 : decode cJ6_bitCount_0f7a4 11 = .ok (.ldc_w 266, 3) := by decide +kernel
theorem dJ6_bitCount_0f7a4_14 : decode cJ6_bitCount_0f7a4 14 = .ok (.iand, 1) := by decide +kernel
theorem dJ6_bitCount_0f7a4_15 : decode cJ6_bitCount_0f7a4 15 = .ok (.iload_n 0, 1) := by decide +kernel
theorem dJ6_bitCount_0f7a4_16 : decode cJ6_bitCount_0f7a4 16 = .ok (.iconst 2, 1) := by decide +kernel
theorem dJ6_bitCount_0f7a4_17 : decode cJ6_bitCount_0f7a4 17 = .ok (.iushr, 1) := by decide +kernel
theorem dJ6_bitCount_0f7a4_18 : decode cJ6_bitCount_0f7a4 18 = .ok (.ldc_w 266, 3) := by decide +kernel
theorem dJ6_bitCount_0f7a4_21 : decode cJ6_bitCount_0f7a4 21 = .ok (.iand, 1) := by decide +kernel
theorem dJ6_bitCount_0f7a4_22 : decode cJ6_bitCount_0f7a4 22 = .ok (.iadd, 1) := by decide +kernel
theorem dJ6_bitCount_0f7a4_23 : decode cJ6_bitCount_0f7a4 23 = .ok (.istore_n 0, 1) := by decide +kernel
theorem dJ6_bitCount_0f7a4_24 : decode cJ6_bitCount_0f7a4 24 = .ok (.iload_n 0, 1) := by decide +kernel
theorem dJ6_bitCount_0f7a4_25 : decode cJ6_bitCount_0f7a4 25 = .ok (.iload_n 0, 1) := by decide +kernel
theorem dJ6_bitCount_0f7a4_26 : decode cJ6_bitCount_0f7a4 26 = .ok (.iconst 4, 1) := by decide +kernel
theorem dJ6_bitCount_0f7a4_27 : decode cJ6_bitCount_0f7a4 27 = .ok (.iushr, 1) := by decide +kernel
theorem dJ6_bitCount_0f7a4_28 : decode cJ6_bitCount_0f7a4 28 = .ok (.iadd, 1) := by decide +kernel
theorem dJ6_bitCount_0f7a4_29 : decode cJ6_bitCount_0f7a4 29 = .ok (.ldc_w 267, 3) := by decide +kernel
theorem dJ6_bitCount_0f7a4_32 : decode cJ6_bitCount_0f7a4 32 = .ok (.iand, 1) := by decide +kernel
theorem dJ6_bitCount_0f7a4_33 : decode cJ6_bitCount_0f7a4 33 = .ok (.istore_n 0, 1) := by decide +kernel
theorem dJ6_bitCount_0f7a4_34 : decode cJ6_bitCount_0f7a4 34 = .ok (.iload_n 0, 1) := by decide +kernel
theorem dJ6_bitCount_0f7a4_35 : decode cJ6_bitCount_0f7a4 35 = .ok (.iload_n 0, 1) := by decide +kernel
theorem dJ6_bitCount_0f7a4_36 : decode cJ6_bitCount_0f7a4 36 = .ok (.bipush 8, 2) := by decide +kernel
theorem dJ6_bitCount_0f7a4_38 : decode cJ6_bitCount_0f7a4 38 = .ok (.iushr, 1) := by decide +kernel
theorem dJ6_bitCount_0f7a4_39 : decode cJ6_bitCount_0f7a4 39 = .ok (.iadd, 1) := by decide +kernel
theorem dJ6_bitCount_0f7a4_40 : decode cJ6_bitCount_0f7a4 40 = .ok (.istore_n 0, 1) := by decide +kernel
theorem dJ6_bitCount_0f7a4_41 : decode cJ6_bitCount_0f7a4 41 = .ok (.iload_n 0, 1) := by decide +kernel
theorem dJ6_bitCount_0f7a4_42 : decode cJ6_bitCount_0f7a4 42 = .ok (.iload_n 0, 1) := by decide +kernel
theorem dJ6_bitCount_0f7a4_43 : decode cJ6_bitCount_0f7a4 43 = .ok (.bipush 16, 2) := by decide +kernel
theorem dJ6_bitCount_0f7a4_45 : decode cJ6_bitCount_0f7a4 45 = .ok (.iushr, 1) := by decide +kernel
theorem dJ6_bitCount_0f7a4_46 : decode cJ6_bitCount_0f7a4 46 = .ok (.iadd, 1) := by decide +kernel
theorem dJ6_bitCount_0f7a4_47 : decode cJ6_bitCount_0f7a4 47 = .ok (.istore_n 0, 1) := by decide +kernel
theorem dJ6_bitCount_0f7a4_48 : decode cJ6_bitCount_0f7a4 48 = .ok (.iload_n 0, 1) := by decide +kernel
theorem dJ6_bitCount_0f7a4_49 : decode cJ6_bitCount_0f7a4 49 = .ok (.bipush 63, 2) := by decide +kernel
theorem dJ6_bitCount_0f7a4_51 : decode cJ6_bitCount_0f7a4 51 = .ok (.iand, 1) := by decide +kernel
theorem dJ6_bitCount_0f7a4_52 : decode cJ6_bitCount_0f7a4 52 = .ok (.ireturn, 1) := by decide +kernel
set_option maxRecDepth 20000 in
theorem r_J6_bitCount_0f7a4 : m_Right (yJ6_bitCount_0f7a4, cJ6_bitCount_0f7a4, 1, (some .int)) q_J6_bitCount_0f7a4 := m_right_nd (m_right_nd (m_right_nd (m_right_nd (m_right_nd (m_right_lf ⟨1, dJ6_bitCount_0f7a4_0, rfl, rfl, rfl⟩) (m_right_lf ⟨1, dJ6_bitCount_0f7a4_1, rfl, rfl, rfl⟩)) (m_right_nd (m_right_lf ⟨1, dJ6_bitCount_0f7a4_2, rfl, rfl, by decide +kernel⟩) (m_right_nd (m_right_lf ⟨1, dJ6_bitCount_0f7a4_3, rfl, rfl⟩) (m_right_lf ⟨3, dJ6_bitCount_0f7a4_4, rfl, rfl, _, rfl, wd_709⟩)))) (m_right_nd (m_right_nd (m_right_lf ⟨1, dJ6_bitCount_0f7a4_7, rfl, rfl⟩) (m_right_lf ⟨1, dJ6_bitCount_0f7a4_8, rfl, rfl⟩)) (m_right_nd (m_right_lf ⟨1, dJ6_bitCount_0f7a4_9, rfl, rfl, rfl⟩) (m_right_nd (m_right_lf ⟨1, dJ6_bitCount_0f7a4_10, rfl, rfl, rfl⟩) (m_right_lf ⟨3, dJ6_bitCount_0f7a4_11, rfl, rfl, _, rfl, wd_710⟩))))) (m_right_nd (m_right_nd (m_right_nd (m_right_lf ⟨1, dJ6_bitCount_0f7a4_14, rfl, rfl⟩) (m_right_lf ⟨1, dJ6_bitCount_0f7a4_15, rfl, rfl, rfl⟩)) (m_right_nd (m_right_lf ⟨1, dJ6_bitCount_0f7a4_16, rfl, rfl, by decide +kernel⟩) (m_right_nd (m_right_lf ⟨1, dJ6_bitCount_0f7a4_17, rfl, rfl⟩) (m_right_lf ⟨3, dJ6_bitCount_0f7a4_18, rfl, rfl, _, rfl, wd_710⟩)))) (m_right_nd (m_right_nd (m_right_lf ⟨1, dJ6_bitCount_0f7a4_21, rfl, rfl⟩) (m_right_nd (m_right_lf ⟨1, dJ6_bitCount_0f7a4_22, rfl, rfl⟩) (m_right_lf ⟨1, dJ6_bitCount_0f7a4_23, rfl, rfl, rfl⟩))) (m_right_nd (m_right_lf ⟨1, dJ6_bitCount_0f7a4_24, rfl, rfl, rfl⟩) (m_right_nd (m_right_lf ⟨1, dJ6_bitCount_0f7a4_25, rfl, rfl, rfl⟩) (m_right_lf ⟨1, dJ6_bitCount_0f7a4_26, rfl, rfl, by decide +kernel⟩)))))) (m_right_nd (m_right_nd (m_right_nd (m_right_nd (m_right_lf ⟨1, dJ6_bitCount_0f7a4_27, rfl, rfl⟩) (m_right_lf ⟨1, dJ6_bitCount_0f7a4_28, rfl, rfl⟩)) (m_right_nd (m_right_lf ⟨3, dJ6_bitCount_0f7a4_29, rfl, rfl, _, rfl, wd_711⟩) (m_right_nd (m_right_lf ⟨1, dJ6_bitCount_0f7a4_32, rfl, rfl⟩) (m_right_lf ⟨1, dJ6_bitCount_0f7a4_33, rfl, rfl, rfl⟩)))) (m_right_nd (m_right_nd (m_right_lf ⟨1, dJ6_bitCount_0f7a4_34, rfl, rfl, rfl⟩) (m_right_lf ⟨1, dJ6_bitCount_0f7a4_35, rfl, rfl, rfl⟩)) (m_right_nd (m_right_lf ⟨2, dJ6_bitCount_0f7a4_36, rfl, rfl, by decide +kernel⟩) (m_right_nd (m_right_lf ⟨1, dJ6_bitCount_0f7a4_38, rfl, rfl⟩) (m_right_lf ⟨1, dJ6_bitCount_0f7a4_39, rfl, rfl⟩))))) (m_right_nd (m_right_nd (m_right_nd (m_right_lf ⟨1, dJ6_bitCount_0f7a4_40, rfl, rfl, rfl⟩) (m_right_lf ⟨1, dJ6_bitCount_0f7a4_41, rfl, rfl, rfl⟩)) (m_right_nd (m_right_lf ⟨1, dJ6_bitCount_0f7a4_42, rfl, rfl, rfl⟩) (m_right_nd (m_right_lf ⟨2, dJ6_bitCount_0f7a4_43, rfl, rfl, by decide +kernel⟩) (m_right_lf ⟨1, dJ6_bitCount_0f7a4_45, rfl, rfl⟩)))) (m_right_nd (m_right_nd (m_right_lf ⟨1, dJ6_bitCount_0f7a4_46, rfl, rfl⟩) (m_right_nd (m_right_lf ⟨1, dJ6_bitCount_0f7a4_47, rfl, rfl, rfl⟩) (m_right_lf ⟨1, dJ6_bitCount_0f7a4_48, rfl, rfl, rfl⟩))) (m_right_nd (m_right_lf ⟨2, dJ6_bitCount_0f7a4_49, rfl, rfl, by decide +kernel⟩) (m_right_nd (m_right_lf ⟨1, dJ6_bitCount_0f7a4_51, rfl, rfl⟩) (m_right_lf ⟨1, dJ6_bitCount_0f7a4_52, rfl, 0, .int, rfl, rfl, Or.inl ⟨rfl, rfl⟩⟩))))))
theorem dJ0_length_8abf5_0 : decode cJ0_length_8abf5 0 = .ok (.aload_n 0, 1) := by decide +kernel
theorem dJ0_length_8abf5_1 : decode cJ0_length_8abf5 1 = .ok (.getfield 9, 3) := by decide +kernel
theorem dJ0_length_8abf5_4 : decode cJ0_length_8abf5 4 = .ok (.arraylength, 1) := by decide +kernel
theorem dJ0_length_8abf5_5 : decode cJ0_length_8abf5 5 = .ok (.aload_n 0, 1) := by decide +kernel
theorem dJ0_length_8abf5_6 : decode cJ0_length_8abf5 6 = .ok (.invokevirtual 335, 3) := by decide +kernel
theorem dJ0_length_8abf5_9 : decode cJ0_length_8abf5 9 = .ok (.ishr, 1) := by decide +kernel
theorem dJ0_length_8abf5_10 : decode cJ0_length_8abf5 10 = .ok (.ireturn, 1) := by decide +kernel
set_option maxRecDepth 20000 in
theorem r_J0_length_8abf5 : m_Right (yJ0_length_8abf5, cJ0_length_8abf5, 1, (some .int)) q_J0_length_8abf5 := m_right_nd (m_right_nd (m_right_lf ⟨1, dJ0_length_8abf5_0, rfl, rfl, rfl⟩) (m_right_nd (m_right_lf ⟨3, dJ0_length_8abf5_1, rfl, rfl, 11, 0, rfl, Or.inr ⟨rfl, Or.inl ⟨rfl, wd_1309⟩⟩⟩) (m_right_lf ⟨1, dJ0_length_8abf5_4, rfl, rfl⟩))) (m_right_nd (m_right_nd (m_right_lf ⟨1, dJ0_length_8abf5_5, rfl, rfl, rfl⟩) (m_right_lf ⟨3, dJ0_length_8abf5_6, rfl, rfl, 200, 0, 11, (yJ0_coder_7d493, cJ0_coder_7d493, 1, (some .byte)), rfl, me_J0_coder_7d493, mc_J0_coder_7d493, Or.inr ⟨rfl, rfl⟩, wd_979, wd_980, wd_981, wd_75⟩)) (m_right_nd (m_right_lf ⟨1, dJ0_length_8abf5_9, rfl, rfl⟩) (m_right_lf ⟨1, dJ0_length_8abf5_10, rfl, 0, .int, rfl, rfl, Or.inl ⟨rfl, rfl⟩⟩)))
theorem dJ0_charAt_5068e_0 : decode cJ0_charAt_5068e 0 = .ok (.aload_n 0, 1) := by decide +kernel
theorem dJ0_charAt_5068e_1 : decode cJ0_charAt_5068e 1 = .ok (.invokevirtual 492, 3) := by decide +kernel
theorem dJ0_charAt_5068e_4 : decode cJ0_charAt_5068e 4 = .ok (.ifCond .eq 12, 3) := by decide +kernel
theorem dJ0_charAt_5068e_7 : decode cJ0_charAt_5068e 7 = .ok (.aload_n 0, 1) := by decide +kernel
theorem dJ0_charAt_5068e_8 : decode cJ0_charAt_5068e 8 = .ok (.getfield 9, 3) := by decide +kernel
theorem dJ0_charAt_5068e_11 : decode cJ0_charAt_5068e 11 = .ok (.iload_n 1, 1) := by decide +kernel
theorem dJ0_charAt_5068e_12 : decode cJ0_charAt_5068e 12 = .ok (.invokestatic 495, 3) := by decide +kernel
theorem dJ0_charAt_5068e_15 : decode cJ0_charAt_5068e 15 = .ok (.ireturn, 1) := by decide +kernel
theorem dJ0_charAt_5068e_16 : decode cJ0_charAt_5068e 16 = .ok (.aload_n 0, 1) := by decide +kernel
theorem dJ0_charAt_5068e_17 : decode cJ0_charAt_5068e 17 = .ok (.getfield 9, 3) := by decide +kernel
theorem dJ0_charAt_5068e_20 : decode cJ0_charAt_5068e 20 = .ok (.iload_n 1, 1) := by decide +kernel
theorem dJ0_charAt_5068e_24 : decode cJ0_charAt_5068e 24 = .ok (.ireturn, 1) := by decide +kernel
set_option maxRecDepth 20000 in
theorem r_J0_charAt_5068e : m_Right (yJ0_charAt_5068e, cJ0_charAt_5068e, 2, (some .char)) q_J0_charAt_5068e := m_right_nd (m_right_nd (m_right_nd (m_right_lf ⟨1, dJ0_charAt_5068e_0, rfl, rfl, rfl⟩) (m_right_nd (m_right_lf ⟨3, dJ0_charAt_5068e_1, rfl, rfl, 201, 0, 11, (yJ0_isLatin1_aae02, cJ0_isLatin1_aae02, 1, (some .boolean)), rfl, me_J0_isLatin1_aae02, mc_J0_isLatin1_aae02, Or.inr ⟨rfl, rfl⟩, wd_989, wd_990, wd_991, wd_75⟩) (m_right_lf ⟨3, dJ0_charAt_5068e_4, rfl, rfl, 16, rfl, by decide⟩))) (m_right_nd (m_right_lf ⟨1, dJ0_charAt_5068e_7, rfl, rfl, rfl⟩) (m_right_nd (m_right_lf ⟨3, dJ0_charAt_5068e_8, rfl, rfl, 11, 0, rfl, Or.inr ⟨rfl, Or.inl ⟨rfl, wd_1309⟩⟩⟩) (m_right_lf ⟨1, dJ0_charAt_5068e_11, rfl, rfl, rfl⟩)))) (m_right_nd (m_right_nd (m_right_lf ⟨3, dJ0_charAt_5068e_12, rfl, rfl, Or.inr (Or.inr ⟨203, 2, (yJ1_charAt_3b067, cJ1_charAt_3b067, 2, (some .char)), rfl, me_J1_charAt_3b067, mc_J1_charAt_3b067, wd_993, wd_994, wd_76⟩)⟩) (m_right_nd (m_right_lf ⟨1, dJ0_charAt_5068e_15, rfl, 2, .char, rfl, rfl, Or.inr (Or.inr (Or.inl ⟨rfl, rfl⟩))⟩) (m_right_lf ⟨1, dJ0_charAt_5068e_16, rfl, rfl, rfl⟩))) (m_right_nd (m_right_lf ⟨3, dJ0_charAt_5068e_17, rfl, rfl, 11, 0, rfl, Or.inr ⟨rfl, Or.inl ⟨rfl, wd_1309⟩⟩⟩) (m_right_nd (m_right_lf ⟨1, dJ0_charAt_5068e_20, rfl, rfl, rfl⟩) (m_right_lf ⟨1, dJ0_charAt_5068e_24, rfl, 2, .char, rfl, rfl, Or.inr (Or.inr (Or.inl ⟨rfl, rfl⟩))⟩))))
theorem dJ0_coder_7d493_0 : decode cJ0_coder_7d493 0 = .ok (.getstatic 38, 3) := by decide +kernel
theorem dJ0_coder_7d493_3 : decode cJ0_coder_7d493 3 = .ok (.ifCond .eq 10, 3) := by decide +kernel
theorem dJ0_coder_7d493_6 : decode cJ0_coder_7d493 6 = .ok (.aload_n 0, 1) := by decide +kernel
theorem dJ0_coder_7d493_7 : decode cJ0_coder_7d493 7 = .ok (.getfield 15, 3) := by decide +kernel
theorem dJ0_coder_7d493_10 : decode cJ0_coder_7d493 10 = .ok (.goto 4, 3) := by decide +kernel
theorem dJ0_coder_7d493_13 : decode cJ0_coder_7d493 13 = .ok (.iconst 1, 1) := by decide +kernel
theorem dJ0_coder_7d493_14 : decode cJ0_coder_7d493 14 = .ok (.ireturn, 1) := by decide +kernel
set_option maxRecDepth 20000 in
theorem r_J0_coder_7d493 : m_Right (yJ0_coder_7d493, cJ0_coder_7d493, 1, (some .byte)) q_J0_coder_7d493 := m_right_nd (m_right_nd (m_right_lf ⟨3, dJ0_coder_7d493_0, rfl, rfl, "java/lang/String", "COMPACT_STRINGS", "Z", by decide +kernel, Or.inl wd_983⟩) (m_right_nd (m_right_lf ⟨3, dJ0_coder_7d493_3, rfl, rfl, 13, rfl, by decide⟩) (m_right_lf ⟨1, dJ0_coder_7d493_6, rfl, rfl, rfl⟩))) (m_right_nd (m_right_nd (m_right_lf ⟨3, dJ0_coder_7d493_7, rfl, rfl, 11, 1, rfl, Or.inr ⟨rfl, Or.inr ⟨rfl, wd_1310⟩⟩⟩) (m_right_lf ⟨3, dJ0_coder_7d493_10, rfl, 14, rfl, by decide⟩)) (m_right_nd (m_right_lf ⟨1, dJ0_coder_7d493_13, rfl, rfl, by decide +kernel⟩) (m_right_lf ⟨1, dJ0_coder_7d493_14, rfl, 3, .byte, rfl, rfl, Or.inr (Or.inr (Or.inr ⟨rfl, rfl⟩))⟩)))
theorem dJ0_isLatin1_aae02_0 : decode cJ0_isLatin1_aae02 0 = .ok (.getstatic 38, 3) := by decide +kernel
theorem dJ0_isLatin1_aae02_3 : decode cJ0_isLatin1_aae02 3 = .ok (.ifCond .eq 14, 3) := by decide +kernel
theorem dJ0_isLatin1_aae02_6 : decode cJ0_isLatin1_aae02 6 = .ok (.aload_n 0, 1) := by decide +kernel
theorem dJ0_isLatin1_aae02_7 : decode cJ0_isLatin1_aae02 7 = .ok (.getfield 15, 3) := by decide +kernel
theorem dJ0_isLatin1_aae02_10 : decode cJ0_isLatin1_aae02 10 = .ok (.ifCond .ne 7, 3) := by decide +kernel
theorem dJ0_isLatin1_aae02_13 : decode cJ0_isLatin1_aae02 13 = .ok (.iconst 1, 1) := by decide +kernel
theorem dJ0_isLatin1_aae02_14 : decode cJ0_isLatin1_aae02 14 = .ok (.goto 4, 3) := by decide +kernel
theorem dJ0_isLatin1_aae02_17 : decode cJ0_isLatin1_aae02 17 = .ok (.iconst 0, 1) := by decide +kernel
theorem dJ0_isLatin1_aae02_18 : decode cJ0_isLatin1_aae02 18 = .ok (.ireturn, 1) := by decide +kernel
set_option maxRecDepth 20000 in
theorem r_J0_isLatin1_aae02 : m_Right (yJ0_isLatin1_aae02, cJ0_isLatin1_aae02, 1, (some .boolean)) q_J0_isLatin1_aae02 := m_right_nd (m_right_nd (m_right_nd (m_right_lf ⟨3, dJ0_isLatin1_aae02_0, rfl, rfl, "java/lang/String", "COMPACT_STRINGS", "Z", by decide +kernel, Or.inl wd_983⟩) (m_right_lf ⟨3, dJ0_isLatin1_aae02_3, rfl, rfl, 17, rfl, by decide⟩)) (m_right_nd (m_right_lf ⟨1, dJ0_isLatin1_aae02_6, rfl, rfl, rfl⟩) (m_right_lf ⟨3, dJ0_isLatin1_aae02_7, rfl, rfl, 11, 1, rfl, Or.inr ⟨rfl, Or.inr ⟨rfl, wd_1310⟩⟩⟩))) (m_right_nd (m_right_nd (m_right_lf ⟨3, dJ0_isLatin1_aae02_10, rfl, rfl, 17, rfl, by decide⟩) (m_right_lf ⟨1, dJ0_isLatin1_aae02_13, rfl, rfl, by decide +kernel⟩)) (m_right_nd (m_right_lf ⟨3, dJ0_isLatin1_aae02_14, rfl, 18, rfl, by decide⟩) (m_right_nd (m_right_lf ⟨1, dJ0_isLatin1_aae02_17, rfl, rfl, by decide +kernel⟩) (m_right_lf ⟨1, dJ0_isLatin1_aae02_18, rfl, 1, .boolean, rfl, rfl, Or.inr (Or.inl ⟨rfl, rfl⟩)⟩))))
theorem dJ0_checkIndex_df160_0 : decode cJ0_checkIndex_df160 0 = .ok (.iload_n 0, 1) := by decide +kernel
theorem dJ0_checkIndex_df160_1 : decode cJ0_checkIndex_df160 1 = .ok (.iload_n 1, 1) := by decide +kernel
theorem dJ0_checkIndex_df160_2 : decode cJ0_checkIndex_df160 2 = .ok (.getstatic 1053, 3) := by decide +kernel
theorem dJ0_checkIndex_df160_5 : decode cJ0_checkIndex_df160 5 = .ok (.invokestatic 1059, 3) := by decide +kernel
theorem dJ0_checkIndex_df160_8 : decode cJ0_checkIndex_df160 8 = .ok (.pop, 1) := by decide +kernel
theorem dJ0_checkIndex_df160_9 : decode cJ0_checkIndex_df160 9 = .ok (.return_, 1) := by decide +kernel
set_option maxRecDepth 20000 in
theorem r_J0_checkIndex_df160 : m_Right (yJ0_checkIndex_df160, cJ0_checkIndex_df160, 2, none) q_J0_checkIndex_df160 := m_right_nd (m_right_nd (m_right_lf ⟨1, dJ0_checkIndex_df160_0, rfl, rfl, rfl⟩) (m_right_nd (m_right_lf ⟨1, dJ0_checkIndex_df160_1, rfl, rfl, rfl⟩) (m_right_lf ⟨3, dJ0_checkIndex_df160_2, rfl, rfl, "jdk/internal/util/Preconditions", "SIOOBE_FORMATTER", "Ljava/util/function/BiFunction;", by decide +kernel, Or.inl wd_999⟩))) (m_right_nd (m_right_lf ⟨3, dJ0_checkIndex_df160_5, rfl, rfl, Or.inr (Or.inr ⟨204, 3, (yJ3_checkIndex_8e157, cJ3_checkIndex_8e157, 3, (some .int)), rfl, me_J3_checkIndex_8e157, mc_J3_checkIndex_8e157, wd_1001, wd_1002, wd_77⟩)⟩) (m_right_nd (m_right_lf ⟨1, dJ0_checkIndex_df160_8, rfl, rfl⟩) (m_right_lf ⟨1, dJ0_checkIndex_df160_9, rfl, rfl⟩)))
theorem dJ1_charAt_3b067_0 : decode cJ1_charAt_3b067 0 = .ok (.iload_n 1, 1) := by decide +kernel
theorem dJ1_charAt_3b067_1 : decode cJ1_charAt_3b067 1 = .ok (.aload_n 0, 1) := by decide +kernel
theorem dJ1_charAt_3b067_2 : decode cJ1_charAt_3b067 2 = .ok (.arraylength, 1) := by decide +kernel
theorem dJ1_charAt_3b067_3 : decode cJ1_charAt_3b067 3 = .ok (.invokestatic 9, 3) := by decide +kernel
theorem dJ1_charAt_3b067_6 : decode cJ1_charAt_3b067 6 = .ok (.aload_n 0, 1) := by decide +kernel
theorem dJ1_charAt_3b067_7 : decode cJ1_charAt_3b067 7 = .ok (.iload_n 1, 1) := by decide +kernel
theorem dJ1_charAt_3b067_8 : decode cJ1_charAt_3b067 8 = .ok (.baload, 1) := by decide +kernel
theorem dJ1_charAt_3b067_9 : decode cJ1_charAt_3b067 9 = .ok (.sipush 255, 3) := by decide +kernel
theorem dJ1_charAt_3b067_12 : decode cJ1_charAt_3b067 12 = .ok (.iand, 1) := by decide +kernel
theorem dJ1_charAt_3b067_13 : decode cJ1_charAt_3b067 13 = .ok (.i2c, 1) := by decide +kernel
theorem dJ1_charAt_3b067_14 : decode cJ1_charAt_3b067 14 = .ok (.ireturn, 1) := by decide +kernel
set_option maxRecDepth 20000 in
theorem r_J1_charAt_3b067 : m_Right (yJ1_charAt_3b067, cJ1_charAt_3b067, 2, (some .char)) q_J1_charAt_3b067 := m_right_nd (m_right_nd (m_right_nd (m_right_lf ⟨1, dJ1_charAt_3b067_0, rfl, rfl, rfl⟩) (m_right_lf ⟨1, dJ1_charAt_3b067_1, rfl, rfl, rfl⟩)) (m_right_nd (m_right_lf ⟨1, dJ1_charAt_3b067_2, rfl, rfl⟩) (m_right_nd (m_right_lf ⟨3, dJ1_charAt_3b067_3, rfl, rfl, Or.inr (Or.inr ⟨202, 2, (yJ0_checkIndex_df160, cJ0_checkIndex_df160, 2, none), rfl, me_J0_checkIndex_df160, mc_J0_checkIndex_df160, wd_996, wd_997, wd_75⟩)⟩) (m_right_lf ⟨1, dJ1_charAt_3b067_6, rfl, rfl, rfl⟩)))) (m_right_nd (m_right_nd (m_right_lf ⟨1, dJ1_charAt_3b067_7, rfl, rfl, rfl⟩) (m_right_nd (m_right_lf ⟨1, dJ1_charAt_3b067_8, rfl, rfl⟩) (m_right_lf ⟨3, dJ1_charAt_3b067_9, rfl, rfl, by decide +kernel⟩))) (m_right_nd (m_right_lf ⟨1, dJ1_charAt_3b067_12, rfl, rfl⟩) (m_right_nd (m_right_lf ⟨1, dJ1_charAt_3b067_13, rfl, rfl⟩) (m_right_lf ⟨1, dJ1_charAt_3b067_14, rfl, 2, .char, rfl, rfl, Or.inr (Or.inr (Or.inl ⟨rfl, rfl⟩))⟩))))
theorem dJ3_checkIndex_8e157_0 : decode cJ3_checkIndex_8e157 0 = .ok (.iload_n 0, 1) := by decide +kernel
theorem dJ3_checkIndex_8e157_1 : decode cJ3_checkIndex_8e157 1 = .ok (.ifCond .lt 8, 3) := by decide +kernel
theorem dJ3_checkIndex_8e157_4 : decode cJ3_checkIndex_8e157 4 = .ok (.iload_n 0, 1) := by decide +kernel
theorem dJ3_checkIndex_8e157_5 : decode cJ3_checkIndex_8e157 5 = .ok (.iload_n 1, 1) := by decide +kernel
theorem dJ3_checkIndex_8e157_6 : decode cJ3_checkIndex_8e157 6 = .ok (.if_icmp .lt 10, 3) := by decide +kernel
theorem dJ3_checkIndex_8e157_9 : decode cJ3_checkIndex_8e157 9 = .ok (.aload_n 2, 1) := by decide +kernel
theorem dJ3_checkIndex_8e157_10 : decode cJ3_checkIndex_8e157 10 = .ok (.iload_n 0, 1) := by decide +kernel
theorem dJ3_checkIndex_8e157_11 : decode cJ3_checkIndex_8e157 11 = .ok (.iload_n 1, 1) := by decide +kernel
theorem dJ3_checkIndex_8e157_16 : decode cJ3_checkIndex_8e157 16 = .ok (.iload_n 0, 1) := by decide +kernel
theorem dJ3_checkIndex_8e157_17 : decode cJ3_checkIndex_8e157 17 = .ok (.ireturn, 1) := by decide +kernel
set_option maxRecDepth 20000 in
theorem r_J3_checkIndex_8e157 : m_Right (yJ3_checkIndex_8e157, cJ3_checkIndex_8e157, 3, (some .int)) q_J3_checkIndex_8e157 := m_right_nd (m_right_nd (m_right_nd (m_right_lf ⟨1, dJ3_checkIndex_8e157_0, rfl, rfl, rfl⟩) (m_right_lf ⟨3, dJ3_checkIndex_8e157_1, rfl, rfl, 9, rfl, by decide⟩)) (m_right_nd (m_right_lf ⟨1, dJ3_checkIndex_8e157_4, rfl, rfl, rfl⟩) (m_right_nd (m_right_lf ⟨1, dJ3_checkIndex_8e157_5, rfl, rfl, rfl⟩) (m_right_lf ⟨3, dJ3_checkIndex_8e157_6, rfl, rfl, 16, rfl, by decide⟩)))) (m_right_nd (m_right_nd (m_right_lf ⟨1, dJ3_checkIndex_8e157_9, rfl, rfl, rfl⟩) (m_right_lf ⟨1, dJ3_checkIndex_8e157_10, rfl, rfl, rfl⟩)) (m_right_nd (m_right_lf ⟨1, dJ3_checkIndex_8e157_11, rfl, rfl, rfl⟩) (m_right_nd (m_right_lf ⟨1, dJ3_checkIndex_8e157_16, rfl, rfl, rfl⟩) (m_right_lf ⟨1, dJ3_checkIndex_8e157_17, rfl, 0, .int, rfl, rfl, Or.inl ⟨rfl, rfl⟩⟩))))
theorem dL_law_0 : decode cL_law 0 = .ok (.new 7, 3) := by decide +kernel
theorem dL_law_3 : decode cL_law 3 = .ok (.dup, 1) := by decide +kernel
theorem dL_law_4 : decode cL_law 4 = .ok (.invokespecial 9, 3) := by decide +kernel
theorem dL_law_7 : decode cL_law 7 = .ok (.astore_n 1, 1) := by decide +kernel
theorem dL_law_8 : decode cL_law 8 = .ok (.new 10, 3) := by decide +kernel
theorem dL_law_11 : decode cL_law 11 = .ok (.dup, 1) := by decide +kernel
theorem dL_law_12 : decode cL_law 12 = .ok (.invokespecial 12, 3) := by decide +kernel
theorem dL_law_15 : decode cL_law 15 = .ok (.astore_n 2, 1) := by decide +kernel
theorem dL_law_16 : decode cL_law 16 = .ok (.iconst 0, 1) := by decide +kernel
theorem dL_law_17 : decode cL_law 17 = .ok (.istore_n 3, 1) := by decide +kernel
theorem dL_law_18 : decode cL_law 18 = .ok (.iload_n 3, 1) := by decide +kernel
theorem dL_law_19 : decode cL_law 19 = .ok (.aload_n 0, 1) := by decide +kernel
theorem dL_law_20 : decode cL_law 20 = .ok (.arraylength, 1) := by decide +kernel
theorem dL_law_21 : decode cL_law 21 = .ok (.bipush 6, 2) := by decide +kernel
theorem dL_law_23 : decode cL_law 23 = .ok (.isub, 1) := by decide +kernel
theorem dL_law_24 : decode cL_law 24 = .ok (.if_icmp .gt 1314, 3) := by decide +kernel
theorem dL_law_27 : decode cL_law 27 = .ok (.aload_n 0, 1) := by decide +kernel
theorem dL_law_28 : decode cL_law 28 = .ok (.iload_n 3, 1) := by decide +kernel
theorem dL_law_29 : decode cL_law 29 = .ok (.iaload, 1) := by decide +kernel
theorem dL_law_30 : decode cL_law 30 = .ok (.bipush 31, 2) := by decide +kernel
theorem dL_law_32 : decode cL_law 32 = .ok (.iand, 1) := by decide +kernel
theorem dL_law_33 : decode cL_law 33 = .ok (.tableswitch 1299 0 31 #[143, 166, 179, 212, 245, 278, 321, 344, 377, 410, 469, 533, 587, 641, 695, 728, 782, 825, 868, 912, 966, 1010, 1069, 1092, 1115, 1138, 1151, 1194, 1217, 1250, 1263, 1276], 143) := by decide +kernel
theorem dL_law_176 : decode cL_law 176 = .ok (.aload_n 1, 1) := by decide +kernel
theorem dL_law_177 : decode cL_law 177 = .ok (.aload_n 0, 1) := by decide +kernel
theorem dL_law_178 : decode cL_law 178 = .ok (.iload_n 3, 1) := by decide +kernel
theorem dL_law_179 : decode cL_law 179 = .ok (.iconst 1, 1) := by decide +kernel
theorem dL_law_180 : decode cL_law 180 = .ok (.iadd, 1) := by decide +kernel
theorem dL_law_181 : decode cL_law 181 = .ok (.iaload, 1) := by decide +kernel
theorem dL_law_182 : decode cL_law 182 = .ok (.invokevirtual 13, 3) := by decide +kernel
theorem dL_law_185 : decode cL_law 185 = .ok (.aload_n 2, 1) := by decide +kernel
theorem dL_law_186 : decode cL_law 186 = .ok (.aload_n 0, 1) := by decide +kernel
theorem dL_law_187 : decode cL_law 187 = .ok (.iload_n 3, 1) := by decide +kernel
theorem dL_law_188 : decode cL_law 188 = .ok (.iconst 1, 1) := by decide +kernel
theorem dL_law_189 : decode cL_law 189 = .ok (.iadd, 1) := by decide +kernel
theorem dL_law_190 : decode cL_law 190 = .ok (.iaload, 1) := by decide +kernel
theorem dL_law_191 : decode cL_law 191 = .ok (.invokevirtual 17, 3) := by decide +kernel
theorem dL_law_194 : decode cL_law 194 = .ok (.if_icmp .eq 1138, 3) := by decide +kernel
theorem dL_law_197 : decode cL_law 197 = .ok (.iconst 0, 1) := by decide +kernel
theorem dL_law_198 : decode cL_law 198 = .ok (.ireturn, 1) := by decide +kernel
theorem dL_law_199 : decode cL_law 199 = .ok (.aload_n 1, 1) := by decide +kernel
theorem dL_law_200 : decode cL_law 200 = .ok (.invokevirtual 18, 3) := by decide +kernel
theorem dL_law_203 : decode cL_law 203 = .ok (.aload_n 2, 1) := by decide +kernel
theorem dL_law_204 : decode cL_law 204 = .ok (.invokevirtual 22, 3) := by decide +kernel
theorem dL_law_207 : decode cL_law 207 = .ok (.if_icmp .eq 1125, 3) := by decide +kernel
theorem dL_law_210 : decode cL_law 210 = .ok (.iconst 0, 1) := by decide +kernel
theorem dL_law_211 : decode cL_law 211 = .ok (.ireturn, 1) := by decide +kernel
theorem dL_law_212 : decode cL_law 212 = .ok (.aload_n 1, 1) := by decide +kernel
theorem dL_law_213 : decode cL_law 213 = .ok (.aload_n 0, 1) := by decide +kernel
theorem dL_law_214 : decode cL_law 214 = .ok (.iload_n 3, 1) := by decide +kernel
theorem dL_law_215 : decode cL_law 215 = .ok (.iconst 1, 1) := by decide +kernel
theorem dL_law_216 : decode cL_law 216 = .ok (.iadd, 1) := by decide +kernel
theorem dL_law_217 : decode cL_law 217 = .ok (.iaload, 1) := by decide +kernel
theorem dL_law_218 : decode cL_law 218 = .ok (.aload_n 0, 1) := by decide +kernel
theorem dL_law_219 : decode cL_law 219 = .ok (.iload_n 3, 1) := by decide +kernel
theorem dL_law_220 : decode cL_law 220 = .ok (.iconst 2, 1) := by decide +kernel
theorem dL_law_221 : decode cL_law 221 = .ok (.iadd, 1) := by decide +kernel
theorem dL_law_222 : decode cL_law 222 = .ok (.iaload, 1) := by decide +kernel
theorem dL_law_223 : decode cL_law 223 = .ok (.invokevirtual 23, 3) := by decide +kernel
theorem dL_law_226 : decode cL_law 226 = .ok (.aload_n 2, 1) := by decide +kernel
theorem dL_law_227 : decode cL_law 227 = .ok (.aload_n 0, 1) := by decide +kernel
theorem dL_law_228 : decode cL_law 228 = .ok (.iload_n 3, 1) := by decide +kernel
theorem dL_law_229 : decode cL_law 229 = .ok (.iconst 1, 1) := by decide +kernel
theorem dL_law_230 : decode cL_law 230 = .ok (.iadd, 1) := by decide +kernel
theorem dL_law_231 : decode cL_law 231 = .ok (.iaload, 1) := by decide +kernel
theorem dL_law_232 : decode cL_law 232 = .ok (.aload_n 0, 1) := by decide +kernel
theorem dL_law_233 : decode cL_law 233 = .ok (.iload_n 3, 1) := by decide +kernel
theorem dL_law_234 : decode cL_law 234 = .ok (.iconst 2, 1) := by decide +kernel
theorem dL_law_235 : decode cL_law 235 = .ok (.iadd, 1) := by decide +kernel
theorem dL_law_236 : decode cL_law 236 = .ok (.iaload, 1) := by decide +kernel
theorem dL_law_237 : decode cL_law 237 = .ok (.invokevirtual 27, 3) := by decide +kernel
theorem dL_law_240 : decode cL_law 240 = .ok (.if_icmp .eq 1092, 3) := by decide +kernel
theorem dL_law_243 : decode cL_law 243 = .ok (.iconst 0, 1) := by decide +kernel
theorem dL_law_244 : decode cL_law 244 = .ok (.ireturn, 1) := by decide +kernel
theorem dL_law_245 : decode cL_law 245 = .ok (.aload_n 1, 1) := by decide +kernel
theorem dL_law_246 : decode cL_law 246 = .ok (.aload_n 0, 1) := by decide +kernel
theorem dL_law_247 : decode cL_law 247 = .ok (.iload_n 3, 1) := by decide +kernel
theorem dL_law_248 : decode cL_law 248 = .ok (.iconst 1, 1) := by decide +kernel
theorem dL_law_249 : decode cL_law 249 = .ok (.iadd, 1) := by decide +kernel
theorem dL_law_250 : decode cL_law 250 = .ok (.iaload, 1) := by decide +kernel
theorem dL_law_251 : decode cL_law 251 = .ok (.aload_n 0, 1) := by decide +kernel
theorem dL_law_252 : decode cL_law 252 = .ok (.iload_n 3, 1) := by decide +kernel
theorem dL_law_253 : decode cL_law 253 = .ok (.iconst 2, 1) := by decide +kernel
theorem dL_law_254 : decode cL_law 254 = .ok (.iadd, 1) := by decide +kernel
theorem dL_law_255 : decode cL_law 255 = .ok (.iaload, 1) := by decide +kernel
theorem dL_law_256 : decode cL_law 256 = .ok (.invokevirtual 28, 3) := by decide +kernel
theorem dL_law_259 : decode cL_law 259 = .ok (.aload_n 2, 1) := by decide +kernel
theorem dL_law_260 : decode cL_law 260 = .ok (.aload_n 0, 1) := by decide +kernel
theorem dL_law_261 : decode cL_law 261 = .ok (.iload_n 3, 1) := by decide +kernel
theorem dL_law_262 : decode cL_law 262 = .ok (.iconst 1, 1) := by decide +kernel
theorem dL_law_263 : decode cL_law 263 = .ok (.iadd, 1) := by decide +kernel
theorem dL_law_264 : decode cL_law 264 = .ok (.iaload, 1) := by decide +kernel
theorem dL_law_265 : decode cL_law 265 = .ok (.aload_n 0, 1) := by decide +kernel
theorem dL_law_266 : decode cL_law 266 = .ok (.iload_n 3, 1) := by decide +kernel
theorem dL_law_267 : decode cL_law 267 = .ok (.iconst 2, 1) := by decide +kernel
theorem dL_law_268 : decode cL_law 268 = .ok (.iadd, 1) := by decide +kernel
theorem dL_law_269 : decode cL_law 269 = .ok (.iaload, 1) := by decide +kernel
theorem dL_law_270 : decode cL_law 270 = .ok (.invokevirtual 31, 3) := by decide +kernel
theorem dL_law_273 : decode cL_law 273 = .ok (.if_icmp .eq 1059, 3) := by decide +kernel
theorem dL_law_276 : decode cL_law 276 = .ok (.iconst 0, 1) := by decide +kernel
theorem dL_law_277 : decode cL_law 277 = .ok (.ireturn, 1) := by decide +kernel
theorem dL_law_278 : decode cL_law 278 = .ok (.aload_n 1, 1) := by decide +kernel
theorem dL_law_279 : decode cL_law 279 = .ok (.aload_n 0, 1) := by decide +kernel
theorem dL_law_280 : decode cL_law 280 = .ok (.iload_n 3, 1) := by decide +kernel
theorem dL_law_281 : decode cL_law 281 = .ok (.iconst 1, 1) := by decide +kernel
theorem dL_law_282 : decode cL_law 282 = .ok (.iadd, 1) := by decide +kernel
theorem dL_law_283 : decode cL_law 283 = .ok (.iaload, 1) := by decide +kernel
theorem dL_law_284 : decode cL_law 284 = .ok (.aload_n 0, 1) := by decide +kernel
theorem dL_law_285 : decode cL_law 285 = .ok (.iload_n 3, 1) := by decide +kernel
theorem dL_law_286 : decode cL_law 286 = .ok (.iconst 2, 1) := by decide +kernel
theorem dL_law_287 : decode cL_law 287 = .ok (.iadd, 1) := by decide +kernel
theorem dL_law_288 : decode cL_law 288 = .ok (.iaload, 1) := by decide +kernel
theorem dL_law_289 : decode cL_law 289 = .ok (.invokevirtual 32, 3) := by decide +kernel
theorem dL_law_292 : decode cL_law 292 = .ok (.aload_n 2, 1) := by decide +kernel
theorem dL_law_293 : decode cL_law 293 = .ok (.aload_n 0, 1) := by decide +kernel
theorem dL_law_294 : decode cL_law 294 = .ok (.iload_n 3, 1) := by decide +kernel
theorem dL_law_295 : decode cL_law 295 = .ok (.iconst 1, 1) := by decide +kernel
theorem dL_law_296 : decode cL_law 296 = .ok (.iadd, 1) := by decide +kernel
theorem dL_law_297 : decode cL_law 297 = .ok (.iaload, 1) := by decide +kernel
theorem dL_law_298 : decode cL_law 298 = .ok (.aload_n 0, 1) := by decide +kernel
theorem dL_law_299 : decode cL_law 299 = .ok (.iload_n 3, 1) := by decide +kernel
theorem dL_law_300 : decode cL_law 300 = .ok (.iconst 2, 1) := by decide +kernel
theorem dL_law_301 : decode cL_law 301 = .ok (.iadd, 1) := by decide +kernel
theorem dL_law_302 : decode cL_law 302 = .ok (.iaload, 1) := by decide +kernel
theorem dL_law_303 : decode cL_law 303 = .ok (.invokevirtual 35, 3) := by decide +kernel
theorem dL_law_306 : decode cL_law 306 = .ok (.if_icmp .eq 1026, 3) := by decide +kernel
theorem dL_law_309 : decode cL_law 309 = .ok (.iconst 0, 1) := by decide +kernel
theorem dL_law_310 : decode cL_law 310 = .ok (.ireturn, 1) := by decide +kernel
theorem dL_law_311 : decode cL_law 311 = .ok (.aload_n 1, 1) := by decide +kernel
theorem dL_law_312 : decode cL_law 312 = .ok (.aload_n 0, 1) := by decide +kernel
theorem dL_law_313 : decode cL_law 313 = .ok (.iload_n 3, 1) := by decide +kernel
theorem dL_law_314 : decode cL_law 314 = .ok (.iconst 1, 1) := by decide +kernel
theorem dL_law_315 : decode cL_law 315 = .ok (.iadd, 1) := by decide +kernel
theorem dL_law_316 : decode cL_law 316 = .ok (.iaload, 1) := by decide +kernel
theorem dL_law_317 : decode cL_law 317 = .ok (.aload_n 0, 1) := by decide +kernel
theorem dL_law_318 : decode cL_law 318 = .ok (.iload_n 3, 1) := by decide +kernel
theorem dL_law_319 : decode cL_law 319 = .ok (.iconst 2, 1) := by decide +kernel
theorem dL_law_320 : decode cL_law 320 = .ok (.iadd, 1) := by decide +kernel
theorem dL_law_321 : decode cL_law 321 = .ok (.iaload, 1) := by decide +kernel
theorem dL_law_322 : decode cL_law 322 = .ok (.aload_n 0, 1) := by decide +kernel
theorem dL_law_323 : decode cL_law 323 = .ok (.iload_n 3, 1) := by decide +kernel
theorem dL_law_324 : decode cL_law 324 = .ok (.iconst 3, 1) := by decide +kernel
theorem dL_law_325 : decode cL_law 325 = .ok (.iadd, 1) := by decide +kernel
theorem dL_law_326 : decode cL_law 326 = .ok (.iaload, 1) := by decide +kernel
theorem dL_law_327 : decode cL_law 327 = .ok (.invokevirtual 36, 3) := by decide +kernel
theorem dL_law_330 : decode cL_law 330 = .ok (.aload_n 2, 1) := by decide +kernel
theorem dL_law_331 : decode cL_law 331 = .ok (.aload_n 0, 1) := by decide +kernel
theorem dL_law_332 : decode cL_law 332 = .ok (.iload_n 3, 1) := by decide +kernel
theorem dL_law_333 : decode cL_law 333 = .ok (.iconst 1, 1) := by decide +kernel
theorem dL_law_334 : decode cL_law 334 = .ok (.iadd, 1) := by decide +kernel
theorem dL_law_335 : decode cL_law 335 = .ok (.iaload, 1) := by decide +kernel
theorem dL_law_336 : decode cL_law 336 = .ok (.aload_n 0, 1) := by decide +kernel
theorem dL_law_337 : decode cL_law 337 = .ok (.iload_n 3, 1) := by decide +kernel
theorem dL_law_338 : decode cL_law 338 = .ok (.iconst 2, 1) := by decide +kernel
theorem dL_law_339 : decode cL_law 339 = .ok (.iadd, 1) := by decide +kernel
theorem dL_law_340 : decode cL_law 340 = .ok (.iaload, 1) := by decide +kernel
theorem dL_law_341 : decode cL_law 341 = .ok (.aload_n 0, 1) := by decide +kernel
theorem dL_law_342 : decode cL_law 342 = .ok (.iload_n 3, 1) := by decide +kernel
theorem dL_law_343 : decode cL_law 343 = .ok (.iconst 3, 1) := by decide +kernel
theorem dL_law_344 : decode cL_law 344 = .ok (.iadd, 1) := by decide +kernel
theorem dL_law_345 : decode cL_law 345 = .ok (.iaload, 1) := by decide +kernel
theorem dL_law_346 : decode cL_law 346 = .ok (.invokevirtual 40, 3) := by decide +kernel
theorem dL_law_349 : decode cL_law 349 = .ok (.if_icmp .eq 983, 3) := by decide +kernel
theorem dL_law_352 : decode cL_law 352 = .ok (.iconst 0, 1) := by decide +kernel
theorem dL_law_353 : decode cL_law 353 = .ok (.ireturn, 1) := by decide +kernel
theorem dL_law_354 : decode cL_law 354 = .ok (.aload_n 1, 1) := by decide +kernel
theorem dL_law_355 : decode cL_law 355 = .ok (.aload_n 0, 1) := by decide +kernel
theorem dL_law_356 : decode cL_law 356 = .ok (.iload_n 3, 1) := by decide +kernel
theorem dL_law_357 : decode cL_law 357 = .ok (.iconst 1, 1) := by decide +kernel
theorem dL_law_358 : decode cL_law 358 = .ok (.iadd, 1) := by decide +kernel
theorem dL_law_359 : decode cL_law 359 = .ok (.iaload, 1) := by decide +kernel
theorem dL_law_360 : decode cL_law 360 = .ok (.invokevirtual 41, 3) := by decide +kernel
theorem dL_law_363 : decode cL_law 363 = .ok (.aload_n 2, 1) := by decide +kernel
theorem dL_law_364 : decode cL_law 364 = .ok (.aload_n 0, 1) := by decide +kernel
theorem dL_law_365 : decode cL_law 365 = .ok (.iload_n 3, 1) := by decide +kernel
theorem dL_law_366 : decode cL_law 366 = .ok (.iconst 1, 1) := by decide +kernel
theorem dL_law_367 : decode cL_law 367 = .ok (.iadd, 1) := by decide +kernel
theorem dL_law_368 : decode cL_law 368 = .ok (.iaload, 1) := by decide +kernel
theorem dL_law_369 : decode cL_law 369 = .ok (.invokevirtual 44, 3) := by decide +kernel
theorem dL_law_372 : decode cL_law 372 = .ok (.if_icmp .eq 960, 3) := by decide +kernel
theorem dL_law_375 : decode cL_law 375 = .ok (.iconst 0, 1) := by decide +kernel
theorem dL_law_376 : decode cL_law 376 = .ok (.ireturn, 1) := by decide +kernel
theorem dL_law_377 : decode cL_law 377 = .ok (.aload_n 1, 1) := by decide +kernel
theorem dL_law_378 : decode cL_law 378 = .ok (.aload_n 0, 1) := by decide +kernel
theorem dL_law_379 : decode cL_law 379 = .ok (.iload_n 3, 1) := by decide +kernel
theorem dL_law_380 : decode cL_law 380 = .ok (.iconst 1, 1) := by decide +kernel
theorem dL_law_381 : decode cL_law 381 = .ok (.iadd, 1) := by decide +kernel
theorem dL_law_382 : decode cL_law 382 = .ok (.iaload, 1) := by decide +kernel
theorem dL_law_383 : decode cL_law 383 = .ok (.aload_n 0, 1) := by decide +kernel
theorem dL_law_384 : decode cL_law 384 = .ok (.iload_n 3, 1) := by decide +kernel
theorem dL_law_385 : decode cL_law 385 = .ok (.iconst 2, 1) := by decide +kernel
theorem dL_law_386 : decode cL_law 386 = .ok (.iadd, 1) := by decide +kernel
theorem dL_law_387 : decode cL_law 387 = .ok (.iaload, 1) := by decide +kernel
theorem dL_law_388 : decode cL_law 388 = .ok (.invokevirtual 45, 3) := by decide +kernel
theorem dL_law_391 : decode cL_law 391 = .ok (.aload_n 2, 1) := by decide +kernel
theorem dL_law_392 : decode cL_law 392 = .ok (.aload_n 0, 1) := by decide +kernel
theorem dL_law_393 : decode cL_law 393 = .ok (.iload_n 3, 1) := by decide +kernel
theorem dL_law_394 : decode cL_law 394 = .ok (.iconst 1, 1) := by decide +kernel
theorem dL_law_395 : decode cL_law 395 = .ok (.iadd, 1) := by decide +kernel
theorem dL_law_396 : decode cL_law 396 = .ok (.iaload, 1) := by decide +kernel
theorem dL_law_397 : decode cL_law 397 = .ok (.aload_n 0, 1) := by decide +kernel
theorem dL_law_398 : decode cL_law 398 = .ok (.iload_n 3, 1) := by decide +kernel
theorem dL_law_399 : decode cL_law 399 = .ok (.iconst 2, 1) := by decide +kernel
theorem dL_law_400 : decode cL_law 400 = .ok (.iadd, 1) := by decide +kernel
theorem dL_law_401 : decode cL_law 401 = .ok (.iaload, 1) := by decide +kernel
theorem dL_law_402 : decode cL_law 402 = .ok (.invokevirtual 48, 3) := by decide +kernel
theorem dL_law_405 : decode cL_law 405 = .ok (.if_icmp .eq 927, 3) := by decide +kernel
theorem dL_law_408 : decode cL_law 408 = .ok (.iconst 0, 1) := by decide +kernel
theorem dL_law_409 : decode cL_law 409 = .ok (.ireturn, 1) := by decide +kernel
theorem dL_law_410 : decode cL_law 410 = .ok (.aload_n 1, 1) := by decide +kernel
theorem dL_law_411 : decode cL_law 411 = .ok (.aload_n 0, 1) := by decide +kernel
theorem dL_law_412 : decode cL_law 412 = .ok (.iload_n 3, 1) := by decide +kernel
theorem dL_law_413 : decode cL_law 413 = .ok (.iconst 1, 1) := by decide +kernel
theorem dL_law_414 : decode cL_law 414 = .ok (.iadd, 1) := by decide +kernel
theorem dL_law_415 : decode cL_law 415 = .ok (.iaload, 1) := by decide +kernel
theorem dL_law_416 : decode cL_law 416 = .ok (.aload_n 0, 1) := by decide +kernel
theorem dL_law_417 : decode cL_law 417 = .ok (.iload_n 3, 1) := by decide +kernel
theorem dL_law_418 : decode cL_law 418 = .ok (.iconst 2, 1) := by decide +kernel
theorem dL_law_419 : decode cL_law 419 = .ok (.iadd, 1) := by decide +kernel
theorem dL_law_420 : decode cL_law 420 = .ok (.iaload, 1) := by decide +kernel
theorem dL_law_421 : decode cL_law 421 = .ok (.invokevirtual 49, 3) := by decide +kernel
theorem dL_law_424 : decode cL_law 424 = .ok (.aload_n 2, 1) := by decide +kernel
theorem dL_law_425 : decode cL_law 425 = .ok (.aload_n 0, 1) := by decide +kernel
theorem dL_law_426 : decode cL_law 426 = .ok (.iload_n 3, 1) := by decide +kernel
theorem dL_law_427 : decode cL_law 427 = .ok (.iconst 1, 1) := by decide +kernel
theorem dL_law_428 : decode cL_law 428 = .ok (.iadd, 1) := by decide +kernel
theorem dL_law_429 : decode cL_law 429 = .ok (.iaload, 1) := by decide +kernel
theorem dL_law_430 : decode cL_law 430 = .ok (.aload_n 0, 1) := by decide +kernel
theorem dL_law_431 : decode cL_law 431 = .ok (.iload_n 3, 1) := by decide +kernel
theorem dL_law_432 : decode cL_law 432 = .ok (.iconst 2, 1) := by decide +kernel
theorem dL_law_433 : decode cL_law 433 = .ok (.iadd, 1) := by decide +kernel
theorem dL_law_434 : decode cL_law 434 = .ok (.iaload, 1) := by decide +kernel
theorem dL_law_435 : decode cL_law 435 = .ok (.invokevirtual 52, 3) := by decide +kernel
theorem dL_law_438 : decode cL_law 438 = .ok (.if_icmp .eq 894, 3) := by decide +kernel
theorem dL_law_441 : decode cL_law 441 = .ok (.iconst 0, 1) := by decide +kernel
theorem dL_law_442 : decode cL_law 442 = .ok (.ireturn, 1) := by decide +kernel
theorem dL_law_443 : decode cL_law 443 = .ok (.aload_n 1, 1) := by decide +kernel
theorem dL_law_444 : decode cL_law 444 = .ok (.aload_n 0, 1) := by decide +kernel
theorem dL_law_445 : decode cL_law 445 = .ok (.iload_n 3, 1) := by decide +kernel
theorem dL_law_446 : decode cL_law 446 = .ok (.iconst 1, 1) := by decide +kernel
theorem dL_law_447 : decode cL_law 447 = .ok (.iadd, 1) := by decide +kernel
theorem dL_law_448 : decode cL_law 448 = .ok (.iaload, 1) := by decide +kernel
theorem dL_law_449 : decode cL_law 449 = .ok (.aload_n 0, 1) := by decide +kernel
theorem dL_law_450 : decode cL_law 450 = .ok (.iload_n 3, 1) := by decide +kernel
theorem dL_law_451 : decode cL_law 451 = .ok (.iconst 2, 1) := by decide +kernel
theorem dL_law_452 : decode cL_law 452 = .ok (.iadd, 1) := by decide +kernel
theorem dL_law_453 : decode cL_law 453 = .ok (.iaload, 1) := by decide +kernel
theorem dL_law_454 : decode cL_law 454 = .ok (.aload_n 0, 1) := by decide +kernel
theorem dL_law_455 : decode cL_law 455 = .ok (.iload_n 3, 1) := by decide +kernel
theorem dL_law_456 : decode cL_law 456 = .ok (.iconst 3, 1) := by decide +kernel
theorem dL_law_457 : decode cL_law 457 = .ok (.iadd, 1) := by decide +kernel
theorem dL_law_458 : decode cL_law 458 = .ok (.iaload, 1) := by decide +kernel
theorem dL_law_459 : decode cL_law 459 = .ok (.ifCond .eq 7, 3) := by decide +kernel
theorem dL_law_462 : decode cL_law 462 = .ok (.iconst 1, 1) := by decide +kernel
theorem dL_law_463 : decode cL_law 463 = .ok (.goto 4, 3) := by decide +kernel
theorem dL_law_466 : decode cL_law 466 = .ok (.iconst 0, 1) := by decide +kernel
theorem dL_law_467 : decode cL_law 467 = .ok (.invokevirtual 53, 3) := by decide +kernel
theorem dL_law_470 : decode cL_law 470 = .ok (.aload_n 2, 1) := by decide +kernel
theorem dL_law_471 : decode cL_law 471 = .ok (.aload_n 0, 1) := by decide +kernel
theorem dL_law_472 : decode cL_law 472 = .ok (.iload_n 3, 1) := by decide +kernel
theorem dL_law_473 : decode cL_law 473 = .ok (.iconst 1, 1) := by decide +kernel
theorem dL_law_474 : decode cL_law 474 = .ok (.iadd, 1) := by decide +kernel
theorem dL_law_475 : decode cL_law 475 = .ok (.iaload, 1) := by decide +kernel
theorem dL_law_476 : decode cL_law 476 = .ok (.aload_n 0, 1) := by decide +kernel
theorem dL_law_477 : decode cL_law 477 = .ok (.iload_n 3, 1) := by decide +kernel
theorem dL_law_478 : decode cL_law 478 = .ok (.iconst 2, 1) := by decide +kernel
theorem dL_law_479 : decode cL_law 479 = .ok (.iadd, 1) := by decide +kernel
theorem dL_law_480 : decode cL_law 480 = .ok (.iaload, 1) := by decide +kernel
theorem dL_law_481 : decode cL_law 481 = .ok (.aload_n 0, 1) := by decide +kernel
theorem dL_law_482 : decode cL_law 482 = .ok (.iload_n 3, 1) := by decide +kernel
theorem dL_law_483 : decode cL_law 483 = .ok (.iconst 3, 1) := by decide +kernel
theorem dL_law_484 : decode cL_law 484 = .ok (.iadd, 1) := by decide +kernel
theorem dL_law_485 : decode cL_law 485 = .ok (.iaload, 1) := by decide +kernel
theorem dL_law_486 : decode cL_law 486 = .ok (.ifCond .eq 7, 3) := by decide +kernel
theorem dL_law_489 : decode cL_law 489 = .ok (.iconst 1, 1) := by decide +kernel
theorem dL_law_490 : decode cL_law 490 = .ok (.goto 4, 3) := by decide +kernel
theorem dL_law_493 : decode cL_law 493 = .ok (.iconst 0, 1) := by decide +kernel
theorem dL_law_494 : decode cL_law 494 = .ok (.invokevirtual 57, 3) := by decide +kernel
theorem dL_law_497 : decode cL_law 497 = .ok (.if_icmp .eq 835, 3) := by decide +kernel
theorem dL_law_500 : decode cL_law 500 = .ok (.iconst 0, 1) := by decide +kernel
theorem dL_law_501 : decode cL_law 501 = .ok (.ireturn, 1) := by decide +kernel
theorem dL_law_502 : decode cL_law 502 = .ok (.aload_n 1, 1) := by decide +kernel
theorem dL_law_503 : decode cL_law 503 = .ok (.aload_n 0, 1) := by decide +kernel
theorem dL_law_504 : decode cL_law 504 = .ok (.iload_n 3, 1) := by decide +kernel
theorem dL_law_505 : decode cL_law 505 = .ok (.iconst 1, 1) := by decide +kernel
theorem dL_law_506 : decode cL_law 506 = .ok (.iadd, 1) := by decide +kernel
theorem dL_law_507 : decode cL_law 507 = .ok (.iaload, 1) := by decide +kernel
theorem dL_law_508 : decode cL_law 508 = .ok (.aload_n 0, 1) := by decide +kernel
theorem dL_law_509 : decode cL_law 509 = .ok (.iload_n 3, 1) := by decide +kernel
theorem dL_law_510 : decode cL_law 510 = .ok (.iconst 2, 1) := by decide +kernel
theorem dL_law_511 : decode cL_law 511 = .ok (.iadd, 1) := by decide +kernel
theorem dL_law_512 : decode cL_law 512 = .ok (.iaload, 1) := by decide +kernel
theorem dL_law_513 : decode cL_law 513 = .ok (.aload_n 0, 1) := by decide +kernel
theorem dL_law_514 : decode cL_law 514 = .ok (.iload_n 3, 1) := by decide +kernel
theorem dL_law_515 : decode cL_law 515 = .ok (.iconst 3, 1) := by decide +kernel
theorem dL_law_516 : decode cL_law 516 = .ok (.iadd, 1) := by decide +kernel
theorem dL_law_517 : decode cL_law 517 = .ok (.iaload, 1) := by decide +kernel
theorem dL_law_518 : decode cL_law 518 = .ok (.aload_n 0, 1) := by decide +kernel
theorem dL_law_519 : decode cL_law 519 = .ok (.iload_n 3, 1) := by decide +kernel
theorem dL_law_520 : decode cL_law 520 = .ok (.iconst 4, 1) := by decide +kernel
theorem dL_law_521 : decode cL_law 521 = .ok (.iadd, 1) := by decide +kernel
theorem dL_law_522 : decode cL_law 522 = .ok (.iaload, 1) := by decide +kernel
theorem dL_law_523 : decode cL_law 523 = .ok (.aload_n 0, 1) := by decide +kernel
theorem dL_law_524 : decode cL_law 524 = .ok (.iload_n 3, 1) := by decide +kernel
theorem dL_law_525 : decode cL_law 525 = .ok (.iconst 5, 1) := by decide +kernel
theorem dL_law_526 : decode cL_law 526 = .ok (.iadd, 1) := by decide +kernel
theorem dL_law_527 : decode cL_law 527 = .ok (.iaload, 1) := by decide +kernel
theorem dL_law_528 : decode cL_law 528 = .ok (.invokevirtual 58, 3) := by decide +kernel
theorem dL_law_531 : decode cL_law 531 = .ok (.aload_n 2, 1) := by decide +kernel
theorem dL_law_532 : decode cL_law 532 = .ok (.aload_n 0, 1) := by decide +kernel
theorem dL_law_533 : decode cL_law 533 = .ok (.iload_n 3, 1) := by decide +kernel
theorem dL_law_534 : decode cL_law 534 = .ok (.iconst 1, 1) := by decide +kernel
theorem dL_law_535 : decode cL_law 535 = .ok (.iadd, 1) := by decide +kernel
theorem dL_law_536 : decode cL_law 536 = .ok (.iaload, 1) := by decide +kernel
theorem dL_law_537 : decode cL_law 537 = .ok (.aload_n 0, 1) := by decide +kernel
theorem dL_law_538 : decode cL_law 538 = .ok (.iload_n 3, 1) := by decide +kernel
theorem dL_law_539 : decode cL_law 539 = .ok (.iconst 2, 1) := by decide +kernel
theorem dL_law_540 : decode cL_law 540 = .ok (.iadd, 1) := by decide +kernel
theorem dL_law_541 : decode cL_law 541 = .ok (.iaload, 1) := by decide +kernel
theorem dL_law_542 : decode cL_law 542 = .ok (.aload_n 0, 1) := by decide +kernel
theorem dL_law_543 : decode cL_law 543 = .ok (.iload_n 3, 1) := by decide +kernel
theorem dL_law_544 : decode cL_law 544 = .ok (.iconst 3, 1) := by decide +kernel
theorem dL_law_545 : decode cL_law 545 = .ok (.iadd, 1) := by decide +kernel
theorem dL_law_546 : decode cL_law 546 = .ok (.iaload, 1) := by decide +kernel
theorem dL_law_547 : decode cL_law 547 = .ok (.aload_n 0, 1) := by decide +kernel
theorem dL_law_548 : decode cL_law 548 = .ok (.iload_n 3, 1) := by decide +kernel
theorem dL_law_549 : decode cL_law 549 = .ok (.iconst 4, 1) := by decide +kernel
theorem dL_law_550 : decode cL_law 550 = .ok (.iadd, 1) := by decide +kernel
theorem dL_law_551 : decode cL_law 551 = .ok (.iaload, 1) := by decide +kernel
theorem dL_law_552 : decode cL_law 552 = .ok (.aload_n 0, 1) := by decide +kernel
theorem dL_law_553 : decode cL_law 553 = .ok (.iload_n 3, 1) := by decide +kernel
theorem dL_law_554 : decode cL_law 554 = .ok (.iconst 5, 1) := by decide +kernel
theorem dL_law_555 : decode cL_law 555 = .ok (.iadd, 1) := by decide +kernel
theorem dL_law_556 : decode cL_law 556 = .ok (.iaload, 1) := by decide +kernel
theorem dL_law_557 : decode cL_law 557 = .ok (.invokevirtual 62, 3) := by decide +kernel
theorem dL_law_560 : decode cL_law 560 = .ok (.lcmp, 1) := by decide +kernel
theorem dL_law_561 : decode cL_law 561 = .ok (.ifCond .eq 771, 3) := by decide +kernel
theorem dL_law_564 : decode cL_law 564 = .ok (.iconst 0, 1) := by decide +kernel
theorem dL_law_565 : decode cL_law 565 = .ok (.ireturn, 1) := by decide +kernel
theorem dL_law_566 : decode cL_law 566 = .ok (.aload_n 1, 1) := by decide +kernel
theorem dL_law_567 : decode cL_law 567 = .ok (.aload_n 0, 1) := by decide +kernel
theorem dL_law_568 : decode cL_law 568 = .ok (.iload_n 3, 1) := by decide +kernel
theorem dL_law_569 : decode cL_law 569 = .ok (.iconst 1, 1) := by decide +kernel
theorem dL_law_570 : decode cL_law 570 = .ok (.iadd, 1) := by decide +kernel
theorem dL_law_571 : decode cL_law 571 = .ok (.iaload, 1) := by decide +kernel
theorem dL_law_572 : decode cL_law 572 = .ok (.aload_n 0, 1) := by decide +kernel
theorem dL_law_573 : decode cL_law 573 = .ok (.iload_n 3, 1) := by decide +kernel
theorem dL_law_574 : decode cL_law 574 = .ok (.iconst 2, 1) := by decide +kernel
theorem dL_law_575 : decode cL_law 575 = .ok (.iadd, 1) := by decide +kernel
theorem dL_law_576 : decode cL_law 576 = .ok (.iaload, 1) := by decide +kernel
theorem dL_law_577 : decode cL_law 577 = .ok (.aload_n 0, 1) := by decide +kernel
theorem dL_law_578 : decode cL_law 578 = .ok (.iload_n 3, 1) := by decide +kernel
theorem dL_law_579 : decode cL_law 579 = .ok (.iconst 3, 1) := by decide +kernel
theorem dL_law_580 : decode cL_law 580 = .ok (.iadd, 1) := by decide +kernel
theorem dL_law_581 : decode cL_law 581 = .ok (.iaload, 1) := by decide +kernel
theorem dL_law_582 : decode cL_law 582 = .ok (.aload_n 0, 1) := by decide +kernel
theorem dL_law_583 : decode cL_law 583 = .ok (.iload_n 3, 1) := by decide +kernel
theorem dL_law_584 : decode cL_law 584 = .ok (.iconst 4, 1) := by decide +kernel
theorem dL_law_585 : decode cL_law 585 = .ok (.iadd, 1) := by decide +kernel
theorem dL_law_586 : decode cL_law 586 = .ok (.iaload, 1) := by decide +kernel
theorem dL_law_587 : decode cL_law 587 = .ok (.invokevirtual 63, 3) := by decide +kernel
theorem dL_law_590 : decode cL_law 590 = .ok (.aload_n 2, 1) := by decide +kernel
theorem dL_law_591 : decode cL_law 591 = .ok (.aload_n 0, 1) := by decide +kernel
theorem dL_law_592 : decode cL_law 592 = .ok (.iload_n 3, 1) := by decide +kernel
theorem dL_law_593 : decode cL_law 593 = .ok (.iconst 1, 1) := by decide +kernel
theorem dL_law_594 : decode cL_law 594 = .ok (.iadd, 1) := by decide +kernel
theorem dL_law_595 : decode cL_law 595 = .ok (.iaload, 1) := by decide +kernel
theorem dL_law_596 : decode cL_law 596 = .ok (.aload_n 0, 1) := by decide +kernel
theorem dL_law_597 : decode cL_law 597 = .ok (.iload_n 3, 1) := by decide +kernel
theorem dL_law_598 : decode cL_law 598 = .ok (.iconst 2, 1) := by decide +kernel
theorem dL_law_599 : decode cL_law 599 = .ok (.iadd, 1) := by decide +kernel
theorem dL_law_600 : decode cL_law 600 = .ok (.iaload, 1) := by decide +kernel
theorem dL_law_601 : decode cL_law 601 = .ok (.aload_n 0, 1) := by decide +kernel
theorem dL_law_602 : decode cL_law 602 = .ok (.iload_n 3, 1) := by decide +kernel
theorem dL_law_603 : decode cL_law 603 = .ok (.iconst 3, 1) := by decide +kernel
theorem dL_law_604 : decode cL_law 604 = .ok (.iadd, 1) := by decide +kernel
theorem dL_law_605 : decode cL_law 605 = .ok (.iaload, 1) := by decide +kernel
theorem dL_law_606 : decode cL_law 606 = .ok (.aload_n 0, 1) := by decide +kernel
theorem dL_law_607 : decode cL_law 607 = .ok (.iload_n 3, 1) := by decide +kernel
theorem dL_law_608 : decode cL_law 608 = .ok (.iconst 4, 1) := by decide +kernel
theorem dL_law_609 : decode cL_law 609 = .ok (.iadd, 1) := by decide +kernel
theorem dL_law_610 : decode cL_law 610 = .ok (.iaload, 1) := by decide +kernel
theorem dL_law_611 : decode cL_law 611 = .ok (.invokevirtual 67, 3) := by decide +kernel
theorem dL_law_614 : decode cL_law 614 = .ok (.lcmp, 1) := by decide +kernel
theorem dL_law_615 : decode cL_law 615 = .ok (.ifCond .eq 717, 3) := by decide +kernel
theorem dL_law_618 : decode cL_law 618 = .ok (.iconst 0, 1) := by decide +kernel
theorem dL_law_619 : decode cL_law 619 = .ok (.ireturn, 1) := by decide +kernel
theorem dL_law_620 : decode cL_law 620 = .ok (.aload_n 1, 1) := by decide +kernel
theorem dL_law_621 : decode cL_law 621 = .ok (.aload_n 0, 1) := by decide +kernel
theorem dL_law_622 : decode cL_law 622 = .ok (.iload_n 3, 1) := by decide +kernel
theorem dL_law_623 : decode cL_law 623 = .ok (.iconst 1, 1) := by decide +kernel
theorem dL_law_624 : decode cL_law 624 = .ok (.iadd, 1) := by decide +kernel
theorem dL_law_625 : decode cL_law 625 = .ok (.iaload, 1) := by decide +kernel
theorem dL_law_626 : decode cL_law 626 = .ok (.aload_n 0, 1) := by decide +kernel
theorem dL_law_627 : decode cL_law 627 = .ok (.iload_n 3, 1) := by decide +kernel
theorem dL_law_628 : decode cL_law 628 = .ok (.iconst 2, 1) := by decide +kernel
theorem dL_law_629 : decode cL_law 629 = .ok (.iadd, 1) := by decide +kernel
theorem dL_law_630 : decode cL_law 630 = .ok (.iaload, 1) := by decide +kernel
theorem dL_law_631 : decode cL_law 631 = .ok (.aload_n 0, 1) := by decide +kernel
theorem dL_law_632 : decode cL_law 632 = .ok (.iload_n 3, 1) := by decide +kernel
theorem dL_law_633 : decode cL_law 633 = .ok (.iconst 3, 1) := by decide +kernel
theorem dL_law_634 : decode cL_law 634 = .ok (.iadd, 1) := by decide +kernel
theorem dL_law_635 : decode cL_law 635 = .ok (.iaload, 1) := by decide +kernel
theorem dL_law_636 : decode cL_law 636 = .ok (.aload_n 0, 1) := by decide +kernel
theorem dL_law_637 : decode cL_law 637 = .ok (.iload_n 3, 1) := by decide +kernel
theorem dL_law_638 : decode cL_law 638 = .ok (.iconst 4, 1) := by decide +kernel
theorem dL_law_639 : decode cL_law 639 = .ok (.iadd, 1) := by decide +kernel
theorem dL_law_640 : decode cL_law 640 = .ok (.iaload, 1) := by decide +kernel
theorem dL_law_641 : decode cL_law 641 = .ok (.invokevirtual 68, 3) := by decide +kernel
theorem dL_law_644 : decode cL_law 644 = .ok (.aload_n 2, 1) := by decide +kernel
theorem dL_law_645 : decode cL_law 645 = .ok (.aload_n 0, 1) := by decide +kernel
theorem dL_law_646 : decode cL_law 646 = .ok (.iload_n 3, 1) := by decide +kernel
theorem dL_law_647 : decode cL_law 647 = .ok (.iconst 1, 1) := by decide +kernel
theorem dL_law_648 : decode cL_law 648 = .ok (.iadd, 1) := by decide +kernel
theorem dL_law_649 : decode cL_law 649 = .ok (.iaload, 1) := by decide +kernel
theorem dL_law_650 : decode cL_law 650 = .ok (.aload_n 0, 1) := by decide +kernel
theorem dL_law_651 : decode cL_law 651 = .ok (.iload_n 3, 1) := by decide +kernel
theorem dL_law_652 : decode cL_law 652 = .ok (.iconst 2, 1) := by decide +kernel
theorem dL_law_653 : decode cL_law 653 = .ok (.iadd, 1) := by decide +kernel
theorem dL_law_654 : decode cL_law 654 = .ok (.iaload, 1) := by decide +kernel
theorem dL_law_655 : decode cL_law 655 = .ok (.aload_n 0, 1) := by decide +kernel
theorem dL_law_656 : decode cL_law 656 = .ok (.iload_n 3, 1) := by decide +kernel
theorem dL_law_657 : decode cL_law 657 = .ok (.iconst 3, 1) := by decide +kernel
theorem dL_law_658 : decode cL_law 658 = .ok (.iadd, 1) := by decide +kernel
theorem dL_law_659 : decode cL_law 659 = .ok (.iaload, 1) := by decide +kernel
theorem dL_law_660 : decode cL_law 660 = .ok (.aload_n 0, 1) := by decide +kernel
theorem dL_law_661 : decode cL_law 661 = .ok (.iload_n 3, 1) := by decide +kernel
theorem dL_law_662 : decode cL_law 662 = .ok (.iconst 4, 1) := by decide +kernel
theorem dL_law_663 : decode cL_law 663 = .ok (.iadd, 1) := by decide +kernel
theorem dL_law_664 : decode cL_law 664 = .ok (.iaload, 1) := by decide +kernel
theorem dL_law_665 : decode cL_law 665 = .ok (.invokevirtual 71, 3) := by decide +kernel
theorem dL_law_668 : decode cL_law 668 = .ok (.lcmp, 1) := by decide +kernel
theorem dL_law_669 : decode cL_law 669 = .ok (.ifCond .eq 663, 3) := by decide +kernel
theorem dL_law_672 : decode cL_law 672 = .ok (.iconst 0, 1) := by decide +kernel
theorem dL_law_673 : decode cL_law 673 = .ok (.ireturn, 1) := by decide +kernel
theorem dL_law_674 : decode cL_law 674 = .ok (.aload_n 1, 1) := by decide +kernel
theorem dL_law_675 : decode cL_law 675 = .ok (.aload_n 0, 1) := by decide +kernel
theorem dL_law_676 : decode cL_law 676 = .ok (.iload_n 3, 1) := by decide +kernel
theorem dL_law_677 : decode cL_law 677 = .ok (.iconst 1, 1) := by decide +kernel
theorem dL_law_678 : decode cL_law 678 = .ok (.iadd, 1) := by decide +kernel
theorem dL_law_679 : decode cL_law 679 = .ok (.iaload, 1) := by decide +kernel
theorem dL_law_680 : decode cL_law 680 = .ok (.aload_n 0, 1) := by decide +kernel
theorem dL_law_681 : decode cL_law 681 = .ok (.iload_n 3, 1) := by decide +kernel
theorem dL_law_682 : decode cL_law 682 = .ok (.iconst 2, 1) := by decide +kernel
theorem dL_law_683 : decode cL_law 683 = .ok (.iadd, 1) := by decide +kernel
theorem dL_law_684 : decode cL_law 684 = .ok (.iaload, 1) := by decide +kernel
theorem dL_law_685 : decode cL_law 685 = .ok (.aload_n 0, 1) := by decide +kernel
theorem dL_law_686 : decode cL_law 686 = .ok (.iload_n 3, 1) := by decide +kernel
theorem dL_law_687 : decode cL_law 687 = .ok (.iconst 3, 1) := by decide +kernel
theorem dL_law_688 : decode cL_law 688 = .ok (.iadd, 1) := by decide +kernel
theorem dL_law_689 : decode cL_law 689 = .ok (.iaload, 1) := by decide +kernel
theorem dL_law_690 : decode cL_law 690 = .ok (.aload_n 0, 1) := by decide +kernel
theorem dL_law_691 : decode cL_law 691 = .ok (.iload_n 3, 1) := by decide +kernel
theorem dL_law_692 : decode cL_law 692 = .ok (.iconst 4, 1) := by decide +kernel
theorem dL_law_693 : decode cL_law 693 = .ok (.iadd, 1) := by decide +kernel
theorem dL_law_694 : decode cL_law 694 = .ok (.iaload, 1) := by decide +kernel
theorem dL_law_695 : decode cL_law 695 = .ok (.invokevirtual 72, 3) := by decide +kernel
theorem dL_law_698 : decode cL_law 698 = .ok (.aload_n 2, 1) := by decide +kernel
theorem dL_law_699 : decode cL_law 699 = .ok (.aload_n 0, 1) := by decide +kernel
theorem dL_law_700 : decode cL_law 700 = .ok (.iload_n 3, 1) := by decide +kernel
theorem dL_law_701 : decode cL_law 701 = .ok (.iconst 1, 1) := by decide +kernel
theorem dL_law_702 : decode cL_law 702 = .ok (.iadd, 1) := by decide +kernel
theorem dL_law_703 : decode cL_law 703 = .ok (.iaload, 1) := by decide +kernel
theorem dL_law_704 : decode cL_law 704 = .ok (.aload_n 0, 1) := by decide +kernel
theorem dL_law_705 : decode cL_law 705 = .ok (.iload_n 3, 1) := by decide +kernel
theorem dL_law_706 : decode cL_law 706 = .ok (.iconst 2, 1) := by decide +kernel
theorem dL_law_707 : decode cL_law 707 = .ok (.iadd, 1) := by decide +kernel
theorem dL_law_708 : decode cL_law 708 = .ok (.iaload, 1) := by decide +kernel
theorem dL_law_709 : decode cL_law 709 = .ok (.aload_n 0, 1) := by decide +kernel
theorem dL_law_710 : decode cL_law 710 = .ok (.iload_n 3, 1) := by decide +kernel
theorem dL_law_711 : decode cL_law 711 = .ok (.iconst 3, 1) := by decide +kernel
theorem dL_law_712 : decode cL_law 712 = .ok (.iadd, 1) := by decide +kernel
theorem dL_law_713 : decode cL_law 713 = .ok (.iaload, 1) := by decide +kernel
theorem dL_law_714 : decode cL_law 714 = .ok (.aload_n 0, 1) := by decide +kernel
theorem dL_law_715 : decode cL_law 715 = .ok (.iload_n 3, 1) := by decide +kernel
theorem dL_law_716 : decode cL_law 716 = .ok (.iconst 4, 1) := by decide +kernel
theorem dL_law_717 : decode cL_law 717 = .ok (.iadd, 1) := by decide +kernel
theorem dL_law_718 : decode cL_law 718 = .ok (.iaload, 1) := by decide +kernel
theorem dL_law_719 : decode cL_law 719 = .ok (.invokevirtual 75, 3) := by decide +kernel
theorem dL_law_722 : decode cL_law 722 = .ok (.lcmp, 1) := by decide +kernel
theorem dL_law_723 : decode cL_law 723 = .ok (.ifCond .eq 609, 3) := by decide +kernel
theorem dL_law_726 : decode cL_law 726 = .ok (.iconst 0, 1) := by decide +kernel
theorem dL_law_727 : decode cL_law 727 = .ok (.ireturn, 1) := by decide +kernel
theorem dL_law_728 : decode cL_law 728 = .ok (.aload_n 1, 1) := by decide +kernel
theorem dL_law_729 : decode cL_law 729 = .ok (.aload_n 0, 1) := by decide +kernel
theorem dL_law_730 : decode cL_law 730 = .ok (.iload_n 3, 1) := by decide +kernel
theorem dL_law_731 : decode cL_law 731 = .ok (.iconst 1, 1) := by decide +kernel
theorem dL_law_732 : decode cL_law 732 = .ok (.iadd, 1) := by decide +kernel
theorem dL_law_733 : decode cL_law 733 = .ok (.iaload, 1) := by decide +kernel
theorem dL_law_734 : decode cL_law 734 = .ok (.aload_n 0, 1) := by decide +kernel
theorem dL_law_735 : decode cL_law 735 = .ok (.iload_n 3, 1) := by decide +kernel
theorem dL_law_736 : decode cL_law 736 = .ok (.iconst 2, 1) := by decide +kernel
theorem dL_law_737 : decode cL_law 737 = .ok (.iadd, 1) := by decide +kernel
theorem dL_law_738 : decode cL_law 738 = .ok (.iaload, 1) := by decide +kernel
theorem dL_law_739 : decode cL_law 739 = .ok (.invokevirtual 76, 3) := by decide +kernel
theorem dL_law_742 : decode cL_law 742 = .ok (.aload_n 2, 1) := by decide +kernel
theorem dL_law_743 : decode cL_law 743 = .ok (.aload_n 0, 1) := by decide +kernel
theorem dL_law_744 : decode cL_law 744 = .ok (.iload_n 3, 1) := by decide +kernel
theorem dL_law_745 : decode cL_law 745 = .ok (.iconst 1, 1) := by decide +kernel
theorem dL_law_746 : decode cL_law 746 = .ok (.iadd, 1) := by decide +kernel
theorem dL_law_747 : decode cL_law 747 = .ok (.iaload, 1) := by decide +kernel
theorem dL_law_748 : decode cL_law 748 = .ok (.aload_n 0, 1) := by decide +kernel
theorem dL_law_749 : decode cL_law 749 = .ok (.iload_n 3, 1) := by decide +kernel
theorem dL_law_750 : decode cL_law 750 = .ok (.iconst 2, 1) := by decide +kernel
theorem dL_law_751 : decode cL_law 751 = .ok (.iadd, 1) := by decide +kernel
theorem dL_law_752 : decode cL_law 752 = .ok (.iaload, 1) := by decide +kernel
theorem dL_law_753 : decode cL_law 753 = .ok (.invokevirtual 79, 3) := by decide +kernel
theorem dL_law_756 : decode cL_law 756 = .ok (.if_icmp .eq 576, 3) := by decide +kernel
theorem dL_law_759 : decode cL_law 759 = .ok (.iconst 0, 1) := by decide +kernel
theorem dL_law_760 : decode cL_law 760 = .ok (.ireturn, 1) := by decide +kernel
theorem dL_law_761 : decode cL_law 761 = .ok (.aload_n 1, 1) := by decide +kernel
theorem dL_law_762 : decode cL_law 762 = .ok (.aload_n 0, 1) := by decide +kernel
theorem dL_law_763 : decode cL_law 763 = .ok (.iload_n 3, 1) := by decide +kernel
theorem dL_law_764 : decode cL_law 764 = .ok (.iconst 1, 1) := by decide +kernel
theorem dL_law_765 : decode cL_law 765 = .ok (.iadd, 1) := by decide +kernel
theorem dL_law_766 : decode cL_law 766 = .ok (.iaload, 1) := by decide +kernel
theorem dL_law_767 : decode cL_law 767 = .ok (.aload_n 0, 1) := by decide +kernel
theorem dL_law_768 : decode cL_law 768 = .ok (.iload_n 3, 1) := by decide +kernel
theorem dL_law_769 : decode cL_law 769 = .ok (.iconst 2, 1) := by decide +kernel
theorem dL_law_770 : decode cL_law 770 = .ok (.iadd, 1) := by decide +kernel
theorem dL_law_771 : decode cL_law 771 = .ok (.iaload, 1) := by decide +kernel
theorem dL_law_772 : decode cL_law 772 = .ok (.aload_n 0, 1) := by decide +kernel
theorem dL_law_773 : decode cL_law 773 = .ok (.iload_n 3, 1) := by decide +kernel
theorem dL_law_774 : decode cL_law 774 = .ok (.iconst 3, 1) := by decide +kernel
theorem dL_law_775 : decode cL_law 775 = .ok (.iadd, 1) := by decide +kernel
theorem dL_law_776 : decode cL_law 776 = .ok (.iaload, 1) := by decide +kernel
theorem dL_law_777 : decode cL_law 777 = .ok (.aload_n 0, 1) := by decide +kernel
theorem dL_law_778 : decode cL_law 778 = .ok (.iload_n 3, 1) := by decide +kernel
theorem dL_law_779 : decode cL_law 779 = .ok (.iconst 4, 1) := by decide +kernel
theorem dL_law_780 : decode cL_law 780 = .ok (.iadd, 1) := by decide +kernel
theorem dL_law_781 : decode cL_law 781 = .ok (.iaload, 1) := by decide +kernel
theorem dL_law_782 : decode cL_law 782 = .ok (.invokevirtual 80, 3) := by decide +kernel
theorem dL_law_785 : decode cL_law 785 = .ok (.aload_n 2, 1) := by decide +kernel
theorem dL_law_786 : decode cL_law 786 = .ok (.aload_n 0, 1) := by decide +kernel
theorem dL_law_787 : decode cL_law 787 = .ok (.iload_n 3, 1) := by decide +kernel
theorem dL_law_788 : decode cL_law 788 = .ok (.iconst 1, 1) := by decide +kernel
theorem dL_law_789 : decode cL_law 789 = .ok (.iadd, 1) := by decide +kernel
theorem dL_law_790 : decode cL_law 790 = .ok (.iaload, 1) := by decide +kernel
theorem dL_law_791 : decode cL_law 791 = .ok (.aload_n 0, 1) := by decide +kernel
theorem dL_law_792 : decode cL_law 792 = .ok (.iload_n 3, 1) := by decide +kernel
theorem dL_law_793 : decode cL_law 793 = .ok (.iconst 2, 1) := by decide +kernel
theorem dL_law_794 : decode cL_law 794 = .ok (.iadd, 1) := by decide +kernel
theorem dL_law_795 : decode cL_law 795 = .ok (.iaload, 1) := by decide +kernel
theorem dL_law_796 : decode cL_law 796 = .ok (.aload_n 0, 1) := by decide +kernel
theorem dL_law_797 : decode cL_law 797 = .ok (.iload_n 3, 1) := by decide +kernel
theorem dL_law_798 : decode cL_law 798 = .ok (.iconst 3, 1) := by decide +kernel
theorem dL_law_799 : decode cL_law 799 = .ok (.iadd, 1) := by decide +kernel
theorem dL_law_800 : decode cL_law 800 = .ok (.iaload, 1) := by decide +kernel
theorem dL_law_801 : decode cL_law 801 = .ok (.aload_n 0, 1) := by decide +kernel
theorem dL_law_802 : decode cL_law 802 = .ok (.iload_n 3, 1) := by decide +kernel
theorem dL_law_803 : decode cL_law 803 = .ok (.iconst 4, 1) := by decide +kernel
theorem dL_law_804 : decode cL_law 804 = .ok (.iadd, 1) := by decide +kernel
theorem dL_law_805 : decode cL_law 805 = .ok (.iaload, 1) := by decide +kernel
theorem dL_law_806 : decode cL_law 806 = .ok (.invokevirtual 83, 3) := by decide +kernel
theorem dL_law_809 : decode cL_law 809 = .ok (.lcmp, 1) := by decide +kernel
theorem dL_law_810 : decode cL_law 810 = .ok (.ifCond .eq 522, 3) := by decide +kernel
theorem dL_law_813 : decode cL_law 813 = .ok (.iconst 0, 1) := by decide +kernel
theorem dL_law_814 : decode cL_law 814 = .ok (.ireturn, 1) := by decide +kernel
theorem dL_law_815 : decode cL_law 815 = .ok (.aload_n 1, 1) := by decide +kernel
theorem dL_law_816 : decode cL_law 816 = .ok (.aload_n 0, 1) := by decide +kernel
theorem dL_law_817 : decode cL_law 817 = .ok (.iload_n 3, 1) := by decide +kernel
theorem dL_law_818 : decode cL_law 818 = .ok (.iconst 1, 1) := by decide +kernel
theorem dL_law_819 : decode cL_law 819 = .ok (.iadd, 1) := by decide +kernel
theorem dL_law_820 : decode cL_law 820 = .ok (.iaload, 1) := by decide +kernel
theorem dL_law_821 : decode cL_law 821 = .ok (.aload_n 0, 1) := by decide +kernel
theorem dL_law_822 : decode cL_law 822 = .ok (.iload_n 3, 1) := by decide +kernel
theorem dL_law_823 : decode cL_law 823 = .ok (.iconst 2, 1) := by decide +kernel
theorem dL_law_824 : decode cL_law 824 = .ok (.iadd, 1) := by decide +kernel
theorem dL_law_825 : decode cL_law 825 = .ok (.iaload, 1) := by decide +kernel
theorem dL_law_826 : decode cL_law 826 = .ok (.aload_n 0, 1) := by decide +kernel
theorem dL_law_827 : decode cL_law 827 = .ok (.iload_n 3, 1) := by decide +kernel
theorem dL_law_828 : decode cL_law 828 = .ok (.iconst 3, 1) := by decide +kernel
theorem dL_law_829 : decode cL_law 829 = .ok (.iadd, 1) := by decide +kernel
theorem dL_law_830 : decode cL_law 830 = .ok (.iaload, 1) := by decide +kernel
theorem dL_law_831 : decode cL_law 831 = .ok (.invokevirtual 84, 3) := by decide +kernel
theorem dL_law_834 : decode cL_law 834 = .ok (.aload_n 2, 1) := by decide +kernel
theorem dL_law_835 : decode cL_law 835 = .ok (.aload_n 0, 1) := by decide +kernel
theorem dL_law_836 : decode cL_law 836 = .ok (.iload_n 3, 1) := by decide +kernel
theorem dL_law_837 : decode cL_law 837 = .ok (.iconst 1, 1) := by decide +kernel
theorem dL_law_838 : decode cL_law 838 = .ok (.iadd, 1) := by decide +kernel
theorem dL_law_839 : decode cL_law 839 = .ok (.iaload, 1) := by decide +kernel
theorem dL_law_840 : decode cL_law 840 = .ok (.aload_n 0, 1) := by decide +kernel
theorem dL_law_841 : decode cL_law 841 = .ok (.iload_n 3, 1) := by decide +kernel
theorem dL_law_842 : decode cL_law 842 = .ok (.iconst 2, 1) := by decide +kernel
theorem dL_law_843 : decode cL_law 843 = .ok (.iadd, 1) := by decide +kernel
theorem dL_law_844 : decode cL_law 844 = .ok (.iaload, 1) := by decide +kernel
theorem dL_law_845 : decode cL_law 845 = .ok (.aload_n 0, 1) := by decide +kernel
theorem dL_law_846 : decode cL_law 846 = .ok (.iload_n 3, 1) := by decide +kernel
theorem dL_law_847 : decode cL_law 847 = .ok (.iconst 3, 1) := by decide +kernel
theorem dL_law_848 : decode cL_law 848 = .ok (.iadd, 1) := by decide +kernel
theorem dL_law_849 : decode cL_law 849 = .ok (.iaload, 1) := by decide +kernel
theorem dL_law_850 : decode cL_law 850 = .ok (.invokevirtual 87, 3) := by decide +kernel
theorem dL_law_853 : decode cL_law 853 = .ok (.if_icmp .eq 479, 3) := by decide +kernel
theorem dL_law_856 : decode cL_law 856 = .ok (.iconst 0, 1) := by decide +kernel
theorem dL_law_857 : decode cL_law 857 = .ok (.ireturn, 1) := by decide +kernel
theorem dL_law_858 : decode cL_law 858 = .ok (.aload_n 1, 1) := by decide +kernel
theorem dL_law_859 : decode cL_law 859 = .ok (.aload_n 0, 1) := by decide +kernel
theorem dL_law_860 : decode cL_law 860 = .ok (.iload_n 3, 1) := by decide +kernel
theorem dL_law_861 : decode cL_law 861 = .ok (.iconst 1, 1) := by decide +kernel
theorem dL_law_862 : decode cL_law 862 = .ok (.iadd, 1) := by decide +kernel
theorem dL_law_863 : decode cL_law 863 = .ok (.iaload, 1) := by decide +kernel
theorem dL_law_864 : decode cL_law 864 = .ok (.aload_n 0, 1) := by decide +kernel
theorem dL_law_865 : decode cL_law 865 = .ok (.iload_n 3, 1) := by decide +kernel
theorem dL_law_866 : decode cL_law 866 = .ok (.iconst 2, 1) := by decide +kernel
theorem dL_law_867 : decode cL_law 867 = .ok (.iadd, 1) := by decide +kernel
theorem dL_law_868 : decode cL_law 868 = .ok (.iaload, 1) := by decide +kernel
theorem dL_law_869 : decode cL_law 869 = .ok (.aload_n 0, 1) := by decide +kernel
theorem dL_law_870 : decode cL_law 870 = .ok (.iload_n 3, 1) := by decide +kernel
theorem dL_law_871 : decode cL_law 871 = .ok (.iconst 3, 1) := by decide +kernel
theorem dL_law_872 : decode cL_law 872 = .ok (.iadd, 1) := by decide +kernel
theorem dL_law_873 : decode cL_law 873 = .ok (.iaload, 1) := by decide +kernel
theorem dL_law_874 : decode cL_law 874 = .ok (.invokevirtual 88, 3) := by decide +kernel
theorem dL_law_877 : decode cL_law 877 = .ok (.aload_n 2, 1) := by decide +kernel
theorem dL_law_878 : decode cL_law 878 = .ok (.aload_n 0, 1) := by decide +kernel
theorem dL_law_879 : decode cL_law 879 = .ok (.iload_n 3, 1) := by decide +kernel
theorem dL_law_880 : decode cL_law 880 = .ok (.iconst 1, 1) := by decide +kernel
theorem dL_law_881 : decode cL_law 881 = .ok (.iadd, 1) := by decide +kernel
theorem dL_law_882 : decode cL_law 882 = .ok (.iaload, 1) := by decide +kernel
theorem dL_law_883 : decode cL_law 883 = .ok (.aload_n 0, 1) := by decide +kernel
theorem dL_law_884 : decode cL_law 884 = .ok (.iload_n 3, 1) := by decide +kernel
theorem dL_law_885 : decode cL_law 885 = .ok (.iconst 2, 1) := by decide +kernel
theorem dL_law_886 : decode cL_law 886 = .ok (.iadd, 1) := by decide +kernel
theorem dL_law_887 : decode cL_law 887 = .ok (.iaload, 1) := by decide +kernel
theorem dL_law_888 : decode cL_law 888 = .ok (.aload_n 0, 1) := by decide +kernel
theorem dL_law_889 : decode cL_law 889 = .ok (.iload_n 3, 1) := by decide +kernel
theorem dL_law_890 : decode cL_law 890 = .ok (.iconst 3, 1) := by decide +kernel
theorem dL_law_891 : decode cL_law 891 = .ok (.iadd, 1) := by decide +kernel
theorem dL_law_892 : decode cL_law 892 = .ok (.iaload, 1) := by decide +kernel
theorem dL_law_893 : decode cL_law 893 = .ok (.invokevirtual 91, 3) := by decide +kernel
theorem dL_law_896 : decode cL_law 896 = .ok (.if_icmp .eq 436, 3) := by decide +kernel
theorem dL_law_899 : decode cL_law 899 = .ok (.iconst 0, 1) := by decide +kernel
theorem dL_law_900 : decode cL_law 900 = .ok (.ireturn, 1) := by decide +kernel
theorem dL_law_901 : decode cL_law 901 = .ok (.aload_n 1, 1) := by decide +kernel
theorem dL_law_902 : decode cL_law 902 = .ok (.aload_n 0, 1) := by decide +kernel
theorem dL_law_903 : decode cL_law 903 = .ok (.iload_n 3, 1) := by decide +kernel
theorem dL_law_904 : decode cL_law 904 = .ok (.iconst 1, 1) := by decide +kernel
theorem dL_law_905 : decode cL_law 905 = .ok (.iadd, 1) := by decide +kernel
theorem dL_law_906 : decode cL_law 906 = .ok (.iaload, 1) := by decide +kernel
theorem dL_law_907 : decode cL_law 907 = .ok (.aload_n 0, 1) := by decide +kernel
theorem dL_law_908 : decode cL_law 908 = .ok (.iload_n 3, 1) := by decide +kernel
theorem dL_law_909 : decode cL_law 909 = .ok (.iconst 2, 1) := by decide +kernel
theorem dL_law_910 : decode cL_law 910 = .ok (.iadd, 1) := by decide +kernel
theorem dL_law_911 : decode cL_law 911 = .ok (.iaload, 1) := by decide +kernel
theorem dL_law_912 : decode cL_law 912 = .ok (.aload_n 0, 1) := by decide +kernel
theorem dL_law_913 : decode cL_law 913 = .ok (.iload_n 3, 1) := by decide +kernel
theorem dL_law_914 : decode cL_law 914 = .ok (.iconst 3, 1) := by decide +kernel
theorem dL_law_915 : decode cL_law 915 = .ok (.iadd, 1) := by decide +kernel
theorem dL_law_916 : decode cL_law 916 = .ok (.iaload, 1) := by decide +kernel
theorem dL_law_917 : decode cL_law 917 = .ok (.invokevirtual 92, 3) := by decide +kernel
theorem dL_law_920 : decode cL_law 920 = .ok (.aload_n 2, 1) := by decide +kernel
theorem dL_law_921 : decode cL_law 921 = .ok (.aload_n 0, 1) := by decide +kernel
theorem dL_law_922 : decode cL_law 922 = .ok (.iload_n 3, 1) := by decide +kernel
theorem dL_law_923 : decode cL_law 923 = .ok (.iconst 1, 1) := by decide +kernel
theorem dL_law_924 : decode cL_law 924 = .ok (.iadd, 1) := by decide +kernel
theorem dL_law_925 : decode cL_law 925 = .ok (.iaload, 1) := by decide +kernel
theorem dL_law_926 : decode cL_law 926 = .ok (.aload_n 0, 1) := by decide +kernel
theorem dL_law_927 : decode cL_law 927 = .ok (.iload_n 3, 1) := by decide +kernel
theorem dL_law_928 : decode cL_law 928 = .ok (.iconst 2, 1) := by decide +kernel
theorem dL_law_929 : decode cL_law 929 = .ok (.iadd, 1) := by decide +kernel
theorem dL_law_930 : decode cL_law 930 = .ok (.iaload, 1) := by decide +kernel
theorem dL_law_931 : decode cL_law 931 = .ok (.aload_n 0, 1) := by decide +kernel
theorem dL_law_932 : decode cL_law 932 = .ok (.iload_n 3, 1) := by decide +kernel
theorem dL_law_933 : decode cL_law 933 = .ok (.iconst 3, 1) := by decide +kernel
theorem dL_law_934 : decode cL_law 934 = .ok (.iadd, 1) := by decide +kernel
theorem dL_law_935 : decode cL_law 935 = .ok (.iaload, 1) := by decide +kernel
theorem dL_law_936 : decode cL_law 936 = .ok (.invokevirtual 96, 3) := by decide +kernel
theorem dL_law_939 : decode cL_law 939 = .ok (.lcmp, 1) := by decide +kernel
theorem dL_law_940 : decode cL_law 940 = .ok (.ifCond .eq 392, 3) := by decide +kernel
theorem dL_law_943 : decode cL_law 943 = .ok (.iconst 0, 1) := by decide +kernel
theorem dL_law_944 : decode cL_law 944 = .ok (.ireturn, 1) := by decide +kernel
theorem dL_law_945 : decode cL_law 945 = .ok (.aload_n 1, 1) := by decide +kernel
theorem dL_law_946 : decode cL_law 946 = .ok (.aload_n 0, 1) := by decide +kernel
theorem dL_law_947 : decode cL_law 947 = .ok (.iload_n 3, 1) := by decide +kernel
theorem dL_law_948 : decode cL_law 948 = .ok (.iconst 1, 1) := by decide +kernel
theorem dL_law_949 : decode cL_law 949 = .ok (.iadd, 1) := by decide +kernel
theorem dL_law_950 : decode cL_law 950 = .ok (.iaload, 1) := by decide +kernel
theorem dL_law_951 : decode cL_law 951 = .ok (.aload_n 0, 1) := by decide +kernel
theorem dL_law_952 : decode cL_law 952 = .ok (.iload_n 3, 1) := by decide +kernel
theorem dL_law_953 : decode cL_law 953 = .ok (.iconst 2, 1) := by decide +kernel
theorem dL_law_954 : decode cL_law 954 = .ok (.iadd, 1) := by decide +kernel
theorem dL_law_955 : decode cL_law 955 = .ok (.iaload, 1) := by decide +kernel
theorem dL_law_956 : decode cL_law 956 = .ok (.aload_n 0, 1) := by decide +kernel
theorem dL_law_957 : decode cL_law 957 = .ok (.iload_n 3, 1) := by decide +kernel
theorem dL_law_958 : decode cL_law 958 = .ok (.iconst 3, 1) := by decide +kernel
theorem dL_law_959 : decode cL_law 959 = .ok (.iadd, 1) := by decide +kernel
theorem dL_law_960 : decode cL_law 960 = .ok (.iaload, 1) := by decide +kernel
theorem dL_law_961 : decode cL_law 961 = .ok (.aload_n 0, 1) := by decide +kernel
theorem dL_law_962 : decode cL_law 962 = .ok (.iload_n 3, 1) := by decide +kernel
theorem dL_law_963 : decode cL_law 963 = .ok (.iconst 4, 1) := by decide +kernel
theorem dL_law_964 : decode cL_law 964 = .ok (.iadd, 1) := by decide +kernel
theorem dL_law_965 : decode cL_law 965 = .ok (.iaload, 1) := by decide +kernel
theorem dL_law_966 : decode cL_law 966 = .ok (.invokevirtual 97, 3) := by decide +kernel
theorem dL_law_969 : decode cL_law 969 = .ok (.aload_n 2, 1) := by decide +kernel
theorem dL_law_970 : decode cL_law 970 = .ok (.aload_n 0, 1) := by decide +kernel
theorem dL_law_971 : decode cL_law 971 = .ok (.iload_n 3, 1) := by decide +kernel
theorem dL_law_972 : decode cL_law 972 = .ok (.iconst 1, 1) := by decide +kernel
theorem dL_law_973 : decode cL_law 973 = .ok (.iadd, 1) := by decide +kernel
theorem dL_law_974 : decode cL_law 974 = .ok (.iaload, 1) := by decide +kernel
theorem dL_law_975 : decode cL_law 975 = .ok (.aload_n 0, 1) := by decide +kernel
theorem dL_law_976 : decode cL_law 976 = .ok (.iload_n 3, 1) := by decide +kernel
theorem dL_law_977 : decode cL_law 977 = .ok (.iconst 2, 1) := by decide +kernel
theorem dL_law_978 : decode cL_law 978 = .ok (.iadd, 1) := by decide +kernel
theorem dL_law_979 : decode cL_law 979 = .ok (.iaload, 1) := by decide +kernel
theorem dL_law_980 : decode cL_law 980 = .ok (.aload_n 0, 1) := by decide +kernel
theorem dL_law_981 : decode cL_law 981 = .ok (.iload_n 3, 1) := by decide +kernel
theorem dL_law_982 : decode cL_law 982 = .ok (.iconst 3, 1) := by decide +kernel
theorem dL_law_983 : decode cL_law 983 = .ok (.iadd, 1) := by decide +kernel
theorem dL_law_984 : decode cL_law 984 = .ok (.iaload, 1) := by decide +kernel
theorem dL_law_985 : decode cL_law 985 = .ok (.aload_n 0, 1) := by decide +kernel
theorem dL_law_986 : decode cL_law 986 = .ok (.iload_n 3, 1) := by decide +kernel
theorem dL_law_987 : decode cL_law 987 = .ok (.iconst 4, 1) := by decide +kernel
theorem dL_law_988 : decode cL_law 988 = .ok (.iadd, 1) := by decide +kernel
theorem dL_law_989 : decode cL_law 989 = .ok (.iaload, 1) := by decide +kernel
theorem dL_law_990 : decode cL_law 990 = .ok (.invokevirtual 100, 3) := by decide +kernel
theorem dL_law_993 : decode cL_law 993 = .ok (.lcmp, 1) := by decide +kernel
theorem dL_law_994 : decode cL_law 994 = .ok (.ifCond .eq 338, 3) := by decide +kernel
theorem dL_law_997 : decode cL_law 997 = .ok (.iconst 0, 1) := by decide +kernel
theorem dL_law_998 : decode cL_law 998 = .ok (.ireturn, 1) := by decide +kernel
theorem dL_law_999 : decode cL_law 999 = .ok (.aload_n 1, 1) := by decide +kernel
theorem dL_law_1000 : decode cL_law 1000 = .ok (.aload_n 0, 1) := by decide +kernel
theorem dL_law_1001 : decode cL_law 1001 = .ok (.iload_n 3, 1) := by decide +kernel
theorem dL_law_1002 : decode cL_law 1002 = .ok (.iconst 1, 1) := by decide +kernel
theorem dL_law_1003 : decode cL_law 1003 = .ok (.iadd, 1) := by decide +kernel
theorem dL_law_1004 : decode cL_law 1004 = .ok (.iaload, 1) := by decide +kernel
theorem dL_law_1005 : decode cL_law 1005 = .ok (.aload_n 0, 1) := by decide +kernel
theorem dL_law_1006 : decode cL_law 1006 = .ok (.iload_n 3, 1) := by decide +kernel
theorem dL_law_1007 : decode cL_law 1007 = .ok (.iconst 2, 1) := by decide +kernel
theorem dL_law_1008 : decode cL_law 1008 = .ok (.iadd, 1) := by decide +kernel
theorem dL_law_1009 : decode cL_law 1009 = .ok (.iaload, 1) := by decide +kernel
theorem dL_law_1010 : decode cL_law 1010 = .ok (.aload_n 0, 1) := by decide +kernel
theorem dL_law_1011 : decode cL_law 1011 = .ok (.iload_n 3, 1) := by decide +kernel
theorem dL_law_1012 : decode cL_law 1012 = .ok (.iconst 3, 1) := by decide +kernel
theorem dL_law_1013 : decode cL_law 1013 = .ok (.iadd, 1) := by decide +kernel
theorem dL_law_1014 : decode cL_law 1014 = .ok (.iaload, 1) := by decide +kernel
theorem dL_law_1015 : decode cL_law 1015 = .ok (.invokevirtual 101, 3) := by decide +kernel
theorem dL_law_1018 : decode cL_law 1018 = .ok (.aload_n 2, 1) := by decide +kernel
theorem dL_law_1019 : decode cL_law 1019 = .ok (.aload_n 0, 1) := by decide +kernel
theorem dL_law_1020 : decode cL_law 1020 = .ok (.iload_n 3, 1) := by decide +kernel
theorem dL_law_1021 : decode cL_law 1021 = .ok (.iconst 1, 1) := by decide +kernel
theorem dL_law_1022 : decode cL_law 1022 = .ok (.iadd, 1) := by decide +kernel
theorem dL_law_1023 : decode cL_law 1023 = .ok (.iaload, 1) := by decide +kernel
theorem dL_law_1024 : decode cL_law 1024 = .ok (.aload_n 0, 1) := by decide +kernel
theorem dL_law_1025 : decode cL_law 1025 = .ok (.iload_n 3, 1) := by decide +kernel
theorem dL_law_1026 : decode cL_law 1026 = .ok (.iconst 2, 1) := by decide +kernel
theorem dL_law_1027 : decode cL_law 1027 = .ok (.iadd, 1) := by decide +kernel
theorem dL_law_1028 : decode cL_law 1028 = .ok (.iaload, 1) := by decide +kernel
theorem dL_law_1029 : decode cL_law 1029 = .ok (.aload_n 0, 1) := by decide +kernel
theorem dL_law_1030 : decode cL_law 1030 = .ok (.iload_n 3, 1) := by decide +kernel
theorem dL_law_1031 : decode cL_law 1031 = .ok (.iconst 3, 1) := by decide +kernel
theorem dL_law_1032 : decode cL_law 1032 = .ok (.iadd, 1) := by decide +kernel
theorem dL_law_1033 : decode cL_law 1033 = .ok (.iaload, 1) := by decide +kernel
theorem dL_law_1034 : decode cL_law 1034 = .ok (.invokevirtual 104, 3) := by decide +kernel
theorem dL_law_1037 : decode cL_law 1037 = .ok (.lcmp, 1) := by decide +kernel
theorem dL_law_1038 : decode cL_law 1038 = .ok (.ifCond .eq 294, 3) := by decide +kernel
theorem dL_law_1041 : decode cL_law 1041 = .ok (.iconst 0, 1) := by decide +kernel
theorem dL_law_1042 : decode cL_law 1042 = .ok (.ireturn, 1) := by decide +kernel
theorem dL_law_1043 : decode cL_law 1043 = .ok (.aload_n 1, 1) := by decide +kernel
theorem dL_law_1044 : decode cL_law 1044 = .ok (.aload_n 0, 1) := by decide +kernel
theorem dL_law_1045 : decode cL_law 1045 = .ok (.iload_n 3, 1) := by decide +kernel
theorem dL_law_1046 : decode cL_law 1046 = .ok (.iconst 1, 1) := by decide +kernel
theorem dL_law_1047 : decode cL_law 1047 = .ok (.iadd, 1) := by decide +kernel
theorem dL_law_1048 : decode cL_law 1048 = .ok (.iaload, 1) := by decide +kernel
theorem dL_law_1049 : decode cL_law 1049 = .ok (.aload_n 0, 1) := by decide +kernel
theorem dL_law_1050 : decode cL_law 1050 = .ok (.iload_n 3, 1) := by decide +kernel
theorem dL_law_1051 : decode cL_law 1051 = .ok (.iconst 2, 1) := by decide +kernel
theorem dL_law_1052 : decode cL_law 1052 = .ok (.iadd, 1) := by decide +kernel
theorem dL_law_1053 : decode cL_law 1053 = .ok (.iaload, 1) := by decide +kernel
theorem dL_law_1054 : decode cL_law 1054 = .ok (.aload_n 0, 1) := by decide +kernel
theorem dL_law_1055 : decode cL_law 1055 = .ok (.iload_n 3, 1) := by decide +kernel
theorem dL_law_1056 : decode cL_law 1056 = .ok (.iconst 3, 1) := by decide +kernel
theorem dL_law_1057 : decode cL_law 1057 = .ok (.iadd, 1) := by decide +kernel
theorem dL_law_1058 : decode cL_law 1058 = .ok (.iaload, 1) := by decide +kernel
theorem dL_law_1059 : decode cL_law 1059 = .ok (.ifCond .eq 7, 3) := by decide +kernel
theorem dL_law_1062 : decode cL_law 1062 = .ok (.iconst 1, 1) := by decide +kernel
theorem dL_law_1063 : decode cL_law 1063 = .ok (.goto 4, 3) := by decide +kernel
theorem dL_law_1066 : decode cL_law 1066 = .ok (.iconst 0, 1) := by decide +kernel
theorem dL_law_1067 : decode cL_law 1067 = .ok (.invokevirtual 105, 3) := by decide +kernel
theorem dL_law_1070 : decode cL_law 1070 = .ok (.aload_n 2, 1) := by decide +kernel
theorem dL_law_1071 : decode cL_law 1071 = .ok (.aload_n 0, 1) := by decide +kernel
theorem dL_law_1072 : decode cL_law 1072 = .ok (.iload_n 3, 1) := by decide +kernel
theorem dL_law_1073 : decode cL_law 1073 = .ok (.iconst 1, 1) := by decide +kernel
theorem dL_law_1074 : decode cL_law 1074 = .ok (.iadd, 1) := by decide +kernel
theorem dL_law_1075 : decode cL_law 1075 = .ok (.iaload, 1) := by decide +kernel
theorem dL_law_1076 : decode cL_law 1076 = .ok (.aload_n 0, 1) := by decide +kernel
theorem dL_law_1077 : decode cL_law 1077 = .ok (.iload_n 3, 1) := by decide +kernel
theorem dL_law_1078 : decode cL_law 1078 = .ok (.iconst 2, 1) := by decide +kernel
theorem dL_law_1079 : decode cL_law 1079 = .ok (.iadd, 1) := by decide +kernel
theorem dL_law_1080 : decode cL_law 1080 = .ok (.iaload, 1) := by decide +kernel
theorem dL_law_1081 : decode cL_law 1081 = .ok (.aload_n 0, 1) := by decide +kernel
theorem dL_law_1082 : decode cL_law 1082 = .ok (.iload_n 3, 1) := by decide +kernel
theorem dL_law_1083 : decode cL_law 1083 = .ok (.iconst 3, 1) := by decide +kernel
theorem dL_law_1084 : decode cL_law 1084 = .ok (.iadd, 1) := by decide +kernel
theorem dL_law_1085 : decode cL_law 1085 = .ok (.iaload, 1) := by decide +kernel
theorem dL_law_1086 : decode cL_law 1086 = .ok (.ifCond .eq 7, 3) := by decide +kernel
theorem dL_law_1089 : decode cL_law 1089 = .ok (.iconst 1, 1) := by decide +kernel
theorem dL_law_1090 : decode cL_law 1090 = .ok (.goto 4, 3) := by decide +kernel
theorem dL_law_1093 : decode cL_law 1093 = .ok (.iconst 0, 1) := by decide +kernel
theorem dL_law_1094 : decode cL_law 1094 = .ok (.invokevirtual 108, 3) := by decide +kernel
theorem dL_law_1097 : decode cL_law 1097 = .ok (.if_icmp .eq 235, 3) := by decide +kernel
theorem dL_law_1100 : decode cL_law 1100 = .ok (.iconst 0, 1) := by decide +kernel
theorem dL_law_1101 : decode cL_law 1101 = .ok (.ireturn, 1) := by decide +kernel
theorem dL_law_1102 : decode cL_law 1102 = .ok (.aload_n 1, 1) := by decide +kernel
theorem dL_law_1103 : decode cL_law 1103 = .ok (.aload_n 0, 1) := by decide +kernel
theorem dL_law_1104 : decode cL_law 1104 = .ok (.iload_n 3, 1) := by decide +kernel
theorem dL_law_1105 : decode cL_law 1105 = .ok (.iconst 1, 1) := by decide +kernel
theorem dL_law_1106 : decode cL_law 1106 = .ok (.iadd, 1) := by decide +kernel
theorem dL_law_1107 : decode cL_law 1107 = .ok (.iaload, 1) := by decide +kernel
theorem dL_law_1108 : decode cL_law 1108 = .ok (.invokevirtual 109, 3) := by decide +kernel
theorem dL_law_1111 : decode cL_law 1111 = .ok (.aload_n 2, 1) := by decide +kernel
theorem dL_law_1112 : decode cL_law 1112 = .ok (.aload_n 0, 1) := by decide +kernel
theorem dL_law_1113 : decode cL_law 1113 = .ok (.iload_n 3, 1) := by decide +kernel
theorem dL_law_1114 : decode cL_law 1114 = .ok (.iconst 1, 1) := by decide +kernel
theorem dL_law_1115 : decode cL_law 1115 = .ok (.iadd, 1) := by decide +kernel
theorem dL_law_1116 : decode cL_law 1116 = .ok (.iaload, 1) := by decide +kernel
theorem dL_law_1117 : decode cL_law 1117 = .ok (.invokevirtual 112, 3) := by decide +kernel
theorem dL_law_1120 : decode cL_law 1120 = .ok (.if_icmp .eq 212, 3) := by decide +kernel
theorem dL_law_1123 : decode cL_law 1123 = .ok (.iconst 0, 1) := by decide +kernel
theorem dL_law_1124 : decode cL_law 1124 = .ok (.ireturn, 1) := by decide +kernel
theorem dL_law_1125 : decode cL_law 1125 = .ok (.aload_n 1, 1) := by decide +kernel
theorem dL_law_1126 : decode cL_law 1126 = .ok (.aload_n 0, 1) := by decide +kernel
theorem dL_law_1127 : decode cL_law 1127 = .ok (.iload_n 3, 1) := by decide +kernel
theorem dL_law_1128 : decode cL_law 1128 = .ok (.iconst 1, 1) := by decide +kernel
theorem dL_law_1129 : decode cL_law 1129 = .ok (.iadd, 1) := by decide +kernel
theorem dL_law_1130 : decode cL_law 1130 = .ok (.iaload, 1) := by decide +kernel
theorem dL_law_1131 : decode cL_law 1131 = .ok (.invokevirtual 113, 3) := by decide +kernel
theorem dL_law_1134 : decode cL_law 1134 = .ok (.aload_n 2, 1) := by decide +kernel
theorem dL_law_1135 : decode cL_law 1135 = .ok (.aload_n 0, 1) := by decide +kernel
theorem dL_law_1136 : decode cL_law 1136 = .ok (.iload_n 3, 1) := by decide +kernel
theorem dL_law_1137 : decode cL_law 1137 = .ok (.iconst 1, 1) := by decide +kernel
theorem dL_law_1138 : decode cL_law 1138 = .ok (.iadd, 1) := by decide +kernel
theorem dL_law_1139 : decode cL_law 1139 = .ok (.iaload, 1) := by decide +kernel
theorem dL_law_1140 : decode cL_law 1140 = .ok (.invokevirtual 116, 3) := by decide +kernel
theorem dL_law_1143 : decode cL_law 1143 = .ok (.if_icmp .eq 189, 3) := by decide +kernel
theorem dL_law_1146 : decode cL_law 1146 = .ok (.iconst 0, 1) := by decide +kernel
theorem dL_law_1147 : decode cL_law 1147 = .ok (.ireturn, 1) := by decide +kernel
theorem dL_law_1148 : decode cL_law 1148 = .ok (.aload_n 1, 1) := by decide +kernel
theorem dL_law_1149 : decode cL_law 1149 = .ok (.aload_n 0, 1) := by decide +kernel
theorem dL_law_1150 : decode cL_law 1150 = .ok (.iload_n 3, 1) := by decide +kernel
theorem dL_law_1151 : decode cL_law 1151 = .ok (.iconst 1, 1) := by decide +kernel
theorem dL_law_1152 : decode cL_law 1152 = .ok (.iadd, 1) := by decide +kernel
theorem dL_law_1153 : decode cL_law 1153 = .ok (.iaload, 1) := by decide +kernel
theorem dL_law_1154 : decode cL_law 1154 = .ok (.invokevirtual 117, 3) := by decide +kernel
theorem dL_law_1157 : decode cL_law 1157 = .ok (.aload_n 2, 1) := by decide +kernel
theorem dL_law_1158 : decode cL_law 1158 = .ok (.aload_n 0, 1) := by decide +kernel
theorem dL_law_1159 : decode cL_law 1159 = .ok (.iload_n 3, 1) := by decide +kernel
theorem dL_law_1160 : decode cL_law 1160 = .ok (.iconst 1, 1) := by decide +kernel
theorem dL_law_1161 : decode cL_law 1161 = .ok (.iadd, 1) := by decide +kernel
theorem dL_law_1162 : decode cL_law 1162 = .ok (.iaload, 1) := by decide +kernel
theorem dL_law_1163 : decode cL_law 1163 = .ok (.invokevirtual 120, 3) := by decide +kernel
theorem dL_law_1166 : decode cL_law 1166 = .ok (.if_icmp .eq 166, 3) := by decide +kernel
theorem dL_law_1169 : decode cL_law 1169 = .ok (.iconst 0, 1) := by decide +kernel
theorem dL_law_1170 : decode cL_law 1170 = .ok (.ireturn, 1) := by decide +kernel
theorem dL_law_1171 : decode cL_law 1171 = .ok (.aload_n 1, 1) := by decide +kernel
theorem dL_law_1172 : decode cL_law 1172 = .ok (.invokevirtual 121, 3) := by decide +kernel
theorem dL_law_1175 : decode cL_law 1175 = .ok (.aload_n 2, 1) := by decide +kernel
theorem dL_law_1176 : decode cL_law 1176 = .ok (.invokevirtual 124, 3) := by decide +kernel
theorem dL_law_1179 : decode cL_law 1179 = .ok (.if_icmp .eq 153, 3) := by decide +kernel
theorem dL_law_1182 : decode cL_law 1182 = .ok (.iconst 0, 1) := by decide +kernel
theorem dL_law_1183 : decode cL_law 1183 = .ok (.ireturn, 1) := by decide +kernel
theorem dL_law_1184 : decode cL_law 1184 = .ok (.aload_n 1, 1) := by decide +kernel
theorem dL_law_1185 : decode cL_law 1185 = .ok (.aload_n 0, 1) := by decide +kernel
theorem dL_law_1186 : decode cL_law 1186 = .ok (.iload_n 3, 1) := by decide +kernel
theorem dL_law_1187 : decode cL_law 1187 = .ok (.iconst 1, 1) := by decide +kernel
theorem dL_law_1188 : decode cL_law 1188 = .ok (.iadd, 1) := by decide +kernel
theorem dL_law_1189 : decode cL_law 1189 = .ok (.iaload, 1) := by decide +kernel
theorem dL_law_1190 : decode cL_law 1190 = .ok (.aload_n 0, 1) := by decide +kernel
theorem dL_law_1191 : decode cL_law 1191 = .ok (.iload_n 3, 1) := by decide +kernel
theorem dL_law_1192 : decode cL_law 1192 = .ok (.iconst 2, 1) := by decide +kernel
theorem dL_law_1193 : decode cL_law 1193 = .ok (.iadd, 1) := by decide +kernel
theorem dL_law_1194 : decode cL_law 1194 = .ok (.iaload, 1) := by decide +kernel
theorem dL_law_1195 : decode cL_law 1195 = .ok (.aload_n 0, 1) := by decide +kernel
theorem dL_law_1196 : decode cL_law 1196 = .ok (.iload_n 3, 1) := by decide +kernel
theorem dL_law_1197 : decode cL_law 1197 = .ok (.iconst 3, 1) := by decide +kernel
theorem dL_law_1198 : decode cL_law 1198 = .ok (.iadd, 1) := by decide +kernel
theorem dL_law_1199 : decode cL_law 1199 = .ok (.iaload, 1) := by decide +kernel
theorem dL_law_1200 : decode cL_law 1200 = .ok (.invokevirtual 125, 3) := by decide +kernel
theorem dL_law_1203 : decode cL_law 1203 = .ok (.aload_n 2, 1) := by decide +kernel
theorem dL_law_1204 : decode cL_law 1204 = .ok (.aload_n 0, 1) := by decide +kernel
theorem dL_law_1205 : decode cL_law 1205 = .ok (.iload_n 3, 1) := by decide +kernel
theorem dL_law_1206 : decode cL_law 1206 = .ok (.iconst 1, 1) := by decide +kernel
theorem dL_law_1207 : decode cL_law 1207 = .ok (.iadd, 1) := by decide +kernel
theorem dL_law_1208 : decode cL_law 1208 = .ok (.iaload, 1) := by decide +kernel
theorem dL_law_1209 : decode cL_law 1209 = .ok (.aload_n 0, 1) := by decide +kernel
theorem dL_law_1210 : decode cL_law 1210 = .ok (.iload_n 3, 1) := by decide +kernel
theorem dL_law_1211 : decode cL_law 1211 = .ok (.iconst 2, 1) := by decide +kernel
theorem dL_law_1212 : decode cL_law 1212 = .ok (.iadd, 1) := by decide +kernel
theorem dL_law_1213 : decode cL_law 1213 = .ok (.iaload, 1) := by decide +kernel
theorem dL_law_1214 : decode cL_law 1214 = .ok (.aload_n 0, 1) := by decide +kernel
theorem dL_law_1215 : decode cL_law 1215 = .ok (.iload_n 3, 1) := by decide +kernel
theorem dL_law_1216 : decode cL_law 1216 = .ok (.iconst 3, 1) := by decide +kernel
theorem dL_law_1217 : decode cL_law 1217 = .ok (.iadd, 1) := by decide +kernel
theorem dL_law_1218 : decode cL_law 1218 = .ok (.iaload, 1) := by decide +kernel
theorem dL_law_1219 : decode cL_law 1219 = .ok (.invokevirtual 128, 3) := by decide +kernel
theorem dL_law_1222 : decode cL_law 1222 = .ok (.if_icmp .eq 110, 3) := by decide +kernel
theorem dL_law_1225 : decode cL_law 1225 = .ok (.iconst 0, 1) := by decide +kernel
theorem dL_law_1226 : decode cL_law 1226 = .ok (.ireturn, 1) := by decide +kernel
theorem dL_law_1227 : decode cL_law 1227 = .ok (.aload_n 1, 1) := by decide +kernel
theorem dL_law_1228 : decode cL_law 1228 = .ok (.aload_n 0, 1) := by decide +kernel
theorem dL_law_1229 : decode cL_law 1229 = .ok (.iload_n 3, 1) := by decide +kernel
theorem dL_law_1230 : decode cL_law 1230 = .ok (.iconst 1, 1) := by decide +kernel
theorem dL_law_1231 : decode cL_law 1231 = .ok (.iadd, 1) := by decide +kernel
theorem dL_law_1232 : decode cL_law 1232 = .ok (.iaload, 1) := by decide +kernel
theorem dL_law_1233 : decode cL_law 1233 = .ok (.invokevirtual 129, 3) := by decide +kernel
theorem dL_law_1236 : decode cL_law 1236 = .ok (.aload_n 2, 1) := by decide +kernel
theorem dL_law_1237 : decode cL_law 1237 = .ok (.aload_n 0, 1) := by decide +kernel
theorem dL_law_1238 : decode cL_law 1238 = .ok (.iload_n 3, 1) := by decide +kernel
theorem dL_law_1239 : decode cL_law 1239 = .ok (.iconst 1, 1) := by decide +kernel
theorem dL_law_1240 : decode cL_law 1240 = .ok (.iadd, 1) := by decide +kernel
theorem dL_law_1241 : decode cL_law 1241 = .ok (.iaload, 1) := by decide +kernel
theorem dL_law_1242 : decode cL_law 1242 = .ok (.invokevirtual 132, 3) := by decide +kernel
theorem dL_law_1245 : decode cL_law 1245 = .ok (.if_icmp .eq 87, 3) := by decide +kernel
theorem dL_law_1248 : decode cL_law 1248 = .ok (.iconst 0, 1) := by decide +kernel
theorem dL_law_1249 : decode cL_law 1249 = .ok (.ireturn, 1) := by decide +kernel
theorem dL_law_1250 : decode cL_law 1250 = .ok (.aload_n 1, 1) := by decide +kernel
theorem dL_law_1251 : decode cL_law 1251 = .ok (.aload_n 0, 1) := by decide +kernel
theorem dL_law_1252 : decode cL_law 1252 = .ok (.iload_n 3, 1) := by decide +kernel
theorem dL_law_1253 : decode cL_law 1253 = .ok (.iconst 1, 1) := by decide +kernel
theorem dL_law_1254 : decode cL_law 1254 = .ok (.iadd, 1) := by decide +kernel
theorem dL_law_1255 : decode cL_law 1255 = .ok (.iaload, 1) := by decide +kernel
theorem dL_law_1256 : decode cL_law 1256 = .ok (.aload_n 0, 1) := by decide +kernel
theorem dL_law_1257 : decode cL_law 1257 = .ok (.iload_n 3, 1) := by decide +kernel
theorem dL_law_1258 : decode cL_law 1258 = .ok (.iconst 2, 1) := by decide +kernel
theorem dL_law_1259 : decode cL_law 1259 = .ok (.iadd, 1) := by decide +kernel
theorem dL_law_1260 : decode cL_law 1260 = .ok (.iaload, 1) := by decide +kernel
theorem dL_law_1261 : decode cL_law 1261 = .ok (.invokevirtual 133, 3) := by decide +kernel
theorem dL_law_1264 : decode cL_law 1264 = .ok (.aload_n 2, 1) := by decide +kernel
theorem dL_law_1265 : decode cL_law 1265 = .ok (.aload_n 0, 1) := by decide +kernel
theorem dL_law_1266 : decode cL_law 1266 = .ok (.iload_n 3, 1) := by decide +kernel
theorem dL_law_1267 : decode cL_law 1267 = .ok (.iconst 1, 1) := by decide +kernel
theorem dL_law_1268 : decode cL_law 1268 = .ok (.iadd, 1) := by decide +kernel
theorem dL_law_1269 : decode cL_law 1269 = .ok (.iaload, 1) := by decide +kernel
theorem dL_law_1270 : decode cL_law 1270 = .ok (.aload_n 0, 1) := by decide +kernel
theorem dL_law_1271 : decode cL_law 1271 = .ok (.iload_n 3, 1) := by decide +kernel
theorem dL_law_1272 : decode cL_law 1272 = .ok (.iconst 2, 1) := by decide +kernel
theorem dL_law_1273 : decode cL_law 1273 = .ok (.iadd, 1) := by decide +kernel
theorem dL_law_1274 : decode cL_law 1274 = .ok (.iaload, 1) := by decide +kernel
theorem dL_law_1275 : decode cL_law 1275 = .ok (.invokevirtual 136, 3) := by decide +kernel
theorem dL_law_1278 : decode cL_law 1278 = .ok (.if_icmp .eq 54, 3) := by decide +kernel
theorem dL_law_1281 : decode cL_law 1281 = .ok (.iconst 0, 1) := by decide +kernel
theorem dL_law_1282 : decode cL_law 1282 = .ok (.ireturn, 1) := by decide +kernel
theorem dL_law_1283 : decode cL_law 1283 = .ok (.aload_n 1, 1) := by decide +kernel
theorem dL_law_1284 : decode cL_law 1284 = .ok (.invokevirtual 137, 3) := by decide +kernel
theorem dL_law_1287 : decode cL_law 1287 = .ok (.aload_n 2, 1) := by decide +kernel
theorem dL_law_1288 : decode cL_law 1288 = .ok (.invokevirtual 140, 3) := by decide +kernel
theorem dL_law_1291 : decode cL_law 1291 = .ok (.if_icmp .eq 41, 3) := by decide +kernel
theorem dL_law_1294 : decode cL_law 1294 = .ok (.iconst 0, 1) := by decide +kernel
theorem dL_law_1295 : decode cL_law 1295 = .ok (.ireturn, 1) := by decide +kernel
theorem dL_law_1296 : decode cL_law 1296 = .ok (.aload_n 1, 1) := by decide +kernel
theorem dL_law_1297 : decode cL_law 1297 = .ok (.invokevirtual 141, 3) := by decide +kernel
theorem dL_law_1300 : decode cL_law 1300 = .ok (.aload_n 2, 1) := by decide +kernel
theorem dL_law_1301 : decode cL_law 1301 = .ok (.invokevirtual 144, 3) := by decide +kernel
theorem dL_law_1304 : decode cL_law 1304 = .ok (.if_icmp .eq 28, 3) := by decide +kernel
theorem dL_law_1307 : decode cL_law 1307 = .ok (.iconst 0, 1) := by decide +kernel
theorem dL_law_1308 : decode cL_law 1308 = .ok (.ireturn, 1) := by decide +kernel
theorem dL_law_1309 : decode cL_law 1309 = .ok (.aload_n 1, 1) := by decide +kernel
theorem dL_law_1310 : decode cL_law 1310 = .ok (.aload_n 0, 1) := by decide +kernel
theorem dL_law_1311 : decode cL_law 1311 = .ok (.iload_n 3, 1) := by decide +kernel
theorem dL_law_1312 : decode cL_law 1312 = .ok (.iconst 1, 1) := by decide +kernel
theorem dL_law_1313 : decode cL_law 1313 = .ok (.iadd, 1) := by decide +kernel
theorem dL_law_1314 : decode cL_law 1314 = .ok (.iaload, 1) := by decide +kernel
theorem dL_law_1315 : decode cL_law 1315 = .ok (.invokevirtual 145, 3) := by decide +kernel
theorem dL_law_1318 : decode cL_law 1318 = .ok (.aload_n 2, 1) := by decide +kernel
theorem dL_law_1319 : decode cL_law 1319 = .ok (.aload_n 0, 1) := by decide +kernel
theorem dL_law_1320 : decode cL_law 1320 = .ok (.iload_n 3, 1) := by decide +kernel
theorem dL_law_1321 : decode cL_law 1321 = .ok (.iconst 1, 1) := by decide +kernel
theorem dL_law_1322 : decode cL_law 1322 = .ok (.iadd, 1) := by decide +kernel
theorem dL_law_1323 : decode cL_law 1323 = .ok (.iaload, 1) := by decide +kernel
theorem dL_law_1324 : decode cL_law 1324 = .ok (.invokevirtual 148, 3) := by decide +kernel
theorem dL_law_1327 : decode cL_law 1327 = .ok (.if_icmp .eq 5, 3) := by decide +kernel
theorem dL_law_1330 : decode cL_law 1330 = .ok (.iconst 0, 1) := by decide +kernel
theorem dL_law_1331 : decode cL_law 1331 = .ok (.ireturn, 1) := by decide +kernel
theorem dL_law_1332 : decode cL_law 1332 = .ok (.iinc 3 6, 3) := by decide +kernel
theorem dL_law_1335 : decode cL_law 1335 = .ok (.goto (-1317), 3) := by decide +kernel
theorem dL_law_1338 : decode cL_law 1338 = .ok (.iconst 1, 1) := by decide +kernel
theorem dL_law_1339 : decode cL_law 1339 = .ok (.ireturn, 1) := by decide +kernel
set_option maxRecDepth 20000 in
theorem r_L_law_p0 : m_Right (yL_law, cL_law, 4, (some .boolean)) q_L_law_p0 := m_right_nd (m_right_nd (m_right_nd (m_right_nd (m_right_nd (m_right_nd (m_right_lf ⟨3, dL_law_0, rfl, rfl, 9, (RX9, TX9, 10), rfl, rfl, wd_80, wd_81, wd_62⟩) (m_right_nd (m_right_lf ⟨1, dL_law_3, rfl, rfl⟩) (m_right_lf ⟨3, dL_law_4, rfl, rfl, Or.inr ⟨75, 0, (yX9_init, cX9_init, 1, none), rfl, me_X9_init, mc_X9_init, rfl, rfl, wd_83, wd_62, Or.inl wd_82⟩⟩))) (m_right_nd (m_right_lf ⟨1, dL_law_7, rfl, rfl, rfl⟩) (m_right_nd (m_right_lf ⟨3, dL_law_8, rfl, rfl, 10, (RX10, TX10, 24), rfl, rfl, wd_861, wd_862, wd_71⟩) (m_right_lf ⟨1, dL_law_11, rfl, rfl⟩)))) (m_right_nd (m_right_nd (m_right_lf ⟨3, dL_law_12, rfl, rfl, Or.inr ⟨117, 0, (yX10_init, cX10_init, 1, none), rfl, me_X10_init, mc_X10_init, rfl, rfl, wd_864, wd_71, Or.inl wd_863⟩⟩) (m_right_nd (m_right_lf ⟨1, dL_law_15, rfl, rfl, rfl⟩) (m_right_lf ⟨1, dL_law_16, rfl, rfl, by decide +kernel⟩))) (m_right_nd (m_right_lf ⟨1, dL_law_17, rfl, rfl, rfl⟩) (m_right_nd (m_right_lf ⟨1, dL_law_18, rfl, rfl, rfl⟩) (m_right_lf ⟨1, dL_law_19, rfl, rfl, rfl⟩))))) (m_right_nd (m_right_nd (m_right_nd (m_right_lf ⟨1, dL_law_20, rfl, rfl⟩) (m_right_nd (m_right_lf ⟨2, dL_law_21, rfl, rfl, by decide +kernel⟩) (m_right_lf ⟨1, dL_law_23, rfl, rfl⟩))) (m_right_nd (m_right_lf ⟨3, dL_law_24, rfl, rfl, 1338, rfl, by decide⟩) (m_right_nd (m_right_lf ⟨1, dL_law_27, rfl, rfl, rfl⟩) (m_right_lf ⟨1, dL_law_28, rfl, rfl, rfl⟩)))) (m_right_nd (m_right_nd (m_right_lf ⟨1, dL_law_29, rfl, rfl⟩) (m_right_nd (m_right_lf ⟨2, dL_law_30, rfl, rfl, by decide +kernel⟩) (m_right_lf ⟨1, dL_law_32, rfl, rfl⟩))) (m_right_nd (m_right_nd (m_right_lf ⟨143, dL_law_33, 1332, [176, 199, 212, 245, 278, 311, 354, 377, 410, 443, 502, 566, 620, 674, 728, 761, 815, 858, 901, 945, 999, 1043, 1102, 1125, 1148, 1171, 1184, 1227, 1250, 1283, 1296, 1309], rfl, by decide, by decide +kernel⟩) (m_right_lf ⟨1, dL_law_176, rfl, rfl, rfl⟩)) (m_right_nd (m_right_lf ⟨1, dL_law_177, rfl, rfl, rfl⟩) (m_right_lf ⟨1, dL_law_178, rfl, rfl, rfl⟩)))))) (m_right_nd (m_right_nd (m_right_nd (m_right_nd (m_right_lf ⟨1, dL_law_179, rfl, rfl, by decide +kernel⟩) (m_right_nd (m_right_lf ⟨1, dL_law_180, rfl, rfl⟩) (m_right_lf ⟨1, dL_law_181, rfl, rfl⟩))) (m_right_nd (m_right_lf ⟨3, dL_law_182, rfl, rfl, 76, 1, 9, (yX9_feed, cX9_feed, 2, (some .int)), rfl, me_X9_feed, mc_X9_feed, Or.inl ⟨(RX9, TX9, 10), rfl, rfl⟩, wd_379, wd_380, wd_381, wd_62⟩) (m_right_nd (m_right_lf ⟨1, dL_law_185, rfl, rfl, rfl⟩) (m_right_lf ⟨1, dL_law_186, rfl, rfl, rfl⟩)))) (m_right_nd (m_right_nd (m_right_lf ⟨1, dL_law_187, rfl, rfl, rfl⟩) (m_right_nd (m_right_lf ⟨1, dL_law_188, rfl, rfl, by decide +kernel⟩) (m_right_lf ⟨1, dL_law_189, rfl, rfl⟩))) (m_right_nd (m_right_lf ⟨1, dL_law_190, rfl, rfl⟩) (m_right_nd (m_right_lf ⟨3, dL_law_191, rfl, rfl, 123, 1, 10, (yX10_feed, cX10_feed, 2, (some .int)), rfl, me_X10_feed, mc_X10_feed, Or.inl ⟨(RX10, TX10, 24), rfl, rfl⟩, wd_939, wd_940, wd_941, wd_71⟩) (m_right_lf ⟨3, dL_law_194, rfl, rfl, 1332, rfl, by decide⟩))))) (m_right_nd (m_right_nd (m_right_nd (m_right_lf ⟨1, dL_law_197, rfl, rfl, by decide +kernel⟩) (m_right_nd (m_right_lf ⟨1, dL_law_198, rfl, 1, .boolean, rfl, rfl, Or.inr (Or.inl ⟨rfl, rfl⟩)⟩) (m_right_lf ⟨1, dL_law_199, rfl, rfl, rfl⟩))) (m_right_nd (m_right_lf ⟨3, dL_law_200, rfl, rfl, 77, 0, 9, (yX9_inn, cX9_inn, 2, (some .int)), rfl, me_X9_inn, mc_X9_inn, Or.inl ⟨(RX9, TX9, 10), rfl, rfl⟩, wd_383, wd_384, wd_385, wd_62⟩) (m_right_nd (m_right_lf ⟨1, dL_law_203, rfl, rfl, rfl⟩) (m_right_lf ⟨3, dL_law_204, rfl, rfl, 137, 0, 10, (yX10_inn, cX10_inn, 2, (some .int)), rfl, me_X10_inn, mc_X10_inn, Or.inl ⟨(RX10, TX10, 24), rfl, rfl⟩, wd_946, wd_947, wd_948, wd_71⟩)))) (m_right_nd (m_right_nd (m_right_lf ⟨3, dL_law_207, rfl, rfl, 1332, rfl, by decide⟩) (m_right_nd (m_right_lf ⟨1, dL_law_210, rfl, rfl, by decide +kernel⟩) (m_right_lf ⟨1, dL_law_211, rfl, 1, .boolean, rfl, rfl, Or.inr (Or.inl ⟨rfl, rfl⟩)⟩))) (m_right_nd (m_right_nd (m_right_lf ⟨1, dL_law_212, rfl, rfl, rfl⟩) (m_right_lf ⟨1, dL_law_213, rfl, rfl, rfl⟩)) (m_right_nd (m_right_lf ⟨1, dL_law_214, rfl, rfl, rfl⟩) (m_right_lf ⟨1, dL_law_215, rfl, rfl, by decide +kernel⟩))))))) (m_right_nd (m_right_nd (m_right_nd (m_right_nd (m_right_nd (m_right_lf ⟨1, dL_law_216, rfl, rfl⟩) (m_right_nd (m_right_lf ⟨1, dL_law_217, rfl, rfl⟩) (m_right_lf ⟨1, dL_law_218, rfl, rfl, rfl⟩))) (m_right_nd (m_right_lf ⟨1, dL_law_219, rfl, rfl, rfl⟩) (m_right_nd (m_right_lf ⟨1, dL_law_220, rfl, rfl, by decide +kernel⟩) (m_right_lf ⟨1, dL_law_221, rfl, rfl⟩)))) (m_right_nd (m_right_nd (m_right_lf ⟨1, dL_law_222, rfl, rfl⟩) (m_right_nd (m_right_lf ⟨3, dL_law_223, rfl, rfl, 78, 2, 9, (yX9_player, cX9_player, 3, (some .int)), rfl, me_X9_player, mc_X9_player, Or.inl ⟨(RX9, TX9, 10), rfl, rfl⟩, wd_466, wd_467, wd_468, wd_62⟩) (m_right_lf ⟨1, dL_law_226, rfl, rfl, rfl⟩))) (m_right_nd (m_right_lf ⟨1, dL_law_227, rfl, rfl, rfl⟩) (m_right_nd (m_right_lf ⟨1, dL_law_228, rfl, rfl, rfl⟩) (m_right_lf ⟨1, dL_law_229, rfl, rfl, by decide +kernel⟩))))) (m_right_nd (m_right_nd (m_right_nd (m_right_lf ⟨1, dL_law_230, rfl, rfl⟩) (m_right_nd (m_right_lf ⟨1, dL_law_231, rfl, rfl⟩) (m_right_lf ⟨1, dL_law_232, rfl, rfl, rfl⟩))) (m_right_nd (m_right_lf ⟨1, dL_law_233, rfl, rfl, rfl⟩) (m_right_nd (m_right_lf ⟨1, dL_law_234, rfl, rfl, by decide +kernel⟩) (m_right_lf ⟨1, dL_law_235, rfl, rfl⟩)))) (m_right_nd (m_right_nd (m_right_lf ⟨1, dL_law_236, rfl, rfl⟩) (m_right_nd (m_right_lf ⟨3, dL_law_237, rfl, rfl, 139, 2, 10, (yX10_player, cX10_player, 5, (some .int)), rfl, me_X10_player, mc_X10_player, Or.inl ⟨(RX10, TX10, 24), rfl, rfl⟩, wd_1057, wd_1058, wd_1059, wd_71⟩) (m_right_lf ⟨3, dL_law_240, rfl, rfl, 1332, rfl, by decide⟩))) (m_right_nd (m_right_nd (m_right_lf ⟨1, dL_law_243, rfl, rfl, by decide +kernel⟩) (m_right_lf ⟨1, dL_law_244, rfl, 1, .boolean, rfl, rfl, Or.inr (Or.inl ⟨rfl, rfl⟩)⟩)) (m_right_nd (m_right_lf ⟨1, dL_law_245, rfl, rfl, rfl⟩) (m_right_lf ⟨1, dL_law_246, rfl, rfl, rfl⟩)))))) (m_right_nd (m_right_nd (m_right_nd (m_right_nd (m_right_lf ⟨1, dL_law_247, rfl, rfl, rfl⟩) (m_right_nd (m_right_lf ⟨1, dL_law_248, rfl, rfl, by decide +kernel⟩) (m_right_lf ⟨1, dL_law_249, rfl, rfl⟩))) (m_right_nd (m_right_lf ⟨1, dL_law_250, rfl, rfl⟩) (m_right_nd (m_right_lf ⟨1, dL_law_251, rfl, rfl, rfl⟩) (m_right_lf ⟨1, dL_law_252, rfl, rfl, rfl⟩)))) (m_right_nd (m_right_nd (m_right_lf ⟨1, dL_law_253, rfl, rfl, by decide +kernel⟩) (m_right_nd (m_right_lf ⟨1, dL_law_254, rfl, rfl⟩) (m_right_lf ⟨1, dL_law_255, rfl, rfl⟩))) (m_right_nd (m_right_lf ⟨3, dL_law_256, rfl, rfl, 79, 2, 9, (yX9_of, cX9_of, 3, (some .int)), rfl, me_X9_of, mc_X9_of, Or.inl ⟨(RX9, TX9, 10), rfl, rfl⟩, wd_477, wd_478, wd_479, wd_62⟩) (m_right_nd (m_right_lf ⟨1, dL_law_259, rfl, rfl, rfl⟩) (m_right_lf ⟨1, dL_law_260, rfl, rfl, rfl⟩))))) (m_right_nd (m_right_nd (m_right_nd (m_right_lf ⟨1, dL_law_261, rfl, rfl, rfl⟩) (m_right_nd (m_right_lf ⟨1, dL_law_262, rfl, rfl, by decide +kernel⟩) (m_right_lf ⟨1, dL_law_263, rfl, rfl⟩))) (m_right_nd (m_right_lf ⟨1, dL_law_264, rfl, rfl⟩) (m_right_nd (m_right_lf ⟨1, dL_law_265, rfl, rfl, rfl⟩) (m_right_lf ⟨1, dL_law_266, rfl, rfl, rfl⟩)))) (m_right_nd (m_right_nd (m_right_lf ⟨1, dL_law_267, rfl, rfl, by decide +kernel⟩) (m_right_nd (m_right_lf ⟨1, dL_law_268, rfl, rfl⟩) (m_right_lf ⟨1, dL_law_269, rfl, rfl⟩))) (m_right_nd (m_right_nd (m_right_lf ⟨3, dL_law_270, rfl, rfl, 140, 2, 10, (yX10_of, cX10_of, 3, (some .int)), rfl, me_X10_of, mc_X10_of, Or.inl ⟨(RX10, TX10, 24), rfl, rfl⟩, wd_1061, wd_1062, wd_1063, wd_71⟩) (m_right_lf ⟨3, dL_law_273, rfl, rfl, 1332, rfl, by decide⟩)) (m_right_nd (m_right_lf ⟨1, dL_law_276, rfl, rfl, by decide +kernel⟩) (m_right_lf ⟨1, dL_law_277, rfl, 1, .boolean, rfl, rfl, Or.inr (Or.inl ⟨rfl, rfl⟩)⟩)))))))
set_option maxRecDepth 20000 in
theorem r_L_law_p1 : m_Right (yL_law, cL_law, 4, (some .boolean)) q_L_law_p1 := m_right_nd (m_right_nd (m_right_nd (m_right_nd (m_right_nd (m_right_nd (m_right_lf ⟨1, dL_law_278, rfl, rfl, rfl⟩) (m_right_nd (m_right_lf ⟨1, dL_law_279, rfl, rfl, rfl⟩) (m_right_lf ⟨1, dL_law_280, rfl, rfl, rfl⟩))) (m_right_nd (m_right_lf ⟨1, dL_law_281, rfl, rfl, by decide +kernel⟩) (m_right_nd (m_right_lf ⟨1, dL_law_282, rfl, rfl⟩) (m_right_lf ⟨1, dL_law_283, rfl, rfl⟩)))) (m_right_nd (m_right_nd (m_right_lf ⟨1, dL_law_284, rfl, rfl, rfl⟩) (m_right_nd (m_right_lf ⟨1, dL_law_285, rfl, rfl, rfl⟩) (m_right_lf ⟨1, dL_law_286, rfl, rfl, by decide +kernel⟩))) (m_right_nd (m_right_lf ⟨1, dL_law_287, rfl, rfl⟩) (m_right_nd (m_right_lf ⟨1, dL_law_288, rfl, rfl⟩) (m_right_lf ⟨3, dL_law_289, rfl, rfl, 80, 2, 9, (yX9_men, cX9_men, 4, (some .int)), rfl, me_X9_men, mc_X9_men, Or.inl ⟨(RX9, TX9, 10), rfl, rfl⟩, wd_485, wd_486, wd_487, wd_62⟩))))) (m_right_nd (m_right_nd (m_right_nd (m_right_lf ⟨1, dL_law_292, rfl, rfl, rfl⟩) (m_right_nd (m_right_lf ⟨1, dL_law_293, rfl, rfl, rfl⟩) (m_right_lf ⟨1, dL_law_294, rfl, rfl, rfl⟩))) (m_right_nd (m_right_lf ⟨1, dL_law_295, rfl, rfl, by decide +kernel⟩) (m_right_nd (m_right_lf ⟨1, dL_law_296, rfl, rfl⟩) (m_right_lf ⟨1, dL_law_297, rfl, rfl⟩)))) (m_right_nd (m_right_nd (m_right_lf ⟨1, dL_law_298, rfl, rfl, rfl⟩) (m_right_nd (m_right_lf ⟨1, dL_law_299, rfl, rfl, rfl⟩) (m_right_lf ⟨1, dL_law_300, rfl, rfl, by decide +kernel⟩))) (m_right_nd (m_right_nd (m_right_lf ⟨1, dL_law_301, rfl, rfl⟩) (m_right_lf ⟨1, dL_law_302, rfl, rfl⟩)) (m_right_nd (m_right_lf ⟨3, dL_law_303, rfl, rfl, 141, 2, 10, (yX10_men, cX10_men, 4, (some .int)), rfl, me_X10_men, mc_X10_men, Or.inl ⟨(RX10, TX10, 24), rfl, rfl⟩, wd_1069, wd_1070, wd_1071, wd_71⟩) (m_right_lf ⟨3, dL_law_306, rfl, rfl, 1332, rfl, by decide⟩)))))) (m_right_nd (m_right_nd (m_right_nd (m_right_nd (m_right_lf ⟨1, dL_law_309, rfl, rfl, by decide +kernel⟩) (m_right_nd (m_right_lf ⟨1, dL_law_310, rfl, 1, .boolean, rfl, rfl, Or.inr (Or.inl ⟨rfl, rfl⟩)⟩) (m_right_lf ⟨1, dL_law_311, rfl, rfl, rfl⟩))) (m_right_nd (m_right_lf ⟨1, dL_law_312, rfl, rfl, rfl⟩) (m_right_nd (m_right_lf ⟨1, dL_law_313, rfl, rfl, rfl⟩) (m_right_lf ⟨1, dL_law_314, rfl, rfl, by decide +kernel⟩)))) (m_right_nd (m_right_nd (m_right_lf ⟨1, dL_law_315, rfl, rfl⟩) (m_right_nd (m_right_lf ⟨1, dL_law_316, rfl, rfl⟩) (m_right_lf ⟨1, dL_law_317, rfl, rfl, rfl⟩))) (m_right_nd (m_right_lf ⟨1, dL_law_318, rfl, rfl, rfl⟩) (m_right_nd (m_right_lf ⟨1, dL_law_319, rfl, rfl, by decide +kernel⟩) (m_right_lf ⟨1, dL_law_320, rfl, rfl⟩))))) (m_right_nd (m_right_nd (m_right_nd (m_right_lf ⟨1, dL_law_321, rfl, rfl⟩) (m_right_nd (m_right_lf ⟨1, dL_law_322, rfl, rfl, rfl⟩) (m_right_lf ⟨1, dL_law_323, rfl, rfl, rfl⟩))) (m_right_nd (m_right_lf ⟨1, dL_law_324, rfl, rfl, by decide +kernel⟩) (m_right_nd (m_right_lf ⟨1, dL_law_325, rfl, rfl⟩) (m_right_lf ⟨1, dL_law_326, rfl, rfl⟩)))) (m_right_nd (m_right_nd (m_right_lf ⟨3, dL_law_327, rfl, rfl, 81, 3, 9, (yX9_row, cX9_row, 5, (some .int)), rfl, me_X9_row, mc_X9_row, Or.inl ⟨(RX9, TX9, 10), rfl, rfl⟩, wd_492, wd_493, wd_494, wd_62⟩) (m_right_nd (m_right_lf ⟨1, dL_law_330, rfl, rfl, rfl⟩) (m_right_lf ⟨1, dL_law_331, rfl, rfl, rfl⟩))) (m_right_nd (m_right_nd (m_right_lf ⟨1, dL_law_332, rfl, rfl, rfl⟩) (m_right_lf ⟨1, dL_law_333, rfl, rfl, by decide +kernel⟩)) (m_right_nd (m_right_lf ⟨1, dL_law_334, rfl, rfl⟩) (m_right_lf ⟨1, dL_law_335, rfl, rfl⟩))))))) (m_right_nd (m_right_nd (m_right_nd (m_right_nd (m_right_nd (m_right_lf ⟨1, dL_law_336, rfl, rfl, rfl⟩) (m_right_nd (m_right_lf ⟨1, dL_law_337, rfl, rfl, rfl⟩) (m_right_lf ⟨1, dL_law_338, rfl, rfl, by decide +kernel⟩))) (m_right_nd (m_right_lf ⟨1, dL_law_339, rfl, rfl⟩) (m_right_nd (m_right_lf ⟨1, dL_law_340, rfl, rfl⟩) (m_right_lf ⟨1, dL_law_341, rfl, rfl, rfl⟩)))) (m_right_nd (m_right_nd (m_right_lf ⟨1, dL_law_342, rfl, rfl, rfl⟩) (m_right_nd (m_right_lf ⟨1, dL_law_343, rfl, rfl, by decide +kernel⟩) (m_right_lf ⟨1, dL_law_344, rfl, rfl⟩))) (m_right_nd (m_right_lf ⟨1, dL_law_345, rfl, rfl⟩) (m_right_nd (m_right_lf ⟨3, dL_law_346, rfl, rfl, 142, 3, 10, (yX10_row, cX10_row, 5, (some .int)), rfl, me_X10_row, mc_X10_row, Or.inl ⟨(RX10, TX10, 24), rfl, rfl⟩, wd_1073, wd_1074, wd_1075, wd_71⟩) (m_right_lf ⟨3, dL_law_349, rfl, rfl, 1332, rfl, by decide⟩))))) (m_right_nd (m_right_nd (m_right_nd (m_right_lf ⟨1, dL_law_352, rfl, rfl, by decide +kernel⟩) (m_right_nd (m_right_lf ⟨1, dL_law_353, rfl, 1, .boolean, rfl, rfl, Or.inr (Or.inl ⟨rfl, rfl⟩)⟩) (m_right_lf ⟨1, dL_law_354, rfl, rfl, rfl⟩))) (m_right_nd (m_right_lf ⟨1, dL_law_355, rfl, rfl, rfl⟩) (m_right_nd (m_right_lf ⟨1, dL_law_356, rfl, rfl, rfl⟩) (m_right_lf ⟨1, dL_law_357, rfl, rfl, by decide +kernel⟩)))) (m_right_nd (m_right_nd (m_right_lf ⟨1, dL_law_358, rfl, rfl⟩) (m_right_nd (m_right_lf ⟨1, dL_law_359, rfl, rfl⟩) (m_right_lf ⟨3, dL_law_360, rfl, rfl, 82, 1, 9, (yX9_told, cX9_told, 2, (some .int)), rfl, me_X9_told, mc_X9_told, Or.inl ⟨(RX9, TX9, 10), rfl, rfl⟩, wd_496, wd_497, wd_498, wd_62⟩))) (m_right_nd (m_right_nd (m_right_lf ⟨1, dL_law_363, rfl, rfl, rfl⟩) (m_right_lf ⟨1, dL_law_364, rfl, rfl, rfl⟩)) (m_right_nd (m_right_lf ⟨1, dL_law_365, rfl, rfl, rfl⟩) (m_right_lf ⟨1, dL_law_366, rfl, rfl, by decide +kernel⟩)))))) (m_right_nd (m_right_nd (m_right_nd (m_right_nd (m_right_lf ⟨1, dL_law_367, rfl, rfl⟩) (m_right_nd (m_right_lf ⟨1, dL_law_368, rfl, rfl⟩) (m_right_lf ⟨3, dL_law_369, rfl, rfl, 143, 1, 10, (yX10_told, cX10_told, 2, (some .int)), rfl, me_X10_told, mc_X10_told, Or.inl ⟨(RX10, TX10, 24), rfl, rfl⟩, wd_1077, wd_1078, wd_1079, wd_71⟩))) (m_right_nd (m_right_lf ⟨3, dL_law_372, rfl, rfl, 1332, rfl, by decide⟩) (m_right_nd (m_right_lf ⟨1, dL_law_375, rfl, rfl, by decide +kernel⟩) (m_right_lf ⟨1, dL_law_376, rfl, 1, .boolean, rfl, rfl, Or.inr (Or.inl ⟨rfl, rfl⟩)⟩)))) (m_right_nd (m_right_nd (m_right_lf ⟨1, dL_law_377, rfl, rfl, rfl⟩) (m_right_nd (m_right_lf ⟨1, dL_law_378, rfl, rfl, rfl⟩) (m_right_lf ⟨1, dL_law_379, rfl, rfl, rfl⟩))) (m_right_nd (m_right_lf ⟨1, dL_law_380, rfl, rfl, by decide +kernel⟩) (m_right_nd (m_right_lf ⟨1, dL_law_381, rfl, rfl⟩) (m_right_lf ⟨1, dL_law_382, rfl, rfl⟩))))) (m_right_nd (m_right_nd (m_right_nd (m_right_lf ⟨1, dL_law_383, rfl, rfl, rfl⟩) (m_right_nd (m_right_lf ⟨1, dL_law_384, rfl, rfl, rfl⟩) (m_right_lf ⟨1, dL_law_385, rfl, rfl, by decide +kernel⟩))) (m_right_nd (m_right_lf ⟨1, dL_law_386, rfl, rfl⟩) (m_right_nd (m_right_lf ⟨1, dL_law_387, rfl, rfl⟩) (m_right_lf ⟨3, dL_law_388, rfl, rfl, 83, 2, 9, (yX9_push, cX9_push, 4, (some .int)), rfl, me_X9_push, mc_X9_push, Or.inl ⟨(RX9, TX9, 10), rfl, rfl⟩, wd_508, wd_509, wd_510, wd_62⟩)))) (m_right_nd (m_right_nd (m_right_lf ⟨1, dL_law_391, rfl, rfl, rfl⟩) (m_right_nd (m_right_lf ⟨1, dL_law_392, rfl, rfl, rfl⟩) (m_right_lf ⟨1, dL_law_393, rfl, rfl, rfl⟩))) (m_right_nd (m_right_nd (m_right_lf ⟨1, dL_law_394, rfl, rfl, by decide +kernel⟩) (m_right_lf ⟨1, dL_law_395, rfl, rfl⟩)) (m_right_nd (m_right_lf ⟨1, dL_law_396, rfl, rfl⟩) (m_right_lf ⟨1, dL_law_397, rfl, rfl, rfl⟩)))))))
set_option maxRecDepth 20000 in
theorem r_L_law_p2 : m_Right (yL_law, cL_law, 4, (some .boolean)) q_L_law_p2 := m_right_nd (m_right_nd (m_right_nd (m_right_nd (m_right_nd (m_right_nd (m_right_lf ⟨1, dL_law_398, rfl, rfl, rfl⟩) (m_right_nd (m_right_lf ⟨1, dL_law_399, rfl, rfl, by decide +kernel⟩) (m_right_lf ⟨1, dL_law_400, rfl, rfl⟩))) (m_right_nd (m_right_lf ⟨1, dL_law_401, rfl, rfl⟩) (m_right_nd (m_right_lf ⟨3, dL_law_402, rfl, rfl, 147, 2, 10, (yX10_push, cX10_push, 3, (some .int)), rfl, me_X10_push, mc_X10_push, Or.inl ⟨(RX10, TX10, 24), rfl, rfl⟩, wd_1085, wd_1086, wd_1087, wd_71⟩) (m_right_lf ⟨3, dL_law_405, rfl, rfl, 1332, rfl, by decide⟩)))) (m_right_nd (m_right_nd (m_right_lf ⟨1, dL_law_408, rfl, rfl, by decide +kernel⟩) (m_right_nd (m_right_lf ⟨1, dL_law_409, rfl, 1, .boolean, rfl, rfl, Or.inr (Or.inl ⟨rfl, rfl⟩)⟩) (m_right_lf ⟨1, dL_law_410, rfl, rfl, rfl⟩))) (m_right_nd (m_right_lf ⟨1, dL_law_411, rfl, rfl, rfl⟩) (m_right_nd (m_right_lf ⟨1, dL_law_412, rfl, rfl, rfl⟩) (m_right_lf ⟨1, dL_law_413, rfl, rfl, by decide +kernel⟩))))) (m_right_nd (m_right_nd (m_right_nd (m_right_lf ⟨1, dL_law_414, rfl, rfl⟩) (m_right_nd (m_right_lf ⟨1, dL_law_415, rfl, rfl⟩) (m_right_lf ⟨1, dL_law_416, rfl, rfl, rfl⟩))) (m_right_nd (m_right_lf ⟨1, dL_law_417, rfl, rfl, rfl⟩) (m_right_nd (m_right_lf ⟨1, dL_law_418, rfl, rfl, by decide +kernel⟩) (m_right_lf ⟨1, dL_law_419, rfl, rfl⟩)))) (m_right_nd (m_right_nd (m_right_lf ⟨1, dL_law_420, rfl, rfl⟩) (m_right_nd (m_right_lf ⟨3, dL_law_421, rfl, rfl, 84, 2, 9, (yX9_odds, cX9_odds, 4, (some .int)), rfl, me_X9_odds, mc_X9_odds, Or.inl ⟨(RX9, TX9, 10), rfl, rfl⟩, wd_536, wd_537, wd_538, wd_62⟩) (m_right_lf ⟨1, dL_law_424, rfl, rfl, rfl⟩))) (m_right_nd (m_right_nd (m_right_lf ⟨1, dL_law_425, rfl, rfl, rfl⟩) (m_right_lf ⟨1, dL_law_426, rfl, rfl, rfl⟩)) (m_right_nd (m_right_lf ⟨1, dL_law_427, rfl, rfl, by decide +kernel⟩) (m_right_lf ⟨1, dL_law_428, rfl, rfl⟩)))))) (m_right_nd (m_right_nd (m_right_nd (m_right_nd (m_right_lf ⟨1, dL_law_429, rfl, rfl⟩) (m_right_nd (m_right_lf ⟨1, dL_law_430, rfl, rfl, rfl⟩) (m_right_lf ⟨1, dL_law_431, rfl, rfl, rfl⟩))) (m_right_nd (m_right_lf ⟨1, dL_law_432, rfl, rfl, by decide +kernel⟩) (m_right_nd (m_right_lf ⟨1, dL_law_433, rfl, rfl⟩) (m_right_lf ⟨1, dL_law_434, rfl, rfl⟩)))) (m_right_nd (m_right_nd (m_right_lf ⟨3, dL_law_435, rfl, rfl, 148, 2, 10, (yX10_odds, cX10_odds, 3, (some .int)), rfl, me_X10_odds, mc_X10_odds, Or.inl ⟨(RX10, TX10, 24), rfl, rfl⟩, wd_1097, wd_1098, wd_1099, wd_71⟩) (m_right_nd (m_right_lf ⟨3, dL_law_438, rfl, rfl, 1332, rfl, by decide⟩) (m_right_lf ⟨1, dL_law_441, rfl, rfl, by decide +kernel⟩))) (m_right_nd (m_right_lf ⟨1, dL_law_442, rfl, 1, .boolean, rfl, rfl, Or.inr (Or.inl ⟨rfl, rfl⟩)⟩) (m_right_nd (m_right_lf ⟨1, dL_law_443, rfl, rfl, rfl⟩) (m_right_lf ⟨1, dL_law_444, rfl, rfl, rfl⟩))))) (m_right_nd (m_right_nd (m_right_nd (m_right_lf ⟨1, dL_law_445, rfl, rfl, rfl⟩) (m_right_nd (m_right_lf ⟨1, dL_law_446, rfl, rfl, by decide +kernel⟩) (m_right_lf ⟨1, dL_law_447, rfl, rfl⟩))) (m_right_nd (m_right_lf ⟨1, dL_law_448, rfl, rfl⟩) (m_right_nd (m_right_lf ⟨1, dL_law_449, rfl, rfl, rfl⟩) (m_right_lf ⟨1, dL_law_450, rfl, rfl, rfl⟩)))) (m_right_nd (m_right_nd (m_right_lf ⟨1, dL_law_451, rfl, rfl, by decide +kernel⟩) (m_right_nd (m_right_lf ⟨1, dL_law_452, rfl, rfl⟩) (m_right_lf ⟨1, dL_law_453, rfl, rfl⟩))) (m_right_nd (m_right_nd (m_right_lf ⟨1, dL_law_454, rfl, rfl, rfl⟩) (m_right_lf ⟨1, dL_law_455, rfl, rfl, rfl⟩)) (m_right_nd (m_right_lf ⟨1, dL_law_456, rfl, rfl, by decide +kernel⟩) (m_right_lf ⟨1, dL_law_457, rfl, rfl⟩))))))) (m_right_nd (m_right_nd (m_right_nd (m_right_nd (m_right_nd (m_right_lf ⟨1, dL_law_458, rfl, rfl⟩) (m_right_nd (m_right_lf ⟨3, dL_law_459, rfl, rfl, 466, rfl, by decide⟩) (m_right_lf ⟨1, dL_law_462, rfl, rfl, by decide +kernel⟩))) (m_right_nd (m_right_lf ⟨3, dL_law_463, rfl, 467, rfl, by decide⟩) (m_right_nd (m_right_lf ⟨1, dL_law_466, rfl, rfl, by decide +kernel⟩) (m_right_lf ⟨3, dL_law_467, rfl, rfl, 85, 3, 9, (yX9_play, cX9_play, 5, (some .int)), rfl, me_X9_play, mc_X9_play, Or.inl ⟨(RX9, TX9, 10), rfl, rfl⟩, wd_553, wd_554, wd_555, wd_62⟩)))) (m_right_nd (m_right_nd (m_right_lf ⟨1, dL_law_470, rfl, rfl, rfl⟩) (m_right_nd (m_right_lf ⟨1, dL_law_471, rfl, rfl, rfl⟩) (m_right_lf ⟨1, dL_law_472, rfl, rfl, rfl⟩))) (m_right_nd (m_right_lf ⟨1, dL_law_473, rfl, rfl, by decide +kernel⟩) (m_right_nd (m_right_lf ⟨1, dL_law_474, rfl, rfl⟩) (m_right_lf ⟨1, dL_law_475, rfl, rfl⟩))))) (m_right_nd (m_right_nd (m_right_nd (m_right_lf ⟨1, dL_law_476, rfl, rfl, rfl⟩) (m_right_nd (m_right_lf ⟨1, dL_law_477, rfl, rfl, rfl⟩) (m_right_lf ⟨1, dL_law_478, rfl, rfl, by decide +kernel⟩))) (m_right_nd (m_right_lf ⟨1, dL_law_479, rfl, rfl⟩) (m_right_nd (m_right_lf ⟨1, dL_law_480, rfl, rfl⟩) (m_right_lf ⟨1, dL_law_481, rfl, rfl, rfl⟩)))) (m_right_nd (m_right_nd (m_right_lf ⟨1, dL_law_482, rfl, rfl, rfl⟩) (m_right_nd (m_right_lf ⟨1, dL_law_483, rfl, rfl, by decide +kernel⟩) (m_right_lf ⟨1, dL_law_484, rfl, rfl⟩))) (m_right_nd (m_right_nd (m_right_lf ⟨1, dL_law_485, rfl, rfl⟩) (m_right_lf ⟨3, dL_law_486, rfl, rfl, 493, rfl, by decide⟩)) (m_right_nd (m_right_lf ⟨1, dL_law_489, rfl, rfl, by decide +kernel⟩) (m_right_lf ⟨3, dL_law_490, rfl, 494, rfl, by decide⟩)))))) (m_right_nd (m_right_nd (m_right_nd (m_right_nd (m_right_lf ⟨1, dL_law_493, rfl, rfl, by decide +kernel⟩) (m_right_nd (m_right_lf ⟨3, dL_law_494, rfl, rfl, 152, 3, 10, (yX10_play, cX10_play, 4, (some .int)), rfl, me_X10_play, mc_X10_play, Or.inl ⟨(RX10, TX10, 24), rfl, rfl⟩, wd_1105, wd_1106, wd_1107, wd_71⟩) (m_right_lf ⟨3, dL_law_497, rfl, rfl, 1332, rfl, by decide⟩))) (m_right_nd (m_right_lf ⟨1, dL_law_500, rfl, rfl, by decide +kernel⟩) (m_right_nd (m_right_lf ⟨1, dL_law_501, rfl, 1, .boolean, rfl, rfl, Or.inr (Or.inl ⟨rfl, rfl⟩)⟩) (m_right_lf ⟨1, dL_law_502, rfl, rfl, rfl⟩)))) (m_right_nd (m_right_nd (m_right_lf ⟨1, dL_law_503, rfl, rfl, rfl⟩) (m_right_nd (m_right_lf ⟨1, dL_law_504, rfl, rfl, rfl⟩) (m_right_lf ⟨1, dL_law_505, rfl, rfl, by decide +kernel⟩))) (m_right_nd (m_right_lf ⟨1, dL_law_506, rfl, rfl⟩) (m_right_nd (m_right_lf ⟨1, dL_law_507, rfl, rfl⟩) (m_right_lf ⟨1, dL_law_508, rfl, rfl, rfl⟩))))) (m_right_nd (m_right_nd (m_right_nd (m_right_lf ⟨1, dL_law_509, rfl, rfl, rfl⟩) (m_right_nd (m_right_lf ⟨1, dL_law_510, rfl, rfl, by decide +kernel⟩) (m_right_lf ⟨1, dL_law_511, rfl, rfl⟩))) (m_right_nd (m_right_lf ⟨1, dL_law_512, rfl, rfl⟩) (m_right_nd (m_right_lf ⟨1, dL_law_513, rfl, rfl, rfl⟩) (m_right_lf ⟨1, dL_law_514, rfl, rfl, rfl⟩)))) (m_right_nd (m_right_nd (m_right_lf ⟨1, dL_law_515, rfl, rfl, by decide +kernel⟩) (m_right_nd (m_right_lf ⟨1, dL_law_516, rfl, rfl⟩) (m_right_lf ⟨1, dL_law_517, rfl, rfl⟩))) (m_right_nd (m_right_nd (m_right_lf ⟨1, dL_law_518, rfl, rfl, rfl⟩) (m_right_lf ⟨1, dL_law_519, rfl, rfl, rfl⟩)) (m_right_nd (m_right_lf ⟨1, dL_law_520, rfl, rfl, by decide +kernel⟩) (m_right_lf ⟨1, dL_law_521, rfl, rfl⟩)))))))
set_option maxRecDepth 20000 in
theorem r_L_law_p3 : m_Right (yL_law, cL_law, 4, (some .boolean)) q_L_law_p3 := m_right_nd (m_right_nd (m_right_nd (m_right_nd (m_right_nd (m_right_nd (m_right_lf ⟨1, dL_law_522, rfl, rfl⟩) (m_right_nd (m_right_lf ⟨1, dL_law_523, rfl, rfl, rfl⟩) (m_right_lf ⟨1, dL_law_524, rfl, rfl, rfl⟩))) (m_right_nd (m_right_lf ⟨1, dL_law_525, rfl, rfl, by decide +kernel⟩) (m_right_nd (m_right_lf ⟨1, dL_law_526, rfl, rfl⟩) (m_right_lf ⟨1, dL_law_527, rfl, rfl⟩)))) (m_right_nd (m_right_nd (m_right_lf ⟨3, dL_law_528, rfl, rfl, 86, 5, 9, (yX9_wins, cX9_wins, 7, (some .long)), rfl, me_X9_wins, mc_X9_wins, Or.inl ⟨(RX9, TX9, 10), rfl, rfl⟩, wd_571, wd_572, wd_573, wd_62⟩) (m_right_nd (m_right_lf ⟨1, dL_law_531, rfl, rfl, rfl⟩) (m_right_lf ⟨1, dL_law_532, rfl, rfl, rfl⟩))) (m_right_nd (m_right_lf ⟨1, dL_law_533, rfl, rfl, rfl⟩) (m_right_nd (m_right_lf ⟨1, dL_law_534, rfl, rfl, by decide +kernel⟩) (m_right_lf ⟨1, dL_law_535, rfl, rfl⟩))))) (m_right_nd (m_right_nd (m_right_nd (m_right_lf ⟨1, dL_law_536, rfl, rfl⟩) (m_right_nd (m_right_lf ⟨1, dL_law_537, rfl, rfl, rfl⟩) (m_right_lf ⟨1, dL_law_538, rfl, rfl, rfl⟩))) (m_right_nd (m_right_lf ⟨1, dL_law_539, rfl, rfl, by decide +kernel⟩) (m_right_nd (m_right_lf ⟨1, dL_law_540, rfl, rfl⟩) (m_right_lf ⟨1, dL_law_541, rfl, rfl⟩)))) (m_right_nd (m_right_nd (m_right_lf ⟨1, dL_law_542, rfl, rfl, rfl⟩) (m_right_nd (m_right_lf ⟨1, dL_law_543, rfl, rfl, rfl⟩) (m_right_lf ⟨1, dL_law_544, rfl, rfl, by decide +kernel⟩))) (m_right_nd (m_right_nd (m_right_lf ⟨1, dL_law_545, rfl, rfl⟩) (m_right_lf ⟨1, dL_law_546, rfl, rfl⟩)) (m_right_nd (m_right_lf ⟨1, dL_law_547, rfl, rfl, rfl⟩) (m_right_lf ⟨1, dL_law_548, rfl, rfl, rfl⟩)))))) (m_right_nd (m_right_nd (m_right_nd (m_right_nd (m_right_lf ⟨1, dL_law_549, rfl, rfl, by decide +kernel⟩) (m_right_nd (m_right_lf ⟨1, dL_law_550, rfl, rfl⟩) (m_right_lf ⟨1, dL_law_551, rfl, rfl⟩))) (m_right_nd (m_right_lf ⟨1, dL_law_552, rfl, rfl, rfl⟩) (m_right_nd (m_right_lf ⟨1, dL_law_553, rfl, rfl, rfl⟩) (m_right_lf ⟨1, dL_law_554, rfl, rfl, by decide +kernel⟩)))) (m_right_nd (m_right_nd (m_right_lf ⟨1, dL_law_555, rfl, rfl⟩) (m_right_nd (m_right_lf ⟨1, dL_law_556, rfl, rfl⟩) (m_right_lf ⟨3, dL_law_557, rfl, rfl, 158, 5, 10, (yX10_wins, cX10_wins, 9, (some .long)), rfl, me_X10_wins, mc_X10_wins, Or.inl ⟨(RX10, TX10, 24), rfl, rfl⟩, wd_1121, wd_1122, wd_1123, wd_71⟩))) (m_right_nd (m_right_lf ⟨1, dL_law_560, rfl, rfl⟩) (m_right_nd (m_right_lf ⟨3, dL_law_561, rfl, rfl, 1332, rfl, by decide⟩) (m_right_lf ⟨1, dL_law_564, rfl, rfl, by decide +kernel⟩))))) (m_right_nd (m_right_nd (m_right_nd (m_right_lf ⟨1, dL_law_565, rfl, 1, .boolean, rfl, rfl, Or.inr (Or.inl ⟨rfl, rfl⟩)⟩) (m_right_nd (m_right_lf ⟨1, dL_law_566, rfl, rfl, rfl⟩) (m_right_lf ⟨1, dL_law_567, rfl, rfl, rfl⟩))) (m_right_nd (m_right_lf ⟨1, dL_law_568, rfl, rfl, rfl⟩) (m_right_nd (m_right_lf ⟨1, dL_law_569, rfl, rfl, by decide +kernel⟩) (m_right_lf ⟨1, dL_law_570, rfl, rfl⟩)))) (m_right_nd (m_right_nd (m_right_lf ⟨1, dL_law_571, rfl, rfl⟩) (m_right_nd (m_right_lf ⟨1, dL_law_572, rfl, rfl, rfl⟩) (m_right_lf ⟨1, dL_law_573, rfl, rfl, rfl⟩))) (m_right_nd (m_right_nd (m_right_lf ⟨1, dL_law_574, rfl, rfl, by decide +kernel⟩) (m_right_lf ⟨1, dL_law_575, rfl, rfl⟩)) (m_right_nd (m_right_lf ⟨1, dL_law_576, rfl, rfl⟩) (m_right_lf ⟨1, dL_law_577, rfl, rfl, rfl⟩))))))) (m_right_nd (m_right_nd (m_right_nd (m_right_nd (m_right_nd (m_right_lf ⟨1, dL_law_578, rfl, rfl, rfl⟩) (m_right_nd (m_right_lf ⟨1, dL_law_579, rfl, rfl, by decide +kernel⟩) (m_right_lf ⟨1, dL_law_580, rfl, rfl⟩))) (m_right_nd (m_right_lf ⟨1, dL_law_581, rfl, rfl⟩) (m_right_nd (m_right_lf ⟨1, dL_law_582, rfl, rfl, rfl⟩) (m_right_lf ⟨1, dL_law_583, rfl, rfl, rfl⟩)))) (m_right_nd (m_right_nd (m_right_lf ⟨1, dL_law_584, rfl, rfl, by decide +kernel⟩) (m_right_nd (m_right_lf ⟨1, dL_law_585, rfl, rfl⟩) (m_right_lf ⟨1, dL_law_586, rfl, rfl⟩))) (m_right_nd (m_right_lf ⟨3, dL_law_587, rfl, rfl, 87, 4, 9, (yX9_mean, cX9_mean, 6, (some .long)), rfl, me_X9_mean, mc_X9_mean, Or.inl ⟨(RX9, TX9, 10), rfl, rfl⟩, wd_634, wd_635, wd_636, wd_62⟩) (m_right_nd (m_right_lf ⟨1, dL_law_590, rfl, rfl, rfl⟩) (m_right_lf ⟨1, dL_law_591, rfl, rfl, rfl⟩))))) (m_right_nd (m_right_nd (m_right_nd (m_right_lf ⟨1, dL_law_592, rfl, rfl, rfl⟩) (m_right_nd (m_right_lf ⟨1, dL_law_593, rfl, rfl, by decide +kernel⟩) (m_right_lf ⟨1, dL_law_594, rfl, rfl⟩))) (m_right_nd (m_right_lf ⟨1, dL_law_595, rfl, rfl⟩) (m_right_nd (m_right_lf ⟨1, dL_law_596, rfl, rfl, rfl⟩) (m_right_lf ⟨1, dL_law_597, rfl, rfl, rfl⟩)))) (m_right_nd (m_right_nd (m_right_lf ⟨1, dL_law_598, rfl, rfl, by decide +kernel⟩) (m_right_nd (m_right_lf ⟨1, dL_law_599, rfl, rfl⟩) (m_right_lf ⟨1, dL_law_600, rfl, rfl⟩))) (m_right_nd (m_right_nd (m_right_lf ⟨1, dL_law_601, rfl, rfl, rfl⟩) (m_right_lf ⟨1, dL_law_602, rfl, rfl, rfl⟩)) (m_right_nd (m_right_lf ⟨1, dL_law_603, rfl, rfl, by decide +kernel⟩) (m_right_lf ⟨1, dL_law_604, rfl, rfl⟩)))))) (m_right_nd (m_right_nd (m_right_nd (m_right_nd (m_right_lf ⟨1, dL_law_605, rfl, rfl⟩) (m_right_nd (m_right_lf ⟨1, dL_law_606, rfl, rfl, rfl⟩) (m_right_lf ⟨1, dL_law_607, rfl, rfl, rfl⟩))) (m_right_nd (m_right_lf ⟨1, dL_law_608, rfl, rfl, by decide +kernel⟩) (m_right_nd (m_right_lf ⟨1, dL_law_609, rfl, rfl⟩) (m_right_lf ⟨1, dL_law_610, rfl, rfl⟩)))) (m_right_nd (m_right_nd (m_right_lf ⟨3, dL_law_611, rfl, rfl, 159, 4, 10, (yX10_mean, cX10_mean, 8, (some .long)), rfl, me_X10_mean, mc_X10_mean, Or.inl ⟨(RX10, TX10, 24), rfl, rfl⟩, wd_1157, wd_1158, wd_1159, wd_71⟩) (m_right_nd (m_right_lf ⟨1, dL_law_614, rfl, rfl⟩) (m_right_lf ⟨3, dL_law_615, rfl, rfl, 1332, rfl, by decide⟩))) (m_right_nd (m_right_lf ⟨1, dL_law_618, rfl, rfl, by decide +kernel⟩) (m_right_nd (m_right_lf ⟨1, dL_law_619, rfl, 1, .boolean, rfl, rfl, Or.inr (Or.inl ⟨rfl, rfl⟩)⟩) (m_right_lf ⟨1, dL_law_620, rfl, rfl, rfl⟩))))) (m_right_nd (m_right_nd (m_right_nd (m_right_lf ⟨1, dL_law_621, rfl, rfl, rfl⟩) (m_right_nd (m_right_lf ⟨1, dL_law_622, rfl, rfl, rfl⟩) (m_right_lf ⟨1, dL_law_623, rfl, rfl, by decide +kernel⟩))) (m_right_nd (m_right_lf ⟨1, dL_law_624, rfl, rfl⟩) (m_right_nd (m_right_lf ⟨1, dL_law_625, rfl, rfl⟩) (m_right_lf ⟨1, dL_law_626, rfl, rfl, rfl⟩)))) (m_right_nd (m_right_nd (m_right_lf ⟨1, dL_law_627, rfl, rfl, rfl⟩) (m_right_nd (m_right_lf ⟨1, dL_law_628, rfl, rfl, by decide +kernel⟩) (m_right_lf ⟨1, dL_law_629, rfl, rfl⟩))) (m_right_nd (m_right_nd (m_right_lf ⟨1, dL_law_630, rfl, rfl⟩) (m_right_lf ⟨1, dL_law_631, rfl, rfl, rfl⟩)) (m_right_nd (m_right_lf ⟨1, dL_law_632, rfl, rfl, rfl⟩) (m_right_lf ⟨1, dL_law_633, rfl, rfl, by decide +kernel⟩)))))))
set_option maxRecDepth 20000 in
theorem r_L_law_p4 : m_Right (yL_law, cL_law, 4, (some .boolean)) q_L_law_p4 := m_right_nd (m_right_nd (m_right_nd (m_right_nd (m_right_nd (m_right_nd (m_right_lf ⟨1, dL_law_634, rfl, rfl⟩) (m_right_nd (m_right_lf ⟨1, dL_law_635, rfl, rfl⟩) (m_right_lf ⟨1, dL_law_636, rfl, rfl, rfl⟩))) (m_right_nd (m_right_lf ⟨1, dL_law_637, rfl, rfl, rfl⟩) (m_right_nd (m_right_lf ⟨1, dL_law_638, rfl, rfl, by decide +kernel⟩) (m_right_lf ⟨1, dL_law_639, rfl, rfl⟩)))) (m_right_nd (m_right_nd (m_right_lf ⟨1, dL_law_640, rfl, rfl⟩) (m_right_nd (m_right_lf ⟨3, dL_law_641, rfl, rfl, 88, 4, 9, (yX9_series, cX9_series, 9, (some .long)), rfl, me_X9_series, mc_X9_series, Or.inl ⟨(RX9, TX9, 10), rfl, rfl⟩, wd_642, wd_643, wd_644, wd_62⟩) (m_right_lf ⟨1, dL_law_644, rfl, rfl, rfl⟩))) (m_right_nd (m_right_lf ⟨1, dL_law_645, rfl, rfl, rfl⟩) (m_right_nd (m_right_lf ⟨1, dL_law_646, rfl, rfl, rfl⟩) (m_right_lf ⟨1, dL_law_647, rfl, rfl, by decide +kernel⟩))))) (m_right_nd (m_right_nd (m_right_nd (m_right_lf ⟨1, dL_law_648, rfl, rfl⟩) (m_right_nd (m_right_lf ⟨1, dL_law_649, rfl, rfl⟩) (m_right_lf ⟨1, dL_law_650, rfl, rfl, rfl⟩))) (m_right_nd (m_right_lf ⟨1, dL_law_651, rfl, rfl, rfl⟩) (m_right_nd (m_right_lf ⟨1, dL_law_652, rfl, rfl, by decide +kernel⟩) (m_right_lf ⟨1, dL_law_653, rfl, rfl⟩)))) (m_right_nd (m_right_nd (m_right_lf ⟨1, dL_law_654, rfl, rfl⟩) (m_right_nd (m_right_lf ⟨1, dL_law_655, rfl, rfl, rfl⟩) (m_right_lf ⟨1, dL_law_656, rfl, rfl, rfl⟩))) (m_right_nd (m_right_nd (m_right_lf ⟨1, dL_law_657, rfl, rfl, by decide +kernel⟩) (m_right_lf ⟨1, dL_law_658, rfl, rfl⟩)) (m_right_nd (m_right_lf ⟨1, dL_law_659, rfl, rfl⟩) (m_right_lf ⟨1, dL_law_660, rfl, rfl, rfl⟩)))))) (m_right_nd (m_right_nd (m_right_nd (m_right_nd (m_right_lf ⟨1, dL_law_661, rfl, rfl, rfl⟩) (m_right_nd (m_right_lf ⟨1, dL_law_662, rfl, rfl, by decide +kernel⟩) (m_right_lf ⟨1, dL_law_663, rfl, rfl⟩))) (m_right_nd (m_right_lf ⟨1, dL_law_664, rfl, rfl⟩) (m_right_nd (m_right_lf ⟨3, dL_law_665, rfl, rfl, 161, 4, 10, (yX10_series, cX10_series, 5, (some .long)), rfl, me_X10_series, mc_X10_series, Or.inl ⟨(RX10, TX10, 24), rfl, rfl⟩, wd_1161, wd_1162, wd_1163, wd_71⟩) (m_right_lf ⟨1, dL_law_668, rfl, rfl⟩)))) (m_right_nd (m_right_nd (m_right_lf ⟨3, dL_law_669, rfl, rfl, 1332, rfl, by decide⟩) (m_right_nd (m_right_lf ⟨1, dL_law_672, rfl, rfl, by decide +kernel⟩) (m_right_lf ⟨1, dL_law_673, rfl, 1, .boolean, rfl, rfl, Or.inr (Or.inl ⟨rfl, rfl⟩)⟩))) (m_right_nd (m_right_lf ⟨1, dL_law_674, rfl, rfl, rfl⟩) (m_right_nd (m_right_lf ⟨1, dL_law_675, rfl, rfl, rfl⟩) (m_right_lf ⟨1, dL_law_676, rfl, rfl, rfl⟩))))) (m_right_nd (m_right_nd (m_right_nd (m_right_lf ⟨1, dL_law_677, rfl, rfl, by decide +kernel⟩) (m_right_nd (m_right_lf ⟨1, dL_law_678, rfl, rfl⟩) (m_right_lf ⟨1, dL_law_679, rfl, rfl⟩))) (m_right_nd (m_right_lf ⟨1, dL_law_680, rfl, rfl, rfl⟩) (m_right_nd (m_right_lf ⟨1, dL_law_681, rfl, rfl, rfl⟩) (m_right_lf ⟨1, dL_law_682, rfl, rfl, by decide +kernel⟩)))) (m_right_nd (m_right_nd (m_right_lf ⟨1, dL_law_683, rfl, rfl⟩) (m_right_nd (m_right_lf ⟨1, dL_law_684, rfl, rfl⟩) (m_right_lf ⟨1, dL_law_685, rfl, rfl, rfl⟩))) (m_right_nd (m_right_nd (m_right_lf ⟨1, dL_law_686, rfl, rfl, rfl⟩) (m_right_lf ⟨1, dL_law_687, rfl, rfl, by decide +kernel⟩)) (m_right_nd (m_right_lf ⟨1, dL_law_688, rfl, rfl⟩) (m_right_lf ⟨1, dL_law_689, rfl, rfl⟩))))))) (m_right_nd (m_right_nd (m_right_nd (m_right_nd (m_right_nd (m_right_lf ⟨1, dL_law_690, rfl, rfl, rfl⟩) (m_right_nd (m_right_lf ⟨1, dL_law_691, rfl, rfl, rfl⟩) (m_right_lf ⟨1, dL_law_692, rfl, rfl, by decide +kernel⟩))) (m_right_nd (m_right_lf ⟨1, dL_law_693, rfl, rfl⟩) (m_right_nd (m_right_lf ⟨1, dL_law_694, rfl, rfl⟩) (m_right_lf ⟨3, dL_law_695, rfl, rfl, 89, 4, 9, (yX9_ends, cX9_ends, 8, (some .long)), rfl, me_X9_ends, mc_X9_ends, Or.inl ⟨(RX9, TX9, 10), rfl, rfl⟩, wd_646, wd_647, wd_648, wd_62⟩)))) (m_right_nd (m_right_nd (m_right_lf ⟨1, dL_law_698, rfl, rfl, rfl⟩) (m_right_nd (m_right_lf ⟨1, dL_law_699, rfl, rfl, rfl⟩) (m_right_lf ⟨1, dL_law_700, rfl, rfl, rfl⟩))) (m_right_nd (m_right_lf ⟨1, dL_law_701, rfl, rfl, by decide +kernel⟩) (m_right_nd (m_right_lf ⟨1, dL_law_702, rfl, rfl⟩) (m_right_lf ⟨1, dL_law_703, rfl, rfl⟩))))) (m_right_nd (m_right_nd (m_right_nd (m_right_lf ⟨1, dL_law_704, rfl, rfl, rfl⟩) (m_right_nd (m_right_lf ⟨1, dL_law_705, rfl, rfl, rfl⟩) (m_right_lf ⟨1, dL_law_706, rfl, rfl, by decide +kernel⟩))) (m_right_nd (m_right_lf ⟨1, dL_law_707, rfl, rfl⟩) (m_right_nd (m_right_lf ⟨1, dL_law_708, rfl, rfl⟩) (m_right_lf ⟨1, dL_law_709, rfl, rfl, rfl⟩)))) (m_right_nd (m_right_nd (m_right_lf ⟨1, dL_law_710, rfl, rfl, rfl⟩) (m_right_nd (m_right_lf ⟨1, dL_law_711, rfl, rfl, by decide +kernel⟩) (m_right_lf ⟨1, dL_law_712, rfl, rfl⟩))) (m_right_nd (m_right_nd (m_right_lf ⟨1, dL_law_713, rfl, rfl⟩) (m_right_lf ⟨1, dL_law_714, rfl, rfl, rfl⟩)) (m_right_nd (m_right_lf ⟨1, dL_law_715, rfl, rfl, rfl⟩) (m_right_lf ⟨1, dL_law_716, rfl, rfl, by decide +kernel⟩)))))) (m_right_nd (m_right_nd (m_right_nd (m_right_nd (m_right_lf ⟨1, dL_law_717, rfl, rfl⟩) (m_right_nd (m_right_lf ⟨1, dL_law_718, rfl, rfl⟩) (m_right_lf ⟨3, dL_law_719, rfl, rfl, 162, 4, 10, (yX10_ends, cX10_ends, 8, (some .long)), rfl, me_X10_ends, mc_X10_ends, Or.inl ⟨(RX10, TX10, 24), rfl, rfl⟩, wd_1169, wd_1170, wd_1171, wd_71⟩))) (m_right_nd (m_right_lf ⟨1, dL_law_722, rfl, rfl⟩) (m_right_nd (m_right_lf ⟨3, dL_law_723, rfl, rfl, 1332, rfl, by decide⟩) (m_right_lf ⟨1, dL_law_726, rfl, rfl, by decide +kernel⟩)))) (m_right_nd (m_right_nd (m_right_lf ⟨1, dL_law_727, rfl, 1, .boolean, rfl, rfl, Or.inr (Or.inl ⟨rfl, rfl⟩)⟩) (m_right_nd (m_right_lf ⟨1, dL_law_728, rfl, rfl, rfl⟩) (m_right_lf ⟨1, dL_law_729, rfl, rfl, rfl⟩))) (m_right_nd (m_right_lf ⟨1, dL_law_730, rfl, rfl, rfl⟩) (m_right_nd (m_right_lf ⟨1, dL_law_731, rfl, rfl, by decide +kernel⟩) (m_right_lf ⟨1, dL_law_732, rfl, rfl⟩))))) (m_right_nd (m_right_nd (m_right_nd (m_right_lf ⟨1, dL_law_733, rfl, rfl⟩) (m_right_nd (m_right_lf ⟨1, dL_law_734, rfl, rfl, rfl⟩) (m_right_lf ⟨1, dL_law_735, rfl, rfl, rfl⟩))) (m_right_nd (m_right_lf ⟨1, dL_law_736, rfl, rfl, by decide +kernel⟩) (m_right_nd (m_right_lf ⟨1, dL_law_737, rfl, rfl⟩) (m_right_lf ⟨1, dL_law_738, rfl, rfl⟩)))) (m_right_nd (m_right_nd (m_right_lf ⟨3, dL_law_739, rfl, rfl, 90, 2, 9, (yX9_even, cX9_even, 8, (some .int)), rfl, me_X9_even, mc_X9_even, Or.inl ⟨(RX9, TX9, 10), rfl, rfl⟩, wd_654, wd_655, wd_656, wd_62⟩) (m_right_nd (m_right_lf ⟨1, dL_law_742, rfl, rfl, rfl⟩) (m_right_lf ⟨1, dL_law_743, rfl, rfl, rfl⟩))) (m_right_nd (m_right_nd (m_right_lf ⟨1, dL_law_744, rfl, rfl, rfl⟩) (m_right_lf ⟨1, dL_law_745, rfl, rfl, by decide +kernel⟩)) (m_right_nd (m_right_lf ⟨1, dL_law_746, rfl, rfl⟩) (m_right_lf ⟨1, dL_law_747, rfl, rfl⟩)))))))
set_option maxRecDepth 20000 in
theorem r_L_law_p5 : m_Right (yL_law, cL_law, 4, (some .boolean)) q_L_law_p5 := m_right_nd (m_right_nd (m_right_nd (m_right_nd (m_right_nd (m_right_nd (m_right_lf ⟨1, dL_law_748, rfl, rfl, rfl⟩) (m_right_nd (m_right_lf ⟨1, dL_law_749, rfl, rfl, rfl⟩) (m_right_lf ⟨1, dL_law_750, rfl, rfl, by decide +kernel⟩))) (m_right_nd (m_right_lf ⟨1, dL_law_751, rfl, rfl⟩) (m_right_nd (m_right_lf ⟨1, dL_law_752, rfl, rfl⟩) (m_right_lf ⟨3, dL_law_753, rfl, rfl, 164, 2, 10, (yX10_even, cX10_even, 8, (some .int)), rfl, me_X10_even, mc_X10_even, Or.inl ⟨(RX10, TX10, 24), rfl, rfl⟩, wd_1177, wd_1178, wd_1179, wd_71⟩)))) (m_right_nd (m_right_nd (m_right_lf ⟨3, dL_law_756, rfl, rfl, 1332, rfl, by decide⟩) (m_right_nd (m_right_lf ⟨1, dL_law_759, rfl, rfl, by decide +kernel⟩) (m_right_lf ⟨1, dL_law_760, rfl, 1, .boolean, rfl, rfl, Or.inr (Or.inl ⟨rfl, rfl⟩)⟩))) (m_right_nd (m_right_lf ⟨1, dL_law_761, rfl, rfl, rfl⟩) (m_right_nd (m_right_lf ⟨1, dL_law_762, rfl, rfl, rfl⟩) (m_right_lf ⟨1, dL_law_763, rfl, rfl, rfl⟩))))) (m_right_nd (m_right_nd (m_right_nd (m_right_lf ⟨1, dL_law_764, rfl, rfl, by decide +kernel⟩) (m_right_nd (m_right_lf ⟨1, dL_law_765, rfl, rfl⟩) (m_right_lf ⟨1, dL_law_766, rfl, rfl⟩))) (m_right_nd (m_right_lf ⟨1, dL_law_767, rfl, rfl, rfl⟩) (m_right_nd (m_right_lf ⟨1, dL_law_768, rfl, rfl, rfl⟩) (m_right_lf ⟨1, dL_law_769, rfl, rfl, by decide +kernel⟩)))) (m_right_nd (m_right_nd (m_right_lf ⟨1, dL_law_770, rfl, rfl⟩) (m_right_nd (m_right_lf ⟨1, dL_law_771, rfl, rfl⟩) (m_right_lf ⟨1, dL_law_772, rfl, rfl, rfl⟩))) (m_right_nd (m_right_nd (m_right_lf ⟨1, dL_law_773, rfl, rfl, rfl⟩) (m_right_lf ⟨1, dL_law_774, rfl, rfl, by decide +kernel⟩)) (m_right_nd (m_right_lf ⟨1, dL_law_775, rfl, rfl⟩) (m_right_lf ⟨1, dL_law_776, rfl, rfl⟩)))))) (m_right_nd (m_right_nd (m_right_nd (m_right_nd (m_right_lf ⟨1, dL_law_777, rfl, rfl, rfl⟩) (m_right_nd (m_right_lf ⟨1, dL_law_778, rfl, rfl, rfl⟩) (m_right_lf ⟨1, dL_law_779, rfl, rfl, by decide +kernel⟩))) (m_right_nd (m_right_lf ⟨1, dL_law_780, rfl, rfl⟩) (m_right_nd (m_right_lf ⟨1, dL_law_781, rfl, rfl⟩) (m_right_lf ⟨3, dL_law_782, rfl, rfl, 91, 4, 9, (yX9_purpose, cX9_purpose, 5, (some .long)), rfl, me_X9_purpose, mc_X9_purpose, Or.inl ⟨(RX9, TX9, 10), rfl, rfl⟩, wd_662, wd_663, wd_664, wd_62⟩)))) (m_right_nd (m_right_nd (m_right_lf ⟨1, dL_law_785, rfl, rfl, rfl⟩) (m_right_nd (m_right_lf ⟨1, dL_law_786, rfl, rfl, rfl⟩) (m_right_lf ⟨1, dL_law_787, rfl, rfl, rfl⟩))) (m_right_nd (m_right_lf ⟨1, dL_law_788, rfl, rfl, by decide +kernel⟩) (m_right_nd (m_right_lf ⟨1, dL_law_789, rfl, rfl⟩) (m_right_lf ⟨1, dL_law_790, rfl, rfl⟩))))) (m_right_nd (m_right_nd (m_right_nd (m_right_lf ⟨1, dL_law_791, rfl, rfl, rfl⟩) (m_right_nd (m_right_lf ⟨1, dL_law_792, rfl, rfl, rfl⟩) (m_right_lf ⟨1, dL_law_793, rfl, rfl, by decide +kernel⟩))) (m_right_nd (m_right_lf ⟨1, dL_law_794, rfl, rfl⟩) (m_right_nd (m_right_lf ⟨1, dL_law_795, rfl, rfl⟩) (m_right_lf ⟨1, dL_law_796, rfl, rfl, rfl⟩)))) (m_right_nd (m_right_nd (m_right_lf ⟨1, dL_law_797, rfl, rfl, rfl⟩) (m_right_nd (m_right_lf ⟨1, dL_law_798, rfl, rfl, by decide +kernel⟩) (m_right_lf ⟨1, dL_law_799, rfl, rfl⟩))) (m_right_nd (m_right_nd (m_right_lf ⟨1, dL_law_800, rfl, rfl⟩) (m_right_lf ⟨1, dL_law_801, rfl, rfl, rfl⟩)) (m_right_nd (m_right_lf ⟨1, dL_law_802, rfl, rfl, rfl⟩) (m_right_lf ⟨1, dL_law_803, rfl, rfl, by decide +kernel⟩))))))) (m_right_nd (m_right_nd (m_right_nd (m_right_nd (m_right_nd (m_right_lf ⟨1, dL_law_804, rfl, rfl⟩) (m_right_nd (m_right_lf ⟨1, dL_law_805, rfl, rfl⟩) (m_right_lf ⟨3, dL_law_806, rfl, rfl, 166, 4, 10, (yX10_purpose, cX10_purpose, 5, (some .long)), rfl, me_X10_purpose, mc_X10_purpose, Or.inl ⟨(RX10, TX10, 24), rfl, rfl⟩, wd_1181, wd_1182, wd_1183, wd_71⟩))) (m_right_nd (m_right_lf ⟨1, dL_law_809, rfl, rfl⟩) (m_right_nd (m_right_lf ⟨3, dL_law_810, rfl, rfl, 1332, rfl, by decide⟩) (m_right_lf ⟨1, dL_law_813, rfl, rfl, by decide +kernel⟩)))) (m_right_nd (m_right_nd (m_right_lf ⟨1, dL_law_814, rfl, 1, .boolean, rfl, rfl, Or.inr (Or.inl ⟨rfl, rfl⟩)⟩) (m_right_nd (m_right_lf ⟨1, dL_law_815, rfl, rfl, rfl⟩) (m_right_lf ⟨1, dL_law_816, rfl, rfl, rfl⟩))) (m_right_nd (m_right_lf ⟨1, dL_law_817, rfl, rfl, rfl⟩) (m_right_nd (m_right_lf ⟨1, dL_law_818, rfl, rfl, by decide +kernel⟩) (m_right_lf ⟨1, dL_law_819, rfl, rfl⟩))))) (m_right_nd (m_right_nd (m_right_nd (m_right_lf ⟨1, dL_law_820, rfl, rfl⟩) (m_right_nd (m_right_lf ⟨1, dL_law_821, rfl, rfl, rfl⟩) (m_right_lf ⟨1, dL_law_822, rfl, rfl, rfl⟩))) (m_right_nd (m_right_lf ⟨1, dL_law_823, rfl, rfl, by decide +kernel⟩) (m_right_nd (m_right_lf ⟨1, dL_law_824, rfl, rfl⟩) (m_right_lf ⟨1, dL_law_825, rfl, rfl⟩)))) (m_right_nd (m_right_nd (m_right_lf ⟨1, dL_law_826, rfl, rfl, rfl⟩) (m_right_nd (m_right_lf ⟨1, dL_law_827, rfl, rfl, rfl⟩) (m_right_lf ⟨1, dL_law_828, rfl, rfl, by decide +kernel⟩))) (m_right_nd (m_right_nd (m_right_lf ⟨1, dL_law_829, rfl, rfl⟩) (m_right_lf ⟨1, dL_law_830, rfl, rfl⟩)) (m_right_nd (m_right_lf ⟨3, dL_law_831, rfl, rfl, 92, 3, 9, (yX9_loses, cX9_loses, 5, (some .int)), rfl, me_X9_loses, mc_X9_loses, Or.inl ⟨(RX9, TX9, 10), rfl, rfl⟩, wd_690, wd_691, wd_692, wd_62⟩) (m_right_lf ⟨1, dL_law_834, rfl, rfl, rfl⟩)))))) (m_right_nd (m_right_nd (m_right_nd (m_right_nd (m_right_lf ⟨1, dL_law_835, rfl, rfl, rfl⟩) (m_right_nd (m_right_lf ⟨1, dL_law_836, rfl, rfl, rfl⟩) (m_right_lf ⟨1, dL_law_837, rfl, rfl, by decide +kernel⟩))) (m_right_nd (m_right_lf ⟨1, dL_law_838, rfl, rfl⟩) (m_right_nd (m_right_lf ⟨1, dL_law_839, rfl, rfl⟩) (m_right_lf ⟨1, dL_law_840, rfl, rfl, rfl⟩)))) (m_right_nd (m_right_nd (m_right_lf ⟨1, dL_law_841, rfl, rfl, rfl⟩) (m_right_nd (m_right_lf ⟨1, dL_law_842, rfl, rfl, by decide +kernel⟩) (m_right_lf ⟨1, dL_law_843, rfl, rfl⟩))) (m_right_nd (m_right_lf ⟨1, dL_law_844, rfl, rfl⟩) (m_right_nd (m_right_lf ⟨1, dL_law_845, rfl, rfl, rfl⟩) (m_right_lf ⟨1, dL_law_846, rfl, rfl, rfl⟩))))) (m_right_nd (m_right_nd (m_right_nd (m_right_lf ⟨1, dL_law_847, rfl, rfl, by decide +kernel⟩) (m_right_nd (m_right_lf ⟨1, dL_law_848, rfl, rfl⟩) (m_right_lf ⟨1, dL_law_849, rfl, rfl⟩))) (m_right_nd (m_right_lf ⟨3, dL_law_850, rfl, rfl, 167, 3, 10, (yX10_loses, cX10_loses, 4, (some .int)), rfl, me_X10_loses, mc_X10_loses, Or.inl ⟨(RX10, TX10, 24), rfl, rfl⟩, wd_1189, wd_1190, wd_1191, wd_71⟩) (m_right_nd (m_right_lf ⟨3, dL_law_853, rfl, rfl, 1332, rfl, by decide⟩) (m_right_lf ⟨1, dL_law_856, rfl, rfl, by decide +kernel⟩)))) (m_right_nd (m_right_nd (m_right_lf ⟨1, dL_law_857, rfl, 1, .boolean, rfl, rfl, Or.inr (Or.inl ⟨rfl, rfl⟩)⟩) (m_right_nd (m_right_lf ⟨1, dL_law_858, rfl, rfl, rfl⟩) (m_right_lf ⟨1, dL_law_859, rfl, rfl, rfl⟩))) (m_right_nd (m_right_nd (m_right_lf ⟨1, dL_law_860, rfl, rfl, rfl⟩) (m_right_lf ⟨1, dL_law_861, rfl, rfl, by decide +kernel⟩)) (m_right_nd (m_right_lf ⟨1, dL_law_862, rfl, rfl⟩) (m_right_lf ⟨1, dL_law_863, rfl, rfl⟩)))))))
set_option maxRecDepth 20000 in
theorem r_L_law_p6 : m_Right (yL_law, cL_law, 4, (some .boolean)) q_L_law_p6 := m_right_nd (m_right_nd (m_right_nd (m_right_nd (m_right_nd (m_right_nd (m_right_lf ⟨1, dL_law_864, rfl, rfl, rfl⟩) (m_right_nd (m_right_lf ⟨1, dL_law_865, rfl, rfl, rfl⟩) (m_right_lf ⟨1, dL_law_866, rfl, rfl, by decide +kernel⟩))) (m_right_nd (m_right_lf ⟨1, dL_law_867, rfl, rfl⟩) (m_right_nd (m_right_lf ⟨1, dL_law_868, rfl, rfl⟩) (m_right_lf ⟨1, dL_law_869, rfl, rfl, rfl⟩)))) (m_right_nd (m_right_nd (m_right_lf ⟨1, dL_law_870, rfl, rfl, rfl⟩) (m_right_nd (m_right_lf ⟨1, dL_law_871, rfl, rfl, by decide +kernel⟩) (m_right_lf ⟨1, dL_law_872, rfl, rfl⟩))) (m_right_nd (m_right_lf ⟨1, dL_law_873, rfl, rfl⟩) (m_right_nd (m_right_lf ⟨3, dL_law_874, rfl, rfl, 93, 3, 9, (yX9_order, cX9_order, 4, (some .int)), rfl, me_X9_order, mc_X9_order, Or.inl ⟨(RX9, TX9, 10), rfl, rfl⟩, wd_698, wd_699, wd_700, wd_62⟩) (m_right_lf ⟨1, dL_law_877, rfl, rfl, rfl⟩))))) (m_right_nd (m_right_nd (m_right_nd (m_right_lf ⟨1, dL_law_878, rfl, rfl, rfl⟩) (m_right_nd (m_right_lf ⟨1, dL_law_879, rfl, rfl, rfl⟩) (m_right_lf ⟨1, dL_law_880, rfl, rfl, by decide +kernel⟩))) (m_right_nd (m_right_lf ⟨1, dL_law_881, rfl, rfl⟩) (m_right_nd (m_right_lf ⟨1, dL_law_882, rfl, rfl⟩) (m_right_lf ⟨1, dL_law_883, rfl, rfl, rfl⟩)))) (m_right_nd (m_right_nd (m_right_lf ⟨1, dL_law_884, rfl, rfl, rfl⟩) (m_right_nd (m_right_lf ⟨1, dL_law_885, rfl, rfl, by decide +kernel⟩) (m_right_lf ⟨1, dL_law_886, rfl, rfl⟩))) (m_right_nd (m_right_nd (m_right_lf ⟨1, dL_law_887, rfl, rfl⟩) (m_right_lf ⟨1, dL_law_888, rfl, rfl, rfl⟩)) (m_right_nd (m_right_lf ⟨1, dL_law_889, rfl, rfl, rfl⟩) (m_right_lf ⟨1, dL_law_890, rfl, rfl, by decide +kernel⟩)))))) (m_right_nd (m_right_nd (m_right_nd (m_right_nd (m_right_lf ⟨1, dL_law_891, rfl, rfl⟩) (m_right_nd (m_right_lf ⟨1, dL_law_892, rfl, rfl⟩) (m_right_lf ⟨3, dL_law_893, rfl, rfl, 172, 3, 10, (yX10_order, cX10_order, 4, (some .int)), rfl, me_X10_order, mc_X10_order, Or.inl ⟨(RX10, TX10, 24), rfl, rfl⟩, wd_1193, wd_1194, wd_1195, wd_71⟩))) (m_right_nd (m_right_lf ⟨3, dL_law_896, rfl, rfl, 1332, rfl, by decide⟩) (m_right_nd (m_right_lf ⟨1, dL_law_899, rfl, rfl, by decide +kernel⟩) (m_right_lf ⟨1, dL_law_900, rfl, 1, .boolean, rfl, rfl, Or.inr (Or.inl ⟨rfl, rfl⟩)⟩)))) (m_right_nd (m_right_nd (m_right_lf ⟨1, dL_law_901, rfl, rfl, rfl⟩) (m_right_nd (m_right_lf ⟨1, dL_law_902, rfl, rfl, rfl⟩) (m_right_lf ⟨1, dL_law_903, rfl, rfl, rfl⟩))) (m_right_nd (m_right_lf ⟨1, dL_law_904, rfl, rfl, by decide +kernel⟩) (m_right_nd (m_right_lf ⟨1, dL_law_905, rfl, rfl⟩) (m_right_lf ⟨1, dL_law_906, rfl, rfl⟩))))) (m_right_nd (m_right_nd (m_right_nd (m_right_lf ⟨1, dL_law_907, rfl, rfl, rfl⟩) (m_right_nd (m_right_lf ⟨1, dL_law_908, rfl, rfl, rfl⟩) (m_right_lf ⟨1, dL_law_909, rfl, rfl, by decide +kernel⟩))) (m_right_nd (m_right_lf ⟨1, dL_law_910, rfl, rfl⟩) (m_right_nd (m_right_lf ⟨1, dL_law_911, rfl, rfl⟩) (m_right_lf ⟨1, dL_law_912, rfl, rfl, rfl⟩)))) (m_right_nd (m_right_nd (m_right_lf ⟨1, dL_law_913, rfl, rfl, rfl⟩) (m_right_nd (m_right_lf ⟨1, dL_law_914, rfl, rfl, by decide +kernel⟩) (m_right_lf ⟨1, dL_law_915, rfl, rfl⟩))) (m_right_nd (m_right_nd (m_right_lf ⟨1, dL_law_916, rfl, rfl⟩) (m_right_lf ⟨3, dL_law_917, rfl, rfl, 94, 3, 9, (yX9_orderMean, cX9_orderMean, 4, (some .long)), rfl, me_X9_orderMean, mc_X9_orderMean, Or.inl ⟨(RX9, TX9, 10), rfl, rfl⟩, wd_731, wd_732, wd_733, wd_62⟩)) (m_right_nd (m_right_lf ⟨1, dL_law_920, rfl, rfl, rfl⟩) (m_right_lf ⟨1, dL_law_921, rfl, rfl, rfl⟩))))))) (m_right_nd (m_right_nd (m_right_nd (m_right_nd (m_right_nd (m_right_lf ⟨1, dL_law_922, rfl, rfl, rfl⟩) (m_right_nd (m_right_lf ⟨1, dL_law_923, rfl, rfl, by decide +kernel⟩) (m_right_lf ⟨1, dL_law_924, rfl, rfl⟩))) (m_right_nd (m_right_lf ⟨1, dL_law_925, rfl, rfl⟩) (m_right_nd (m_right_lf ⟨1, dL_law_926, rfl, rfl, rfl⟩) (m_right_lf ⟨1, dL_law_927, rfl, rfl, rfl⟩)))) (m_right_nd (m_right_nd (m_right_lf ⟨1, dL_law_928, rfl, rfl, by decide +kernel⟩) (m_right_nd (m_right_lf ⟨1, dL_law_929, rfl, rfl⟩) (m_right_lf ⟨1, dL_law_930, rfl, rfl⟩))) (m_right_nd (m_right_lf ⟨1, dL_law_931, rfl, rfl, rfl⟩) (m_right_nd (m_right_lf ⟨1, dL_law_932, rfl, rfl, rfl⟩) (m_right_lf ⟨1, dL_law_933, rfl, rfl, by decide +kernel⟩))))) (m_right_nd (m_right_nd (m_right_nd (m_right_lf ⟨1, dL_law_934, rfl, rfl⟩) (m_right_nd (m_right_lf ⟨1, dL_law_935, rfl, rfl⟩) (m_right_lf ⟨3, dL_law_936, rfl, rfl, 173, 3, 10, (yX10_orderMean, cX10_orderMean, 6, (some .long)), rfl, me_X10_orderMean, mc_X10_orderMean, Or.inl ⟨(RX10, TX10, 24), rfl, rfl⟩, wd_1214, wd_1215, wd_1216, wd_71⟩))) (m_right_nd (m_right_lf ⟨1, dL_law_939, rfl, rfl⟩) (m_right_nd (m_right_lf ⟨3, dL_law_940, rfl, rfl, 1332, rfl, by decide⟩) (m_right_lf ⟨1, dL_law_943, rfl, rfl, by decide +kernel⟩)))) (m_right_nd (m_right_nd (m_right_lf ⟨1, dL_law_944, rfl, 1, .boolean, rfl, rfl, Or.inr (Or.inl ⟨rfl, rfl⟩)⟩) (m_right_nd (m_right_lf ⟨1, dL_law_945, rfl, rfl, rfl⟩) (m_right_lf ⟨1, dL_law_946, rfl, rfl, rfl⟩))) (m_right_nd (m_right_nd (m_right_lf ⟨1, dL_law_947, rfl, rfl, rfl⟩) (m_right_lf ⟨1, dL_law_948, rfl, rfl, by decide +kernel⟩)) (m_right_nd (m_right_lf ⟨1, dL_law_949, rfl, rfl⟩) (m_right_lf ⟨1, dL_law_950, rfl, rfl⟩)))))) (m_right_nd (m_right_nd (m_right_nd (m_right_nd (m_right_lf ⟨1, dL_law_951, rfl, rfl, rfl⟩) (m_right_nd (m_right_lf ⟨1, dL_law_952, rfl, rfl, rfl⟩) (m_right_lf ⟨1, dL_law_953, rfl, rfl, by decide +kernel⟩))) (m_right_nd (m_right_lf ⟨1, dL_law_954, rfl, rfl⟩) (m_right_nd (m_right_lf ⟨1, dL_law_955, rfl, rfl⟩) (m_right_lf ⟨1, dL_law_956, rfl, rfl, rfl⟩)))) (m_right_nd (m_right_nd (m_right_lf ⟨1, dL_law_957, rfl, rfl, rfl⟩) (m_right_nd (m_right_lf ⟨1, dL_law_958, rfl, rfl, by decide +kernel⟩) (m_right_lf ⟨1, dL_law_959, rfl, rfl⟩))) (m_right_nd (m_right_lf ⟨1, dL_law_960, rfl, rfl⟩) (m_right_nd (m_right_lf ⟨1, dL_law_961, rfl, rfl, rfl⟩) (m_right_lf ⟨1, dL_law_962, rfl, rfl, rfl⟩))))) (m_right_nd (m_right_nd (m_right_nd (m_right_lf ⟨1, dL_law_963, rfl, rfl, by decide +kernel⟩) (m_right_nd (m_right_lf ⟨1, dL_law_964, rfl, rfl⟩) (m_right_lf ⟨1, dL_law_965, rfl, rfl⟩))) (m_right_nd (m_right_lf ⟨3, dL_law_966, rfl, rfl, 95, 4, 9, (yX9_stakes, cX9_stakes, 8, (some .long)), rfl, me_X9_stakes, mc_X9_stakes, Or.inl ⟨(RX9, TX9, 10), rfl, rfl⟩, wd_735, wd_736, wd_737, wd_62⟩) (m_right_nd (m_right_lf ⟨1, dL_law_969, rfl, rfl, rfl⟩) (m_right_lf ⟨1, dL_law_970, rfl, rfl, rfl⟩)))) (m_right_nd (m_right_nd (m_right_lf ⟨1, dL_law_971, rfl, rfl, rfl⟩) (m_right_nd (m_right_lf ⟨1, dL_law_972, rfl, rfl, by decide +kernel⟩) (m_right_lf ⟨1, dL_law_973, rfl, rfl⟩))) (m_right_nd (m_right_nd (m_right_lf ⟨1, dL_law_974, rfl, rfl⟩) (m_right_lf ⟨1, dL_law_975, rfl, rfl, rfl⟩)) (m_right_nd (m_right_lf ⟨1, dL_law_976, rfl, rfl, rfl⟩) (m_right_lf ⟨1, dL_law_977, rfl, rfl, by decide +kernel⟩)))))))
set_option maxRecDepth 20000 in
theorem r_L_law_p7 : m_Right (yL_law, cL_law, 4, (some .boolean)) q_L_law_p7 := m_right_nd (m_right_nd (m_right_nd (m_right_nd (m_right_nd (m_right_nd (m_right_lf ⟨1, dL_law_978, rfl, rfl⟩) (m_right_nd (m_right_lf ⟨1, dL_law_979, rfl, rfl⟩) (m_right_lf ⟨1, dL_law_980, rfl, rfl, rfl⟩))) (m_right_nd (m_right_lf ⟨1, dL_law_981, rfl, rfl, rfl⟩) (m_right_nd (m_right_lf ⟨1, dL_law_982, rfl, rfl, by decide +kernel⟩) (m_right_lf ⟨1, dL_law_983, rfl, rfl⟩)))) (m_right_nd (m_right_nd (m_right_lf ⟨1, dL_law_984, rfl, rfl⟩) (m_right_nd (m_right_lf ⟨1, dL_law_985, rfl, rfl, rfl⟩) (m_right_lf ⟨1, dL_law_986, rfl, rfl, rfl⟩))) (m_right_nd (m_right_lf ⟨1, dL_law_987, rfl, rfl, by decide +kernel⟩) (m_right_nd (m_right_lf ⟨1, dL_law_988, rfl, rfl⟩) (m_right_lf ⟨1, dL_law_989, rfl, rfl⟩))))) (m_right_nd (m_right_nd (m_right_nd (m_right_lf ⟨3, dL_law_990, rfl, rfl, 163, 4, 10, (yX10_stakes, cX10_stakes, 5, (some .long)), rfl, me_X10_stakes, mc_X10_stakes, Or.inl ⟨(RX10, TX10, 24), rfl, rfl⟩, wd_1173, wd_1174, wd_1175, wd_71⟩) (m_right_nd (m_right_lf ⟨1, dL_law_993, rfl, rfl⟩) (m_right_lf ⟨3, dL_law_994, rfl, rfl, 1332, rfl, by decide⟩))) (m_right_nd (m_right_lf ⟨1, dL_law_997, rfl, rfl, by decide +kernel⟩) (m_right_nd (m_right_lf ⟨1, dL_law_998, rfl, 1, .boolean, rfl, rfl, Or.inr (Or.inl ⟨rfl, rfl⟩)⟩) (m_right_lf ⟨1, dL_law_999, rfl, rfl, rfl⟩)))) (m_right_nd (m_right_nd (m_right_lf ⟨1, dL_law_1000, rfl, rfl, rfl⟩) (m_right_nd (m_right_lf ⟨1, dL_law_1001, rfl, rfl, rfl⟩) (m_right_lf ⟨1, dL_law_1002, rfl, rfl, by decide +kernel⟩))) (m_right_nd (m_right_nd (m_right_lf ⟨1, dL_law_1003, rfl, rfl⟩) (m_right_lf ⟨1, dL_law_1004, rfl, rfl⟩)) (m_right_nd (m_right_lf ⟨1, dL_law_1005, rfl, rfl, rfl⟩) (m_right_lf ⟨1, dL_law_1006, rfl, rfl, rfl⟩)))))) (m_right_nd (m_right_nd (m_right_nd (m_right_nd (m_right_lf ⟨1, dL_law_1007, rfl, rfl, by decide +kernel⟩) (m_right_nd (m_right_lf ⟨1, dL_law_1008, rfl, rfl⟩) (m_right_lf ⟨1, dL_law_1009, rfl, rfl⟩))) (m_right_nd (m_right_lf ⟨1, dL_law_1010, rfl, rfl, rfl⟩) (m_right_nd (m_right_lf ⟨1, dL_law_1011, rfl, rfl, rfl⟩) (m_right_lf ⟨1, dL_law_1012, rfl, rfl, by decide +kernel⟩)))) (m_right_nd (m_right_nd (m_right_lf ⟨1, dL_law_1013, rfl, rfl⟩) (m_right_nd (m_right_lf ⟨1, dL_law_1014, rfl, rfl⟩) (m_right_lf ⟨3, dL_law_1015, rfl, rfl, 96, 3, 9, (yX9_table, cX9_table, 4, (some .long)), rfl, me_X9_table, mc_X9_table, Or.inl ⟨(RX9, TX9, 10), rfl, rfl⟩, wd_743, wd_744, wd_745, wd_62⟩))) (m_right_nd (m_right_lf ⟨1, dL_law_1018, rfl, rfl, rfl⟩) (m_right_nd (m_right_lf ⟨1, dL_law_1019, rfl, rfl, rfl⟩) (m_right_lf ⟨1, dL_law_1020, rfl, rfl, rfl⟩))))) (m_right_nd (m_right_nd (m_right_nd (m_right_lf ⟨1, dL_law_1021, rfl, rfl, by decide +kernel⟩) (m_right_nd (m_right_lf ⟨1, dL_law_1022, rfl, rfl⟩) (m_right_lf ⟨1, dL_law_1023, rfl, rfl⟩))) (m_right_nd (m_right_lf ⟨1, dL_law_1024, rfl, rfl, rfl⟩) (m_right_nd (m_right_lf ⟨1, dL_law_1025, rfl, rfl, rfl⟩) (m_right_lf ⟨1, dL_law_1026, rfl, rfl, by decide +kernel⟩)))) (m_right_nd (m_right_nd (m_right_lf ⟨1, dL_law_1027, rfl, rfl⟩) (m_right_nd (m_right_lf ⟨1, dL_law_1028, rfl, rfl⟩) (m_right_lf ⟨1, dL_law_1029, rfl, rfl, rfl⟩))) (m_right_nd (m_right_nd (m_right_lf ⟨1, dL_law_1030, rfl, rfl, rfl⟩) (m_right_lf ⟨1, dL_law_1031, rfl, rfl, by decide +kernel⟩)) (m_right_nd (m_right_lf ⟨1, dL_law_1032, rfl, rfl⟩) (m_right_lf ⟨1, dL_law_1033, rfl, rfl⟩))))))) (m_right_nd (m_right_nd (m_right_nd (m_right_nd (m_right_nd (m_right_lf ⟨3, dL_law_1034, rfl, rfl, 176, 3, 10, (yX10_table, cX10_table, 6, (some .long)), rfl, me_X10_table, mc_X10_table, Or.inl ⟨(RX10, TX10, 24), rfl, rfl⟩, wd_1218, wd_1219, wd_1220, wd_71⟩) (m_right_nd (m_right_lf ⟨1, dL_law_1037, rfl, rfl⟩) (m_right_lf ⟨3, dL_law_1038, rfl, rfl, 1332, rfl, by decide⟩))) (m_right_nd (m_right_lf ⟨1, dL_law_1041, rfl, rfl, by decide +kernel⟩) (m_right_nd (m_right_lf ⟨1, dL_law_1042, rfl, 1, .boolean, rfl, rfl, Or.inr (Or.inl ⟨rfl, rfl⟩)⟩) (m_right_lf ⟨1, dL_law_1043, rfl, rfl, rfl⟩)))) (m_right_nd (m_right_nd (m_right_lf ⟨1, dL_law_1044, rfl, rfl, rfl⟩) (m_right_nd (m_right_lf ⟨1, dL_law_1045, rfl, rfl, rfl⟩) (m_right_lf ⟨1, dL_law_1046, rfl, rfl, by decide +kernel⟩))) (m_right_nd (m_right_lf ⟨1, dL_law_1047, rfl, rfl⟩) (m_right_nd (m_right_lf ⟨1, dL_law_1048, rfl, rfl⟩) (m_right_lf ⟨1, dL_law_1049, rfl, rfl, rfl⟩))))) (m_right_nd (m_right_nd (m_right_nd (m_right_lf ⟨1, dL_law_1050, rfl, rfl, rfl⟩) (m_right_nd (m_right_lf ⟨1, dL_law_1051, rfl, rfl, by decide +kernel⟩) (m_right_lf ⟨1, dL_law_1052, rfl, rfl⟩))) (m_right_nd (m_right_lf ⟨1, dL_law_1053, rfl, rfl⟩) (m_right_nd (m_right_lf ⟨1, dL_law_1054, rfl, rfl, rfl⟩) (m_right_lf ⟨1, dL_law_1055, rfl, rfl, rfl⟩)))) (m_right_nd (m_right_nd (m_right_lf ⟨1, dL_law_1056, rfl, rfl, by decide +kernel⟩) (m_right_nd (m_right_lf ⟨1, dL_law_1057, rfl, rfl⟩) (m_right_lf ⟨1, dL_law_1058, rfl, rfl⟩))) (m_right_nd (m_right_nd (m_right_lf ⟨3, dL_law_1059, rfl, rfl, 1066, rfl, by decide⟩) (m_right_lf ⟨1, dL_law_1062, rfl, rfl, by decide +kernel⟩)) (m_right_nd (m_right_lf ⟨3, dL_law_1063, rfl, 1067, rfl, by decide⟩) (m_right_lf ⟨1, dL_law_1066, rfl, rfl, by decide +kernel⟩)))))) (m_right_nd (m_right_nd (m_right_nd (m_right_nd (m_right_lf ⟨3, dL_law_1067, rfl, rfl, 97, 3, 9, (yX9_book, cX9_book, 5, (some .int)), rfl, me_X9_book, mc_X9_book, Or.inl ⟨(RX9, TX9, 10), rfl, rfl⟩, wd_769, wd_770, wd_771, wd_62⟩) (m_right_nd (m_right_lf ⟨1, dL_law_1070, rfl, rfl, rfl⟩) (m_right_lf ⟨1, dL_law_1071, rfl, rfl, rfl⟩))) (m_right_nd (m_right_lf ⟨1, dL_law_1072, rfl, rfl, rfl⟩) (m_right_nd (m_right_lf ⟨1, dL_law_1073, rfl, rfl, by decide +kernel⟩) (m_right_lf ⟨1, dL_law_1074, rfl, rfl⟩)))) (m_right_nd (m_right_nd (m_right_lf ⟨1, dL_law_1075, rfl, rfl⟩) (m_right_nd (m_right_lf ⟨1, dL_law_1076, rfl, rfl, rfl⟩) (m_right_lf ⟨1, dL_law_1077, rfl, rfl, rfl⟩))) (m_right_nd (m_right_lf ⟨1, dL_law_1078, rfl, rfl, by decide +kernel⟩) (m_right_nd (m_right_lf ⟨1, dL_law_1079, rfl, rfl⟩) (m_right_lf ⟨1, dL_law_1080, rfl, rfl⟩))))) (m_right_nd (m_right_nd (m_right_nd (m_right_lf ⟨1, dL_law_1081, rfl, rfl, rfl⟩) (m_right_nd (m_right_lf ⟨1, dL_law_1082, rfl, rfl, rfl⟩) (m_right_lf ⟨1, dL_law_1083, rfl, rfl, by decide +kernel⟩))) (m_right_nd (m_right_lf ⟨1, dL_law_1084, rfl, rfl⟩) (m_right_nd (m_right_lf ⟨1, dL_law_1085, rfl, rfl⟩) (m_right_lf ⟨3, dL_law_1086, rfl, rfl, 1093, rfl, by decide⟩)))) (m_right_nd (m_right_nd (m_right_lf ⟨1, dL_law_1089, rfl, rfl, by decide +kernel⟩) (m_right_nd (m_right_lf ⟨3, dL_law_1090, rfl, 1094, rfl, by decide⟩) (m_right_lf ⟨1, dL_law_1093, rfl, rfl, by decide +kernel⟩))) (m_right_nd (m_right_nd (m_right_lf ⟨3, dL_law_1094, rfl, rfl, 177, 3, 10, (yX10_book, cX10_book, 4, (some .int)), rfl, me_X10_book, mc_X10_book, Or.inl ⟨(RX10, TX10, 24), rfl, rfl⟩, wd_1230, wd_1231, wd_1232, wd_71⟩) (m_right_lf ⟨3, dL_law_1097, rfl, rfl, 1332, rfl, by decide⟩)) (m_right_nd (m_right_lf ⟨1, dL_law_1100, rfl, rfl, by decide +kernel⟩) (m_right_lf ⟨1, dL_law_1101, rfl, 1, .boolean, rfl, rfl, Or.inr (Or.inl ⟨rfl, rfl⟩)⟩)))))))
set_option maxRecDepth 20000 in
theorem r_L_law_p8 : m_Right (yL_law, cL_law, 4, (some .boolean)) q_L_law_p8 := m_right_nd (m_right_nd (m_right_nd (m_right_nd (m_right_nd (m_right_nd (m_right_lf ⟨1, dL_law_1102, rfl, rfl, rfl⟩) (m_right_nd (m_right_lf ⟨1, dL_law_1103, rfl, rfl, rfl⟩) (m_right_lf ⟨1, dL_law_1104, rfl, rfl, rfl⟩))) (m_right_nd (m_right_lf ⟨1, dL_law_1105, rfl, rfl, by decide +kernel⟩) (m_right_nd (m_right_lf ⟨1, dL_law_1106, rfl, rfl⟩) (m_right_lf ⟨1, dL_law_1107, rfl, rfl⟩)))) (m_right_nd (m_right_nd (m_right_lf ⟨3, dL_law_1108, rfl, rfl, 98, 1, 9, (yX9_likely, cX9_likely, 9, (some .int)), rfl, me_X9_likely, mc_X9_likely, Or.inl ⟨(RX9, TX9, 10), rfl, rfl⟩, wd_773, wd_774, wd_775, wd_62⟩) (m_right_nd (m_right_lf ⟨1, dL_law_1111, rfl, rfl, rfl⟩) (m_right_lf ⟨1, dL_law_1112, rfl, rfl, rfl⟩))) (m_right_nd (m_right_lf ⟨1, dL_law_1113, rfl, rfl, rfl⟩) (m_right_nd (m_right_lf ⟨1, dL_law_1114, rfl, rfl, by decide +kernel⟩) (m_right_lf ⟨1, dL_law_1115, rfl, rfl⟩))))) (m_right_nd (m_right_nd (m_right_nd (m_right_lf ⟨1, dL_law_1116, rfl, rfl⟩) (m_right_nd (m_right_lf ⟨3, dL_law_1117, rfl, rfl, 179, 1, 10, (yX10_likely, cX10_likely, 11, (some .int)), rfl, me_X10_likely, mc_X10_likely, Or.inl ⟨(RX10, TX10, 24), rfl, rfl⟩, wd_1234, wd_1235, wd_1236, wd_71⟩) (m_right_lf ⟨3, dL_law_1120, rfl, rfl, 1332, rfl, by decide⟩))) (m_right_nd (m_right_lf ⟨1, dL_law_1123, rfl, rfl, by decide +kernel⟩) (m_right_nd (m_right_lf ⟨1, dL_law_1124, rfl, 1, .boolean, rfl, rfl, Or.inr (Or.inl ⟨rfl, rfl⟩)⟩) (m_right_lf ⟨1, dL_law_1125, rfl, rfl, rfl⟩)))) (m_right_nd (m_right_nd (m_right_lf ⟨1, dL_law_1126, rfl, rfl, rfl⟩) (m_right_nd (m_right_lf ⟨1, dL_law_1127, rfl, rfl, rfl⟩) (m_right_lf ⟨1, dL_law_1128, rfl, rfl, by decide +kernel⟩))) (m_right_nd (m_right_nd (m_right_lf ⟨1, dL_law_1129, rfl, rfl⟩) (m_right_lf ⟨1, dL_law_1130, rfl, rfl⟩)) (m_right_nd (m_right_lf ⟨3, dL_law_1131, rfl, rfl, 99, 1, 9, (yX9_says, cX9_says, 3, (some .int)), rfl, me_X9_says, mc_X9_says, Or.inl ⟨(RX9, TX9, 10), rfl, rfl⟩, wd_787, wd_788, wd_789, wd_62⟩) (m_right_lf ⟨1, dL_law_1134, rfl, rfl, rfl⟩)))))) (m_right_nd (m_right_nd (m_right_nd (m_right_nd (m_right_lf ⟨1, dL_law_1135, rfl, rfl, rfl⟩) (m_right_nd (m_right_lf ⟨1, dL_law_1136, rfl, rfl, rfl⟩) (m_right_lf ⟨1, dL_law_1137, rfl, rfl, by decide +kernel⟩))) (m_right_nd (m_right_lf ⟨1, dL_law_1138, rfl, rfl⟩) (m_right_nd (m_right_lf ⟨1, dL_law_1139, rfl, rfl⟩) (m_right_lf ⟨3, dL_law_1140, rfl, rfl, 180, 1, 10, (yX10_says, cX10_says, 3, (some .int)), rfl, me_X10_says, mc_X10_says, Or.inl ⟨(RX10, TX10, 24), rfl, rfl⟩, wd_1242, wd_1243, wd_1244, wd_71⟩)))) (m_right_nd (m_right_nd (m_right_lf ⟨3, dL_law_1143, rfl, rfl, 1332, rfl, by decide⟩) (m_right_nd (m_right_lf ⟨1, dL_law_1146, rfl, rfl, by decide +kernel⟩) (m_right_lf ⟨1, dL_law_1147, rfl, 1, .boolean, rfl, rfl, Or.inr (Or.inl ⟨rfl, rfl⟩)⟩))) (m_right_nd (m_right_lf ⟨1, dL_law_1148, rfl, rfl, rfl⟩) (m_right_nd (m_right_lf ⟨1, dL_law_1149, rfl, rfl, rfl⟩) (m_right_lf ⟨1, dL_law_1150, rfl, rfl, rfl⟩))))) (m_right_nd (m_right_nd (m_right_nd (m_right_lf ⟨1, dL_law_1151, rfl, rfl, by decide +kernel⟩) (m_right_nd (m_right_lf ⟨1, dL_law_1152, rfl, rfl⟩) (m_right_lf ⟨1, dL_law_1153, rfl, rfl⟩))) (m_right_nd (m_right_lf ⟨3, dL_law_1154, rfl, rfl, 100, 1, 9, (yX9_tale, cX9_tale, 2, (some .int)), rfl, me_X9_tale, mc_X9_tale, Or.inl ⟨(RX9, TX9, 10), rfl, rfl⟩, wd_791, wd_792, wd_793, wd_62⟩) (m_right_nd (m_right_lf ⟨1, dL_law_1157, rfl, rfl, rfl⟩) (m_right_lf ⟨1, dL_law_1158, rfl, rfl, rfl⟩)))) (m_right_nd (m_right_nd (m_right_lf ⟨1, dL_law_1159, rfl, rfl, rfl⟩) (m_right_nd (m_right_lf ⟨1, dL_law_1160, rfl, rfl, by decide +kernel⟩) (m_right_lf ⟨1, dL_law_1161, rfl, rfl⟩))) (m_right_nd (m_right_nd (m_right_lf ⟨1, dL_law_1162, rfl, rfl⟩) (m_right_lf ⟨3, dL_law_1163, rfl, rfl, 181, 1, 10, (yX10_tale, cX10_tale, 2, (some .int)), rfl, me_X10_tale, mc_X10_tale, Or.inl ⟨(RX10, TX10, 24), rfl, rfl⟩, wd_1246, wd_1247, wd_1248, wd_71⟩)) (m_right_nd (m_right_lf ⟨3, dL_law_1166, rfl, rfl, 1332, rfl, by decide⟩) (m_right_lf ⟨1, dL_law_1169, rfl, rfl, by decide +kernel⟩))))))) (m_right_nd (m_right_nd (m_right_nd (m_right_nd (m_right_nd (m_right_lf ⟨1, dL_law_1170, rfl, 1, .boolean, rfl, rfl, Or.inr (Or.inl ⟨rfl, rfl⟩)⟩) (m_right_nd (m_right_lf ⟨1, dL_law_1171, rfl, rfl, rfl⟩) (m_right_lf ⟨3, dL_law_1172, rfl, rfl, 101, 0, 9, (yX9_looked, cX9_looked, 2, (some .int)), rfl, me_X9_looked, mc_X9_looked, Or.inl ⟨(RX9, TX9, 10), rfl, rfl⟩, wd_795, wd_796, wd_797, wd_62⟩))) (m_right_nd (m_right_lf ⟨1, dL_law_1175, rfl, rfl, rfl⟩) (m_right_nd (m_right_lf ⟨3, dL_law_1176, rfl, rfl, 182, 0, 10, (yX10_looked, cX10_looked, 3, (some .int)), rfl, me_X10_looked, mc_X10_looked, Or.inl ⟨(RX10, TX10, 24), rfl, rfl⟩, wd_1250, wd_1251, wd_1252, wd_71⟩) (m_right_lf ⟨3, dL_law_1179, rfl, rfl, 1332, rfl, by decide⟩)))) (m_right_nd (m_right_nd (m_right_lf ⟨1, dL_law_1182, rfl, rfl, by decide +kernel⟩) (m_right_nd (m_right_lf ⟨1, dL_law_1183, rfl, 1, .boolean, rfl, rfl, Or.inr (Or.inl ⟨rfl, rfl⟩)⟩) (m_right_lf ⟨1, dL_law_1184, rfl, rfl, rfl⟩))) (m_right_nd (m_right_lf ⟨1, dL_law_1185, rfl, rfl, rfl⟩) (m_right_nd (m_right_lf ⟨1, dL_law_1186, rfl, rfl, rfl⟩) (m_right_lf ⟨1, dL_law_1187, rfl, rfl, by decide +kernel⟩))))) (m_right_nd (m_right_nd (m_right_nd (m_right_lf ⟨1, dL_law_1188, rfl, rfl⟩) (m_right_nd (m_right_lf ⟨1, dL_law_1189, rfl, rfl⟩) (m_right_lf ⟨1, dL_law_1190, rfl, rfl, rfl⟩))) (m_right_nd (m_right_lf ⟨1, dL_law_1191, rfl, rfl, rfl⟩) (m_right_nd (m_right_lf ⟨1, dL_law_1192, rfl, rfl, by decide +kernel⟩) (m_right_lf ⟨1, dL_law_1193, rfl, rfl⟩)))) (m_right_nd (m_right_nd (m_right_lf ⟨1, dL_law_1194, rfl, rfl⟩) (m_right_nd (m_right_lf ⟨1, dL_law_1195, rfl, rfl, rfl⟩) (m_right_lf ⟨1, dL_law_1196, rfl, rfl, rfl⟩))) (m_right_nd (m_right_nd (m_right_lf ⟨1, dL_law_1197, rfl, rfl, by decide +kernel⟩) (m_right_lf ⟨1, dL_law_1198, rfl, rfl⟩)) (m_right_nd (m_right_lf ⟨1, dL_law_1199, rfl, rfl⟩) (m_right_lf ⟨3, dL_law_1200, rfl, rfl, 102, 3, 9, (yX9_act, cX9_act, 4, (some .int)), rfl, me_X9_act, mc_X9_act, Or.inl ⟨(RX9, TX9, 10), rfl, rfl⟩, wd_799, wd_800, wd_801, wd_62⟩)))))) (m_right_nd (m_right_nd (m_right_nd (m_right_nd (m_right_lf ⟨1, dL_law_1203, rfl, rfl, rfl⟩) (m_right_nd (m_right_lf ⟨1, dL_law_1204, rfl, rfl, rfl⟩) (m_right_lf ⟨1, dL_law_1205, rfl, rfl, rfl⟩))) (m_right_nd (m_right_lf ⟨1, dL_law_1206, rfl, rfl, by decide +kernel⟩) (m_right_nd (m_right_lf ⟨1, dL_law_1207, rfl, rfl⟩) (m_right_lf ⟨1, dL_law_1208, rfl, rfl⟩)))) (m_right_nd (m_right_nd (m_right_lf ⟨1, dL_law_1209, rfl, rfl, rfl⟩) (m_right_nd (m_right_lf ⟨1, dL_law_1210, rfl, rfl, rfl⟩) (m_right_lf ⟨1, dL_law_1211, rfl, rfl, by decide +kernel⟩))) (m_right_nd (m_right_lf ⟨1, dL_law_1212, rfl, rfl⟩) (m_right_nd (m_right_lf ⟨1, dL_law_1213, rfl, rfl⟩) (m_right_lf ⟨1, dL_law_1214, rfl, rfl, rfl⟩))))) (m_right_nd (m_right_nd (m_right_nd (m_right_lf ⟨1, dL_law_1215, rfl, rfl, rfl⟩) (m_right_nd (m_right_lf ⟨1, dL_law_1216, rfl, rfl, by decide +kernel⟩) (m_right_lf ⟨1, dL_law_1217, rfl, rfl⟩))) (m_right_nd (m_right_lf ⟨1, dL_law_1218, rfl, rfl⟩) (m_right_nd (m_right_lf ⟨3, dL_law_1219, rfl, rfl, 191, 3, 10, (yX10_act, cX10_act, 4, (some .int)), rfl, me_X10_act, mc_X10_act, Or.inl ⟨(RX10, TX10, 24), rfl, rfl⟩, wd_1254, wd_1255, wd_1256, wd_71⟩) (m_right_lf ⟨3, dL_law_1222, rfl, rfl, 1332, rfl, by decide⟩)))) (m_right_nd (m_right_nd (m_right_lf ⟨1, dL_law_1225, rfl, rfl, by decide +kernel⟩) (m_right_nd (m_right_lf ⟨1, dL_law_1226, rfl, 1, .boolean, rfl, rfl, Or.inr (Or.inl ⟨rfl, rfl⟩)⟩) (m_right_lf ⟨1, dL_law_1227, rfl, rfl, rfl⟩))) (m_right_nd (m_right_nd (m_right_lf ⟨1, dL_law_1228, rfl, rfl, rfl⟩) (m_right_lf ⟨1, dL_law_1229, rfl, rfl, rfl⟩)) (m_right_nd (m_right_lf ⟨1, dL_law_1230, rfl, rfl, by decide +kernel⟩) (m_right_lf ⟨1, dL_law_1231, rfl, rfl⟩)))))))
set_option maxRecDepth 20000 in
theorem r_L_law_p9 : m_Right (yL_law, cL_law, 4, (some .boolean)) q_L_law_p9 := m_right_nd (m_right_nd (m_right_nd (m_right_nd (m_right_nd (m_right_nd (m_right_lf ⟨1, dL_law_1232, rfl, rfl⟩) (m_right_lf ⟨3, dL_law_1233, rfl, rfl, 103, 1, 9, (yX9_trace, cX9_trace, 2, (some .int)), rfl, me_X9_trace, mc_X9_trace, Or.inl ⟨(RX9, TX9, 10), rfl, rfl⟩, wd_832, wd_833, wd_834, wd_62⟩)) (m_right_nd (m_right_lf ⟨1, dL_law_1236, rfl, rfl, rfl⟩) (m_right_lf ⟨1, dL_law_1237, rfl, rfl, rfl⟩))) (m_right_nd (m_right_nd (m_right_lf ⟨1, dL_law_1238, rfl, rfl, rfl⟩) (m_right_lf ⟨1, dL_law_1239, rfl, rfl, by decide +kernel⟩)) (m_right_nd (m_right_lf ⟨1, dL_law_1240, rfl, rfl⟩) (m_right_nd (m_right_lf ⟨1, dL_law_1241, rfl, rfl⟩) (m_right_lf ⟨3, dL_law_1242, rfl, rfl, 192, 1, 10, (yX10_trace, cX10_trace, 2, (some .int)), rfl, me_X10_trace, mc_X10_trace, Or.inl ⟨(RX10, TX10, 24), rfl, rfl⟩, wd_1289, wd_1290, wd_1291, wd_71⟩))))) (m_right_nd (m_right_nd (m_right_nd (m_right_lf ⟨3, dL_law_1245, rfl, rfl, 1332, rfl, by decide⟩) (m_right_lf ⟨1, dL_law_1248, rfl, rfl, by decide +kernel⟩)) (m_right_nd (m_right_lf ⟨1, dL_law_1249, rfl, 1, .boolean, rfl, rfl, Or.inr (Or.inl ⟨rfl, rfl⟩)⟩) (m_right_lf ⟨1, dL_law_1250, rfl, rfl, rfl⟩))) (m_right_nd (m_right_nd (m_right_lf ⟨1, dL_law_1251, rfl, rfl, rfl⟩) (m_right_lf ⟨1, dL_law_1252, rfl, rfl, rfl⟩)) (m_right_nd (m_right_lf ⟨1, dL_law_1253, rfl, rfl, by decide +kernel⟩) (m_right_nd (m_right_lf ⟨1, dL_law_1254, rfl, rfl⟩) (m_right_lf ⟨1, dL_law_1255, rfl, rfl⟩)))))) (m_right_nd (m_right_nd (m_right_nd (m_right_nd (m_right_lf ⟨1, dL_law_1256, rfl, rfl, rfl⟩) (m_right_lf ⟨1, dL_law_1257, rfl, rfl, rfl⟩)) (m_right_nd (m_right_lf ⟨1, dL_law_1258, rfl, rfl, by decide +kernel⟩) (m_right_lf ⟨1, dL_law_1259, rfl, rfl⟩))) (m_right_nd (m_right_nd (m_right_lf ⟨1, dL_law_1260, rfl, rfl⟩) (m_right_lf ⟨3, dL_law_1261, rfl, rfl, 104, 2, 9, (yX9_as, cX9_as, 3, (some .int)), rfl, me_X9_as, mc_X9_as, Or.inl ⟨(RX9, TX9, 10), rfl, rfl⟩, wd_841, wd_842, wd_843, wd_62⟩)) (m_right_nd (m_right_lf ⟨1, dL_law_1264, rfl, rfl, rfl⟩) (m_right_nd (m_right_lf ⟨1, dL_law_1265, rfl, rfl, rfl⟩) (m_right_lf ⟨1, dL_law_1266, rfl, rfl, rfl⟩))))) (m_right_nd (m_right_nd (m_right_nd (m_right_lf ⟨1, dL_law_1267, rfl, rfl, by decide +kernel⟩) (m_right_lf ⟨1, dL_law_1268, rfl, rfl⟩)) (m_right_nd (m_right_lf ⟨1, dL_law_1269, rfl, rfl⟩) (m_right_nd (m_right_lf ⟨1, dL_law_1270, rfl, rfl, rfl⟩) (m_right_lf ⟨1, dL_law_1271, rfl, rfl, rfl⟩)))) (m_right_nd (m_right_nd (m_right_lf ⟨1, dL_law_1272, rfl, rfl, by decide +kernel⟩) (m_right_lf ⟨1, dL_law_1273, rfl, rfl⟩)) (m_right_nd (m_right_lf ⟨1, dL_law_1274, rfl, rfl⟩) (m_right_nd (m_right_lf ⟨3, dL_law_1275, rfl, rfl, 193, 2, 10, (yX10_as, cX10_as, 3, (some .int)), rfl, me_X10_as, mc_X10_as, Or.inl ⟨(RX10, TX10, 24), rfl, rfl⟩, wd_1293, wd_1294, wd_1295, wd_71⟩) (m_right_lf ⟨3, dL_law_1278, rfl, rfl, 1332, rfl, by decide⟩))))))) (m_right_nd (m_right_nd (m_right_nd (m_right_nd (m_right_nd (m_right_lf ⟨1, dL_law_1281, rfl, rfl, by decide +kernel⟩) (m_right_lf ⟨1, dL_law_1282, rfl, 1, .boolean, rfl, rfl, Or.inr (Or.inl ⟨rfl, rfl⟩)⟩)) (m_right_nd (m_right_lf ⟨1, dL_law_1283, rfl, rfl, rfl⟩) (m_right_lf ⟨3, dL_law_1284, rfl, rfl, 105, 0, 9, (yX9_image, cX9_image, 1, (some .int)), rfl, me_X9_image, mc_X9_image, Or.inl ⟨(RX9, TX9, 10), rfl, rfl⟩, wd_849, wd_850, wd_851, wd_62⟩))) (m_right_nd (m_right_nd (m_right_lf ⟨1, dL_law_1287, rfl, rfl, rfl⟩) (m_right_lf ⟨3, dL_law_1288, rfl, rfl, 194, 0, 10, (yX10_image, cX10_image, 2, (some .int)), rfl, me_X10_image, mc_X10_image, Or.inl ⟨(RX10, TX10, 24), rfl, rfl⟩, wd_1297, wd_1298, wd_1299, wd_71⟩)) (m_right_nd (m_right_lf ⟨3, dL_law_1291, rfl, rfl, 1332, rfl, by decide⟩) (m_right_nd (m_right_lf ⟨1, dL_law_1294, rfl, rfl, by decide +kernel⟩) (m_right_lf ⟨1, dL_law_1295, rfl, 1, .boolean, rfl, rfl, Or.inr (Or.inl ⟨rfl, rfl⟩)⟩))))) (m_right_nd (m_right_nd (m_right_nd (m_right_lf ⟨1, dL_law_1296, rfl, rfl, rfl⟩) (m_right_lf ⟨3, dL_law_1297, rfl, rfl, 106, 0, 9, (yX9_undo, cX9_undo, 1, (some .int)), rfl, me_X9_undo, mc_X9_undo, Or.inl ⟨(RX9, TX9, 10), rfl, rfl⟩, wd_853, wd_854, wd_855, wd_62⟩)) (m_right_nd (m_right_lf ⟨1, dL_law_1300, rfl, rfl, rfl⟩) (m_right_lf ⟨3, dL_law_1301, rfl, rfl, 195, 0, 10, (yX10_undo, cX10_undo, 2, (some .int)), rfl, me_X10_undo, mc_X10_undo, Or.inl ⟨(RX10, TX10, 24), rfl, rfl⟩, wd_1301, wd_1302, wd_1303, wd_71⟩))) (m_right_nd (m_right_nd (m_right_lf ⟨3, dL_law_1304, rfl, rfl, 1332, rfl, by decide⟩) (m_right_lf ⟨1, dL_law_1307, rfl, rfl, by decide +kernel⟩)) (m_right_nd (m_right_lf ⟨1, dL_law_1308, rfl, 1, .boolean, rfl, rfl, Or.inr (Or.inl ⟨rfl, rfl⟩)⟩) (m_right_nd (m_right_lf ⟨1, dL_law_1309, rfl, rfl, rfl⟩) (m_right_lf ⟨1, dL_law_1310, rfl, rfl, rfl⟩)))))) (m_right_nd (m_right_nd (m_right_nd (m_right_nd (m_right_lf ⟨1, dL_law_1311, rfl, rfl, rfl⟩) (m_right_lf ⟨1, dL_law_1312, rfl, rfl, by decide +kernel⟩)) (m_right_nd (m_right_lf ⟨1, dL_law_1313, rfl, rfl⟩) (m_right_lf ⟨1, dL_law_1314, rfl, rfl⟩))) (m_right_nd (m_right_nd (m_right_lf ⟨3, dL_law_1315, rfl, rfl, 107, 1, 9, (yX9_count, cX9_count, 2, (some .int)), rfl, me_X9_count, mc_X9_count, Or.inl ⟨(RX9, TX9, 10), rfl, rfl⟩, wd_857, wd_858, wd_859, wd_62⟩) (m_right_lf ⟨1, dL_law_1318, rfl, rfl, rfl⟩)) (m_right_nd (m_right_lf ⟨1, dL_law_1319, rfl, rfl, rfl⟩) (m_right_nd (m_right_lf ⟨1, dL_law_1320, rfl, rfl, rfl⟩) (m_right_lf ⟨1, dL_law_1321, rfl, rfl, by decide +kernel⟩))))) (m_right_nd (m_right_nd (m_right_nd (m_right_lf ⟨1, dL_law_1322, rfl, rfl⟩) (m_right_lf ⟨1, dL_law_1323, rfl, rfl⟩)) (m_right_nd (m_right_lf ⟨3, dL_law_1324, rfl, rfl, 196, 1, 10, (yX10_count, cX10_count, 2, (some .int)), rfl, me_X10_count, mc_X10_count, Or.inl ⟨(RX10, TX10, 24), rfl, rfl⟩, wd_1305, wd_1306, wd_1307, wd_71⟩) (m_right_nd (m_right_lf ⟨3, dL_law_1327, rfl, rfl, 1332, rfl, by decide⟩) (m_right_lf ⟨1, dL_law_1330, rfl, rfl, by decide +kernel⟩)))) (m_right_nd (m_right_nd (m_right_lf ⟨1, dL_law_1331, rfl, 1, .boolean, rfl, rfl, Or.inr (Or.inl ⟨rfl, rfl⟩)⟩) (m_right_lf ⟨3, dL_law_1332, rfl, rfl, rfl, by decide +kernel⟩)) (m_right_nd (m_right_lf ⟨3, dL_law_1335, rfl, 18, rfl, by decide⟩) (m_right_nd (m_right_lf ⟨1, dL_law_1338, rfl, rfl, by decide +kernel⟩) (m_right_lf ⟨1, dL_law_1339, rfl, 1, .boolean, rfl, rfl, Or.inr (Or.inl ⟨rfl, rfl⟩)⟩)))))))
theorem r_L_law : m_Right (yL_law, cL_law, 4, (some .boolean)) q_L_law := m_right_nd (m_right_nd (m_right_nd (r_L_law_p0) (r_L_law_p1)) (m_right_nd (r_L_law_p2) (m_right_nd (r_L_law_p3) (r_L_law_p4)))) (m_right_nd (m_right_nd (r_L_law_p5) (r_L_law_p6)) (m_right_nd (r_L_law_p7) (m_right_nd (r_L_law_p8) (r_L_law_p9))))
