/-! By program (wip/whole/gen2.py): the words of the tables by their places, and the code tables' rightness. -/
theorem dX10_keeps_0 : decode cX10_keeps 0 = .ok (.iconst 0, 1) := by decide +kernel
theorem dX10_keeps_1 : decode cX10_keeps 1 = .ok (.istore_n 1, 1) := by decide +kernel
theorem dX10_keeps_2 : decode cX10_keeps 2 = .ok (.iload_n 1, 1) := by decide +kernel
theorem dX10_keeps_3 : decode cX10_keeps 3 = .ok (.bipush 6, 2) := by decide +kernel
theorem dX10_keeps_5 : decode cX10_keeps 5 = .ok (.if_icmp .ge 21, 3) := by decide +kernel
theorem dX10_keeps_8 : decode cX10_keeps 8 = .ok (.aload_n 0, 1) := by decide +kernel
theorem dX10_keeps_9 : decode cX10_keeps 9 = .ok (.getfield 18, 3) := by decide +kernel
theorem dX10_keeps_12 : decode cX10_keeps 12 = .ok (.iload_n 1, 1) := by decide +kernel
theorem dX10_keeps_13 : decode cX10_keeps 13 = .ok (.aload_n 0, 1) := by decide +kernel
theorem dX10_keeps_14 : decode cX10_keeps 14 = .ok (.getfield 9, 3) := by decide +kernel
theorem dX10_keeps_17 : decode cX10_keeps 17 = .ok (.iload_n 1, 1) := by decide +kernel
theorem dX10_keeps_18 : decode cX10_keeps 18 = .ok (.iaload, 1) := by decide +kernel
theorem dX10_keeps_19 : decode cX10_keeps 19 = .ok (.iastore, 1) := by decide +kernel
theorem dX10_keeps_20 : decode cX10_keeps 20 = .ok (.iinc 1 1, 3) := by decide +kernel
theorem dX10_keeps_23 : decode cX10_keeps 23 = .ok (.goto (-21), 3) := by decide +kernel
theorem dX10_keeps_26 : decode cX10_keeps 26 = .ok (.return_, 1) := by decide +kernel
set_option maxRecDepth 20000 in
theorem r_X10_keeps : m_Right (yX10_keeps, cX10_keeps, 2, none) q_X10_keeps := m_right_nd (m_right_nd (m_right_nd (m_right_nd (m_right_lf ⟨1, dX10_keeps_0, rfl, rfl, by decide +kernel⟩) (m_right_lf ⟨1, dX10_keeps_1, rfl, rfl, rfl⟩)) (m_right_nd (m_right_lf ⟨1, dX10_keeps_2, rfl, rfl, rfl⟩) (m_right_lf ⟨2, dX10_keeps_3, rfl, rfl, by decide +kernel⟩))) (m_right_nd (m_right_nd (m_right_lf ⟨3, dX10_keeps_5, rfl, rfl, 26, rfl, by decide⟩) (m_right_lf ⟨1, dX10_keeps_8, rfl, rfl, rfl⟩)) (m_right_nd (m_right_lf ⟨3, dX10_keeps_9, rfl, rfl, 10, 3, rfl, Or.inl ⟨(RX10, TX10, 24), rfl, by decide, wd_869⟩⟩) (m_right_lf ⟨1, dX10_keeps_12, rfl, rfl, rfl⟩)))) (m_right_nd (m_right_nd (m_right_nd (m_right_lf ⟨1, dX10_keeps_13, rfl, rfl, rfl⟩) (m_right_lf ⟨3, dX10_keeps_14, rfl, rfl, 10, 1, rfl, Or.inl ⟨(RX10, TX10, 24), rfl, by decide, wd_867⟩⟩)) (m_right_nd (m_right_lf ⟨1, dX10_keeps_17, rfl, rfl, rfl⟩) (m_right_lf ⟨1, dX10_keeps_18, rfl, rfl⟩))) (m_right_nd (m_right_nd (m_right_lf ⟨1, dX10_keeps_19, rfl, rfl⟩) (m_right_lf ⟨3, dX10_keeps_20, rfl, rfl, rfl, by decide +kernel⟩)) (m_right_nd (m_right_lf ⟨3, dX10_keeps_23, rfl, 2, rfl, by decide⟩) (m_right_lf ⟨1, dX10_keeps_26, rfl, rfl⟩))))
theorem dX10_goesBack_0 : decode cX10_goesBack 0 = .ok (.iconst 0, 1) := by decide +kernel
theorem dX10_goesBack_1 : decode cX10_goesBack 1 = .ok (.istore_n 1, 1) := by decide +kernel
theorem dX10_goesBack_2 : decode cX10_goesBack 2 = .ok (.iload_n 1, 1) := by decide +kernel
theorem dX10_goesBack_3 : decode cX10_goesBack 3 = .ok (.bipush 6, 2) := by decide +kernel
theorem dX10_goesBack_5 : decode cX10_goesBack 5 = .ok (.if_icmp .ge 21, 3) := by decide +kernel
theorem dX10_goesBack_8 : decode cX10_goesBack 8 = .ok (.aload_n 0, 1) := by decide +kernel
theorem dX10_goesBack_9 : decode cX10_goesBack 9 = .ok (.getfield 9, 3) := by decide +kernel
theorem dX10_goesBack_12 : decode cX10_goesBack 12 = .ok (.iload_n 1, 1) := by decide +kernel
theorem dX10_goesBack_13 : decode cX10_goesBack 13 = .ok (.aload_n 0, 1) := by decide +kernel
theorem dX10_goesBack_14 : decode cX10_goesBack 14 = .ok (.getfield 18, 3) := by decide +kernel
theorem dX10_goesBack_17 : decode cX10_goesBack 17 = .ok (.iload_n 1, 1) := by decide +kernel
theorem dX10_goesBack_18 : decode cX10_goesBack 18 = .ok (.iaload, 1) := by decide +kernel
theorem dX10_goesBack_19 : decode cX10_goesBack 19 = .ok (.iastore, 1) := by decide +kernel
theorem dX10_goesBack_20 : decode cX10_goesBack 20 = .ok (.iinc 1 1, 3) := by decide +kernel
theorem dX10_goesBack_23 : decode cX10_goesBack 23 = .ok (.goto (-21), 3) := by decide +kernel
theorem dX10_goesBack_26 : decode cX10_goesBack 26 = .ok (.return_, 1) := by decide +kernel
set_option maxRecDepth 20000 in
theorem r_X10_goesBack : m_Right (yX10_goesBack, cX10_goesBack, 2, none) q_X10_goesBack := m_right_nd (m_right_nd (m_right_nd (m_right_nd (m_right_lf ⟨1, dX10_goesBack_0, rfl, rfl, by decide +kernel⟩) (m_right_lf ⟨1, dX10_goesBack_1, rfl, rfl, rfl⟩)) (m_right_nd (m_right_lf ⟨1, dX10_goesBack_2, rfl, rfl, rfl⟩) (m_right_lf ⟨2, dX10_goesBack_3, rfl, rfl, by decide +kernel⟩))) (m_right_nd (m_right_nd (m_right_lf ⟨3, dX10_goesBack_5, rfl, rfl, 26, rfl, by decide⟩) (m_right_lf ⟨1, dX10_goesBack_8, rfl, rfl, rfl⟩)) (m_right_nd (m_right_lf ⟨3, dX10_goesBack_9, rfl, rfl, 10, 1, rfl, Or.inl ⟨(RX10, TX10, 24), rfl, by decide, wd_867⟩⟩) (m_right_lf ⟨1, dX10_goesBack_12, rfl, rfl, rfl⟩)))) (m_right_nd (m_right_nd (m_right_nd (m_right_lf ⟨1, dX10_goesBack_13, rfl, rfl, rfl⟩) (m_right_lf ⟨3, dX10_goesBack_14, rfl, rfl, 10, 3, rfl, Or.inl ⟨(RX10, TX10, 24), rfl, by decide, wd_869⟩⟩)) (m_right_nd (m_right_lf ⟨1, dX10_goesBack_17, rfl, rfl, rfl⟩) (m_right_lf ⟨1, dX10_goesBack_18, rfl, rfl⟩))) (m_right_nd (m_right_nd (m_right_lf ⟨1, dX10_goesBack_19, rfl, rfl⟩) (m_right_lf ⟨3, dX10_goesBack_20, rfl, rfl, rfl, by decide +kernel⟩)) (m_right_nd (m_right_lf ⟨3, dX10_goesBack_23, rfl, 2, rfl, by decide⟩) (m_right_lf ⟨1, dX10_goesBack_26, rfl, rfl⟩))))
theorem dX10_feed_0 : decode cX10_feed 0 = .ok (.iload_n 1, 1) := by decide +kernel
theorem dX10_feed_1 : decode cX10_feed 1 = .ok (.iconst 0, 1) := by decide +kernel
theorem dX10_feed_2 : decode cX10_feed 2 = .ok (.bipush 127, 2) := by decide +kernel
theorem dX10_feed_4 : decode cX10_feed 4 = .ok (.invokestatic 48, 3) := by decide +kernel
theorem dX10_feed_7 : decode cX10_feed 7 = .ok (.ifCond .ne 6, 3) := by decide +kernel
theorem dX10_feed_10 : decode cX10_feed 10 = .ok (.bipush (-2), 2) := by decide +kernel
theorem dX10_feed_12 : decode cX10_feed 12 = .ok (.ireturn, 1) := by decide +kernel
theorem dX10_feed_13 : decode cX10_feed 13 = .ok (.aload_n 0, 1) := by decide +kernel
theorem dX10_feed_14 : decode cX10_feed 14 = .ok (.getfield 9, 3) := by decide +kernel
theorem dX10_feed_17 : decode cX10_feed 17 = .ok (.bipush 10, 2) := by decide +kernel
theorem dX10_feed_19 : decode cX10_feed 19 = .ok (.iaload, 1) := by decide +kernel
theorem dX10_feed_20 : decode cX10_feed 20 = .ok (.bipush 100, 2) := by decide +kernel
theorem dX10_feed_22 : decode cX10_feed 22 = .ok (.if_icmp .ne 6, 3) := by decide +kernel
theorem dX10_feed_25 : decode cX10_feed 25 = .ok (.bipush (-4), 2) := by decide +kernel
theorem dX10_feed_27 : decode cX10_feed 27 = .ok (.ireturn, 1) := by decide +kernel
theorem dX10_feed_28 : decode cX10_feed 28 = .ok (.aload_n 0, 1) := by decide +kernel
theorem dX10_feed_29 : decode cX10_feed 29 = .ok (.getfield 9, 3) := by decide +kernel
theorem dX10_feed_32 : decode cX10_feed 32 = .ok (.bipush 74, 2) := by decide +kernel
theorem dX10_feed_34 : decode cX10_feed 34 = .ok (.aload_n 0, 1) := by decide +kernel
theorem dX10_feed_35 : decode cX10_feed 35 = .ok (.getfield 9, 3) := by decide +kernel
theorem dX10_feed_38 : decode cX10_feed 38 = .ok (.bipush 10, 2) := by decide +kernel
theorem dX10_feed_40 : decode cX10_feed 40 = .ok (.iaload, 1) := by decide +kernel
theorem dX10_feed_41 : decode cX10_feed 41 = .ok (.iadd, 1) := by decide +kernel
theorem dX10_feed_42 : decode cX10_feed 42 = .ok (.iload_n 1, 1) := by decide +kernel
theorem dX10_feed_43 : decode cX10_feed 43 = .ok (.iastore, 1) := by decide +kernel
theorem dX10_feed_44 : decode cX10_feed 44 = .ok (.aload_n 0, 1) := by decide +kernel
theorem dX10_feed_45 : decode cX10_feed 45 = .ok (.getfield 9, 3) := by decide +kernel
theorem dX10_feed_48 : decode cX10_feed 48 = .ok (.bipush 10, 2) := by decide +kernel
theorem dX10_feed_50 : decode cX10_feed 50 = .ok (.dup2, 1) := by decide +kernel
theorem dX10_feed_51 : decode cX10_feed 51 = .ok (.iaload, 1) := by decide +kernel
theorem dX10_feed_52 : decode cX10_feed 52 = .ok (.iconst 1, 1) := by decide +kernel
theorem dX10_feed_53 : decode cX10_feed 53 = .ok (.iadd, 1) := by decide +kernel
theorem dX10_feed_54 : decode cX10_feed 54 = .ok (.iastore, 1) := by decide +kernel
theorem dX10_feed_55 : decode cX10_feed 55 = .ok (.aload_n 0, 1) := by decide +kernel
theorem dX10_feed_56 : decode cX10_feed 56 = .ok (.getfield 9, 3) := by decide +kernel
theorem dX10_feed_59 : decode cX10_feed 59 = .ok (.bipush 10, 2) := by decide +kernel
theorem dX10_feed_61 : decode cX10_feed 61 = .ok (.iaload, 1) := by decide +kernel
theorem dX10_feed_62 : decode cX10_feed 62 = .ok (.ireturn, 1) := by decide +kernel
set_option maxRecDepth 20000 in
theorem r_X10_feed : m_Right (yX10_feed, cX10_feed, 2, (some .int)) q_X10_feed := m_right_nd (m_right_nd (m_right_nd (m_right_nd (m_right_nd (m_right_lf ⟨1, dX10_feed_0, rfl, rfl, rfl⟩) (m_right_lf ⟨1, dX10_feed_1, rfl, rfl, by decide +kernel⟩)) (m_right_nd (m_right_lf ⟨2, dX10_feed_2, rfl, rfl, by decide +kernel⟩) (m_right_lf ⟨3, dX10_feed_4, rfl, rfl, Or.inr (Or.inr ⟨118, 3, (yX10_in, cX10_in, 3, (some .boolean)), rfl, me_X10_in, mc_X10_in, wd_943, wd_944, wd_71⟩)⟩))) (m_right_nd (m_right_nd (m_right_lf ⟨3, dX10_feed_7, rfl, rfl, 13, rfl, by decide⟩) (m_right_lf ⟨2, dX10_feed_10, rfl, rfl, by decide +kernel⟩)) (m_right_nd (m_right_lf ⟨1, dX10_feed_12, rfl, 0, .int, rfl, rfl, Or.inl ⟨rfl, rfl⟩⟩) (m_right_nd (m_right_lf ⟨1, dX10_feed_13, rfl, rfl, rfl⟩) (m_right_lf ⟨3, dX10_feed_14, rfl, rfl, 10, 1, rfl, Or.inl ⟨(RX10, TX10, 24), rfl, by decide, wd_867⟩⟩))))) (m_right_nd (m_right_nd (m_right_nd (m_right_lf ⟨2, dX10_feed_17, rfl, rfl, by decide +kernel⟩) (m_right_lf ⟨1, dX10_feed_19, rfl, rfl⟩)) (m_right_nd (m_right_lf ⟨2, dX10_feed_20, rfl, rfl, by decide +kernel⟩) (m_right_nd (m_right_lf ⟨3, dX10_feed_22, rfl, rfl, 28, rfl, by decide⟩) (m_right_lf ⟨2, dX10_feed_25, rfl, rfl, by decide +kernel⟩)))) (m_right_nd (m_right_nd (m_right_lf ⟨1, dX10_feed_27, rfl, 0, .int, rfl, rfl, Or.inl ⟨rfl, rfl⟩⟩) (m_right_lf ⟨1, dX10_feed_28, rfl, rfl, rfl⟩)) (m_right_nd (m_right_lf ⟨3, dX10_feed_29, rfl, rfl, 10, 1, rfl, Or.inl ⟨(RX10, TX10, 24), rfl, by decide, wd_867⟩⟩) (m_right_nd (m_right_lf ⟨2, dX10_feed_32, rfl, rfl, by decide +kernel⟩) (m_right_lf ⟨1, dX10_feed_34, rfl, rfl, rfl⟩)))))) (m_right_nd (m_right_nd (m_right_nd (m_right_nd (m_right_lf ⟨3, dX10_feed_35, rfl, rfl, 10, 1, rfl, Or.inl ⟨(RX10, TX10, 24), rfl, by decide, wd_867⟩⟩) (m_right_lf ⟨2, dX10_feed_38, rfl, rfl, by decide +kernel⟩)) (m_right_nd (m_right_lf ⟨1, dX10_feed_40, rfl, rfl⟩) (m_right_lf ⟨1, dX10_feed_41, rfl, rfl⟩))) (m_right_nd (m_right_nd (m_right_lf ⟨1, dX10_feed_42, rfl, rfl, rfl⟩) (m_right_lf ⟨1, dX10_feed_43, rfl, rfl⟩)) (m_right_nd (m_right_lf ⟨1, dX10_feed_44, rfl, rfl, rfl⟩) (m_right_nd (m_right_lf ⟨3, dX10_feed_45, rfl, rfl, 10, 1, rfl, Or.inl ⟨(RX10, TX10, 24), rfl, by decide, wd_867⟩⟩) (m_right_lf ⟨2, dX10_feed_48, rfl, rfl, by decide +kernel⟩))))) (m_right_nd (m_right_nd (m_right_nd (m_right_lf ⟨1, dX10_feed_50, rfl, rfl⟩) (m_right_lf ⟨1, dX10_feed_51, rfl, rfl⟩)) (m_right_nd (m_right_lf ⟨1, dX10_feed_52, rfl, rfl, by decide +kernel⟩) (m_right_nd (m_right_lf ⟨1, dX10_feed_53, rfl, rfl⟩) (m_right_lf ⟨1, dX10_feed_54, rfl, rfl⟩)))) (m_right_nd (m_right_nd (m_right_lf ⟨1, dX10_feed_55, rfl, rfl, rfl⟩) (m_right_lf ⟨3, dX10_feed_56, rfl, rfl, 10, 1, rfl, Or.inl ⟨(RX10, TX10, 24), rfl, by decide, wd_867⟩⟩)) (m_right_nd (m_right_lf ⟨2, dX10_feed_59, rfl, rfl, by decide +kernel⟩) (m_right_nd (m_right_lf ⟨1, dX10_feed_61, rfl, rfl⟩) (m_right_lf ⟨1, dX10_feed_62, rfl, 0, .int, rfl, rfl, Or.inl ⟨rfl, rfl⟩⟩))))))
theorem dX10_here_0 : decode cX10_here 0 = .ok (.aload_n 0, 1) := by decide +kernel
theorem dX10_here_1 : decode cX10_here 1 = .ok (.getfield 56, 3) := by decide +kernel
theorem dX10_here_4 : decode cX10_here 4 = .ok (.aload_n 0, 1) := by decide +kernel
theorem dX10_here_5 : decode cX10_here 5 = .ok (.getfield 59, 3) := by decide +kernel
theorem dX10_here_8 : decode cX10_here 8 = .ok (.if_icmp .ge 18, 3) := by decide +kernel
theorem dX10_here_11 : decode cX10_here 11 = .ok (.aload_n 0, 1) := by decide +kernel
theorem dX10_here_12 : decode cX10_here 12 = .ok (.getfield 9, 3) := by decide +kernel
theorem dX10_here_15 : decode cX10_here 15 = .ok (.bipush 74, 2) := by decide +kernel
theorem dX10_here_17 : decode cX10_here 17 = .ok (.aload_n 0, 1) := by decide +kernel
theorem dX10_here_18 : decode cX10_here 18 = .ok (.getfield 56, 3) := by decide +kernel
theorem dX10_here_21 : decode cX10_here 21 = .ok (.iadd, 1) := by decide +kernel
theorem dX10_here_22 : decode cX10_here 22 = .ok (.iaload, 1) := by decide +kernel
theorem dX10_here_23 : decode cX10_here 23 = .ok (.goto 4, 3) := by decide +kernel
theorem dX10_here_26 : decode cX10_here 26 = .ok (.iconst (-1), 1) := by decide +kernel
theorem dX10_here_27 : decode cX10_here 27 = .ok (.ireturn, 1) := by decide +kernel
set_option maxRecDepth 20000 in
theorem r_X10_here : m_Right (yX10_here, cX10_here, 1, (some .int)) q_X10_here := m_right_nd (m_right_nd (m_right_nd (m_right_lf ⟨1, dX10_here_0, rfl, rfl, rfl⟩) (m_right_nd (m_right_lf ⟨3, dX10_here_1, rfl, rfl, 10, 6, rfl, Or.inl ⟨(RX10, TX10, 24), rfl, by decide, wd_872⟩⟩) (m_right_lf ⟨1, dX10_here_4, rfl, rfl, rfl⟩))) (m_right_nd (m_right_nd (m_right_lf ⟨3, dX10_here_5, rfl, rfl, 10, 7, rfl, Or.inl ⟨(RX10, TX10, 24), rfl, by decide, wd_873⟩⟩) (m_right_lf ⟨3, dX10_here_8, rfl, rfl, 26, rfl, by decide⟩)) (m_right_nd (m_right_lf ⟨1, dX10_here_11, rfl, rfl, rfl⟩) (m_right_lf ⟨3, dX10_here_12, rfl, rfl, 10, 1, rfl, Or.inl ⟨(RX10, TX10, 24), rfl, by decide, wd_867⟩⟩)))) (m_right_nd (m_right_nd (m_right_nd (m_right_lf ⟨2, dX10_here_15, rfl, rfl, by decide +kernel⟩) (m_right_lf ⟨1, dX10_here_17, rfl, rfl, rfl⟩)) (m_right_nd (m_right_lf ⟨3, dX10_here_18, rfl, rfl, 10, 6, rfl, Or.inl ⟨(RX10, TX10, 24), rfl, by decide, wd_872⟩⟩) (m_right_lf ⟨1, dX10_here_21, rfl, rfl⟩))) (m_right_nd (m_right_nd (m_right_lf ⟨1, dX10_here_22, rfl, rfl⟩) (m_right_lf ⟨3, dX10_here_23, rfl, 27, rfl, by decide⟩)) (m_right_nd (m_right_lf ⟨1, dX10_here_26, rfl, rfl, by decide +kernel⟩) (m_right_lf ⟨1, dX10_here_27, rfl, 0, .int, rfl, rfl, Or.inl ⟨rfl, rfl⟩⟩))))
theorem dX10_must_0 : decode cX10_must 0 = .ok (.aload_n 0, 1) := by decide +kernel
theorem dX10_must_1 : decode cX10_must 1 = .ok (.aload_n 0, 1) := by decide +kernel
theorem dX10_must_2 : decode cX10_must 2 = .ok (.getfield 62, 3) := by decide +kernel
theorem dX10_must_5 : decode cX10_must 5 = .ok (.ifCond .ne 11, 3) := by decide +kernel
theorem dX10_must_8 : decode cX10_must 8 = .ok (.aload_n 0, 1) := by decide +kernel
theorem dX10_must_9 : decode cX10_must 9 = .ok (.invokevirtual 66, 3) := by decide +kernel
theorem dX10_must_12 : decode cX10_must 12 = .ok (.iload_n 1, 1) := by decide +kernel
theorem dX10_must_13 : decode cX10_must 13 = .ok (.if_icmp .eq 7, 3) := by decide +kernel
theorem dX10_must_16 : decode cX10_must 16 = .ok (.iconst 1, 1) := by decide +kernel
theorem dX10_must_17 : decode cX10_must 17 = .ok (.goto 4, 3) := by decide +kernel
theorem dX10_must_20 : decode cX10_must 20 = .ok (.iconst 0, 1) := by decide +kernel
theorem dX10_must_21 : decode cX10_must 21 = .ok (.putfield 62, 3) := by decide +kernel
theorem dX10_must_24 : decode cX10_must 24 = .ok (.aload_n 0, 1) := by decide +kernel
theorem dX10_must_25 : decode cX10_must 25 = .ok (.dup, 1) := by decide +kernel
theorem dX10_must_26 : decode cX10_must 26 = .ok (.getfield 56, 3) := by decide +kernel
theorem dX10_must_29 : decode cX10_must 29 = .ok (.aload_n 0, 1) := by decide +kernel
theorem dX10_must_30 : decode cX10_must 30 = .ok (.getfield 62, 3) := by decide +kernel
theorem dX10_must_33 : decode cX10_must 33 = .ok (.ifCond .eq 7, 3) := by decide +kernel
theorem dX10_must_36 : decode cX10_must 36 = .ok (.iconst 0, 1) := by decide +kernel
theorem dX10_must_37 : decode cX10_must 37 = .ok (.goto 4, 3) := by decide +kernel
theorem dX10_must_40 : decode cX10_must 40 = .ok (.iconst 1, 1) := by decide +kernel
theorem dX10_must_41 : decode cX10_must 41 = .ok (.iadd, 1) := by decide +kernel
theorem dX10_must_42 : decode cX10_must 42 = .ok (.putfield 56, 3) := by decide +kernel
theorem dX10_must_45 : decode cX10_must 45 = .ok (.return_, 1) := by decide +kernel
set_option maxRecDepth 20000 in
theorem r_X10_must : m_Right (yX10_must, cX10_must, 2, none) q_X10_must := m_right_nd (m_right_nd (m_right_nd (m_right_nd (m_right_lf ⟨1, dX10_must_0, rfl, rfl, rfl⟩) (m_right_nd (m_right_lf ⟨1, dX10_must_1, rfl, rfl, rfl⟩) (m_right_lf ⟨3, dX10_must_2, rfl, rfl, 10, 8, rfl, Or.inl ⟨(RX10, TX10, 24), rfl, by decide, wd_874⟩⟩))) (m_right_nd (m_right_lf ⟨3, dX10_must_5, rfl, rfl, 16, rfl, by decide⟩) (m_right_nd (m_right_lf ⟨1, dX10_must_8, rfl, rfl, rfl⟩) (m_right_lf ⟨3, dX10_must_9, rfl, rfl, 124, 0, 10, (yX10_here, cX10_here, 1, (some .int)), rfl, me_X10_here, mc_X10_here, Or.inl ⟨(RX10, TX10, 24), rfl, rfl⟩, wd_954, wd_956, wd_19, wd_71⟩)))) (m_right_nd (m_right_nd (m_right_lf ⟨1, dX10_must_12, rfl, rfl, rfl⟩) (m_right_nd (m_right_lf ⟨3, dX10_must_13, rfl, rfl, 20, rfl, by decide⟩) (m_right_lf ⟨1, dX10_must_16, rfl, rfl, by decide +kernel⟩))) (m_right_nd (m_right_lf ⟨3, dX10_must_17, rfl, 21, rfl, by decide⟩) (m_right_nd (m_right_lf ⟨1, dX10_must_20, rfl, rfl, by decide +kernel⟩) (m_right_lf ⟨3, dX10_must_21, rfl, rfl, 10, 8, 2, (RX10, TX10, 24), rfl, rfl, by decide, wd_874, Or.inl rfl, tyX10 8, tyX10_ok 8 (by decide), Or.inr (Or.inr (Or.inl ⟨rfl, rfl⟩))⟩))))) (m_right_nd (m_right_nd (m_right_nd (m_right_lf ⟨1, dX10_must_24, rfl, rfl, rfl⟩) (m_right_nd (m_right_lf ⟨1, dX10_must_25, rfl, rfl⟩) (m_right_lf ⟨3, dX10_must_26, rfl, rfl, 10, 6, rfl, Or.inl ⟨(RX10, TX10, 24), rfl, by decide, wd_872⟩⟩))) (m_right_nd (m_right_lf ⟨1, dX10_must_29, rfl, rfl, rfl⟩) (m_right_nd (m_right_lf ⟨3, dX10_must_30, rfl, rfl, 10, 8, rfl, Or.inl ⟨(RX10, TX10, 24), rfl, by decide, wd_874⟩⟩) (m_right_lf ⟨3, dX10_must_33, rfl, rfl, 40, rfl, by decide⟩)))) (m_right_nd (m_right_nd (m_right_lf ⟨1, dX10_must_36, rfl, rfl, by decide +kernel⟩) (m_right_nd (m_right_lf ⟨3, dX10_must_37, rfl, 41, rfl, by decide⟩) (m_right_lf ⟨1, dX10_must_40, rfl, rfl, by decide +kernel⟩))) (m_right_nd (m_right_lf ⟨1, dX10_must_41, rfl, rfl⟩) (m_right_nd (m_right_lf ⟨3, dX10_must_42, rfl, rfl, 10, 6, 0, (RX10, TX10, 24), rfl, rfl, by decide, wd_872, Or.inl rfl, tyX10 6, tyX10_ok 6 (by decide), Or.inl ⟨rfl, rfl⟩⟩) (m_right_lf ⟨1, dX10_must_45, rfl, rfl⟩)))))
theorem dX10_spells_0 : decode cX10_spells 0 = .ok (.iconst 0, 1) := by decide +kernel
theorem dX10_spells_1 : decode cX10_spells 1 = .ok (.istore_n 2, 1) := by decide +kernel
theorem dX10_spells_2 : decode cX10_spells 2 = .ok (.iload_n 2, 1) := by decide +kernel
theorem dX10_spells_3 : decode cX10_spells 3 = .ok (.aload_n 1, 1) := by decide +kernel
theorem dX10_spells_4 : decode cX10_spells 4 = .ok (.invokevirtual 70, 3) := by decide +kernel
theorem dX10_spells_7 : decode cX10_spells 7 = .ok (.if_icmp .ge 18, 3) := by decide +kernel
theorem dX10_spells_10 : decode cX10_spells 10 = .ok (.aload_n 0, 1) := by decide +kernel
theorem dX10_spells_11 : decode cX10_spells 11 = .ok (.aload_n 1, 1) := by decide +kernel
theorem dX10_spells_12 : decode cX10_spells 12 = .ok (.iload_n 2, 1) := by decide +kernel
theorem dX10_spells_13 : decode cX10_spells 13 = .ok (.invokevirtual 75, 3) := by decide +kernel
theorem dX10_spells_16 : decode cX10_spells 16 = .ok (.invokevirtual 79, 3) := by decide +kernel
theorem dX10_spells_19 : decode cX10_spells 19 = .ok (.iinc 2 1, 3) := by decide +kernel
theorem dX10_spells_22 : decode cX10_spells 22 = .ok (.goto (-20), 3) := by decide +kernel
theorem dX10_spells_25 : decode cX10_spells 25 = .ok (.return_, 1) := by decide +kernel
set_option maxRecDepth 20000 in
theorem r_X10_spells : m_Right (yX10_spells, cX10_spells, 3, none) q_X10_spells := m_right_nd (m_right_nd (m_right_nd (m_right_lf ⟨1, dX10_spells_0, rfl, rfl, by decide +kernel⟩) (m_right_nd (m_right_lf ⟨1, dX10_spells_1, rfl, rfl, rfl⟩) (m_right_lf ⟨1, dX10_spells_2, rfl, rfl, rfl⟩))) (m_right_nd (m_right_nd (m_right_lf ⟨1, dX10_spells_3, rfl, rfl, rfl⟩) (m_right_lf ⟨3, dX10_spells_4, rfl, rfl, 198, 0, 11, (yJ0_length_8abf5, cJ0_length_8abf5, 1, (some .int)), rfl, me_J0_length_8abf5, mc_J0_length_8abf5, Or.inr ⟨rfl, rfl⟩, wd_975, wd_976, wd_977, wd_75⟩)) (m_right_nd (m_right_lf ⟨3, dX10_spells_7, rfl, rfl, 25, rfl, by decide⟩) (m_right_lf ⟨1, dX10_spells_10, rfl, rfl, rfl⟩)))) (m_right_nd (m_right_nd (m_right_lf ⟨1, dX10_spells_11, rfl, rfl, rfl⟩) (m_right_nd (m_right_lf ⟨1, dX10_spells_12, rfl, rfl, rfl⟩) (m_right_lf ⟨3, dX10_spells_13, rfl, rfl, 199, 1, 11, (yJ0_charAt_5068e, cJ0_charAt_5068e, 2, (some .char)), rfl, me_J0_charAt_5068e, mc_J0_charAt_5068e, Or.inr ⟨rfl, rfl⟩, wd_985, wd_986, wd_987, wd_75⟩))) (m_right_nd (m_right_nd (m_right_lf ⟨3, dX10_spells_16, rfl, rfl, 125, 1, 10, (yX10_must, cX10_must, 2, none), rfl, me_X10_must, mc_X10_must, Or.inl ⟨(RX10, TX10, 24), rfl, rfl⟩, wd_962, wd_964, wd_21, wd_71⟩) (m_right_lf ⟨3, dX10_spells_19, rfl, rfl, rfl, by decide +kernel⟩)) (m_right_nd (m_right_lf ⟨3, dX10_spells_22, rfl, 2, rfl, by decide⟩) (m_right_lf ⟨1, dX10_spells_25, rfl, rfl⟩))))
theorem dX10_figures_0 : decode cX10_figures 0 = .ok (.aload_n 0, 1) := by decide +kernel
theorem dX10_figures_1 : decode cX10_figures 1 = .ok (.aload_n 0, 1) := by decide +kernel
theorem dX10_figures_2 : decode cX10_figures 2 = .ok (.getfield 62, 3) := by decide +kernel
theorem dX10_figures_5 : decode cX10_figures 5 = .ok (.ifCond .ne 17, 3) := by decide +kernel
theorem dX10_figures_8 : decode cX10_figures 8 = .ok (.aload_n 0, 1) := by decide +kernel
theorem dX10_figures_9 : decode cX10_figures 9 = .ok (.invokevirtual 66, 3) := by decide +kernel
theorem dX10_figures_12 : decode cX10_figures 12 = .ok (.bipush 48, 2) := by decide +kernel
theorem dX10_figures_14 : decode cX10_figures 14 = .ok (.bipush 57, 2) := by decide +kernel
theorem dX10_figures_16 : decode cX10_figures 16 = .ok (.invokestatic 48, 3) := by decide +kernel
theorem dX10_figures_19 : decode cX10_figures 19 = .ok (.ifCond .ne 7, 3) := by decide +kernel
theorem dX10_figures_22 : decode cX10_figures 22 = .ok (.iconst 1, 1) := by decide +kernel
theorem dX10_figures_23 : decode cX10_figures 23 = .ok (.goto 4, 3) := by decide +kernel
theorem dX10_figures_26 : decode cX10_figures 26 = .ok (.iconst 0, 1) := by decide +kernel
theorem dX10_figures_27 : decode cX10_figures 27 = .ok (.putfield 62, 3) := by decide +kernel
theorem dX10_figures_30 : decode cX10_figures 30 = .ok (.iconst 0, 1) := by decide +kernel
theorem dX10_figures_31 : decode cX10_figures 31 = .ok (.istore_n 1, 1) := by decide +kernel
theorem dX10_figures_32 : decode cX10_figures 32 = .ok (.iconst 0, 1) := by decide +kernel
theorem dX10_figures_33 : decode cX10_figures 33 = .ok (.istore_n 2, 1) := by decide +kernel
theorem dX10_figures_34 : decode cX10_figures 34 = .ok (.iload_n 2, 1) := by decide +kernel
theorem dX10_figures_35 : decode cX10_figures 35 = .ok (.iconst 2, 1) := by decide +kernel
theorem dX10_figures_36 : decode cX10_figures 36 = .ok (.if_icmp .ge 61, 3) := by decide +kernel
theorem dX10_figures_39 : decode cX10_figures 39 = .ok (.aload_n 0, 1) := by decide +kernel
theorem dX10_figures_40 : decode cX10_figures 40 = .ok (.getfield 62, 3) := by decide +kernel
theorem dX10_figures_43 : decode cX10_figures 43 = .ok (.ifCond .ne 54, 3) := by decide +kernel
theorem dX10_figures_46 : decode cX10_figures 46 = .ok (.aload_n 0, 1) := by decide +kernel
theorem dX10_figures_47 : decode cX10_figures 47 = .ok (.invokevirtual 66, 3) := by decide +kernel
theorem dX10_figures_50 : decode cX10_figures 50 = .ok (.bipush 48, 2) := by decide +kernel
theorem dX10_figures_52 : decode cX10_figures 52 = .ok (.bipush 57, 2) := by decide +kernel
theorem dX10_figures_54 : decode cX10_figures 54 = .ok (.invokestatic 48, 3) := by decide +kernel
theorem dX10_figures_57 : decode cX10_figures 57 = .ok (.ifCond .eq 40, 3) := by decide +kernel
theorem dX10_figures_60 : decode cX10_figures 60 = .ok (.iload_n 2, 1) := by decide +kernel
theorem dX10_figures_61 : decode cX10_figures 61 = .ok (.ifCond .eq 7, 3) := by decide +kernel
theorem dX10_figures_64 : decode cX10_figures 64 = .ok (.iload_n 1, 1) := by decide +kernel
theorem dX10_figures_65 : decode cX10_figures 65 = .ok (.ifCond .le 32, 3) := by decide +kernel
theorem dX10_figures_68 : decode cX10_figures 68 = .ok (.bipush 10, 2) := by decide +kernel
theorem dX10_figures_70 : decode cX10_figures 70 = .ok (.iload_n 1, 1) := by decide +kernel
theorem dX10_figures_71 : decode cX10_figures 71 = .ok (.imul, 1) := by decide +kernel
theorem dX10_figures_72 : decode cX10_figures 72 = .ok (.aload_n 0, 1) := by decide +kernel
theorem dX10_figures_73 : decode cX10_figures 73 = .ok (.invokevirtual 66, 3) := by decide +kernel
theorem dX10_figures_76 : decode cX10_figures 76 = .ok (.iadd, 1) := by decide +kernel
theorem dX10_figures_77 : decode cX10_figures 77 = .ok (.bipush 48, 2) := by decide +kernel
theorem dX10_figures_79 : decode cX10_figures 79 = .ok (.isub, 1) := by decide +kernel
theorem dX10_figures_80 : decode cX10_figures 80 = .ok (.istore_n 1, 1) := by decide +kernel
theorem dX10_figures_81 : decode cX10_figures 81 = .ok (.aload_n 0, 1) := by decide +kernel
theorem dX10_figures_82 : decode cX10_figures 82 = .ok (.dup, 1) := by decide +kernel
theorem dX10_figures_83 : decode cX10_figures 83 = .ok (.getfield 56, 3) := by decide +kernel
theorem dX10_figures_86 : decode cX10_figures 86 = .ok (.iconst 1, 1) := by decide +kernel
theorem dX10_figures_87 : decode cX10_figures 87 = .ok (.iadd, 1) := by decide +kernel
theorem dX10_figures_88 : decode cX10_figures 88 = .ok (.putfield 56, 3) := by decide +kernel
theorem dX10_figures_91 : decode cX10_figures 91 = .ok (.iinc 2 1, 3) := by decide +kernel
theorem dX10_figures_94 : decode cX10_figures 94 = .ok (.goto (-60), 3) := by decide +kernel
theorem dX10_figures_97 : decode cX10_figures 97 = .ok (.iload_n 1, 1) := by decide +kernel
theorem dX10_figures_98 : decode cX10_figures 98 = .ok (.ireturn, 1) := by decide +kernel
set_option maxRecDepth 20000 in
theorem r_X10_figures : m_Right (yX10_figures, cX10_figures, 3, (some .int)) q_X10_figures := m_right_nd (m_right_nd (m_right_nd (m_right_nd (m_right_nd (m_right_lf ⟨1, dX10_figures_0, rfl, rfl, rfl⟩) (m_right_nd (m_right_lf ⟨1, dX10_figures_1, rfl, rfl, rfl⟩) (m_right_lf ⟨3, dX10_figures_2, rfl, rfl, 10, 8, rfl, Or.inl ⟨(RX10, TX10, 24), rfl, by decide, wd_874⟩⟩))) (m_right_nd (m_right_lf ⟨3, dX10_figures_5, rfl, rfl, 22, rfl, by decide⟩) (m_right_nd (m_right_lf ⟨1, dX10_figures_8, rfl, rfl, rfl⟩) (m_right_lf ⟨3, dX10_figures_9, rfl, rfl, 124, 0, 10, (yX10_here, cX10_here, 1, (some .int)), rfl, me_X10_here, mc_X10_here, Or.inl ⟨(RX10, TX10, 24), rfl, rfl⟩, wd_954, wd_956, wd_19, wd_71⟩)))) (m_right_nd (m_right_nd (m_right_lf ⟨2, dX10_figures_12, rfl, rfl, by decide +kernel⟩) (m_right_nd (m_right_lf ⟨2, dX10_figures_14, rfl, rfl, by decide +kernel⟩) (m_right_lf ⟨3, dX10_figures_16, rfl, rfl, Or.inr (Or.inr ⟨118, 3, (yX10_in, cX10_in, 3, (some .boolean)), rfl, me_X10_in, mc_X10_in, wd_943, wd_944, wd_71⟩)⟩))) (m_right_nd (m_right_nd (m_right_lf ⟨3, dX10_figures_19, rfl, rfl, 26, rfl, by decide⟩) (m_right_lf ⟨1, dX10_figures_22, rfl, rfl, by decide +kernel⟩)) (m_right_nd (m_right_lf ⟨3, dX10_figures_23, rfl, 27, rfl, by decide⟩) (m_right_lf ⟨1, dX10_figures_26, rfl, rfl, by decide +kernel⟩))))) (m_right_nd (m_right_nd (m_right_nd (m_right_lf ⟨3, dX10_figures_27, rfl, rfl, 10, 8, 2, (RX10, TX10, 24), rfl, rfl, by decide, wd_874, Or.inl rfl, tyX10 8, tyX10_ok 8 (by decide), Or.inr (Or.inr (Or.inl ⟨rfl, rfl⟩))⟩) (m_right_nd (m_right_lf ⟨1, dX10_figures_30, rfl, rfl, by decide +kernel⟩) (m_right_lf ⟨1, dX10_figures_31, rfl, rfl, rfl⟩))) (m_right_nd (m_right_lf ⟨1, dX10_figures_32, rfl, rfl, by decide +kernel⟩) (m_right_nd (m_right_lf ⟨1, dX10_figures_33, rfl, rfl, rfl⟩) (m_right_lf ⟨1, dX10_figures_34, rfl, rfl, rfl⟩)))) (m_right_nd (m_right_nd (m_right_lf ⟨1, dX10_figures_35, rfl, rfl, by decide +kernel⟩) (m_right_nd (m_right_lf ⟨3, dX10_figures_36, rfl, rfl, 97, rfl, by decide⟩) (m_right_lf ⟨1, dX10_figures_39, rfl, rfl, rfl⟩))) (m_right_nd (m_right_nd (m_right_lf ⟨3, dX10_figures_40, rfl, rfl, 10, 8, rfl, Or.inl ⟨(RX10, TX10, 24), rfl, by decide, wd_874⟩⟩) (m_right_lf ⟨3, dX10_figures_43, rfl, rfl, 97, rfl, by decide⟩)) (m_right_nd (m_right_lf ⟨1, dX10_figures_46, rfl, rfl, rfl⟩) (m_right_lf ⟨3, dX10_figures_47, rfl, rfl, 124, 0, 10, (yX10_here, cX10_here, 1, (some .int)), rfl, me_X10_here, mc_X10_here, Or.inl ⟨(RX10, TX10, 24), rfl, rfl⟩, wd_954, wd_956, wd_19, wd_71⟩)))))) (m_right_nd (m_right_nd (m_right_nd (m_right_nd (m_right_lf ⟨2, dX10_figures_50, rfl, rfl, by decide +kernel⟩) (m_right_nd (m_right_lf ⟨2, dX10_figures_52, rfl, rfl, by decide +kernel⟩) (m_right_lf ⟨3, dX10_figures_54, rfl, rfl, Or.inr (Or.inr ⟨118, 3, (yX10_in, cX10_in, 3, (some .boolean)), rfl, me_X10_in, mc_X10_in, wd_943, wd_944, wd_71⟩)⟩))) (m_right_nd (m_right_lf ⟨3, dX10_figures_57, rfl, rfl, 97, rfl, by decide⟩) (m_right_nd (m_right_lf ⟨1, dX10_figures_60, rfl, rfl, rfl⟩) (m_right_lf ⟨3, dX10_figures_61, rfl, rfl, 68, rfl, by decide⟩)))) (m_right_nd (m_right_nd (m_right_lf ⟨1, dX10_figures_64, rfl, rfl, rfl⟩) (m_right_nd (m_right_lf ⟨3, dX10_figures_65, rfl, rfl, 97, rfl, by decide⟩) (m_right_lf ⟨2, dX10_figures_68, rfl, rfl, by decide +kernel⟩))) (m_right_nd (m_right_nd (m_right_lf ⟨1, dX10_figures_70, rfl, rfl, rfl⟩) (m_right_lf ⟨1, dX10_figures_71, rfl, rfl⟩)) (m_right_nd (m_right_lf ⟨1, dX10_figures_72, rfl, rfl, rfl⟩) (m_right_lf ⟨3, dX10_figures_73, rfl, rfl, 124, 0, 10, (yX10_here, cX10_here, 1, (some .int)), rfl, me_X10_here, mc_X10_here, Or.inl ⟨(RX10, TX10, 24), rfl, rfl⟩, wd_954, wd_956, wd_19, wd_71⟩))))) (m_right_nd (m_right_nd (m_right_nd (m_right_lf ⟨1, dX10_figures_76, rfl, rfl⟩) (m_right_nd (m_right_lf ⟨2, dX10_figures_77, rfl, rfl, by decide +kernel⟩) (m_right_lf ⟨1, dX10_figures_79, rfl, rfl⟩))) (m_right_nd (m_right_nd (m_right_lf ⟨1, dX10_figures_80, rfl, rfl, rfl⟩) (m_right_lf ⟨1, dX10_figures_81, rfl, rfl, rfl⟩)) (m_right_nd (m_right_lf ⟨1, dX10_figures_82, rfl, rfl⟩) (m_right_lf ⟨3, dX10_figures_83, rfl, rfl, 10, 6, rfl, Or.inl ⟨(RX10, TX10, 24), rfl, by decide, wd_872⟩⟩)))) (m_right_nd (m_right_nd (m_right_lf ⟨1, dX10_figures_86, rfl, rfl, by decide +kernel⟩) (m_right_nd (m_right_lf ⟨1, dX10_figures_87, rfl, rfl⟩) (m_right_lf ⟨3, dX10_figures_88, rfl, rfl, 10, 6, 0, (RX10, TX10, 24), rfl, rfl, by decide, wd_872, Or.inl rfl, tyX10 6, tyX10_ok 6 (by decide), Or.inl ⟨rfl, rfl⟩⟩))) (m_right_nd (m_right_nd (m_right_lf ⟨3, dX10_figures_91, rfl, rfl, rfl, by decide +kernel⟩) (m_right_lf ⟨3, dX10_figures_94, rfl, 34, rfl, by decide⟩)) (m_right_nd (m_right_lf ⟨1, dX10_figures_97, rfl, rfl, rfl⟩) (m_right_lf ⟨1, dX10_figures_98, rfl, 0, .int, rfl, rfl, Or.inl ⟨rfl, rfl⟩⟩))))))
theorem dX10_among_0 : decode cX10_among 0 = .ok (.iconst 0, 1) := by decide +kernel
theorem dX10_among_1 : decode cX10_among 1 = .ok (.istore_n 2, 1) := by decide +kernel
theorem dX10_among_2 : decode cX10_among 2 = .ok (.iload_n 2, 1) := by decide +kernel
theorem dX10_among_3 : decode cX10_among 3 = .ok (.aload_n 1, 1) := by decide +kernel
theorem dX10_among_4 : decode cX10_among 4 = .ok (.invokevirtual 70, 3) := by decide +kernel
theorem dX10_among_7 : decode cX10_among 7 = .ok (.if_icmp .ge 33, 3) := by decide +kernel
theorem dX10_among_10 : decode cX10_among 10 = .ok (.aload_n 0, 1) := by decide +kernel
theorem dX10_among_11 : decode cX10_among 11 = .ok (.invokevirtual 66, 3) := by decide +kernel
theorem dX10_among_14 : decode cX10_among 14 = .ok (.aload_n 1, 1) := by decide +kernel
theorem dX10_among_15 : decode cX10_among 15 = .ok (.iload_n 2, 1) := by decide +kernel
theorem dX10_among_16 : decode cX10_among 16 = .ok (.invokevirtual 75, 3) := by decide +kernel
theorem dX10_among_19 : decode cX10_among 19 = .ok (.if_icmp .ne 15, 3) := by decide +kernel
theorem dX10_among_22 : decode cX10_among 22 = .ok (.aload_n 0, 1) := by decide +kernel
theorem dX10_among_23 : decode cX10_among 23 = .ok (.dup, 1) := by decide +kernel
theorem dX10_among_24 : decode cX10_among 24 = .ok (.getfield 56, 3) := by decide +kernel
theorem dX10_among_27 : decode cX10_among 27 = .ok (.iconst 1, 1) := by decide +kernel
theorem dX10_among_28 : decode cX10_among 28 = .ok (.iadd, 1) := by decide +kernel
theorem dX10_among_29 : decode cX10_among 29 = .ok (.putfield 56, 3) := by decide +kernel
theorem dX10_among_32 : decode cX10_among 32 = .ok (.iload_n 2, 1) := by decide +kernel
theorem dX10_among_33 : decode cX10_among 33 = .ok (.ireturn, 1) := by decide +kernel
theorem dX10_among_34 : decode cX10_among 34 = .ok (.iinc 2 1, 3) := by decide +kernel
theorem dX10_among_37 : decode cX10_among 37 = .ok (.goto (-35), 3) := by decide +kernel
theorem dX10_among_40 : decode cX10_among 40 = .ok (.iconst (-1), 1) := by decide +kernel
theorem dX10_among_41 : decode cX10_among 41 = .ok (.ireturn, 1) := by decide +kernel
set_option maxRecDepth 20000 in
theorem r_X10_among : m_Right (yX10_among, cX10_among, 3, (some .int)) q_X10_among := m_right_nd (m_right_nd (m_right_nd (m_right_nd (m_right_lf ⟨1, dX10_among_0, rfl, rfl, by decide +kernel⟩) (m_right_nd (m_right_lf ⟨1, dX10_among_1, rfl, rfl, rfl⟩) (m_right_lf ⟨1, dX10_among_2, rfl, rfl, rfl⟩))) (m_right_nd (m_right_lf ⟨1, dX10_among_3, rfl, rfl, rfl⟩) (m_right_nd (m_right_lf ⟨3, dX10_among_4, rfl, rfl, 198, 0, 11, (yJ0_length_8abf5, cJ0_length_8abf5, 1, (some .int)), rfl, me_J0_length_8abf5, mc_J0_length_8abf5, Or.inr ⟨rfl, rfl⟩, wd_975, wd_976, wd_977, wd_75⟩) (m_right_lf ⟨3, dX10_among_7, rfl, rfl, 40, rfl, by decide⟩)))) (m_right_nd (m_right_nd (m_right_lf ⟨1, dX10_among_10, rfl, rfl, rfl⟩) (m_right_nd (m_right_lf ⟨3, dX10_among_11, rfl, rfl, 124, 0, 10, (yX10_here, cX10_here, 1, (some .int)), rfl, me_X10_here, mc_X10_here, Or.inl ⟨(RX10, TX10, 24), rfl, rfl⟩, wd_954, wd_956, wd_19, wd_71⟩) (m_right_lf ⟨1, dX10_among_14, rfl, rfl, rfl⟩))) (m_right_nd (m_right_lf ⟨1, dX10_among_15, rfl, rfl, rfl⟩) (m_right_nd (m_right_lf ⟨3, dX10_among_16, rfl, rfl, 199, 1, 11, (yJ0_charAt_5068e, cJ0_charAt_5068e, 2, (some .char)), rfl, me_J0_charAt_5068e, mc_J0_charAt_5068e, Or.inr ⟨rfl, rfl⟩, wd_985, wd_986, wd_987, wd_75⟩) (m_right_lf ⟨3, dX10_among_19, rfl, rfl, 34, rfl, by decide⟩))))) (m_right_nd (m_right_nd (m_right_nd (m_right_lf ⟨1, dX10_among_22, rfl, rfl, rfl⟩) (m_right_nd (m_right_lf ⟨1, dX10_among_23, rfl, rfl⟩) (m_right_lf ⟨3, dX10_among_24, rfl, rfl, 10, 6, rfl, Or.inl ⟨(RX10, TX10, 24), rfl, by decide, wd_872⟩⟩))) (m_right_nd (m_right_lf ⟨1, dX10_among_27, rfl, rfl, by decide +kernel⟩) (m_right_nd (m_right_lf ⟨1, dX10_among_28, rfl, rfl⟩) (m_right_lf ⟨3, dX10_among_29, rfl, rfl, 10, 6, 0, (RX10, TX10, 24), rfl, rfl, by decide, wd_872, Or.inl rfl, tyX10 6, tyX10_ok 6 (by decide), Or.inl ⟨rfl, rfl⟩⟩)))) (m_right_nd (m_right_nd (m_right_lf ⟨1, dX10_among_32, rfl, rfl, rfl⟩) (m_right_nd (m_right_lf ⟨1, dX10_among_33, rfl, 0, .int, rfl, rfl, Or.inl ⟨rfl, rfl⟩⟩) (m_right_lf ⟨3, dX10_among_34, rfl, rfl, rfl, by decide +kernel⟩))) (m_right_nd (m_right_lf ⟨3, dX10_among_37, rfl, 2, rfl, by decide⟩) (m_right_nd (m_right_lf ⟨1, dX10_among_40, rfl, rfl, by decide +kernel⟩) (m_right_lf ⟨1, dX10_among_41, rfl, 0, .int, rfl, rfl, Or.inl ⟨rfl, rfl⟩⟩)))))
theorem dX10_emits_0 : decode cX10_emits 0 = .ok (.aload_n 0, 1) := by decide +kernel
theorem dX10_emits_1 : decode cX10_emits 1 = .ok (.getfield 62, 3) := by decide +kernel
theorem dX10_emits_4 : decode cX10_emits 4 = .ok (.ifCond .ne 52, 3) := by decide +kernel
theorem dX10_emits_7 : decode cX10_emits 7 = .ok (.aload_n 0, 1) := by decide +kernel
theorem dX10_emits_8 : decode cX10_emits 8 = .ok (.getfield 9, 3) := by decide +kernel
theorem dX10_emits_11 : decode cX10_emits 11 = .ok (.sipush 189, 3) := by decide +kernel
theorem dX10_emits_14 : decode cX10_emits 14 = .ok (.sipush 140, 3) := by decide +kernel
theorem dX10_emits_17 : decode cX10_emits 17 = .ok (.aload_n 0, 1) := by decide +kernel
theorem dX10_emits_18 : decode cX10_emits 18 = .ok (.getfield 83, 3) := by decide +kernel
theorem dX10_emits_21 : decode cX10_emits 21 = .ok (.imul, 1) := by decide +kernel
theorem dX10_emits_22 : decode cX10_emits 22 = .ok (.iadd, 1) := by decide +kernel
theorem dX10_emits_23 : decode cX10_emits 23 = .ok (.aload_n 0, 1) := by decide +kernel
theorem dX10_emits_24 : decode cX10_emits 24 = .ok (.getfield 9, 3) := by decide +kernel
theorem dX10_emits_27 : decode cX10_emits 27 = .ok (.sipush 184, 3) := by decide +kernel
theorem dX10_emits_30 : decode cX10_emits 30 = .ok (.aload_n 0, 1) := by decide +kernel
theorem dX10_emits_31 : decode cX10_emits 31 = .ok (.getfield 83, 3) := by decide +kernel
theorem dX10_emits_34 : decode cX10_emits 34 = .ok (.iadd, 1) := by decide +kernel
theorem dX10_emits_35 : decode cX10_emits 35 = .ok (.iaload, 1) := by decide +kernel
theorem dX10_emits_36 : decode cX10_emits 36 = .ok (.iadd, 1) := by decide +kernel
theorem dX10_emits_37 : decode cX10_emits 37 = .ok (.iload_n 1, 1) := by decide +kernel
theorem dX10_emits_38 : decode cX10_emits 38 = .ok (.iastore, 1) := by decide +kernel
theorem dX10_emits_39 : decode cX10_emits 39 = .ok (.aload_n 0, 1) := by decide +kernel
theorem dX10_emits_40 : decode cX10_emits 40 = .ok (.getfield 9, 3) := by decide +kernel
theorem dX10_emits_43 : decode cX10_emits 43 = .ok (.sipush 184, 3) := by decide +kernel
theorem dX10_emits_46 : decode cX10_emits 46 = .ok (.aload_n 0, 1) := by decide +kernel
theorem dX10_emits_47 : decode cX10_emits 47 = .ok (.getfield 83, 3) := by decide +kernel
theorem dX10_emits_50 : decode cX10_emits 50 = .ok (.iadd, 1) := by decide +kernel
theorem dX10_emits_51 : decode cX10_emits 51 = .ok (.dup2, 1) := by decide +kernel
theorem dX10_emits_52 : decode cX10_emits 52 = .ok (.iaload, 1) := by decide +kernel
theorem dX10_emits_53 : decode cX10_emits 53 = .ok (.iconst 1, 1) := by decide +kernel
theorem dX10_emits_54 : decode cX10_emits 54 = .ok (.iadd, 1) := by decide +kernel
theorem dX10_emits_55 : decode cX10_emits 55 = .ok (.iastore, 1) := by decide +kernel
theorem dX10_emits_56 : decode cX10_emits 56 = .ok (.return_, 1) := by decide +kernel
set_option maxRecDepth 20000 in
theorem r_X10_emits : m_Right (yX10_emits, cX10_emits, 2, none) q_X10_emits := m_right_nd (m_right_nd (m_right_nd (m_right_nd (m_right_nd (m_right_lf ⟨1, dX10_emits_0, rfl, rfl, rfl⟩) (m_right_lf ⟨3, dX10_emits_1, rfl, rfl, 10, 8, rfl, Or.inl ⟨(RX10, TX10, 24), rfl, by decide, wd_874⟩⟩)) (m_right_nd (m_right_lf ⟨3, dX10_emits_4, rfl, rfl, 56, rfl, by decide⟩) (m_right_lf ⟨1, dX10_emits_7, rfl, rfl, rfl⟩))) (m_right_nd (m_right_nd (m_right_lf ⟨3, dX10_emits_8, rfl, rfl, 10, 1, rfl, Or.inl ⟨(RX10, TX10, 24), rfl, by decide, wd_867⟩⟩) (m_right_lf ⟨3, dX10_emits_11, rfl, rfl, by decide +kernel⟩)) (m_right_nd (m_right_lf ⟨3, dX10_emits_14, rfl, rfl, by decide +kernel⟩) (m_right_lf ⟨1, dX10_emits_17, rfl, rfl, rfl⟩)))) (m_right_nd (m_right_nd (m_right_nd (m_right_lf ⟨3, dX10_emits_18, rfl, rfl, 10, 5, rfl, Or.inl ⟨(RX10, TX10, 24), rfl, by decide, wd_871⟩⟩) (m_right_lf ⟨1, dX10_emits_21, rfl, rfl⟩)) (m_right_nd (m_right_lf ⟨1, dX10_emits_22, rfl, rfl⟩) (m_right_lf ⟨1, dX10_emits_23, rfl, rfl, rfl⟩))) (m_right_nd (m_right_nd (m_right_lf ⟨3, dX10_emits_24, rfl, rfl, 10, 1, rfl, Or.inl ⟨(RX10, TX10, 24), rfl, by decide, wd_867⟩⟩) (m_right_lf ⟨3, dX10_emits_27, rfl, rfl, by decide +kernel⟩)) (m_right_nd (m_right_lf ⟨1, dX10_emits_30, rfl, rfl, rfl⟩) (m_right_lf ⟨3, dX10_emits_31, rfl, rfl, 10, 5, rfl, Or.inl ⟨(RX10, TX10, 24), rfl, by decide, wd_871⟩⟩))))) (m_right_nd (m_right_nd (m_right_nd (m_right_nd (m_right_lf ⟨1, dX10_emits_34, rfl, rfl⟩) (m_right_lf ⟨1, dX10_emits_35, rfl, rfl⟩)) (m_right_nd (m_right_lf ⟨1, dX10_emits_36, rfl, rfl⟩) (m_right_lf ⟨1, dX10_emits_37, rfl, rfl, rfl⟩))) (m_right_nd (m_right_nd (m_right_lf ⟨1, dX10_emits_38, rfl, rfl⟩) (m_right_lf ⟨1, dX10_emits_39, rfl, rfl, rfl⟩)) (m_right_nd (m_right_lf ⟨3, dX10_emits_40, rfl, rfl, 10, 1, rfl, Or.inl ⟨(RX10, TX10, 24), rfl, by decide, wd_867⟩⟩) (m_right_lf ⟨3, dX10_emits_43, rfl, rfl, by decide +kernel⟩)))) (m_right_nd (m_right_nd (m_right_nd (m_right_lf ⟨1, dX10_emits_46, rfl, rfl, rfl⟩) (m_right_lf ⟨3, dX10_emits_47, rfl, rfl, 10, 5, rfl, Or.inl ⟨(RX10, TX10, 24), rfl, by decide, wd_871⟩⟩)) (m_right_nd (m_right_lf ⟨1, dX10_emits_50, rfl, rfl⟩) (m_right_lf ⟨1, dX10_emits_51, rfl, rfl⟩))) (m_right_nd (m_right_nd (m_right_lf ⟨1, dX10_emits_52, rfl, rfl⟩) (m_right_lf ⟨1, dX10_emits_53, rfl, rfl, by decide +kernel⟩)) (m_right_nd (m_right_lf ⟨1, dX10_emits_54, rfl, rfl⟩) (m_right_nd (m_right_lf ⟨1, dX10_emits_55, rfl, rfl⟩) (m_right_lf ⟨1, dX10_emits_56, rfl, rfl⟩))))))
theorem dX10_factor_0 : decode cX10_factor 0 = .ok (.aload_n 0, 1) := by decide +kernel
theorem dX10_factor_1 : decode cX10_factor 1 = .ok (.getfield 62, 3) := by decide +kernel
theorem dX10_factor_4 : decode cX10_factor 4 = .ok (.ifCond .eq 4, 3) := by decide +kernel
theorem dX10_factor_7 : decode cX10_factor 7 = .ok (.return_, 1) := by decide +kernel
theorem dX10_factor_8 : decode cX10_factor 8 = .ok (.aload_n 0, 1) := by decide +kernel
theorem dX10_factor_9 : decode cX10_factor 9 = .ok (.invokevirtual 66, 3) := by decide +kernel
theorem dX10_factor_12 : decode cX10_factor 12 = .ok (.istore_n 1, 1) := by decide +kernel
theorem dX10_factor_13 : decode cX10_factor 13 = .ok (.iload_n 1, 1) := by decide +kernel
theorem dX10_factor_14 : decode cX10_factor 14 = .ok (.bipush 33, 2) := by decide +kernel
theorem dX10_factor_16 : decode cX10_factor 16 = .ok (.if_icmp .eq 9, 3) := by decide +kernel
theorem dX10_factor_19 : decode cX10_factor 19 = .ok (.iload_n 1, 1) := by decide +kernel
theorem dX10_factor_20 : decode cX10_factor 20 = .ok (.bipush 40, 2) := by decide +kernel
theorem dX10_factor_22 : decode cX10_factor 22 = .ok (.if_icmp .ne 90, 3) := by decide +kernel
theorem dX10_factor_25 : decode cX10_factor 25 = .ok (.aload_n 0, 1) := by decide +kernel
theorem dX10_factor_26 : decode cX10_factor 26 = .ok (.aload_n 0, 1) := by decide +kernel
theorem dX10_factor_27 : decode cX10_factor 27 = .ok (.getfield 86, 3) := by decide +kernel
theorem dX10_factor_30 : decode cX10_factor 30 = .ok (.iconst 5, 1) := by decide +kernel
theorem dX10_factor_31 : decode cX10_factor 31 = .ok (.if_icmp .ne 7, 3) := by decide +kernel
theorem dX10_factor_34 : decode cX10_factor 34 = .ok (.iconst 1, 1) := by decide +kernel
theorem dX10_factor_35 : decode cX10_factor 35 = .ok (.goto 4, 3) := by decide +kernel
theorem dX10_factor_38 : decode cX10_factor 38 = .ok (.iconst 0, 1) := by decide +kernel
theorem dX10_factor_39 : decode cX10_factor 39 = .ok (.putfield 62, 3) := by decide +kernel
theorem dX10_factor_42 : decode cX10_factor 42 = .ok (.aload_n 0, 1) := by decide +kernel
theorem dX10_factor_43 : decode cX10_factor 43 = .ok (.dup, 1) := by decide +kernel
theorem dX10_factor_44 : decode cX10_factor 44 = .ok (.getfield 86, 3) := by decide +kernel
theorem dX10_factor_47 : decode cX10_factor 47 = .ok (.iconst 1, 1) := by decide +kernel
theorem dX10_factor_48 : decode cX10_factor 48 = .ok (.iadd, 1) := by decide +kernel
theorem dX10_factor_49 : decode cX10_factor 49 = .ok (.putfield 86, 3) := by decide +kernel
theorem dX10_factor_52 : decode cX10_factor 52 = .ok (.aload_n 0, 1) := by decide +kernel
theorem dX10_factor_53 : decode cX10_factor 53 = .ok (.dup, 1) := by decide +kernel
theorem dX10_factor_54 : decode cX10_factor 54 = .ok (.getfield 56, 3) := by decide +kernel
theorem dX10_factor_57 : decode cX10_factor 57 = .ok (.aload_n 0, 1) := by decide +kernel
theorem dX10_factor_58 : decode cX10_factor 58 = .ok (.getfield 62, 3) := by decide +kernel
theorem dX10_factor_61 : decode cX10_factor 61 = .ok (.ifCond .eq 7, 3) := by decide +kernel
theorem dX10_factor_64 : decode cX10_factor 64 = .ok (.iconst 0, 1) := by decide +kernel
theorem dX10_factor_65 : decode cX10_factor 65 = .ok (.goto 4, 3) := by decide +kernel
theorem dX10_factor_68 : decode cX10_factor 68 = .ok (.iconst 1, 1) := by decide +kernel
theorem dX10_factor_69 : decode cX10_factor 69 = .ok (.iadd, 1) := by decide +kernel
theorem dX10_factor_70 : decode cX10_factor 70 = .ok (.putfield 56, 3) := by decide +kernel
theorem dX10_factor_73 : decode cX10_factor 73 = .ok (.iload_n 1, 1) := by decide +kernel
theorem dX10_factor_74 : decode cX10_factor 74 = .ok (.bipush 33, 2) := by decide +kernel
theorem dX10_factor_76 : decode cX10_factor 76 = .ok (.if_icmp .ne 15, 3) := by decide +kernel
theorem dX10_factor_79 : decode cX10_factor 79 = .ok (.aload_n 0, 1) := by decide +kernel
theorem dX10_factor_80 : decode cX10_factor 80 = .ok (.invokevirtual 89, 3) := by decide +kernel
theorem dX10_factor_83 : decode cX10_factor 83 = .ok (.aload_n 0, 1) := by decide +kernel
theorem dX10_factor_84 : decode cX10_factor 84 = .ok (.iconst (-1), 1) := by decide +kernel
theorem dX10_factor_85 : decode cX10_factor 85 = .ok (.invokevirtual 92, 3) := by decide +kernel
theorem dX10_factor_88 : decode cX10_factor 88 = .ok (.goto 13, 3) := by decide +kernel
theorem dX10_factor_91 : decode cX10_factor 91 = .ok (.aload_n 0, 1) := by decide +kernel
theorem dX10_factor_92 : decode cX10_factor 92 = .ok (.invokevirtual 95, 3) := by decide +kernel
theorem dX10_factor_95 : decode cX10_factor 95 = .ok (.aload_n 0, 1) := by decide +kernel
theorem dX10_factor_96 : decode cX10_factor 96 = .ok (.bipush 41, 2) := by decide +kernel
theorem dX10_factor_98 : decode cX10_factor 98 = .ok (.invokevirtual 79, 3) := by decide +kernel
theorem dX10_factor_101 : decode cX10_factor 101 = .ok (.aload_n 0, 1) := by decide +kernel
theorem dX10_factor_102 : decode cX10_factor 102 = .ok (.dup, 1) := by decide +kernel
theorem dX10_factor_103 : decode cX10_factor 103 = .ok (.getfield 86, 3) := by decide +kernel
theorem dX10_factor_106 : decode cX10_factor 106 = .ok (.iconst 1, 1) := by decide +kernel
theorem dX10_factor_107 : decode cX10_factor 107 = .ok (.isub, 1) := by decide +kernel
theorem dX10_factor_108 : decode cX10_factor 108 = .ok (.putfield 86, 3) := by decide +kernel
theorem dX10_factor_111 : decode cX10_factor 111 = .ok (.return_, 1) := by decide +kernel
theorem dX10_factor_112 : decode cX10_factor 112 = .ok (.aload_n 0, 1) := by decide +kernel
theorem dX10_factor_113 : decode cX10_factor 113 = .ok (.ldc 98, 2) := by decide +kernel
theorem dX10_factor_115 : decode cX10_factor 115 = .ok (.invokevirtual 100, 3) := by decide +kernel
theorem dX10_factor_118 : decode cX10_factor 118 = .ok (.istore_n 2, 1) := by decide +kernel
theorem dX10_factor_119 : decode cX10_factor 119 = .ok (.aload_n 0, 1) := by decide +kernel
theorem dX10_factor_120 : decode cX10_factor 120 = .ok (.iload_n 2, 1) := by decide +kernel
theorem dX10_factor_121 : decode cX10_factor 121 = .ok (.iconst (-1), 1) := by decide +kernel
theorem dX10_factor_122 : decode cX10_factor 122 = .ok (.if_icmp .ne 7, 3) := by decide +kernel
theorem dX10_factor_125 : decode cX10_factor 125 = .ok (.iconst 1, 1) := by decide +kernel
theorem dX10_factor_126 : decode cX10_factor 126 = .ok (.goto 4, 3) := by decide +kernel
theorem dX10_factor_129 : decode cX10_factor 129 = .ok (.iconst 0, 1) := by decide +kernel
theorem dX10_factor_130 : decode cX10_factor 130 = .ok (.putfield 62, 3) := by decide +kernel
theorem dX10_factor_133 : decode cX10_factor 133 = .ok (.aload_n 0, 1) := by decide +kernel
theorem dX10_factor_134 : decode cX10_factor 134 = .ok (.getfield 62, 3) := by decide +kernel
theorem dX10_factor_137 : decode cX10_factor 137 = .ok (.ifCond .eq 7, 3) := by decide +kernel
theorem dX10_factor_140 : decode cX10_factor 140 = .ok (.iconst 0, 1) := by decide +kernel
theorem dX10_factor_141 : decode cX10_factor 141 = .ok (.goto 9, 3) := by decide +kernel
theorem dX10_factor_144 : decode cX10_factor 144 = .ok (.aload_n 0, 1) := by decide +kernel
theorem dX10_factor_145 : decode cX10_factor 145 = .ok (.ldc 104, 2) := by decide +kernel
theorem dX10_factor_147 : decode cX10_factor 147 = .ok (.invokevirtual 100, 3) := by decide +kernel
theorem dX10_factor_150 : decode cX10_factor 150 = .ok (.istore_n 3, 1) := by decide +kernel
theorem dX10_factor_151 : decode cX10_factor 151 = .ok (.aload_n 0, 1) := by decide +kernel
theorem dX10_factor_152 : decode cX10_factor 152 = .ok (.aload_n 0, 1) := by decide +kernel
theorem dX10_factor_153 : decode cX10_factor 153 = .ok (.getfield 62, 3) := by decide +kernel
theorem dX10_factor_156 : decode cX10_factor 156 = .ok (.ifCond .ne 8, 3) := by decide +kernel
theorem dX10_factor_159 : decode cX10_factor 159 = .ok (.iload_n 3, 1) := by decide +kernel
theorem dX10_factor_160 : decode cX10_factor 160 = .ok (.iconst (-1), 1) := by decide +kernel
theorem dX10_factor_161 : decode cX10_factor 161 = .ok (.if_icmp .ne 7, 3) := by decide +kernel
theorem dX10_factor_164 : decode cX10_factor 164 = .ok (.iconst 1, 1) := by decide +kernel
theorem dX10_factor_165 : decode cX10_factor 165 = .ok (.goto 4, 3) := by decide +kernel
theorem dX10_factor_168 : decode cX10_factor 168 = .ok (.iconst 0, 1) := by decide +kernel
theorem dX10_factor_169 : decode cX10_factor 169 = .ok (.putfield 62, 3) := by decide +kernel
theorem dX10_factor_172 : decode cX10_factor 172 = .ok (.aload_n 0, 1) := by decide +kernel
theorem dX10_factor_173 : decode cX10_factor 173 = .ok (.invokevirtual 106, 3) := by decide +kernel
theorem dX10_factor_176 : decode cX10_factor 176 = .ok (.istore 4, 2) := by decide +kernel
theorem dX10_factor_178 : decode cX10_factor 178 = .ok (.aload_n 0, 1) := by decide +kernel
theorem dX10_factor_179 : decode cX10_factor 179 = .ok (.iload_n 2, 1) := by decide +kernel
theorem dX10_factor_180 : decode cX10_factor 180 = .ok (.bipush 8, 2) := by decide +kernel
theorem dX10_factor_182 : decode cX10_factor 182 = .ok (.iload_n 3, 1) := by decide +kernel
theorem dX10_factor_183 : decode cX10_factor 183 = .ok (.imul, 1) := by decide +kernel
theorem dX10_factor_184 : decode cX10_factor 184 = .ok (.iadd, 1) := by decide +kernel
theorem dX10_factor_185 : decode cX10_factor 185 = .ok (.bipush 32, 2) := by decide +kernel
theorem dX10_factor_187 : decode cX10_factor 187 = .ok (.iload 4, 2) := by decide +kernel
theorem dX10_factor_189 : decode cX10_factor 189 = .ok (.imul, 1) := by decide +kernel
theorem dX10_factor_190 : decode cX10_factor 190 = .ok (.iadd, 1) := by decide +kernel
theorem dX10_factor_191 : decode cX10_factor 191 = .ok (.invokevirtual 92, 3) := by decide +kernel
theorem dX10_factor_194 : decode cX10_factor 194 = .ok (.return_, 1) := by decide +kernel
set_option maxRecDepth 20000 in
theorem r_X10_factor : m_Right (yX10_factor, cX10_factor, 5, none) q_X10_factor := m_right_nd (m_right_nd (m_right_nd (m_right_nd (m_right_nd (m_right_nd (m_right_lf ⟨1, dX10_factor_0, rfl, rfl, rfl⟩) (m_right_nd (m_right_lf ⟨3, dX10_factor_1, rfl, rfl, 10, 8, rfl, Or.inl ⟨(RX10, TX10, 24), rfl, by decide, wd_874⟩⟩) (m_right_lf ⟨3, dX10_factor_4, rfl, rfl, 8, rfl, by decide⟩))) (m_right_nd (m_right_lf ⟨1, dX10_factor_7, rfl, rfl⟩) (m_right_nd (m_right_lf ⟨1, dX10_factor_8, rfl, rfl, rfl⟩) (m_right_lf ⟨3, dX10_factor_9, rfl, rfl, 124, 0, 10, (yX10_here, cX10_here, 1, (some .int)), rfl, me_X10_here, mc_X10_here, Or.inl ⟨(RX10, TX10, 24), rfl, rfl⟩, wd_954, wd_956, wd_19, wd_71⟩)))) (m_right_nd (m_right_nd (m_right_lf ⟨1, dX10_factor_12, rfl, rfl, rfl⟩) (m_right_nd (m_right_lf ⟨1, dX10_factor_13, rfl, rfl, rfl⟩) (m_right_lf ⟨2, dX10_factor_14, rfl, rfl, by decide +kernel⟩))) (m_right_nd (m_right_nd (m_right_lf ⟨3, dX10_factor_16, rfl, rfl, 25, rfl, by decide⟩) (m_right_lf ⟨1, dX10_factor_19, rfl, rfl, rfl⟩)) (m_right_nd (m_right_lf ⟨2, dX10_factor_20, rfl, rfl, by decide +kernel⟩) (m_right_lf ⟨3, dX10_factor_22, rfl, rfl, 112, rfl, by decide⟩))))) (m_right_nd (m_right_nd (m_right_nd (m_right_lf ⟨1, dX10_factor_25, rfl, rfl, rfl⟩) (m_right_nd (m_right_lf ⟨1, dX10_factor_26, rfl, rfl, rfl⟩) (m_right_lf ⟨3, dX10_factor_27, rfl, rfl, 10, 9, rfl, Or.inl ⟨(RX10, TX10, 24), rfl, by decide, wd_875⟩⟩))) (m_right_nd (m_right_lf ⟨1, dX10_factor_30, rfl, rfl, by decide +kernel⟩) (m_right_nd (m_right_lf ⟨3, dX10_factor_31, rfl, rfl, 38, rfl, by decide⟩) (m_right_lf ⟨1, dX10_factor_34, rfl, rfl, by decide +kernel⟩)))) (m_right_nd (m_right_nd (m_right_lf ⟨3, dX10_factor_35, rfl, 39, rfl, by decide⟩) (m_right_nd (m_right_lf ⟨1, dX10_factor_38, rfl, rfl, by decide +kernel⟩) (m_right_lf ⟨3, dX10_factor_39, rfl, rfl, 10, 8, 2, (RX10, TX10, 24), rfl, rfl, by decide, wd_874, Or.inl rfl, tyX10 8, tyX10_ok 8 (by decide), Or.inr (Or.inr (Or.inl ⟨rfl, rfl⟩))⟩))) (m_right_nd (m_right_nd (m_right_lf ⟨1, dX10_factor_42, rfl, rfl, rfl⟩) (m_right_lf ⟨1, dX10_factor_43, rfl, rfl⟩)) (m_right_nd (m_right_lf ⟨3, dX10_factor_44, rfl, rfl, 10, 9, rfl, Or.inl ⟨(RX10, TX10, 24), rfl, by decide, wd_875⟩⟩) (m_right_lf ⟨1, dX10_factor_47, rfl, rfl, by decide +kernel⟩)))))) (m_right_nd (m_right_nd (m_right_nd (m_right_nd (m_right_lf ⟨1, dX10_factor_48, rfl, rfl⟩) (m_right_nd (m_right_lf ⟨3, dX10_factor_49, rfl, rfl, 10, 9, 0, (RX10, TX10, 24), rfl, rfl, by decide, wd_875, Or.inl rfl, tyX10 9, tyX10_ok 9 (by decide), Or.inl ⟨rfl, rfl⟩⟩) (m_right_lf ⟨1, dX10_factor_52, rfl, rfl, rfl⟩))) (m_right_nd (m_right_lf ⟨1, dX10_factor_53, rfl, rfl⟩) (m_right_nd (m_right_lf ⟨3, dX10_factor_54, rfl, rfl, 10, 6, rfl, Or.inl ⟨(RX10, TX10, 24), rfl, by decide, wd_872⟩⟩) (m_right_lf ⟨1, dX10_factor_57, rfl, rfl, rfl⟩)))) (m_right_nd (m_right_nd (m_right_lf ⟨3, dX10_factor_58, rfl, rfl, 10, 8, rfl, Or.inl ⟨(RX10, TX10, 24), rfl, by decide, wd_874⟩⟩) (m_right_nd (m_right_lf ⟨3, dX10_factor_61, rfl, rfl, 68, rfl, by decide⟩) (m_right_lf ⟨1, dX10_factor_64, rfl, rfl, by decide +kernel⟩))) (m_right_nd (m_right_nd (m_right_lf ⟨3, dX10_factor_65, rfl, 69, rfl, by decide⟩) (m_right_lf ⟨1, dX10_factor_68, rfl, rfl, by decide +kernel⟩)) (m_right_nd (m_right_lf ⟨1, dX10_factor_69, rfl, rfl⟩) (m_right_lf ⟨3, dX10_factor_70, rfl, rfl, 10, 6, 0, (RX10, TX10, 24), rfl, rfl, by decide, wd_872, Or.inl rfl, tyX10 6, tyX10_ok 6 (by decide), Or.inl ⟨rfl, rfl⟩⟩))))) (m_right_nd (m_right_nd (m_right_nd (m_right_lf ⟨1, dX10_factor_73, rfl, rfl, rfl⟩) (m_right_nd (m_right_lf ⟨2, dX10_factor_74, rfl, rfl, by decide +kernel⟩) (m_right_lf ⟨3, dX10_factor_76, rfl, rfl, 91, rfl, by decide⟩))) (m_right_nd (m_right_nd (m_right_lf ⟨1, dX10_factor_79, rfl, rfl, rfl⟩) (m_right_lf ⟨3, dX10_factor_80, rfl, rfl, 130, 0, 10, (yX10_factor, cX10_factor, 5, none), rfl, me_X10_factor, mc_X10_factor, Or.inl ⟨(RX10, TX10, 24), rfl, rfl⟩, wd_1035, wd_1037, wd_27, wd_71⟩)) (m_right_nd (m_right_lf ⟨1, dX10_factor_83, rfl, rfl, rfl⟩) (m_right_lf ⟨1, dX10_factor_84, rfl, rfl, by decide +kernel⟩)))) (m_right_nd (m_right_nd (m_right_lf ⟨3, dX10_factor_85, rfl, rfl, 129, 1, 10, (yX10_emits, cX10_emits, 2, none), rfl, me_X10_emits, mc_X10_emits, Or.inl ⟨(RX10, TX10, 24), rfl, rfl⟩, wd_1039, wd_1041, wd_28, wd_71⟩) (m_right_nd (m_right_lf ⟨3, dX10_factor_88, rfl, 101, rfl, by decide⟩) (m_right_lf ⟨1, dX10_factor_91, rfl, rfl, rfl⟩))) (m_right_nd (m_right_nd (m_right_lf ⟨3, dX10_factor_92, rfl, rfl, 132, 0, 10, (yX10_some, cX10_some, 1, none), rfl, me_X10_some, mc_X10_some, Or.inl ⟨(RX10, TX10, 24), rfl, rfl⟩, wd_1027, wd_1029, wd_25, wd_71⟩) (m_right_lf ⟨1, dX10_factor_95, rfl, rfl, rfl⟩)) (m_right_nd (m_right_lf ⟨2, dX10_factor_96, rfl, rfl, by decide +kernel⟩) (m_right_lf ⟨3, dX10_factor_98, rfl, rfl, 125, 1, 10, (yX10_must, cX10_must, 2, none), rfl, me_X10_must, mc_X10_must, Or.inl ⟨(RX10, TX10, 24), rfl, rfl⟩, wd_962, wd_964, wd_21, wd_71⟩))))))) (m_right_nd (m_right_nd (m_right_nd (m_right_nd (m_right_nd (m_right_lf ⟨1, dX10_factor_101, rfl, rfl, rfl⟩) (m_right_nd (m_right_lf ⟨1, dX10_factor_102, rfl, rfl⟩) (m_right_lf ⟨3, dX10_factor_103, rfl, rfl, 10, 9, rfl, Or.inl ⟨(RX10, TX10, 24), rfl, by decide, wd_875⟩⟩))) (m_right_nd (m_right_lf ⟨1, dX10_factor_106, rfl, rfl, by decide +kernel⟩) (m_right_nd (m_right_lf ⟨1, dX10_factor_107, rfl, rfl⟩) (m_right_lf ⟨3, dX10_factor_108, rfl, rfl, 10, 9, 0, (RX10, TX10, 24), rfl, rfl, by decide, wd_875, Or.inl rfl, tyX10 9, tyX10_ok 9 (by decide), Or.inl ⟨rfl, rfl⟩⟩)))) (m_right_nd (m_right_nd (m_right_lf ⟨1, dX10_factor_111, rfl, rfl⟩) (m_right_nd (m_right_lf ⟨1, dX10_factor_112, rfl, rfl, rfl⟩) (m_right_lf ⟨2, dX10_factor_113, rfl, rfl, Or.inr ⟨"pkmog", 7, rfl, by decide, by decide +kernel⟩⟩))) (m_right_nd (m_right_nd (m_right_lf ⟨3, dX10_factor_115, rfl, rfl, 128, 1, 10, (yX10_among, cX10_among, 3, (some .int)), rfl, me_X10_among, mc_X10_among, Or.inl ⟨(RX10, TX10, 24), rfl, rfl⟩, wd_1044, wd_1046, wd_29, wd_71⟩) (m_right_lf ⟨1, dX10_factor_118, rfl, rfl, rfl⟩)) (m_right_nd (m_right_lf ⟨1, dX10_factor_119, rfl, rfl, rfl⟩) (m_right_lf ⟨1, dX10_factor_120, rfl, rfl, rfl⟩))))) (m_right_nd (m_right_nd (m_right_nd (m_right_lf ⟨1, dX10_factor_121, rfl, rfl, by decide +kernel⟩) (m_right_nd (m_right_lf ⟨3, dX10_factor_122, rfl, rfl, 129, rfl, by decide⟩) (m_right_lf ⟨1, dX10_factor_125, rfl, rfl, by decide +kernel⟩))) (m_right_nd (m_right_nd (m_right_lf ⟨3, dX10_factor_126, rfl, 130, rfl, by decide⟩) (m_right_lf ⟨1, dX10_factor_129, rfl, rfl, by decide +kernel⟩)) (m_right_nd (m_right_lf ⟨3, dX10_factor_130, rfl, rfl, 10, 8, 2, (RX10, TX10, 24), rfl, rfl, by decide, wd_874, Or.inl rfl, tyX10 8, tyX10_ok 8 (by decide), Or.inr (Or.inr (Or.inl ⟨rfl, rfl⟩))⟩) (m_right_lf ⟨1, dX10_factor_133, rfl, rfl, rfl⟩)))) (m_right_nd (m_right_nd (m_right_lf ⟨3, dX10_factor_134, rfl, rfl, 10, 8, rfl, Or.inl ⟨(RX10, TX10, 24), rfl, by decide, wd_874⟩⟩) (m_right_nd (m_right_lf ⟨3, dX10_factor_137, rfl, rfl, 144, rfl, by decide⟩) (m_right_lf ⟨1, dX10_factor_140, rfl, rfl, by decide +kernel⟩))) (m_right_nd (m_right_nd (m_right_lf ⟨3, dX10_factor_141, rfl, 150, rfl, by decide⟩) (m_right_lf ⟨1, dX10_factor_144, rfl, rfl, rfl⟩)) (m_right_nd (m_right_lf ⟨2, dX10_factor_145, rfl, rfl, Or.inr ⟨"<=>", 8, rfl, by decide, by decide +kernel⟩⟩) (m_right_lf ⟨3, dX10_factor_147, rfl, rfl, 128, 1, 10, (yX10_among, cX10_among, 3, (some .int)), rfl, me_X10_among, mc_X10_among, Or.inl ⟨(RX10, TX10, 24), rfl, rfl⟩, wd_1044, wd_1046, wd_29, wd_71⟩)))))) (m_right_nd (m_right_nd (m_right_nd (m_right_nd (m_right_lf ⟨1, dX10_factor_150, rfl, rfl, rfl⟩) (m_right_nd (m_right_lf ⟨1, dX10_factor_151, rfl, rfl, rfl⟩) (m_right_lf ⟨1, dX10_factor_152, rfl, rfl, rfl⟩))) (m_right_nd (m_right_lf ⟨3, dX10_factor_153, rfl, rfl, 10, 8, rfl, Or.inl ⟨(RX10, TX10, 24), rfl, by decide, wd_874⟩⟩) (m_right_nd (m_right_lf ⟨3, dX10_factor_156, rfl, rfl, 164, rfl, by decide⟩) (m_right_lf ⟨1, dX10_factor_159, rfl, rfl, rfl⟩)))) (m_right_nd (m_right_nd (m_right_lf ⟨1, dX10_factor_160, rfl, rfl, by decide +kernel⟩) (m_right_nd (m_right_lf ⟨3, dX10_factor_161, rfl, rfl, 168, rfl, by decide⟩) (m_right_lf ⟨1, dX10_factor_164, rfl, rfl, by decide +kernel⟩))) (m_right_nd (m_right_nd (m_right_lf ⟨3, dX10_factor_165, rfl, 169, rfl, by decide⟩) (m_right_lf ⟨1, dX10_factor_168, rfl, rfl, by decide +kernel⟩)) (m_right_nd (m_right_lf ⟨3, dX10_factor_169, rfl, rfl, 10, 8, 2, (RX10, TX10, 24), rfl, rfl, by decide, wd_874, Or.inl rfl, tyX10 8, tyX10_ok 8 (by decide), Or.inr (Or.inr (Or.inl ⟨rfl, rfl⟩))⟩) (m_right_lf ⟨1, dX10_factor_172, rfl, rfl, rfl⟩))))) (m_right_nd (m_right_nd (m_right_nd (m_right_lf ⟨3, dX10_factor_173, rfl, rfl, 127, 0, 10, (yX10_figures, cX10_figures, 3, (some .int)), rfl, me_X10_figures, mc_X10_figures, Or.inl ⟨(RX10, TX10, 24), rfl, rfl⟩, wd_1023, wd_1025, wd_24, wd_71⟩) (m_right_nd (m_right_lf ⟨2, dX10_factor_176, rfl, rfl, rfl⟩) (m_right_lf ⟨1, dX10_factor_178, rfl, rfl, rfl⟩))) (m_right_nd (m_right_nd (m_right_lf ⟨1, dX10_factor_179, rfl, rfl, rfl⟩) (m_right_lf ⟨2, dX10_factor_180, rfl, rfl, by decide +kernel⟩)) (m_right_nd (m_right_lf ⟨1, dX10_factor_182, rfl, rfl, rfl⟩) (m_right_lf ⟨1, dX10_factor_183, rfl, rfl⟩)))) (m_right_nd (m_right_nd (m_right_lf ⟨1, dX10_factor_184, rfl, rfl⟩) (m_right_nd (m_right_lf ⟨2, dX10_factor_185, rfl, rfl, by decide +kernel⟩) (m_right_lf ⟨2, dX10_factor_187, rfl, rfl, rfl⟩))) (m_right_nd (m_right_nd (m_right_lf ⟨1, dX10_factor_189, rfl, rfl⟩) (m_right_lf ⟨1, dX10_factor_190, rfl, rfl⟩)) (m_right_nd (m_right_lf ⟨3, dX10_factor_191, rfl, rfl, 129, 1, 10, (yX10_emits, cX10_emits, 2, none), rfl, me_X10_emits, mc_X10_emits, Or.inl ⟨(RX10, TX10, 24), rfl, rfl⟩, wd_1039, wd_1041, wd_28, wd_71⟩) (m_right_lf ⟨1, dX10_factor_194, rfl, rfl⟩)))))))
theorem dX10_every_0 : decode cX10_every 0 = .ok (.aload_n 0, 1) := by decide +kernel
theorem dX10_every_1 : decode cX10_every 1 = .ok (.invokevirtual 89, 3) := by decide +kernel
theorem dX10_every_4 : decode cX10_every 4 = .ok (.aload_n 0, 1) := by decide +kernel
theorem dX10_every_5 : decode cX10_every 5 = .ok (.getfield 62, 3) := by decide +kernel
theorem dX10_every_8 : decode cX10_every 8 = .ok (.ifCond .ne 35, 3) := by decide +kernel
theorem dX10_every_11 : decode cX10_every 11 = .ok (.aload_n 0, 1) := by decide +kernel
theorem dX10_every_12 : decode cX10_every 12 = .ok (.invokevirtual 66, 3) := by decide +kernel
theorem dX10_every_15 : decode cX10_every 15 = .ok (.bipush 38, 2) := by decide +kernel
theorem dX10_every_17 : decode cX10_every 17 = .ok (.if_icmp .ne 26, 3) := by decide +kernel
theorem dX10_every_20 : decode cX10_every 20 = .ok (.aload_n 0, 1) := by decide +kernel
theorem dX10_every_21 : decode cX10_every 21 = .ok (.dup, 1) := by decide +kernel
theorem dX10_every_22 : decode cX10_every 22 = .ok (.getfield 56, 3) := by decide +kernel
theorem dX10_every_25 : decode cX10_every 25 = .ok (.iconst 1, 1) := by decide +kernel
theorem dX10_every_26 : decode cX10_every 26 = .ok (.iadd, 1) := by decide +kernel
theorem dX10_every_27 : decode cX10_every 27 = .ok (.putfield 56, 3) := by decide +kernel
theorem dX10_every_30 : decode cX10_every 30 = .ok (.aload_n 0, 1) := by decide +kernel
theorem dX10_every_31 : decode cX10_every 31 = .ok (.invokevirtual 89, 3) := by decide +kernel
theorem dX10_every_34 : decode cX10_every 34 = .ok (.aload_n 0, 1) := by decide +kernel
theorem dX10_every_35 : decode cX10_every 35 = .ok (.bipush (-2), 2) := by decide +kernel
theorem dX10_every_37 : decode cX10_every 37 = .ok (.invokevirtual 92, 3) := by decide +kernel
theorem dX10_every_40 : decode cX10_every 40 = .ok (.goto (-36), 3) := by decide +kernel
theorem dX10_every_43 : decode cX10_every 43 = .ok (.return_, 1) := by decide +kernel
set_option maxRecDepth 20000 in
theorem r_X10_every : m_Right (yX10_every, cX10_every, 1, none) q_X10_every := m_right_nd (m_right_nd (m_right_nd (m_right_nd (m_right_lf ⟨1, dX10_every_0, rfl, rfl, rfl⟩) (m_right_lf ⟨3, dX10_every_1, rfl, rfl, 130, 0, 10, (yX10_factor, cX10_factor, 5, none), rfl, me_X10_factor, mc_X10_factor, Or.inl ⟨(RX10, TX10, 24), rfl, rfl⟩, wd_1035, wd_1037, wd_27, wd_71⟩)) (m_right_nd (m_right_lf ⟨1, dX10_every_4, rfl, rfl, rfl⟩) (m_right_nd (m_right_lf ⟨3, dX10_every_5, rfl, rfl, 10, 8, rfl, Or.inl ⟨(RX10, TX10, 24), rfl, by decide, wd_874⟩⟩) (m_right_lf ⟨3, dX10_every_8, rfl, rfl, 43, rfl, by decide⟩)))) (m_right_nd (m_right_nd (m_right_lf ⟨1, dX10_every_11, rfl, rfl, rfl⟩) (m_right_nd (m_right_lf ⟨3, dX10_every_12, rfl, rfl, 124, 0, 10, (yX10_here, cX10_here, 1, (some .int)), rfl, me_X10_here, mc_X10_here, Or.inl ⟨(RX10, TX10, 24), rfl, rfl⟩, wd_954, wd_956, wd_19, wd_71⟩) (m_right_lf ⟨2, dX10_every_15, rfl, rfl, by decide +kernel⟩))) (m_right_nd (m_right_lf ⟨3, dX10_every_17, rfl, rfl, 43, rfl, by decide⟩) (m_right_nd (m_right_lf ⟨1, dX10_every_20, rfl, rfl, rfl⟩) (m_right_lf ⟨1, dX10_every_21, rfl, rfl⟩))))) (m_right_nd (m_right_nd (m_right_nd (m_right_lf ⟨3, dX10_every_22, rfl, rfl, 10, 6, rfl, Or.inl ⟨(RX10, TX10, 24), rfl, by decide, wd_872⟩⟩) (m_right_lf ⟨1, dX10_every_25, rfl, rfl, by decide +kernel⟩)) (m_right_nd (m_right_lf ⟨1, dX10_every_26, rfl, rfl⟩) (m_right_nd (m_right_lf ⟨3, dX10_every_27, rfl, rfl, 10, 6, 0, (RX10, TX10, 24), rfl, rfl, by decide, wd_872, Or.inl rfl, tyX10 6, tyX10_ok 6 (by decide), Or.inl ⟨rfl, rfl⟩⟩) (m_right_lf ⟨1, dX10_every_30, rfl, rfl, rfl⟩)))) (m_right_nd (m_right_nd (m_right_lf ⟨3, dX10_every_31, rfl, rfl, 130, 0, 10, (yX10_factor, cX10_factor, 5, none), rfl, me_X10_factor, mc_X10_factor, Or.inl ⟨(RX10, TX10, 24), rfl, rfl⟩, wd_1035, wd_1037, wd_27, wd_71⟩) (m_right_nd (m_right_lf ⟨1, dX10_every_34, rfl, rfl, rfl⟩) (m_right_lf ⟨2, dX10_every_35, rfl, rfl, by decide +kernel⟩))) (m_right_nd (m_right_lf ⟨3, dX10_every_37, rfl, rfl, 129, 1, 10, (yX10_emits, cX10_emits, 2, none), rfl, me_X10_emits, mc_X10_emits, Or.inl ⟨(RX10, TX10, 24), rfl, rfl⟩, wd_1039, wd_1041, wd_28, wd_71⟩) (m_right_nd (m_right_lf ⟨3, dX10_every_40, rfl, 4, rfl, by decide⟩) (m_right_lf ⟨1, dX10_every_43, rfl, rfl⟩)))))
theorem dX10_some_0 : decode cX10_some 0 = .ok (.aload_n 0, 1) := by decide +kernel
theorem dX10_some_1 : decode cX10_some 1 = .ok (.invokevirtual 109, 3) := by decide +kernel
theorem dX10_some_4 : decode cX10_some 4 = .ok (.aload_n 0, 1) := by decide +kernel
theorem dX10_some_5 : decode cX10_some 5 = .ok (.getfield 62, 3) := by decide +kernel
theorem dX10_some_8 : decode cX10_some 8 = .ok (.ifCond .ne 35, 3) := by decide +kernel
theorem dX10_some_11 : decode cX10_some 11 = .ok (.aload_n 0, 1) := by decide +kernel
theorem dX10_some_12 : decode cX10_some 12 = .ok (.invokevirtual 66, 3) := by decide +kernel
theorem dX10_some_15 : decode cX10_some 15 = .ok (.bipush 124, 2) := by decide +kernel
theorem dX10_some_17 : decode cX10_some 17 = .ok (.if_icmp .ne 26, 3) := by decide +kernel
theorem dX10_some_20 : decode cX10_some 20 = .ok (.aload_n 0, 1) := by decide +kernel
theorem dX10_some_21 : decode cX10_some 21 = .ok (.dup, 1) := by decide +kernel
theorem dX10_some_22 : decode cX10_some 22 = .ok (.getfield 56, 3) := by decide +kernel
theorem dX10_some_25 : decode cX10_some 25 = .ok (.iconst 1, 1) := by decide +kernel
theorem dX10_some_26 : decode cX10_some 26 = .ok (.iadd, 1) := by decide +kernel
theorem dX10_some_27 : decode cX10_some 27 = .ok (.putfield 56, 3) := by decide +kernel
theorem dX10_some_30 : decode cX10_some 30 = .ok (.aload_n 0, 1) := by decide +kernel
theorem dX10_some_31 : decode cX10_some 31 = .ok (.invokevirtual 109, 3) := by decide +kernel
theorem dX10_some_34 : decode cX10_some 34 = .ok (.aload_n 0, 1) := by decide +kernel
theorem dX10_some_35 : decode cX10_some 35 = .ok (.bipush (-3), 2) := by decide +kernel
theorem dX10_some_37 : decode cX10_some 37 = .ok (.invokevirtual 92, 3) := by decide +kernel
theorem dX10_some_40 : decode cX10_some 40 = .ok (.goto (-36), 3) := by decide +kernel
theorem dX10_some_43 : decode cX10_some 43 = .ok (.return_, 1) := by decide +kernel
set_option maxRecDepth 20000 in
theorem r_X10_some : m_Right (yX10_some, cX10_some, 1, none) q_X10_some := m_right_nd (m_right_nd (m_right_nd (m_right_nd (m_right_lf ⟨1, dX10_some_0, rfl, rfl, rfl⟩) (m_right_lf ⟨3, dX10_some_1, rfl, rfl, 131, 0, 10, (yX10_every, cX10_every, 1, none), rfl, me_X10_every, mc_X10_every, Or.inl ⟨(RX10, TX10, 24), rfl, rfl⟩, wd_1031, wd_1033, wd_26, wd_71⟩)) (m_right_nd (m_right_lf ⟨1, dX10_some_4, rfl, rfl, rfl⟩) (m_right_nd (m_right_lf ⟨3, dX10_some_5, rfl, rfl, 10, 8, rfl, Or.inl ⟨(RX10, TX10, 24), rfl, by decide, wd_874⟩⟩) (m_right_lf ⟨3, dX10_some_8, rfl, rfl, 43, rfl, by decide⟩)))) (m_right_nd (m_right_nd (m_right_lf ⟨1, dX10_some_11, rfl, rfl, rfl⟩) (m_right_nd (m_right_lf ⟨3, dX10_some_12, rfl, rfl, 124, 0, 10, (yX10_here, cX10_here, 1, (some .int)), rfl, me_X10_here, mc_X10_here, Or.inl ⟨(RX10, TX10, 24), rfl, rfl⟩, wd_954, wd_956, wd_19, wd_71⟩) (m_right_lf ⟨2, dX10_some_15, rfl, rfl, by decide +kernel⟩))) (m_right_nd (m_right_lf ⟨3, dX10_some_17, rfl, rfl, 43, rfl, by decide⟩) (m_right_nd (m_right_lf ⟨1, dX10_some_20, rfl, rfl, rfl⟩) (m_right_lf ⟨1, dX10_some_21, rfl, rfl⟩))))) (m_right_nd (m_right_nd (m_right_nd (m_right_lf ⟨3, dX10_some_22, rfl, rfl, 10, 6, rfl, Or.inl ⟨(RX10, TX10, 24), rfl, by decide, wd_872⟩⟩) (m_right_lf ⟨1, dX10_some_25, rfl, rfl, by decide +kernel⟩)) (m_right_nd (m_right_lf ⟨1, dX10_some_26, rfl, rfl⟩) (m_right_nd (m_right_lf ⟨3, dX10_some_27, rfl, rfl, 10, 6, 0, (RX10, TX10, 24), rfl, rfl, by decide, wd_872, Or.inl rfl, tyX10 6, tyX10_ok 6 (by decide), Or.inl ⟨rfl, rfl⟩⟩) (m_right_lf ⟨1, dX10_some_30, rfl, rfl, rfl⟩)))) (m_right_nd (m_right_nd (m_right_lf ⟨3, dX10_some_31, rfl, rfl, 131, 0, 10, (yX10_every, cX10_every, 1, none), rfl, me_X10_every, mc_X10_every, Or.inl ⟨(RX10, TX10, 24), rfl, rfl⟩, wd_1031, wd_1033, wd_26, wd_71⟩) (m_right_nd (m_right_lf ⟨1, dX10_some_34, rfl, rfl, rfl⟩) (m_right_lf ⟨2, dX10_some_35, rfl, rfl, by decide +kernel⟩))) (m_right_nd (m_right_lf ⟨3, dX10_some_37, rfl, rfl, 129, 1, 10, (yX10_emits, cX10_emits, 2, none), rfl, me_X10_emits, mc_X10_emits, Or.inl ⟨(RX10, TX10, 24), rfl, rfl⟩, wd_1039, wd_1041, wd_28, wd_71⟩) (m_right_nd (m_right_lf ⟨3, dX10_some_40, rfl, 4, rfl, by decide⟩) (m_right_lf ⟨1, dX10_some_43, rfl, rfl⟩)))))
theorem dX10_much_0 : decode cX10_much 0 = .ok (.aload_n 0, 1) := by decide +kernel
theorem dX10_much_1 : decode cX10_much 1 = .ok (.aload_n 2, 1) := by decide +kernel
theorem dX10_much_2 : decode cX10_much 2 = .ok (.invokevirtual 112, 3) := by decide +kernel
theorem dX10_much_5 : decode cX10_much 5 = .ok (.aload_n 0, 1) := by decide +kernel
theorem dX10_much_6 : decode cX10_much 6 = .ok (.invokevirtual 106, 3) := by decide +kernel
theorem dX10_much_9 : decode cX10_much 9 = .ok (.istore_n 3, 1) := by decide +kernel
theorem dX10_much_10 : decode cX10_much 10 = .ok (.aload_n 0, 1) := by decide +kernel
theorem dX10_much_11 : decode cX10_much 11 = .ok (.bipush 32, 2) := by decide +kernel
theorem dX10_much_13 : decode cX10_much 13 = .ok (.invokevirtual 79, 3) := by decide +kernel
theorem dX10_much_16 : decode cX10_much 16 = .ok (.aload_n 0, 1) := by decide +kernel
theorem dX10_much_17 : decode cX10_much 17 = .ok (.invokevirtual 95, 3) := by decide +kernel
theorem dX10_much_20 : decode cX10_much 20 = .ok (.aload_n 0, 1) := by decide +kernel
theorem dX10_much_21 : decode cX10_much 21 = .ok (.iload_n 1, 1) := by decide +kernel
theorem dX10_much_22 : decode cX10_much 22 = .ok (.iload_n 3, 1) := by decide +kernel
theorem dX10_much_23 : decode cX10_much 23 = .ok (.isub, 1) := by decide +kernel
theorem dX10_much_24 : decode cX10_much 24 = .ok (.invokevirtual 92, 3) := by decide +kernel
theorem dX10_much_27 : decode cX10_much 27 = .ok (.return_, 1) := by decide +kernel
set_option maxRecDepth 20000 in
theorem r_X10_much : m_Right (yX10_much, cX10_much, 4, none) q_X10_much := m_right_nd (m_right_nd (m_right_nd (m_right_nd (m_right_lf ⟨1, dX10_much_0, rfl, rfl, rfl⟩) (m_right_lf ⟨1, dX10_much_1, rfl, rfl, rfl⟩)) (m_right_nd (m_right_lf ⟨3, dX10_much_2, rfl, rfl, 126, 1, 10, (yX10_spells, cX10_spells, 3, none), rfl, me_X10_spells, mc_X10_spells, Or.inl ⟨(RX10, TX10, 24), rfl, rfl⟩, wd_971, wd_973, wd_23, wd_71⟩) (m_right_lf ⟨1, dX10_much_5, rfl, rfl, rfl⟩))) (m_right_nd (m_right_nd (m_right_lf ⟨3, dX10_much_6, rfl, rfl, 127, 0, 10, (yX10_figures, cX10_figures, 3, (some .int)), rfl, me_X10_figures, mc_X10_figures, Or.inl ⟨(RX10, TX10, 24), rfl, rfl⟩, wd_1023, wd_1025, wd_24, wd_71⟩) (m_right_lf ⟨1, dX10_much_9, rfl, rfl, rfl⟩)) (m_right_nd (m_right_lf ⟨1, dX10_much_10, rfl, rfl, rfl⟩) (m_right_lf ⟨2, dX10_much_11, rfl, rfl, by decide +kernel⟩)))) (m_right_nd (m_right_nd (m_right_nd (m_right_lf ⟨3, dX10_much_13, rfl, rfl, 125, 1, 10, (yX10_must, cX10_must, 2, none), rfl, me_X10_must, mc_X10_must, Or.inl ⟨(RX10, TX10, 24), rfl, rfl⟩, wd_962, wd_964, wd_21, wd_71⟩) (m_right_lf ⟨1, dX10_much_16, rfl, rfl, rfl⟩)) (m_right_nd (m_right_lf ⟨3, dX10_much_17, rfl, rfl, 132, 0, 10, (yX10_some, cX10_some, 1, none), rfl, me_X10_some, mc_X10_some, Or.inl ⟨(RX10, TX10, 24), rfl, rfl⟩, wd_1027, wd_1029, wd_25, wd_71⟩) (m_right_lf ⟨1, dX10_much_20, rfl, rfl, rfl⟩))) (m_right_nd (m_right_nd (m_right_lf ⟨1, dX10_much_21, rfl, rfl, rfl⟩) (m_right_lf ⟨1, dX10_much_22, rfl, rfl, rfl⟩)) (m_right_nd (m_right_lf ⟨1, dX10_much_23, rfl, rfl⟩) (m_right_nd (m_right_lf ⟨3, dX10_much_24, rfl, rfl, 129, 1, 10, (yX10_emits, cX10_emits, 2, none), rfl, me_X10_emits, mc_X10_emits, Or.inl ⟨(RX10, TX10, 24), rfl, rfl⟩, wd_1039, wd_1041, wd_28, wd_71⟩) (m_right_lf ⟨1, dX10_much_27, rfl, rfl⟩)))))
theorem dX10_tellsHere_0 : decode cX10_tellsHere 0 = .ok (.aload_n 0, 1) := by decide +kernel
theorem dX10_tellsHere_1 : decode cX10_tellsHere 1 = .ok (.aload_n 2, 1) := by decide +kernel
theorem dX10_tellsHere_2 : decode cX10_tellsHere 2 = .ok (.invokevirtual 112, 3) := by decide +kernel
theorem dX10_tellsHere_5 : decode cX10_tellsHere 5 = .ok (.aload_n 0, 1) := by decide +kernel
theorem dX10_tellsHere_6 : decode cX10_tellsHere 6 = .ok (.invokevirtual 106, 3) := by decide +kernel
theorem dX10_tellsHere_9 : decode cX10_tellsHere 9 = .ok (.istore_n 3, 1) := by decide +kernel
theorem dX10_tellsHere_10 : decode cX10_tellsHere 10 = .ok (.aload_n 0, 1) := by decide +kernel
theorem dX10_tellsHere_11 : decode cX10_tellsHere 11 = .ok (.getfield 62, 3) := by decide +kernel
theorem dX10_tellsHere_14 : decode cX10_tellsHere 14 = .ok (.ifCond .ne 15, 3) := by decide +kernel
theorem dX10_tellsHere_17 : decode cX10_tellsHere 17 = .ok (.aload_n 0, 1) := by decide +kernel
theorem dX10_tellsHere_18 : decode cX10_tellsHere 18 = .ok (.getfield 9, 3) := by decide +kernel
theorem dX10_tellsHere_21 : decode cX10_tellsHere 21 = .ok (.iload_n 1, 1) := by decide +kernel
theorem dX10_tellsHere_22 : decode cX10_tellsHere 22 = .ok (.aload_n 0, 1) := by decide +kernel
theorem dX10_tellsHere_23 : decode cX10_tellsHere 23 = .ok (.getfield 83, 3) := by decide +kernel
theorem dX10_tellsHere_26 : decode cX10_tellsHere 26 = .ok (.iadd, 1) := by decide +kernel
theorem dX10_tellsHere_27 : decode cX10_tellsHere 27 = .ok (.iload_n 3, 1) := by decide +kernel
theorem dX10_tellsHere_28 : decode cX10_tellsHere 28 = .ok (.iastore, 1) := by decide +kernel
theorem dX10_tellsHere_29 : decode cX10_tellsHere 29 = .ok (.return_, 1) := by decide +kernel
set_option maxRecDepth 20000 in
theorem r_X10_tellsHere : m_Right (yX10_tellsHere, cX10_tellsHere, 4, none) q_X10_tellsHere := m_right_nd (m_right_nd (m_right_nd (m_right_nd (m_right_lf ⟨1, dX10_tellsHere_0, rfl, rfl, rfl⟩) (m_right_lf ⟨1, dX10_tellsHere_1, rfl, rfl, rfl⟩)) (m_right_nd (m_right_lf ⟨3, dX10_tellsHere_2, rfl, rfl, 126, 1, 10, (yX10_spells, cX10_spells, 3, none), rfl, me_X10_spells, mc_X10_spells, Or.inl ⟨(RX10, TX10, 24), rfl, rfl⟩, wd_971, wd_973, wd_23, wd_71⟩) (m_right_lf ⟨1, dX10_tellsHere_5, rfl, rfl, rfl⟩))) (m_right_nd (m_right_nd (m_right_lf ⟨3, dX10_tellsHere_6, rfl, rfl, 127, 0, 10, (yX10_figures, cX10_figures, 3, (some .int)), rfl, me_X10_figures, mc_X10_figures, Or.inl ⟨(RX10, TX10, 24), rfl, rfl⟩, wd_1023, wd_1025, wd_24, wd_71⟩) (m_right_lf ⟨1, dX10_tellsHere_9, rfl, rfl, rfl⟩)) (m_right_nd (m_right_lf ⟨1, dX10_tellsHere_10, rfl, rfl, rfl⟩) (m_right_nd (m_right_lf ⟨3, dX10_tellsHere_11, rfl, rfl, 10, 8, rfl, Or.inl ⟨(RX10, TX10, 24), rfl, by decide, wd_874⟩⟩) (m_right_lf ⟨3, dX10_tellsHere_14, rfl, rfl, 29, rfl, by decide⟩))))) (m_right_nd (m_right_nd (m_right_nd (m_right_lf ⟨1, dX10_tellsHere_17, rfl, rfl, rfl⟩) (m_right_lf ⟨3, dX10_tellsHere_18, rfl, rfl, 10, 1, rfl, Or.inl ⟨(RX10, TX10, 24), rfl, by decide, wd_867⟩⟩)) (m_right_nd (m_right_lf ⟨1, dX10_tellsHere_21, rfl, rfl, rfl⟩) (m_right_lf ⟨1, dX10_tellsHere_22, rfl, rfl, rfl⟩))) (m_right_nd (m_right_nd (m_right_lf ⟨3, dX10_tellsHere_23, rfl, rfl, 10, 5, rfl, Or.inl ⟨(RX10, TX10, 24), rfl, by decide, wd_871⟩⟩) (m_right_lf ⟨1, dX10_tellsHere_26, rfl, rfl⟩)) (m_right_nd (m_right_lf ⟨1, dX10_tellsHere_27, rfl, rfl, rfl⟩) (m_right_nd (m_right_lf ⟨1, dX10_tellsHere_28, rfl, rfl⟩) (m_right_lf ⟨1, dX10_tellsHere_29, rfl, rfl⟩)))))
theorem dX10_clauseOfL_0 : decode cX10_clauseOfL 0 = .ok (.aload_n 0, 1) := by decide +kernel
theorem dX10_clauseOfL_1 : decode cX10_clauseOfL 1 = .ok (.bipush 108, 2) := by decide +kernel
theorem dX10_clauseOfL_3 : decode cX10_clauseOfL 3 = .ok (.invokevirtual 79, 3) := by decide +kernel
theorem dX10_clauseOfL_6 : decode cX10_clauseOfL 6 = .ok (.aload_n 0, 1) := by decide +kernel
theorem dX10_clauseOfL_7 : decode cX10_clauseOfL 7 = .ok (.invokevirtual 66, 3) := by decide +kernel
theorem dX10_clauseOfL_10 : decode cX10_clauseOfL 10 = .ok (.bipush 105, 2) := by decide +kernel
theorem dX10_clauseOfL_12 : decode cX10_clauseOfL 12 = .ok (.if_icmp .ne 14, 3) := by decide +kernel
theorem dX10_clauseOfL_15 : decode cX10_clauseOfL 15 = .ok (.aload_n 0, 1) := by decide +kernel
theorem dX10_clauseOfL_16 : decode cX10_clauseOfL 16 = .ok (.bipush (-10), 2) := by decide +kernel
theorem dX10_clauseOfL_18 : decode cX10_clauseOfL 18 = .ok (.ldc 116, 2) := by decide +kernel
theorem dX10_clauseOfL_20 : decode cX10_clauseOfL 20 = .ok (.invokevirtual 118, 3) := by decide +kernel
theorem dX10_clauseOfL_23 : decode cX10_clauseOfL 23 = .ok (.goto 12, 3) := by decide +kernel
theorem dX10_clauseOfL_26 : decode cX10_clauseOfL 26 = .ok (.aload_n 0, 1) := by decide +kernel
theorem dX10_clauseOfL_27 : decode cX10_clauseOfL 27 = .ok (.sipush 174, 3) := by decide +kernel
theorem dX10_clauseOfL_30 : decode cX10_clauseOfL 30 = .ok (.ldc 122, 2) := by decide +kernel
theorem dX10_clauseOfL_32 : decode cX10_clauseOfL 32 = .ok (.invokevirtual 124, 3) := by decide +kernel
theorem dX10_clauseOfL_35 : decode cX10_clauseOfL 35 = .ok (.return_, 1) := by decide +kernel
set_option maxRecDepth 20000 in
theorem r_X10_clauseOfL : m_Right (yX10_clauseOfL, cX10_clauseOfL, 1, none) q_X10_clauseOfL := m_right_nd (m_right_nd (m_right_nd (m_right_nd (m_right_lf ⟨1, dX10_clauseOfL_0, rfl, rfl, rfl⟩) (m_right_lf ⟨2, dX10_clauseOfL_1, rfl, rfl, by decide +kernel⟩)) (m_right_nd (m_right_lf ⟨3, dX10_clauseOfL_3, rfl, rfl, 125, 1, 10, (yX10_must, cX10_must, 2, none), rfl, me_X10_must, mc_X10_must, Or.inl ⟨(RX10, TX10, 24), rfl, rfl⟩, wd_962, wd_964, wd_21, wd_71⟩) (m_right_lf ⟨1, dX10_clauseOfL_6, rfl, rfl, rfl⟩))) (m_right_nd (m_right_nd (m_right_lf ⟨3, dX10_clauseOfL_7, rfl, rfl, 124, 0, 10, (yX10_here, cX10_here, 1, (some .int)), rfl, me_X10_here, mc_X10_here, Or.inl ⟨(RX10, TX10, 24), rfl, rfl⟩, wd_954, wd_956, wd_19, wd_71⟩) (m_right_lf ⟨2, dX10_clauseOfL_10, rfl, rfl, by decide +kernel⟩)) (m_right_nd (m_right_lf ⟨3, dX10_clauseOfL_12, rfl, rfl, 26, rfl, by decide⟩) (m_right_lf ⟨1, dX10_clauseOfL_15, rfl, rfl, rfl⟩)))) (m_right_nd (m_right_nd (m_right_nd (m_right_lf ⟨2, dX10_clauseOfL_16, rfl, rfl, by decide +kernel⟩) (m_right_lf ⟨2, dX10_clauseOfL_18, rfl, rfl, Or.inr ⟨"ift ", 9, rfl, by decide, by decide +kernel⟩⟩)) (m_right_nd (m_right_lf ⟨3, dX10_clauseOfL_20, rfl, rfl, 133, 2, 10, (yX10_much, cX10_much, 4, none), rfl, me_X10_much, mc_X10_much, Or.inl ⟨(RX10, TX10, 24), rfl, rfl⟩, wd_967, wd_969, wd_22, wd_71⟩) (m_right_lf ⟨3, dX10_clauseOfL_23, rfl, 35, rfl, by decide⟩))) (m_right_nd (m_right_nd (m_right_lf ⟨1, dX10_clauseOfL_26, rfl, rfl, rfl⟩) (m_right_lf ⟨3, dX10_clauseOfL_27, rfl, rfl, by decide +kernel⟩)) (m_right_nd (m_right_lf ⟨2, dX10_clauseOfL_30, rfl, rfl, Or.inr ⟨"ess ", 10, rfl, by decide, by decide +kernel⟩⟩) (m_right_nd (m_right_lf ⟨3, dX10_clauseOfL_32, rfl, rfl, 134, 2, 10, (yX10_tellsHere, cX10_tellsHere, 4, none), rfl, me_X10_tellsHere, mc_X10_tellsHere, Or.inl ⟨(RX10, TX10, 24), rfl, rfl⟩, wd_1050, wd_1052, wd_30, wd_71⟩) (m_right_lf ⟨1, dX10_clauseOfL_35, rfl, rfl⟩)))))
theorem dX10_clauseHere_0 : decode cX10_clauseHere 0 = .ok (.aload_n 0, 1) := by decide +kernel
theorem dX10_clauseHere_1 : decode cX10_clauseHere 1 = .ok (.invokevirtual 66, 3) := by decide +kernel
theorem dX10_clauseHere_4 : decode cX10_clauseHere 4 = .ok (.lookupswitch 67 #[(100, 43), (108, 36), (109, 55)], 36) := by decide +kernel
theorem dX10_clauseHere_40 : decode cX10_clauseHere 40 = .ok (.aload_n 0, 1) := by decide +kernel
theorem dX10_clauseHere_41 : decode cX10_clauseHere 41 = .ok (.invokevirtual 127, 3) := by decide +kernel
theorem dX10_clauseHere_44 : decode cX10_clauseHere 44 = .ok (.goto 32, 3) := by decide +kernel
theorem dX10_clauseHere_47 : decode cX10_clauseHere 47 = .ok (.aload_n 0, 1) := by decide +kernel
theorem dX10_clauseHere_48 : decode cX10_clauseHere 48 = .ok (.sipush (-200), 3) := by decide +kernel
theorem dX10_clauseHere_51 : decode cX10_clauseHere 51 = .ok (.ldc 130, 2) := by decide +kernel
theorem dX10_clauseHere_53 : decode cX10_clauseHere 53 = .ok (.invokevirtual 118, 3) := by decide +kernel
theorem dX10_clauseHere_56 : decode cX10_clauseHere 56 = .ok (.goto 20, 3) := by decide +kernel
theorem dX10_clauseHere_59 : decode cX10_clauseHere 59 = .ok (.aload_n 0, 1) := by decide +kernel
theorem dX10_clauseHere_60 : decode cX10_clauseHere 60 = .ok (.sipush 179, 3) := by decide +kernel
theorem dX10_clauseHere_63 : decode cX10_clauseHere 63 = .ok (.ldc 132, 2) := by decide +kernel
theorem dX10_clauseHere_65 : decode cX10_clauseHere 65 = .ok (.invokevirtual 124, 3) := by decide +kernel
theorem dX10_clauseHere_68 : decode cX10_clauseHere 68 = .ok (.goto 8, 3) := by decide +kernel
theorem dX10_clauseHere_71 : decode cX10_clauseHere 71 = .ok (.aload_n 0, 1) := by decide +kernel
theorem dX10_clauseHere_72 : decode cX10_clauseHere 72 = .ok (.iconst 1, 1) := by decide +kernel
theorem dX10_clauseHere_73 : decode cX10_clauseHere 73 = .ok (.putfield 62, 3) := by decide +kernel
theorem dX10_clauseHere_76 : decode cX10_clauseHere 76 = .ok (.return_, 1) := by decide +kernel
set_option maxRecDepth 20000 in
theorem r_X10_clauseHere : m_Right (yX10_clauseHere, cX10_clauseHere, 1, none) q_X10_clauseHere := m_right_nd (m_right_nd (m_right_nd (m_right_nd (m_right_lf ⟨1, dX10_clauseHere_0, rfl, rfl, rfl⟩) (m_right_lf ⟨3, dX10_clauseHere_1, rfl, rfl, 124, 0, 10, (yX10_here, cX10_here, 1, (some .int)), rfl, me_X10_here, mc_X10_here, Or.inl ⟨(RX10, TX10, 24), rfl, rfl⟩, wd_954, wd_956, wd_19, wd_71⟩)) (m_right_nd (m_right_lf ⟨36, dX10_clauseHere_4, rfl, by decide +kernel⟩) (m_right_nd (m_right_lf ⟨1, dX10_clauseHere_40, rfl, rfl, rfl⟩) (m_right_lf ⟨3, dX10_clauseHere_41, rfl, rfl, 135, 0, 10, (yX10_clauseOfL, cX10_clauseOfL, 1, none), rfl, me_X10_clauseOfL, mc_X10_clauseOfL, Or.inl ⟨(RX10, TX10, 24), rfl, rfl⟩, wd_958, wd_960, wd_20, wd_71⟩)))) (m_right_nd (m_right_nd (m_right_lf ⟨3, dX10_clauseHere_44, rfl, 76, rfl, by decide⟩) (m_right_lf ⟨1, dX10_clauseHere_47, rfl, rfl, rfl⟩)) (m_right_nd (m_right_lf ⟨3, dX10_clauseHere_48, rfl, rfl, by decide +kernel⟩) (m_right_nd (m_right_lf ⟨2, dX10_clauseHere_51, rfl, rfl, Or.inr ⟨"duck ", 11, rfl, by decide, by decide +kernel⟩⟩) (m_right_lf ⟨3, dX10_clauseHere_53, rfl, rfl, 133, 2, 10, (yX10_much, cX10_much, 4, none), rfl, me_X10_much, mc_X10_much, Or.inl ⟨(RX10, TX10, 24), rfl, rfl⟩, wd_967, wd_969, wd_22, wd_71⟩))))) (m_right_nd (m_right_nd (m_right_nd (m_right_lf ⟨3, dX10_clauseHere_56, rfl, 76, rfl, by decide⟩) (m_right_lf ⟨1, dX10_clauseHere_59, rfl, rfl, rfl⟩)) (m_right_nd (m_right_lf ⟨3, dX10_clauseHere_60, rfl, rfl, by decide +kernel⟩) (m_right_nd (m_right_lf ⟨2, dX10_clauseHere_63, rfl, rfl, Or.inr ⟨"more ", 12, rfl, by decide, by decide +kernel⟩⟩) (m_right_lf ⟨3, dX10_clauseHere_65, rfl, rfl, 134, 2, 10, (yX10_tellsHere, cX10_tellsHere, 4, none), rfl, me_X10_tellsHere, mc_X10_tellsHere, Or.inl ⟨(RX10, TX10, 24), rfl, rfl⟩, wd_1050, wd_1052, wd_30, wd_71⟩)))) (m_right_nd (m_right_nd (m_right_lf ⟨3, dX10_clauseHere_68, rfl, 76, rfl, by decide⟩) (m_right_lf ⟨1, dX10_clauseHere_71, rfl, rfl, rfl⟩)) (m_right_nd (m_right_lf ⟨1, dX10_clauseHere_72, rfl, rfl, by decide +kernel⟩) (m_right_nd (m_right_lf ⟨3, dX10_clauseHere_73, rfl, rfl, 10, 8, 2, (RX10, TX10, 24), rfl, rfl, by decide, wd_874, Or.inl rfl, tyX10 8, tyX10_ok 8 (by decide), Or.inr (Or.inr (Or.inl ⟨rfl, rfl⟩))⟩) (m_right_lf ⟨1, dX10_clauseHere_76, rfl, rfl⟩)))))
theorem dX10_inn_0 : decode cX10_inn 0 = .ok (.aload_n 0, 1) := by decide +kernel
theorem dX10_inn_1 : decode cX10_inn 1 = .ok (.getfield 9, 3) := by decide +kernel
theorem dX10_inn_4 : decode cX10_inn 4 = .ok (.bipush 7, 2) := by decide +kernel
theorem dX10_inn_6 : decode cX10_inn 6 = .ok (.iaload, 1) := by decide +kernel
theorem dX10_inn_7 : decode cX10_inn 7 = .ok (.iconst 5, 1) := by decide +kernel
theorem dX10_inn_8 : decode cX10_inn 8 = .ok (.if_icmp .ne 6, 3) := by decide +kernel
theorem dX10_inn_11 : decode cX10_inn 11 = .ok (.bipush (-4), 2) := by decide +kernel
theorem dX10_inn_13 : decode cX10_inn 13 = .ok (.ireturn, 1) := by decide +kernel
theorem dX10_inn_14 : decode cX10_inn 14 = .ok (.aload_n 0, 1) := by decide +kernel
theorem dX10_inn_15 : decode cX10_inn 15 = .ok (.aload_n 0, 1) := by decide +kernel
theorem dX10_inn_16 : decode cX10_inn 16 = .ok (.getfield 9, 3) := by decide +kernel
theorem dX10_inn_19 : decode cX10_inn 19 = .ok (.bipush 7, 2) := by decide +kernel
theorem dX10_inn_21 : decode cX10_inn 21 = .ok (.iaload, 1) := by decide +kernel
theorem dX10_inn_22 : decode cX10_inn 22 = .ok (.putfield 83, 3) := by decide +kernel
theorem dX10_inn_25 : decode cX10_inn 25 = .ok (.aload_n 0, 1) := by decide +kernel
theorem dX10_inn_26 : decode cX10_inn 26 = .ok (.aload_n 0, 1) := by decide +kernel
theorem dX10_inn_27 : decode cX10_inn 27 = .ok (.getfield 9, 3) := by decide +kernel
theorem dX10_inn_30 : decode cX10_inn 30 = .ok (.bipush 10, 2) := by decide +kernel
theorem dX10_inn_32 : decode cX10_inn 32 = .ok (.iaload, 1) := by decide +kernel
theorem dX10_inn_33 : decode cX10_inn 33 = .ok (.putfield 59, 3) := by decide +kernel
theorem dX10_inn_36 : decode cX10_inn 36 = .ok (.aload_n 0, 1) := by decide +kernel
theorem dX10_inn_37 : decode cX10_inn 37 = .ok (.getfield 9, 3) := by decide +kernel
theorem dX10_inn_40 : decode cX10_inn 40 = .ok (.bipush 10, 2) := by decide +kernel
theorem dX10_inn_42 : decode cX10_inn 42 = .ok (.iconst 0, 1) := by decide +kernel
theorem dX10_inn_43 : decode cX10_inn 43 = .ok (.iastore, 1) := by decide +kernel
theorem dX10_inn_44 : decode cX10_inn 44 = .ok (.aload_n 0, 1) := by decide +kernel
theorem dX10_inn_45 : decode cX10_inn 45 = .ok (.getfield 9, 3) := by decide +kernel
theorem dX10_inn_48 : decode cX10_inn 48 = .ok (.sipush 174, 3) := by decide +kernel
theorem dX10_inn_51 : decode cX10_inn 51 = .ok (.aload_n 0, 1) := by decide +kernel
theorem dX10_inn_52 : decode cX10_inn 52 = .ok (.getfield 83, 3) := by decide +kernel
theorem dX10_inn_55 : decode cX10_inn 55 = .ok (.iadd, 1) := by decide +kernel
theorem dX10_inn_56 : decode cX10_inn 56 = .ok (.iconst 1, 1) := by decide +kernel
theorem dX10_inn_57 : decode cX10_inn 57 = .ok (.iastore, 1) := by decide +kernel
theorem dX10_inn_58 : decode cX10_inn 58 = .ok (.aload_n 0, 1) := by decide +kernel
theorem dX10_inn_59 : decode cX10_inn 59 = .ok (.getfield 9, 3) := by decide +kernel
theorem dX10_inn_62 : decode cX10_inn 62 = .ok (.sipush 179, 3) := by decide +kernel
theorem dX10_inn_65 : decode cX10_inn 65 = .ok (.aload_n 0, 1) := by decide +kernel
theorem dX10_inn_66 : decode cX10_inn 66 = .ok (.getfield 83, 3) := by decide +kernel
theorem dX10_inn_69 : decode cX10_inn 69 = .ok (.iadd, 1) := by decide +kernel
theorem dX10_inn_70 : decode cX10_inn 70 = .ok (.iconst 1, 1) := by decide +kernel
theorem dX10_inn_71 : decode cX10_inn 71 = .ok (.iastore, 1) := by decide +kernel
theorem dX10_inn_72 : decode cX10_inn 72 = .ok (.aload_n 0, 1) := by decide +kernel
theorem dX10_inn_73 : decode cX10_inn 73 = .ok (.getfield 9, 3) := by decide +kernel
theorem dX10_inn_76 : decode cX10_inn 76 = .ok (.sipush 184, 3) := by decide +kernel
theorem dX10_inn_79 : decode cX10_inn 79 = .ok (.aload_n 0, 1) := by decide +kernel
theorem dX10_inn_80 : decode cX10_inn 80 = .ok (.getfield 83, 3) := by decide +kernel
theorem dX10_inn_83 : decode cX10_inn 83 = .ok (.iadd, 1) := by decide +kernel
theorem dX10_inn_84 : decode cX10_inn 84 = .ok (.iconst 0, 1) := by decide +kernel
theorem dX10_inn_85 : decode cX10_inn 85 = .ok (.iastore, 1) := by decide +kernel
theorem dX10_inn_86 : decode cX10_inn 86 = .ok (.aload_n 0, 1) := by decide +kernel
theorem dX10_inn_87 : decode cX10_inn 87 = .ok (.iconst 0, 1) := by decide +kernel
theorem dX10_inn_88 : decode cX10_inn 88 = .ok (.putfield 56, 3) := by decide +kernel
theorem dX10_inn_91 : decode cX10_inn 91 = .ok (.aload_n 0, 1) := by decide +kernel
theorem dX10_inn_92 : decode cX10_inn 92 = .ok (.iconst 0, 1) := by decide +kernel
theorem dX10_inn_93 : decode cX10_inn 93 = .ok (.putfield 62, 3) := by decide +kernel
theorem dX10_inn_96 : decode cX10_inn 96 = .ok (.aload_n 0, 1) := by decide +kernel
theorem dX10_inn_97 : decode cX10_inn 97 = .ok (.iconst 0, 1) := by decide +kernel
theorem dX10_inn_98 : decode cX10_inn 98 = .ok (.putfield 86, 3) := by decide +kernel
theorem dX10_inn_101 : decode cX10_inn 101 = .ok (.iconst 1, 1) := by decide +kernel
theorem dX10_inn_102 : decode cX10_inn 102 = .ok (.istore_n 1, 1) := by decide +kernel
theorem dX10_inn_103 : decode cX10_inn 103 = .ok (.aload_n 0, 1) := by decide +kernel
theorem dX10_inn_104 : decode cX10_inn 104 = .ok (.invokevirtual 134, 3) := by decide +kernel
theorem dX10_inn_107 : decode cX10_inn 107 = .ok (.aload_n 0, 1) := by decide +kernel
theorem dX10_inn_108 : decode cX10_inn 108 = .ok (.getfield 62, 3) := by decide +kernel
theorem dX10_inn_111 : decode cX10_inn 111 = .ok (.ifCond .ne 38, 3) := by decide +kernel
theorem dX10_inn_114 : decode cX10_inn 114 = .ok (.iload_n 1, 1) := by decide +kernel
theorem dX10_inn_115 : decode cX10_inn 115 = .ok (.bipush 10, 2) := by decide +kernel
theorem dX10_inn_117 : decode cX10_inn 117 = .ok (.if_icmp .ge 32, 3) := by decide +kernel
theorem dX10_inn_120 : decode cX10_inn 120 = .ok (.aload_n 0, 1) := by decide +kernel
theorem dX10_inn_121 : decode cX10_inn 121 = .ok (.invokevirtual 66, 3) := by decide +kernel
theorem dX10_inn_124 : decode cX10_inn 124 = .ok (.bipush 59, 2) := by decide +kernel
theorem dX10_inn_126 : decode cX10_inn 126 = .ok (.if_icmp .ne 23, 3) := by decide +kernel
theorem dX10_inn_129 : decode cX10_inn 129 = .ok (.aload_n 0, 1) := by decide +kernel
theorem dX10_inn_130 : decode cX10_inn 130 = .ok (.dup, 1) := by decide +kernel
theorem dX10_inn_131 : decode cX10_inn 131 = .ok (.getfield 56, 3) := by decide +kernel
theorem dX10_inn_134 : decode cX10_inn 134 = .ok (.iconst 1, 1) := by decide +kernel
theorem dX10_inn_135 : decode cX10_inn 135 = .ok (.iadd, 1) := by decide +kernel
theorem dX10_inn_136 : decode cX10_inn 136 = .ok (.putfield 56, 3) := by decide +kernel
theorem dX10_inn_139 : decode cX10_inn 139 = .ok (.aload_n 0, 1) := by decide +kernel
theorem dX10_inn_140 : decode cX10_inn 140 = .ok (.invokevirtual 134, 3) := by decide +kernel
theorem dX10_inn_143 : decode cX10_inn 143 = .ok (.iinc 1 1, 3) := by decide +kernel
theorem dX10_inn_146 : decode cX10_inn 146 = .ok (.goto (-39), 3) := by decide +kernel
theorem dX10_inn_149 : decode cX10_inn 149 = .ok (.aload_n 0, 1) := by decide +kernel
theorem dX10_inn_150 : decode cX10_inn 150 = .ok (.getfield 62, 3) := by decide +kernel
theorem dX10_inn_153 : decode cX10_inn 153 = .ok (.ifCond .ne 14, 3) := by decide +kernel
theorem dX10_inn_156 : decode cX10_inn 156 = .ok (.aload_n 0, 1) := by decide +kernel
theorem dX10_inn_157 : decode cX10_inn 157 = .ok (.getfield 56, 3) := by decide +kernel
theorem dX10_inn_160 : decode cX10_inn 160 = .ok (.aload_n 0, 1) := by decide +kernel
theorem dX10_inn_161 : decode cX10_inn 161 = .ok (.getfield 59, 3) := by decide +kernel
theorem dX10_inn_164 : decode cX10_inn 164 = .ok (.if_icmp .eq 11, 3) := by decide +kernel
theorem dX10_inn_167 : decode cX10_inn 167 = .ok (.bipush (-10), 2) := by decide +kernel
theorem dX10_inn_169 : decode cX10_inn 169 = .ok (.aload_n 0, 1) := by decide +kernel
theorem dX10_inn_170 : decode cX10_inn 170 = .ok (.getfield 56, 3) := by decide +kernel
theorem dX10_inn_173 : decode cX10_inn 173 = .ok (.isub, 1) := by decide +kernel
theorem dX10_inn_174 : decode cX10_inn 174 = .ok (.ireturn, 1) := by decide +kernel
theorem dX10_inn_175 : decode cX10_inn 175 = .ok (.aload_n 0, 1) := by decide +kernel
theorem dX10_inn_176 : decode cX10_inn 176 = .ok (.getfield 9, 3) := by decide +kernel
theorem dX10_inn_179 : decode cX10_inn 179 = .ok (.bipush 7, 2) := by decide +kernel
theorem dX10_inn_181 : decode cX10_inn 181 = .ok (.dup2, 1) := by decide +kernel
theorem dX10_inn_182 : decode cX10_inn 182 = .ok (.iaload, 1) := by decide +kernel
theorem dX10_inn_183 : decode cX10_inn 183 = .ok (.iconst 1, 1) := by decide +kernel
theorem dX10_inn_184 : decode cX10_inn 184 = .ok (.iadd, 1) := by decide +kernel
theorem dX10_inn_185 : decode cX10_inn 185 = .ok (.iastore, 1) := by decide +kernel
theorem dX10_inn_186 : decode cX10_inn 186 = .ok (.aload_n 0, 1) := by decide +kernel
theorem dX10_inn_187 : decode cX10_inn 187 = .ok (.getfield 9, 3) := by decide +kernel
theorem dX10_inn_190 : decode cX10_inn 190 = .ok (.bipush 11, 2) := by decide +kernel
theorem dX10_inn_192 : decode cX10_inn 192 = .ok (.aload_n 0, 1) := by decide +kernel
theorem dX10_inn_193 : decode cX10_inn 193 = .ok (.getfield 83, 3) := by decide +kernel
theorem dX10_inn_196 : decode cX10_inn 196 = .ok (.iastore, 1) := by decide +kernel
theorem dX10_inn_197 : decode cX10_inn 197 = .ok (.aload_n 0, 1) := by decide +kernel
theorem dX10_inn_198 : decode cX10_inn 198 = .ok (.getfield 83, 3) := by decide +kernel
theorem dX10_inn_201 : decode cX10_inn 201 = .ok (.ireturn, 1) := by decide +kernel
set_option maxRecDepth 20000 in
theorem r_X10_inn : m_Right (yX10_inn, cX10_inn, 2, (some .int)) q_X10_inn := m_right_nd (m_right_nd (m_right_nd (m_right_nd (m_right_nd (m_right_nd (m_right_lf ⟨1, dX10_inn_0, rfl, rfl, rfl⟩) (m_right_nd (m_right_lf ⟨3, dX10_inn_1, rfl, rfl, 10, 1, rfl, Or.inl ⟨(RX10, TX10, 24), rfl, by decide, wd_867⟩⟩) (m_right_lf ⟨2, dX10_inn_4, rfl, rfl, by decide +kernel⟩))) (m_right_nd (m_right_nd (m_right_lf ⟨1, dX10_inn_6, rfl, rfl⟩) (m_right_lf ⟨1, dX10_inn_7, rfl, rfl, by decide +kernel⟩)) (m_right_nd (m_right_lf ⟨3, dX10_inn_8, rfl, rfl, 14, rfl, by decide⟩) (m_right_lf ⟨2, dX10_inn_11, rfl, rfl, by decide +kernel⟩)))) (m_right_nd (m_right_nd (m_right_lf ⟨1, dX10_inn_13, rfl, 0, .int, rfl, rfl, Or.inl ⟨rfl, rfl⟩⟩) (m_right_nd (m_right_lf ⟨1, dX10_inn_14, rfl, rfl, rfl⟩) (m_right_lf ⟨1, dX10_inn_15, rfl, rfl, rfl⟩))) (m_right_nd (m_right_nd (m_right_lf ⟨3, dX10_inn_16, rfl, rfl, 10, 1, rfl, Or.inl ⟨(RX10, TX10, 24), rfl, by decide, wd_867⟩⟩) (m_right_lf ⟨2, dX10_inn_19, rfl, rfl, by decide +kernel⟩)) (m_right_nd (m_right_lf ⟨1, dX10_inn_21, rfl, rfl⟩) (m_right_lf ⟨3, dX10_inn_22, rfl, rfl, 10, 5, 0, (RX10, TX10, 24), rfl, rfl, by decide, wd_871, Or.inl rfl, tyX10 5, tyX10_ok 5 (by decide), Or.inl ⟨rfl, rfl⟩⟩))))) (m_right_nd (m_right_nd (m_right_nd (m_right_lf ⟨1, dX10_inn_25, rfl, rfl, rfl⟩) (m_right_nd (m_right_lf ⟨1, dX10_inn_26, rfl, rfl, rfl⟩) (m_right_lf ⟨3, dX10_inn_27, rfl, rfl, 10, 1, rfl, Or.inl ⟨(RX10, TX10, 24), rfl, by decide, wd_867⟩⟩))) (m_right_nd (m_right_nd (m_right_lf ⟨2, dX10_inn_30, rfl, rfl, by decide +kernel⟩) (m_right_lf ⟨1, dX10_inn_32, rfl, rfl⟩)) (m_right_nd (m_right_lf ⟨3, dX10_inn_33, rfl, rfl, 10, 7, 0, (RX10, TX10, 24), rfl, rfl, by decide, wd_873, Or.inl rfl, tyX10 7, tyX10_ok 7 (by decide), Or.inl ⟨rfl, rfl⟩⟩) (m_right_lf ⟨1, dX10_inn_36, rfl, rfl, rfl⟩)))) (m_right_nd (m_right_nd (m_right_lf ⟨3, dX10_inn_37, rfl, rfl, 10, 1, rfl, Or.inl ⟨(RX10, TX10, 24), rfl, by decide, wd_867⟩⟩) (m_right_nd (m_right_lf ⟨2, dX10_inn_40, rfl, rfl, by decide +kernel⟩) (m_right_lf ⟨1, dX10_inn_42, rfl, rfl, by decide +kernel⟩))) (m_right_nd (m_right_nd (m_right_lf ⟨1, dX10_inn_43, rfl, rfl⟩) (m_right_lf ⟨1, dX10_inn_44, rfl, rfl, rfl⟩)) (m_right_nd (m_right_lf ⟨3, dX10_inn_45, rfl, rfl, 10, 1, rfl, Or.inl ⟨(RX10, TX10, 24), rfl, by decide, wd_867⟩⟩) (m_right_lf ⟨3, dX10_inn_48, rfl, rfl, by decide +kernel⟩)))))) (m_right_nd (m_right_nd (m_right_nd (m_right_nd (m_right_lf ⟨1, dX10_inn_51, rfl, rfl, rfl⟩) (m_right_nd (m_right_lf ⟨3, dX10_inn_52, rfl, rfl, 10, 5, rfl, Or.inl ⟨(RX10, TX10, 24), rfl, by decide, wd_871⟩⟩) (m_right_lf ⟨1, dX10_inn_55, rfl, rfl⟩))) (m_right_nd (m_right_nd (m_right_lf ⟨1, dX10_inn_56, rfl, rfl, by decide +kernel⟩) (m_right_lf ⟨1, dX10_inn_57, rfl, rfl⟩)) (m_right_nd (m_right_lf ⟨1, dX10_inn_58, rfl, rfl, rfl⟩) (m_right_lf ⟨3, dX10_inn_59, rfl, rfl, 10, 1, rfl, Or.inl ⟨(RX10, TX10, 24), rfl, by decide, wd_867⟩⟩)))) (m_right_nd (m_right_nd (m_right_lf ⟨3, dX10_inn_62, rfl, rfl, by decide +kernel⟩) (m_right_nd (m_right_lf ⟨1, dX10_inn_65, rfl, rfl, rfl⟩) (m_right_lf ⟨3, dX10_inn_66, rfl, rfl, 10, 5, rfl, Or.inl ⟨(RX10, TX10, 24), rfl, by decide, wd_871⟩⟩))) (m_right_nd (m_right_nd (m_right_lf ⟨1, dX10_inn_69, rfl, rfl⟩) (m_right_lf ⟨1, dX10_inn_70, rfl, rfl, by decide +kernel⟩)) (m_right_nd (m_right_lf ⟨1, dX10_inn_71, rfl, rfl⟩) (m_right_lf ⟨1, dX10_inn_72, rfl, rfl, rfl⟩))))) (m_right_nd (m_right_nd (m_right_nd (m_right_lf ⟨3, dX10_inn_73, rfl, rfl, 10, 1, rfl, Or.inl ⟨(RX10, TX10, 24), rfl, by decide, wd_867⟩⟩) (m_right_nd (m_right_lf ⟨3, dX10_inn_76, rfl, rfl, by decide +kernel⟩) (m_right_lf ⟨1, dX10_inn_79, rfl, rfl, rfl⟩))) (m_right_nd (m_right_nd (m_right_lf ⟨3, dX10_inn_80, rfl, rfl, 10, 5, rfl, Or.inl ⟨(RX10, TX10, 24), rfl, by decide, wd_871⟩⟩) (m_right_lf ⟨1, dX10_inn_83, rfl, rfl⟩)) (m_right_nd (m_right_lf ⟨1, dX10_inn_84, rfl, rfl, by decide +kernel⟩) (m_right_lf ⟨1, dX10_inn_85, rfl, rfl⟩)))) (m_right_nd (m_right_nd (m_right_lf ⟨1, dX10_inn_86, rfl, rfl, rfl⟩) (m_right_nd (m_right_lf ⟨1, dX10_inn_87, rfl, rfl, by decide +kernel⟩) (m_right_lf ⟨3, dX10_inn_88, rfl, rfl, 10, 6, 0, (RX10, TX10, 24), rfl, rfl, by decide, wd_872, Or.inl rfl, tyX10 6, tyX10_ok 6 (by decide), Or.inl ⟨rfl, rfl⟩⟩))) (m_right_nd (m_right_nd (m_right_lf ⟨1, dX10_inn_91, rfl, rfl, rfl⟩) (m_right_lf ⟨1, dX10_inn_92, rfl, rfl, by decide +kernel⟩)) (m_right_nd (m_right_lf ⟨3, dX10_inn_93, rfl, rfl, 10, 8, 2, (RX10, TX10, 24), rfl, rfl, by decide, wd_874, Or.inl rfl, tyX10 8, tyX10_ok 8 (by decide), Or.inr (Or.inr (Or.inl ⟨rfl, rfl⟩))⟩) (m_right_lf ⟨1, dX10_inn_96, rfl, rfl, rfl⟩))))))) (m_right_nd (m_right_nd (m_right_nd (m_right_nd (m_right_nd (m_right_lf ⟨1, dX10_inn_97, rfl, rfl, by decide +kernel⟩) (m_right_nd (m_right_lf ⟨3, dX10_inn_98, rfl, rfl, 10, 9, 0, (RX10, TX10, 24), rfl, rfl, by decide, wd_875, Or.inl rfl, tyX10 9, tyX10_ok 9 (by decide), Or.inl ⟨rfl, rfl⟩⟩) (m_right_lf ⟨1, dX10_inn_101, rfl, rfl, by decide +kernel⟩))) (m_right_nd (m_right_nd (m_right_lf ⟨1, dX10_inn_102, rfl, rfl, rfl⟩) (m_right_lf ⟨1, dX10_inn_103, rfl, rfl, rfl⟩)) (m_right_nd (m_right_lf ⟨3, dX10_inn_104, rfl, rfl, 136, 0, 10, (yX10_clauseHere, cX10_clauseHere, 1, none), rfl, me_X10_clauseHere, mc_X10_clauseHere, Or.inl ⟨(RX10, TX10, 24), rfl, rfl⟩, wd_950, wd_952, wd_18, wd_71⟩) (m_right_lf ⟨1, dX10_inn_107, rfl, rfl, rfl⟩)))) (m_right_nd (m_right_nd (m_right_lf ⟨3, dX10_inn_108, rfl, rfl, 10, 8, rfl, Or.inl ⟨(RX10, TX10, 24), rfl, by decide, wd_874⟩⟩) (m_right_nd (m_right_lf ⟨3, dX10_inn_111, rfl, rfl, 149, rfl, by decide⟩) (m_right_lf ⟨1, dX10_inn_114, rfl, rfl, rfl⟩))) (m_right_nd (m_right_nd (m_right_lf ⟨2, dX10_inn_115, rfl, rfl, by decide +kernel⟩) (m_right_lf ⟨3, dX10_inn_117, rfl, rfl, 149, rfl, by decide⟩)) (m_right_nd (m_right_lf ⟨1, dX10_inn_120, rfl, rfl, rfl⟩) (m_right_lf ⟨3, dX10_inn_121, rfl, rfl, 124, 0, 10, (yX10_here, cX10_here, 1, (some .int)), rfl, me_X10_here, mc_X10_here, Or.inl ⟨(RX10, TX10, 24), rfl, rfl⟩, wd_954, wd_956, wd_19, wd_71⟩))))) (m_right_nd (m_right_nd (m_right_nd (m_right_lf ⟨2, dX10_inn_124, rfl, rfl, by decide +kernel⟩) (m_right_nd (m_right_lf ⟨3, dX10_inn_126, rfl, rfl, 149, rfl, by decide⟩) (m_right_lf ⟨1, dX10_inn_129, rfl, rfl, rfl⟩))) (m_right_nd (m_right_nd (m_right_lf ⟨1, dX10_inn_130, rfl, rfl⟩) (m_right_lf ⟨3, dX10_inn_131, rfl, rfl, 10, 6, rfl, Or.inl ⟨(RX10, TX10, 24), rfl, by decide, wd_872⟩⟩)) (m_right_nd (m_right_lf ⟨1, dX10_inn_134, rfl, rfl, by decide +kernel⟩) (m_right_lf ⟨1, dX10_inn_135, rfl, rfl⟩)))) (m_right_nd (m_right_nd (m_right_lf ⟨3, dX10_inn_136, rfl, rfl, 10, 6, 0, (RX10, TX10, 24), rfl, rfl, by decide, wd_872, Or.inl rfl, tyX10 6, tyX10_ok 6 (by decide), Or.inl ⟨rfl, rfl⟩⟩) (m_right_nd (m_right_lf ⟨1, dX10_inn_139, rfl, rfl, rfl⟩) (m_right_lf ⟨3, dX10_inn_140, rfl, rfl, 136, 0, 10, (yX10_clauseHere, cX10_clauseHere, 1, none), rfl, me_X10_clauseHere, mc_X10_clauseHere, Or.inl ⟨(RX10, TX10, 24), rfl, rfl⟩, wd_950, wd_952, wd_18, wd_71⟩))) (m_right_nd (m_right_nd (m_right_lf ⟨3, dX10_inn_143, rfl, rfl, rfl, by decide +kernel⟩) (m_right_lf ⟨3, dX10_inn_146, rfl, 107, rfl, by decide⟩)) (m_right_nd (m_right_lf ⟨1, dX10_inn_149, rfl, rfl, rfl⟩) (m_right_lf ⟨3, dX10_inn_150, rfl, rfl, 10, 8, rfl, Or.inl ⟨(RX10, TX10, 24), rfl, by decide, wd_874⟩⟩)))))) (m_right_nd (m_right_nd (m_right_nd (m_right_nd (m_right_lf ⟨3, dX10_inn_153, rfl, rfl, 167, rfl, by decide⟩) (m_right_nd (m_right_lf ⟨1, dX10_inn_156, rfl, rfl, rfl⟩) (m_right_lf ⟨3, dX10_inn_157, rfl, rfl, 10, 6, rfl, Or.inl ⟨(RX10, TX10, 24), rfl, by decide, wd_872⟩⟩))) (m_right_nd (m_right_nd (m_right_lf ⟨1, dX10_inn_160, rfl, rfl, rfl⟩) (m_right_lf ⟨3, dX10_inn_161, rfl, rfl, 10, 7, rfl, Or.inl ⟨(RX10, TX10, 24), rfl, by decide, wd_873⟩⟩)) (m_right_nd (m_right_lf ⟨3, dX10_inn_164, rfl, rfl, 175, rfl, by decide⟩) (m_right_lf ⟨2, dX10_inn_167, rfl, rfl, by decide +kernel⟩)))) (m_right_nd (m_right_nd (m_right_lf ⟨1, dX10_inn_169, rfl, rfl, rfl⟩) (m_right_nd (m_right_lf ⟨3, dX10_inn_170, rfl, rfl, 10, 6, rfl, Or.inl ⟨(RX10, TX10, 24), rfl, by decide, wd_872⟩⟩) (m_right_lf ⟨1, dX10_inn_173, rfl, rfl⟩))) (m_right_nd (m_right_nd (m_right_lf ⟨1, dX10_inn_174, rfl, 0, .int, rfl, rfl, Or.inl ⟨rfl, rfl⟩⟩) (m_right_lf ⟨1, dX10_inn_175, rfl, rfl, rfl⟩)) (m_right_nd (m_right_lf ⟨3, dX10_inn_176, rfl, rfl, 10, 1, rfl, Or.inl ⟨(RX10, TX10, 24), rfl, by decide, wd_867⟩⟩) (m_right_lf ⟨2, dX10_inn_179, rfl, rfl, by decide +kernel⟩))))) (m_right_nd (m_right_nd (m_right_nd (m_right_lf ⟨1, dX10_inn_181, rfl, rfl⟩) (m_right_nd (m_right_lf ⟨1, dX10_inn_182, rfl, rfl⟩) (m_right_lf ⟨1, dX10_inn_183, rfl, rfl, by decide +kernel⟩))) (m_right_nd (m_right_nd (m_right_lf ⟨1, dX10_inn_184, rfl, rfl⟩) (m_right_lf ⟨1, dX10_inn_185, rfl, rfl⟩)) (m_right_nd (m_right_lf ⟨1, dX10_inn_186, rfl, rfl, rfl⟩) (m_right_lf ⟨3, dX10_inn_187, rfl, rfl, 10, 1, rfl, Or.inl ⟨(RX10, TX10, 24), rfl, by decide, wd_867⟩⟩)))) (m_right_nd (m_right_nd (m_right_lf ⟨2, dX10_inn_190, rfl, rfl, by decide +kernel⟩) (m_right_nd (m_right_lf ⟨1, dX10_inn_192, rfl, rfl, rfl⟩) (m_right_lf ⟨3, dX10_inn_193, rfl, rfl, 10, 5, rfl, Or.inl ⟨(RX10, TX10, 24), rfl, by decide, wd_871⟩⟩))) (m_right_nd (m_right_nd (m_right_lf ⟨1, dX10_inn_196, rfl, rfl⟩) (m_right_lf ⟨1, dX10_inn_197, rfl, rfl, rfl⟩)) (m_right_nd (m_right_lf ⟨3, dX10_inn_198, rfl, rfl, 10, 5, rfl, Or.inl ⟨(RX10, TX10, 24), rfl, by decide, wd_871⟩⟩) (m_right_lf ⟨1, dX10_inn_201, rfl, 0, .int, rfl, rfl, Or.inl ⟨rfl, rfl⟩⟩)))))))
theorem dX10_tellsOf_0 : decode cX10_tellsOf 0 = .ok (.aload_n 0, 1) := by decide +kernel
theorem dX10_tellsOf_1 : decode cX10_tellsOf 1 = .ok (.getfield 9, 3) := by decide +kernel
theorem dX10_tellsOf_4 : decode cX10_tellsOf 4 = .ok (.bipush 11, 2) := by decide +kernel
theorem dX10_tellsOf_6 : decode cX10_tellsOf 6 = .ok (.iaload, 1) := by decide +kernel
theorem dX10_tellsOf_7 : decode cX10_tellsOf 7 = .ok (.iconst (-1), 1) := by decide +kernel
theorem dX10_tellsOf_8 : decode cX10_tellsOf 8 = .ok (.if_icmp .ne 7, 3) := by decide +kernel
theorem dX10_tellsOf_11 : decode cX10_tellsOf 11 = .ok (.iconst 1, 1) := by decide +kernel
theorem dX10_tellsOf_12 : decode cX10_tellsOf 12 = .ok (.goto 17, 3) := by decide +kernel
theorem dX10_tellsOf_15 : decode cX10_tellsOf 15 = .ok (.aload_n 0, 1) := by decide +kernel
theorem dX10_tellsOf_16 : decode cX10_tellsOf 16 = .ok (.getfield 9, 3) := by decide +kernel
theorem dX10_tellsOf_19 : decode cX10_tellsOf 19 = .ok (.iload_n 1, 1) := by decide +kernel
theorem dX10_tellsOf_20 : decode cX10_tellsOf 20 = .ok (.aload_n 0, 1) := by decide +kernel
theorem dX10_tellsOf_21 : decode cX10_tellsOf 21 = .ok (.getfield 9, 3) := by decide +kernel
theorem dX10_tellsOf_24 : decode cX10_tellsOf 24 = .ok (.bipush 11, 2) := by decide +kernel
theorem dX10_tellsOf_26 : decode cX10_tellsOf 26 = .ok (.iaload, 1) := by decide +kernel
theorem dX10_tellsOf_27 : decode cX10_tellsOf 27 = .ok (.iadd, 1) := by decide +kernel
theorem dX10_tellsOf_28 : decode cX10_tellsOf 28 = .ok (.iaload, 1) := by decide +kernel
theorem dX10_tellsOf_29 : decode cX10_tellsOf 29 = .ok (.ireturn, 1) := by decide +kernel
set_option maxRecDepth 20000 in
theorem r_X10_tellsOf : m_Right (yX10_tellsOf, cX10_tellsOf, 2, (some .int)) q_X10_tellsOf := m_right_nd (m_right_nd (m_right_nd (m_right_nd (m_right_lf ⟨1, dX10_tellsOf_0, rfl, rfl, rfl⟩) (m_right_lf ⟨3, dX10_tellsOf_1, rfl, rfl, 10, 1, rfl, Or.inl ⟨(RX10, TX10, 24), rfl, by decide, wd_867⟩⟩)) (m_right_nd (m_right_lf ⟨2, dX10_tellsOf_4, rfl, rfl, by decide +kernel⟩) (m_right_lf ⟨1, dX10_tellsOf_6, rfl, rfl⟩))) (m_right_nd (m_right_nd (m_right_lf ⟨1, dX10_tellsOf_7, rfl, rfl, by decide +kernel⟩) (m_right_lf ⟨3, dX10_tellsOf_8, rfl, rfl, 15, rfl, by decide⟩)) (m_right_nd (m_right_lf ⟨1, dX10_tellsOf_11, rfl, rfl, by decide +kernel⟩) (m_right_nd (m_right_lf ⟨3, dX10_tellsOf_12, rfl, 29, rfl, by decide⟩) (m_right_lf ⟨1, dX10_tellsOf_15, rfl, rfl, rfl⟩))))) (m_right_nd (m_right_nd (m_right_nd (m_right_lf ⟨3, dX10_tellsOf_16, rfl, rfl, 10, 1, rfl, Or.inl ⟨(RX10, TX10, 24), rfl, by decide, wd_867⟩⟩) (m_right_lf ⟨1, dX10_tellsOf_19, rfl, rfl, rfl⟩)) (m_right_nd (m_right_lf ⟨1, dX10_tellsOf_20, rfl, rfl, rfl⟩) (m_right_lf ⟨3, dX10_tellsOf_21, rfl, rfl, 10, 1, rfl, Or.inl ⟨(RX10, TX10, 24), rfl, by decide, wd_867⟩⟩))) (m_right_nd (m_right_nd (m_right_lf ⟨2, dX10_tellsOf_24, rfl, rfl, by decide +kernel⟩) (m_right_lf ⟨1, dX10_tellsOf_26, rfl, rfl⟩)) (m_right_nd (m_right_lf ⟨1, dX10_tellsOf_27, rfl, rfl⟩) (m_right_nd (m_right_lf ⟨1, dX10_tellsOf_28, rfl, rfl⟩) (m_right_lf ⟨1, dX10_tellsOf_29, rfl, 0, .int, rfl, rfl, Or.inl ⟨rfl, rfl⟩⟩)))))
theorem dX10_player_0 : decode cX10_player 0 = .ok (.iload_n 1, 1) := by decide +kernel
theorem dX10_player_1 : decode cX10_player 1 = .ok (.iconst 0, 1) := by decide +kernel
theorem dX10_player_2 : decode cX10_player 2 = .ok (.bipush 6, 2) := by decide +kernel
theorem dX10_player_4 : decode cX10_player 4 = .ok (.invokestatic 48, 3) := by decide +kernel
theorem dX10_player_7 : decode cX10_player 7 = .ok (.ifCond .ne 5, 3) := by decide +kernel
theorem dX10_player_10 : decode cX10_player 10 = .ok (.iconst (-1), 1) := by decide +kernel
theorem dX10_player_11 : decode cX10_player 11 = .ok (.ireturn, 1) := by decide +kernel
theorem dX10_player_12 : decode cX10_player 12 = .ok (.iload_n 2, 1) := by decide +kernel
theorem dX10_player_13 : decode cX10_player 13 = .ok (.iconst 0, 1) := by decide +kernel
theorem dX10_player_14 : decode cX10_player 14 = .ok (.bipush 9, 2) := by decide +kernel
theorem dX10_player_16 : decode cX10_player 16 = .ok (.invokestatic 48, 3) := by decide +kernel
theorem dX10_player_19 : decode cX10_player 19 = .ok (.ifCond .ne 6, 3) := by decide +kernel
theorem dX10_player_22 : decode cX10_player 22 = .ok (.bipush (-2), 2) := by decide +kernel
theorem dX10_player_24 : decode cX10_player 24 = .ok (.ireturn, 1) := by decide +kernel
theorem dX10_player_25 : decode cX10_player 25 = .ok (.aload_n 0, 1) := by decide +kernel
theorem dX10_player_26 : decode cX10_player 26 = .ok (.getfield 9, 3) := by decide +kernel
theorem dX10_player_29 : decode cX10_player 29 = .ok (.bipush 6, 2) := by decide +kernel
theorem dX10_player_31 : decode cX10_player 31 = .ok (.iaload, 1) := by decide +kernel
theorem dX10_player_32 : decode cX10_player 32 = .ok (.iconst 5, 1) := by decide +kernel
theorem dX10_player_33 : decode cX10_player 33 = .ok (.if_icmp .ne 6, 3) := by decide +kernel
theorem dX10_player_36 : decode cX10_player 36 = .ok (.bipush (-4), 2) := by decide +kernel
theorem dX10_player_38 : decode cX10_player 38 = .ok (.ireturn, 1) := by decide +kernel
theorem dX10_player_39 : decode cX10_player 39 = .ok (.aload_n 0, 1) := by decide +kernel
theorem dX10_player_40 : decode cX10_player 40 = .ok (.getfield 9, 3) := by decide +kernel
theorem dX10_player_43 : decode cX10_player 43 = .ok (.bipush 6, 2) := by decide +kernel
theorem dX10_player_45 : decode cX10_player 45 = .ok (.iaload, 1) := by decide +kernel
theorem dX10_player_46 : decode cX10_player 46 = .ok (.istore_n 3, 1) := by decide +kernel
theorem dX10_player_47 : decode cX10_player 47 = .ok (.aload_n 0, 1) := by decide +kernel
theorem dX10_player_48 : decode cX10_player 48 = .ok (.getfield 9, 3) := by decide +kernel
theorem dX10_player_51 : decode cX10_player 51 = .ok (.bipush 12, 2) := by decide +kernel
theorem dX10_player_53 : decode cX10_player 53 = .ok (.iload_n 3, 1) := by decide +kernel
theorem dX10_player_54 : decode cX10_player 54 = .ok (.iadd, 1) := by decide +kernel
theorem dX10_player_55 : decode cX10_player 55 = .ok (.iload_n 1, 1) := by decide +kernel
theorem dX10_player_56 : decode cX10_player 56 = .ok (.iastore, 1) := by decide +kernel
theorem dX10_player_57 : decode cX10_player 57 = .ok (.aload_n 0, 1) := by decide +kernel
theorem dX10_player_58 : decode cX10_player 58 = .ok (.getfield 9, 3) := by decide +kernel
theorem dX10_player_61 : decode cX10_player 61 = .ok (.bipush 17, 2) := by decide +kernel
theorem dX10_player_63 : decode cX10_player 63 = .ok (.iload_n 3, 1) := by decide +kernel
theorem dX10_player_64 : decode cX10_player 64 = .ok (.iadd, 1) := by decide +kernel
theorem dX10_player_65 : decode cX10_player 65 = .ok (.iload_n 2, 1) := by decide +kernel
theorem dX10_player_66 : decode cX10_player 66 = .ok (.iastore, 1) := by decide +kernel
theorem dX10_player_67 : decode cX10_player 67 = .ok (.aload_n 0, 1) := by decide +kernel
theorem dX10_player_68 : decode cX10_player 68 = .ok (.getfield 9, 3) := by decide +kernel
theorem dX10_player_71 : decode cX10_player 71 = .ok (.iconst 1, 1) := by decide +kernel
theorem dX10_player_72 : decode cX10_player 72 = .ok (.iload_n 3, 1) := by decide +kernel
theorem dX10_player_73 : decode cX10_player 73 = .ok (.iadd, 1) := by decide +kernel
theorem dX10_player_74 : decode cX10_player 74 = .ok (.bipush 8, 2) := by decide +kernel
theorem dX10_player_76 : decode cX10_player 76 = .ok (.iastore, 1) := by decide +kernel
theorem dX10_player_77 : decode cX10_player 77 = .ok (.iconst 0, 1) := by decide +kernel
theorem dX10_player_78 : decode cX10_player 78 = .ok (.istore 4, 2) := by decide +kernel
theorem dX10_player_80 : decode cX10_player 80 = .ok (.iload 4, 2) := by decide +kernel
theorem dX10_player_82 : decode cX10_player 82 = .ok (.iconst 4, 1) := by decide +kernel
theorem dX10_player_83 : decode cX10_player 83 = .ok (.if_icmp .ge 24, 3) := by decide +kernel
theorem dX10_player_86 : decode cX10_player 86 = .ok (.aload_n 0, 1) := by decide +kernel
theorem dX10_player_87 : decode cX10_player 87 = .ok (.getfield 9, 3) := by decide +kernel
theorem dX10_player_90 : decode cX10_player 90 = .ok (.bipush 22, 2) := by decide +kernel
theorem dX10_player_92 : decode cX10_player 92 = .ok (.iconst 4, 1) := by decide +kernel
theorem dX10_player_93 : decode cX10_player 93 = .ok (.iload_n 3, 1) := by decide +kernel
theorem dX10_player_94 : decode cX10_player 94 = .ok (.imul, 1) := by decide +kernel
theorem dX10_player_95 : decode cX10_player 95 = .ok (.iadd, 1) := by decide +kernel
theorem dX10_player_96 : decode cX10_player 96 = .ok (.iload 4, 2) := by decide +kernel
theorem dX10_player_98 : decode cX10_player 98 = .ok (.iadd, 1) := by decide +kernel
theorem dX10_player_99 : decode cX10_player 99 = .ok (.iconst 4, 1) := by decide +kernel
theorem dX10_player_100 : decode cX10_player 100 = .ok (.iastore, 1) := by decide +kernel
theorem dX10_player_101 : decode cX10_player 101 = .ok (.iinc 4 1, 3) := by decide +kernel
theorem dX10_player_104 : decode cX10_player 104 = .ok (.goto (-24), 3) := by decide +kernel
theorem dX10_player_107 : decode cX10_player 107 = .ok (.aload_n 0, 1) := by decide +kernel
theorem dX10_player_108 : decode cX10_player 108 = .ok (.getfield 9, 3) := by decide +kernel
theorem dX10_player_111 : decode cX10_player 111 = .ok (.bipush 6, 2) := by decide +kernel
theorem dX10_player_113 : decode cX10_player 113 = .ok (.dup2, 1) := by decide +kernel
theorem dX10_player_114 : decode cX10_player 114 = .ok (.iaload, 1) := by decide +kernel
theorem dX10_player_115 : decode cX10_player 115 = .ok (.iconst 1, 1) := by decide +kernel
theorem dX10_player_116 : decode cX10_player 116 = .ok (.iadd, 1) := by decide +kernel
theorem dX10_player_117 : decode cX10_player 117 = .ok (.iastore, 1) := by decide +kernel
theorem dX10_player_118 : decode cX10_player 118 = .ok (.iload_n 3, 1) := by decide +kernel
theorem dX10_player_119 : decode cX10_player 119 = .ok (.ireturn, 1) := by decide +kernel
set_option maxRecDepth 20000 in
theorem r_X10_player : m_Right (yX10_player, cX10_player, 5, (some .int)) q_X10_player := m_right_nd (m_right_nd (m_right_nd (m_right_nd (m_right_nd (m_right_nd (m_right_lf ⟨1, dX10_player_0, rfl, rfl, rfl⟩) (m_right_lf ⟨1, dX10_player_1, rfl, rfl, by decide +kernel⟩)) (m_right_nd (m_right_lf ⟨2, dX10_player_2, rfl, rfl, by decide +kernel⟩) (m_right_lf ⟨3, dX10_player_4, rfl, rfl, Or.inr (Or.inr ⟨118, 3, (yX10_in, cX10_in, 3, (some .boolean)), rfl, me_X10_in, mc_X10_in, wd_943, wd_944, wd_71⟩)⟩))) (m_right_nd (m_right_nd (m_right_lf ⟨3, dX10_player_7, rfl, rfl, 12, rfl, by decide⟩) (m_right_lf ⟨1, dX10_player_10, rfl, rfl, by decide +kernel⟩)) (m_right_nd (m_right_lf ⟨1, dX10_player_11, rfl, 0, .int, rfl, rfl, Or.inl ⟨rfl, rfl⟩⟩) (m_right_nd (m_right_lf ⟨1, dX10_player_12, rfl, rfl, rfl⟩) (m_right_lf ⟨1, dX10_player_13, rfl, rfl, by decide +kernel⟩))))) (m_right_nd (m_right_nd (m_right_nd (m_right_lf ⟨2, dX10_player_14, rfl, rfl, by decide +kernel⟩) (m_right_lf ⟨3, dX10_player_16, rfl, rfl, Or.inr (Or.inr ⟨118, 3, (yX10_in, cX10_in, 3, (some .boolean)), rfl, me_X10_in, mc_X10_in, wd_943, wd_944, wd_71⟩)⟩)) (m_right_nd (m_right_lf ⟨3, dX10_player_19, rfl, rfl, 25, rfl, by decide⟩) (m_right_nd (m_right_lf ⟨2, dX10_player_22, rfl, rfl, by decide +kernel⟩) (m_right_lf ⟨1, dX10_player_24, rfl, 0, .int, rfl, rfl, Or.inl ⟨rfl, rfl⟩⟩)))) (m_right_nd (m_right_nd (m_right_lf ⟨1, dX10_player_25, rfl, rfl, rfl⟩) (m_right_lf ⟨3, dX10_player_26, rfl, rfl, 10, 1, rfl, Or.inl ⟨(RX10, TX10, 24), rfl, by decide, wd_867⟩⟩)) (m_right_nd (m_right_lf ⟨2, dX10_player_29, rfl, rfl, by decide +kernel⟩) (m_right_nd (m_right_lf ⟨1, dX10_player_31, rfl, rfl⟩) (m_right_lf ⟨1, dX10_player_32, rfl, rfl, by decide +kernel⟩)))))) (m_right_nd (m_right_nd (m_right_nd (m_right_nd (m_right_lf ⟨3, dX10_player_33, rfl, rfl, 39, rfl, by decide⟩) (m_right_lf ⟨2, dX10_player_36, rfl, rfl, by decide +kernel⟩)) (m_right_nd (m_right_lf ⟨1, dX10_player_38, rfl, 0, .int, rfl, rfl, Or.inl ⟨rfl, rfl⟩⟩) (m_right_lf ⟨1, dX10_player_39, rfl, rfl, rfl⟩))) (m_right_nd (m_right_nd (m_right_lf ⟨3, dX10_player_40, rfl, rfl, 10, 1, rfl, Or.inl ⟨(RX10, TX10, 24), rfl, by decide, wd_867⟩⟩) (m_right_lf ⟨2, dX10_player_43, rfl, rfl, by decide +kernel⟩)) (m_right_nd (m_right_lf ⟨1, dX10_player_45, rfl, rfl⟩) (m_right_nd (m_right_lf ⟨1, dX10_player_46, rfl, rfl, rfl⟩) (m_right_lf ⟨1, dX10_player_47, rfl, rfl, rfl⟩))))) (m_right_nd (m_right_nd (m_right_nd (m_right_lf ⟨3, dX10_player_48, rfl, rfl, 10, 1, rfl, Or.inl ⟨(RX10, TX10, 24), rfl, by decide, wd_867⟩⟩) (m_right_lf ⟨2, dX10_player_51, rfl, rfl, by decide +kernel⟩)) (m_right_nd (m_right_lf ⟨1, dX10_player_53, rfl, rfl, rfl⟩) (m_right_nd (m_right_lf ⟨1, dX10_player_54, rfl, rfl⟩) (m_right_lf ⟨1, dX10_player_55, rfl, rfl, rfl⟩)))) (m_right_nd (m_right_nd (m_right_lf ⟨1, dX10_player_56, rfl, rfl⟩) (m_right_lf ⟨1, dX10_player_57, rfl, rfl, rfl⟩)) (m_right_nd (m_right_lf ⟨3, dX10_player_58, rfl, rfl, 10, 1, rfl, Or.inl ⟨(RX10, TX10, 24), rfl, by decide, wd_867⟩⟩) (m_right_nd (m_right_lf ⟨2, dX10_player_61, rfl, rfl, by decide +kernel⟩) (m_right_lf ⟨1, dX10_player_63, rfl, rfl, rfl⟩))))))) (m_right_nd (m_right_nd (m_right_nd (m_right_nd (m_right_nd (m_right_lf ⟨1, dX10_player_64, rfl, rfl⟩) (m_right_lf ⟨1, dX10_player_65, rfl, rfl, rfl⟩)) (m_right_nd (m_right_lf ⟨1, dX10_player_66, rfl, rfl⟩) (m_right_lf ⟨1, dX10_player_67, rfl, rfl, rfl⟩))) (m_right_nd (m_right_nd (m_right_lf ⟨3, dX10_player_68, rfl, rfl, 10, 1, rfl, Or.inl ⟨(RX10, TX10, 24), rfl, by decide, wd_867⟩⟩) (m_right_lf ⟨1, dX10_player_71, rfl, rfl, by decide +kernel⟩)) (m_right_nd (m_right_lf ⟨1, dX10_player_72, rfl, rfl, rfl⟩) (m_right_nd (m_right_lf ⟨1, dX10_player_73, rfl, rfl⟩) (m_right_lf ⟨2, dX10_player_74, rfl, rfl, by decide +kernel⟩))))) (m_right_nd (m_right_nd (m_right_nd (m_right_lf ⟨1, dX10_player_76, rfl, rfl⟩) (m_right_lf ⟨1, dX10_player_77, rfl, rfl, by decide +kernel⟩)) (m_right_nd (m_right_lf ⟨2, dX10_player_78, rfl, rfl, rfl⟩) (m_right_nd (m_right_lf ⟨2, dX10_player_80, rfl, rfl, rfl⟩) (m_right_lf ⟨1, dX10_player_82, rfl, rfl, by decide +kernel⟩)))) (m_right_nd (m_right_nd (m_right_lf ⟨3, dX10_player_83, rfl, rfl, 107, rfl, by decide⟩) (m_right_lf ⟨1, dX10_player_86, rfl, rfl, rfl⟩)) (m_right_nd (m_right_lf ⟨3, dX10_player_87, rfl, rfl, 10, 1, rfl, Or.inl ⟨(RX10, TX10, 24), rfl, by decide, wd_867⟩⟩) (m_right_nd (m_right_lf ⟨2, dX10_player_90, rfl, rfl, by decide +kernel⟩) (m_right_lf ⟨1, dX10_player_92, rfl, rfl, by decide +kernel⟩)))))) (m_right_nd (m_right_nd (m_right_nd (m_right_nd (m_right_lf ⟨1, dX10_player_93, rfl, rfl, rfl⟩) (m_right_lf ⟨1, dX10_player_94, rfl, rfl⟩)) (m_right_nd (m_right_lf ⟨1, dX10_player_95, rfl, rfl⟩) (m_right_lf ⟨2, dX10_player_96, rfl, rfl, rfl⟩))) (m_right_nd (m_right_nd (m_right_lf ⟨1, dX10_player_98, rfl, rfl⟩) (m_right_lf ⟨1, dX10_player_99, rfl, rfl, by decide +kernel⟩)) (m_right_nd (m_right_lf ⟨1, dX10_player_100, rfl, rfl⟩) (m_right_nd (m_right_lf ⟨3, dX10_player_101, rfl, rfl, rfl, by decide +kernel⟩) (m_right_lf ⟨3, dX10_player_104, rfl, 80, rfl, by decide⟩))))) (m_right_nd (m_right_nd (m_right_nd (m_right_lf ⟨1, dX10_player_107, rfl, rfl, rfl⟩) (m_right_lf ⟨3, dX10_player_108, rfl, rfl, 10, 1, rfl, Or.inl ⟨(RX10, TX10, 24), rfl, by decide, wd_867⟩⟩)) (m_right_nd (m_right_lf ⟨2, dX10_player_111, rfl, rfl, by decide +kernel⟩) (m_right_nd (m_right_lf ⟨1, dX10_player_113, rfl, rfl⟩) (m_right_lf ⟨1, dX10_player_114, rfl, rfl⟩)))) (m_right_nd (m_right_nd (m_right_lf ⟨1, dX10_player_115, rfl, rfl, by decide +kernel⟩) (m_right_lf ⟨1, dX10_player_116, rfl, rfl⟩)) (m_right_nd (m_right_lf ⟨1, dX10_player_117, rfl, rfl⟩) (m_right_nd (m_right_lf ⟨1, dX10_player_118, rfl, rfl, rfl⟩) (m_right_lf ⟨1, dX10_player_119, rfl, 0, .int, rfl, rfl, Or.inl ⟨rfl, rfl⟩⟩)))))))
theorem dX10_of_0 : decode cX10_of 0 = .ok (.aload_n 0, 1) := by decide +kernel
theorem dX10_of_1 : decode cX10_of 1 = .ok (.iload_n 1, 1) := by decide +kernel
theorem dX10_of_2 : decode cX10_of 2 = .ok (.invokevirtual 52, 3) := by decide +kernel
theorem dX10_of_5 : decode cX10_of 5 = .ok (.ifCond .eq 12, 3) := by decide +kernel
theorem dX10_of_8 : decode cX10_of 8 = .ok (.iload_n 2, 1) := by decide +kernel
theorem dX10_of_9 : decode cX10_of 9 = .ok (.iconst 0, 1) := by decide +kernel
theorem dX10_of_10 : decode cX10_of 10 = .ok (.iconst 2, 1) := by decide +kernel
theorem dX10_of_11 : decode cX10_of 11 = .ok (.invokestatic 48, 3) := by decide +kernel
theorem dX10_of_14 : decode cX10_of 14 = .ok (.ifCond .ne 5, 3) := by decide +kernel
theorem dX10_of_17 : decode cX10_of 17 = .ok (.iconst (-1), 1) := by decide +kernel
theorem dX10_of_18 : decode cX10_of 18 = .ok (.ireturn, 1) := by decide +kernel
theorem dX10_of_19 : decode cX10_of 19 = .ok (.iload_n 2, 1) := by decide +kernel
theorem dX10_of_20 : decode cX10_of 20 = .ok (.iconst 2, 1) := by decide +kernel
theorem dX10_of_21 : decode cX10_of 21 = .ok (.if_icmp .ne 14, 3) := by decide +kernel
theorem dX10_of_24 : decode cX10_of 24 = .ok (.aload_n 0, 1) := by decide +kernel
theorem dX10_of_25 : decode cX10_of 25 = .ok (.getfield 9, 3) := by decide +kernel
theorem dX10_of_28 : decode cX10_of 28 = .ok (.iconst 1, 1) := by decide +kernel
theorem dX10_of_29 : decode cX10_of 29 = .ok (.iload_n 1, 1) := by decide +kernel
theorem dX10_of_30 : decode cX10_of 30 = .ok (.iadd, 1) := by decide +kernel
theorem dX10_of_31 : decode cX10_of 31 = .ok (.iaload, 1) := by decide +kernel
theorem dX10_of_32 : decode cX10_of 32 = .ok (.goto 16, 3) := by decide +kernel
theorem dX10_of_35 : decode cX10_of 35 = .ok (.aload_n 0, 1) := by decide +kernel
theorem dX10_of_36 : decode cX10_of 36 = .ok (.getfield 9, 3) := by decide +kernel
theorem dX10_of_39 : decode cX10_of 39 = .ok (.bipush 12, 2) := by decide +kernel
theorem dX10_of_41 : decode cX10_of 41 = .ok (.iconst 5, 1) := by decide +kernel
theorem dX10_of_42 : decode cX10_of 42 = .ok (.iload_n 2, 1) := by decide +kernel
theorem dX10_of_43 : decode cX10_of 43 = .ok (.imul, 1) := by decide +kernel
theorem dX10_of_44 : decode cX10_of 44 = .ok (.iadd, 1) := by decide +kernel
theorem dX10_of_45 : decode cX10_of 45 = .ok (.iload_n 1, 1) := by decide +kernel
theorem dX10_of_46 : decode cX10_of 46 = .ok (.iadd, 1) := by decide +kernel
theorem dX10_of_47 : decode cX10_of 47 = .ok (.iaload, 1) := by decide +kernel
theorem dX10_of_48 : decode cX10_of 48 = .ok (.ireturn, 1) := by decide +kernel
set_option maxRecDepth 20000 in
theorem r_X10_of : m_Right (yX10_of, cX10_of, 3, (some .int)) q_X10_of := m_right_nd (m_right_nd (m_right_nd (m_right_nd (m_right_nd (m_right_lf ⟨1, dX10_of_0, rfl, rfl, rfl⟩) (m_right_lf ⟨1, dX10_of_1, rfl, rfl, rfl⟩)) (m_right_nd (m_right_lf ⟨3, dX10_of_2, rfl, rfl, 119, 1, 10, (yX10_isPlayer, cX10_isPlayer, 2, (some .boolean)), rfl, me_X10_isPlayer, mc_X10_isPlayer, Or.inl ⟨(RX10, TX10, 24), rfl, rfl⟩, wd_1065, wd_1067, wd_31, wd_71⟩) (m_right_lf ⟨3, dX10_of_5, rfl, rfl, 17, rfl, by decide⟩))) (m_right_nd (m_right_nd (m_right_lf ⟨1, dX10_of_8, rfl, rfl, rfl⟩) (m_right_lf ⟨1, dX10_of_9, rfl, rfl, by decide +kernel⟩)) (m_right_nd (m_right_lf ⟨1, dX10_of_10, rfl, rfl, by decide +kernel⟩) (m_right_lf ⟨3, dX10_of_11, rfl, rfl, Or.inr (Or.inr ⟨118, 3, (yX10_in, cX10_in, 3, (some .boolean)), rfl, me_X10_in, mc_X10_in, wd_943, wd_944, wd_71⟩)⟩)))) (m_right_nd (m_right_nd (m_right_nd (m_right_lf ⟨3, dX10_of_14, rfl, rfl, 19, rfl, by decide⟩) (m_right_lf ⟨1, dX10_of_17, rfl, rfl, by decide +kernel⟩)) (m_right_nd (m_right_lf ⟨1, dX10_of_18, rfl, 0, .int, rfl, rfl, Or.inl ⟨rfl, rfl⟩⟩) (m_right_lf ⟨1, dX10_of_19, rfl, rfl, rfl⟩))) (m_right_nd (m_right_nd (m_right_lf ⟨1, dX10_of_20, rfl, rfl, by decide +kernel⟩) (m_right_lf ⟨3, dX10_of_21, rfl, rfl, 35, rfl, by decide⟩)) (m_right_nd (m_right_lf ⟨1, dX10_of_24, rfl, rfl, rfl⟩) (m_right_lf ⟨3, dX10_of_25, rfl, rfl, 10, 1, rfl, Or.inl ⟨(RX10, TX10, 24), rfl, by decide, wd_867⟩⟩))))) (m_right_nd (m_right_nd (m_right_nd (m_right_nd (m_right_lf ⟨1, dX10_of_28, rfl, rfl, by decide +kernel⟩) (m_right_lf ⟨1, dX10_of_29, rfl, rfl, rfl⟩)) (m_right_nd (m_right_lf ⟨1, dX10_of_30, rfl, rfl⟩) (m_right_lf ⟨1, dX10_of_31, rfl, rfl⟩))) (m_right_nd (m_right_nd (m_right_lf ⟨3, dX10_of_32, rfl, 48, rfl, by decide⟩) (m_right_lf ⟨1, dX10_of_35, rfl, rfl, rfl⟩)) (m_right_nd (m_right_lf ⟨3, dX10_of_36, rfl, rfl, 10, 1, rfl, Or.inl ⟨(RX10, TX10, 24), rfl, by decide, wd_867⟩⟩) (m_right_lf ⟨2, dX10_of_39, rfl, rfl, by decide +kernel⟩)))) (m_right_nd (m_right_nd (m_right_nd (m_right_lf ⟨1, dX10_of_41, rfl, rfl, by decide +kernel⟩) (m_right_lf ⟨1, dX10_of_42, rfl, rfl, rfl⟩)) (m_right_nd (m_right_lf ⟨1, dX10_of_43, rfl, rfl⟩) (m_right_lf ⟨1, dX10_of_44, rfl, rfl⟩))) (m_right_nd (m_right_nd (m_right_lf ⟨1, dX10_of_45, rfl, rfl, rfl⟩) (m_right_lf ⟨1, dX10_of_46, rfl, rfl⟩)) (m_right_nd (m_right_lf ⟨1, dX10_of_47, rfl, rfl⟩) (m_right_lf ⟨1, dX10_of_48, rfl, 0, .int, rfl, rfl, Or.inl ⟨rfl, rfl⟩⟩)))))
theorem dX10_men_0 : decode cX10_men 0 = .ok (.aload_n 0, 1) := by decide +kernel
theorem dX10_men_1 : decode cX10_men 1 = .ok (.iload_n 1, 1) := by decide +kernel
theorem dX10_men_2 : decode cX10_men 2 = .ok (.invokevirtual 52, 3) := by decide +kernel
theorem dX10_men_5 : decode cX10_men 5 = .ok (.ifCond .ne 5, 3) := by decide +kernel
theorem dX10_men_8 : decode cX10_men 8 = .ok (.iconst (-1), 1) := by decide +kernel
theorem dX10_men_9 : decode cX10_men 9 = .ok (.ireturn, 1) := by decide +kernel
theorem dX10_men_10 : decode cX10_men 10 = .ok (.iload_n 2, 1) := by decide +kernel
theorem dX10_men_11 : decode cX10_men 11 = .ok (.iconst 1, 1) := by decide +kernel
theorem dX10_men_12 : decode cX10_men 12 = .ok (.bipush 20, 2) := by decide +kernel
theorem dX10_men_14 : decode cX10_men 14 = .ok (.invokestatic 48, 3) := by decide +kernel
theorem dX10_men_17 : decode cX10_men 17 = .ok (.ifCond .ne 6, 3) := by decide +kernel
theorem dX10_men_20 : decode cX10_men 20 = .ok (.bipush (-2), 2) := by decide +kernel
theorem dX10_men_22 : decode cX10_men 22 = .ok (.ireturn, 1) := by decide +kernel
theorem dX10_men_23 : decode cX10_men 23 = .ok (.aload_n 0, 1) := by decide +kernel
theorem dX10_men_24 : decode cX10_men 24 = .ok (.getfield 9, 3) := by decide +kernel
theorem dX10_men_27 : decode cX10_men 27 = .ok (.iconst 1, 1) := by decide +kernel
theorem dX10_men_28 : decode cX10_men 28 = .ok (.iload_n 1, 1) := by decide +kernel
theorem dX10_men_29 : decode cX10_men 29 = .ok (.iadd, 1) := by decide +kernel
theorem dX10_men_30 : decode cX10_men 30 = .ok (.iaload, 1) := by decide +kernel
theorem dX10_men_31 : decode cX10_men 31 = .ok (.istore_n 3, 1) := by decide +kernel
theorem dX10_men_32 : decode cX10_men 32 = .ok (.aload_n 0, 1) := by decide +kernel
theorem dX10_men_33 : decode cX10_men 33 = .ok (.getfield 9, 3) := by decide +kernel
theorem dX10_men_36 : decode cX10_men 36 = .ok (.iconst 1, 1) := by decide +kernel
theorem dX10_men_37 : decode cX10_men 37 = .ok (.iload_n 1, 1) := by decide +kernel
theorem dX10_men_38 : decode cX10_men 38 = .ok (.iadd, 1) := by decide +kernel
theorem dX10_men_39 : decode cX10_men 39 = .ok (.iload_n 2, 1) := by decide +kernel
theorem dX10_men_40 : decode cX10_men 40 = .ok (.iastore, 1) := by decide +kernel
theorem dX10_men_41 : decode cX10_men 41 = .ok (.iload_n 3, 1) := by decide +kernel
theorem dX10_men_42 : decode cX10_men 42 = .ok (.ireturn, 1) := by decide +kernel
set_option maxRecDepth 20000 in
theorem r_X10_men : m_Right (yX10_men, cX10_men, 4, (some .int)) q_X10_men := m_right_nd (m_right_nd (m_right_nd (m_right_nd (m_right_lf ⟨1, dX10_men_0, rfl, rfl, rfl⟩) (m_right_nd (m_right_lf ⟨1, dX10_men_1, rfl, rfl, rfl⟩) (m_right_lf ⟨3, dX10_men_2, rfl, rfl, 119, 1, 10, (yX10_isPlayer, cX10_isPlayer, 2, (some .boolean)), rfl, me_X10_isPlayer, mc_X10_isPlayer, Or.inl ⟨(RX10, TX10, 24), rfl, rfl⟩, wd_1065, wd_1067, wd_31, wd_71⟩))) (m_right_nd (m_right_nd (m_right_lf ⟨3, dX10_men_5, rfl, rfl, 10, rfl, by decide⟩) (m_right_lf ⟨1, dX10_men_8, rfl, rfl, by decide +kernel⟩)) (m_right_nd (m_right_lf ⟨1, dX10_men_9, rfl, 0, .int, rfl, rfl, Or.inl ⟨rfl, rfl⟩⟩) (m_right_lf ⟨1, dX10_men_10, rfl, rfl, rfl⟩)))) (m_right_nd (m_right_nd (m_right_lf ⟨1, dX10_men_11, rfl, rfl, by decide +kernel⟩) (m_right_nd (m_right_lf ⟨2, dX10_men_12, rfl, rfl, by decide +kernel⟩) (m_right_lf ⟨3, dX10_men_14, rfl, rfl, Or.inr (Or.inr ⟨118, 3, (yX10_in, cX10_in, 3, (some .boolean)), rfl, me_X10_in, mc_X10_in, wd_943, wd_944, wd_71⟩)⟩))) (m_right_nd (m_right_nd (m_right_lf ⟨3, dX10_men_17, rfl, rfl, 23, rfl, by decide⟩) (m_right_lf ⟨2, dX10_men_20, rfl, rfl, by decide +kernel⟩)) (m_right_nd (m_right_lf ⟨1, dX10_men_22, rfl, 0, .int, rfl, rfl, Or.inl ⟨rfl, rfl⟩⟩) (m_right_lf ⟨1, dX10_men_23, rfl, rfl, rfl⟩))))) (m_right_nd (m_right_nd (m_right_nd (m_right_lf ⟨3, dX10_men_24, rfl, rfl, 10, 1, rfl, Or.inl ⟨(RX10, TX10, 24), rfl, by decide, wd_867⟩⟩) (m_right_nd (m_right_lf ⟨1, dX10_men_27, rfl, rfl, by decide +kernel⟩) (m_right_lf ⟨1, dX10_men_28, rfl, rfl, rfl⟩))) (m_right_nd (m_right_nd (m_right_lf ⟨1, dX10_men_29, rfl, rfl⟩) (m_right_lf ⟨1, dX10_men_30, rfl, rfl⟩)) (m_right_nd (m_right_lf ⟨1, dX10_men_31, rfl, rfl, rfl⟩) (m_right_lf ⟨1, dX10_men_32, rfl, rfl, rfl⟩)))) (m_right_nd (m_right_nd (m_right_nd (m_right_lf ⟨3, dX10_men_33, rfl, rfl, 10, 1, rfl, Or.inl ⟨(RX10, TX10, 24), rfl, by decide, wd_867⟩⟩) (m_right_lf ⟨1, dX10_men_36, rfl, rfl, by decide +kernel⟩)) (m_right_nd (m_right_lf ⟨1, dX10_men_37, rfl, rfl, rfl⟩) (m_right_lf ⟨1, dX10_men_38, rfl, rfl⟩))) (m_right_nd (m_right_nd (m_right_lf ⟨1, dX10_men_39, rfl, rfl, rfl⟩) (m_right_lf ⟨1, dX10_men_40, rfl, rfl⟩)) (m_right_nd (m_right_lf ⟨1, dX10_men_41, rfl, rfl, rfl⟩) (m_right_lf ⟨1, dX10_men_42, rfl, 0, .int, rfl, rfl, Or.inl ⟨rfl, rfl⟩⟩)))))
theorem dX10_row_0 : decode cX10_row 0 = .ok (.aload_n 0, 1) := by decide +kernel
theorem dX10_row_1 : decode cX10_row 1 = .ok (.iload_n 1, 1) := by decide +kernel
theorem dX10_row_2 : decode cX10_row 2 = .ok (.invokevirtual 52, 3) := by decide +kernel
theorem dX10_row_5 : decode cX10_row 5 = .ok (.ifCond .eq 12, 3) := by decide +kernel
theorem dX10_row_8 : decode cX10_row 8 = .ok (.iload_n 2, 1) := by decide +kernel
theorem dX10_row_9 : decode cX10_row 9 = .ok (.iconst 0, 1) := by decide +kernel
theorem dX10_row_10 : decode cX10_row 10 = .ok (.iconst 3, 1) := by decide +kernel
theorem dX10_row_11 : decode cX10_row 11 = .ok (.invokestatic 48, 3) := by decide +kernel
theorem dX10_row_14 : decode cX10_row 14 = .ok (.ifCond .ne 5, 3) := by decide +kernel
theorem dX10_row_17 : decode cX10_row 17 = .ok (.iconst (-1), 1) := by decide +kernel
theorem dX10_row_18 : decode cX10_row 18 = .ok (.ireturn, 1) := by decide +kernel
theorem dX10_row_19 : decode cX10_row 19 = .ok (.iload_n 3, 1) := by decide +kernel
theorem dX10_row_20 : decode cX10_row 20 = .ok (.iconst 0, 1) := by decide +kernel
theorem dX10_row_21 : decode cX10_row 21 = .ok (.bipush 9, 2) := by decide +kernel
theorem dX10_row_23 : decode cX10_row 23 = .ok (.invokestatic 48, 3) := by decide +kernel
theorem dX10_row_26 : decode cX10_row 26 = .ok (.ifCond .ne 6, 3) := by decide +kernel
theorem dX10_row_29 : decode cX10_row 29 = .ok (.bipush (-2), 2) := by decide +kernel
theorem dX10_row_31 : decode cX10_row 31 = .ok (.ireturn, 1) := by decide +kernel
theorem dX10_row_32 : decode cX10_row 32 = .ok (.aload_n 0, 1) := by decide +kernel
theorem dX10_row_33 : decode cX10_row 33 = .ok (.getfield 9, 3) := by decide +kernel
theorem dX10_row_36 : decode cX10_row 36 = .ok (.bipush 12, 2) := by decide +kernel
theorem dX10_row_38 : decode cX10_row 38 = .ok (.iload_n 1, 1) := by decide +kernel
theorem dX10_row_39 : decode cX10_row 39 = .ok (.iadd, 1) := by decide +kernel
theorem dX10_row_40 : decode cX10_row 40 = .ok (.iaload, 1) := by decide +kernel
theorem dX10_row_41 : decode cX10_row 41 = .ok (.bipush 6, 2) := by decide +kernel
theorem dX10_row_43 : decode cX10_row 43 = .ok (.if_icmp .eq 6, 3) := by decide +kernel
theorem dX10_row_46 : decode cX10_row 46 = .ok (.bipush (-3), 2) := by decide +kernel
theorem dX10_row_48 : decode cX10_row 48 = .ok (.ireturn, 1) := by decide +kernel
theorem dX10_row_49 : decode cX10_row 49 = .ok (.aload_n 0, 1) := by decide +kernel
theorem dX10_row_50 : decode cX10_row 50 = .ok (.getfield 9, 3) := by decide +kernel
theorem dX10_row_53 : decode cX10_row 53 = .ok (.bipush 22, 2) := by decide +kernel
theorem dX10_row_55 : decode cX10_row 55 = .ok (.iconst 4, 1) := by decide +kernel
theorem dX10_row_56 : decode cX10_row 56 = .ok (.iload_n 1, 1) := by decide +kernel
theorem dX10_row_57 : decode cX10_row 57 = .ok (.imul, 1) := by decide +kernel
theorem dX10_row_58 : decode cX10_row 58 = .ok (.iadd, 1) := by decide +kernel
theorem dX10_row_59 : decode cX10_row 59 = .ok (.iload_n 2, 1) := by decide +kernel
theorem dX10_row_60 : decode cX10_row 60 = .ok (.iadd, 1) := by decide +kernel
theorem dX10_row_61 : decode cX10_row 61 = .ok (.iaload, 1) := by decide +kernel
theorem dX10_row_62 : decode cX10_row 62 = .ok (.istore 4, 2) := by decide +kernel
theorem dX10_row_64 : decode cX10_row 64 = .ok (.aload_n 0, 1) := by decide +kernel
theorem dX10_row_65 : decode cX10_row 65 = .ok (.getfield 9, 3) := by decide +kernel
theorem dX10_row_68 : decode cX10_row 68 = .ok (.bipush 22, 2) := by decide +kernel
theorem dX10_row_70 : decode cX10_row 70 = .ok (.iconst 4, 1) := by decide +kernel
theorem dX10_row_71 : decode cX10_row 71 = .ok (.iload_n 1, 1) := by decide +kernel
theorem dX10_row_72 : decode cX10_row 72 = .ok (.imul, 1) := by decide +kernel
theorem dX10_row_73 : decode cX10_row 73 = .ok (.iadd, 1) := by decide +kernel
theorem dX10_row_74 : decode cX10_row 74 = .ok (.iload_n 2, 1) := by decide +kernel
theorem dX10_row_75 : decode cX10_row 75 = .ok (.iadd, 1) := by decide +kernel
theorem dX10_row_76 : decode cX10_row 76 = .ok (.iload_n 3, 1) := by decide +kernel
theorem dX10_row_77 : decode cX10_row 77 = .ok (.iastore, 1) := by decide +kernel
theorem dX10_row_78 : decode cX10_row 78 = .ok (.iload 4, 2) := by decide +kernel
theorem dX10_row_80 : decode cX10_row 80 = .ok (.ireturn, 1) := by decide +kernel
set_option maxRecDepth 20000 in
theorem r_X10_row : m_Right (yX10_row, cX10_row, 5, (some .int)) q_X10_row := m_right_nd (m_right_nd (m_right_nd (m_right_nd (m_right_nd (m_right_lf ⟨1, dX10_row_0, rfl, rfl, rfl⟩) (m_right_nd (m_right_lf ⟨1, dX10_row_1, rfl, rfl, rfl⟩) (m_right_lf ⟨3, dX10_row_2, rfl, rfl, 119, 1, 10, (yX10_isPlayer, cX10_isPlayer, 2, (some .boolean)), rfl, me_X10_isPlayer, mc_X10_isPlayer, Or.inl ⟨(RX10, TX10, 24), rfl, rfl⟩, wd_1065, wd_1067, wd_31, wd_71⟩))) (m_right_nd (m_right_lf ⟨3, dX10_row_5, rfl, rfl, 17, rfl, by decide⟩) (m_right_nd (m_right_lf ⟨1, dX10_row_8, rfl, rfl, rfl⟩) (m_right_lf ⟨1, dX10_row_9, rfl, rfl, by decide +kernel⟩)))) (m_right_nd (m_right_nd (m_right_lf ⟨1, dX10_row_10, rfl, rfl, by decide +kernel⟩) (m_right_nd (m_right_lf ⟨3, dX10_row_11, rfl, rfl, Or.inr (Or.inr ⟨118, 3, (yX10_in, cX10_in, 3, (some .boolean)), rfl, me_X10_in, mc_X10_in, wd_943, wd_944, wd_71⟩)⟩) (m_right_lf ⟨3, dX10_row_14, rfl, rfl, 19, rfl, by decide⟩))) (m_right_nd (m_right_nd (m_right_lf ⟨1, dX10_row_17, rfl, rfl, by decide +kernel⟩) (m_right_lf ⟨1, dX10_row_18, rfl, 0, .int, rfl, rfl, Or.inl ⟨rfl, rfl⟩⟩)) (m_right_nd (m_right_lf ⟨1, dX10_row_19, rfl, rfl, rfl⟩) (m_right_lf ⟨1, dX10_row_20, rfl, rfl, by decide +kernel⟩))))) (m_right_nd (m_right_nd (m_right_nd (m_right_lf ⟨2, dX10_row_21, rfl, rfl, by decide +kernel⟩) (m_right_nd (m_right_lf ⟨3, dX10_row_23, rfl, rfl, Or.inr (Or.inr ⟨118, 3, (yX10_in, cX10_in, 3, (some .boolean)), rfl, me_X10_in, mc_X10_in, wd_943, wd_944, wd_71⟩)⟩) (m_right_lf ⟨3, dX10_row_26, rfl, rfl, 32, rfl, by decide⟩))) (m_right_nd (m_right_lf ⟨2, dX10_row_29, rfl, rfl, by decide +kernel⟩) (m_right_nd (m_right_lf ⟨1, dX10_row_31, rfl, 0, .int, rfl, rfl, Or.inl ⟨rfl, rfl⟩⟩) (m_right_lf ⟨1, dX10_row_32, rfl, rfl, rfl⟩)))) (m_right_nd (m_right_nd (m_right_lf ⟨3, dX10_row_33, rfl, rfl, 10, 1, rfl, Or.inl ⟨(RX10, TX10, 24), rfl, by decide, wd_867⟩⟩) (m_right_nd (m_right_lf ⟨2, dX10_row_36, rfl, rfl, by decide +kernel⟩) (m_right_lf ⟨1, dX10_row_38, rfl, rfl, rfl⟩))) (m_right_nd (m_right_nd (m_right_lf ⟨1, dX10_row_39, rfl, rfl⟩) (m_right_lf ⟨1, dX10_row_40, rfl, rfl⟩)) (m_right_nd (m_right_lf ⟨2, dX10_row_41, rfl, rfl, by decide +kernel⟩) (m_right_lf ⟨3, dX10_row_43, rfl, rfl, 49, rfl, by decide⟩)))))) (m_right_nd (m_right_nd (m_right_nd (m_right_nd (m_right_lf ⟨2, dX10_row_46, rfl, rfl, by decide +kernel⟩) (m_right_nd (m_right_lf ⟨1, dX10_row_48, rfl, 0, .int, rfl, rfl, Or.inl ⟨rfl, rfl⟩⟩) (m_right_lf ⟨1, dX10_row_49, rfl, rfl, rfl⟩))) (m_right_nd (m_right_lf ⟨3, dX10_row_50, rfl, rfl, 10, 1, rfl, Or.inl ⟨(RX10, TX10, 24), rfl, by decide, wd_867⟩⟩) (m_right_nd (m_right_lf ⟨2, dX10_row_53, rfl, rfl, by decide +kernel⟩) (m_right_lf ⟨1, dX10_row_55, rfl, rfl, by decide +kernel⟩)))) (m_right_nd (m_right_nd (m_right_lf ⟨1, dX10_row_56, rfl, rfl, rfl⟩) (m_right_nd (m_right_lf ⟨1, dX10_row_57, rfl, rfl⟩) (m_right_lf ⟨1, dX10_row_58, rfl, rfl⟩))) (m_right_nd (m_right_nd (m_right_lf ⟨1, dX10_row_59, rfl, rfl, rfl⟩) (m_right_lf ⟨1, dX10_row_60, rfl, rfl⟩)) (m_right_nd (m_right_lf ⟨1, dX10_row_61, rfl, rfl⟩) (m_right_lf ⟨2, dX10_row_62, rfl, rfl, rfl⟩))))) (m_right_nd (m_right_nd (m_right_nd (m_right_lf ⟨1, dX10_row_64, rfl, rfl, rfl⟩) (m_right_nd (m_right_lf ⟨3, dX10_row_65, rfl, rfl, 10, 1, rfl, Or.inl ⟨(RX10, TX10, 24), rfl, by decide, wd_867⟩⟩) (m_right_lf ⟨2, dX10_row_68, rfl, rfl, by decide +kernel⟩))) (m_right_nd (m_right_lf ⟨1, dX10_row_70, rfl, rfl, by decide +kernel⟩) (m_right_nd (m_right_lf ⟨1, dX10_row_71, rfl, rfl, rfl⟩) (m_right_lf ⟨1, dX10_row_72, rfl, rfl⟩)))) (m_right_nd (m_right_nd (m_right_lf ⟨1, dX10_row_73, rfl, rfl⟩) (m_right_nd (m_right_lf ⟨1, dX10_row_74, rfl, rfl, rfl⟩) (m_right_lf ⟨1, dX10_row_75, rfl, rfl⟩))) (m_right_nd (m_right_nd (m_right_lf ⟨1, dX10_row_76, rfl, rfl, rfl⟩) (m_right_lf ⟨1, dX10_row_77, rfl, rfl⟩)) (m_right_nd (m_right_lf ⟨2, dX10_row_78, rfl, rfl, rfl⟩) (m_right_lf ⟨1, dX10_row_80, rfl, 0, .int, rfl, rfl, Or.inl ⟨rfl, rfl⟩⟩))))))
theorem dX10_told_0 : decode cX10_told 0 = .ok (.iload_n 1, 1) := by decide +kernel
theorem dX10_told_1 : decode cX10_told 1 = .ok (.ifCond .ne 12, 3) := by decide +kernel
theorem dX10_told_4 : decode cX10_told 4 = .ok (.aload_n 0, 1) := by decide +kernel
theorem dX10_told_5 : decode cX10_told 5 = .ok (.getfield 9, 3) := by decide +kernel
theorem dX10_told_8 : decode cX10_told 8 = .ok (.iconst 0, 1) := by decide +kernel
theorem dX10_told_9 : decode cX10_told 9 = .ok (.iaload, 1) := by decide +kernel
theorem dX10_told_10 : decode cX10_told 10 = .ok (.goto 34, 3) := by decide +kernel
theorem dX10_told_13 : decode cX10_told 13 = .ok (.iload_n 1, 1) := by decide +kernel
theorem dX10_told_14 : decode cX10_told 14 = .ok (.iconst 1, 1) := by decide +kernel
theorem dX10_told_15 : decode cX10_told 15 = .ok (.if_icmp .ne 13, 3) := by decide +kernel
theorem dX10_told_18 : decode cX10_told 18 = .ok (.aload_n 0, 1) := by decide +kernel
theorem dX10_told_19 : decode cX10_told 19 = .ok (.sipush 174, 3) := by decide +kernel
theorem dX10_told_22 : decode cX10_told 22 = .ok (.invokevirtual 137, 3) := by decide +kernel
theorem dX10_told_25 : decode cX10_told 25 = .ok (.goto 19, 3) := by decide +kernel
theorem dX10_told_28 : decode cX10_told 28 = .ok (.iload_n 1, 1) := by decide +kernel
theorem dX10_told_29 : decode cX10_told 29 = .ok (.iconst 2, 1) := by decide +kernel
theorem dX10_told_30 : decode cX10_told 30 = .ok (.if_icmp .ne 13, 3) := by decide +kernel
theorem dX10_told_33 : decode cX10_told 33 = .ok (.aload_n 0, 1) := by decide +kernel
theorem dX10_told_34 : decode cX10_told 34 = .ok (.sipush 179, 3) := by decide +kernel
theorem dX10_told_37 : decode cX10_told 37 = .ok (.invokevirtual 137, 3) := by decide +kernel
theorem dX10_told_40 : decode cX10_told 40 = .ok (.goto 4, 3) := by decide +kernel
theorem dX10_told_43 : decode cX10_told 43 = .ok (.iconst (-1), 1) := by decide +kernel
theorem dX10_told_44 : decode cX10_told 44 = .ok (.ireturn, 1) := by decide +kernel
set_option maxRecDepth 20000 in
theorem r_X10_told : m_Right (yX10_told, cX10_told, 2, (some .int)) q_X10_told := m_right_nd (m_right_nd (m_right_nd (m_right_nd (m_right_lf ⟨1, dX10_told_0, rfl, rfl, rfl⟩) (m_right_lf ⟨3, dX10_told_1, rfl, rfl, 13, rfl, by decide⟩)) (m_right_nd (m_right_lf ⟨1, dX10_told_4, rfl, rfl, rfl⟩) (m_right_nd (m_right_lf ⟨3, dX10_told_5, rfl, rfl, 10, 1, rfl, Or.inl ⟨(RX10, TX10, 24), rfl, by decide, wd_867⟩⟩) (m_right_lf ⟨1, dX10_told_8, rfl, rfl, by decide +kernel⟩)))) (m_right_nd (m_right_nd (m_right_lf ⟨1, dX10_told_9, rfl, rfl⟩) (m_right_nd (m_right_lf ⟨3, dX10_told_10, rfl, 44, rfl, by decide⟩) (m_right_lf ⟨1, dX10_told_13, rfl, rfl, rfl⟩))) (m_right_nd (m_right_lf ⟨1, dX10_told_14, rfl, rfl, by decide +kernel⟩) (m_right_nd (m_right_lf ⟨3, dX10_told_15, rfl, rfl, 28, rfl, by decide⟩) (m_right_lf ⟨1, dX10_told_18, rfl, rfl, rfl⟩))))) (m_right_nd (m_right_nd (m_right_nd (m_right_lf ⟨3, dX10_told_19, rfl, rfl, by decide +kernel⟩) (m_right_nd (m_right_lf ⟨3, dX10_told_22, rfl, rfl, 138, 1, 10, (yX10_tellsOf, cX10_tellsOf, 2, (some .int)), rfl, me_X10_tellsOf, mc_X10_tellsOf, Or.inl ⟨(RX10, TX10, 24), rfl, rfl⟩, wd_1081, wd_1083, wd_32, wd_71⟩) (m_right_lf ⟨3, dX10_told_25, rfl, 44, rfl, by decide⟩))) (m_right_nd (m_right_lf ⟨1, dX10_told_28, rfl, rfl, rfl⟩) (m_right_nd (m_right_lf ⟨1, dX10_told_29, rfl, rfl, by decide +kernel⟩) (m_right_lf ⟨3, dX10_told_30, rfl, rfl, 43, rfl, by decide⟩)))) (m_right_nd (m_right_nd (m_right_lf ⟨1, dX10_told_33, rfl, rfl, rfl⟩) (m_right_nd (m_right_lf ⟨3, dX10_told_34, rfl, rfl, by decide +kernel⟩) (m_right_lf ⟨3, dX10_told_37, rfl, rfl, 138, 1, 10, (yX10_tellsOf, cX10_tellsOf, 2, (some .int)), rfl, me_X10_tellsOf, mc_X10_tellsOf, Or.inl ⟨(RX10, TX10, 24), rfl, rfl⟩, wd_1081, wd_1083, wd_32, wd_71⟩))) (m_right_nd (m_right_lf ⟨3, dX10_told_40, rfl, 44, rfl, by decide⟩) (m_right_nd (m_right_lf ⟨1, dX10_told_43, rfl, rfl, by decide +kernel⟩) (m_right_lf ⟨1, dX10_told_44, rfl, 0, .int, rfl, rfl, Or.inl ⟨rfl, rfl⟩⟩)))))
theorem dX10_lifted_0 : decode cX10_lifted 0 = .ok (.aload_n 0, 1) := by decide +kernel
theorem dX10_lifted_1 : decode cX10_lifted 1 = .ok (.getfield 21, 3) := by decide +kernel
theorem dX10_lifted_4 : decode cX10_lifted 4 = .ok (.iconst 0, 1) := by decide +kernel
theorem dX10_lifted_5 : decode cX10_lifted 5 = .ok (.iload_n 1, 1) := by decide +kernel
theorem dX10_lifted_6 : decode cX10_lifted 6 = .ok (.iastore, 1) := by decide +kernel
theorem dX10_lifted_7 : decode cX10_lifted 7 = .ok (.aload_n 0, 1) := by decide +kernel
theorem dX10_lifted_8 : decode cX10_lifted 8 = .ok (.getfield 21, 3) := by decide +kernel
theorem dX10_lifted_11 : decode cX10_lifted 11 = .ok (.iconst 1, 1) := by decide +kernel
theorem dX10_lifted_12 : decode cX10_lifted 12 = .ok (.aload_n 0, 1) := by decide +kernel
theorem dX10_lifted_13 : decode cX10_lifted 13 = .ok (.getfield 9, 3) := by decide +kernel
theorem dX10_lifted_16 : decode cX10_lifted 16 = .ok (.bipush 12, 2) := by decide +kernel
theorem dX10_lifted_18 : decode cX10_lifted 18 = .ok (.iload_n 1, 1) := by decide +kernel
theorem dX10_lifted_19 : decode cX10_lifted 19 = .ok (.iadd, 1) := by decide +kernel
theorem dX10_lifted_20 : decode cX10_lifted 20 = .ok (.iaload, 1) := by decide +kernel
theorem dX10_lifted_21 : decode cX10_lifted 21 = .ok (.iastore, 1) := by decide +kernel
theorem dX10_lifted_22 : decode cX10_lifted 22 = .ok (.aload_n 0, 1) := by decide +kernel
theorem dX10_lifted_23 : decode cX10_lifted 23 = .ok (.getfield 21, 3) := by decide +kernel
theorem dX10_lifted_26 : decode cX10_lifted 26 = .ok (.iconst 2, 1) := by decide +kernel
theorem dX10_lifted_27 : decode cX10_lifted 27 = .ok (.aload_n 0, 1) := by decide +kernel
theorem dX10_lifted_28 : decode cX10_lifted 28 = .ok (.getfield 9, 3) := by decide +kernel
theorem dX10_lifted_31 : decode cX10_lifted 31 = .ok (.iconst 1, 1) := by decide +kernel
theorem dX10_lifted_32 : decode cX10_lifted 32 = .ok (.iload_n 1, 1) := by decide +kernel
theorem dX10_lifted_33 : decode cX10_lifted 33 = .ok (.iadd, 1) := by decide +kernel
theorem dX10_lifted_34 : decode cX10_lifted 34 = .ok (.iaload, 1) := by decide +kernel
theorem dX10_lifted_35 : decode cX10_lifted 35 = .ok (.iastore, 1) := by decide +kernel
theorem dX10_lifted_36 : decode cX10_lifted 36 = .ok (.aload_n 0, 1) := by decide +kernel
theorem dX10_lifted_37 : decode cX10_lifted 37 = .ok (.getfield 21, 3) := by decide +kernel
theorem dX10_lifted_40 : decode cX10_lifted 40 = .ok (.iconst 3, 1) := by decide +kernel
theorem dX10_lifted_41 : decode cX10_lifted 41 = .ok (.aload_n 0, 1) := by decide +kernel
theorem dX10_lifted_42 : decode cX10_lifted 42 = .ok (.getfield 9, 3) := by decide +kernel
theorem dX10_lifted_45 : decode cX10_lifted 45 = .ok (.iconst 1, 1) := by decide +kernel
theorem dX10_lifted_46 : decode cX10_lifted 46 = .ok (.iload_n 2, 1) := by decide +kernel
theorem dX10_lifted_47 : decode cX10_lifted 47 = .ok (.iadd, 1) := by decide +kernel
theorem dX10_lifted_48 : decode cX10_lifted 48 = .ok (.iaload, 1) := by decide +kernel
theorem dX10_lifted_49 : decode cX10_lifted 49 = .ok (.iastore, 1) := by decide +kernel
theorem dX10_lifted_50 : decode cX10_lifted 50 = .ok (.aload_n 0, 1) := by decide +kernel
theorem dX10_lifted_51 : decode cX10_lifted 51 = .ok (.getfield 21, 3) := by decide +kernel
theorem dX10_lifted_54 : decode cX10_lifted 54 = .ok (.iconst 4, 1) := by decide +kernel
theorem dX10_lifted_55 : decode cX10_lifted 55 = .ok (.aload_n 0, 1) := by decide +kernel
theorem dX10_lifted_56 : decode cX10_lifted 56 = .ok (.getfield 9, 3) := by decide +kernel
theorem dX10_lifted_59 : decode cX10_lifted 59 = .ok (.iconst 0, 1) := by decide +kernel
theorem dX10_lifted_60 : decode cX10_lifted 60 = .ok (.iaload, 1) := by decide +kernel
theorem dX10_lifted_61 : decode cX10_lifted 61 = .ok (.bipush 10, 2) := by decide +kernel
theorem dX10_lifted_63 : decode cX10_lifted 63 = .ok (.irem, 1) := by decide +kernel
theorem dX10_lifted_64 : decode cX10_lifted 64 = .ok (.iastore, 1) := by decide +kernel
theorem dX10_lifted_65 : decode cX10_lifted 65 = .ok (.iconst 0, 1) := by decide +kernel
theorem dX10_lifted_66 : decode cX10_lifted 66 = .ok (.istore_n 3, 1) := by decide +kernel
theorem dX10_lifted_67 : decode cX10_lifted 67 = .ok (.aload_n 0, 1) := by decide +kernel
theorem dX10_lifted_68 : decode cX10_lifted 68 = .ok (.getfield 9, 3) := by decide +kernel
theorem dX10_lifted_71 : decode cX10_lifted 71 = .ok (.bipush 11, 2) := by decide +kernel
theorem dX10_lifted_73 : decode cX10_lifted 73 = .ok (.iaload, 1) := by decide +kernel
theorem dX10_lifted_74 : decode cX10_lifted 74 = .ok (.iconst (-1), 1) := by decide +kernel
theorem dX10_lifted_75 : decode cX10_lifted 75 = .ok (.if_icmp .ne 7, 3) := by decide +kernel
theorem dX10_lifted_78 : decode cX10_lifted 78 = .ok (.iconst 0, 1) := by decide +kernel
theorem dX10_lifted_79 : decode cX10_lifted 79 = .ok (.goto 19, 3) := by decide +kernel
theorem dX10_lifted_82 : decode cX10_lifted 82 = .ok (.aload_n 0, 1) := by decide +kernel
theorem dX10_lifted_83 : decode cX10_lifted 83 = .ok (.getfield 9, 3) := by decide +kernel
theorem dX10_lifted_86 : decode cX10_lifted 86 = .ok (.sipush 184, 3) := by decide +kernel
theorem dX10_lifted_89 : decode cX10_lifted 89 = .ok (.aload_n 0, 1) := by decide +kernel
theorem dX10_lifted_90 : decode cX10_lifted 90 = .ok (.getfield 9, 3) := by decide +kernel
theorem dX10_lifted_93 : decode cX10_lifted 93 = .ok (.bipush 11, 2) := by decide +kernel
theorem dX10_lifted_95 : decode cX10_lifted 95 = .ok (.iaload, 1) := by decide +kernel
theorem dX10_lifted_96 : decode cX10_lifted 96 = .ok (.iadd, 1) := by decide +kernel
theorem dX10_lifted_97 : decode cX10_lifted 97 = .ok (.iaload, 1) := by decide +kernel
theorem dX10_lifted_98 : decode cX10_lifted 98 = .ok (.istore 4, 2) := by decide +kernel
theorem dX10_lifted_100 : decode cX10_lifted 100 = .ok (.sipush 189, 3) := by decide +kernel
theorem dX10_lifted_103 : decode cX10_lifted 103 = .ok (.sipush 140, 3) := by decide +kernel
theorem dX10_lifted_106 : decode cX10_lifted 106 = .ok (.aload_n 0, 1) := by decide +kernel
theorem dX10_lifted_107 : decode cX10_lifted 107 = .ok (.getfield 9, 3) := by decide +kernel
theorem dX10_lifted_110 : decode cX10_lifted 110 = .ok (.bipush 11, 2) := by decide +kernel
theorem dX10_lifted_112 : decode cX10_lifted 112 = .ok (.iaload, 1) := by decide +kernel
theorem dX10_lifted_113 : decode cX10_lifted 113 = .ok (.imul, 1) := by decide +kernel
theorem dX10_lifted_114 : decode cX10_lifted 114 = .ok (.iadd, 1) := by decide +kernel
theorem dX10_lifted_115 : decode cX10_lifted 115 = .ok (.istore 5, 2) := by decide +kernel
theorem dX10_lifted_117 : decode cX10_lifted 117 = .ok (.iconst 0, 1) := by decide +kernel
theorem dX10_lifted_118 : decode cX10_lifted 118 = .ok (.istore 6, 2) := by decide +kernel
theorem dX10_lifted_120 : decode cX10_lifted 120 = .ok (.iload 5, 2) := by decide +kernel
theorem dX10_lifted_122 : decode cX10_lifted 122 = .ok (.istore 7, 2) := by decide +kernel
theorem dX10_lifted_124 : decode cX10_lifted 124 = .ok (.iload 7, 2) := by decide +kernel
theorem dX10_lifted_126 : decode cX10_lifted 126 = .ok (.iload 5, 2) := by decide +kernel
theorem dX10_lifted_128 : decode cX10_lifted 128 = .ok (.iload 4, 2) := by decide +kernel
theorem dX10_lifted_130 : decode cX10_lifted 130 = .ok (.iadd, 1) := by decide +kernel
theorem dX10_lifted_131 : decode cX10_lifted 131 = .ok (.if_icmp .ge 279, 3) := by decide +kernel
theorem dX10_lifted_134 : decode cX10_lifted 134 = .ok (.aload_n 0, 1) := by decide +kernel
theorem dX10_lifted_135 : decode cX10_lifted 135 = .ok (.getfield 9, 3) := by decide +kernel
theorem dX10_lifted_138 : decode cX10_lifted 138 = .ok (.iload 7, 2) := by decide +kernel
theorem dX10_lifted_140 : decode cX10_lifted 140 = .ok (.iaload, 1) := by decide +kernel
theorem dX10_lifted_141 : decode cX10_lifted 141 = .ok (.istore 8, 2) := by decide +kernel
theorem dX10_lifted_143 : decode cX10_lifted 143 = .ok (.iload 8, 2) := by decide +kernel
theorem dX10_lifted_145 : decode cX10_lifted 145 = .ok (.ifCond .lt 97, 3) := by decide +kernel
theorem dX10_lifted_148 : decode cX10_lifted 148 = .ok (.aload_n 0, 1) := by decide +kernel
theorem dX10_lifted_149 : decode cX10_lifted 149 = .ok (.getfield 21, 3) := by decide +kernel
theorem dX10_lifted_152 : decode cX10_lifted 152 = .ok (.iload 8, 2) := by decide +kernel
theorem dX10_lifted_154 : decode cX10_lifted 154 = .ok (.bipush 8, 2) := by decide +kernel
theorem dX10_lifted_156 : decode cX10_lifted 156 = .ok (.irem, 1) := by decide +kernel
theorem dX10_lifted_157 : decode cX10_lifted 157 = .ok (.iaload, 1) := by decide +kernel
theorem dX10_lifted_158 : decode cX10_lifted 158 = .ok (.istore 9, 2) := by decide +kernel
theorem dX10_lifted_160 : decode cX10_lifted 160 = .ok (.iload 8, 2) := by decide +kernel
theorem dX10_lifted_162 : decode cX10_lifted 162 = .ok (.bipush 8, 2) := by decide +kernel
theorem dX10_lifted_164 : decode cX10_lifted 164 = .ok (.idiv, 1) := by decide +kernel
theorem dX10_lifted_165 : decode cX10_lifted 165 = .ok (.iconst 4, 1) := by decide +kernel
theorem dX10_lifted_166 : decode cX10_lifted 166 = .ok (.irem, 1) := by decide +kernel
theorem dX10_lifted_167 : decode cX10_lifted 167 = .ok (.istore 10, 2) := by decide +kernel
theorem dX10_lifted_169 : decode cX10_lifted 169 = .ok (.iload 8, 2) := by decide +kernel
theorem dX10_lifted_171 : decode cX10_lifted 171 = .ok (.bipush 32, 2) := by decide +kernel
theorem dX10_lifted_173 : decode cX10_lifted 173 = .ok (.idiv, 1) := by decide +kernel
theorem dX10_lifted_174 : decode cX10_lifted 174 = .ok (.istore 11, 2) := by decide +kernel
theorem dX10_lifted_176 : decode cX10_lifted 176 = .ok (.aload_n 0, 1) := by decide +kernel
theorem dX10_lifted_177 : decode cX10_lifted 177 = .ok (.getfield 24, 3) := by decide +kernel
theorem dX10_lifted_180 : decode cX10_lifted 180 = .ok (.iload 6, 2) := by decide +kernel
theorem dX10_lifted_182 : decode cX10_lifted 182 = .ok (.iload 10, 2) := by decide +kernel
theorem dX10_lifted_184 : decode cX10_lifted 184 = .ok (.ifCond .ne 18, 3) := by decide +kernel
theorem dX10_lifted_187 : decode cX10_lifted 187 = .ok (.iload 9, 2) := by decide +kernel
theorem dX10_lifted_189 : decode cX10_lifted 189 = .ok (.iload 11, 2) := by decide +kernel
theorem dX10_lifted_191 : decode cX10_lifted 191 = .ok (.if_icmp .ge 7, 3) := by decide +kernel
theorem dX10_lifted_194 : decode cX10_lifted 194 = .ok (.iconst 1, 1) := by decide +kernel
theorem dX10_lifted_195 : decode cX10_lifted 195 = .ok (.goto 40, 3) := by decide +kernel
theorem dX10_lifted_198 : decode cX10_lifted 198 = .ok (.iconst 0, 1) := by decide +kernel
theorem dX10_lifted_199 : decode cX10_lifted 199 = .ok (.goto 36, 3) := by decide +kernel
theorem dX10_lifted_202 : decode cX10_lifted 202 = .ok (.iload 10, 2) := by decide +kernel
theorem dX10_lifted_204 : decode cX10_lifted 204 = .ok (.iconst 1, 1) := by decide +kernel
theorem dX10_lifted_205 : decode cX10_lifted 205 = .ok (.if_icmp .ne 18, 3) := by decide +kernel
theorem dX10_lifted_208 : decode cX10_lifted 208 = .ok (.iload 9, 2) := by decide +kernel
theorem dX10_lifted_210 : decode cX10_lifted 210 = .ok (.iload 11, 2) := by decide +kernel
theorem dX10_lifted_212 : decode cX10_lifted 212 = .ok (.if_icmp .ne 7, 3) := by decide +kernel
theorem dX10_lifted_215 : decode cX10_lifted 215 = .ok (.iconst 1, 1) := by decide +kernel
theorem dX10_lifted_216 : decode cX10_lifted 216 = .ok (.goto 19, 3) := by decide +kernel
theorem dX10_lifted_219 : decode cX10_lifted 219 = .ok (.iconst 0, 1) := by decide +kernel
theorem dX10_lifted_220 : decode cX10_lifted 220 = .ok (.goto 15, 3) := by decide +kernel
theorem dX10_lifted_223 : decode cX10_lifted 223 = .ok (.iload 9, 2) := by decide +kernel
theorem dX10_lifted_225 : decode cX10_lifted 225 = .ok (.iload 11, 2) := by decide +kernel
theorem dX10_lifted_227 : decode cX10_lifted 227 = .ok (.if_icmp .le 7, 3) := by decide +kernel
theorem dX10_lifted_230 : decode cX10_lifted 230 = .ok (.iconst 1, 1) := by decide +kernel
theorem dX10_lifted_231 : decode cX10_lifted 231 = .ok (.goto 4, 3) := by decide +kernel
theorem dX10_lifted_234 : decode cX10_lifted 234 = .ok (.iconst 0, 1) := by decide +kernel
theorem dX10_lifted_235 : decode cX10_lifted 235 = .ok (.bastore, 1) := by decide +kernel
theorem dX10_lifted_236 : decode cX10_lifted 236 = .ok (.iinc 6 1, 3) := by decide +kernel
theorem dX10_lifted_239 : decode cX10_lifted 239 = .ok (.goto 165, 3) := by decide +kernel
theorem dX10_lifted_242 : decode cX10_lifted 242 = .ok (.iload 8, 2) := by decide +kernel
theorem dX10_lifted_244 : decode cX10_lifted 244 = .ok (.iconst (-1), 1) := by decide +kernel
theorem dX10_lifted_245 : decode cX10_lifted 245 = .ok (.if_icmp .ne 32, 3) := by decide +kernel
theorem dX10_lifted_248 : decode cX10_lifted 248 = .ok (.aload_n 0, 1) := by decide +kernel
theorem dX10_lifted_249 : decode cX10_lifted 249 = .ok (.getfield 24, 3) := by decide +kernel
theorem dX10_lifted_252 : decode cX10_lifted 252 = .ok (.iload 6, 2) := by decide +kernel
theorem dX10_lifted_254 : decode cX10_lifted 254 = .ok (.iconst 1, 1) := by decide +kernel
theorem dX10_lifted_255 : decode cX10_lifted 255 = .ok (.isub, 1) := by decide +kernel
theorem dX10_lifted_256 : decode cX10_lifted 256 = .ok (.aload_n 0, 1) := by decide +kernel
theorem dX10_lifted_257 : decode cX10_lifted 257 = .ok (.getfield 24, 3) := by decide +kernel
theorem dX10_lifted_260 : decode cX10_lifted 260 = .ok (.iload 6, 2) := by decide +kernel
theorem dX10_lifted_262 : decode cX10_lifted 262 = .ok (.iconst 1, 1) := by decide +kernel
theorem dX10_lifted_263 : decode cX10_lifted 263 = .ok (.isub, 1) := by decide +kernel
theorem dX10_lifted_264 : decode cX10_lifted 264 = .ok (.baload, 1) := by decide +kernel
theorem dX10_lifted_265 : decode cX10_lifted 265 = .ok (.ifCond .ne 7, 3) := by decide +kernel
theorem dX10_lifted_268 : decode cX10_lifted 268 = .ok (.iconst 1, 1) := by decide +kernel
theorem dX10_lifted_269 : decode cX10_lifted 269 = .ok (.goto 4, 3) := by decide +kernel
theorem dX10_lifted_272 : decode cX10_lifted 272 = .ok (.iconst 0, 1) := by decide +kernel
theorem dX10_lifted_273 : decode cX10_lifted 273 = .ok (.bastore, 1) := by decide +kernel
theorem dX10_lifted_274 : decode cX10_lifted 274 = .ok (.goto 130, 3) := by decide +kernel
theorem dX10_lifted_277 : decode cX10_lifted 277 = .ok (.iload 8, 2) := by decide +kernel
theorem dX10_lifted_279 : decode cX10_lifted 279 = .ok (.bipush (-10), 2) := by decide +kernel
theorem dX10_lifted_281 : decode cX10_lifted 281 = .ok (.if_icmp .le 82, 3) := by decide +kernel
theorem dX10_lifted_284 : decode cX10_lifted 284 = .ok (.iinc 6 (-1), 3) := by decide +kernel
theorem dX10_lifted_287 : decode cX10_lifted 287 = .ok (.aload_n 0, 1) := by decide +kernel
theorem dX10_lifted_288 : decode cX10_lifted 288 = .ok (.getfield 24, 3) := by decide +kernel
theorem dX10_lifted_291 : decode cX10_lifted 291 = .ok (.iload 6, 2) := by decide +kernel
theorem dX10_lifted_293 : decode cX10_lifted 293 = .ok (.iconst 1, 1) := by decide +kernel
theorem dX10_lifted_294 : decode cX10_lifted 294 = .ok (.isub, 1) := by decide +kernel
theorem dX10_lifted_295 : decode cX10_lifted 295 = .ok (.iload 8, 2) := by decide +kernel
theorem dX10_lifted_297 : decode cX10_lifted 297 = .ok (.bipush (-2), 2) := by decide +kernel
theorem dX10_lifted_299 : decode cX10_lifted 299 = .ok (.if_icmp .ne 33, 3) := by decide +kernel
theorem dX10_lifted_302 : decode cX10_lifted 302 = .ok (.aload_n 0, 1) := by decide +kernel
theorem dX10_lifted_303 : decode cX10_lifted 303 = .ok (.getfield 24, 3) := by decide +kernel
theorem dX10_lifted_306 : decode cX10_lifted 306 = .ok (.iload 6, 2) := by decide +kernel
theorem dX10_lifted_308 : decode cX10_lifted 308 = .ok (.iconst 1, 1) := by decide +kernel
theorem dX10_lifted_309 : decode cX10_lifted 309 = .ok (.isub, 1) := by decide +kernel
theorem dX10_lifted_310 : decode cX10_lifted 310 = .ok (.baload, 1) := by decide +kernel
theorem dX10_lifted_311 : decode cX10_lifted 311 = .ok (.ifCond .eq 17, 3) := by decide +kernel
theorem dX10_lifted_314 : decode cX10_lifted 314 = .ok (.aload_n 0, 1) := by decide +kernel
theorem dX10_lifted_315 : decode cX10_lifted 315 = .ok (.getfield 24, 3) := by decide +kernel
theorem dX10_lifted_318 : decode cX10_lifted 318 = .ok (.iload 6, 2) := by decide +kernel
theorem dX10_lifted_320 : decode cX10_lifted 320 = .ok (.baload, 1) := by decide +kernel
theorem dX10_lifted_321 : decode cX10_lifted 321 = .ok (.ifCond .eq 7, 3) := by decide +kernel
theorem dX10_lifted_324 : decode cX10_lifted 324 = .ok (.iconst 1, 1) := by decide +kernel
theorem dX10_lifted_325 : decode cX10_lifted 325 = .ok (.goto 34, 3) := by decide +kernel
theorem dX10_lifted_328 : decode cX10_lifted 328 = .ok (.iconst 0, 1) := by decide +kernel
theorem dX10_lifted_329 : decode cX10_lifted 329 = .ok (.goto 30, 3) := by decide +kernel
theorem dX10_lifted_332 : decode cX10_lifted 332 = .ok (.aload_n 0, 1) := by decide +kernel
theorem dX10_lifted_333 : decode cX10_lifted 333 = .ok (.getfield 24, 3) := by decide +kernel
theorem dX10_lifted_336 : decode cX10_lifted 336 = .ok (.iload 6, 2) := by decide +kernel
theorem dX10_lifted_338 : decode cX10_lifted 338 = .ok (.iconst 1, 1) := by decide +kernel
theorem dX10_lifted_339 : decode cX10_lifted 339 = .ok (.isub, 1) := by decide +kernel
theorem dX10_lifted_340 : decode cX10_lifted 340 = .ok (.baload, 1) := by decide +kernel
theorem dX10_lifted_341 : decode cX10_lifted 341 = .ok (.ifCond .ne 13, 3) := by decide +kernel
theorem dX10_lifted_344 : decode cX10_lifted 344 = .ok (.aload_n 0, 1) := by decide +kernel
theorem dX10_lifted_345 : decode cX10_lifted 345 = .ok (.getfield 24, 3) := by decide +kernel
theorem dX10_lifted_348 : decode cX10_lifted 348 = .ok (.iload 6, 2) := by decide +kernel
theorem dX10_lifted_350 : decode cX10_lifted 350 = .ok (.baload, 1) := by decide +kernel
theorem dX10_lifted_351 : decode cX10_lifted 351 = .ok (.ifCond .eq 7, 3) := by decide +kernel
theorem dX10_lifted_354 : decode cX10_lifted 354 = .ok (.iconst 1, 1) := by decide +kernel
theorem dX10_lifted_355 : decode cX10_lifted 355 = .ok (.goto 4, 3) := by decide +kernel
theorem dX10_lifted_358 : decode cX10_lifted 358 = .ok (.iconst 0, 1) := by decide +kernel
theorem dX10_lifted_359 : decode cX10_lifted 359 = .ok (.bastore, 1) := by decide +kernel
theorem dX10_lifted_360 : decode cX10_lifted 360 = .ok (.goto 44, 3) := by decide +kernel
theorem dX10_lifted_363 : decode cX10_lifted 363 = .ok (.iconst 0, 1) := by decide +kernel
theorem dX10_lifted_364 : decode cX10_lifted 364 = .ok (.istore 6, 2) := by decide +kernel
theorem dX10_lifted_366 : decode cX10_lifted 366 = .ok (.iload_n 3, 1) := by decide +kernel
theorem dX10_lifted_367 : decode cX10_lifted 367 = .ok (.aload_n 0, 1) := by decide +kernel
theorem dX10_lifted_368 : decode cX10_lifted 368 = .ok (.getfield 24, 3) := by decide +kernel
theorem dX10_lifted_371 : decode cX10_lifted 371 = .ok (.iconst 0, 1) := by decide +kernel
theorem dX10_lifted_372 : decode cX10_lifted 372 = .ok (.baload, 1) := by decide +kernel
theorem dX10_lifted_373 : decode cX10_lifted 373 = .ok (.ifCond .ne 7, 3) := by decide +kernel
theorem dX10_lifted_376 : decode cX10_lifted 376 = .ok (.iconst 0, 1) := by decide +kernel
theorem dX10_lifted_377 : decode cX10_lifted 377 = .ok (.goto 25, 3) := by decide +kernel
theorem dX10_lifted_380 : decode cX10_lifted 380 = .ok (.iload 8, 2) := by decide +kernel
theorem dX10_lifted_382 : decode cX10_lifted 382 = .ok (.sipush (-200), 3) := by decide +kernel
theorem dX10_lifted_385 : decode cX10_lifted 385 = .ok (.if_icmp .le 11, 3) := by decide +kernel
theorem dX10_lifted_388 : decode cX10_lifted 388 = .ok (.bipush (-10), 2) := by decide +kernel
theorem dX10_lifted_390 : decode cX10_lifted 390 = .ok (.iload 8, 2) := by decide +kernel
theorem dX10_lifted_392 : decode cX10_lifted 392 = .ok (.isub, 1) := by decide +kernel
theorem dX10_lifted_393 : decode cX10_lifted 393 = .ok (.goto 9, 3) := by decide +kernel
theorem dX10_lifted_396 : decode cX10_lifted 396 = .ok (.iload 8, 2) := by decide +kernel
theorem dX10_lifted_398 : decode cX10_lifted 398 = .ok (.sipush (-200), 3) := by decide +kernel
theorem dX10_lifted_401 : decode cX10_lifted 401 = .ok (.isub, 1) := by decide +kernel
theorem dX10_lifted_402 : decode cX10_lifted 402 = .ok (.iadd, 1) := by decide +kernel
theorem dX10_lifted_403 : decode cX10_lifted 403 = .ok (.istore_n 3, 1) := by decide +kernel
theorem dX10_lifted_404 : decode cX10_lifted 404 = .ok (.iinc 7 1, 3) := by decide +kernel
theorem dX10_lifted_407 : decode cX10_lifted 407 = .ok (.goto (-283), 3) := by decide +kernel
theorem dX10_lifted_410 : decode cX10_lifted 410 = .ok (.iload_n 3, 1) := by decide +kernel
theorem dX10_lifted_411 : decode cX10_lifted 411 = .ok (.ireturn, 1) := by decide +kernel
set_option maxRecDepth 20000 in
theorem r_X10_lifted : m_Right (yX10_lifted, cX10_lifted, 12, (some .int)) q_X10_lifted := m_right_nd (m_right_nd (m_right_nd (m_right_nd (m_right_nd (m_right_nd (m_right_nd (m_right_lf ⟨1, dX10_lifted_0, rfl, rfl, rfl⟩) (m_right_nd (m_right_lf ⟨3, dX10_lifted_1, rfl, rfl, 10, 10, rfl, Or.inl ⟨(RX10, TX10, 24), rfl, by decide, wd_876⟩⟩) (m_right_lf ⟨1, dX10_lifted_4, rfl, rfl, by decide +kernel⟩))) (m_right_nd (m_right_nd (m_right_lf ⟨1, dX10_lifted_5, rfl, rfl, rfl⟩) (m_right_lf ⟨1, dX10_lifted_6, rfl, rfl⟩)) (m_right_nd (m_right_lf ⟨1, dX10_lifted_7, rfl, rfl, rfl⟩) (m_right_lf ⟨3, dX10_lifted_8, rfl, rfl, 10, 10, rfl, Or.inl ⟨(RX10, TX10, 24), rfl, by decide, wd_876⟩⟩)))) (m_right_nd (m_right_nd (m_right_lf ⟨1, dX10_lifted_11, rfl, rfl, by decide +kernel⟩) (m_right_nd (m_right_lf ⟨1, dX10_lifted_12, rfl, rfl, rfl⟩) (m_right_lf ⟨3, dX10_lifted_13, rfl, rfl, 10, 1, rfl, Or.inl ⟨(RX10, TX10, 24), rfl, by decide, wd_867⟩⟩))) (m_right_nd (m_right_nd (m_right_lf ⟨2, dX10_lifted_16, rfl, rfl, by decide +kernel⟩) (m_right_lf ⟨1, dX10_lifted_18, rfl, rfl, rfl⟩)) (m_right_nd (m_right_lf ⟨1, dX10_lifted_19, rfl, rfl⟩) (m_right_lf ⟨1, dX10_lifted_20, rfl, rfl⟩))))) (m_right_nd (m_right_nd (m_right_nd (m_right_lf ⟨1, dX10_lifted_21, rfl, rfl⟩) (m_right_nd (m_right_lf ⟨1, dX10_lifted_22, rfl, rfl, rfl⟩) (m_right_lf ⟨3, dX10_lifted_23, rfl, rfl, 10, 10, rfl, Or.inl ⟨(RX10, TX10, 24), rfl, by decide, wd_876⟩⟩))) (m_right_nd (m_right_nd (m_right_lf ⟨1, dX10_lifted_26, rfl, rfl, by decide +kernel⟩) (m_right_lf ⟨1, dX10_lifted_27, rfl, rfl, rfl⟩)) (m_right_nd (m_right_lf ⟨3, dX10_lifted_28, rfl, rfl, 10, 1, rfl, Or.inl ⟨(RX10, TX10, 24), rfl, by decide, wd_867⟩⟩) (m_right_lf ⟨1, dX10_lifted_31, rfl, rfl, by decide +kernel⟩)))) (m_right_nd (m_right_nd (m_right_lf ⟨1, dX10_lifted_32, rfl, rfl, rfl⟩) (m_right_nd (m_right_lf ⟨1, dX10_lifted_33, rfl, rfl⟩) (m_right_lf ⟨1, dX10_lifted_34, rfl, rfl⟩))) (m_right_nd (m_right_nd (m_right_lf ⟨1, dX10_lifted_35, rfl, rfl⟩) (m_right_lf ⟨1, dX10_lifted_36, rfl, rfl, rfl⟩)) (m_right_nd (m_right_lf ⟨3, dX10_lifted_37, rfl, rfl, 10, 10, rfl, Or.inl ⟨(RX10, TX10, 24), rfl, by decide, wd_876⟩⟩) (m_right_lf ⟨1, dX10_lifted_40, rfl, rfl, by decide +kernel⟩)))))) (m_right_nd (m_right_nd (m_right_nd (m_right_nd (m_right_lf ⟨1, dX10_lifted_41, rfl, rfl, rfl⟩) (m_right_nd (m_right_lf ⟨3, dX10_lifted_42, rfl, rfl, 10, 1, rfl, Or.inl ⟨(RX10, TX10, 24), rfl, by decide, wd_867⟩⟩) (m_right_lf ⟨1, dX10_lifted_45, rfl, rfl, by decide +kernel⟩))) (m_right_nd (m_right_nd (m_right_lf ⟨1, dX10_lifted_46, rfl, rfl, rfl⟩) (m_right_lf ⟨1, dX10_lifted_47, rfl, rfl⟩)) (m_right_nd (m_right_lf ⟨1, dX10_lifted_48, rfl, rfl⟩) (m_right_lf ⟨1, dX10_lifted_49, rfl, rfl⟩)))) (m_right_nd (m_right_nd (m_right_lf ⟨1, dX10_lifted_50, rfl, rfl, rfl⟩) (m_right_nd (m_right_lf ⟨3, dX10_lifted_51, rfl, rfl, 10, 10, rfl, Or.inl ⟨(RX10, TX10, 24), rfl, by decide, wd_876⟩⟩) (m_right_lf ⟨1, dX10_lifted_54, rfl, rfl, by decide +kernel⟩))) (m_right_nd (m_right_nd (m_right_lf ⟨1, dX10_lifted_55, rfl, rfl, rfl⟩) (m_right_lf ⟨3, dX10_lifted_56, rfl, rfl, 10, 1, rfl, Or.inl ⟨(RX10, TX10, 24), rfl, by decide, wd_867⟩⟩)) (m_right_nd (m_right_lf ⟨1, dX10_lifted_59, rfl, rfl, by decide +kernel⟩) (m_right_lf ⟨1, dX10_lifted_60, rfl, rfl⟩))))) (m_right_nd (m_right_nd (m_right_nd (m_right_lf ⟨2, dX10_lifted_61, rfl, rfl, by decide +kernel⟩) (m_right_nd (m_right_lf ⟨1, dX10_lifted_63, rfl, rfl⟩) (m_right_lf ⟨1, dX10_lifted_64, rfl, rfl⟩))) (m_right_nd (m_right_nd (m_right_lf ⟨1, dX10_lifted_65, rfl, rfl, by decide +kernel⟩) (m_right_lf ⟨1, dX10_lifted_66, rfl, rfl, rfl⟩)) (m_right_nd (m_right_lf ⟨1, dX10_lifted_67, rfl, rfl, rfl⟩) (m_right_lf ⟨3, dX10_lifted_68, rfl, rfl, 10, 1, rfl, Or.inl ⟨(RX10, TX10, 24), rfl, by decide, wd_867⟩⟩)))) (m_right_nd (m_right_nd (m_right_nd (m_right_lf ⟨2, dX10_lifted_71, rfl, rfl, by decide +kernel⟩) (m_right_lf ⟨1, dX10_lifted_73, rfl, rfl⟩)) (m_right_nd (m_right_lf ⟨1, dX10_lifted_74, rfl, rfl, by decide +kernel⟩) (m_right_lf ⟨3, dX10_lifted_75, rfl, rfl, 82, rfl, by decide⟩))) (m_right_nd (m_right_nd (m_right_lf ⟨1, dX10_lifted_78, rfl, rfl, by decide +kernel⟩) (m_right_lf ⟨3, dX10_lifted_79, rfl, 98, rfl, by decide⟩)) (m_right_nd (m_right_lf ⟨1, dX10_lifted_82, rfl, rfl, rfl⟩) (m_right_lf ⟨3, dX10_lifted_83, rfl, rfl, 10, 1, rfl, Or.inl ⟨(RX10, TX10, 24), rfl, by decide, wd_867⟩⟩))))))) (m_right_nd (m_right_nd (m_right_nd (m_right_nd (m_right_nd (m_right_lf ⟨3, dX10_lifted_86, rfl, rfl, by decide +kernel⟩) (m_right_nd (m_right_lf ⟨1, dX10_lifted_89, rfl, rfl, rfl⟩) (m_right_lf ⟨3, dX10_lifted_90, rfl, rfl, 10, 1, rfl, Or.inl ⟨(RX10, TX10, 24), rfl, by decide, wd_867⟩⟩))) (m_right_nd (m_right_nd (m_right_lf ⟨2, dX10_lifted_93, rfl, rfl, by decide +kernel⟩) (m_right_lf ⟨1, dX10_lifted_95, rfl, rfl⟩)) (m_right_nd (m_right_lf ⟨1, dX10_lifted_96, rfl, rfl⟩) (m_right_lf ⟨1, dX10_lifted_97, rfl, rfl⟩)))) (m_right_nd (m_right_nd (m_right_lf ⟨2, dX10_lifted_98, rfl, rfl, rfl⟩) (m_right_nd (m_right_lf ⟨3, dX10_lifted_100, rfl, rfl, by decide +kernel⟩) (m_right_lf ⟨3, dX10_lifted_103, rfl, rfl, by decide +kernel⟩))) (m_right_nd (m_right_nd (m_right_lf ⟨1, dX10_lifted_106, rfl, rfl, rfl⟩) (m_right_lf ⟨3, dX10_lifted_107, rfl, rfl, 10, 1, rfl, Or.inl ⟨(RX10, TX10, 24), rfl, by decide, wd_867⟩⟩)) (m_right_nd (m_right_lf ⟨2, dX10_lifted_110, rfl, rfl, by decide +kernel⟩) (m_right_lf ⟨1, dX10_lifted_112, rfl, rfl⟩))))) (m_right_nd (m_right_nd (m_right_nd (m_right_lf ⟨1, dX10_lifted_113, rfl, rfl⟩) (m_right_nd (m_right_lf ⟨1, dX10_lifted_114, rfl, rfl⟩) (m_right_lf ⟨2, dX10_lifted_115, rfl, rfl, rfl⟩))) (m_right_nd (m_right_nd (m_right_lf ⟨1, dX10_lifted_117, rfl, rfl, by decide +kernel⟩) (m_right_lf ⟨2, dX10_lifted_118, rfl, rfl, rfl⟩)) (m_right_nd (m_right_lf ⟨2, dX10_lifted_120, rfl, rfl, rfl⟩) (m_right_lf ⟨2, dX10_lifted_122, rfl, rfl, rfl⟩)))) (m_right_nd (m_right_nd (m_right_lf ⟨2, dX10_lifted_124, rfl, rfl, rfl⟩) (m_right_nd (m_right_lf ⟨2, dX10_lifted_126, rfl, rfl, rfl⟩) (m_right_lf ⟨2, dX10_lifted_128, rfl, rfl, rfl⟩))) (m_right_nd (m_right_nd (m_right_lf ⟨1, dX10_lifted_130, rfl, rfl⟩) (m_right_lf ⟨3, dX10_lifted_131, rfl, rfl, 410, rfl, by decide⟩)) (m_right_nd (m_right_lf ⟨1, dX10_lifted_134, rfl, rfl, rfl⟩) (m_right_lf ⟨3, dX10_lifted_135, rfl, rfl, 10, 1, rfl, Or.inl ⟨(RX10, TX10, 24), rfl, by decide, wd_867⟩⟩)))))) (m_right_nd (m_right_nd (m_right_nd (m_right_nd (m_right_lf ⟨2, dX10_lifted_138, rfl, rfl, rfl⟩) (m_right_nd (m_right_lf ⟨1, dX10_lifted_140, rfl, rfl⟩) (m_right_lf ⟨2, dX10_lifted_141, rfl, rfl, rfl⟩))) (m_right_nd (m_right_nd (m_right_lf ⟨2, dX10_lifted_143, rfl, rfl, rfl⟩) (m_right_lf ⟨3, dX10_lifted_145, rfl, rfl, 242, rfl, by decide⟩)) (m_right_nd (m_right_lf ⟨1, dX10_lifted_148, rfl, rfl, rfl⟩) (m_right_lf ⟨3, dX10_lifted_149, rfl, rfl, 10, 10, rfl, Or.inl ⟨(RX10, TX10, 24), rfl, by decide, wd_876⟩⟩)))) (m_right_nd (m_right_nd (m_right_lf ⟨2, dX10_lifted_152, rfl, rfl, rfl⟩) (m_right_nd (m_right_lf ⟨2, dX10_lifted_154, rfl, rfl, by decide +kernel⟩) (m_right_lf ⟨1, dX10_lifted_156, rfl, rfl⟩))) (m_right_nd (m_right_nd (m_right_lf ⟨1, dX10_lifted_157, rfl, rfl⟩) (m_right_lf ⟨2, dX10_lifted_158, rfl, rfl, rfl⟩)) (m_right_nd (m_right_lf ⟨2, dX10_lifted_160, rfl, rfl, rfl⟩) (m_right_lf ⟨2, dX10_lifted_162, rfl, rfl, by decide +kernel⟩))))) (m_right_nd (m_right_nd (m_right_nd (m_right_lf ⟨1, dX10_lifted_164, rfl, rfl⟩) (m_right_nd (m_right_lf ⟨1, dX10_lifted_165, rfl, rfl, by decide +kernel⟩) (m_right_lf ⟨1, dX10_lifted_166, rfl, rfl⟩))) (m_right_nd (m_right_nd (m_right_lf ⟨2, dX10_lifted_167, rfl, rfl, rfl⟩) (m_right_lf ⟨2, dX10_lifted_169, rfl, rfl, rfl⟩)) (m_right_nd (m_right_lf ⟨2, dX10_lifted_171, rfl, rfl, by decide +kernel⟩) (m_right_lf ⟨1, dX10_lifted_173, rfl, rfl⟩)))) (m_right_nd (m_right_nd (m_right_nd (m_right_lf ⟨2, dX10_lifted_174, rfl, rfl, rfl⟩) (m_right_lf ⟨1, dX10_lifted_176, rfl, rfl, rfl⟩)) (m_right_nd (m_right_lf ⟨3, dX10_lifted_177, rfl, rfl, 10, 11, rfl, Or.inl ⟨(RX10, TX10, 24), rfl, by decide, wd_877⟩⟩) (m_right_lf ⟨2, dX10_lifted_180, rfl, rfl, rfl⟩))) (m_right_nd (m_right_nd (m_right_lf ⟨2, dX10_lifted_182, rfl, rfl, rfl⟩) (m_right_lf ⟨3, dX10_lifted_184, rfl, rfl, 202, rfl, by decide⟩)) (m_right_nd (m_right_lf ⟨2, dX10_lifted_187, rfl, rfl, rfl⟩) (m_right_lf ⟨2, dX10_lifted_189, rfl, rfl, rfl⟩)))))))) (m_right_nd (m_right_nd (m_right_nd (m_right_nd (m_right_nd (m_right_nd (m_right_lf ⟨3, dX10_lifted_191, rfl, rfl, 198, rfl, by decide⟩) (m_right_nd (m_right_lf ⟨1, dX10_lifted_194, rfl, rfl, by decide +kernel⟩) (m_right_lf ⟨3, dX10_lifted_195, rfl, 235, rfl, by decide⟩))) (m_right_nd (m_right_nd (m_right_lf ⟨1, dX10_lifted_198, rfl, rfl, by decide +kernel⟩) (m_right_lf ⟨3, dX10_lifted_199, rfl, 235, rfl, by decide⟩)) (m_right_nd (m_right_lf ⟨2, dX10_lifted_202, rfl, rfl, rfl⟩) (m_right_lf ⟨1, dX10_lifted_204, rfl, rfl, by decide +kernel⟩)))) (m_right_nd (m_right_nd (m_right_lf ⟨3, dX10_lifted_205, rfl, rfl, 223, rfl, by decide⟩) (m_right_nd (m_right_lf ⟨2, dX10_lifted_208, rfl, rfl, rfl⟩) (m_right_lf ⟨2, dX10_lifted_210, rfl, rfl, rfl⟩))) (m_right_nd (m_right_nd (m_right_lf ⟨3, dX10_lifted_212, rfl, rfl, 219, rfl, by decide⟩) (m_right_lf ⟨1, dX10_lifted_215, rfl, rfl, by decide +kernel⟩)) (m_right_nd (m_right_lf ⟨3, dX10_lifted_216, rfl, 235, rfl, by decide⟩) (m_right_lf ⟨1, dX10_lifted_219, rfl, rfl, by decide +kernel⟩))))) (m_right_nd (m_right_nd (m_right_nd (m_right_lf ⟨3, dX10_lifted_220, rfl, 235, rfl, by decide⟩) (m_right_nd (m_right_lf ⟨2, dX10_lifted_223, rfl, rfl, rfl⟩) (m_right_lf ⟨2, dX10_lifted_225, rfl, rfl, rfl⟩))) (m_right_nd (m_right_nd (m_right_lf ⟨3, dX10_lifted_227, rfl, rfl, 234, rfl, by decide⟩) (m_right_lf ⟨1, dX10_lifted_230, rfl, rfl, by decide +kernel⟩)) (m_right_nd (m_right_lf ⟨3, dX10_lifted_231, rfl, 235, rfl, by decide⟩) (m_right_lf ⟨1, dX10_lifted_234, rfl, rfl, by decide +kernel⟩)))) (m_right_nd (m_right_nd (m_right_lf ⟨1, dX10_lifted_235, rfl, rfl⟩) (m_right_nd (m_right_lf ⟨3, dX10_lifted_236, rfl, rfl, rfl, by decide +kernel⟩) (m_right_lf ⟨3, dX10_lifted_239, rfl, 404, rfl, by decide⟩))) (m_right_nd (m_right_nd (m_right_lf ⟨2, dX10_lifted_242, rfl, rfl, rfl⟩) (m_right_lf ⟨1, dX10_lifted_244, rfl, rfl, by decide +kernel⟩)) (m_right_nd (m_right_lf ⟨3, dX10_lifted_245, rfl, rfl, 277, rfl, by decide⟩) (m_right_lf ⟨1, dX10_lifted_248, rfl, rfl, rfl⟩)))))) (m_right_nd (m_right_nd (m_right_nd (m_right_nd (m_right_lf ⟨3, dX10_lifted_249, rfl, rfl, 10, 11, rfl, Or.inl ⟨(RX10, TX10, 24), rfl, by decide, wd_877⟩⟩) (m_right_nd (m_right_lf ⟨2, dX10_lifted_252, rfl, rfl, rfl⟩) (m_right_lf ⟨1, dX10_lifted_254, rfl, rfl, by decide +kernel⟩))) (m_right_nd (m_right_nd (m_right_lf ⟨1, dX10_lifted_255, rfl, rfl⟩) (m_right_lf ⟨1, dX10_lifted_256, rfl, rfl, rfl⟩)) (m_right_nd (m_right_lf ⟨3, dX10_lifted_257, rfl, rfl, 10, 11, rfl, Or.inl ⟨(RX10, TX10, 24), rfl, by decide, wd_877⟩⟩) (m_right_lf ⟨2, dX10_lifted_260, rfl, rfl, rfl⟩)))) (m_right_nd (m_right_nd (m_right_lf ⟨1, dX10_lifted_262, rfl, rfl, by decide +kernel⟩) (m_right_nd (m_right_lf ⟨1, dX10_lifted_263, rfl, rfl⟩) (m_right_lf ⟨1, dX10_lifted_264, rfl, rfl⟩))) (m_right_nd (m_right_nd (m_right_lf ⟨3, dX10_lifted_265, rfl, rfl, 272, rfl, by decide⟩) (m_right_lf ⟨1, dX10_lifted_268, rfl, rfl, by decide +kernel⟩)) (m_right_nd (m_right_lf ⟨3, dX10_lifted_269, rfl, 273, rfl, by decide⟩) (m_right_lf ⟨1, dX10_lifted_272, rfl, rfl, by decide +kernel⟩))))) (m_right_nd (m_right_nd (m_right_nd (m_right_lf ⟨1, dX10_lifted_273, rfl, rfl⟩) (m_right_nd (m_right_lf ⟨3, dX10_lifted_274, rfl, 404, rfl, by decide⟩) (m_right_lf ⟨2, dX10_lifted_277, rfl, rfl, rfl⟩))) (m_right_nd (m_right_nd (m_right_lf ⟨2, dX10_lifted_279, rfl, rfl, by decide +kernel⟩) (m_right_lf ⟨3, dX10_lifted_281, rfl, rfl, 363, rfl, by decide⟩)) (m_right_nd (m_right_lf ⟨3, dX10_lifted_284, rfl, rfl, rfl, by decide +kernel⟩) (m_right_lf ⟨1, dX10_lifted_287, rfl, rfl, rfl⟩)))) (m_right_nd (m_right_nd (m_right_nd (m_right_lf ⟨3, dX10_lifted_288, rfl, rfl, 10, 11, rfl, Or.inl ⟨(RX10, TX10, 24), rfl, by decide, wd_877⟩⟩) (m_right_lf ⟨2, dX10_lifted_291, rfl, rfl, rfl⟩)) (m_right_nd (m_right_lf ⟨1, dX10_lifted_293, rfl, rfl, by decide +kernel⟩) (m_right_lf ⟨1, dX10_lifted_294, rfl, rfl⟩))) (m_right_nd (m_right_nd (m_right_lf ⟨2, dX10_lifted_295, rfl, rfl, rfl⟩) (m_right_lf ⟨2, dX10_lifted_297, rfl, rfl, by decide +kernel⟩)) (m_right_nd (m_right_lf ⟨3, dX10_lifted_299, rfl, rfl, 332, rfl, by decide⟩) (m_right_lf ⟨1, dX10_lifted_302, rfl, rfl, rfl⟩))))))) (m_right_nd (m_right_nd (m_right_nd (m_right_nd (m_right_nd (m_right_lf ⟨3, dX10_lifted_303, rfl, rfl, 10, 11, rfl, Or.inl ⟨(RX10, TX10, 24), rfl, by decide, wd_877⟩⟩) (m_right_nd (m_right_lf ⟨2, dX10_lifted_306, rfl, rfl, rfl⟩) (m_right_lf ⟨1, dX10_lifted_308, rfl, rfl, by decide +kernel⟩))) (m_right_nd (m_right_nd (m_right_lf ⟨1, dX10_lifted_309, rfl, rfl⟩) (m_right_lf ⟨1, dX10_lifted_310, rfl, rfl⟩)) (m_right_nd (m_right_lf ⟨3, dX10_lifted_311, rfl, rfl, 328, rfl, by decide⟩) (m_right_lf ⟨1, dX10_lifted_314, rfl, rfl, rfl⟩)))) (m_right_nd (m_right_nd (m_right_lf ⟨3, dX10_lifted_315, rfl, rfl, 10, 11, rfl, Or.inl ⟨(RX10, TX10, 24), rfl, by decide, wd_877⟩⟩) (m_right_nd (m_right_lf ⟨2, dX10_lifted_318, rfl, rfl, rfl⟩) (m_right_lf ⟨1, dX10_lifted_320, rfl, rfl⟩))) (m_right_nd (m_right_nd (m_right_lf ⟨3, dX10_lifted_321, rfl, rfl, 328, rfl, by decide⟩) (m_right_lf ⟨1, dX10_lifted_324, rfl, rfl, by decide +kernel⟩)) (m_right_nd (m_right_lf ⟨3, dX10_lifted_325, rfl, 359, rfl, by decide⟩) (m_right_lf ⟨1, dX10_lifted_328, rfl, rfl, by decide +kernel⟩))))) (m_right_nd (m_right_nd (m_right_nd (m_right_lf ⟨3, dX10_lifted_329, rfl, 359, rfl, by decide⟩) (m_right_nd (m_right_lf ⟨1, dX10_lifted_332, rfl, rfl, rfl⟩) (m_right_lf ⟨3, dX10_lifted_333, rfl, rfl, 10, 11, rfl, Or.inl ⟨(RX10, TX10, 24), rfl, by decide, wd_877⟩⟩))) (m_right_nd (m_right_nd (m_right_lf ⟨2, dX10_lifted_336, rfl, rfl, rfl⟩) (m_right_lf ⟨1, dX10_lifted_338, rfl, rfl, by decide +kernel⟩)) (m_right_nd (m_right_lf ⟨1, dX10_lifted_339, rfl, rfl⟩) (m_right_lf ⟨1, dX10_lifted_340, rfl, rfl⟩)))) (m_right_nd (m_right_nd (m_right_nd (m_right_lf ⟨3, dX10_lifted_341, rfl, rfl, 354, rfl, by decide⟩) (m_right_lf ⟨1, dX10_lifted_344, rfl, rfl, rfl⟩)) (m_right_nd (m_right_lf ⟨3, dX10_lifted_345, rfl, rfl, 10, 11, rfl, Or.inl ⟨(RX10, TX10, 24), rfl, by decide, wd_877⟩⟩) (m_right_lf ⟨2, dX10_lifted_348, rfl, rfl, rfl⟩))) (m_right_nd (m_right_nd (m_right_lf ⟨1, dX10_lifted_350, rfl, rfl⟩) (m_right_lf ⟨3, dX10_lifted_351, rfl, rfl, 358, rfl, by decide⟩)) (m_right_nd (m_right_lf ⟨1, dX10_lifted_354, rfl, rfl, by decide +kernel⟩) (m_right_lf ⟨3, dX10_lifted_355, rfl, 359, rfl, by decide⟩)))))) (m_right_nd (m_right_nd (m_right_nd (m_right_nd (m_right_lf ⟨1, dX10_lifted_358, rfl, rfl, by decide +kernel⟩) (m_right_nd (m_right_lf ⟨1, dX10_lifted_359, rfl, rfl⟩) (m_right_lf ⟨3, dX10_lifted_360, rfl, 404, rfl, by decide⟩))) (m_right_nd (m_right_nd (m_right_lf ⟨1, dX10_lifted_363, rfl, rfl, by decide +kernel⟩) (m_right_lf ⟨2, dX10_lifted_364, rfl, rfl, rfl⟩)) (m_right_nd (m_right_lf ⟨1, dX10_lifted_366, rfl, rfl, rfl⟩) (m_right_lf ⟨1, dX10_lifted_367, rfl, rfl, rfl⟩)))) (m_right_nd (m_right_nd (m_right_lf ⟨3, dX10_lifted_368, rfl, rfl, 10, 11, rfl, Or.inl ⟨(RX10, TX10, 24), rfl, by decide, wd_877⟩⟩) (m_right_nd (m_right_lf ⟨1, dX10_lifted_371, rfl, rfl, by decide +kernel⟩) (m_right_lf ⟨1, dX10_lifted_372, rfl, rfl⟩))) (m_right_nd (m_right_nd (m_right_lf ⟨3, dX10_lifted_373, rfl, rfl, 380, rfl, by decide⟩) (m_right_lf ⟨1, dX10_lifted_376, rfl, rfl, by decide +kernel⟩)) (m_right_nd (m_right_lf ⟨3, dX10_lifted_377, rfl, 402, rfl, by decide⟩) (m_right_lf ⟨2, dX10_lifted_380, rfl, rfl, rfl⟩))))) (m_right_nd (m_right_nd (m_right_nd (m_right_lf ⟨3, dX10_lifted_382, rfl, rfl, by decide +kernel⟩) (m_right_nd (m_right_lf ⟨3, dX10_lifted_385, rfl, rfl, 396, rfl, by decide⟩) (m_right_lf ⟨2, dX10_lifted_388, rfl, rfl, by decide +kernel⟩))) (m_right_nd (m_right_nd (m_right_lf ⟨2, dX10_lifted_390, rfl, rfl, rfl⟩) (m_right_lf ⟨1, dX10_lifted_392, rfl, rfl⟩)) (m_right_nd (m_right_lf ⟨3, dX10_lifted_393, rfl, 402, rfl, by decide⟩) (m_right_lf ⟨2, dX10_lifted_396, rfl, rfl, rfl⟩)))) (m_right_nd (m_right_nd (m_right_nd (m_right_lf ⟨3, dX10_lifted_398, rfl, rfl, by decide +kernel⟩) (m_right_lf ⟨1, dX10_lifted_401, rfl, rfl⟩)) (m_right_nd (m_right_lf ⟨1, dX10_lifted_402, rfl, rfl⟩) (m_right_lf ⟨1, dX10_lifted_403, rfl, rfl, rfl⟩))) (m_right_nd (m_right_nd (m_right_lf ⟨3, dX10_lifted_404, rfl, rfl, rfl, by decide +kernel⟩) (m_right_lf ⟨3, dX10_lifted_407, rfl, 124, rfl, by decide⟩)) (m_right_nd (m_right_lf ⟨1, dX10_lifted_410, rfl, rfl, rfl⟩) (m_right_lf ⟨1, dX10_lifted_411, rfl, 0, .int, rfl, rfl, Or.inl ⟨rfl, rfl⟩⟩))))))))
