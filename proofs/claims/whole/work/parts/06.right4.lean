/-! By program (wip/whole/gen2.py): the words of the tables by their places, and the code tables' rightness. -/
theorem dX9_ends_0 : decode cX9_ends 0 = .ok (.aload_n 0, 1) := by decide +kernel
theorem dX9_ends_1 : decode cX9_ends 1 = .ok (.iload_n 1, 1) := by decide +kernel
theorem dX9_ends_2 : decode cX9_ends 2 = .ok (.iload_n 2, 1) := by decide +kernel
theorem dX9_ends_3 : decode cX9_ends 3 = .ok (.invokevirtual 132, 3) := by decide +kernel
theorem dX9_ends_6 : decode cX9_ends 6 = .ok (.ifCond .ne 21, 3) := by decide +kernel
theorem dX9_ends_9 : decode cX9_ends 9 = .ok (.iload_n 3, 1) := by decide +kernel
theorem dX9_ends_10 : decode cX9_ends 10 = .ok (.ifCond .lt 17, 3) := by decide +kernel
theorem dX9_ends_13 : decode cX9_ends 13 = .ok (.iload_n 3, 1) := by decide +kernel
theorem dX9_ends_14 : decode cX9_ends 14 = .ok (.bipush 12, 2) := by decide +kernel
theorem dX9_ends_16 : decode cX9_ends 16 = .ok (.if_icmp .gt 11, 3) := by decide +kernel
theorem dX9_ends_19 : decode cX9_ends 19 = .ok (.iload 4, 2) := by decide +kernel
theorem dX9_ends_21 : decode cX9_ends 21 = .ok (.invokestatic 146, 3) := by decide +kernel
theorem dX9_ends_24 : decode cX9_ends 24 = .ok (.ifCond .eq 7, 3) := by decide +kernel
theorem dX9_ends_27 : decode cX9_ends 27 = .ok (.ldc2_w 149, 3) := by decide +kernel
theorem dX9_ends_30 : decode cX9_ends 30 = .ok (.lreturn, 1) := by decide +kernel
theorem dX9_ends_31 : decode cX9_ends 31 = .ok (.aload_n 0, 1) := by decide +kernel
theorem dX9_ends_32 : decode cX9_ends 32 = .ok (.getfield 34, 3) := by decide +kernel
theorem dX9_ends_35 : decode cX9_ends 35 = .ok (.aload_n 0, 1) := by decide +kernel
theorem dX9_ends_36 : decode cX9_ends 36 = .ok (.getfield 12, 3) := by decide +kernel
theorem dX9_ends_39 : decode cX9_ends 39 = .ok (.iload_n 1, 1) := by decide +kernel
theorem dX9_ends_40 : decode cX9_ends 40 = .ok (.iload_n 2, 1) := by decide +kernel
theorem dX9_ends_41 : decode cX9_ends 41 = .ok (.iconst 0, 1) := by decide +kernel
theorem dX9_ends_42 : decode cX9_ends 42 = .ok (.invokevirtual 151, 3) := by decide +kernel
theorem dX9_ends_45 : decode cX9_ends 45 = .ok (.aload_n 0, 1) := by decide +kernel
theorem dX9_ends_46 : decode cX9_ends 46 = .ok (.getfield 34, 3) := by decide +kernel
theorem dX9_ends_49 : decode cX9_ends 49 = .ok (.invokevirtual 175, 3) := by decide +kernel
theorem dX9_ends_52 : decode cX9_ends 52 = .ok (.lstore 5, 2) := by decide +kernel
theorem dX9_ends_54 : decode cX9_ends 54 = .ok (.iconst 0, 1) := by decide +kernel
theorem dX9_ends_55 : decode cX9_ends 55 = .ok (.istore 7, 2) := by decide +kernel
theorem dX9_ends_57 : decode cX9_ends 57 = .ok (.iload 7, 2) := by decide +kernel
theorem dX9_ends_59 : decode cX9_ends 59 = .ok (.iload_n 3, 1) := by decide +kernel
theorem dX9_ends_60 : decode cX9_ends 60 = .ok (.if_icmp .ge 32, 3) := by decide +kernel
theorem dX9_ends_63 : decode cX9_ends 63 = .ok (.aload_n 0, 1) := by decide +kernel
theorem dX9_ends_64 : decode cX9_ends 64 = .ok (.getfield 34, 3) := by decide +kernel
theorem dX9_ends_67 : decode cX9_ends 67 = .ok (.invokevirtual 155, 3) := by decide +kernel
theorem dX9_ends_70 : decode cX9_ends 70 = .ok (.lload 5, 2) := by decide +kernel
theorem dX9_ends_72 : decode cX9_ends 72 = .ok (.ldc2_w 173, 3) := by decide +kernel
theorem dX9_ends_75 : decode cX9_ends 75 = .ok (.lmul, 1) := by decide +kernel
theorem dX9_ends_76 : decode cX9_ends 76 = .ok (.aload_n 0, 1) := by decide +kernel
theorem dX9_ends_77 : decode cX9_ends 77 = .ok (.getfield 34, 3) := by decide +kernel
theorem dX9_ends_80 : decode cX9_ends 80 = .ok (.invokevirtual 175, 3) := by decide +kernel
theorem dX9_ends_83 : decode cX9_ends 83 = .ok (.ladd, 1) := by decide +kernel
theorem dX9_ends_84 : decode cX9_ends 84 = .ok (.lstore 5, 2) := by decide +kernel
theorem dX9_ends_86 : decode cX9_ends 86 = .ok (.iinc 7 1, 3) := by decide +kernel
theorem dX9_ends_89 : decode cX9_ends 89 = .ok (.goto (-32), 3) := by decide +kernel
theorem dX9_ends_92 : decode cX9_ends 92 = .ok (.lload 5, 2) := by decide +kernel
theorem dX9_ends_94 : decode cX9_ends 94 = .ok (.iload_n 3, 1) := by decide +kernel
theorem dX9_ends_95 : decode cX9_ends 95 = .ok (.invokestatic 162, 3) := by decide +kernel
theorem dX9_ends_98 : decode cX9_ends 98 = .ok (.iload 4, 2) := by decide +kernel
theorem dX9_ends_100 : decode cX9_ends 100 = .ok (.invokestatic 165, 3) := by decide +kernel
theorem dX9_ends_103 : decode cX9_ends 103 = .ok (.lreturn, 1) := by decide +kernel
set_option maxRecDepth 20000 in
theorem r_X9_ends : m_Right (yX9_ends, cX9_ends, 8, (some .long)) q_X9_ends := m_right_nd (m_right_nd (m_right_nd (m_right_nd (m_right_nd (m_right_lf ⟨1, dX9_ends_0, rfl, rfl, rfl⟩) (m_right_nd (m_right_lf ⟨1, dX9_ends_1, rfl, rfl, rfl⟩) (m_right_lf ⟨1, dX9_ends_2, rfl, rfl, rfl⟩))) (m_right_nd (m_right_lf ⟨3, dX9_ends_3, rfl, rfl, 109, 2, 9, (yX9_refusal, cX9_refusal, 3, (some .int)), rfl, me_X9_refusal, mc_X9_refusal, Or.inl ⟨(RX9, TX9, 10), rfl, rfl⟩, wd_512, wd_514, wd_10, wd_62⟩) (m_right_nd (m_right_lf ⟨3, dX9_ends_6, rfl, rfl, 27, rfl, by decide⟩) (m_right_lf ⟨1, dX9_ends_9, rfl, rfl, rfl⟩)))) (m_right_nd (m_right_nd (m_right_lf ⟨3, dX9_ends_10, rfl, rfl, 27, rfl, by decide⟩) (m_right_nd (m_right_lf ⟨1, dX9_ends_13, rfl, rfl, rfl⟩) (m_right_lf ⟨2, dX9_ends_14, rfl, rfl, by decide +kernel⟩))) (m_right_nd (m_right_lf ⟨3, dX9_ends_16, rfl, rfl, 27, rfl, by decide⟩) (m_right_nd (m_right_lf ⟨2, dX9_ends_19, rfl, rfl, rfl⟩) (m_right_lf ⟨3, dX9_ends_21, rfl, rfl, Or.inr (Or.inr ⟨113, 1, (yX9_isNoPart, cX9_isNoPart, 1, (some .boolean)), rfl, me_X9_isNoPart, mc_X9_isNoPart, wd_575, wd_576, wd_62⟩)⟩))))) (m_right_nd (m_right_nd (m_right_nd (m_right_lf ⟨3, dX9_ends_24, rfl, rfl, 31, rfl, by decide⟩) (m_right_nd (m_right_lf ⟨3, dX9_ends_27, rfl, rfl, _, rfl, wd_578⟩) (m_right_lf ⟨1, dX9_ends_30, rfl, rfl⟩))) (m_right_nd (m_right_lf ⟨1, dX9_ends_31, rfl, rfl, rfl⟩) (m_right_nd (m_right_lf ⟨3, dX9_ends_32, rfl, rfl, 9, 4, rfl, Or.inl ⟨(RX9, TX9, 10), rfl, by decide, wd_352⟩⟩) (m_right_lf ⟨1, dX9_ends_35, rfl, rfl, rfl⟩)))) (m_right_nd (m_right_nd (m_right_lf ⟨3, dX9_ends_36, rfl, rfl, 9, 0, rfl, Or.inl ⟨(RX9, TX9, 10), rfl, by decide, wd_348⟩⟩) (m_right_nd (m_right_lf ⟨1, dX9_ends_39, rfl, rfl, rfl⟩) (m_right_lf ⟨1, dX9_ends_40, rfl, rfl, rfl⟩))) (m_right_nd (m_right_nd (m_right_lf ⟨1, dX9_ends_41, rfl, rfl, by decide +kernel⟩) (m_right_lf ⟨3, dX9_ends_42, rfl, rfl, 17, 4, 2, (yX2_begins, cX2_begins, 5, none), rfl, me_X2_begins, mc_X2_begins, Or.inl ⟨(RX2, TX2, 8), rfl, rfl⟩, wd_579, wd_580, wd_581, wd_65⟩)) (m_right_nd (m_right_lf ⟨1, dX9_ends_45, rfl, rfl, rfl⟩) (m_right_lf ⟨3, dX9_ends_46, rfl, rfl, 9, 4, rfl, Or.inl ⟨(RX9, TX9, 10), rfl, by decide, wd_352⟩⟩)))))) (m_right_nd (m_right_nd (m_right_nd (m_right_nd (m_right_lf ⟨3, dX9_ends_49, rfl, rfl, 21, 0, 2, (yX2_takesEnded, cX2_takesEnded, 4, (some .long)), rfl, me_X2_takesEnded, mc_X2_takesEnded, Or.inl ⟨(RX2, TX2, 8), rfl, rfl⟩, wd_650, wd_651, wd_652, wd_65⟩) (m_right_nd (m_right_lf ⟨2, dX9_ends_52, rfl, rfl, rfl⟩) (m_right_lf ⟨1, dX9_ends_54, rfl, rfl, by decide +kernel⟩))) (m_right_nd (m_right_lf ⟨2, dX9_ends_55, rfl, rfl, rfl⟩) (m_right_nd (m_right_lf ⟨2, dX9_ends_57, rfl, rfl, rfl⟩) (m_right_lf ⟨1, dX9_ends_59, rfl, rfl, rfl⟩)))) (m_right_nd (m_right_nd (m_right_lf ⟨3, dX9_ends_60, rfl, rfl, 92, rfl, by decide⟩) (m_right_nd (m_right_lf ⟨1, dX9_ends_63, rfl, rfl, rfl⟩) (m_right_lf ⟨3, dX9_ends_64, rfl, rfl, 9, 4, rfl, Or.inl ⟨(RX9, TX9, 10), rfl, by decide, wd_352⟩⟩))) (m_right_nd (m_right_nd (m_right_lf ⟨3, dX9_ends_67, rfl, rfl, 18, 0, 2, (yX2_goesOn, cX2_goesOn, 2, none), rfl, me_X2_goesOn, mc_X2_goesOn, Or.inl ⟨(RX2, TX2, 8), rfl, rfl⟩, wd_594, wd_595, wd_596, wd_65⟩) (m_right_lf ⟨2, dX9_ends_70, rfl, rfl, rfl⟩)) (m_right_nd (m_right_lf ⟨3, dX9_ends_72, rfl, rfl, _, rfl, wd_627⟩) (m_right_lf ⟨1, dX9_ends_75, rfl, rfl⟩))))) (m_right_nd (m_right_nd (m_right_nd (m_right_lf ⟨1, dX9_ends_76, rfl, rfl, rfl⟩) (m_right_nd (m_right_lf ⟨3, dX9_ends_77, rfl, rfl, 9, 4, rfl, Or.inl ⟨(RX9, TX9, 10), rfl, by decide, wd_352⟩⟩) (m_right_lf ⟨3, dX9_ends_80, rfl, rfl, 21, 0, 2, (yX2_takesEnded, cX2_takesEnded, 4, (some .long)), rfl, me_X2_takesEnded, mc_X2_takesEnded, Or.inl ⟨(RX2, TX2, 8), rfl, rfl⟩, wd_650, wd_651, wd_652, wd_65⟩))) (m_right_nd (m_right_lf ⟨1, dX9_ends_83, rfl, rfl⟩) (m_right_nd (m_right_lf ⟨2, dX9_ends_84, rfl, rfl, rfl⟩) (m_right_lf ⟨3, dX9_ends_86, rfl, rfl, rfl, by decide +kernel⟩)))) (m_right_nd (m_right_nd (m_right_lf ⟨3, dX9_ends_89, rfl, 57, rfl, by decide⟩) (m_right_nd (m_right_lf ⟨2, dX9_ends_92, rfl, rfl, rfl⟩) (m_right_lf ⟨1, dX9_ends_94, rfl, rfl, rfl⟩))) (m_right_nd (m_right_nd (m_right_lf ⟨3, dX9_ends_95, rfl, rfl, Or.inr (Or.inr ⟨115, 1, (yX9_powerOfTen, cX9_powerOfTen, 4, (some .long)), rfl, me_X9_powerOfTen, mc_X9_powerOfTen, wd_624, wd_625, wd_62⟩)⟩) (m_right_lf ⟨2, dX9_ends_98, rfl, rfl, rfl⟩)) (m_right_nd (m_right_lf ⟨3, dX9_ends_100, rfl, rfl, Or.inr (Or.inr ⟨116, 3, (yX9_partOf, cX9_partOf, 12, (some .long)), rfl, me_X9_partOf, mc_X9_partOf, wd_628, wd_629, wd_62⟩)⟩) (m_right_lf ⟨1, dX9_ends_103, rfl, rfl⟩))))))
theorem dX9_even_0 : decode cX9_even 0 = .ok (.aload_n 0, 1) := by decide +kernel
theorem dX9_even_1 : decode cX9_even 1 = .ok (.iload_n 1, 1) := by decide +kernel
theorem dX9_even_2 : decode cX9_even 2 = .ok (.iload_n 2, 1) := by decide +kernel
theorem dX9_even_3 : decode cX9_even 3 = .ok (.invokevirtual 132, 3) := by decide +kernel
theorem dX9_even_6 : decode cX9_even 6 = .ok (.istore_n 3, 1) := by decide +kernel
theorem dX9_even_7 : decode cX9_even 7 = .ok (.iload_n 3, 1) := by decide +kernel
theorem dX9_even_8 : decode cX9_even 8 = .ok (.ifCond .eq 5, 3) := by decide +kernel
theorem dX9_even_11 : decode cX9_even 11 = .ok (.iload_n 3, 1) := by decide +kernel
theorem dX9_even_12 : decode cX9_even 12 = .ok (.ireturn, 1) := by decide +kernel
theorem dX9_even_13 : decode cX9_even 13 = .ok (.iconst 1, 1) := by decide +kernel
theorem dX9_even_14 : decode cX9_even 14 = .ok (.istore 4, 2) := by decide +kernel
theorem dX9_even_16 : decode cX9_even 16 = .ok (.bipush 10, 2) := by decide +kernel
theorem dX9_even_18 : decode cX9_even 18 = .ok (.istore 5, 2) := by decide +kernel
theorem dX9_even_20 : decode cX9_even 20 = .ok (.iconst 1, 1) := by decide +kernel
theorem dX9_even_21 : decode cX9_even 21 = .ok (.istore 6, 2) := by decide +kernel
theorem dX9_even_23 : decode cX9_even 23 = .ok (.iload 6, 2) := by decide +kernel
theorem dX9_even_25 : decode cX9_even 25 = .ok (.bipush 20, 2) := by decide +kernel
theorem dX9_even_27 : decode cX9_even 27 = .ok (.if_icmp .gt 58, 3) := by decide +kernel
theorem dX9_even_30 : decode cX9_even 30 = .ok (.aload_n 0, 1) := by decide +kernel
theorem dX9_even_31 : decode cX9_even 31 = .ok (.getfield 12, 3) := by decide +kernel
theorem dX9_even_34 : decode cX9_even 34 = .ok (.iload_n 1, 1) := by decide +kernel
theorem dX9_even_35 : decode cX9_even 35 = .ok (.iload_n 2, 1) := by decide +kernel
theorem dX9_even_36 : decode cX9_even 36 = .ok (.iload 6, 2) := by decide +kernel
theorem dX9_even_38 : decode cX9_even 38 = .ok (.aload_n 0, 1) := by decide +kernel
theorem dX9_even_39 : decode cX9_even 39 = .ok (.getfield 12, 3) := by decide +kernel
theorem dX9_even_42 : decode cX9_even 42 = .ok (.getfield 113, 3) := by decide +kernel
theorem dX9_even_45 : decode cX9_even 45 = .ok (.iload_n 2, 1) := by decide +kernel
theorem dX9_even_46 : decode cX9_even 46 = .ok (.iaload, 1) := by decide +kernel
theorem dX9_even_47 : decode cX9_even 47 = .ok (.aload_n 0, 1) := by decide +kernel
theorem dX9_even_48 : decode cX9_even 48 = .ok (.getfield 12, 3) := by decide +kernel
theorem dX9_even_51 : decode cX9_even 51 = .ok (.getfield 122, 3) := by decide +kernel
theorem dX9_even_54 : decode cX9_even 54 = .ok (.invokevirtual 178, 3) := by decide +kernel
theorem dX9_even_57 : decode cX9_even 57 = .ok (.iconst 5, 1) := by decide +kernel
theorem dX9_even_58 : decode cX9_even 58 = .ok (.isub, 1) := by decide +kernel
theorem dX9_even_59 : decode cX9_even 59 = .ok (.invokestatic 182, 3) := by decide +kernel
theorem dX9_even_62 : decode cX9_even 62 = .ok (.istore 7, 2) := by decide +kernel
theorem dX9_even_64 : decode cX9_even 64 = .ok (.iload 7, 2) := by decide +kernel
theorem dX9_even_66 : decode cX9_even 66 = .ok (.iload 5, 2) := by decide +kernel
theorem dX9_even_68 : decode cX9_even 68 = .ok (.if_icmp .ge 11, 3) := by decide +kernel
theorem dX9_even_71 : decode cX9_even 71 = .ok (.iload 7, 2) := by decide +kernel
theorem dX9_even_73 : decode cX9_even 73 = .ok (.istore 5, 2) := by decide +kernel
theorem dX9_even_75 : decode cX9_even 75 = .ok (.iload 6, 2) := by decide +kernel
theorem dX9_even_77 : decode cX9_even 77 = .ok (.istore 4, 2) := by decide +kernel
theorem dX9_even_79 : decode cX9_even 79 = .ok (.iinc 6 1, 3) := by decide +kernel
theorem dX9_even_82 : decode cX9_even 82 = .ok (.goto (-59), 3) := by decide +kernel
theorem dX9_even_85 : decode cX9_even 85 = .ok (.iload 4, 2) := by decide +kernel
theorem dX9_even_87 : decode cX9_even 87 = .ok (.ireturn, 1) := by decide +kernel
set_option maxRecDepth 20000 in
theorem r_X9_even : m_Right (yX9_even, cX9_even, 8, (some .int)) q_X9_even := m_right_nd (m_right_nd (m_right_nd (m_right_nd (m_right_nd (m_right_lf ⟨1, dX9_even_0, rfl, rfl, rfl⟩) (m_right_lf ⟨1, dX9_even_1, rfl, rfl, rfl⟩)) (m_right_nd (m_right_lf ⟨1, dX9_even_2, rfl, rfl, rfl⟩) (m_right_nd (m_right_lf ⟨3, dX9_even_3, rfl, rfl, 109, 2, 9, (yX9_refusal, cX9_refusal, 3, (some .int)), rfl, me_X9_refusal, mc_X9_refusal, Or.inl ⟨(RX9, TX9, 10), rfl, rfl⟩, wd_512, wd_514, wd_10, wd_62⟩) (m_right_lf ⟨1, dX9_even_6, rfl, rfl, rfl⟩)))) (m_right_nd (m_right_nd (m_right_lf ⟨1, dX9_even_7, rfl, rfl, rfl⟩) (m_right_nd (m_right_lf ⟨3, dX9_even_8, rfl, rfl, 13, rfl, by decide⟩) (m_right_lf ⟨1, dX9_even_11, rfl, rfl, rfl⟩))) (m_right_nd (m_right_lf ⟨1, dX9_even_12, rfl, 0, .int, rfl, rfl, Or.inl ⟨rfl, rfl⟩⟩) (m_right_nd (m_right_lf ⟨1, dX9_even_13, rfl, rfl, by decide +kernel⟩) (m_right_lf ⟨2, dX9_even_14, rfl, rfl, rfl⟩))))) (m_right_nd (m_right_nd (m_right_nd (m_right_lf ⟨2, dX9_even_16, rfl, rfl, by decide +kernel⟩) (m_right_nd (m_right_lf ⟨2, dX9_even_18, rfl, rfl, rfl⟩) (m_right_lf ⟨1, dX9_even_20, rfl, rfl, by decide +kernel⟩))) (m_right_nd (m_right_lf ⟨2, dX9_even_21, rfl, rfl, rfl⟩) (m_right_nd (m_right_lf ⟨2, dX9_even_23, rfl, rfl, rfl⟩) (m_right_lf ⟨2, dX9_even_25, rfl, rfl, by decide +kernel⟩)))) (m_right_nd (m_right_nd (m_right_lf ⟨3, dX9_even_27, rfl, rfl, 85, rfl, by decide⟩) (m_right_nd (m_right_lf ⟨1, dX9_even_30, rfl, rfl, rfl⟩) (m_right_lf ⟨3, dX9_even_31, rfl, rfl, 9, 0, rfl, Or.inl ⟨(RX9, TX9, 10), rfl, by decide, wd_348⟩⟩))) (m_right_nd (m_right_lf ⟨1, dX9_even_34, rfl, rfl, rfl⟩) (m_right_nd (m_right_lf ⟨1, dX9_even_35, rfl, rfl, rfl⟩) (m_right_lf ⟨2, dX9_even_36, rfl, rfl, rfl⟩)))))) (m_right_nd (m_right_nd (m_right_nd (m_right_nd (m_right_lf ⟨1, dX9_even_38, rfl, rfl, rfl⟩) (m_right_nd (m_right_lf ⟨3, dX9_even_39, rfl, rfl, 9, 0, rfl, Or.inl ⟨(RX9, TX9, 10), rfl, by decide, wd_348⟩⟩) (m_right_lf ⟨3, dX9_even_42, rfl, rfl, 7, 3, rfl, Or.inl ⟨(RX7, TX7, 16), rfl, by decide, wd_107⟩⟩))) (m_right_nd (m_right_lf ⟨1, dX9_even_45, rfl, rfl, rfl⟩) (m_right_nd (m_right_lf ⟨1, dX9_even_46, rfl, rfl⟩) (m_right_lf ⟨1, dX9_even_47, rfl, rfl, rfl⟩)))) (m_right_nd (m_right_nd (m_right_lf ⟨3, dX9_even_48, rfl, rfl, 9, 0, rfl, Or.inl ⟨(RX9, TX9, 10), rfl, by decide, wd_348⟩⟩) (m_right_nd (m_right_lf ⟨3, dX9_even_51, rfl, rfl, 7, 5, rfl, Or.inl ⟨(RX7, TX7, 16), rfl, by decide, wd_115⟩⟩) (m_right_lf ⟨3, dX9_even_54, rfl, rfl, 65, 5, 7, (yX7_oddsOf, cX7_oddsOf, 7, (some .int)), rfl, me_X7_oddsOf, mc_X7_oddsOf, Or.inl ⟨(RX7, TX7, 16), rfl, rfl⟩, wd_658, wd_545, wd_546, wd_63⟩))) (m_right_nd (m_right_lf ⟨1, dX9_even_57, rfl, rfl, by decide +kernel⟩) (m_right_nd (m_right_lf ⟨1, dX9_even_58, rfl, rfl⟩) (m_right_lf ⟨3, dX9_even_59, rfl, rfl, Or.inl ⟨_, rfl, wd_72, Or.inr (Or.inr (Or.inl ⟨rfl, wm_659, wm_660, wm_661⟩))⟩⟩))))) (m_right_nd (m_right_nd (m_right_nd (m_right_lf ⟨2, dX9_even_62, rfl, rfl, rfl⟩) (m_right_nd (m_right_lf ⟨2, dX9_even_64, rfl, rfl, rfl⟩) (m_right_lf ⟨2, dX9_even_66, rfl, rfl, rfl⟩))) (m_right_nd (m_right_lf ⟨3, dX9_even_68, rfl, rfl, 79, rfl, by decide⟩) (m_right_nd (m_right_lf ⟨2, dX9_even_71, rfl, rfl, rfl⟩) (m_right_lf ⟨2, dX9_even_73, rfl, rfl, rfl⟩)))) (m_right_nd (m_right_nd (m_right_lf ⟨2, dX9_even_75, rfl, rfl, rfl⟩) (m_right_nd (m_right_lf ⟨2, dX9_even_77, rfl, rfl, rfl⟩) (m_right_lf ⟨3, dX9_even_79, rfl, rfl, rfl, by decide +kernel⟩))) (m_right_nd (m_right_lf ⟨3, dX9_even_82, rfl, 23, rfl, by decide⟩) (m_right_nd (m_right_lf ⟨2, dX9_even_85, rfl, rfl, rfl⟩) (m_right_lf ⟨1, dX9_even_87, rfl, 0, .int, rfl, rfl, Or.inl ⟨rfl, rfl⟩⟩))))))
theorem dX9_purpose_0 : decode cX9_purpose 0 = .ok (.aload_n 0, 1) := by decide +kernel
theorem dX9_purpose_1 : decode cX9_purpose 1 = .ok (.iload_n 1, 1) := by decide +kernel
theorem dX9_purpose_2 : decode cX9_purpose 2 = .ok (.iload_n 2, 1) := by decide +kernel
theorem dX9_purpose_3 : decode cX9_purpose 3 = .ok (.invokevirtual 132, 3) := by decide +kernel
theorem dX9_purpose_6 : decode cX9_purpose 6 = .ok (.ifCond .ne 22, 3) := by decide +kernel
theorem dX9_purpose_9 : decode cX9_purpose 9 = .ok (.iload_n 3, 1) := by decide +kernel
theorem dX9_purpose_10 : decode cX9_purpose 10 = .ok (.iconst 1, 1) := by decide +kernel
theorem dX9_purpose_11 : decode cX9_purpose 11 = .ok (.if_icmp .lt 17, 3) := by decide +kernel
theorem dX9_purpose_14 : decode cX9_purpose 14 = .ok (.iload_n 3, 1) := by decide +kernel
theorem dX9_purpose_15 : decode cX9_purpose 15 = .ok (.bipush 8, 2) := by decide +kernel
theorem dX9_purpose_17 : decode cX9_purpose 17 = .ok (.if_icmp .gt 11, 3) := by decide +kernel
theorem dX9_purpose_20 : decode cX9_purpose 20 = .ok (.iload 4, 2) := by decide +kernel
theorem dX9_purpose_22 : decode cX9_purpose 22 = .ok (.invokestatic 146, 3) := by decide +kernel
theorem dX9_purpose_25 : decode cX9_purpose 25 = .ok (.ifCond .eq 7, 3) := by decide +kernel
theorem dX9_purpose_28 : decode cX9_purpose 28 = .ok (.ldc2_w 149, 3) := by decide +kernel
theorem dX9_purpose_31 : decode cX9_purpose 31 = .ok (.lreturn, 1) := by decide +kernel
theorem dX9_purpose_32 : decode cX9_purpose 32 = .ok (.aload_n 0, 1) := by decide +kernel
theorem dX9_purpose_33 : decode cX9_purpose 33 = .ok (.getfield 41, 3) := by decide +kernel
theorem dX9_purpose_36 : decode cX9_purpose 36 = .ok (.aload_n 0, 1) := by decide +kernel
theorem dX9_purpose_37 : decode cX9_purpose 37 = .ok (.getfield 12, 3) := by decide +kernel
theorem dX9_purpose_40 : decode cX9_purpose 40 = .ok (.iload_n 1, 1) := by decide +kernel
theorem dX9_purpose_41 : decode cX9_purpose 41 = .ok (.iload_n 2, 1) := by decide +kernel
theorem dX9_purpose_42 : decode cX9_purpose 42 = .ok (.iload_n 3, 1) := by decide +kernel
theorem dX9_purpose_43 : decode cX9_purpose 43 = .ok (.invokevirtual 188, 3) := by decide +kernel
theorem dX9_purpose_46 : decode cX9_purpose 46 = .ok (.iload_n 3, 1) := by decide +kernel
theorem dX9_purpose_47 : decode cX9_purpose 47 = .ok (.invokestatic 162, 3) := by decide +kernel
theorem dX9_purpose_50 : decode cX9_purpose 50 = .ok (.iload 4, 2) := by decide +kernel
theorem dX9_purpose_52 : decode cX9_purpose 52 = .ok (.invokestatic 165, 3) := by decide +kernel
theorem dX9_purpose_55 : decode cX9_purpose 55 = .ok (.lreturn, 1) := by decide +kernel
set_option maxRecDepth 20000 in
theorem r_X9_purpose : m_Right (yX9_purpose, cX9_purpose, 5, (some .long)) q_X9_purpose := m_right_nd (m_right_nd (m_right_nd (m_right_nd (m_right_lf ⟨1, dX9_purpose_0, rfl, rfl, rfl⟩) (m_right_nd (m_right_lf ⟨1, dX9_purpose_1, rfl, rfl, rfl⟩) (m_right_lf ⟨1, dX9_purpose_2, rfl, rfl, rfl⟩))) (m_right_nd (m_right_nd (m_right_lf ⟨3, dX9_purpose_3, rfl, rfl, 109, 2, 9, (yX9_refusal, cX9_refusal, 3, (some .int)), rfl, me_X9_refusal, mc_X9_refusal, Or.inl ⟨(RX9, TX9, 10), rfl, rfl⟩, wd_512, wd_514, wd_10, wd_62⟩) (m_right_lf ⟨3, dX9_purpose_6, rfl, rfl, 28, rfl, by decide⟩)) (m_right_nd (m_right_lf ⟨1, dX9_purpose_9, rfl, rfl, rfl⟩) (m_right_lf ⟨1, dX9_purpose_10, rfl, rfl, by decide +kernel⟩)))) (m_right_nd (m_right_nd (m_right_lf ⟨3, dX9_purpose_11, rfl, rfl, 28, rfl, by decide⟩) (m_right_nd (m_right_lf ⟨1, dX9_purpose_14, rfl, rfl, rfl⟩) (m_right_lf ⟨2, dX9_purpose_15, rfl, rfl, by decide +kernel⟩))) (m_right_nd (m_right_nd (m_right_lf ⟨3, dX9_purpose_17, rfl, rfl, 28, rfl, by decide⟩) (m_right_lf ⟨2, dX9_purpose_20, rfl, rfl, rfl⟩)) (m_right_nd (m_right_lf ⟨3, dX9_purpose_22, rfl, rfl, Or.inr (Or.inr ⟨113, 1, (yX9_isNoPart, cX9_isNoPart, 1, (some .boolean)), rfl, me_X9_isNoPart, mc_X9_isNoPart, wd_575, wd_576, wd_62⟩)⟩) (m_right_lf ⟨3, dX9_purpose_25, rfl, rfl, 32, rfl, by decide⟩))))) (m_right_nd (m_right_nd (m_right_nd (m_right_lf ⟨3, dX9_purpose_28, rfl, rfl, _, rfl, wd_578⟩) (m_right_nd (m_right_lf ⟨1, dX9_purpose_31, rfl, rfl⟩) (m_right_lf ⟨1, dX9_purpose_32, rfl, rfl, rfl⟩))) (m_right_nd (m_right_nd (m_right_lf ⟨3, dX9_purpose_33, rfl, rfl, 9, 5, rfl, Or.inl ⟨(RX9, TX9, 10), rfl, by decide, wd_353⟩⟩) (m_right_lf ⟨1, dX9_purpose_36, rfl, rfl, rfl⟩)) (m_right_nd (m_right_lf ⟨3, dX9_purpose_37, rfl, rfl, 9, 0, rfl, Or.inl ⟨(RX9, TX9, 10), rfl, by decide, wd_348⟩⟩) (m_right_lf ⟨1, dX9_purpose_40, rfl, rfl, rfl⟩)))) (m_right_nd (m_right_nd (m_right_nd (m_right_lf ⟨1, dX9_purpose_41, rfl, rfl, rfl⟩) (m_right_lf ⟨1, dX9_purpose_42, rfl, rfl, rfl⟩)) (m_right_nd (m_right_lf ⟨3, dX9_purpose_43, rfl, rfl, 33, 4, 5, (yX5_atBest, cX5_atBest, 5, (some .long)), rfl, me_X5_atBest, mc_X5_atBest, Or.inl ⟨(RX5, TX5, 3), rfl, rfl⟩, wd_666, wd_667, wd_668, wd_67⟩) (m_right_lf ⟨1, dX9_purpose_46, rfl, rfl, rfl⟩))) (m_right_nd (m_right_nd (m_right_lf ⟨3, dX9_purpose_47, rfl, rfl, Or.inr (Or.inr ⟨115, 1, (yX9_powerOfTen, cX9_powerOfTen, 4, (some .long)), rfl, me_X9_powerOfTen, mc_X9_powerOfTen, wd_624, wd_625, wd_62⟩)⟩) (m_right_lf ⟨2, dX9_purpose_50, rfl, rfl, rfl⟩)) (m_right_nd (m_right_lf ⟨3, dX9_purpose_52, rfl, rfl, Or.inr (Or.inr ⟨116, 3, (yX9_partOf, cX9_partOf, 12, (some .long)), rfl, me_X9_partOf, mc_X9_partOf, wd_628, wd_629, wd_62⟩)⟩) (m_right_lf ⟨1, dX9_purpose_55, rfl, rfl⟩)))))
theorem dX9_loses_0 : decode cX9_loses 0 = .ok (.aload_n 0, 1) := by decide +kernel
theorem dX9_loses_1 : decode cX9_loses 1 = .ok (.iload_n 1, 1) := by decide +kernel
theorem dX9_loses_2 : decode cX9_loses 2 = .ok (.iload_n 2, 1) := by decide +kernel
theorem dX9_loses_3 : decode cX9_loses 3 = .ok (.invokevirtual 132, 3) := by decide +kernel
theorem dX9_loses_6 : decode cX9_loses 6 = .ok (.istore 4, 2) := by decide +kernel
theorem dX9_loses_8 : decode cX9_loses 8 = .ok (.iload 4, 2) := by decide +kernel
theorem dX9_loses_10 : decode cX9_loses 10 = .ok (.ifCond .eq 6, 3) := by decide +kernel
theorem dX9_loses_13 : decode cX9_loses 13 = .ok (.iload 4, 2) := by decide +kernel
theorem dX9_loses_15 : decode cX9_loses 15 = .ok (.ireturn, 1) := by decide +kernel
theorem dX9_loses_16 : decode cX9_loses 16 = .ok (.iload_n 3, 1) := by decide +kernel
theorem dX9_loses_17 : decode cX9_loses 17 = .ok (.iconst 1, 1) := by decide +kernel
theorem dX9_loses_18 : decode cX9_loses 18 = .ok (.if_icmp .lt 9, 3) := by decide +kernel
theorem dX9_loses_21 : decode cX9_loses 21 = .ok (.iload_n 3, 1) := by decide +kernel
theorem dX9_loses_22 : decode cX9_loses 22 = .ok (.bipush 8, 2) := by decide +kernel
theorem dX9_loses_24 : decode cX9_loses 24 = .ok (.if_icmp .le 6, 3) := by decide +kernel
theorem dX9_loses_27 : decode cX9_loses 27 = .ok (.bipush (-2), 2) := by decide +kernel
theorem dX9_loses_29 : decode cX9_loses 29 = .ok (.ireturn, 1) := by decide +kernel
theorem dX9_loses_30 : decode cX9_loses 30 = .ok (.aload_n 0, 1) := by decide +kernel
theorem dX9_loses_31 : decode cX9_loses 31 = .ok (.getfield 41, 3) := by decide +kernel
theorem dX9_loses_34 : decode cX9_loses 34 = .ok (.aload_n 0, 1) := by decide +kernel
theorem dX9_loses_35 : decode cX9_loses 35 = .ok (.getfield 12, 3) := by decide +kernel
theorem dX9_loses_38 : decode cX9_loses 38 = .ok (.iload_n 1, 1) := by decide +kernel
theorem dX9_loses_39 : decode cX9_loses 39 = .ok (.iload_n 2, 1) := by decide +kernel
theorem dX9_loses_40 : decode cX9_loses 40 = .ok (.iload_n 3, 1) := by decide +kernel
theorem dX9_loses_41 : decode cX9_loses 41 = .ok (.invokevirtual 192, 3) := by decide +kernel
theorem dX9_loses_44 : decode cX9_loses 44 = .ok (.ifCond .eq 7, 3) := by decide +kernel
theorem dX9_loses_47 : decode cX9_loses 47 = .ok (.iconst 1, 1) := by decide +kernel
theorem dX9_loses_48 : decode cX9_loses 48 = .ok (.goto 4, 3) := by decide +kernel
theorem dX9_loses_51 : decode cX9_loses 51 = .ok (.iconst 0, 1) := by decide +kernel
theorem dX9_loses_52 : decode cX9_loses 52 = .ok (.ireturn, 1) := by decide +kernel
set_option maxRecDepth 20000 in
theorem r_X9_loses : m_Right (yX9_loses, cX9_loses, 5, (some .int)) q_X9_loses := m_right_nd (m_right_nd (m_right_nd (m_right_nd (m_right_lf ⟨1, dX9_loses_0, rfl, rfl, rfl⟩) (m_right_nd (m_right_lf ⟨1, dX9_loses_1, rfl, rfl, rfl⟩) (m_right_lf ⟨1, dX9_loses_2, rfl, rfl, rfl⟩))) (m_right_nd (m_right_nd (m_right_lf ⟨3, dX9_loses_3, rfl, rfl, 109, 2, 9, (yX9_refusal, cX9_refusal, 3, (some .int)), rfl, me_X9_refusal, mc_X9_refusal, Or.inl ⟨(RX9, TX9, 10), rfl, rfl⟩, wd_512, wd_514, wd_10, wd_62⟩) (m_right_lf ⟨2, dX9_loses_6, rfl, rfl, rfl⟩)) (m_right_nd (m_right_lf ⟨2, dX9_loses_8, rfl, rfl, rfl⟩) (m_right_lf ⟨3, dX9_loses_10, rfl, rfl, 16, rfl, by decide⟩)))) (m_right_nd (m_right_nd (m_right_nd (m_right_lf ⟨2, dX9_loses_13, rfl, rfl, rfl⟩) (m_right_lf ⟨1, dX9_loses_15, rfl, 0, .int, rfl, rfl, Or.inl ⟨rfl, rfl⟩⟩)) (m_right_nd (m_right_lf ⟨1, dX9_loses_16, rfl, rfl, rfl⟩) (m_right_lf ⟨1, dX9_loses_17, rfl, rfl, by decide +kernel⟩))) (m_right_nd (m_right_nd (m_right_lf ⟨3, dX9_loses_18, rfl, rfl, 27, rfl, by decide⟩) (m_right_lf ⟨1, dX9_loses_21, rfl, rfl, rfl⟩)) (m_right_nd (m_right_lf ⟨2, dX9_loses_22, rfl, rfl, by decide +kernel⟩) (m_right_lf ⟨3, dX9_loses_24, rfl, rfl, 30, rfl, by decide⟩))))) (m_right_nd (m_right_nd (m_right_nd (m_right_lf ⟨2, dX9_loses_27, rfl, rfl, by decide +kernel⟩) (m_right_nd (m_right_lf ⟨1, dX9_loses_29, rfl, 0, .int, rfl, rfl, Or.inl ⟨rfl, rfl⟩⟩) (m_right_lf ⟨1, dX9_loses_30, rfl, rfl, rfl⟩))) (m_right_nd (m_right_nd (m_right_lf ⟨3, dX9_loses_31, rfl, rfl, 9, 5, rfl, Or.inl ⟨(RX9, TX9, 10), rfl, by decide, wd_353⟩⟩) (m_right_lf ⟨1, dX9_loses_34, rfl, rfl, rfl⟩)) (m_right_nd (m_right_lf ⟨3, dX9_loses_35, rfl, rfl, 9, 0, rfl, Or.inl ⟨(RX9, TX9, 10), rfl, by decide, wd_348⟩⟩) (m_right_lf ⟨1, dX9_loses_38, rfl, rfl, rfl⟩)))) (m_right_nd (m_right_nd (m_right_nd (m_right_lf ⟨1, dX9_loses_39, rfl, rfl, rfl⟩) (m_right_lf ⟨1, dX9_loses_40, rfl, rfl, rfl⟩)) (m_right_nd (m_right_lf ⟨3, dX9_loses_41, rfl, rfl, 34, 4, 5, (yX5_losesFirst, cX5_losesFirst, 7, (some .boolean)), rfl, me_X5_losesFirst, mc_X5_losesFirst, Or.inl ⟨(RX5, TX5, 3), rfl, rfl⟩, wd_694, wd_695, wd_696, wd_67⟩) (m_right_lf ⟨3, dX9_loses_44, rfl, rfl, 51, rfl, by decide⟩))) (m_right_nd (m_right_nd (m_right_lf ⟨1, dX9_loses_47, rfl, rfl, by decide +kernel⟩) (m_right_lf ⟨3, dX9_loses_48, rfl, 52, rfl, by decide⟩)) (m_right_nd (m_right_lf ⟨1, dX9_loses_51, rfl, rfl, by decide +kernel⟩) (m_right_lf ⟨1, dX9_loses_52, rfl, 0, .int, rfl, rfl, Or.inl ⟨rfl, rfl⟩⟩)))))
theorem dX9_order_0 : decode cX9_order 0 = .ok (.aload_n 0, 1) := by decide +kernel
theorem dX9_order_1 : decode cX9_order 1 = .ok (.iload_n 1, 1) := by decide +kernel
theorem dX9_order_2 : decode cX9_order 2 = .ok (.invokevirtual 104, 3) := by decide +kernel
theorem dX9_order_5 : decode cX9_order 5 = .ok (.ifCond .ne 12, 3) := by decide +kernel
theorem dX9_order_8 : decode cX9_order 8 = .ok (.iload_n 3, 1) := by decide +kernel
theorem dX9_order_9 : decode cX9_order 9 = .ok (.ifCond .lt 8, 3) := by decide +kernel
theorem dX9_order_12 : decode cX9_order 12 = .ok (.iload_n 3, 1) := by decide +kernel
theorem dX9_order_13 : decode cX9_order 13 = .ok (.iconst 4, 1) := by decide +kernel
theorem dX9_order_14 : decode cX9_order 14 = .ok (.if_icmp .lt 5, 3) := by decide +kernel
theorem dX9_order_17 : decode cX9_order 17 = .ok (.iconst (-1), 1) := by decide +kernel
theorem dX9_order_18 : decode cX9_order 18 = .ok (.ireturn, 1) := by decide +kernel
theorem dX9_order_19 : decode cX9_order 19 = .ok (.aload_n 0, 1) := by decide +kernel
theorem dX9_order_20 : decode cX9_order 20 = .ok (.iload_n 1, 1) := by decide +kernel
theorem dX9_order_21 : decode cX9_order 21 = .ok (.iload_n 2, 1) := by decide +kernel
theorem dX9_order_22 : decode cX9_order 22 = .ok (.invokevirtual 196, 3) := by decide +kernel
theorem dX9_order_25 : decode cX9_order 25 = .ok (.ifCond .eq 6, 3) := by decide +kernel
theorem dX9_order_28 : decode cX9_order 28 = .ok (.bipush (-2), 2) := by decide +kernel
theorem dX9_order_30 : decode cX9_order 30 = .ok (.ireturn, 1) := by decide +kernel
theorem dX9_order_31 : decode cX9_order 31 = .ok (.aload_n 0, 1) := by decide +kernel
theorem dX9_order_32 : decode cX9_order 32 = .ok (.getfield 48, 3) := by decide +kernel
theorem dX9_order_35 : decode cX9_order 35 = .ok (.aload_n 0, 1) := by decide +kernel
theorem dX9_order_36 : decode cX9_order 36 = .ok (.getfield 12, 3) := by decide +kernel
theorem dX9_order_39 : decode cX9_order 39 = .ok (.iload_n 1, 1) := by decide +kernel
theorem dX9_order_40 : decode cX9_order 40 = .ok (.iload_n 2, 1) := by decide +kernel
theorem dX9_order_41 : decode cX9_order 41 = .ok (.invokevirtual 200, 3) := by decide +kernel
theorem dX9_order_44 : decode cX9_order 44 = .ok (.iload_n 3, 1) := by decide +kernel
theorem dX9_order_45 : decode cX9_order 45 = .ok (.aload_n 0, 1) := by decide +kernel
theorem dX9_order_46 : decode cX9_order 46 = .ok (.getfield 48, 3) := by decide +kernel
theorem dX9_order_49 : decode cX9_order 49 = .ok (.getfield 204, 3) := by decide +kernel
theorem dX9_order_52 : decode cX9_order 52 = .ok (.if_icmp .ge 15, 3) := by decide +kernel
theorem dX9_order_55 : decode cX9_order 55 = .ok (.aload_n 0, 1) := by decide +kernel
theorem dX9_order_56 : decode cX9_order 56 = .ok (.getfield 48, 3) := by decide +kernel
theorem dX9_order_59 : decode cX9_order 59 = .ok (.getfield 207, 3) := by decide +kernel
theorem dX9_order_62 : decode cX9_order 62 = .ok (.iload_n 3, 1) := by decide +kernel
theorem dX9_order_63 : decode cX9_order 63 = .ok (.iaload, 1) := by decide +kernel
theorem dX9_order_64 : decode cX9_order 64 = .ok (.goto 5, 3) := by decide +kernel
theorem dX9_order_67 : decode cX9_order 67 = .ok (.bipush (-5), 2) := by decide +kernel
theorem dX9_order_69 : decode cX9_order 69 = .ok (.ireturn, 1) := by decide +kernel
set_option maxRecDepth 20000 in
theorem r_X9_order : m_Right (yX9_order, cX9_order, 4, (some .int)) q_X9_order := m_right_nd (m_right_nd (m_right_nd (m_right_nd (m_right_nd (m_right_lf ⟨1, dX9_order_0, rfl, rfl, rfl⟩) (m_right_lf ⟨1, dX9_order_1, rfl, rfl, rfl⟩)) (m_right_nd (m_right_lf ⟨3, dX9_order_2, rfl, rfl, 108, 1, 9, (yX9_isNobody, cX9_isNobody, 2, (some .boolean)), rfl, me_X9_isNobody, mc_X9_isNobody, Or.inl ⟨(RX9, TX9, 10), rfl, rfl⟩, wd_481, wd_483, wd_9, wd_62⟩) (m_right_lf ⟨3, dX9_order_5, rfl, rfl, 17, rfl, by decide⟩))) (m_right_nd (m_right_nd (m_right_lf ⟨1, dX9_order_8, rfl, rfl, rfl⟩) (m_right_lf ⟨3, dX9_order_9, rfl, rfl, 17, rfl, by decide⟩)) (m_right_nd (m_right_lf ⟨1, dX9_order_12, rfl, rfl, rfl⟩) (m_right_nd (m_right_lf ⟨1, dX9_order_13, rfl, rfl, by decide +kernel⟩) (m_right_lf ⟨3, dX9_order_14, rfl, rfl, 19, rfl, by decide⟩))))) (m_right_nd (m_right_nd (m_right_nd (m_right_lf ⟨1, dX9_order_17, rfl, rfl, by decide +kernel⟩) (m_right_lf ⟨1, dX9_order_18, rfl, 0, .int, rfl, rfl, Or.inl ⟨rfl, rfl⟩⟩)) (m_right_nd (m_right_lf ⟨1, dX9_order_19, rfl, rfl, rfl⟩) (m_right_nd (m_right_lf ⟨1, dX9_order_20, rfl, rfl, rfl⟩) (m_right_lf ⟨1, dX9_order_21, rfl, rfl, rfl⟩)))) (m_right_nd (m_right_nd (m_right_lf ⟨3, dX9_order_22, rfl, rfl, 110, 2, 9, (yX9_isNoSet, cX9_isNoSet, 4, (some .boolean)), rfl, me_X9_isNoSet, mc_X9_isNoSet, Or.inl ⟨(RX9, TX9, 10), rfl, rfl⟩, wd_702, wd_704, wd_13, wd_62⟩) (m_right_lf ⟨3, dX9_order_25, rfl, rfl, 31, rfl, by decide⟩)) (m_right_nd (m_right_lf ⟨2, dX9_order_28, rfl, rfl, by decide +kernel⟩) (m_right_nd (m_right_lf ⟨1, dX9_order_30, rfl, 0, .int, rfl, rfl, Or.inl ⟨rfl, rfl⟩⟩) (m_right_lf ⟨1, dX9_order_31, rfl, rfl, rfl⟩)))))) (m_right_nd (m_right_nd (m_right_nd (m_right_nd (m_right_lf ⟨3, dX9_order_32, rfl, rfl, 9, 6, rfl, Or.inl ⟨(RX9, TX9, 10), rfl, by decide, wd_354⟩⟩) (m_right_lf ⟨1, dX9_order_35, rfl, rfl, rfl⟩)) (m_right_nd (m_right_lf ⟨3, dX9_order_36, rfl, rfl, 9, 0, rfl, Or.inl ⟨(RX9, TX9, 10), rfl, by decide, wd_348⟩⟩) (m_right_lf ⟨1, dX9_order_39, rfl, rfl, rfl⟩))) (m_right_nd (m_right_nd (m_right_lf ⟨1, dX9_order_40, rfl, rfl, rfl⟩) (m_right_lf ⟨3, dX9_order_41, rfl, rfl, 29, 3, 4, (yX4_looksFor, cX4_looksFor, 5, none), rfl, me_X4_looksFor, mc_X4_looksFor, Or.inl ⟨(RX4, TX4, 7), rfl, rfl⟩, wd_712, wd_713, wd_714, wd_68⟩)) (m_right_nd (m_right_lf ⟨1, dX9_order_44, rfl, rfl, rfl⟩) (m_right_nd (m_right_lf ⟨1, dX9_order_45, rfl, rfl, rfl⟩) (m_right_lf ⟨3, dX9_order_46, rfl, rfl, 9, 6, rfl, Or.inl ⟨(RX9, TX9, 10), rfl, by decide, wd_354⟩⟩))))) (m_right_nd (m_right_nd (m_right_nd (m_right_lf ⟨3, dX9_order_49, rfl, rfl, 4, 1, rfl, Or.inl ⟨(RX4, TX4, 7), rfl, by decide, wd_283⟩⟩) (m_right_lf ⟨3, dX9_order_52, rfl, rfl, 67, rfl, by decide⟩)) (m_right_nd (m_right_lf ⟨1, dX9_order_55, rfl, rfl, rfl⟩) (m_right_nd (m_right_lf ⟨3, dX9_order_56, rfl, rfl, 9, 6, rfl, Or.inl ⟨(RX9, TX9, 10), rfl, by decide, wd_354⟩⟩) (m_right_lf ⟨3, dX9_order_59, rfl, rfl, 4, 0, rfl, Or.inl ⟨(RX4, TX4, 7), rfl, by decide, wd_281⟩⟩)))) (m_right_nd (m_right_nd (m_right_lf ⟨1, dX9_order_62, rfl, rfl, rfl⟩) (m_right_lf ⟨1, dX9_order_63, rfl, rfl⟩)) (m_right_nd (m_right_lf ⟨3, dX9_order_64, rfl, 69, rfl, by decide⟩) (m_right_nd (m_right_lf ⟨2, dX9_order_67, rfl, rfl, by decide +kernel⟩) (m_right_lf ⟨1, dX9_order_69, rfl, 0, .int, rfl, rfl, Or.inl ⟨rfl, rfl⟩⟩))))))
theorem dX9_orderMean_0 : decode cX9_orderMean 0 = .ok (.aload_n 0, 1) := by decide +kernel
theorem dX9_orderMean_1 : decode cX9_orderMean 1 = .ok (.iload_n 1, 1) := by decide +kernel
theorem dX9_orderMean_2 : decode cX9_orderMean 2 = .ok (.invokevirtual 104, 3) := by decide +kernel
theorem dX9_orderMean_5 : decode cX9_orderMean 5 = .ok (.ifCond .ne 19, 3) := by decide +kernel
theorem dX9_orderMean_8 : decode cX9_orderMean 8 = .ok (.aload_n 0, 1) := by decide +kernel
theorem dX9_orderMean_9 : decode cX9_orderMean 9 = .ok (.iload_n 1, 1) := by decide +kernel
theorem dX9_orderMean_10 : decode cX9_orderMean 10 = .ok (.iload_n 2, 1) := by decide +kernel
theorem dX9_orderMean_11 : decode cX9_orderMean 11 = .ok (.invokevirtual 196, 3) := by decide +kernel
theorem dX9_orderMean_14 : decode cX9_orderMean 14 = .ok (.ifCond .ne 10, 3) := by decide +kernel
theorem dX9_orderMean_17 : decode cX9_orderMean 17 = .ok (.iload_n 3, 1) := by decide +kernel
theorem dX9_orderMean_18 : decode cX9_orderMean 18 = .ok (.invokestatic 146, 3) := by decide +kernel
theorem dX9_orderMean_21 : decode cX9_orderMean 21 = .ok (.ifCond .eq 7, 3) := by decide +kernel
theorem dX9_orderMean_24 : decode cX9_orderMean 24 = .ok (.ldc2_w 149, 3) := by decide +kernel
theorem dX9_orderMean_27 : decode cX9_orderMean 27 = .ok (.lreturn, 1) := by decide +kernel
theorem dX9_orderMean_28 : decode cX9_orderMean 28 = .ok (.aload_n 0, 1) := by decide +kernel
theorem dX9_orderMean_29 : decode cX9_orderMean 29 = .ok (.getfield 48, 3) := by decide +kernel
theorem dX9_orderMean_32 : decode cX9_orderMean 32 = .ok (.aload_n 0, 1) := by decide +kernel
theorem dX9_orderMean_33 : decode cX9_orderMean 33 = .ok (.getfield 12, 3) := by decide +kernel
theorem dX9_orderMean_36 : decode cX9_orderMean 36 = .ok (.iload_n 1, 1) := by decide +kernel
theorem dX9_orderMean_37 : decode cX9_orderMean 37 = .ok (.iload_n 2, 1) := by decide +kernel
theorem dX9_orderMean_38 : decode cX9_orderMean 38 = .ok (.invokevirtual 200, 3) := by decide +kernel
theorem dX9_orderMean_41 : decode cX9_orderMean 41 = .ok (.aload_n 0, 1) := by decide +kernel
theorem dX9_orderMean_42 : decode cX9_orderMean 42 = .ok (.getfield 48, 3) := by decide +kernel
theorem dX9_orderMean_45 : decode cX9_orderMean 45 = .ok (.getfield 210, 3) := by decide +kernel
theorem dX9_orderMean_48 : decode cX9_orderMean 48 = .ok (.aload_n 0, 1) := by decide +kernel
theorem dX9_orderMean_49 : decode cX9_orderMean 49 = .ok (.getfield 48, 3) := by decide +kernel
theorem dX9_orderMean_52 : decode cX9_orderMean 52 = .ok (.getfield 204, 3) := by decide +kernel
theorem dX9_orderMean_55 : decode cX9_orderMean 55 = .ok (.invokestatic 162, 3) := by decide +kernel
theorem dX9_orderMean_58 : decode cX9_orderMean 58 = .ok (.iload_n 3, 1) := by decide +kernel
theorem dX9_orderMean_59 : decode cX9_orderMean 59 = .ok (.invokestatic 165, 3) := by decide +kernel
theorem dX9_orderMean_62 : decode cX9_orderMean 62 = .ok (.lreturn, 1) := by decide +kernel
set_option maxRecDepth 20000 in
theorem r_X9_orderMean : m_Right (yX9_orderMean, cX9_orderMean, 4, (some .long)) q_X9_orderMean := m_right_nd (m_right_nd (m_right_nd (m_right_nd (m_right_lf ⟨1, dX9_orderMean_0, rfl, rfl, rfl⟩) (m_right_nd (m_right_lf ⟨1, dX9_orderMean_1, rfl, rfl, rfl⟩) (m_right_lf ⟨3, dX9_orderMean_2, rfl, rfl, 108, 1, 9, (yX9_isNobody, cX9_isNobody, 2, (some .boolean)), rfl, me_X9_isNobody, mc_X9_isNobody, Or.inl ⟨(RX9, TX9, 10), rfl, rfl⟩, wd_481, wd_483, wd_9, wd_62⟩))) (m_right_nd (m_right_nd (m_right_lf ⟨3, dX9_orderMean_5, rfl, rfl, 24, rfl, by decide⟩) (m_right_lf ⟨1, dX9_orderMean_8, rfl, rfl, rfl⟩)) (m_right_nd (m_right_lf ⟨1, dX9_orderMean_9, rfl, rfl, rfl⟩) (m_right_lf ⟨1, dX9_orderMean_10, rfl, rfl, rfl⟩)))) (m_right_nd (m_right_nd (m_right_nd (m_right_lf ⟨3, dX9_orderMean_11, rfl, rfl, 110, 2, 9, (yX9_isNoSet, cX9_isNoSet, 4, (some .boolean)), rfl, me_X9_isNoSet, mc_X9_isNoSet, Or.inl ⟨(RX9, TX9, 10), rfl, rfl⟩, wd_702, wd_704, wd_13, wd_62⟩) (m_right_lf ⟨3, dX9_orderMean_14, rfl, rfl, 24, rfl, by decide⟩)) (m_right_nd (m_right_lf ⟨1, dX9_orderMean_17, rfl, rfl, rfl⟩) (m_right_lf ⟨3, dX9_orderMean_18, rfl, rfl, Or.inr (Or.inr ⟨113, 1, (yX9_isNoPart, cX9_isNoPart, 1, (some .boolean)), rfl, me_X9_isNoPart, mc_X9_isNoPart, wd_575, wd_576, wd_62⟩)⟩))) (m_right_nd (m_right_nd (m_right_lf ⟨3, dX9_orderMean_21, rfl, rfl, 28, rfl, by decide⟩) (m_right_lf ⟨3, dX9_orderMean_24, rfl, rfl, _, rfl, wd_578⟩)) (m_right_nd (m_right_lf ⟨1, dX9_orderMean_27, rfl, rfl⟩) (m_right_lf ⟨1, dX9_orderMean_28, rfl, rfl, rfl⟩))))) (m_right_nd (m_right_nd (m_right_nd (m_right_nd (m_right_lf ⟨3, dX9_orderMean_29, rfl, rfl, 9, 6, rfl, Or.inl ⟨(RX9, TX9, 10), rfl, by decide, wd_354⟩⟩) (m_right_lf ⟨1, dX9_orderMean_32, rfl, rfl, rfl⟩)) (m_right_nd (m_right_lf ⟨3, dX9_orderMean_33, rfl, rfl, 9, 0, rfl, Or.inl ⟨(RX9, TX9, 10), rfl, by decide, wd_348⟩⟩) (m_right_lf ⟨1, dX9_orderMean_36, rfl, rfl, rfl⟩))) (m_right_nd (m_right_nd (m_right_lf ⟨1, dX9_orderMean_37, rfl, rfl, rfl⟩) (m_right_lf ⟨3, dX9_orderMean_38, rfl, rfl, 29, 3, 4, (yX4_looksFor, cX4_looksFor, 5, none), rfl, me_X4_looksFor, mc_X4_looksFor, Or.inl ⟨(RX4, TX4, 7), rfl, rfl⟩, wd_712, wd_713, wd_714, wd_68⟩)) (m_right_nd (m_right_lf ⟨1, dX9_orderMean_41, rfl, rfl, rfl⟩) (m_right_lf ⟨3, dX9_orderMean_42, rfl, rfl, 9, 6, rfl, Or.inl ⟨(RX9, TX9, 10), rfl, by decide, wd_354⟩⟩)))) (m_right_nd (m_right_nd (m_right_nd (m_right_lf ⟨3, dX9_orderMean_45, rfl, rfl, 4, 2, rfl, Or.inl ⟨(RX4, TX4, 7), rfl, by decide, wd_285⟩⟩) (m_right_lf ⟨1, dX9_orderMean_48, rfl, rfl, rfl⟩)) (m_right_nd (m_right_lf ⟨3, dX9_orderMean_49, rfl, rfl, 9, 6, rfl, Or.inl ⟨(RX9, TX9, 10), rfl, by decide, wd_354⟩⟩) (m_right_lf ⟨3, dX9_orderMean_52, rfl, rfl, 4, 1, rfl, Or.inl ⟨(RX4, TX4, 7), rfl, by decide, wd_283⟩⟩))) (m_right_nd (m_right_nd (m_right_lf ⟨3, dX9_orderMean_55, rfl, rfl, Or.inr (Or.inr ⟨115, 1, (yX9_powerOfTen, cX9_powerOfTen, 4, (some .long)), rfl, me_X9_powerOfTen, mc_X9_powerOfTen, wd_624, wd_625, wd_62⟩)⟩) (m_right_lf ⟨1, dX9_orderMean_58, rfl, rfl, rfl⟩)) (m_right_nd (m_right_lf ⟨3, dX9_orderMean_59, rfl, rfl, Or.inr (Or.inr ⟨116, 3, (yX9_partOf, cX9_partOf, 12, (some .long)), rfl, me_X9_partOf, mc_X9_partOf, wd_628, wd_629, wd_62⟩)⟩) (m_right_lf ⟨1, dX9_orderMean_62, rfl, rfl⟩)))))
theorem dX9_stakes_0 : decode cX9_stakes 0 = .ok (.aload_n 0, 1) := by decide +kernel
theorem dX9_stakes_1 : decode cX9_stakes 1 = .ok (.iload_n 1, 1) := by decide +kernel
theorem dX9_stakes_2 : decode cX9_stakes 2 = .ok (.iload_n 2, 1) := by decide +kernel
theorem dX9_stakes_3 : decode cX9_stakes 3 = .ok (.invokevirtual 132, 3) := by decide +kernel
theorem dX9_stakes_6 : decode cX9_stakes 6 = .ok (.ifCond .ne 21, 3) := by decide +kernel
theorem dX9_stakes_9 : decode cX9_stakes 9 = .ok (.iload_n 3, 1) := by decide +kernel
theorem dX9_stakes_10 : decode cX9_stakes 10 = .ok (.ifCond .lt 17, 3) := by decide +kernel
theorem dX9_stakes_13 : decode cX9_stakes 13 = .ok (.iload_n 3, 1) := by decide +kernel
theorem dX9_stakes_14 : decode cX9_stakes 14 = .ok (.bipush 10, 2) := by decide +kernel
theorem dX9_stakes_16 : decode cX9_stakes 16 = .ok (.if_icmp .gt 11, 3) := by decide +kernel
theorem dX9_stakes_19 : decode cX9_stakes 19 = .ok (.iload 4, 2) := by decide +kernel
theorem dX9_stakes_21 : decode cX9_stakes 21 = .ok (.invokestatic 146, 3) := by decide +kernel
theorem dX9_stakes_24 : decode cX9_stakes 24 = .ok (.ifCond .eq 7, 3) := by decide +kernel
theorem dX9_stakes_27 : decode cX9_stakes 27 = .ok (.ldc2_w 149, 3) := by decide +kernel
theorem dX9_stakes_30 : decode cX9_stakes 30 = .ok (.lreturn, 1) := by decide +kernel
theorem dX9_stakes_31 : decode cX9_stakes 31 = .ok (.aload_n 0, 1) := by decide +kernel
theorem dX9_stakes_32 : decode cX9_stakes 32 = .ok (.getfield 34, 3) := by decide +kernel
theorem dX9_stakes_35 : decode cX9_stakes 35 = .ok (.aload_n 0, 1) := by decide +kernel
theorem dX9_stakes_36 : decode cX9_stakes 36 = .ok (.getfield 12, 3) := by decide +kernel
theorem dX9_stakes_39 : decode cX9_stakes 39 = .ok (.iload_n 1, 1) := by decide +kernel
theorem dX9_stakes_40 : decode cX9_stakes 40 = .ok (.iload_n 2, 1) := by decide +kernel
theorem dX9_stakes_41 : decode cX9_stakes 41 = .ok (.iconst 0, 1) := by decide +kernel
theorem dX9_stakes_42 : decode cX9_stakes 42 = .ok (.invokevirtual 151, 3) := by decide +kernel
theorem dX9_stakes_45 : decode cX9_stakes 45 = .ok (.lconst 0, 1) := by decide +kernel
theorem dX9_stakes_46 : decode cX9_stakes 46 = .ok (.lstore 5, 2) := by decide +kernel
theorem dX9_stakes_48 : decode cX9_stakes 48 = .ok (.iconst 0, 1) := by decide +kernel
theorem dX9_stakes_49 : decode cX9_stakes 49 = .ok (.istore 7, 2) := by decide +kernel
theorem dX9_stakes_51 : decode cX9_stakes 51 = .ok (.iload 7, 2) := by decide +kernel
theorem dX9_stakes_53 : decode cX9_stakes 53 = .ok (.iload_n 3, 1) := by decide +kernel
theorem dX9_stakes_54 : decode cX9_stakes 54 = .ok (.if_icmp .ge 32, 3) := by decide +kernel
theorem dX9_stakes_57 : decode cX9_stakes 57 = .ok (.lload 5, 2) := by decide +kernel
theorem dX9_stakes_59 : decode cX9_stakes 59 = .ok (.ldc2_w 173, 3) := by decide +kernel
theorem dX9_stakes_62 : decode cX9_stakes 62 = .ok (.lmul, 1) := by decide +kernel
theorem dX9_stakes_63 : decode cX9_stakes 63 = .ok (.aload_n 0, 1) := by decide +kernel
theorem dX9_stakes_64 : decode cX9_stakes 64 = .ok (.getfield 34, 3) := by decide +kernel
theorem dX9_stakes_67 : decode cX9_stakes 67 = .ok (.invokevirtual 214, 3) := by decide +kernel
theorem dX9_stakes_70 : decode cX9_stakes 70 = .ok (.ladd, 1) := by decide +kernel
theorem dX9_stakes_71 : decode cX9_stakes 71 = .ok (.lstore 5, 2) := by decide +kernel
theorem dX9_stakes_73 : decode cX9_stakes 73 = .ok (.aload_n 0, 1) := by decide +kernel
theorem dX9_stakes_74 : decode cX9_stakes 74 = .ok (.getfield 34, 3) := by decide +kernel
theorem dX9_stakes_77 : decode cX9_stakes 77 = .ok (.invokevirtual 155, 3) := by decide +kernel
theorem dX9_stakes_80 : decode cX9_stakes 80 = .ok (.iinc 7 1, 3) := by decide +kernel
theorem dX9_stakes_83 : decode cX9_stakes 83 = .ok (.goto (-32), 3) := by decide +kernel
theorem dX9_stakes_86 : decode cX9_stakes 86 = .ok (.lload 5, 2) := by decide +kernel
theorem dX9_stakes_88 : decode cX9_stakes 88 = .ok (.iload_n 3, 1) := by decide +kernel
theorem dX9_stakes_89 : decode cX9_stakes 89 = .ok (.invokestatic 162, 3) := by decide +kernel
theorem dX9_stakes_92 : decode cX9_stakes 92 = .ok (.iload 4, 2) := by decide +kernel
theorem dX9_stakes_94 : decode cX9_stakes 94 = .ok (.invokestatic 165, 3) := by decide +kernel
theorem dX9_stakes_97 : decode cX9_stakes 97 = .ok (.lreturn, 1) := by decide +kernel
set_option maxRecDepth 20000 in
theorem r_X9_stakes : m_Right (yX9_stakes, cX9_stakes, 8, (some .long)) q_X9_stakes := m_right_nd (m_right_nd (m_right_nd (m_right_nd (m_right_nd (m_right_lf ⟨1, dX9_stakes_0, rfl, rfl, rfl⟩) (m_right_nd (m_right_lf ⟨1, dX9_stakes_1, rfl, rfl, rfl⟩) (m_right_lf ⟨1, dX9_stakes_2, rfl, rfl, rfl⟩))) (m_right_nd (m_right_lf ⟨3, dX9_stakes_3, rfl, rfl, 109, 2, 9, (yX9_refusal, cX9_refusal, 3, (some .int)), rfl, me_X9_refusal, mc_X9_refusal, Or.inl ⟨(RX9, TX9, 10), rfl, rfl⟩, wd_512, wd_514, wd_10, wd_62⟩) (m_right_nd (m_right_lf ⟨3, dX9_stakes_6, rfl, rfl, 27, rfl, by decide⟩) (m_right_lf ⟨1, dX9_stakes_9, rfl, rfl, rfl⟩)))) (m_right_nd (m_right_nd (m_right_lf ⟨3, dX9_stakes_10, rfl, rfl, 27, rfl, by decide⟩) (m_right_nd (m_right_lf ⟨1, dX9_stakes_13, rfl, rfl, rfl⟩) (m_right_lf ⟨2, dX9_stakes_14, rfl, rfl, by decide +kernel⟩))) (m_right_nd (m_right_lf ⟨3, dX9_stakes_16, rfl, rfl, 27, rfl, by decide⟩) (m_right_nd (m_right_lf ⟨2, dX9_stakes_19, rfl, rfl, rfl⟩) (m_right_lf ⟨3, dX9_stakes_21, rfl, rfl, Or.inr (Or.inr ⟨113, 1, (yX9_isNoPart, cX9_isNoPart, 1, (some .boolean)), rfl, me_X9_isNoPart, mc_X9_isNoPart, wd_575, wd_576, wd_62⟩)⟩))))) (m_right_nd (m_right_nd (m_right_nd (m_right_lf ⟨3, dX9_stakes_24, rfl, rfl, 31, rfl, by decide⟩) (m_right_nd (m_right_lf ⟨3, dX9_stakes_27, rfl, rfl, _, rfl, wd_578⟩) (m_right_lf ⟨1, dX9_stakes_30, rfl, rfl⟩))) (m_right_nd (m_right_lf ⟨1, dX9_stakes_31, rfl, rfl, rfl⟩) (m_right_nd (m_right_lf ⟨3, dX9_stakes_32, rfl, rfl, 9, 4, rfl, Or.inl ⟨(RX9, TX9, 10), rfl, by decide, wd_352⟩⟩) (m_right_lf ⟨1, dX9_stakes_35, rfl, rfl, rfl⟩)))) (m_right_nd (m_right_nd (m_right_lf ⟨3, dX9_stakes_36, rfl, rfl, 9, 0, rfl, Or.inl ⟨(RX9, TX9, 10), rfl, by decide, wd_348⟩⟩) (m_right_nd (m_right_lf ⟨1, dX9_stakes_39, rfl, rfl, rfl⟩) (m_right_lf ⟨1, dX9_stakes_40, rfl, rfl, rfl⟩))) (m_right_nd (m_right_lf ⟨1, dX9_stakes_41, rfl, rfl, by decide +kernel⟩) (m_right_nd (m_right_lf ⟨3, dX9_stakes_42, rfl, rfl, 17, 4, 2, (yX2_begins, cX2_begins, 5, none), rfl, me_X2_begins, mc_X2_begins, Or.inl ⟨(RX2, TX2, 8), rfl, rfl⟩, wd_579, wd_580, wd_581, wd_65⟩) (m_right_lf ⟨1, dX9_stakes_45, rfl, rfl, by decide +kernel⟩)))))) (m_right_nd (m_right_nd (m_right_nd (m_right_nd (m_right_lf ⟨2, dX9_stakes_46, rfl, rfl, rfl⟩) (m_right_nd (m_right_lf ⟨1, dX9_stakes_48, rfl, rfl, by decide +kernel⟩) (m_right_lf ⟨2, dX9_stakes_49, rfl, rfl, rfl⟩))) (m_right_nd (m_right_lf ⟨2, dX9_stakes_51, rfl, rfl, rfl⟩) (m_right_nd (m_right_lf ⟨1, dX9_stakes_53, rfl, rfl, rfl⟩) (m_right_lf ⟨3, dX9_stakes_54, rfl, rfl, 86, rfl, by decide⟩)))) (m_right_nd (m_right_nd (m_right_lf ⟨2, dX9_stakes_57, rfl, rfl, rfl⟩) (m_right_nd (m_right_lf ⟨3, dX9_stakes_59, rfl, rfl, _, rfl, wd_627⟩) (m_right_lf ⟨1, dX9_stakes_62, rfl, rfl⟩))) (m_right_nd (m_right_lf ⟨1, dX9_stakes_63, rfl, rfl, rfl⟩) (m_right_nd (m_right_lf ⟨3, dX9_stakes_64, rfl, rfl, 9, 4, rfl, Or.inl ⟨(RX9, TX9, 10), rfl, by decide, wd_352⟩⟩) (m_right_lf ⟨3, dX9_stakes_67, rfl, rfl, 23, 0, 2, (yX2_stakeOfOne, cX2_stakeOfOne, 7, (some .long)), rfl, me_X2_stakeOfOne, mc_X2_stakeOfOne, Or.inl ⟨(RX2, TX2, 8), rfl, rfl⟩, wd_739, wd_740, wd_741, wd_65⟩))))) (m_right_nd (m_right_nd (m_right_nd (m_right_lf ⟨1, dX9_stakes_70, rfl, rfl⟩) (m_right_nd (m_right_lf ⟨2, dX9_stakes_71, rfl, rfl, rfl⟩) (m_right_lf ⟨1, dX9_stakes_73, rfl, rfl, rfl⟩))) (m_right_nd (m_right_lf ⟨3, dX9_stakes_74, rfl, rfl, 9, 4, rfl, Or.inl ⟨(RX9, TX9, 10), rfl, by decide, wd_352⟩⟩) (m_right_nd (m_right_lf ⟨3, dX9_stakes_77, rfl, rfl, 18, 0, 2, (yX2_goesOn, cX2_goesOn, 2, none), rfl, me_X2_goesOn, mc_X2_goesOn, Or.inl ⟨(RX2, TX2, 8), rfl, rfl⟩, wd_594, wd_595, wd_596, wd_65⟩) (m_right_lf ⟨3, dX9_stakes_80, rfl, rfl, rfl, by decide +kernel⟩)))) (m_right_nd (m_right_nd (m_right_lf ⟨3, dX9_stakes_83, rfl, 51, rfl, by decide⟩) (m_right_nd (m_right_lf ⟨2, dX9_stakes_86, rfl, rfl, rfl⟩) (m_right_lf ⟨1, dX9_stakes_88, rfl, rfl, rfl⟩))) (m_right_nd (m_right_nd (m_right_lf ⟨3, dX9_stakes_89, rfl, rfl, Or.inr (Or.inr ⟨115, 1, (yX9_powerOfTen, cX9_powerOfTen, 4, (some .long)), rfl, me_X9_powerOfTen, mc_X9_powerOfTen, wd_624, wd_625, wd_62⟩)⟩) (m_right_lf ⟨2, dX9_stakes_92, rfl, rfl, rfl⟩)) (m_right_nd (m_right_lf ⟨3, dX9_stakes_94, rfl, rfl, Or.inr (Or.inr ⟨116, 3, (yX9_partOf, cX9_partOf, 12, (some .long)), rfl, me_X9_partOf, mc_X9_partOf, wd_628, wd_629, wd_62⟩)⟩) (m_right_lf ⟨1, dX9_stakes_97, rfl, rfl⟩))))))
theorem dX9_table_0 : decode cX9_table 0 = .ok (.aload_n 0, 1) := by decide +kernel
theorem dX9_table_1 : decode cX9_table 1 = .ok (.iload_n 1, 1) := by decide +kernel
theorem dX9_table_2 : decode cX9_table 2 = .ok (.invokevirtual 104, 3) := by decide +kernel
theorem dX9_table_5 : decode cX9_table 5 = .ok (.ifCond .ne 32, 3) := by decide +kernel
theorem dX9_table_8 : decode cX9_table 8 = .ok (.iload_n 2, 1) := by decide +kernel
theorem dX9_table_9 : decode cX9_table 9 = .ok (.iconst 1, 1) := by decide +kernel
theorem dX9_table_10 : decode cX9_table 10 = .ok (.if_icmp .lt 27, 3) := by decide +kernel
theorem dX9_table_13 : decode cX9_table 13 = .ok (.iload_n 2, 1) := by decide +kernel
theorem dX9_table_14 : decode cX9_table 14 = .ok (.bipush 8, 2) := by decide +kernel
theorem dX9_table_16 : decode cX9_table 16 = .ok (.if_icmp .gt 21, 3) := by decide +kernel
theorem dX9_table_19 : decode cX9_table 19 = .ok (.iload_n 3, 1) := by decide +kernel
theorem dX9_table_20 : decode cX9_table 20 = .ok (.invokestatic 146, 3) := by decide +kernel
theorem dX9_table_23 : decode cX9_table 23 = .ok (.ifCond .ne 14, 3) := by decide +kernel
theorem dX9_table_26 : decode cX9_table 26 = .ok (.aload_n 0, 1) := by decide +kernel
theorem dX9_table_27 : decode cX9_table 27 = .ok (.getfield 12, 3) := by decide +kernel
theorem dX9_table_30 : decode cX9_table 30 = .ok (.getfield 97, 3) := by decide +kernel
theorem dX9_table_33 : decode cX9_table 33 = .ok (.iconst 2, 1) := by decide +kernel
theorem dX9_table_34 : decode cX9_table 34 = .ok (.if_icmp .ge 7, 3) := by decide +kernel
theorem dX9_table_37 : decode cX9_table 37 = .ok (.ldc2_w 149, 3) := by decide +kernel
theorem dX9_table_40 : decode cX9_table 40 = .ok (.lreturn, 1) := by decide +kernel
theorem dX9_table_41 : decode cX9_table 41 = .ok (.aload_n 0, 1) := by decide +kernel
theorem dX9_table_42 : decode cX9_table 42 = .ok (.getfield 21, 3) := by decide +kernel
theorem dX9_table_45 : decode cX9_table 45 = .ok (.aload_n 0, 1) := by decide +kernel
theorem dX9_table_46 : decode cX9_table 46 = .ok (.getfield 12, 3) := by decide +kernel
theorem dX9_table_49 : decode cX9_table 49 = .ok (.invokevirtual 217, 3) := by decide +kernel
theorem dX9_table_52 : decode cX9_table 52 = .ok (.aload_n 0, 1) := by decide +kernel
theorem dX9_table_53 : decode cX9_table 53 = .ok (.getfield 55, 3) := by decide +kernel
theorem dX9_table_56 : decode cX9_table 56 = .ok (.aload_n 0, 1) := by decide +kernel
theorem dX9_table_57 : decode cX9_table 57 = .ok (.getfield 21, 3) := by decide +kernel
theorem dX9_table_60 : decode cX9_table 60 = .ok (.iload_n 1, 1) := by decide +kernel
theorem dX9_table_61 : decode cX9_table 61 = .ok (.iload_n 2, 1) := by decide +kernel
theorem dX9_table_62 : decode cX9_table 62 = .ok (.invokevirtual 221, 3) := by decide +kernel
theorem dX9_table_65 : decode cX9_table 65 = .ok (.iload_n 2, 1) := by decide +kernel
theorem dX9_table_66 : decode cX9_table 66 = .ok (.invokestatic 162, 3) := by decide +kernel
theorem dX9_table_69 : decode cX9_table 69 = .ok (.iload_n 3, 1) := by decide +kernel
theorem dX9_table_70 : decode cX9_table 70 = .ok (.invokestatic 165, 3) := by decide +kernel
theorem dX9_table_73 : decode cX9_table 73 = .ok (.lreturn, 1) := by decide +kernel
set_option maxRecDepth 20000 in
theorem r_X9_table : m_Right (yX9_table, cX9_table, 4, (some .long)) q_X9_table := m_right_nd (m_right_nd (m_right_nd (m_right_nd (m_right_nd (m_right_lf ⟨1, dX9_table_0, rfl, rfl, rfl⟩) (m_right_lf ⟨1, dX9_table_1, rfl, rfl, rfl⟩)) (m_right_nd (m_right_lf ⟨3, dX9_table_2, rfl, rfl, 108, 1, 9, (yX9_isNobody, cX9_isNobody, 2, (some .boolean)), rfl, me_X9_isNobody, mc_X9_isNobody, Or.inl ⟨(RX9, TX9, 10), rfl, rfl⟩, wd_481, wd_483, wd_9, wd_62⟩) (m_right_lf ⟨3, dX9_table_5, rfl, rfl, 37, rfl, by decide⟩))) (m_right_nd (m_right_nd (m_right_lf ⟨1, dX9_table_8, rfl, rfl, rfl⟩) (m_right_lf ⟨1, dX9_table_9, rfl, rfl, by decide +kernel⟩)) (m_right_nd (m_right_lf ⟨3, dX9_table_10, rfl, rfl, 37, rfl, by decide⟩) (m_right_nd (m_right_lf ⟨1, dX9_table_13, rfl, rfl, rfl⟩) (m_right_lf ⟨2, dX9_table_14, rfl, rfl, by decide +kernel⟩))))) (m_right_nd (m_right_nd (m_right_nd (m_right_lf ⟨3, dX9_table_16, rfl, rfl, 37, rfl, by decide⟩) (m_right_lf ⟨1, dX9_table_19, rfl, rfl, rfl⟩)) (m_right_nd (m_right_lf ⟨3, dX9_table_20, rfl, rfl, Or.inr (Or.inr ⟨113, 1, (yX9_isNoPart, cX9_isNoPart, 1, (some .boolean)), rfl, me_X9_isNoPart, mc_X9_isNoPart, wd_575, wd_576, wd_62⟩)⟩) (m_right_lf ⟨3, dX9_table_23, rfl, rfl, 37, rfl, by decide⟩))) (m_right_nd (m_right_nd (m_right_lf ⟨1, dX9_table_26, rfl, rfl, rfl⟩) (m_right_lf ⟨3, dX9_table_27, rfl, rfl, 9, 0, rfl, Or.inl ⟨(RX9, TX9, 10), rfl, by decide, wd_348⟩⟩)) (m_right_nd (m_right_lf ⟨3, dX9_table_30, rfl, rfl, 7, 0, rfl, Or.inl ⟨(RX7, TX7, 16), rfl, by decide, wd_97⟩⟩) (m_right_nd (m_right_lf ⟨1, dX9_table_33, rfl, rfl, by decide +kernel⟩) (m_right_lf ⟨3, dX9_table_34, rfl, rfl, 41, rfl, by decide⟩)))))) (m_right_nd (m_right_nd (m_right_nd (m_right_nd (m_right_lf ⟨3, dX9_table_37, rfl, rfl, _, rfl, wd_578⟩) (m_right_lf ⟨1, dX9_table_40, rfl, rfl⟩)) (m_right_nd (m_right_lf ⟨1, dX9_table_41, rfl, rfl, rfl⟩) (m_right_lf ⟨3, dX9_table_42, rfl, rfl, 9, 2, rfl, Or.inl ⟨(RX9, TX9, 10), rfl, by decide, wd_350⟩⟩))) (m_right_nd (m_right_nd (m_right_lf ⟨1, dX9_table_45, rfl, rfl, rfl⟩) (m_right_lf ⟨3, dX9_table_46, rfl, rfl, 9, 0, rfl, Or.inl ⟨(RX9, TX9, 10), rfl, by decide, wd_348⟩⟩)) (m_right_nd (m_right_lf ⟨3, dX9_table_49, rfl, rfl, 55, 1, 7, (yX7_becomes, cX7_becomes, 2, none), rfl, me_X7_becomes, mc_X7_becomes, Or.inl ⟨(RX7, TX7, 16), rfl, rfl⟩, wd_747, wd_748, wd_749, wd_63⟩) (m_right_nd (m_right_lf ⟨1, dX9_table_52, rfl, rfl, rfl⟩) (m_right_lf ⟨3, dX9_table_53, rfl, rfl, 9, 7, rfl, Or.inl ⟨(RX9, TX9, 10), rfl, by decide, wd_355⟩⟩))))) (m_right_nd (m_right_nd (m_right_nd (m_right_lf ⟨1, dX9_table_56, rfl, rfl, rfl⟩) (m_right_lf ⟨3, dX9_table_57, rfl, rfl, 9, 2, rfl, Or.inl ⟨(RX9, TX9, 10), rfl, by decide, wd_350⟩⟩)) (m_right_nd (m_right_lf ⟨1, dX9_table_60, rfl, rfl, rfl⟩) (m_right_nd (m_right_lf ⟨1, dX9_table_61, rfl, rfl, rfl⟩) (m_right_lf ⟨3, dX9_table_62, rfl, rfl, 71, 3, 8, (yX8_wonBy, cX8_wonBy, 5, (some .long)), rfl, me_X8_wonBy, mc_X8_wonBy, Or.inl ⟨(RX8, TX8, 4), rfl, rfl⟩, wd_752, wd_753, wd_754, wd_69⟩)))) (m_right_nd (m_right_nd (m_right_lf ⟨1, dX9_table_65, rfl, rfl, rfl⟩) (m_right_lf ⟨3, dX9_table_66, rfl, rfl, Or.inr (Or.inr ⟨115, 1, (yX9_powerOfTen, cX9_powerOfTen, 4, (some .long)), rfl, me_X9_powerOfTen, mc_X9_powerOfTen, wd_624, wd_625, wd_62⟩)⟩)) (m_right_nd (m_right_lf ⟨1, dX9_table_69, rfl, rfl, rfl⟩) (m_right_nd (m_right_lf ⟨3, dX9_table_70, rfl, rfl, Or.inr (Or.inr ⟨116, 3, (yX9_partOf, cX9_partOf, 12, (some .long)), rfl, me_X9_partOf, mc_X9_partOf, wd_628, wd_629, wd_62⟩)⟩) (m_right_lf ⟨1, dX9_table_73, rfl, rfl⟩))))))
theorem dX9_book_0 : decode cX9_book 0 = .ok (.iload_n 1, 1) := by decide +kernel
theorem dX9_book_1 : decode cX9_book 1 = .ok (.iconst (-1), 1) := by decide +kernel
theorem dX9_book_2 : decode cX9_book 2 = .ok (.if_icmp .ne 13, 3) := by decide +kernel
theorem dX9_book_5 : decode cX9_book 5 = .ok (.aload_n 0, 1) := by decide +kernel
theorem dX9_book_6 : decode cX9_book 6 = .ok (.getfield 12, 3) := by decide +kernel
theorem dX9_book_9 : decode cX9_book 9 = .ok (.iconst 0, 1) := by decide +kernel
theorem dX9_book_10 : decode cX9_book 10 = .ok (.putfield 225, 3) := by decide +kernel
theorem dX9_book_13 : decode cX9_book 13 = .ok (.iconst 0, 1) := by decide +kernel
theorem dX9_book_14 : decode cX9_book 14 = .ok (.ireturn, 1) := by decide +kernel
theorem dX9_book_15 : decode cX9_book 15 = .ok (.aload_n 0, 1) := by decide +kernel
theorem dX9_book_16 : decode cX9_book 16 = .ok (.iload_n 1, 1) := by decide +kernel
theorem dX9_book_17 : decode cX9_book 17 = .ok (.iload_n 2, 1) := by decide +kernel
theorem dX9_book_18 : decode cX9_book 18 = .ok (.invokevirtual 132, 3) := by decide +kernel
theorem dX9_book_21 : decode cX9_book 21 = .ok (.istore 4, 2) := by decide +kernel
theorem dX9_book_23 : decode cX9_book 23 = .ok (.iload 4, 2) := by decide +kernel
theorem dX9_book_25 : decode cX9_book 25 = .ok (.ifCond .eq 6, 3) := by decide +kernel
theorem dX9_book_28 : decode cX9_book 28 = .ok (.iload 4, 2) := by decide +kernel
theorem dX9_book_30 : decode cX9_book 30 = .ok (.ireturn, 1) := by decide +kernel
theorem dX9_book_31 : decode cX9_book 31 = .ok (.aload_n 0, 1) := by decide +kernel
theorem dX9_book_32 : decode cX9_book 32 = .ok (.getfield 12, 3) := by decide +kernel
theorem dX9_book_35 : decode cX9_book 35 = .ok (.getfield 225, 3) := by decide +kernel
theorem dX9_book_38 : decode cX9_book 38 = .ok (.bipush 8, 2) := by decide +kernel
theorem dX9_book_40 : decode cX9_book 40 = .ok (.if_icmp .lt 6, 3) := by decide +kernel
theorem dX9_book_43 : decode cX9_book 43 = .ok (.bipush (-4), 2) := by decide +kernel
theorem dX9_book_45 : decode cX9_book 45 = .ok (.ireturn, 1) := by decide +kernel
theorem dX9_book_46 : decode cX9_book 46 = .ok (.aload_n 0, 1) := by decide +kernel
theorem dX9_book_47 : decode cX9_book 47 = .ok (.getfield 12, 3) := by decide +kernel
theorem dX9_book_50 : decode cX9_book 50 = .ok (.getfield 228, 3) := by decide +kernel
theorem dX9_book_53 : decode cX9_book 53 = .ok (.aload_n 0, 1) := by decide +kernel
theorem dX9_book_54 : decode cX9_book 54 = .ok (.getfield 12, 3) := by decide +kernel
theorem dX9_book_57 : decode cX9_book 57 = .ok (.getfield 225, 3) := by decide +kernel
theorem dX9_book_60 : decode cX9_book 60 = .ok (.iload_n 3, 1) := by decide +kernel
theorem dX9_book_61 : decode cX9_book 61 = .ok (.ifCond .eq 7, 3) := by decide +kernel
theorem dX9_book_64 : decode cX9_book 64 = .ok (.iload_n 1, 1) := by decide +kernel
theorem dX9_book_65 : decode cX9_book 65 = .ok (.goto 4, 3) := by decide +kernel
theorem dX9_book_68 : decode cX9_book 68 = .ok (.iload_n 2, 1) := by decide +kernel
theorem dX9_book_69 : decode cX9_book 69 = .ok (.iastore, 1) := by decide +kernel
theorem dX9_book_70 : decode cX9_book 70 = .ok (.aload_n 0, 1) := by decide +kernel
theorem dX9_book_71 : decode cX9_book 71 = .ok (.getfield 12, 3) := by decide +kernel
theorem dX9_book_74 : decode cX9_book 74 = .ok (.getfield 231, 3) := by decide +kernel
theorem dX9_book_77 : decode cX9_book 77 = .ok (.aload_n 0, 1) := by decide +kernel
theorem dX9_book_78 : decode cX9_book 78 = .ok (.getfield 12, 3) := by decide +kernel
theorem dX9_book_81 : decode cX9_book 81 = .ok (.getfield 225, 3) := by decide +kernel
theorem dX9_book_84 : decode cX9_book 84 = .ok (.iload_n 3, 1) := by decide +kernel
theorem dX9_book_85 : decode cX9_book 85 = .ok (.ifCond .eq 7, 3) := by decide +kernel
theorem dX9_book_88 : decode cX9_book 88 = .ok (.iload_n 2, 1) := by decide +kernel
theorem dX9_book_89 : decode cX9_book 89 = .ok (.goto 4, 3) := by decide +kernel
theorem dX9_book_92 : decode cX9_book 92 = .ok (.iload_n 1, 1) := by decide +kernel
theorem dX9_book_93 : decode cX9_book 93 = .ok (.iastore, 1) := by decide +kernel
theorem dX9_book_94 : decode cX9_book 94 = .ok (.aload_n 0, 1) := by decide +kernel
theorem dX9_book_95 : decode cX9_book 95 = .ok (.getfield 12, 3) := by decide +kernel
theorem dX9_book_98 : decode cX9_book 98 = .ok (.dup, 1) := by decide +kernel
theorem dX9_book_99 : decode cX9_book 99 = .ok (.getfield 225, 3) := by decide +kernel
theorem dX9_book_102 : decode cX9_book 102 = .ok (.iconst 1, 1) := by decide +kernel
theorem dX9_book_103 : decode cX9_book 103 = .ok (.iadd, 1) := by decide +kernel
theorem dX9_book_104 : decode cX9_book 104 = .ok (.putfield 225, 3) := by decide +kernel
theorem dX9_book_107 : decode cX9_book 107 = .ok (.aload_n 0, 1) := by decide +kernel
theorem dX9_book_108 : decode cX9_book 108 = .ok (.getfield 12, 3) := by decide +kernel
theorem dX9_book_111 : decode cX9_book 111 = .ok (.getfield 225, 3) := by decide +kernel
theorem dX9_book_114 : decode cX9_book 114 = .ok (.ireturn, 1) := by decide +kernel
set_option maxRecDepth 20000 in
theorem r_X9_book : m_Right (yX9_book, cX9_book, 5, (some .int)) q_X9_book := m_right_nd (m_right_nd (m_right_nd (m_right_nd (m_right_nd (m_right_lf ⟨1, dX9_book_0, rfl, rfl, rfl⟩) (m_right_nd (m_right_lf ⟨1, dX9_book_1, rfl, rfl, by decide +kernel⟩) (m_right_lf ⟨3, dX9_book_2, rfl, rfl, 15, rfl, by decide⟩))) (m_right_nd (m_right_nd (m_right_lf ⟨1, dX9_book_5, rfl, rfl, rfl⟩) (m_right_lf ⟨3, dX9_book_6, rfl, rfl, 9, 0, rfl, Or.inl ⟨(RX9, TX9, 10), rfl, by decide, wd_348⟩⟩)) (m_right_nd (m_right_lf ⟨1, dX9_book_9, rfl, rfl, by decide +kernel⟩) (m_right_lf ⟨3, dX9_book_10, rfl, rfl, 7, 12, 0, (RX7, TX7, 16), rfl, rfl, by decide, wd_129, Or.inl rfl, tyX7 12, tyX7_ok 12 (by decide), Or.inl ⟨rfl, rfl⟩⟩)))) (m_right_nd (m_right_nd (m_right_nd (m_right_lf ⟨1, dX9_book_13, rfl, rfl, by decide +kernel⟩) (m_right_lf ⟨1, dX9_book_14, rfl, 0, .int, rfl, rfl, Or.inl ⟨rfl, rfl⟩⟩)) (m_right_nd (m_right_lf ⟨1, dX9_book_15, rfl, rfl, rfl⟩) (m_right_lf ⟨1, dX9_book_16, rfl, rfl, rfl⟩))) (m_right_nd (m_right_nd (m_right_lf ⟨1, dX9_book_17, rfl, rfl, rfl⟩) (m_right_lf ⟨3, dX9_book_18, rfl, rfl, 109, 2, 9, (yX9_refusal, cX9_refusal, 3, (some .int)), rfl, me_X9_refusal, mc_X9_refusal, Or.inl ⟨(RX9, TX9, 10), rfl, rfl⟩, wd_512, wd_514, wd_10, wd_62⟩)) (m_right_nd (m_right_lf ⟨2, dX9_book_21, rfl, rfl, rfl⟩) (m_right_lf ⟨2, dX9_book_23, rfl, rfl, rfl⟩))))) (m_right_nd (m_right_nd (m_right_nd (m_right_lf ⟨3, dX9_book_25, rfl, rfl, 31, rfl, by decide⟩) (m_right_nd (m_right_lf ⟨2, dX9_book_28, rfl, rfl, rfl⟩) (m_right_lf ⟨1, dX9_book_30, rfl, 0, .int, rfl, rfl, Or.inl ⟨rfl, rfl⟩⟩))) (m_right_nd (m_right_nd (m_right_lf ⟨1, dX9_book_31, rfl, rfl, rfl⟩) (m_right_lf ⟨3, dX9_book_32, rfl, rfl, 9, 0, rfl, Or.inl ⟨(RX9, TX9, 10), rfl, by decide, wd_348⟩⟩)) (m_right_nd (m_right_lf ⟨3, dX9_book_35, rfl, rfl, 7, 12, rfl, Or.inl ⟨(RX7, TX7, 16), rfl, by decide, wd_129⟩⟩) (m_right_lf ⟨2, dX9_book_38, rfl, rfl, by decide +kernel⟩)))) (m_right_nd (m_right_nd (m_right_nd (m_right_lf ⟨3, dX9_book_40, rfl, rfl, 46, rfl, by decide⟩) (m_right_lf ⟨2, dX9_book_43, rfl, rfl, by decide +kernel⟩)) (m_right_nd (m_right_lf ⟨1, dX9_book_45, rfl, 0, .int, rfl, rfl, Or.inl ⟨rfl, rfl⟩⟩) (m_right_lf ⟨1, dX9_book_46, rfl, rfl, rfl⟩))) (m_right_nd (m_right_nd (m_right_lf ⟨3, dX9_book_47, rfl, rfl, 9, 0, rfl, Or.inl ⟨(RX9, TX9, 10), rfl, by decide, wd_348⟩⟩) (m_right_lf ⟨3, dX9_book_50, rfl, rfl, 7, 10, rfl, Or.inl ⟨(RX7, TX7, 16), rfl, by decide, wd_125⟩⟩)) (m_right_nd (m_right_lf ⟨1, dX9_book_53, rfl, rfl, rfl⟩) (m_right_lf ⟨3, dX9_book_54, rfl, rfl, 9, 0, rfl, Or.inl ⟨(RX9, TX9, 10), rfl, by decide, wd_348⟩⟩)))))) (m_right_nd (m_right_nd (m_right_nd (m_right_nd (m_right_lf ⟨3, dX9_book_57, rfl, rfl, 7, 12, rfl, Or.inl ⟨(RX7, TX7, 16), rfl, by decide, wd_129⟩⟩) (m_right_nd (m_right_lf ⟨1, dX9_book_60, rfl, rfl, rfl⟩) (m_right_lf ⟨3, dX9_book_61, rfl, rfl, 68, rfl, by decide⟩))) (m_right_nd (m_right_nd (m_right_lf ⟨1, dX9_book_64, rfl, rfl, rfl⟩) (m_right_lf ⟨3, dX9_book_65, rfl, 69, rfl, by decide⟩)) (m_right_nd (m_right_lf ⟨1, dX9_book_68, rfl, rfl, rfl⟩) (m_right_lf ⟨1, dX9_book_69, rfl, rfl⟩)))) (m_right_nd (m_right_nd (m_right_nd (m_right_lf ⟨1, dX9_book_70, rfl, rfl, rfl⟩) (m_right_lf ⟨3, dX9_book_71, rfl, rfl, 9, 0, rfl, Or.inl ⟨(RX9, TX9, 10), rfl, by decide, wd_348⟩⟩)) (m_right_nd (m_right_lf ⟨3, dX9_book_74, rfl, rfl, 7, 11, rfl, Or.inl ⟨(RX7, TX7, 16), rfl, by decide, wd_127⟩⟩) (m_right_lf ⟨1, dX9_book_77, rfl, rfl, rfl⟩))) (m_right_nd (m_right_nd (m_right_lf ⟨3, dX9_book_78, rfl, rfl, 9, 0, rfl, Or.inl ⟨(RX9, TX9, 10), rfl, by decide, wd_348⟩⟩) (m_right_lf ⟨3, dX9_book_81, rfl, rfl, 7, 12, rfl, Or.inl ⟨(RX7, TX7, 16), rfl, by decide, wd_129⟩⟩)) (m_right_nd (m_right_lf ⟨1, dX9_book_84, rfl, rfl, rfl⟩) (m_right_lf ⟨3, dX9_book_85, rfl, rfl, 92, rfl, by decide⟩))))) (m_right_nd (m_right_nd (m_right_nd (m_right_lf ⟨1, dX9_book_88, rfl, rfl, rfl⟩) (m_right_nd (m_right_lf ⟨3, dX9_book_89, rfl, 93, rfl, by decide⟩) (m_right_lf ⟨1, dX9_book_92, rfl, rfl, rfl⟩))) (m_right_nd (m_right_nd (m_right_lf ⟨1, dX9_book_93, rfl, rfl⟩) (m_right_lf ⟨1, dX9_book_94, rfl, rfl, rfl⟩)) (m_right_nd (m_right_lf ⟨3, dX9_book_95, rfl, rfl, 9, 0, rfl, Or.inl ⟨(RX9, TX9, 10), rfl, by decide, wd_348⟩⟩) (m_right_lf ⟨1, dX9_book_98, rfl, rfl⟩)))) (m_right_nd (m_right_nd (m_right_nd (m_right_lf ⟨3, dX9_book_99, rfl, rfl, 7, 12, rfl, Or.inl ⟨(RX7, TX7, 16), rfl, by decide, wd_129⟩⟩) (m_right_lf ⟨1, dX9_book_102, rfl, rfl, by decide +kernel⟩)) (m_right_nd (m_right_lf ⟨1, dX9_book_103, rfl, rfl⟩) (m_right_lf ⟨3, dX9_book_104, rfl, rfl, 7, 12, 0, (RX7, TX7, 16), rfl, rfl, by decide, wd_129, Or.inl rfl, tyX7 12, tyX7_ok 12 (by decide), Or.inl ⟨rfl, rfl⟩⟩))) (m_right_nd (m_right_nd (m_right_lf ⟨1, dX9_book_107, rfl, rfl, rfl⟩) (m_right_lf ⟨3, dX9_book_108, rfl, rfl, 9, 0, rfl, Or.inl ⟨(RX9, TX9, 10), rfl, by decide, wd_348⟩⟩)) (m_right_nd (m_right_lf ⟨3, dX9_book_111, rfl, rfl, 7, 12, rfl, Or.inl ⟨(RX7, TX7, 16), rfl, by decide, wd_129⟩⟩) (m_right_lf ⟨1, dX9_book_114, rfl, 0, .int, rfl, rfl, Or.inl ⟨rfl, rfl⟩⟩))))))
theorem dX9_likely_0 : decode cX9_likely 0 = .ok (.aload_n 0, 1) := by decide +kernel
theorem dX9_likely_1 : decode cX9_likely 1 = .ok (.iload_n 1, 1) := by decide +kernel
theorem dX9_likely_2 : decode cX9_likely 2 = .ok (.invokevirtual 104, 3) := by decide +kernel
theorem dX9_likely_5 : decode cX9_likely 5 = .ok (.ifCond .eq 5, 3) := by decide +kernel
theorem dX9_likely_8 : decode cX9_likely 8 = .ok (.iconst (-1), 1) := by decide +kernel
theorem dX9_likely_9 : decode cX9_likely 9 = .ok (.ireturn, 1) := by decide +kernel
theorem dX9_likely_10 : decode cX9_likely 10 = .ok (.iconst 0, 1) := by decide +kernel
theorem dX9_likely_11 : decode cX9_likely 11 = .ok (.istore_n 2, 1) := by decide +kernel
theorem dX9_likely_12 : decode cX9_likely 12 = .ok (.lconst 0, 1) := by decide +kernel
theorem dX9_likely_13 : decode cX9_likely 13 = .ok (.lstore_n 3, 1) := by decide +kernel
theorem dX9_likely_14 : decode cX9_likely 14 = .ok (.iconst 0, 1) := by decide +kernel
theorem dX9_likely_15 : decode cX9_likely 15 = .ok (.istore 5, 2) := by decide +kernel
theorem dX9_likely_17 : decode cX9_likely 17 = .ok (.iload 5, 2) := by decide +kernel
theorem dX9_likely_19 : decode cX9_likely 19 = .ok (.bipush 9, 2) := by decide +kernel
theorem dX9_likely_21 : decode cX9_likely 21 = .ok (.if_icmp .gt 92, 3) := by decide +kernel
theorem dX9_likely_24 : decode cX9_likely 24 = .ok (.aload_n 0, 1) := by decide +kernel
theorem dX9_likely_25 : decode cX9_likely 25 = .ok (.getfield 21, 3) := by decide +kernel
theorem dX9_likely_28 : decode cX9_likely 28 = .ok (.aload_n 0, 1) := by decide +kernel
theorem dX9_likely_29 : decode cX9_likely 29 = .ok (.getfield 12, 3) := by decide +kernel
theorem dX9_likely_32 : decode cX9_likely 32 = .ok (.invokevirtual 217, 3) := by decide +kernel
theorem dX9_likely_35 : decode cX9_likely 35 = .ok (.aload_n 0, 1) := by decide +kernel
theorem dX9_likely_36 : decode cX9_likely 36 = .ok (.getfield 21, 3) := by decide +kernel
theorem dX9_likely_39 : decode cX9_likely 39 = .ok (.getfield 110, 3) := by decide +kernel
theorem dX9_likely_42 : decode cX9_likely 42 = .ok (.iload_n 1, 1) := by decide +kernel
theorem dX9_likely_43 : decode cX9_likely 43 = .ok (.iload 5, 2) := by decide +kernel
theorem dX9_likely_45 : decode cX9_likely 45 = .ok (.iastore, 1) := by decide +kernel
theorem dX9_likely_46 : decode cX9_likely 46 = .ok (.lconst 1, 1) := by decide +kernel
theorem dX9_likely_47 : decode cX9_likely 47 = .ok (.lstore 6, 2) := by decide +kernel
theorem dX9_likely_49 : decode cX9_likely 49 = .ok (.iconst 0, 1) := by decide +kernel
theorem dX9_likely_50 : decode cX9_likely 50 = .ok (.istore 8, 2) := by decide +kernel
theorem dX9_likely_52 : decode cX9_likely 52 = .ok (.iload 8, 2) := by decide +kernel
theorem dX9_likely_54 : decode cX9_likely 54 = .ok (.aload_n 0, 1) := by decide +kernel
theorem dX9_likely_55 : decode cX9_likely 55 = .ok (.getfield 12, 3) := by decide +kernel
theorem dX9_likely_58 : decode cX9_likely 58 = .ok (.getfield 225, 3) := by decide +kernel
theorem dX9_likely_61 : decode cX9_likely 61 = .ok (.if_icmp .ge 33, 3) := by decide +kernel
theorem dX9_likely_64 : decode cX9_likely 64 = .ok (.lload 6, 2) := by decide +kernel
theorem dX9_likely_66 : decode cX9_likely 66 = .ok (.aload_n 0, 1) := by decide +kernel
theorem dX9_likely_67 : decode cX9_likely 67 = .ok (.getfield 21, 3) := by decide +kernel
theorem dX9_likely_70 : decode cX9_likely 70 = .ok (.iload 8, 2) := by decide +kernel
theorem dX9_likely_72 : decode cX9_likely 72 = .ok (.invokevirtual 234, 3) := by decide +kernel
theorem dX9_likely_75 : decode cX9_likely 75 = .ok (.i2l, 1) := by decide +kernel
theorem dX9_likely_76 : decode cX9_likely 76 = .ok (.lmul, 1) := by decide +kernel
theorem dX9_likely_77 : decode cX9_likely 77 = .ok (.lstore 6, 2) := by decide +kernel
theorem dX9_likely_79 : decode cX9_likely 79 = .ok (.aload_n 0, 1) := by decide +kernel
theorem dX9_likely_80 : decode cX9_likely 80 = .ok (.getfield 21, 3) := by decide +kernel
theorem dX9_likely_83 : decode cX9_likely 83 = .ok (.iload 8, 2) := by decide +kernel
theorem dX9_likely_85 : decode cX9_likely 85 = .ok (.invokevirtual 237, 3) := by decide +kernel
theorem dX9_likely_88 : decode cX9_likely 88 = .ok (.iinc 8 1, 3) := by decide +kernel
theorem dX9_likely_91 : decode cX9_likely 91 = .ok (.goto (-39), 3) := by decide +kernel
theorem dX9_likely_94 : decode cX9_likely 94 = .ok (.lload 6, 2) := by decide +kernel
theorem dX9_likely_96 : decode cX9_likely 96 = .ok (.lload_n 3, 1) := by decide +kernel
theorem dX9_likely_97 : decode cX9_likely 97 = .ok (.lcmp, 1) := by decide +kernel
theorem dX9_likely_98 : decode cX9_likely 98 = .ok (.ifCond .le 9, 3) := by decide +kernel
theorem dX9_likely_101 : decode cX9_likely 101 = .ok (.lload 6, 2) := by decide +kernel
theorem dX9_likely_103 : decode cX9_likely 103 = .ok (.lstore_n 3, 1) := by decide +kernel
theorem dX9_likely_104 : decode cX9_likely 104 = .ok (.iload 5, 2) := by decide +kernel
theorem dX9_likely_106 : decode cX9_likely 106 = .ok (.istore_n 2, 1) := by decide +kernel
theorem dX9_likely_107 : decode cX9_likely 107 = .ok (.iinc 5 1, 3) := by decide +kernel
theorem dX9_likely_110 : decode cX9_likely 110 = .ok (.goto (-93), 3) := by decide +kernel
theorem dX9_likely_113 : decode cX9_likely 113 = .ok (.iload_n 2, 1) := by decide +kernel
theorem dX9_likely_114 : decode cX9_likely 114 = .ok (.ireturn, 1) := by decide +kernel
set_option maxRecDepth 20000 in
theorem r_X9_likely : m_Right (yX9_likely, cX9_likely, 9, (some .int)) q_X9_likely := m_right_nd (m_right_nd (m_right_nd (m_right_nd (m_right_nd (m_right_lf ⟨1, dX9_likely_0, rfl, rfl, rfl⟩) (m_right_nd (m_right_lf ⟨1, dX9_likely_1, rfl, rfl, rfl⟩) (m_right_lf ⟨3, dX9_likely_2, rfl, rfl, 108, 1, 9, (yX9_isNobody, cX9_isNobody, 2, (some .boolean)), rfl, me_X9_isNobody, mc_X9_isNobody, Or.inl ⟨(RX9, TX9, 10), rfl, rfl⟩, wd_481, wd_483, wd_9, wd_62⟩))) (m_right_nd (m_right_nd (m_right_lf ⟨3, dX9_likely_5, rfl, rfl, 10, rfl, by decide⟩) (m_right_lf ⟨1, dX9_likely_8, rfl, rfl, by decide +kernel⟩)) (m_right_nd (m_right_lf ⟨1, dX9_likely_9, rfl, 0, .int, rfl, rfl, Or.inl ⟨rfl, rfl⟩⟩) (m_right_lf ⟨1, dX9_likely_10, rfl, rfl, by decide +kernel⟩)))) (m_right_nd (m_right_nd (m_right_nd (m_right_lf ⟨1, dX9_likely_11, rfl, rfl, rfl⟩) (m_right_lf ⟨1, dX9_likely_12, rfl, rfl, by decide +kernel⟩)) (m_right_nd (m_right_lf ⟨1, dX9_likely_13, rfl, rfl, rfl⟩) (m_right_lf ⟨1, dX9_likely_14, rfl, rfl, by decide +kernel⟩))) (m_right_nd (m_right_nd (m_right_lf ⟨2, dX9_likely_15, rfl, rfl, rfl⟩) (m_right_lf ⟨2, dX9_likely_17, rfl, rfl, rfl⟩)) (m_right_nd (m_right_lf ⟨2, dX9_likely_19, rfl, rfl, by decide +kernel⟩) (m_right_lf ⟨3, dX9_likely_21, rfl, rfl, 113, rfl, by decide⟩))))) (m_right_nd (m_right_nd (m_right_nd (m_right_lf ⟨1, dX9_likely_24, rfl, rfl, rfl⟩) (m_right_nd (m_right_lf ⟨3, dX9_likely_25, rfl, rfl, 9, 2, rfl, Or.inl ⟨(RX9, TX9, 10), rfl, by decide, wd_350⟩⟩) (m_right_lf ⟨1, dX9_likely_28, rfl, rfl, rfl⟩))) (m_right_nd (m_right_nd (m_right_lf ⟨3, dX9_likely_29, rfl, rfl, 9, 0, rfl, Or.inl ⟨(RX9, TX9, 10), rfl, by decide, wd_348⟩⟩) (m_right_lf ⟨3, dX9_likely_32, rfl, rfl, 55, 1, 7, (yX7_becomes, cX7_becomes, 2, none), rfl, me_X7_becomes, mc_X7_becomes, Or.inl ⟨(RX7, TX7, 16), rfl, rfl⟩, wd_747, wd_748, wd_749, wd_63⟩)) (m_right_nd (m_right_lf ⟨1, dX9_likely_35, rfl, rfl, rfl⟩) (m_right_lf ⟨3, dX9_likely_36, rfl, rfl, 9, 2, rfl, Or.inl ⟨(RX9, TX9, 10), rfl, by decide, wd_350⟩⟩)))) (m_right_nd (m_right_nd (m_right_nd (m_right_lf ⟨3, dX9_likely_39, rfl, rfl, 7, 2, rfl, Or.inl ⟨(RX7, TX7, 16), rfl, by decide, wd_101⟩⟩) (m_right_lf ⟨1, dX9_likely_42, rfl, rfl, rfl⟩)) (m_right_nd (m_right_lf ⟨2, dX9_likely_43, rfl, rfl, rfl⟩) (m_right_lf ⟨1, dX9_likely_45, rfl, rfl⟩))) (m_right_nd (m_right_nd (m_right_lf ⟨1, dX9_likely_46, rfl, rfl, by decide +kernel⟩) (m_right_lf ⟨2, dX9_likely_47, rfl, rfl, rfl⟩)) (m_right_nd (m_right_lf ⟨1, dX9_likely_49, rfl, rfl, by decide +kernel⟩) (m_right_lf ⟨2, dX9_likely_50, rfl, rfl, rfl⟩)))))) (m_right_nd (m_right_nd (m_right_nd (m_right_nd (m_right_lf ⟨2, dX9_likely_52, rfl, rfl, rfl⟩) (m_right_nd (m_right_lf ⟨1, dX9_likely_54, rfl, rfl, rfl⟩) (m_right_lf ⟨3, dX9_likely_55, rfl, rfl, 9, 0, rfl, Or.inl ⟨(RX9, TX9, 10), rfl, by decide, wd_348⟩⟩))) (m_right_nd (m_right_nd (m_right_lf ⟨3, dX9_likely_58, rfl, rfl, 7, 12, rfl, Or.inl ⟨(RX7, TX7, 16), rfl, by decide, wd_129⟩⟩) (m_right_lf ⟨3, dX9_likely_61, rfl, rfl, 94, rfl, by decide⟩)) (m_right_nd (m_right_lf ⟨2, dX9_likely_64, rfl, rfl, rfl⟩) (m_right_lf ⟨1, dX9_likely_66, rfl, rfl, rfl⟩)))) (m_right_nd (m_right_nd (m_right_nd (m_right_lf ⟨3, dX9_likely_67, rfl, rfl, 9, 2, rfl, Or.inl ⟨(RX9, TX9, 10), rfl, by decide, wd_350⟩⟩) (m_right_lf ⟨2, dX9_likely_70, rfl, rfl, rfl⟩)) (m_right_nd (m_right_lf ⟨3, dX9_likely_72, rfl, rfl, 68, 1, 7, (yX7_chanceOfBook, cX7_chanceOfBook, 2, (some .int)), rfl, me_X7_chanceOfBook, mc_X7_chanceOfBook, Or.inl ⟨(RX7, TX7, 16), rfl, rfl⟩, wd_777, wd_778, wd_779, wd_63⟩) (m_right_lf ⟨1, dX9_likely_75, rfl, rfl⟩))) (m_right_nd (m_right_nd (m_right_lf ⟨1, dX9_likely_76, rfl, rfl⟩) (m_right_lf ⟨2, dX9_likely_77, rfl, rfl, rfl⟩)) (m_right_nd (m_right_lf ⟨1, dX9_likely_79, rfl, rfl, rfl⟩) (m_right_lf ⟨3, dX9_likely_80, rfl, rfl, 9, 2, rfl, Or.inl ⟨(RX9, TX9, 10), rfl, by decide, wd_350⟩⟩))))) (m_right_nd (m_right_nd (m_right_nd (m_right_nd (m_right_lf ⟨2, dX9_likely_83, rfl, rfl, rfl⟩) (m_right_lf ⟨3, dX9_likely_85, rfl, rfl, 69, 1, 7, (yX7_gameOfBook, cX7_gameOfBook, 2, none), rfl, me_X7_gameOfBook, mc_X7_gameOfBook, Or.inl ⟨(RX7, TX7, 16), rfl, rfl⟩, wd_782, wd_783, wd_784, wd_63⟩)) (m_right_nd (m_right_lf ⟨3, dX9_likely_88, rfl, rfl, rfl, by decide +kernel⟩) (m_right_lf ⟨3, dX9_likely_91, rfl, 52, rfl, by decide⟩))) (m_right_nd (m_right_nd (m_right_lf ⟨2, dX9_likely_94, rfl, rfl, rfl⟩) (m_right_lf ⟨1, dX9_likely_96, rfl, rfl, rfl⟩)) (m_right_nd (m_right_lf ⟨1, dX9_likely_97, rfl, rfl⟩) (m_right_lf ⟨3, dX9_likely_98, rfl, rfl, 107, rfl, by decide⟩)))) (m_right_nd (m_right_nd (m_right_nd (m_right_lf ⟨2, dX9_likely_101, rfl, rfl, rfl⟩) (m_right_lf ⟨1, dX9_likely_103, rfl, rfl, rfl⟩)) (m_right_nd (m_right_lf ⟨2, dX9_likely_104, rfl, rfl, rfl⟩) (m_right_lf ⟨1, dX9_likely_106, rfl, rfl, rfl⟩))) (m_right_nd (m_right_nd (m_right_lf ⟨3, dX9_likely_107, rfl, rfl, rfl, by decide +kernel⟩) (m_right_lf ⟨3, dX9_likely_110, rfl, 17, rfl, by decide⟩)) (m_right_nd (m_right_lf ⟨1, dX9_likely_113, rfl, rfl, rfl⟩) (m_right_lf ⟨1, dX9_likely_114, rfl, 0, .int, rfl, rfl, Or.inl ⟨rfl, rfl⟩⟩))))))
theorem dX9_says_0 : decode cX9_says 0 = .ok (.aload_n 0, 1) := by decide +kernel
theorem dX9_says_1 : decode cX9_says 1 = .ok (.iload_n 1, 1) := by decide +kernel
theorem dX9_says_2 : decode cX9_says 2 = .ok (.invokevirtual 104, 3) := by decide +kernel
theorem dX9_says_5 : decode cX9_says 5 = .ok (.ifCond .eq 5, 3) := by decide +kernel
theorem dX9_says_8 : decode cX9_says 8 = .ok (.iconst (-1), 1) := by decide +kernel
theorem dX9_says_9 : decode cX9_says 9 = .ok (.ireturn, 1) := by decide +kernel
theorem dX9_says_10 : decode cX9_says 10 = .ok (.aload_n 0, 1) := by decide +kernel
theorem dX9_says_11 : decode cX9_says 11 = .ok (.getfield 21, 3) := by decide +kernel
theorem dX9_says_14 : decode cX9_says 14 = .ok (.aload_n 0, 1) := by decide +kernel
theorem dX9_says_15 : decode cX9_says 15 = .ok (.getfield 12, 3) := by decide +kernel
theorem dX9_says_18 : decode cX9_says 18 = .ok (.invokevirtual 217, 3) := by decide +kernel
theorem dX9_says_21 : decode cX9_says 21 = .ok (.iconst 0, 1) := by decide +kernel
theorem dX9_says_22 : decode cX9_says 22 = .ok (.istore_n 2, 1) := by decide +kernel
theorem dX9_says_23 : decode cX9_says 23 = .ok (.iload_n 2, 1) := by decide +kernel
theorem dX9_says_24 : decode cX9_says 24 = .ok (.aload_n 0, 1) := by decide +kernel
theorem dX9_says_25 : decode cX9_says 25 = .ok (.getfield 12, 3) := by decide +kernel
theorem dX9_says_28 : decode cX9_says 28 = .ok (.getfield 225, 3) := by decide +kernel
theorem dX9_says_31 : decode cX9_says 31 = .ok (.if_icmp .ge 17, 3) := by decide +kernel
theorem dX9_says_34 : decode cX9_says 34 = .ok (.aload_n 0, 1) := by decide +kernel
theorem dX9_says_35 : decode cX9_says 35 = .ok (.getfield 21, 3) := by decide +kernel
theorem dX9_says_38 : decode cX9_says 38 = .ok (.iload_n 2, 1) := by decide +kernel
theorem dX9_says_39 : decode cX9_says 39 = .ok (.invokevirtual 237, 3) := by decide +kernel
theorem dX9_says_42 : decode cX9_says 42 = .ok (.iinc 2 1, 3) := by decide +kernel
theorem dX9_says_45 : decode cX9_says 45 = .ok (.goto (-22), 3) := by decide +kernel
theorem dX9_says_48 : decode cX9_says 48 = .ok (.aload_n 0, 1) := by decide +kernel
theorem dX9_says_49 : decode cX9_says 49 = .ok (.getfield 21, 3) := by decide +kernel
theorem dX9_says_52 : decode cX9_says 52 = .ok (.getfield 113, 3) := by decide +kernel
theorem dX9_says_55 : decode cX9_says 55 = .ok (.iload_n 1, 1) := by decide +kernel
theorem dX9_says_56 : decode cX9_says 56 = .ok (.iaload, 1) := by decide +kernel
theorem dX9_says_57 : decode cX9_says 57 = .ok (.ireturn, 1) := by decide +kernel
set_option maxRecDepth 20000 in
theorem r_X9_says : m_Right (yX9_says, cX9_says, 3, (some .int)) q_X9_says := m_right_nd (m_right_nd (m_right_nd (m_right_nd (m_right_lf ⟨1, dX9_says_0, rfl, rfl, rfl⟩) (m_right_nd (m_right_lf ⟨1, dX9_says_1, rfl, rfl, rfl⟩) (m_right_lf ⟨3, dX9_says_2, rfl, rfl, 108, 1, 9, (yX9_isNobody, cX9_isNobody, 2, (some .boolean)), rfl, me_X9_isNobody, mc_X9_isNobody, Or.inl ⟨(RX9, TX9, 10), rfl, rfl⟩, wd_481, wd_483, wd_9, wd_62⟩))) (m_right_nd (m_right_nd (m_right_lf ⟨3, dX9_says_5, rfl, rfl, 10, rfl, by decide⟩) (m_right_lf ⟨1, dX9_says_8, rfl, rfl, by decide +kernel⟩)) (m_right_nd (m_right_lf ⟨1, dX9_says_9, rfl, 0, .int, rfl, rfl, Or.inl ⟨rfl, rfl⟩⟩) (m_right_lf ⟨1, dX9_says_10, rfl, rfl, rfl⟩)))) (m_right_nd (m_right_nd (m_right_nd (m_right_lf ⟨3, dX9_says_11, rfl, rfl, 9, 2, rfl, Or.inl ⟨(RX9, TX9, 10), rfl, by decide, wd_350⟩⟩) (m_right_lf ⟨1, dX9_says_14, rfl, rfl, rfl⟩)) (m_right_nd (m_right_lf ⟨3, dX9_says_15, rfl, rfl, 9, 0, rfl, Or.inl ⟨(RX9, TX9, 10), rfl, by decide, wd_348⟩⟩) (m_right_lf ⟨3, dX9_says_18, rfl, rfl, 55, 1, 7, (yX7_becomes, cX7_becomes, 2, none), rfl, me_X7_becomes, mc_X7_becomes, Or.inl ⟨(RX7, TX7, 16), rfl, rfl⟩, wd_747, wd_748, wd_749, wd_63⟩))) (m_right_nd (m_right_nd (m_right_lf ⟨1, dX9_says_21, rfl, rfl, by decide +kernel⟩) (m_right_lf ⟨1, dX9_says_22, rfl, rfl, rfl⟩)) (m_right_nd (m_right_lf ⟨1, dX9_says_23, rfl, rfl, rfl⟩) (m_right_lf ⟨1, dX9_says_24, rfl, rfl, rfl⟩))))) (m_right_nd (m_right_nd (m_right_nd (m_right_lf ⟨3, dX9_says_25, rfl, rfl, 9, 0, rfl, Or.inl ⟨(RX9, TX9, 10), rfl, by decide, wd_348⟩⟩) (m_right_nd (m_right_lf ⟨3, dX9_says_28, rfl, rfl, 7, 12, rfl, Or.inl ⟨(RX7, TX7, 16), rfl, by decide, wd_129⟩⟩) (m_right_lf ⟨3, dX9_says_31, rfl, rfl, 48, rfl, by decide⟩))) (m_right_nd (m_right_nd (m_right_lf ⟨1, dX9_says_34, rfl, rfl, rfl⟩) (m_right_lf ⟨3, dX9_says_35, rfl, rfl, 9, 2, rfl, Or.inl ⟨(RX9, TX9, 10), rfl, by decide, wd_350⟩⟩)) (m_right_nd (m_right_lf ⟨1, dX9_says_38, rfl, rfl, rfl⟩) (m_right_lf ⟨3, dX9_says_39, rfl, rfl, 69, 1, 7, (yX7_gameOfBook, cX7_gameOfBook, 2, none), rfl, me_X7_gameOfBook, mc_X7_gameOfBook, Or.inl ⟨(RX7, TX7, 16), rfl, rfl⟩, wd_782, wd_783, wd_784, wd_63⟩)))) (m_right_nd (m_right_nd (m_right_nd (m_right_lf ⟨3, dX9_says_42, rfl, rfl, rfl, by decide +kernel⟩) (m_right_lf ⟨3, dX9_says_45, rfl, 23, rfl, by decide⟩)) (m_right_nd (m_right_lf ⟨1, dX9_says_48, rfl, rfl, rfl⟩) (m_right_lf ⟨3, dX9_says_49, rfl, rfl, 9, 2, rfl, Or.inl ⟨(RX9, TX9, 10), rfl, by decide, wd_350⟩⟩))) (m_right_nd (m_right_nd (m_right_lf ⟨3, dX9_says_52, rfl, rfl, 7, 3, rfl, Or.inl ⟨(RX7, TX7, 16), rfl, by decide, wd_107⟩⟩) (m_right_lf ⟨1, dX9_says_55, rfl, rfl, rfl⟩)) (m_right_nd (m_right_lf ⟨1, dX9_says_56, rfl, rfl⟩) (m_right_lf ⟨1, dX9_says_57, rfl, 0, .int, rfl, rfl, Or.inl ⟨rfl, rfl⟩⟩)))))
theorem dX9_tale_0 : decode cX9_tale 0 = .ok (.iload_n 1, 1) := by decide +kernel
theorem dX9_tale_1 : decode cX9_tale 1 = .ok (.iconst (-1), 1) := by decide +kernel
theorem dX9_tale_2 : decode cX9_tale 2 = .ok (.if_icmp .ne 13, 3) := by decide +kernel
theorem dX9_tale_5 : decode cX9_tale 5 = .ok (.aload_n 0, 1) := by decide +kernel
theorem dX9_tale_6 : decode cX9_tale 6 = .ok (.getfield 12, 3) := by decide +kernel
theorem dX9_tale_9 : decode cX9_tale 9 = .ok (.iconst 0, 1) := by decide +kernel
theorem dX9_tale_10 : decode cX9_tale 10 = .ok (.putfield 241, 3) := by decide +kernel
theorem dX9_tale_13 : decode cX9_tale 13 = .ok (.iconst 0, 1) := by decide +kernel
theorem dX9_tale_14 : decode cX9_tale 14 = .ok (.ireturn, 1) := by decide +kernel
theorem dX9_tale_15 : decode cX9_tale 15 = .ok (.iload_n 1, 1) := by decide +kernel
theorem dX9_tale_16 : decode cX9_tale 16 = .ok (.invokestatic 116, 3) := by decide +kernel
theorem dX9_tale_19 : decode cX9_tale 19 = .ok (.ifCond .eq 6, 3) := by decide +kernel
theorem dX9_tale_22 : decode cX9_tale 22 = .ok (.bipush (-2), 2) := by decide +kernel
theorem dX9_tale_24 : decode cX9_tale 24 = .ok (.ireturn, 1) := by decide +kernel
theorem dX9_tale_25 : decode cX9_tale 25 = .ok (.aload_n 0, 1) := by decide +kernel
theorem dX9_tale_26 : decode cX9_tale 26 = .ok (.getfield 12, 3) := by decide +kernel
theorem dX9_tale_29 : decode cX9_tale 29 = .ok (.getfield 241, 3) := by decide +kernel
theorem dX9_tale_32 : decode cX9_tale 32 = .ok (.bipush 8, 2) := by decide +kernel
theorem dX9_tale_34 : decode cX9_tale 34 = .ok (.if_icmp .lt 6, 3) := by decide +kernel
theorem dX9_tale_37 : decode cX9_tale 37 = .ok (.bipush (-4), 2) := by decide +kernel
theorem dX9_tale_39 : decode cX9_tale 39 = .ok (.ireturn, 1) := by decide +kernel
theorem dX9_tale_40 : decode cX9_tale 40 = .ok (.aload_n 0, 1) := by decide +kernel
theorem dX9_tale_41 : decode cX9_tale 41 = .ok (.getfield 12, 3) := by decide +kernel
theorem dX9_tale_44 : decode cX9_tale 44 = .ok (.getfield 244, 3) := by decide +kernel
theorem dX9_tale_47 : decode cX9_tale 47 = .ok (.aload_n 0, 1) := by decide +kernel
theorem dX9_tale_48 : decode cX9_tale 48 = .ok (.getfield 12, 3) := by decide +kernel
theorem dX9_tale_51 : decode cX9_tale 51 = .ok (.getfield 241, 3) := by decide +kernel
theorem dX9_tale_54 : decode cX9_tale 54 = .ok (.iload_n 1, 1) := by decide +kernel
theorem dX9_tale_55 : decode cX9_tale 55 = .ok (.iastore, 1) := by decide +kernel
theorem dX9_tale_56 : decode cX9_tale 56 = .ok (.aload_n 0, 1) := by decide +kernel
theorem dX9_tale_57 : decode cX9_tale 57 = .ok (.getfield 12, 3) := by decide +kernel
theorem dX9_tale_60 : decode cX9_tale 60 = .ok (.dup, 1) := by decide +kernel
theorem dX9_tale_61 : decode cX9_tale 61 = .ok (.getfield 241, 3) := by decide +kernel
theorem dX9_tale_64 : decode cX9_tale 64 = .ok (.iconst 1, 1) := by decide +kernel
theorem dX9_tale_65 : decode cX9_tale 65 = .ok (.iadd, 1) := by decide +kernel
theorem dX9_tale_66 : decode cX9_tale 66 = .ok (.putfield 241, 3) := by decide +kernel
theorem dX9_tale_69 : decode cX9_tale 69 = .ok (.aload_n 0, 1) := by decide +kernel
theorem dX9_tale_70 : decode cX9_tale 70 = .ok (.getfield 12, 3) := by decide +kernel
theorem dX9_tale_73 : decode cX9_tale 73 = .ok (.getfield 241, 3) := by decide +kernel
theorem dX9_tale_76 : decode cX9_tale 76 = .ok (.ireturn, 1) := by decide +kernel
set_option maxRecDepth 20000 in
theorem r_X9_tale : m_Right (yX9_tale, cX9_tale, 2, (some .int)) q_X9_tale := m_right_nd (m_right_nd (m_right_nd (m_right_nd (m_right_nd (m_right_lf ⟨1, dX9_tale_0, rfl, rfl, rfl⟩) (m_right_lf ⟨1, dX9_tale_1, rfl, rfl, by decide +kernel⟩)) (m_right_nd (m_right_lf ⟨3, dX9_tale_2, rfl, rfl, 15, rfl, by decide⟩) (m_right_nd (m_right_lf ⟨1, dX9_tale_5, rfl, rfl, rfl⟩) (m_right_lf ⟨3, dX9_tale_6, rfl, rfl, 9, 0, rfl, Or.inl ⟨(RX9, TX9, 10), rfl, by decide, wd_348⟩⟩)))) (m_right_nd (m_right_nd (m_right_lf ⟨1, dX9_tale_9, rfl, rfl, by decide +kernel⟩) (m_right_lf ⟨3, dX9_tale_10, rfl, rfl, 7, 14, 0, (RX7, TX7, 16), rfl, rfl, by decide, wd_133, Or.inl rfl, tyX7 14, tyX7_ok 14 (by decide), Or.inl ⟨rfl, rfl⟩⟩)) (m_right_nd (m_right_lf ⟨1, dX9_tale_13, rfl, rfl, by decide +kernel⟩) (m_right_nd (m_right_lf ⟨1, dX9_tale_14, rfl, 0, .int, rfl, rfl, Or.inl ⟨rfl, rfl⟩⟩) (m_right_lf ⟨1, dX9_tale_15, rfl, rfl, rfl⟩))))) (m_right_nd (m_right_nd (m_right_nd (m_right_lf ⟨3, dX9_tale_16, rfl, rfl, Or.inr (Or.inr ⟨112, 1, (yX9_isNoMen, cX9_isNoMen, 1, (some .boolean)), rfl, me_X9_isNoMen, mc_X9_isNoMen, wd_489, wd_490, wd_62⟩)⟩) (m_right_lf ⟨3, dX9_tale_19, rfl, rfl, 25, rfl, by decide⟩)) (m_right_nd (m_right_lf ⟨2, dX9_tale_22, rfl, rfl, by decide +kernel⟩) (m_right_nd (m_right_lf ⟨1, dX9_tale_24, rfl, 0, .int, rfl, rfl, Or.inl ⟨rfl, rfl⟩⟩) (m_right_lf ⟨1, dX9_tale_25, rfl, rfl, rfl⟩)))) (m_right_nd (m_right_nd (m_right_lf ⟨3, dX9_tale_26, rfl, rfl, 9, 0, rfl, Or.inl ⟨(RX9, TX9, 10), rfl, by decide, wd_348⟩⟩) (m_right_lf ⟨3, dX9_tale_29, rfl, rfl, 7, 14, rfl, Or.inl ⟨(RX7, TX7, 16), rfl, by decide, wd_133⟩⟩)) (m_right_nd (m_right_lf ⟨2, dX9_tale_32, rfl, rfl, by decide +kernel⟩) (m_right_nd (m_right_lf ⟨3, dX9_tale_34, rfl, rfl, 40, rfl, by decide⟩) (m_right_lf ⟨2, dX9_tale_37, rfl, rfl, by decide +kernel⟩)))))) (m_right_nd (m_right_nd (m_right_nd (m_right_nd (m_right_lf ⟨1, dX9_tale_39, rfl, 0, .int, rfl, rfl, Or.inl ⟨rfl, rfl⟩⟩) (m_right_lf ⟨1, dX9_tale_40, rfl, rfl, rfl⟩)) (m_right_nd (m_right_lf ⟨3, dX9_tale_41, rfl, rfl, 9, 0, rfl, Or.inl ⟨(RX9, TX9, 10), rfl, by decide, wd_348⟩⟩) (m_right_nd (m_right_lf ⟨3, dX9_tale_44, rfl, rfl, 7, 13, rfl, Or.inl ⟨(RX7, TX7, 16), rfl, by decide, wd_131⟩⟩) (m_right_lf ⟨1, dX9_tale_47, rfl, rfl, rfl⟩)))) (m_right_nd (m_right_nd (m_right_lf ⟨3, dX9_tale_48, rfl, rfl, 9, 0, rfl, Or.inl ⟨(RX9, TX9, 10), rfl, by decide, wd_348⟩⟩) (m_right_lf ⟨3, dX9_tale_51, rfl, rfl, 7, 14, rfl, Or.inl ⟨(RX7, TX7, 16), rfl, by decide, wd_133⟩⟩)) (m_right_nd (m_right_lf ⟨1, dX9_tale_54, rfl, rfl, rfl⟩) (m_right_nd (m_right_lf ⟨1, dX9_tale_55, rfl, rfl⟩) (m_right_lf ⟨1, dX9_tale_56, rfl, rfl, rfl⟩))))) (m_right_nd (m_right_nd (m_right_nd (m_right_lf ⟨3, dX9_tale_57, rfl, rfl, 9, 0, rfl, Or.inl ⟨(RX9, TX9, 10), rfl, by decide, wd_348⟩⟩) (m_right_lf ⟨1, dX9_tale_60, rfl, rfl⟩)) (m_right_nd (m_right_lf ⟨3, dX9_tale_61, rfl, rfl, 7, 14, rfl, Or.inl ⟨(RX7, TX7, 16), rfl, by decide, wd_133⟩⟩) (m_right_nd (m_right_lf ⟨1, dX9_tale_64, rfl, rfl, by decide +kernel⟩) (m_right_lf ⟨1, dX9_tale_65, rfl, rfl⟩)))) (m_right_nd (m_right_nd (m_right_lf ⟨3, dX9_tale_66, rfl, rfl, 7, 14, 0, (RX7, TX7, 16), rfl, rfl, by decide, wd_133, Or.inl rfl, tyX7 14, tyX7_ok 14 (by decide), Or.inl ⟨rfl, rfl⟩⟩) (m_right_lf ⟨1, dX9_tale_69, rfl, rfl, rfl⟩)) (m_right_nd (m_right_lf ⟨3, dX9_tale_70, rfl, rfl, 9, 0, rfl, Or.inl ⟨(RX9, TX9, 10), rfl, by decide, wd_348⟩⟩) (m_right_nd (m_right_lf ⟨3, dX9_tale_73, rfl, rfl, 7, 14, rfl, Or.inl ⟨(RX7, TX7, 16), rfl, by decide, wd_133⟩⟩) (m_right_lf ⟨1, dX9_tale_76, rfl, 0, .int, rfl, rfl, Or.inl ⟨rfl, rfl⟩⟩))))))
theorem dX9_looked_0 : decode cX9_looked 0 = .ok (.aload_n 0, 1) := by decide +kernel
theorem dX9_looked_1 : decode cX9_looked 1 = .ok (.getfield 12, 3) := by decide +kernel
theorem dX9_looked_4 : decode cX9_looked 4 = .ok (.getfield 97, 3) := by decide +kernel
theorem dX9_looked_7 : decode cX9_looked 7 = .ok (.ifCond .ne 6, 3) := by decide +kernel
theorem dX9_looked_10 : decode cX9_looked 10 = .ok (.bipush (-3), 2) := by decide +kernel
theorem dX9_looked_12 : decode cX9_looked 12 = .ok (.ireturn, 1) := by decide +kernel
theorem dX9_looked_13 : decode cX9_looked 13 = .ok (.aload_n 0, 1) := by decide +kernel
theorem dX9_looked_14 : decode cX9_looked 14 = .ok (.getfield 21, 3) := by decide +kernel
theorem dX9_looked_17 : decode cX9_looked 17 = .ok (.aload_n 0, 1) := by decide +kernel
theorem dX9_looked_18 : decode cX9_looked 18 = .ok (.getfield 12, 3) := by decide +kernel
theorem dX9_looked_21 : decode cX9_looked 21 = .ok (.invokevirtual 217, 3) := by decide +kernel
theorem dX9_looked_24 : decode cX9_looked 24 = .ok (.iconst 0, 1) := by decide +kernel
theorem dX9_looked_25 : decode cX9_looked 25 = .ok (.istore_n 1, 1) := by decide +kernel
theorem dX9_looked_26 : decode cX9_looked 26 = .ok (.iload_n 1, 1) := by decide +kernel
theorem dX9_looked_27 : decode cX9_looked 27 = .ok (.aload_n 0, 1) := by decide +kernel
theorem dX9_looked_28 : decode cX9_looked 28 = .ok (.getfield 12, 3) := by decide +kernel
theorem dX9_looked_31 : decode cX9_looked 31 = .ok (.getfield 241, 3) := by decide +kernel
theorem dX9_looked_34 : decode cX9_looked 34 = .ok (.if_icmp .ge 53, 3) := by decide +kernel
theorem dX9_looked_37 : decode cX9_looked 37 = .ok (.iload_n 1, 1) := by decide +kernel
theorem dX9_looked_38 : decode cX9_looked 38 = .ok (.aload_n 0, 1) := by decide +kernel
theorem dX9_looked_39 : decode cX9_looked 39 = .ok (.getfield 12, 3) := by decide +kernel
theorem dX9_looked_42 : decode cX9_looked 42 = .ok (.getfield 225, 3) := by decide +kernel
theorem dX9_looked_45 : decode cX9_looked 45 = .ok (.if_icmp .lt 5, 3) := by decide +kernel
theorem dX9_looked_48 : decode cX9_looked 48 = .ok (.iload_n 1, 1) := by decide +kernel
theorem dX9_looked_49 : decode cX9_looked 49 = .ok (.ireturn, 1) := by decide +kernel
theorem dX9_looked_50 : decode cX9_looked 50 = .ok (.aload_n 0, 1) := by decide +kernel
theorem dX9_looked_51 : decode cX9_looked 51 = .ok (.getfield 21, 3) := by decide +kernel
theorem dX9_looked_54 : decode cX9_looked 54 = .ok (.iload_n 1, 1) := by decide +kernel
theorem dX9_looked_55 : decode cX9_looked 55 = .ok (.invokevirtual 237, 3) := by decide +kernel
theorem dX9_looked_58 : decode cX9_looked 58 = .ok (.aload_n 0, 1) := by decide +kernel
theorem dX9_looked_59 : decode cX9_looked 59 = .ok (.getfield 21, 3) := by decide +kernel
theorem dX9_looked_62 : decode cX9_looked 62 = .ok (.getfield 113, 3) := by decide +kernel
theorem dX9_looked_65 : decode cX9_looked 65 = .ok (.iconst 0, 1) := by decide +kernel
theorem dX9_looked_66 : decode cX9_looked 66 = .ok (.iaload, 1) := by decide +kernel
theorem dX9_looked_67 : decode cX9_looked 67 = .ok (.aload_n 0, 1) := by decide +kernel
theorem dX9_looked_68 : decode cX9_looked 68 = .ok (.getfield 12, 3) := by decide +kernel
theorem dX9_looked_71 : decode cX9_looked 71 = .ok (.getfield 244, 3) := by decide +kernel
theorem dX9_looked_74 : decode cX9_looked 74 = .ok (.iload_n 1, 1) := by decide +kernel
theorem dX9_looked_75 : decode cX9_looked 75 = .ok (.iaload, 1) := by decide +kernel
theorem dX9_looked_76 : decode cX9_looked 76 = .ok (.if_icmp .eq 5, 3) := by decide +kernel
theorem dX9_looked_79 : decode cX9_looked 79 = .ok (.iload_n 1, 1) := by decide +kernel
theorem dX9_looked_80 : decode cX9_looked 80 = .ok (.ireturn, 1) := by decide +kernel
theorem dX9_looked_81 : decode cX9_looked 81 = .ok (.iinc 1 1, 3) := by decide +kernel
theorem dX9_looked_84 : decode cX9_looked 84 = .ok (.goto (-58), 3) := by decide +kernel
theorem dX9_looked_87 : decode cX9_looked 87 = .ok (.bipush (-5), 2) := by decide +kernel
theorem dX9_looked_89 : decode cX9_looked 89 = .ok (.ireturn, 1) := by decide +kernel
set_option maxRecDepth 20000 in
theorem r_X9_looked : m_Right (yX9_looked, cX9_looked, 2, (some .int)) q_X9_looked := m_right_nd (m_right_nd (m_right_nd (m_right_nd (m_right_nd (m_right_lf ⟨1, dX9_looked_0, rfl, rfl, rfl⟩) (m_right_lf ⟨3, dX9_looked_1, rfl, rfl, 9, 0, rfl, Or.inl ⟨(RX9, TX9, 10), rfl, by decide, wd_348⟩⟩)) (m_right_nd (m_right_lf ⟨3, dX9_looked_4, rfl, rfl, 7, 0, rfl, Or.inl ⟨(RX7, TX7, 16), rfl, by decide, wd_97⟩⟩) (m_right_nd (m_right_lf ⟨3, dX9_looked_7, rfl, rfl, 13, rfl, by decide⟩) (m_right_lf ⟨2, dX9_looked_10, rfl, rfl, by decide +kernel⟩)))) (m_right_nd (m_right_nd (m_right_lf ⟨1, dX9_looked_12, rfl, 0, .int, rfl, rfl, Or.inl ⟨rfl, rfl⟩⟩) (m_right_nd (m_right_lf ⟨1, dX9_looked_13, rfl, rfl, rfl⟩) (m_right_lf ⟨3, dX9_looked_14, rfl, rfl, 9, 2, rfl, Or.inl ⟨(RX9, TX9, 10), rfl, by decide, wd_350⟩⟩))) (m_right_nd (m_right_lf ⟨1, dX9_looked_17, rfl, rfl, rfl⟩) (m_right_nd (m_right_lf ⟨3, dX9_looked_18, rfl, rfl, 9, 0, rfl, Or.inl ⟨(RX9, TX9, 10), rfl, by decide, wd_348⟩⟩) (m_right_lf ⟨3, dX9_looked_21, rfl, rfl, 55, 1, 7, (yX7_becomes, cX7_becomes, 2, none), rfl, me_X7_becomes, mc_X7_becomes, Or.inl ⟨(RX7, TX7, 16), rfl, rfl⟩, wd_747, wd_748, wd_749, wd_63⟩))))) (m_right_nd (m_right_nd (m_right_nd (m_right_lf ⟨1, dX9_looked_24, rfl, rfl, by decide +kernel⟩) (m_right_nd (m_right_lf ⟨1, dX9_looked_25, rfl, rfl, rfl⟩) (m_right_lf ⟨1, dX9_looked_26, rfl, rfl, rfl⟩))) (m_right_nd (m_right_lf ⟨1, dX9_looked_27, rfl, rfl, rfl⟩) (m_right_nd (m_right_lf ⟨3, dX9_looked_28, rfl, rfl, 9, 0, rfl, Or.inl ⟨(RX9, TX9, 10), rfl, by decide, wd_348⟩⟩) (m_right_lf ⟨3, dX9_looked_31, rfl, rfl, 7, 14, rfl, Or.inl ⟨(RX7, TX7, 16), rfl, by decide, wd_133⟩⟩)))) (m_right_nd (m_right_nd (m_right_lf ⟨3, dX9_looked_34, rfl, rfl, 87, rfl, by decide⟩) (m_right_nd (m_right_lf ⟨1, dX9_looked_37, rfl, rfl, rfl⟩) (m_right_lf ⟨1, dX9_looked_38, rfl, rfl, rfl⟩))) (m_right_nd (m_right_lf ⟨3, dX9_looked_39, rfl, rfl, 9, 0, rfl, Or.inl ⟨(RX9, TX9, 10), rfl, by decide, wd_348⟩⟩) (m_right_nd (m_right_lf ⟨3, dX9_looked_42, rfl, rfl, 7, 12, rfl, Or.inl ⟨(RX7, TX7, 16), rfl, by decide, wd_129⟩⟩) (m_right_lf ⟨3, dX9_looked_45, rfl, rfl, 50, rfl, by decide⟩)))))) (m_right_nd (m_right_nd (m_right_nd (m_right_nd (m_right_lf ⟨1, dX9_looked_48, rfl, rfl, rfl⟩) (m_right_lf ⟨1, dX9_looked_49, rfl, 0, .int, rfl, rfl, Or.inl ⟨rfl, rfl⟩⟩)) (m_right_nd (m_right_lf ⟨1, dX9_looked_50, rfl, rfl, rfl⟩) (m_right_nd (m_right_lf ⟨3, dX9_looked_51, rfl, rfl, 9, 2, rfl, Or.inl ⟨(RX9, TX9, 10), rfl, by decide, wd_350⟩⟩) (m_right_lf ⟨1, dX9_looked_54, rfl, rfl, rfl⟩)))) (m_right_nd (m_right_nd (m_right_lf ⟨3, dX9_looked_55, rfl, rfl, 69, 1, 7, (yX7_gameOfBook, cX7_gameOfBook, 2, none), rfl, me_X7_gameOfBook, mc_X7_gameOfBook, Or.inl ⟨(RX7, TX7, 16), rfl, rfl⟩, wd_782, wd_783, wd_784, wd_63⟩) (m_right_nd (m_right_lf ⟨1, dX9_looked_58, rfl, rfl, rfl⟩) (m_right_lf ⟨3, dX9_looked_59, rfl, rfl, 9, 2, rfl, Or.inl ⟨(RX9, TX9, 10), rfl, by decide, wd_350⟩⟩))) (m_right_nd (m_right_lf ⟨3, dX9_looked_62, rfl, rfl, 7, 3, rfl, Or.inl ⟨(RX7, TX7, 16), rfl, by decide, wd_107⟩⟩) (m_right_nd (m_right_lf ⟨1, dX9_looked_65, rfl, rfl, by decide +kernel⟩) (m_right_lf ⟨1, dX9_looked_66, rfl, rfl⟩))))) (m_right_nd (m_right_nd (m_right_nd (m_right_lf ⟨1, dX9_looked_67, rfl, rfl, rfl⟩) (m_right_nd (m_right_lf ⟨3, dX9_looked_68, rfl, rfl, 9, 0, rfl, Or.inl ⟨(RX9, TX9, 10), rfl, by decide, wd_348⟩⟩) (m_right_lf ⟨3, dX9_looked_71, rfl, rfl, 7, 13, rfl, Or.inl ⟨(RX7, TX7, 16), rfl, by decide, wd_131⟩⟩))) (m_right_nd (m_right_lf ⟨1, dX9_looked_74, rfl, rfl, rfl⟩) (m_right_nd (m_right_lf ⟨1, dX9_looked_75, rfl, rfl⟩) (m_right_lf ⟨3, dX9_looked_76, rfl, rfl, 81, rfl, by decide⟩)))) (m_right_nd (m_right_nd (m_right_lf ⟨1, dX9_looked_79, rfl, rfl, rfl⟩) (m_right_nd (m_right_lf ⟨1, dX9_looked_80, rfl, 0, .int, rfl, rfl, Or.inl ⟨rfl, rfl⟩⟩) (m_right_lf ⟨3, dX9_looked_81, rfl, rfl, rfl, by decide +kernel⟩))) (m_right_nd (m_right_lf ⟨3, dX9_looked_84, rfl, 26, rfl, by decide⟩) (m_right_nd (m_right_lf ⟨2, dX9_looked_87, rfl, rfl, by decide +kernel⟩) (m_right_lf ⟨1, dX9_looked_89, rfl, 0, .int, rfl, rfl, Or.inl ⟨rfl, rfl⟩⟩))))))
theorem dX9_act_0 : decode cX9_act 0 = .ok (.aload_n 0, 1) := by decide +kernel
theorem dX9_act_1 : decode cX9_act 1 = .ok (.getfield 62, 3) := by decide +kernel
theorem dX9_act_4 : decode cX9_act 4 = .ok (.invokevirtual 247, 3) := by decide +kernel
theorem dX9_act_7 : decode cX9_act 7 = .ok (.aload_n 0, 1) := by decide +kernel
theorem dX9_act_8 : decode cX9_act 8 = .ok (.iload_n 1, 1) := by decide +kernel
theorem dX9_act_9 : decode cX9_act 9 = .ok (.invokevirtual 104, 3) := by decide +kernel
theorem dX9_act_12 : decode cX9_act 12 = .ok (.ifCond .eq 5, 3) := by decide +kernel
theorem dX9_act_15 : decode cX9_act 15 = .ok (.iconst 0, 1) := by decide +kernel
theorem dX9_act_16 : decode cX9_act 16 = .ok (.ireturn, 1) := by decide +kernel
theorem dX9_act_17 : decode cX9_act 17 = .ok (.aload_n 0, 1) := by decide +kernel
theorem dX9_act_18 : decode cX9_act 18 = .ok (.getfield 62, 3) := by decide +kernel
theorem dX9_act_21 : decode cX9_act 21 = .ok (.iload_n 2, 1) := by decide +kernel
theorem dX9_act_22 : decode cX9_act 22 = .ok (.iload_n 3, 1) := by decide +kernel
theorem dX9_act_23 : decode cX9_act 23 = .ok (.aload_n 0, 1) := by decide +kernel
theorem dX9_act_24 : decode cX9_act 24 = .ok (.getfield 12, 3) := by decide +kernel
theorem dX9_act_27 : decode cX9_act 27 = .ok (.getfield 107, 3) := by decide +kernel
theorem dX9_act_30 : decode cX9_act 30 = .ok (.iload_n 1, 1) := by decide +kernel
theorem dX9_act_31 : decode cX9_act 31 = .ok (.iaload, 1) := by decide +kernel
theorem dX9_act_32 : decode cX9_act 32 = .ok (.iload_n 1, 1) := by decide +kernel
theorem dX9_act_33 : decode cX9_act 33 = .ok (.aload_n 0, 1) := by decide +kernel
theorem dX9_act_34 : decode cX9_act 34 = .ok (.getfield 12, 3) := by decide +kernel
theorem dX9_act_37 : decode cX9_act 37 = .ok (.getfield 110, 3) := by decide +kernel
theorem dX9_act_40 : decode cX9_act 40 = .ok (.iload_n 1, 1) := by decide +kernel
theorem dX9_act_41 : decode cX9_act 41 = .ok (.iaload, 1) := by decide +kernel
theorem dX9_act_42 : decode cX9_act 42 = .ok (.invokevirtual 250, 3) := by decide +kernel
theorem dX9_act_45 : decode cX9_act 45 = .ok (.ireturn, 1) := by decide +kernel
set_option maxRecDepth 20000 in
theorem r_X9_act : m_Right (yX9_act, cX9_act, 4, (some .int)) q_X9_act := m_right_nd (m_right_nd (m_right_nd (m_right_nd (m_right_lf ⟨1, dX9_act_0, rfl, rfl, rfl⟩) (m_right_nd (m_right_lf ⟨3, dX9_act_1, rfl, rfl, 9, 8, rfl, Or.inl ⟨(RX9, TX9, 10), rfl, by decide, wd_356⟩⟩) (m_right_lf ⟨3, dX9_act_4, rfl, rfl, 1, 0, 0, (yX0_forget, cX0_forget, 1, none), rfl, me_X0_forget, mc_X0_forget, Or.inl ⟨(RX0, TX0, 5), rfl, rfl⟩, wd_803, wd_804, wd_805, wd_70⟩))) (m_right_nd (m_right_lf ⟨1, dX9_act_7, rfl, rfl, rfl⟩) (m_right_nd (m_right_lf ⟨1, dX9_act_8, rfl, rfl, rfl⟩) (m_right_lf ⟨3, dX9_act_9, rfl, rfl, 108, 1, 9, (yX9_isNobody, cX9_isNobody, 2, (some .boolean)), rfl, me_X9_isNobody, mc_X9_isNobody, Or.inl ⟨(RX9, TX9, 10), rfl, rfl⟩, wd_481, wd_483, wd_9, wd_62⟩)))) (m_right_nd (m_right_nd (m_right_lf ⟨3, dX9_act_12, rfl, rfl, 17, rfl, by decide⟩) (m_right_nd (m_right_lf ⟨1, dX9_act_15, rfl, rfl, by decide +kernel⟩) (m_right_lf ⟨1, dX9_act_16, rfl, 0, .int, rfl, rfl, Or.inl ⟨rfl, rfl⟩⟩))) (m_right_nd (m_right_nd (m_right_lf ⟨1, dX9_act_17, rfl, rfl, rfl⟩) (m_right_lf ⟨3, dX9_act_18, rfl, rfl, 9, 8, rfl, Or.inl ⟨(RX9, TX9, 10), rfl, by decide, wd_356⟩⟩)) (m_right_nd (m_right_lf ⟨1, dX9_act_21, rfl, rfl, rfl⟩) (m_right_lf ⟨1, dX9_act_22, rfl, rfl, rfl⟩))))) (m_right_nd (m_right_nd (m_right_nd (m_right_lf ⟨1, dX9_act_23, rfl, rfl, rfl⟩) (m_right_nd (m_right_lf ⟨3, dX9_act_24, rfl, rfl, 9, 0, rfl, Or.inl ⟨(RX9, TX9, 10), rfl, by decide, wd_348⟩⟩) (m_right_lf ⟨3, dX9_act_27, rfl, rfl, 7, 1, rfl, Or.inl ⟨(RX7, TX7, 16), rfl, by decide, wd_99⟩⟩))) (m_right_nd (m_right_lf ⟨1, dX9_act_30, rfl, rfl, rfl⟩) (m_right_nd (m_right_lf ⟨1, dX9_act_31, rfl, rfl⟩) (m_right_lf ⟨1, dX9_act_32, rfl, rfl, rfl⟩)))) (m_right_nd (m_right_nd (m_right_lf ⟨1, dX9_act_33, rfl, rfl, rfl⟩) (m_right_nd (m_right_lf ⟨3, dX9_act_34, rfl, rfl, 9, 0, rfl, Or.inl ⟨(RX9, TX9, 10), rfl, by decide, wd_348⟩⟩) (m_right_lf ⟨3, dX9_act_37, rfl, rfl, 7, 2, rfl, Or.inl ⟨(RX7, TX7, 16), rfl, by decide, wd_101⟩⟩))) (m_right_nd (m_right_nd (m_right_lf ⟨1, dX9_act_40, rfl, rfl, rfl⟩) (m_right_lf ⟨1, dX9_act_41, rfl, rfl⟩)) (m_right_nd (m_right_lf ⟨3, dX9_act_42, rfl, rfl, 3, 5, 0, (yX0_does, cX0_does, 6, (some .int)), rfl, me_X0_does, mc_X0_does, Or.inl ⟨(RX0, TX0, 5), rfl, rfl⟩, wd_807, wd_808, wd_809, wd_70⟩) (m_right_lf ⟨1, dX9_act_45, rfl, 0, .int, rfl, rfl, Or.inl ⟨rfl, rfl⟩⟩)))))
theorem dX9_trace_0 : decode cX9_trace 0 = .ok (.iload_n 1, 1) := by decide +kernel
theorem dX9_trace_1 : decode cX9_trace 1 = .ok (.ifCond .lt 14, 3) := by decide +kernel
theorem dX9_trace_4 : decode cX9_trace 4 = .ok (.iload_n 1, 1) := by decide +kernel
theorem dX9_trace_5 : decode cX9_trace 5 = .ok (.aload_n 0, 1) := by decide +kernel
theorem dX9_trace_6 : decode cX9_trace 6 = .ok (.getfield 62, 3) := by decide +kernel
theorem dX9_trace_9 : decode cX9_trace 9 = .ok (.invokevirtual 253, 3) := by decide +kernel
theorem dX9_trace_12 : decode cX9_trace 12 = .ok (.if_icmp .lt 7, 3) := by decide +kernel
theorem dX9_trace_15 : decode cX9_trace 15 = .ok (.iconst (-1), 1) := by decide +kernel
theorem dX9_trace_16 : decode cX9_trace 16 = .ok (.goto 12, 3) := by decide +kernel
theorem dX9_trace_19 : decode cX9_trace 19 = .ok (.aload_n 0, 1) := by decide +kernel
theorem dX9_trace_20 : decode cX9_trace 20 = .ok (.getfield 62, 3) := by decide +kernel
theorem dX9_trace_23 : decode cX9_trace 23 = .ok (.getfield 256, 3) := by decide +kernel
theorem dX9_trace_26 : decode cX9_trace 26 = .ok (.iload_n 1, 1) := by decide +kernel
theorem dX9_trace_27 : decode cX9_trace 27 = .ok (.iaload, 1) := by decide +kernel
theorem dX9_trace_28 : decode cX9_trace 28 = .ok (.ireturn, 1) := by decide +kernel
set_option maxRecDepth 20000 in
theorem r_X9_trace : m_Right (yX9_trace, cX9_trace, 2, (some .int)) q_X9_trace := m_right_nd (m_right_nd (m_right_nd (m_right_lf ⟨1, dX9_trace_0, rfl, rfl, rfl⟩) (m_right_nd (m_right_lf ⟨3, dX9_trace_1, rfl, rfl, 15, rfl, by decide⟩) (m_right_lf ⟨1, dX9_trace_4, rfl, rfl, rfl⟩))) (m_right_nd (m_right_nd (m_right_lf ⟨1, dX9_trace_5, rfl, rfl, rfl⟩) (m_right_lf ⟨3, dX9_trace_6, rfl, rfl, 9, 8, rfl, Or.inl ⟨(RX9, TX9, 10), rfl, by decide, wd_356⟩⟩)) (m_right_nd (m_right_lf ⟨3, dX9_trace_9, rfl, rfl, 2, 0, 0, (yX0_kept, cX0_kept, 1, (some .int)), rfl, me_X0_kept, mc_X0_kept, Or.inl ⟨(RX0, TX0, 5), rfl, rfl⟩, wd_836, wd_837, wd_838, wd_70⟩) (m_right_lf ⟨3, dX9_trace_12, rfl, rfl, 19, rfl, by decide⟩)))) (m_right_nd (m_right_nd (m_right_nd (m_right_lf ⟨1, dX9_trace_15, rfl, rfl, by decide +kernel⟩) (m_right_lf ⟨3, dX9_trace_16, rfl, 28, rfl, by decide⟩)) (m_right_nd (m_right_lf ⟨1, dX9_trace_19, rfl, rfl, rfl⟩) (m_right_lf ⟨3, dX9_trace_20, rfl, rfl, 9, 8, rfl, Or.inl ⟨(RX9, TX9, 10), rfl, by decide, wd_356⟩⟩))) (m_right_nd (m_right_nd (m_right_lf ⟨3, dX9_trace_23, rfl, rfl, 0, 0, rfl, Or.inl ⟨(RX0, TX0, 5), rfl, by decide, wd_331⟩⟩) (m_right_lf ⟨1, dX9_trace_26, rfl, rfl, rfl⟩)) (m_right_nd (m_right_lf ⟨1, dX9_trace_27, rfl, rfl⟩) (m_right_lf ⟨1, dX9_trace_28, rfl, 0, .int, rfl, rfl, Or.inl ⟨rfl, rfl⟩⟩))))
theorem dX9_as_0 : decode cX9_as 0 = .ok (.aload_n 0, 1) := by decide +kernel
theorem dX9_as_1 : decode cX9_as 1 = .ok (.iload_n 1, 1) := by decide +kernel
theorem dX9_as_2 : decode cX9_as 2 = .ok (.invokevirtual 104, 3) := by decide +kernel
theorem dX9_as_5 : decode cX9_as 5 = .ok (.ifCond .ne 10, 3) := by decide +kernel
theorem dX9_as_8 : decode cX9_as 8 = .ok (.iload_n 2, 1) := by decide +kernel
theorem dX9_as_9 : decode cX9_as 9 = .ok (.invokestatic 93, 3) := by decide +kernel
theorem dX9_as_12 : decode cX9_as 12 = .ok (.ifCond .eq 5, 3) := by decide +kernel
theorem dX9_as_15 : decode cX9_as 15 = .ok (.iconst (-1), 1) := by decide +kernel
theorem dX9_as_16 : decode cX9_as 16 = .ok (.ireturn, 1) := by decide +kernel
theorem dX9_as_17 : decode cX9_as 17 = .ok (.aload_n 0, 1) := by decide +kernel
theorem dX9_as_18 : decode cX9_as 18 = .ok (.getfield 12, 3) := by decide +kernel
theorem dX9_as_21 : decode cX9_as 21 = .ok (.getfield 107, 3) := by decide +kernel
theorem dX9_as_24 : decode cX9_as 24 = .ok (.iload_n 1, 1) := by decide +kernel
theorem dX9_as_25 : decode cX9_as 25 = .ok (.iaload, 1) := by decide +kernel
theorem dX9_as_26 : decode cX9_as 26 = .ok (.iload_n 2, 1) := by decide +kernel
theorem dX9_as_27 : decode cX9_as 27 = .ok (.invokestatic 259, 3) := by decide +kernel
theorem dX9_as_30 : decode cX9_as 30 = .ok (.ifCond .eq 15, 3) := by decide +kernel
theorem dX9_as_33 : decode cX9_as 33 = .ok (.aload_n 0, 1) := by decide +kernel
theorem dX9_as_34 : decode cX9_as 34 = .ok (.getfield 12, 3) := by decide +kernel
theorem dX9_as_37 : decode cX9_as 37 = .ok (.getfield 110, 3) := by decide +kernel
theorem dX9_as_40 : decode cX9_as 40 = .ok (.iload_n 1, 1) := by decide +kernel
theorem dX9_as_41 : decode cX9_as 41 = .ok (.iaload, 1) := by decide +kernel
theorem dX9_as_42 : decode cX9_as 42 = .ok (.goto 5, 3) := by decide +kernel
theorem dX9_as_45 : decode cX9_as 45 = .ok (.bipush (-6), 2) := by decide +kernel
theorem dX9_as_47 : decode cX9_as 47 = .ok (.ireturn, 1) := by decide +kernel
set_option maxRecDepth 20000 in
theorem r_X9_as : m_Right (yX9_as, cX9_as, 3, (some .int)) q_X9_as := m_right_nd (m_right_nd (m_right_nd (m_right_nd (m_right_lf ⟨1, dX9_as_0, rfl, rfl, rfl⟩) (m_right_nd (m_right_lf ⟨1, dX9_as_1, rfl, rfl, rfl⟩) (m_right_lf ⟨3, dX9_as_2, rfl, rfl, 108, 1, 9, (yX9_isNobody, cX9_isNobody, 2, (some .boolean)), rfl, me_X9_isNobody, mc_X9_isNobody, Or.inl ⟨(RX9, TX9, 10), rfl, rfl⟩, wd_481, wd_483, wd_9, wd_62⟩))) (m_right_nd (m_right_lf ⟨3, dX9_as_5, rfl, rfl, 15, rfl, by decide⟩) (m_right_nd (m_right_lf ⟨1, dX9_as_8, rfl, rfl, rfl⟩) (m_right_lf ⟨3, dX9_as_9, rfl, rfl, Or.inr (Or.inr ⟨111, 1, (yX9_isNoKind, cX9_isNoKind, 1, (some .boolean)), rfl, me_X9_isNoKind, mc_X9_isNoKind, wd_470, wd_471, wd_62⟩)⟩)))) (m_right_nd (m_right_nd (m_right_lf ⟨3, dX9_as_12, rfl, rfl, 17, rfl, by decide⟩) (m_right_nd (m_right_lf ⟨1, dX9_as_15, rfl, rfl, by decide +kernel⟩) (m_right_lf ⟨1, dX9_as_16, rfl, 0, .int, rfl, rfl, Or.inl ⟨rfl, rfl⟩⟩))) (m_right_nd (m_right_lf ⟨1, dX9_as_17, rfl, rfl, rfl⟩) (m_right_nd (m_right_lf ⟨3, dX9_as_18, rfl, rfl, 9, 0, rfl, Or.inl ⟨(RX9, TX9, 10), rfl, by decide, wd_348⟩⟩) (m_right_lf ⟨3, dX9_as_21, rfl, rfl, 7, 1, rfl, Or.inl ⟨(RX7, TX7, 16), rfl, by decide, wd_99⟩⟩))))) (m_right_nd (m_right_nd (m_right_nd (m_right_lf ⟨1, dX9_as_24, rfl, rfl, rfl⟩) (m_right_nd (m_right_lf ⟨1, dX9_as_25, rfl, rfl⟩) (m_right_lf ⟨1, dX9_as_26, rfl, rfl, rfl⟩))) (m_right_nd (m_right_lf ⟨3, dX9_as_27, rfl, rfl, Or.inr (Or.inr ⟨114, 2, (yX9_isKind, cX9_isKind, 4, (some .boolean)), rfl, me_X9_isKind, mc_X9_isKind, wd_845, wd_846, wd_62⟩)⟩) (m_right_nd (m_right_lf ⟨3, dX9_as_30, rfl, rfl, 45, rfl, by decide⟩) (m_right_lf ⟨1, dX9_as_33, rfl, rfl, rfl⟩)))) (m_right_nd (m_right_nd (m_right_lf ⟨3, dX9_as_34, rfl, rfl, 9, 0, rfl, Or.inl ⟨(RX9, TX9, 10), rfl, by decide, wd_348⟩⟩) (m_right_nd (m_right_lf ⟨3, dX9_as_37, rfl, rfl, 7, 2, rfl, Or.inl ⟨(RX7, TX7, 16), rfl, by decide, wd_101⟩⟩) (m_right_lf ⟨1, dX9_as_40, rfl, rfl, rfl⟩))) (m_right_nd (m_right_nd (m_right_lf ⟨1, dX9_as_41, rfl, rfl⟩) (m_right_lf ⟨3, dX9_as_42, rfl, 47, rfl, by decide⟩)) (m_right_nd (m_right_lf ⟨2, dX9_as_45, rfl, rfl, by decide +kernel⟩) (m_right_lf ⟨1, dX9_as_47, rfl, 0, .int, rfl, rfl, Or.inl ⟨rfl, rfl⟩⟩)))))
theorem dX9_image_0 : decode cX9_image 0 = .ok (.aload_n 0, 1) := by decide +kernel
theorem dX9_image_1 : decode cX9_image 1 = .ok (.getfield 18, 3) := by decide +kernel
theorem dX9_image_4 : decode cX9_image 4 = .ok (.aload_n 0, 1) := by decide +kernel
theorem dX9_image_5 : decode cX9_image 5 = .ok (.getfield 12, 3) := by decide +kernel
theorem dX9_image_8 : decode cX9_image 8 = .ok (.invokevirtual 217, 3) := by decide +kernel
theorem dX9_image_11 : decode cX9_image 11 = .ok (.aload_n 0, 1) := by decide +kernel
theorem dX9_image_12 : decode cX9_image 12 = .ok (.iconst 1, 1) := by decide +kernel
theorem dX9_image_13 : decode cX9_image 13 = .ok (.putfield 262, 3) := by decide +kernel
theorem dX9_image_16 : decode cX9_image 16 = .ok (.aload_n 0, 1) := by decide +kernel
theorem dX9_image_17 : decode cX9_image 17 = .ok (.getfield 12, 3) := by decide +kernel
theorem dX9_image_20 : decode cX9_image 20 = .ok (.getfield 97, 3) := by decide +kernel
theorem dX9_image_23 : decode cX9_image 23 = .ok (.ireturn, 1) := by decide +kernel
set_option maxRecDepth 20000 in
theorem r_X9_image : m_Right (yX9_image, cX9_image, 1, (some .int)) q_X9_image := m_right_nd (m_right_nd (m_right_nd (m_right_lf ⟨1, dX9_image_0, rfl, rfl, rfl⟩) (m_right_nd (m_right_lf ⟨3, dX9_image_1, rfl, rfl, 9, 1, rfl, Or.inl ⟨(RX9, TX9, 10), rfl, by decide, wd_349⟩⟩) (m_right_lf ⟨1, dX9_image_4, rfl, rfl, rfl⟩))) (m_right_nd (m_right_lf ⟨3, dX9_image_5, rfl, rfl, 9, 0, rfl, Or.inl ⟨(RX9, TX9, 10), rfl, by decide, wd_348⟩⟩) (m_right_nd (m_right_lf ⟨3, dX9_image_8, rfl, rfl, 55, 1, 7, (yX7_becomes, cX7_becomes, 2, none), rfl, me_X7_becomes, mc_X7_becomes, Or.inl ⟨(RX7, TX7, 16), rfl, rfl⟩, wd_747, wd_748, wd_749, wd_63⟩) (m_right_lf ⟨1, dX9_image_11, rfl, rfl, rfl⟩)))) (m_right_nd (m_right_nd (m_right_lf ⟨1, dX9_image_12, rfl, rfl, by decide +kernel⟩) (m_right_nd (m_right_lf ⟨3, dX9_image_13, rfl, rfl, 9, 9, 2, (RX9, TX9, 10), rfl, rfl, by decide, wd_357, Or.inl rfl, tyX9 9, tyX9_ok 9 (by decide), Or.inr (Or.inr (Or.inl ⟨rfl, rfl⟩))⟩) (m_right_lf ⟨1, dX9_image_16, rfl, rfl, rfl⟩))) (m_right_nd (m_right_lf ⟨3, dX9_image_17, rfl, rfl, 9, 0, rfl, Or.inl ⟨(RX9, TX9, 10), rfl, by decide, wd_348⟩⟩) (m_right_nd (m_right_lf ⟨3, dX9_image_20, rfl, rfl, 7, 0, rfl, Or.inl ⟨(RX7, TX7, 16), rfl, by decide, wd_97⟩⟩) (m_right_lf ⟨1, dX9_image_23, rfl, 0, .int, rfl, rfl, Or.inl ⟨rfl, rfl⟩⟩))))
theorem dX9_undo_0 : decode cX9_undo 0 = .ok (.aload_n 0, 1) := by decide +kernel
theorem dX9_undo_1 : decode cX9_undo 1 = .ok (.getfield 262, 3) := by decide +kernel
theorem dX9_undo_4 : decode cX9_undo 4 = .ok (.ifCond .ne 6, 3) := by decide +kernel
theorem dX9_undo_7 : decode cX9_undo 7 = .ok (.bipush (-3), 2) := by decide +kernel
theorem dX9_undo_9 : decode cX9_undo 9 = .ok (.ireturn, 1) := by decide +kernel
theorem dX9_undo_10 : decode cX9_undo 10 = .ok (.aload_n 0, 1) := by decide +kernel
theorem dX9_undo_11 : decode cX9_undo 11 = .ok (.getfield 12, 3) := by decide +kernel
theorem dX9_undo_14 : decode cX9_undo 14 = .ok (.aload_n 0, 1) := by decide +kernel
theorem dX9_undo_15 : decode cX9_undo 15 = .ok (.getfield 18, 3) := by decide +kernel
theorem dX9_undo_18 : decode cX9_undo 18 = .ok (.invokevirtual 217, 3) := by decide +kernel
theorem dX9_undo_21 : decode cX9_undo 21 = .ok (.aload_n 0, 1) := by decide +kernel
theorem dX9_undo_22 : decode cX9_undo 22 = .ok (.getfield 12, 3) := by decide +kernel
theorem dX9_undo_25 : decode cX9_undo 25 = .ok (.getfield 97, 3) := by decide +kernel
theorem dX9_undo_28 : decode cX9_undo 28 = .ok (.ireturn, 1) := by decide +kernel
set_option maxRecDepth 20000 in
theorem r_X9_undo : m_Right (yX9_undo, cX9_undo, 1, (some .int)) q_X9_undo := m_right_nd (m_right_nd (m_right_nd (m_right_lf ⟨1, dX9_undo_0, rfl, rfl, rfl⟩) (m_right_nd (m_right_lf ⟨3, dX9_undo_1, rfl, rfl, 9, 9, rfl, Or.inl ⟨(RX9, TX9, 10), rfl, by decide, wd_357⟩⟩) (m_right_lf ⟨3, dX9_undo_4, rfl, rfl, 10, rfl, by decide⟩))) (m_right_nd (m_right_nd (m_right_lf ⟨2, dX9_undo_7, rfl, rfl, by decide +kernel⟩) (m_right_lf ⟨1, dX9_undo_9, rfl, 0, .int, rfl, rfl, Or.inl ⟨rfl, rfl⟩⟩)) (m_right_nd (m_right_lf ⟨1, dX9_undo_10, rfl, rfl, rfl⟩) (m_right_lf ⟨3, dX9_undo_11, rfl, rfl, 9, 0, rfl, Or.inl ⟨(RX9, TX9, 10), rfl, by decide, wd_348⟩⟩)))) (m_right_nd (m_right_nd (m_right_lf ⟨1, dX9_undo_14, rfl, rfl, rfl⟩) (m_right_nd (m_right_lf ⟨3, dX9_undo_15, rfl, rfl, 9, 1, rfl, Or.inl ⟨(RX9, TX9, 10), rfl, by decide, wd_349⟩⟩) (m_right_lf ⟨3, dX9_undo_18, rfl, rfl, 55, 1, 7, (yX7_becomes, cX7_becomes, 2, none), rfl, me_X7_becomes, mc_X7_becomes, Or.inl ⟨(RX7, TX7, 16), rfl, rfl⟩, wd_747, wd_748, wd_749, wd_63⟩))) (m_right_nd (m_right_nd (m_right_lf ⟨1, dX9_undo_21, rfl, rfl, rfl⟩) (m_right_lf ⟨3, dX9_undo_22, rfl, rfl, 9, 0, rfl, Or.inl ⟨(RX9, TX9, 10), rfl, by decide, wd_348⟩⟩)) (m_right_nd (m_right_lf ⟨3, dX9_undo_25, rfl, rfl, 7, 0, rfl, Or.inl ⟨(RX7, TX7, 16), rfl, by decide, wd_97⟩⟩) (m_right_lf ⟨1, dX9_undo_28, rfl, 0, .int, rfl, rfl, Or.inl ⟨rfl, rfl⟩⟩))))
theorem dX9_count_0 : decode cX9_count 0 = .ok (.iload_n 1, 1) := by decide +kernel
theorem dX9_count_1 : decode cX9_count 1 = .ok (.tableswitch 87 0 5 #[39, 47, 55, 63, 71, 79], 39) := by decide +kernel
theorem dX9_count_40 : decode cX9_count 40 = .ok (.aload_n 0, 1) := by decide +kernel
theorem dX9_count_41 : decode cX9_count 41 = .ok (.getfield 12, 3) := by decide +kernel
theorem dX9_count_44 : decode cX9_count 44 = .ok (.getfield 97, 3) := by decide +kernel
theorem dX9_count_47 : decode cX9_count 47 = .ok (.ireturn, 1) := by decide +kernel
theorem dX9_count_48 : decode cX9_count 48 = .ok (.aload_n 0, 1) := by decide +kernel
theorem dX9_count_49 : decode cX9_count 49 = .ok (.getfield 12, 3) := by decide +kernel
theorem dX9_count_52 : decode cX9_count 52 = .ok (.getfield 74, 3) := by decide +kernel
theorem dX9_count_55 : decode cX9_count 55 = .ok (.ireturn, 1) := by decide +kernel
theorem dX9_count_56 : decode cX9_count 56 = .ok (.aload_n 0, 1) := by decide +kernel
theorem dX9_count_57 : decode cX9_count 57 = .ok (.getfield 12, 3) := by decide +kernel
theorem dX9_count_60 : decode cX9_count 60 = .ok (.getfield 225, 3) := by decide +kernel
theorem dX9_count_63 : decode cX9_count 63 = .ok (.ireturn, 1) := by decide +kernel
theorem dX9_count_64 : decode cX9_count 64 = .ok (.aload_n 0, 1) := by decide +kernel
theorem dX9_count_65 : decode cX9_count 65 = .ok (.getfield 12, 3) := by decide +kernel
theorem dX9_count_68 : decode cX9_count 68 = .ok (.getfield 241, 3) := by decide +kernel
theorem dX9_count_71 : decode cX9_count 71 = .ok (.ireturn, 1) := by decide +kernel
theorem dX9_count_72 : decode cX9_count 72 = .ok (.aload_n 0, 1) := by decide +kernel
theorem dX9_count_73 : decode cX9_count 73 = .ok (.getfield 12, 3) := by decide +kernel
theorem dX9_count_76 : decode cX9_count 76 = .ok (.getfield 66, 3) := by decide +kernel
theorem dX9_count_79 : decode cX9_count 79 = .ok (.ireturn, 1) := by decide +kernel
theorem dX9_count_80 : decode cX9_count 80 = .ok (.aload_n 0, 1) := by decide +kernel
theorem dX9_count_81 : decode cX9_count 81 = .ok (.getfield 62, 3) := by decide +kernel
theorem dX9_count_84 : decode cX9_count 84 = .ok (.getfield 266, 3) := by decide +kernel
theorem dX9_count_87 : decode cX9_count 87 = .ok (.ireturn, 1) := by decide +kernel
theorem dX9_count_88 : decode cX9_count 88 = .ok (.iconst (-1), 1) := by decide +kernel
theorem dX9_count_89 : decode cX9_count 89 = .ok (.ireturn, 1) := by decide +kernel
set_option maxRecDepth 20000 in
theorem r_X9_count : m_Right (yX9_count, cX9_count, 2, (some .int)) q_X9_count := m_right_nd (m_right_nd (m_right_nd (m_right_nd (m_right_lf ⟨1, dX9_count_0, rfl, rfl, rfl⟩) (m_right_nd (m_right_lf ⟨39, dX9_count_1, 88, [40, 48, 56, 64, 72, 80], rfl, by decide, by decide +kernel⟩) (m_right_lf ⟨1, dX9_count_40, rfl, rfl, rfl⟩))) (m_right_nd (m_right_nd (m_right_lf ⟨3, dX9_count_41, rfl, rfl, 9, 0, rfl, Or.inl ⟨(RX9, TX9, 10), rfl, by decide, wd_348⟩⟩) (m_right_lf ⟨3, dX9_count_44, rfl, rfl, 7, 0, rfl, Or.inl ⟨(RX7, TX7, 16), rfl, by decide, wd_97⟩⟩)) (m_right_nd (m_right_lf ⟨1, dX9_count_47, rfl, 0, .int, rfl, rfl, Or.inl ⟨rfl, rfl⟩⟩) (m_right_lf ⟨1, dX9_count_48, rfl, rfl, rfl⟩)))) (m_right_nd (m_right_nd (m_right_lf ⟨3, dX9_count_49, rfl, rfl, 9, 0, rfl, Or.inl ⟨(RX9, TX9, 10), rfl, by decide, wd_348⟩⟩) (m_right_nd (m_right_lf ⟨3, dX9_count_52, rfl, rfl, 7, 6, rfl, Or.inl ⟨(RX7, TX7, 16), rfl, by decide, wd_117⟩⟩) (m_right_lf ⟨1, dX9_count_55, rfl, 0, .int, rfl, rfl, Or.inl ⟨rfl, rfl⟩⟩))) (m_right_nd (m_right_nd (m_right_lf ⟨1, dX9_count_56, rfl, rfl, rfl⟩) (m_right_lf ⟨3, dX9_count_57, rfl, rfl, 9, 0, rfl, Or.inl ⟨(RX9, TX9, 10), rfl, by decide, wd_348⟩⟩)) (m_right_nd (m_right_lf ⟨3, dX9_count_60, rfl, rfl, 7, 12, rfl, Or.inl ⟨(RX7, TX7, 16), rfl, by decide, wd_129⟩⟩) (m_right_lf ⟨1, dX9_count_63, rfl, 0, .int, rfl, rfl, Or.inl ⟨rfl, rfl⟩⟩))))) (m_right_nd (m_right_nd (m_right_nd (m_right_lf ⟨1, dX9_count_64, rfl, rfl, rfl⟩) (m_right_nd (m_right_lf ⟨3, dX9_count_65, rfl, rfl, 9, 0, rfl, Or.inl ⟨(RX9, TX9, 10), rfl, by decide, wd_348⟩⟩) (m_right_lf ⟨3, dX9_count_68, rfl, rfl, 7, 14, rfl, Or.inl ⟨(RX7, TX7, 16), rfl, by decide, wd_133⟩⟩))) (m_right_nd (m_right_nd (m_right_lf ⟨1, dX9_count_71, rfl, 0, .int, rfl, rfl, Or.inl ⟨rfl, rfl⟩⟩) (m_right_lf ⟨1, dX9_count_72, rfl, rfl, rfl⟩)) (m_right_nd (m_right_lf ⟨3, dX9_count_73, rfl, rfl, 9, 0, rfl, Or.inl ⟨(RX9, TX9, 10), rfl, by decide, wd_348⟩⟩) (m_right_lf ⟨3, dX9_count_76, rfl, rfl, 7, 9, rfl, Or.inl ⟨(RX7, TX7, 16), rfl, by decide, wd_122⟩⟩)))) (m_right_nd (m_right_nd (m_right_lf ⟨1, dX9_count_79, rfl, 0, .int, rfl, rfl, Or.inl ⟨rfl, rfl⟩⟩) (m_right_nd (m_right_lf ⟨1, dX9_count_80, rfl, rfl, rfl⟩) (m_right_lf ⟨3, dX9_count_81, rfl, rfl, 9, 8, rfl, Or.inl ⟨(RX9, TX9, 10), rfl, by decide, wd_356⟩⟩))) (m_right_nd (m_right_nd (m_right_lf ⟨3, dX9_count_84, rfl, rfl, 0, 1, rfl, Or.inl ⟨(RX0, TX0, 5), rfl, by decide, wd_333⟩⟩) (m_right_lf ⟨1, dX9_count_87, rfl, 0, .int, rfl, rfl, Or.inl ⟨rfl, rfl⟩⟩)) (m_right_nd (m_right_lf ⟨1, dX9_count_88, rfl, rfl, by decide +kernel⟩) (m_right_lf ⟨1, dX9_count_89, rfl, 0, .int, rfl, rfl, Or.inl ⟨rfl, rfl⟩⟩)))))
theorem dX9_isNobody_0 : decode cX9_isNobody 0 = .ok (.iload_n 1, 1) := by decide +kernel
theorem dX9_isNobody_1 : decode cX9_isNobody 1 = .ok (.ifCond .lt 14, 3) := by decide +kernel
theorem dX9_isNobody_4 : decode cX9_isNobody 4 = .ok (.iload_n 1, 1) := by decide +kernel
theorem dX9_isNobody_5 : decode cX9_isNobody 5 = .ok (.aload_n 0, 1) := by decide +kernel
theorem dX9_isNobody_6 : decode cX9_isNobody 6 = .ok (.getfield 12, 3) := by decide +kernel
theorem dX9_isNobody_9 : decode cX9_isNobody 9 = .ok (.getfield 97, 3) := by decide +kernel
theorem dX9_isNobody_12 : decode cX9_isNobody 12 = .ok (.if_icmp .lt 7, 3) := by decide +kernel
theorem dX9_isNobody_15 : decode cX9_isNobody 15 = .ok (.iconst 1, 1) := by decide +kernel
theorem dX9_isNobody_16 : decode cX9_isNobody 16 = .ok (.goto 4, 3) := by decide +kernel
theorem dX9_isNobody_19 : decode cX9_isNobody 19 = .ok (.iconst 0, 1) := by decide +kernel
theorem dX9_isNobody_20 : decode cX9_isNobody 20 = .ok (.ireturn, 1) := by decide +kernel
set_option maxRecDepth 20000 in
theorem r_X9_isNobody : m_Right (yX9_isNobody, cX9_isNobody, 2, (some .boolean)) q_X9_isNobody := m_right_nd (m_right_nd (m_right_nd (m_right_lf ⟨1, dX9_isNobody_0, rfl, rfl, rfl⟩) (m_right_lf ⟨3, dX9_isNobody_1, rfl, rfl, 15, rfl, by decide⟩)) (m_right_nd (m_right_lf ⟨1, dX9_isNobody_4, rfl, rfl, rfl⟩) (m_right_nd (m_right_lf ⟨1, dX9_isNobody_5, rfl, rfl, rfl⟩) (m_right_lf ⟨3, dX9_isNobody_6, rfl, rfl, 9, 0, rfl, Or.inl ⟨(RX9, TX9, 10), rfl, by decide, wd_348⟩⟩)))) (m_right_nd (m_right_nd (m_right_lf ⟨3, dX9_isNobody_9, rfl, rfl, 7, 0, rfl, Or.inl ⟨(RX7, TX7, 16), rfl, by decide, wd_97⟩⟩) (m_right_nd (m_right_lf ⟨3, dX9_isNobody_12, rfl, rfl, 19, rfl, by decide⟩) (m_right_lf ⟨1, dX9_isNobody_15, rfl, rfl, by decide +kernel⟩))) (m_right_nd (m_right_lf ⟨3, dX9_isNobody_16, rfl, 20, rfl, by decide⟩) (m_right_nd (m_right_lf ⟨1, dX9_isNobody_19, rfl, rfl, by decide +kernel⟩) (m_right_lf ⟨1, dX9_isNobody_20, rfl, 1, .boolean, rfl, rfl, Or.inr (Or.inl ⟨rfl, rfl⟩)⟩))))
theorem dX9_refusal_0 : decode cX9_refusal 0 = .ok (.aload_n 0, 1) := by decide +kernel
theorem dX9_refusal_1 : decode cX9_refusal 1 = .ok (.iload_n 1, 1) := by decide +kernel
theorem dX9_refusal_2 : decode cX9_refusal 2 = .ok (.invokevirtual 104, 3) := by decide +kernel
theorem dX9_refusal_5 : decode cX9_refusal 5 = .ok (.ifCond .ne 11, 3) := by decide +kernel
theorem dX9_refusal_8 : decode cX9_refusal 8 = .ok (.aload_n 0, 1) := by decide +kernel
theorem dX9_refusal_9 : decode cX9_refusal 9 = .ok (.iload_n 2, 1) := by decide +kernel
theorem dX9_refusal_10 : decode cX9_refusal 10 = .ok (.invokevirtual 104, 3) := by decide +kernel
theorem dX9_refusal_13 : decode cX9_refusal 13 = .ok (.ifCond .eq 5, 3) := by decide +kernel
theorem dX9_refusal_16 : decode cX9_refusal 16 = .ok (.iconst (-1), 1) := by decide +kernel
theorem dX9_refusal_17 : decode cX9_refusal 17 = .ok (.ireturn, 1) := by decide +kernel
theorem dX9_refusal_18 : decode cX9_refusal 18 = .ok (.iload_n 1, 1) := by decide +kernel
theorem dX9_refusal_19 : decode cX9_refusal 19 = .ok (.iload_n 2, 1) := by decide +kernel
theorem dX9_refusal_20 : decode cX9_refusal 20 = .ok (.if_icmp .ne 8, 3) := by decide +kernel
theorem dX9_refusal_23 : decode cX9_refusal 23 = .ok (.bipush (-2), 2) := by decide +kernel
theorem dX9_refusal_25 : decode cX9_refusal 25 = .ok (.goto 4, 3) := by decide +kernel
theorem dX9_refusal_28 : decode cX9_refusal 28 = .ok (.iconst 0, 1) := by decide +kernel
theorem dX9_refusal_29 : decode cX9_refusal 29 = .ok (.ireturn, 1) := by decide +kernel
set_option maxRecDepth 20000 in
theorem r_X9_refusal : m_Right (yX9_refusal, cX9_refusal, 3, (some .int)) q_X9_refusal := m_right_nd (m_right_nd (m_right_nd (m_right_nd (m_right_lf ⟨1, dX9_refusal_0, rfl, rfl, rfl⟩) (m_right_lf ⟨1, dX9_refusal_1, rfl, rfl, rfl⟩)) (m_right_nd (m_right_lf ⟨3, dX9_refusal_2, rfl, rfl, 108, 1, 9, (yX9_isNobody, cX9_isNobody, 2, (some .boolean)), rfl, me_X9_isNobody, mc_X9_isNobody, Or.inl ⟨(RX9, TX9, 10), rfl, rfl⟩, wd_481, wd_483, wd_9, wd_62⟩) (m_right_lf ⟨3, dX9_refusal_5, rfl, rfl, 16, rfl, by decide⟩))) (m_right_nd (m_right_nd (m_right_lf ⟨1, dX9_refusal_8, rfl, rfl, rfl⟩) (m_right_lf ⟨1, dX9_refusal_9, rfl, rfl, rfl⟩)) (m_right_nd (m_right_lf ⟨3, dX9_refusal_10, rfl, rfl, 108, 1, 9, (yX9_isNobody, cX9_isNobody, 2, (some .boolean)), rfl, me_X9_isNobody, mc_X9_isNobody, Or.inl ⟨(RX9, TX9, 10), rfl, rfl⟩, wd_481, wd_483, wd_9, wd_62⟩) (m_right_lf ⟨3, dX9_refusal_13, rfl, rfl, 18, rfl, by decide⟩)))) (m_right_nd (m_right_nd (m_right_nd (m_right_lf ⟨1, dX9_refusal_16, rfl, rfl, by decide +kernel⟩) (m_right_lf ⟨1, dX9_refusal_17, rfl, 0, .int, rfl, rfl, Or.inl ⟨rfl, rfl⟩⟩)) (m_right_nd (m_right_lf ⟨1, dX9_refusal_18, rfl, rfl, rfl⟩) (m_right_lf ⟨1, dX9_refusal_19, rfl, rfl, rfl⟩))) (m_right_nd (m_right_nd (m_right_lf ⟨3, dX9_refusal_20, rfl, rfl, 28, rfl, by decide⟩) (m_right_lf ⟨2, dX9_refusal_23, rfl, rfl, by decide +kernel⟩)) (m_right_nd (m_right_lf ⟨3, dX9_refusal_25, rfl, 29, rfl, by decide⟩) (m_right_nd (m_right_lf ⟨1, dX9_refusal_28, rfl, rfl, by decide +kernel⟩) (m_right_lf ⟨1, dX9_refusal_29, rfl, 0, .int, rfl, rfl, Or.inl ⟨rfl, rfl⟩⟩)))))
theorem dX9_isNoSet_0 : decode cX9_isNoSet 0 = .ok (.iconst 1, 1) := by decide +kernel
theorem dX9_isNoSet_1 : decode cX9_isNoSet 1 = .ok (.aload_n 0, 1) := by decide +kernel
theorem dX9_isNoSet_2 : decode cX9_isNoSet 2 = .ok (.getfield 12, 3) := by decide +kernel
theorem dX9_isNoSet_5 : decode cX9_isNoSet 5 = .ok (.getfield 97, 3) := by decide +kernel
theorem dX9_isNoSet_8 : decode cX9_isNoSet 8 = .ok (.ishl, 1) := by decide +kernel
theorem dX9_isNoSet_9 : decode cX9_isNoSet 9 = .ok (.iconst 1, 1) := by decide +kernel
theorem dX9_isNoSet_10 : decode cX9_isNoSet 10 = .ok (.isub, 1) := by decide +kernel
theorem dX9_isNoSet_11 : decode cX9_isNoSet 11 = .ok (.istore_n 3, 1) := by decide +kernel
theorem dX9_isNoSet_12 : decode cX9_isNoSet 12 = .ok (.iload_n 2, 1) := by decide +kernel
theorem dX9_isNoSet_13 : decode cX9_isNoSet 13 = .ok (.iload_n 3, 1) := by decide +kernel
theorem dX9_isNoSet_14 : decode cX9_isNoSet 14 = .ok (.iconst (-1), 1) := by decide +kernel
theorem dX9_isNoSet_15 : decode cX9_isNoSet 15 = .ok (.ixor, 1) := by decide +kernel
theorem dX9_isNoSet_16 : decode cX9_isNoSet 16 = .ok (.iand, 1) := by decide +kernel
theorem dX9_isNoSet_17 : decode cX9_isNoSet 17 = .ok (.ifCond .ne 19, 3) := by decide +kernel
theorem dX9_isNoSet_20 : decode cX9_isNoSet 20 = .ok (.iload_n 2, 1) := by decide +kernel
theorem dX9_isNoSet_21 : decode cX9_isNoSet 21 = .ok (.iload_n 1, 1) := by decide +kernel
theorem dX9_isNoSet_22 : decode cX9_isNoSet 22 = .ok (.ishr, 1) := by decide +kernel
theorem dX9_isNoSet_23 : decode cX9_isNoSet 23 = .ok (.iconst 1, 1) := by decide +kernel
theorem dX9_isNoSet_24 : decode cX9_isNoSet 24 = .ok (.iand, 1) := by decide +kernel
theorem dX9_isNoSet_25 : decode cX9_isNoSet 25 = .ok (.ifCond .ne 11, 3) := by decide +kernel
theorem dX9_isNoSet_28 : decode cX9_isNoSet 28 = .ok (.iload_n 2, 1) := by decide +kernel
theorem dX9_isNoSet_29 : decode cX9_isNoSet 29 = .ok (.invokestatic 269, 3) := by decide +kernel
theorem dX9_isNoSet_32 : decode cX9_isNoSet 32 = .ok (.iconst 4, 1) := by decide +kernel
theorem dX9_isNoSet_33 : decode cX9_isNoSet 33 = .ok (.if_icmp .le 7, 3) := by decide +kernel
theorem dX9_isNoSet_36 : decode cX9_isNoSet 36 = .ok (.iconst 1, 1) := by decide +kernel
theorem dX9_isNoSet_37 : decode cX9_isNoSet 37 = .ok (.goto 4, 3) := by decide +kernel
theorem dX9_isNoSet_40 : decode cX9_isNoSet 40 = .ok (.iconst 0, 1) := by decide +kernel
theorem dX9_isNoSet_41 : decode cX9_isNoSet 41 = .ok (.ireturn, 1) := by decide +kernel
set_option maxRecDepth 20000 in
theorem r_X9_isNoSet : m_Right (yX9_isNoSet, cX9_isNoSet, 4, (some .boolean)) q_X9_isNoSet := m_right_nd (m_right_nd (m_right_nd (m_right_nd (m_right_lf ⟨1, dX9_isNoSet_0, rfl, rfl, by decide +kernel⟩) (m_right_nd (m_right_lf ⟨1, dX9_isNoSet_1, rfl, rfl, rfl⟩) (m_right_lf ⟨3, dX9_isNoSet_2, rfl, rfl, 9, 0, rfl, Or.inl ⟨(RX9, TX9, 10), rfl, by decide, wd_348⟩⟩))) (m_right_nd (m_right_nd (m_right_lf ⟨3, dX9_isNoSet_5, rfl, rfl, 7, 0, rfl, Or.inl ⟨(RX7, TX7, 16), rfl, by decide, wd_97⟩⟩) (m_right_lf ⟨1, dX9_isNoSet_8, rfl, rfl⟩)) (m_right_nd (m_right_lf ⟨1, dX9_isNoSet_9, rfl, rfl, by decide +kernel⟩) (m_right_lf ⟨1, dX9_isNoSet_10, rfl, rfl⟩)))) (m_right_nd (m_right_nd (m_right_lf ⟨1, dX9_isNoSet_11, rfl, rfl, rfl⟩) (m_right_nd (m_right_lf ⟨1, dX9_isNoSet_12, rfl, rfl, rfl⟩) (m_right_lf ⟨1, dX9_isNoSet_13, rfl, rfl, rfl⟩))) (m_right_nd (m_right_nd (m_right_lf ⟨1, dX9_isNoSet_14, rfl, rfl, by decide +kernel⟩) (m_right_lf ⟨1, dX9_isNoSet_15, rfl, rfl⟩)) (m_right_nd (m_right_lf ⟨1, dX9_isNoSet_16, rfl, rfl⟩) (m_right_lf ⟨3, dX9_isNoSet_17, rfl, rfl, 36, rfl, by decide⟩))))) (m_right_nd (m_right_nd (m_right_nd (m_right_lf ⟨1, dX9_isNoSet_20, rfl, rfl, rfl⟩) (m_right_nd (m_right_lf ⟨1, dX9_isNoSet_21, rfl, rfl, rfl⟩) (m_right_lf ⟨1, dX9_isNoSet_22, rfl, rfl⟩))) (m_right_nd (m_right_nd (m_right_lf ⟨1, dX9_isNoSet_23, rfl, rfl, by decide +kernel⟩) (m_right_lf ⟨1, dX9_isNoSet_24, rfl, rfl⟩)) (m_right_nd (m_right_lf ⟨3, dX9_isNoSet_25, rfl, rfl, 36, rfl, by decide⟩) (m_right_lf ⟨1, dX9_isNoSet_28, rfl, rfl, rfl⟩)))) (m_right_nd (m_right_nd (m_right_lf ⟨3, dX9_isNoSet_29, rfl, rfl, Or.inr (Or.inr ⟨197, 1, (yJ6_bitCount_0f7a4, cJ6_bitCount_0f7a4, 1, (some .int)), rfl, me_J6_bitCount_0f7a4, mc_J6_bitCount_0f7a4, wd_706, wd_707, wd_79⟩)⟩) (m_right_nd (m_right_lf ⟨1, dX9_isNoSet_32, rfl, rfl, by decide +kernel⟩) (m_right_lf ⟨3, dX9_isNoSet_33, rfl, rfl, 40, rfl, by decide⟩))) (m_right_nd (m_right_nd (m_right_lf ⟨1, dX9_isNoSet_36, rfl, rfl, by decide +kernel⟩) (m_right_lf ⟨3, dX9_isNoSet_37, rfl, 41, rfl, by decide⟩)) (m_right_nd (m_right_lf ⟨1, dX9_isNoSet_40, rfl, rfl, by decide +kernel⟩) (m_right_lf ⟨1, dX9_isNoSet_41, rfl, 1, .boolean, rfl, rfl, Or.inr (Or.inl ⟨rfl, rfl⟩)⟩)))))
theorem dX9_isNoKind_0 : decode cX9_isNoKind 0 = .ok (.iload_n 0, 1) := by decide +kernel
theorem dX9_isNoKind_1 : decode cX9_isNoKind 1 = .ok (.ifCond .lt 9, 3) := by decide +kernel
theorem dX9_isNoKind_4 : decode cX9_isNoKind 4 = .ok (.iload_n 0, 1) := by decide +kernel
theorem dX9_isNoKind_5 : decode cX9_isNoKind 5 = .ok (.bipush 7, 2) := by decide +kernel
theorem dX9_isNoKind_7 : decode cX9_isNoKind 7 = .ok (.if_icmp .lt 7, 3) := by decide +kernel
theorem dX9_isNoKind_10 : decode cX9_isNoKind 10 = .ok (.iconst 1, 1) := by decide +kernel
theorem dX9_isNoKind_11 : decode cX9_isNoKind 11 = .ok (.goto 4, 3) := by decide +kernel
theorem dX9_isNoKind_14 : decode cX9_isNoKind 14 = .ok (.iconst 0, 1) := by decide +kernel
theorem dX9_isNoKind_15 : decode cX9_isNoKind 15 = .ok (.ireturn, 1) := by decide +kernel
set_option maxRecDepth 20000 in
theorem r_X9_isNoKind : m_Right (yX9_isNoKind, cX9_isNoKind, 1, (some .boolean)) q_X9_isNoKind := m_right_nd (m_right_nd (m_right_nd (m_right_lf ⟨1, dX9_isNoKind_0, rfl, rfl, rfl⟩) (m_right_lf ⟨3, dX9_isNoKind_1, rfl, rfl, 10, rfl, by decide⟩)) (m_right_nd (m_right_lf ⟨1, dX9_isNoKind_4, rfl, rfl, rfl⟩) (m_right_lf ⟨2, dX9_isNoKind_5, rfl, rfl, by decide +kernel⟩))) (m_right_nd (m_right_nd (m_right_lf ⟨3, dX9_isNoKind_7, rfl, rfl, 14, rfl, by decide⟩) (m_right_lf ⟨1, dX9_isNoKind_10, rfl, rfl, by decide +kernel⟩)) (m_right_nd (m_right_lf ⟨3, dX9_isNoKind_11, rfl, 15, rfl, by decide⟩) (m_right_nd (m_right_lf ⟨1, dX9_isNoKind_14, rfl, rfl, by decide +kernel⟩) (m_right_lf ⟨1, dX9_isNoKind_15, rfl, 1, .boolean, rfl, rfl, Or.inr (Or.inl ⟨rfl, rfl⟩)⟩))))
theorem dX9_isNoMen_0 : decode cX9_isNoMen 0 = .ok (.iload_n 0, 1) := by decide +kernel
theorem dX9_isNoMen_1 : decode cX9_isNoMen 1 = .ok (.iconst 1, 1) := by decide +kernel
theorem dX9_isNoMen_2 : decode cX9_isNoMen 2 = .ok (.if_icmp .lt 9, 3) := by decide +kernel
theorem dX9_isNoMen_5 : decode cX9_isNoMen 5 = .ok (.iload_n 0, 1) := by decide +kernel
theorem dX9_isNoMen_6 : decode cX9_isNoMen 6 = .ok (.bipush 20, 2) := by decide +kernel
theorem dX9_isNoMen_8 : decode cX9_isNoMen 8 = .ok (.if_icmp .le 7, 3) := by decide +kernel
theorem dX9_isNoMen_11 : decode cX9_isNoMen 11 = .ok (.iconst 1, 1) := by decide +kernel
theorem dX9_isNoMen_12 : decode cX9_isNoMen 12 = .ok (.goto 4, 3) := by decide +kernel
theorem dX9_isNoMen_15 : decode cX9_isNoMen 15 = .ok (.iconst 0, 1) := by decide +kernel
theorem dX9_isNoMen_16 : decode cX9_isNoMen 16 = .ok (.ireturn, 1) := by decide +kernel
set_option maxRecDepth 20000 in
theorem r_X9_isNoMen : m_Right (yX9_isNoMen, cX9_isNoMen, 1, (some .boolean)) q_X9_isNoMen := m_right_nd (m_right_nd (m_right_nd (m_right_lf ⟨1, dX9_isNoMen_0, rfl, rfl, rfl⟩) (m_right_lf ⟨1, dX9_isNoMen_1, rfl, rfl, by decide +kernel⟩)) (m_right_nd (m_right_lf ⟨3, dX9_isNoMen_2, rfl, rfl, 11, rfl, by decide⟩) (m_right_nd (m_right_lf ⟨1, dX9_isNoMen_5, rfl, rfl, rfl⟩) (m_right_lf ⟨2, dX9_isNoMen_6, rfl, rfl, by decide +kernel⟩)))) (m_right_nd (m_right_nd (m_right_lf ⟨3, dX9_isNoMen_8, rfl, rfl, 15, rfl, by decide⟩) (m_right_lf ⟨1, dX9_isNoMen_11, rfl, rfl, by decide +kernel⟩)) (m_right_nd (m_right_lf ⟨3, dX9_isNoMen_12, rfl, 16, rfl, by decide⟩) (m_right_nd (m_right_lf ⟨1, dX9_isNoMen_15, rfl, rfl, by decide +kernel⟩) (m_right_lf ⟨1, dX9_isNoMen_16, rfl, 1, .boolean, rfl, rfl, Or.inr (Or.inl ⟨rfl, rfl⟩)⟩))))
theorem dX9_isNoPart_0 : decode cX9_isNoPart 0 = .ok (.iload_n 0, 1) := by decide +kernel
theorem dX9_isNoPart_1 : decode cX9_isNoPart 1 = .ok (.ifCond .eq 12, 3) := by decide +kernel
theorem dX9_isNoPart_4 : decode cX9_isNoPart 4 = .ok (.iload_n 0, 1) := by decide +kernel
theorem dX9_isNoPart_5 : decode cX9_isNoPart 5 = .ok (.iconst 1, 1) := by decide +kernel
theorem dX9_isNoPart_6 : decode cX9_isNoPart 6 = .ok (.if_icmp .eq 7, 3) := by decide +kernel
theorem dX9_isNoPart_9 : decode cX9_isNoPart 9 = .ok (.iconst 1, 1) := by decide +kernel
theorem dX9_isNoPart_10 : decode cX9_isNoPart 10 = .ok (.goto 4, 3) := by decide +kernel
theorem dX9_isNoPart_13 : decode cX9_isNoPart 13 = .ok (.iconst 0, 1) := by decide +kernel
theorem dX9_isNoPart_14 : decode cX9_isNoPart 14 = .ok (.ireturn, 1) := by decide +kernel
set_option maxRecDepth 20000 in
theorem r_X9_isNoPart : m_Right (yX9_isNoPart, cX9_isNoPart, 1, (some .boolean)) q_X9_isNoPart := m_right_nd (m_right_nd (m_right_nd (m_right_lf ⟨1, dX9_isNoPart_0, rfl, rfl, rfl⟩) (m_right_lf ⟨3, dX9_isNoPart_1, rfl, rfl, 13, rfl, by decide⟩)) (m_right_nd (m_right_lf ⟨1, dX9_isNoPart_4, rfl, rfl, rfl⟩) (m_right_lf ⟨1, dX9_isNoPart_5, rfl, rfl, by decide +kernel⟩))) (m_right_nd (m_right_nd (m_right_lf ⟨3, dX9_isNoPart_6, rfl, rfl, 13, rfl, by decide⟩) (m_right_lf ⟨1, dX9_isNoPart_9, rfl, rfl, by decide +kernel⟩)) (m_right_nd (m_right_lf ⟨3, dX9_isNoPart_10, rfl, 14, rfl, by decide⟩) (m_right_nd (m_right_lf ⟨1, dX9_isNoPart_13, rfl, rfl, by decide +kernel⟩) (m_right_lf ⟨1, dX9_isNoPart_14, rfl, 1, .boolean, rfl, rfl, Or.inr (Or.inl ⟨rfl, rfl⟩)⟩))))
theorem dX9_isKind_0 : decode cX9_isKind 0 = .ok (.iload_n 0, 1) := by decide +kernel
theorem dX9_isKind_1 : decode cX9_isKind 1 = .ok (.istore_n 2, 1) := by decide +kernel
theorem dX9_isKind_2 : decode cX9_isKind 2 = .ok (.iconst 0, 1) := by decide +kernel
theorem dX9_isKind_3 : decode cX9_isKind 3 = .ok (.istore_n 3, 1) := by decide +kernel
theorem dX9_isKind_4 : decode cX9_isKind 4 = .ok (.iload_n 3, 1) := by decide +kernel
theorem dX9_isKind_5 : decode cX9_isKind 5 = .ok (.bipush 7, 2) := by decide +kernel
theorem dX9_isKind_7 : decode cX9_isKind 7 = .ok (.if_icmp .ge 26, 3) := by decide +kernel
theorem dX9_isKind_10 : decode cX9_isKind 10 = .ok (.iload_n 2, 1) := by decide +kernel
theorem dX9_isKind_11 : decode cX9_isKind 11 = .ok (.ifCond .lt 22, 3) := by decide +kernel
theorem dX9_isKind_14 : decode cX9_isKind 14 = .ok (.iload_n 2, 1) := by decide +kernel
theorem dX9_isKind_15 : decode cX9_isKind 15 = .ok (.iload_n 1, 1) := by decide +kernel
theorem dX9_isKind_16 : decode cX9_isKind 16 = .ok (.if_icmp .ne 5, 3) := by decide +kernel
theorem dX9_isKind_19 : decode cX9_isKind 19 = .ok (.iconst 1, 1) := by decide +kernel
theorem dX9_isKind_20 : decode cX9_isKind 20 = .ok (.ireturn, 1) := by decide +kernel
theorem dX9_isKind_21 : decode cX9_isKind 21 = .ok (.getstatic 274, 3) := by decide +kernel
theorem dX9_isKind_24 : decode cX9_isKind 24 = .ok (.iload_n 2, 1) := by decide +kernel
theorem dX9_isKind_25 : decode cX9_isKind 25 = .ok (.iaload, 1) := by decide +kernel
theorem dX9_isKind_26 : decode cX9_isKind 26 = .ok (.istore_n 2, 1) := by decide +kernel
theorem dX9_isKind_27 : decode cX9_isKind 27 = .ok (.iinc 3 1, 3) := by decide +kernel
theorem dX9_isKind_30 : decode cX9_isKind 30 = .ok (.goto (-26), 3) := by decide +kernel
theorem dX9_isKind_33 : decode cX9_isKind 33 = .ok (.iconst 0, 1) := by decide +kernel
theorem dX9_isKind_34 : decode cX9_isKind 34 = .ok (.ireturn, 1) := by decide +kernel
set_option maxRecDepth 20000 in
theorem r_X9_isKind : m_Right (yX9_isKind, cX9_isKind, 4, (some .boolean)) q_X9_isKind := m_right_nd (m_right_nd (m_right_nd (m_right_nd (m_right_lf ⟨1, dX9_isKind_0, rfl, rfl, rfl⟩) (m_right_lf ⟨1, dX9_isKind_1, rfl, rfl, rfl⟩)) (m_right_nd (m_right_lf ⟨1, dX9_isKind_2, rfl, rfl, by decide +kernel⟩) (m_right_nd (m_right_lf ⟨1, dX9_isKind_3, rfl, rfl, rfl⟩) (m_right_lf ⟨1, dX9_isKind_4, rfl, rfl, rfl⟩)))) (m_right_nd (m_right_nd (m_right_lf ⟨2, dX9_isKind_5, rfl, rfl, by decide +kernel⟩) (m_right_nd (m_right_lf ⟨3, dX9_isKind_7, rfl, rfl, 33, rfl, by decide⟩) (m_right_lf ⟨1, dX9_isKind_10, rfl, rfl, rfl⟩))) (m_right_nd (m_right_lf ⟨3, dX9_isKind_11, rfl, rfl, 33, rfl, by decide⟩) (m_right_nd (m_right_lf ⟨1, dX9_isKind_14, rfl, rfl, rfl⟩) (m_right_lf ⟨1, dX9_isKind_15, rfl, rfl, rfl⟩))))) (m_right_nd (m_right_nd (m_right_nd (m_right_lf ⟨3, dX9_isKind_16, rfl, rfl, 21, rfl, by decide⟩) (m_right_lf ⟨1, dX9_isKind_19, rfl, rfl, by decide +kernel⟩)) (m_right_nd (m_right_lf ⟨1, dX9_isKind_20, rfl, 1, .boolean, rfl, rfl, Or.inr (Or.inl ⟨rfl, rfl⟩)⟩) (m_right_nd (m_right_lf ⟨3, dX9_isKind_21, rfl, rfl, "FewerMan", "ABOVE", "[I", by decide +kernel, Or.inl wd_848⟩) (m_right_lf ⟨1, dX9_isKind_24, rfl, rfl, rfl⟩)))) (m_right_nd (m_right_nd (m_right_lf ⟨1, dX9_isKind_25, rfl, rfl⟩) (m_right_nd (m_right_lf ⟨1, dX9_isKind_26, rfl, rfl, rfl⟩) (m_right_lf ⟨3, dX9_isKind_27, rfl, rfl, rfl, by decide +kernel⟩))) (m_right_nd (m_right_lf ⟨3, dX9_isKind_30, rfl, 4, rfl, by decide⟩) (m_right_nd (m_right_lf ⟨1, dX9_isKind_33, rfl, rfl, by decide +kernel⟩) (m_right_lf ⟨1, dX9_isKind_34, rfl, 1, .boolean, rfl, rfl, Or.inr (Or.inl ⟨rfl, rfl⟩)⟩)))))
theorem dX9_powerOfTen_0 : decode cX9_powerOfTen 0 = .ok (.lconst 1, 1) := by decide +kernel
theorem dX9_powerOfTen_1 : decode cX9_powerOfTen 1 = .ok (.lstore_n 1, 1) := by decide +kernel
theorem dX9_powerOfTen_2 : decode cX9_powerOfTen 2 = .ok (.iconst 0, 1) := by decide +kernel
theorem dX9_powerOfTen_3 : decode cX9_powerOfTen 3 = .ok (.istore_n 3, 1) := by decide +kernel
theorem dX9_powerOfTen_4 : decode cX9_powerOfTen 4 = .ok (.iload_n 3, 1) := by decide +kernel
theorem dX9_powerOfTen_5 : decode cX9_powerOfTen 5 = .ok (.iload_n 0, 1) := by decide +kernel
theorem dX9_powerOfTen_6 : decode cX9_powerOfTen 6 = .ok (.if_icmp .ge 15, 3) := by decide +kernel
theorem dX9_powerOfTen_9 : decode cX9_powerOfTen 9 = .ok (.lload_n 1, 1) := by decide +kernel
theorem dX9_powerOfTen_10 : decode cX9_powerOfTen 10 = .ok (.ldc2_w 173, 3) := by decide +kernel
theorem dX9_powerOfTen_13 : decode cX9_powerOfTen 13 = .ok (.lmul, 1) := by decide +kernel
theorem dX9_powerOfTen_14 : decode cX9_powerOfTen 14 = .ok (.lstore_n 1, 1) := by decide +kernel
theorem dX9_powerOfTen_15 : decode cX9_powerOfTen 15 = .ok (.iinc 3 1, 3) := by decide +kernel
theorem dX9_powerOfTen_18 : decode cX9_powerOfTen 18 = .ok (.goto (-14), 3) := by decide +kernel
theorem dX9_powerOfTen_21 : decode cX9_powerOfTen 21 = .ok (.lload_n 1, 1) := by decide +kernel
theorem dX9_powerOfTen_22 : decode cX9_powerOfTen 22 = .ok (.lreturn, 1) := by decide +kernel
set_option maxRecDepth 20000 in
theorem r_X9_powerOfTen : m_Right (yX9_powerOfTen, cX9_powerOfTen, 4, (some .long)) q_X9_powerOfTen := m_right_nd (m_right_nd (m_right_nd (m_right_lf ⟨1, dX9_powerOfTen_0, rfl, rfl, by decide +kernel⟩) (m_right_nd (m_right_lf ⟨1, dX9_powerOfTen_1, rfl, rfl, rfl⟩) (m_right_lf ⟨1, dX9_powerOfTen_2, rfl, rfl, by decide +kernel⟩))) (m_right_nd (m_right_nd (m_right_lf ⟨1, dX9_powerOfTen_3, rfl, rfl, rfl⟩) (m_right_lf ⟨1, dX9_powerOfTen_4, rfl, rfl, rfl⟩)) (m_right_nd (m_right_lf ⟨1, dX9_powerOfTen_5, rfl, rfl, rfl⟩) (m_right_lf ⟨3, dX9_powerOfTen_6, rfl, rfl, 21, rfl, by decide⟩)))) (m_right_nd (m_right_nd (m_right_nd (m_right_lf ⟨1, dX9_powerOfTen_9, rfl, rfl, rfl⟩) (m_right_lf ⟨3, dX9_powerOfTen_10, rfl, rfl, _, rfl, wd_627⟩)) (m_right_nd (m_right_lf ⟨1, dX9_powerOfTen_13, rfl, rfl⟩) (m_right_lf ⟨1, dX9_powerOfTen_14, rfl, rfl, rfl⟩))) (m_right_nd (m_right_nd (m_right_lf ⟨3, dX9_powerOfTen_15, rfl, rfl, rfl, by decide +kernel⟩) (m_right_lf ⟨3, dX9_powerOfTen_18, rfl, 4, rfl, by decide⟩)) (m_right_nd (m_right_lf ⟨1, dX9_powerOfTen_21, rfl, rfl, rfl⟩) (m_right_lf ⟨1, dX9_powerOfTen_22, rfl, rfl⟩))))
theorem dX9_partOf_0 : decode cX9_partOf 0 = .ok (.lload_n 0, 1) := by decide +kernel
theorem dX9_partOf_1 : decode cX9_partOf 1 = .ok (.invokestatic 277, 3) := by decide +kernel
theorem dX9_partOf_4 : decode cX9_partOf 4 = .ok (.lstore 5, 2) := by decide +kernel
theorem dX9_partOf_6 : decode cX9_partOf 6 = .ok (.lload_n 2, 1) := by decide +kernel
theorem dX9_partOf_7 : decode cX9_partOf 7 = .ok (.lstore 7, 2) := by decide +kernel
theorem dX9_partOf_9 : decode cX9_partOf 9 = .ok (.iconst 0, 1) := by decide +kernel
theorem dX9_partOf_10 : decode cX9_partOf 10 = .ok (.istore 9, 2) := by decide +kernel
theorem dX9_partOf_12 : decode cX9_partOf 12 = .ok (.iload 9, 2) := by decide +kernel
theorem dX9_partOf_14 : decode cX9_partOf 14 = .ok (.sipush 200, 3) := by decide +kernel
theorem dX9_partOf_17 : decode cX9_partOf 17 = .ok (.if_icmp .ge 31, 3) := by decide +kernel
theorem dX9_partOf_20 : decode cX9_partOf 20 = .ok (.lload 7, 2) := by decide +kernel
theorem dX9_partOf_22 : decode cX9_partOf 22 = .ok (.lconst 0, 1) := by decide +kernel
theorem dX9_partOf_23 : decode cX9_partOf 23 = .ok (.lcmp, 1) := by decide +kernel
theorem dX9_partOf_24 : decode cX9_partOf 24 = .ok (.ifCond .eq 24, 3) := by decide +kernel
theorem dX9_partOf_27 : decode cX9_partOf 27 = .ok (.lload 5, 2) := by decide +kernel
theorem dX9_partOf_29 : decode cX9_partOf 29 = .ok (.lload 7, 2) := by decide +kernel
theorem dX9_partOf_31 : decode cX9_partOf 31 = .ok (.lrem, 1) := by decide +kernel
theorem dX9_partOf_32 : decode cX9_partOf 32 = .ok (.lstore 10, 2) := by decide +kernel
theorem dX9_partOf_34 : decode cX9_partOf 34 = .ok (.lload 7, 2) := by decide +kernel
theorem dX9_partOf_36 : decode cX9_partOf 36 = .ok (.lstore 5, 2) := by decide +kernel
theorem dX9_partOf_38 : decode cX9_partOf 38 = .ok (.lload 10, 2) := by decide +kernel
theorem dX9_partOf_40 : decode cX9_partOf 40 = .ok (.lstore 7, 2) := by decide +kernel
theorem dX9_partOf_42 : decode cX9_partOf 42 = .ok (.iinc 9 1, 3) := by decide +kernel
theorem dX9_partOf_45 : decode cX9_partOf 45 = .ok (.goto (-33), 3) := by decide +kernel
theorem dX9_partOf_48 : decode cX9_partOf 48 = .ok (.lload 5, 2) := by decide +kernel
theorem dX9_partOf_50 : decode cX9_partOf 50 = .ok (.lconst 0, 1) := by decide +kernel
theorem dX9_partOf_51 : decode cX9_partOf 51 = .ok (.lcmp, 1) := by decide +kernel
theorem dX9_partOf_52 : decode cX9_partOf 52 = .ok (.ifCond .ne 7, 3) := by decide +kernel
theorem dX9_partOf_55 : decode cX9_partOf 55 = .ok (.ldc2_w 149, 3) := by decide +kernel
theorem dX9_partOf_58 : decode cX9_partOf 58 = .ok (.lreturn, 1) := by decide +kernel
theorem dX9_partOf_59 : decode cX9_partOf 59 = .ok (.iload 4, 2) := by decide +kernel
theorem dX9_partOf_61 : decode cX9_partOf 61 = .ok (.ifCond .ne 7, 3) := by decide +kernel
theorem dX9_partOf_64 : decode cX9_partOf 64 = .ok (.lload_n 0, 1) := by decide +kernel
theorem dX9_partOf_65 : decode cX9_partOf 65 = .ok (.goto 4, 3) := by decide +kernel
theorem dX9_partOf_68 : decode cX9_partOf 68 = .ok (.lload_n 2, 1) := by decide +kernel
theorem dX9_partOf_69 : decode cX9_partOf 69 = .ok (.lload 5, 2) := by decide +kernel
theorem dX9_partOf_71 : decode cX9_partOf 71 = .ok (.ldiv, 1) := by decide +kernel
theorem dX9_partOf_72 : decode cX9_partOf 72 = .ok (.lreturn, 1) := by decide +kernel
set_option maxRecDepth 20000 in
theorem r_X9_partOf : m_Right (yX9_partOf, cX9_partOf, 12, (some .long)) q_X9_partOf := m_right_nd (m_right_nd (m_right_nd (m_right_nd (m_right_nd (m_right_lf ⟨1, dX9_partOf_0, rfl, rfl, rfl⟩) (m_right_lf ⟨3, dX9_partOf_1, rfl, rfl, Or.inl ⟨_, rfl, wd_72, Or.inr (Or.inr (Or.inr (Or.inl ⟨rfl, wm_631, wm_632, wm_633⟩)))⟩⟩)) (m_right_nd (m_right_lf ⟨2, dX9_partOf_4, rfl, rfl, rfl⟩) (m_right_lf ⟨1, dX9_partOf_6, rfl, rfl, rfl⟩))) (m_right_nd (m_right_nd (m_right_lf ⟨2, dX9_partOf_7, rfl, rfl, rfl⟩) (m_right_lf ⟨1, dX9_partOf_9, rfl, rfl, by decide +kernel⟩)) (m_right_nd (m_right_lf ⟨2, dX9_partOf_10, rfl, rfl, rfl⟩) (m_right_nd (m_right_lf ⟨2, dX9_partOf_12, rfl, rfl, rfl⟩) (m_right_lf ⟨3, dX9_partOf_14, rfl, rfl, by decide +kernel⟩))))) (m_right_nd (m_right_nd (m_right_nd (m_right_lf ⟨3, dX9_partOf_17, rfl, rfl, 48, rfl, by decide⟩) (m_right_lf ⟨2, dX9_partOf_20, rfl, rfl, rfl⟩)) (m_right_nd (m_right_lf ⟨1, dX9_partOf_22, rfl, rfl, by decide +kernel⟩) (m_right_nd (m_right_lf ⟨1, dX9_partOf_23, rfl, rfl⟩) (m_right_lf ⟨3, dX9_partOf_24, rfl, rfl, 48, rfl, by decide⟩)))) (m_right_nd (m_right_nd (m_right_lf ⟨2, dX9_partOf_27, rfl, rfl, rfl⟩) (m_right_lf ⟨2, dX9_partOf_29, rfl, rfl, rfl⟩)) (m_right_nd (m_right_lf ⟨1, dX9_partOf_31, rfl, rfl⟩) (m_right_nd (m_right_lf ⟨2, dX9_partOf_32, rfl, rfl, rfl⟩) (m_right_lf ⟨2, dX9_partOf_34, rfl, rfl, rfl⟩)))))) (m_right_nd (m_right_nd (m_right_nd (m_right_nd (m_right_lf ⟨2, dX9_partOf_36, rfl, rfl, rfl⟩) (m_right_lf ⟨2, dX9_partOf_38, rfl, rfl, rfl⟩)) (m_right_nd (m_right_lf ⟨2, dX9_partOf_40, rfl, rfl, rfl⟩) (m_right_lf ⟨3, dX9_partOf_42, rfl, rfl, rfl, by decide +kernel⟩))) (m_right_nd (m_right_nd (m_right_lf ⟨3, dX9_partOf_45, rfl, 12, rfl, by decide⟩) (m_right_lf ⟨2, dX9_partOf_48, rfl, rfl, rfl⟩)) (m_right_nd (m_right_lf ⟨1, dX9_partOf_50, rfl, rfl, by decide +kernel⟩) (m_right_nd (m_right_lf ⟨1, dX9_partOf_51, rfl, rfl⟩) (m_right_lf ⟨3, dX9_partOf_52, rfl, rfl, 59, rfl, by decide⟩))))) (m_right_nd (m_right_nd (m_right_nd (m_right_lf ⟨3, dX9_partOf_55, rfl, rfl, _, rfl, wd_578⟩) (m_right_lf ⟨1, dX9_partOf_58, rfl, rfl⟩)) (m_right_nd (m_right_lf ⟨2, dX9_partOf_59, rfl, rfl, rfl⟩) (m_right_nd (m_right_lf ⟨3, dX9_partOf_61, rfl, rfl, 68, rfl, by decide⟩) (m_right_lf ⟨1, dX9_partOf_64, rfl, rfl, rfl⟩)))) (m_right_nd (m_right_nd (m_right_lf ⟨3, dX9_partOf_65, rfl, 69, rfl, by decide⟩) (m_right_lf ⟨1, dX9_partOf_68, rfl, rfl, rfl⟩)) (m_right_nd (m_right_lf ⟨2, dX9_partOf_69, rfl, rfl, rfl⟩) (m_right_nd (m_right_lf ⟨1, dX9_partOf_71, rfl, rfl⟩) (m_right_lf ⟨1, dX9_partOf_72, rfl, rfl⟩))))))
theorem dX10_init_0 : decode cX10_init 0 = .ok (.aload_n 0, 1) := by decide +kernel
theorem dX10_init_1 : decode cX10_init 1 = .ok (.invokespecial 3, 3) := by decide +kernel
theorem dX10_init_4 : decode cX10_init 4 = .ok (.aload_n 0, 1) := by decide +kernel
theorem dX10_init_5 : decode cX10_init 5 = .ok (.sipush 889, 3) := by decide +kernel
theorem dX10_init_8 : decode cX10_init 8 = .ok (.newarray .int, 2) := by decide +kernel
theorem dX10_init_10 : decode cX10_init 10 = .ok (.putfield 9, 3) := by decide +kernel
theorem dX10_init_13 : decode cX10_init 13 = .ok (.aload_n 0, 1) := by decide +kernel
theorem dX10_init_14 : decode cX10_init 14 = .ok (.sipush 889, 3) := by decide +kernel
theorem dX10_init_17 : decode cX10_init 17 = .ok (.newarray .int, 2) := by decide +kernel
theorem dX10_init_19 : decode cX10_init 19 = .ok (.putfield 15, 3) := by decide +kernel
theorem dX10_init_22 : decode cX10_init 22 = .ok (.aload_n 0, 1) := by decide +kernel
theorem dX10_init_23 : decode cX10_init 23 = .ok (.bipush 6, 2) := by decide +kernel
theorem dX10_init_25 : decode cX10_init 25 = .ok (.newarray .int, 2) := by decide +kernel
theorem dX10_init_27 : decode cX10_init 27 = .ok (.putfield 18, 3) := by decide +kernel
theorem dX10_init_30 : decode cX10_init 30 = .ok (.aload_n 0, 1) := by decide +kernel
theorem dX10_init_31 : decode cX10_init 31 = .ok (.iconst 5, 1) := by decide +kernel
theorem dX10_init_32 : decode cX10_init 32 = .ok (.newarray .int, 2) := by decide +kernel
theorem dX10_init_34 : decode cX10_init 34 = .ok (.putfield 21, 3) := by decide +kernel
theorem dX10_init_37 : decode cX10_init 37 = .ok (.aload_n 0, 1) := by decide +kernel
theorem dX10_init_38 : decode cX10_init 38 = .ok (.bipush 64, 2) := by decide +kernel
theorem dX10_init_40 : decode cX10_init 40 = .ok (.newarray .boolean, 2) := by decide +kernel
theorem dX10_init_42 : decode cX10_init 42 = .ok (.putfield 24, 3) := by decide +kernel
theorem dX10_init_45 : decode cX10_init 45 = .ok (.aload_n 0, 1) := by decide +kernel
theorem dX10_init_46 : decode cX10_init 46 = .ok (.sipush 5733, 3) := by decide +kernel
theorem dX10_init_49 : decode cX10_init 49 = .ok (.newarray .long, 2) := by decide +kernel
theorem dX10_init_51 : decode cX10_init 51 = .ok (.putfield 28, 3) := by decide +kernel
theorem dX10_init_54 : decode cX10_init 54 = .ok (.aload_n 0, 1) := by decide +kernel
theorem dX10_init_55 : decode cX10_init 55 = .ok (.sipush 5733, 3) := by decide +kernel
theorem dX10_init_58 : decode cX10_init 58 = .ok (.newarray .long, 2) := by decide +kernel
theorem dX10_init_60 : decode cX10_init 60 = .ok (.putfield 32, 3) := by decide +kernel
theorem dX10_init_63 : decode cX10_init 63 = .ok (.aload_n 0, 1) := by decide +kernel
theorem dX10_init_64 : decode cX10_init 64 = .ok (.iconst 4, 1) := by decide +kernel
theorem dX10_init_65 : decode cX10_init 65 = .ok (.newarray .int, 2) := by decide +kernel
theorem dX10_init_67 : decode cX10_init 67 = .ok (.putfield 35, 3) := by decide +kernel
theorem dX10_init_70 : decode cX10_init 70 = .ok (.aload_n 0, 1) := by decide +kernel
theorem dX10_init_71 : decode cX10_init 71 = .ok (.iconst 4, 1) := by decide +kernel
theorem dX10_init_72 : decode cX10_init 72 = .ok (.newarray .int, 2) := by decide +kernel
theorem dX10_init_74 : decode cX10_init 74 = .ok (.putfield 38, 3) := by decide +kernel
theorem dX10_init_77 : decode cX10_init 77 = .ok (.aload_n 0, 1) := by decide +kernel
theorem dX10_init_78 : decode cX10_init 78 = .ok (.bipush 20, 2) := by decide +kernel
theorem dX10_init_80 : decode cX10_init 80 = .ok (.newarray .int, 2) := by decide +kernel
theorem dX10_init_82 : decode cX10_init 82 = .ok (.putfield 41, 3) := by decide +kernel
theorem dX10_init_85 : decode cX10_init 85 = .ok (.aload_n 0, 1) := by decide +kernel
theorem dX10_init_86 : decode cX10_init 86 = .ok (.getfield 9, 3) := by decide +kernel
theorem dX10_init_89 : decode cX10_init 89 = .ok (.bipush 11, 2) := by decide +kernel
theorem dX10_init_91 : decode cX10_init 91 = .ok (.iconst (-1), 1) := by decide +kernel
theorem dX10_init_92 : decode cX10_init 92 = .ok (.iastore, 1) := by decide +kernel
theorem dX10_init_93 : decode cX10_init 93 = .ok (.return_, 1) := by decide +kernel
set_option maxRecDepth 20000 in
theorem r_X10_init : m_Right (yX10_init, cX10_init, 1, none) q_X10_init := m_right_nd (m_right_nd (m_right_nd (m_right_nd (m_right_nd (m_right_lf ⟨1, dX10_init_0, rfl, rfl, rfl⟩) (m_right_nd (m_right_lf ⟨3, dX10_init_1, rfl, rfl, Or.inl ⟨rfl, wd_866, wd_86, wd_87⟩⟩) (m_right_lf ⟨1, dX10_init_4, rfl, rfl, rfl⟩))) (m_right_nd (m_right_lf ⟨3, dX10_init_5, rfl, rfl, by decide +kernel⟩) (m_right_nd (m_right_lf ⟨2, dX10_init_8, rfl, rfl, Or.inl ⟨rfl, rfl⟩, wd_168⟩) (m_right_lf ⟨3, dX10_init_10, rfl, rfl, 10, 1, 3, (RX10, TX10, 24), rfl, rfl, by decide, wd_867, Or.inr ⟨rfl, rfl, rfl⟩, tyX10 1, tyX10_ok 1 (by decide), Or.inr (Or.inr (Or.inr ⟨rfl, Or.inr ⟨_, rfl⟩⟩))⟩)))) (m_right_nd (m_right_nd (m_right_lf ⟨1, dX10_init_13, rfl, rfl, rfl⟩) (m_right_nd (m_right_lf ⟨3, dX10_init_14, rfl, rfl, by decide +kernel⟩) (m_right_lf ⟨2, dX10_init_17, rfl, rfl, Or.inl ⟨rfl, rfl⟩, wd_168⟩))) (m_right_nd (m_right_lf ⟨3, dX10_init_19, rfl, rfl, 10, 2, 3, (RX10, TX10, 24), rfl, rfl, by decide, wd_868, Or.inr ⟨rfl, rfl, rfl⟩, tyX10 2, tyX10_ok 2 (by decide), Or.inr (Or.inr (Or.inr ⟨rfl, Or.inr ⟨_, rfl⟩⟩))⟩) (m_right_nd (m_right_lf ⟨1, dX10_init_22, rfl, rfl, rfl⟩) (m_right_lf ⟨2, dX10_init_23, rfl, rfl, by decide +kernel⟩))))) (m_right_nd (m_right_nd (m_right_nd (m_right_lf ⟨2, dX10_init_25, rfl, rfl, Or.inl ⟨rfl, rfl⟩, wd_168⟩) (m_right_nd (m_right_lf ⟨3, dX10_init_27, rfl, rfl, 10, 3, 3, (RX10, TX10, 24), rfl, rfl, by decide, wd_869, Or.inr ⟨rfl, rfl, rfl⟩, tyX10 3, tyX10_ok 3 (by decide), Or.inr (Or.inr (Or.inr ⟨rfl, Or.inr ⟨_, rfl⟩⟩))⟩) (m_right_lf ⟨1, dX10_init_30, rfl, rfl, rfl⟩))) (m_right_nd (m_right_lf ⟨1, dX10_init_31, rfl, rfl, by decide +kernel⟩) (m_right_nd (m_right_lf ⟨2, dX10_init_32, rfl, rfl, Or.inl ⟨rfl, rfl⟩, wd_168⟩) (m_right_lf ⟨3, dX10_init_34, rfl, rfl, 10, 10, 3, (RX10, TX10, 24), rfl, rfl, by decide, wd_876, Or.inr ⟨rfl, rfl, rfl⟩, tyX10 10, tyX10_ok 10 (by decide), Or.inr (Or.inr (Or.inr ⟨rfl, Or.inr ⟨_, rfl⟩⟩))⟩)))) (m_right_nd (m_right_nd (m_right_lf ⟨1, dX10_init_37, rfl, rfl, rfl⟩) (m_right_nd (m_right_lf ⟨2, dX10_init_38, rfl, rfl, by decide +kernel⟩) (m_right_lf ⟨2, dX10_init_40, rfl, rfl, Or.inr (Or.inr ⟨rfl, rfl⟩), wd_229⟩))) (m_right_nd (m_right_lf ⟨3, dX10_init_42, rfl, rfl, 10, 11, 3, (RX10, TX10, 24), rfl, rfl, by decide, wd_877, Or.inr ⟨rfl, rfl, rfl⟩, tyX10 11, tyX10_ok 11 (by decide), Or.inr (Or.inr (Or.inr ⟨rfl, Or.inr ⟨_, rfl⟩⟩))⟩) (m_right_nd (m_right_lf ⟨1, dX10_init_45, rfl, rfl, rfl⟩) (m_right_lf ⟨3, dX10_init_46, rfl, rfl, by decide +kernel⟩)))))) (m_right_nd (m_right_nd (m_right_nd (m_right_nd (m_right_lf ⟨2, dX10_init_49, rfl, rfl, Or.inr (Or.inl ⟨rfl, rfl⟩), wd_230⟩) (m_right_nd (m_right_lf ⟨3, dX10_init_51, rfl, rfl, 10, 12, 3, (RX10, TX10, 24), rfl, rfl, by decide, wd_878, Or.inl rfl, tyX10 12, tyX10_ok 12 (by decide), Or.inr (Or.inr (Or.inr ⟨rfl, Or.inr ⟨_, rfl⟩⟩))⟩) (m_right_lf ⟨1, dX10_init_54, rfl, rfl, rfl⟩))) (m_right_nd (m_right_lf ⟨3, dX10_init_55, rfl, rfl, by decide +kernel⟩) (m_right_nd (m_right_lf ⟨2, dX10_init_58, rfl, rfl, Or.inr (Or.inl ⟨rfl, rfl⟩), wd_230⟩) (m_right_lf ⟨3, dX10_init_60, rfl, rfl, 10, 13, 3, (RX10, TX10, 24), rfl, rfl, by decide, wd_879, Or.inl rfl, tyX10 13, tyX10_ok 13 (by decide), Or.inr (Or.inr (Or.inr ⟨rfl, Or.inr ⟨_, rfl⟩⟩))⟩)))) (m_right_nd (m_right_nd (m_right_lf ⟨1, dX10_init_63, rfl, rfl, rfl⟩) (m_right_nd (m_right_lf ⟨1, dX10_init_64, rfl, rfl, by decide +kernel⟩) (m_right_lf ⟨2, dX10_init_65, rfl, rfl, Or.inl ⟨rfl, rfl⟩, wd_168⟩))) (m_right_nd (m_right_lf ⟨3, dX10_init_67, rfl, rfl, 10, 16, 3, (RX10, TX10, 24), rfl, rfl, by decide, wd_882, Or.inr ⟨rfl, rfl, rfl⟩, tyX10 16, tyX10_ok 16 (by decide), Or.inr (Or.inr (Or.inr ⟨rfl, Or.inr ⟨_, rfl⟩⟩))⟩) (m_right_nd (m_right_lf ⟨1, dX10_init_70, rfl, rfl, rfl⟩) (m_right_lf ⟨1, dX10_init_71, rfl, rfl, by decide +kernel⟩))))) (m_right_nd (m_right_nd (m_right_nd (m_right_lf ⟨2, dX10_init_72, rfl, rfl, Or.inl ⟨rfl, rfl⟩, wd_168⟩) (m_right_nd (m_right_lf ⟨3, dX10_init_74, rfl, rfl, 10, 17, 3, (RX10, TX10, 24), rfl, rfl, by decide, wd_883, Or.inr ⟨rfl, rfl, rfl⟩, tyX10 17, tyX10_ok 17 (by decide), Or.inr (Or.inr (Or.inr ⟨rfl, Or.inr ⟨_, rfl⟩⟩))⟩) (m_right_lf ⟨1, dX10_init_77, rfl, rfl, rfl⟩))) (m_right_nd (m_right_lf ⟨2, dX10_init_78, rfl, rfl, by decide +kernel⟩) (m_right_nd (m_right_lf ⟨2, dX10_init_80, rfl, rfl, Or.inl ⟨rfl, rfl⟩, wd_168⟩) (m_right_lf ⟨3, dX10_init_82, rfl, rfl, 10, 19, 3, (RX10, TX10, 24), rfl, rfl, by decide, wd_885, Or.inr ⟨rfl, rfl, rfl⟩, tyX10 19, tyX10_ok 19 (by decide), Or.inr (Or.inr (Or.inr ⟨rfl, Or.inr ⟨_, rfl⟩⟩))⟩)))) (m_right_nd (m_right_nd (m_right_lf ⟨1, dX10_init_85, rfl, rfl, rfl⟩) (m_right_nd (m_right_lf ⟨3, dX10_init_86, rfl, rfl, 10, 1, rfl, Or.inl ⟨(RX10, TX10, 24), rfl, by decide, wd_867⟩⟩) (m_right_lf ⟨2, dX10_init_89, rfl, rfl, by decide +kernel⟩))) (m_right_nd (m_right_lf ⟨1, dX10_init_91, rfl, rfl, by decide +kernel⟩) (m_right_nd (m_right_lf ⟨1, dX10_init_92, rfl, rfl⟩) (m_right_lf ⟨1, dX10_init_93, rfl, rfl⟩))))))
theorem dX10_in_0 : decode cX10_in 0 = .ok (.iload_n 0, 1) := by decide +kernel
theorem dX10_in_1 : decode cX10_in 1 = .ok (.iload_n 1, 1) := by decide +kernel
theorem dX10_in_2 : decode cX10_in 2 = .ok (.if_icmp .lt 12, 3) := by decide +kernel
theorem dX10_in_5 : decode cX10_in 5 = .ok (.iload_n 0, 1) := by decide +kernel
theorem dX10_in_6 : decode cX10_in 6 = .ok (.iload_n 2, 1) := by decide +kernel
theorem dX10_in_7 : decode cX10_in 7 = .ok (.if_icmp .gt 7, 3) := by decide +kernel
theorem dX10_in_10 : decode cX10_in 10 = .ok (.iconst 1, 1) := by decide +kernel
theorem dX10_in_11 : decode cX10_in 11 = .ok (.goto 4, 3) := by decide +kernel
theorem dX10_in_14 : decode cX10_in 14 = .ok (.iconst 0, 1) := by decide +kernel
theorem dX10_in_15 : decode cX10_in 15 = .ok (.ireturn, 1) := by decide +kernel
set_option maxRecDepth 20000 in
theorem r_X10_in : m_Right (yX10_in, cX10_in, 3, (some .boolean)) q_X10_in := m_right_nd (m_right_nd (m_right_nd (m_right_lf ⟨1, dX10_in_0, rfl, rfl, rfl⟩) (m_right_lf ⟨1, dX10_in_1, rfl, rfl, rfl⟩)) (m_right_nd (m_right_lf ⟨3, dX10_in_2, rfl, rfl, 14, rfl, by decide⟩) (m_right_nd (m_right_lf ⟨1, dX10_in_5, rfl, rfl, rfl⟩) (m_right_lf ⟨1, dX10_in_6, rfl, rfl, rfl⟩)))) (m_right_nd (m_right_nd (m_right_lf ⟨3, dX10_in_7, rfl, rfl, 14, rfl, by decide⟩) (m_right_lf ⟨1, dX10_in_10, rfl, rfl, by decide +kernel⟩)) (m_right_nd (m_right_lf ⟨3, dX10_in_11, rfl, 15, rfl, by decide⟩) (m_right_nd (m_right_lf ⟨1, dX10_in_14, rfl, rfl, by decide +kernel⟩) (m_right_lf ⟨1, dX10_in_15, rfl, 1, .boolean, rfl, rfl, Or.inr (Or.inl ⟨rfl, rfl⟩)⟩))))
theorem dX10_isPlayer_0 : decode cX10_isPlayer 0 = .ok (.iload_n 1, 1) := by decide +kernel
theorem dX10_isPlayer_1 : decode cX10_isPlayer 1 = .ok (.iconst 0, 1) := by decide +kernel
theorem dX10_isPlayer_2 : decode cX10_isPlayer 2 = .ok (.aload_n 0, 1) := by decide +kernel
theorem dX10_isPlayer_3 : decode cX10_isPlayer 3 = .ok (.getfield 9, 3) := by decide +kernel
theorem dX10_isPlayer_6 : decode cX10_isPlayer 6 = .ok (.bipush 6, 2) := by decide +kernel
theorem dX10_isPlayer_8 : decode cX10_isPlayer 8 = .ok (.iaload, 1) := by decide +kernel
theorem dX10_isPlayer_9 : decode cX10_isPlayer 9 = .ok (.iconst 1, 1) := by decide +kernel
theorem dX10_isPlayer_10 : decode cX10_isPlayer 10 = .ok (.isub, 1) := by decide +kernel
theorem dX10_isPlayer_11 : decode cX10_isPlayer 11 = .ok (.invokestatic 48, 3) := by decide +kernel
theorem dX10_isPlayer_14 : decode cX10_isPlayer 14 = .ok (.ireturn, 1) := by decide +kernel
set_option maxRecDepth 20000 in
theorem r_X10_isPlayer : m_Right (yX10_isPlayer, cX10_isPlayer, 2, (some .boolean)) q_X10_isPlayer := m_right_nd (m_right_nd (m_right_nd (m_right_lf ⟨1, dX10_isPlayer_0, rfl, rfl, rfl⟩) (m_right_lf ⟨1, dX10_isPlayer_1, rfl, rfl, by decide +kernel⟩)) (m_right_nd (m_right_lf ⟨1, dX10_isPlayer_2, rfl, rfl, rfl⟩) (m_right_nd (m_right_lf ⟨3, dX10_isPlayer_3, rfl, rfl, 10, 1, rfl, Or.inl ⟨(RX10, TX10, 24), rfl, by decide, wd_867⟩⟩) (m_right_lf ⟨2, dX10_isPlayer_6, rfl, rfl, by decide +kernel⟩)))) (m_right_nd (m_right_nd (m_right_lf ⟨1, dX10_isPlayer_8, rfl, rfl⟩) (m_right_lf ⟨1, dX10_isPlayer_9, rfl, rfl, by decide +kernel⟩)) (m_right_nd (m_right_lf ⟨1, dX10_isPlayer_10, rfl, rfl⟩) (m_right_nd (m_right_lf ⟨3, dX10_isPlayer_11, rfl, rfl, Or.inr (Or.inr ⟨118, 3, (yX10_in, cX10_in, 3, (some .boolean)), rfl, me_X10_in, mc_X10_in, wd_943, wd_944, wd_71⟩)⟩) (m_right_lf ⟨1, dX10_isPlayer_14, rfl, 1, .boolean, rfl, rfl, Or.inr (Or.inl ⟨rfl, rfl⟩)⟩))))
theorem dX10_areTwo_0 : decode cX10_areTwo 0 = .ok (.aload_n 0, 1) := by decide +kernel
theorem dX10_areTwo_1 : decode cX10_areTwo 1 = .ok (.iload_n 1, 1) := by decide +kernel
theorem dX10_areTwo_2 : decode cX10_areTwo 2 = .ok (.invokevirtual 52, 3) := by decide +kernel
theorem dX10_areTwo_5 : decode cX10_areTwo 5 = .ok (.ifCond .eq 20, 3) := by decide +kernel
theorem dX10_areTwo_8 : decode cX10_areTwo 8 = .ok (.aload_n 0, 1) := by decide +kernel
theorem dX10_areTwo_9 : decode cX10_areTwo 9 = .ok (.iload_n 2, 1) := by decide +kernel
theorem dX10_areTwo_10 : decode cX10_areTwo 10 = .ok (.invokevirtual 52, 3) := by decide +kernel
theorem dX10_areTwo_13 : decode cX10_areTwo 13 = .ok (.ifCond .eq 12, 3) := by decide +kernel
theorem dX10_areTwo_16 : decode cX10_areTwo 16 = .ok (.iload_n 1, 1) := by decide +kernel
theorem dX10_areTwo_17 : decode cX10_areTwo 17 = .ok (.iload_n 2, 1) := by decide +kernel
theorem dX10_areTwo_18 : decode cX10_areTwo 18 = .ok (.if_icmp .eq 7, 3) := by decide +kernel
theorem dX10_areTwo_21 : decode cX10_areTwo 21 = .ok (.iconst 1, 1) := by decide +kernel
theorem dX10_areTwo_22 : decode cX10_areTwo 22 = .ok (.goto 4, 3) := by decide +kernel
theorem dX10_areTwo_25 : decode cX10_areTwo 25 = .ok (.iconst 0, 1) := by decide +kernel
theorem dX10_areTwo_26 : decode cX10_areTwo 26 = .ok (.ireturn, 1) := by decide +kernel
set_option maxRecDepth 20000 in
theorem r_X10_areTwo : m_Right (yX10_areTwo, cX10_areTwo, 3, (some .boolean)) q_X10_areTwo := m_right_nd (m_right_nd (m_right_nd (m_right_lf ⟨1, dX10_areTwo_0, rfl, rfl, rfl⟩) (m_right_nd (m_right_lf ⟨1, dX10_areTwo_1, rfl, rfl, rfl⟩) (m_right_lf ⟨3, dX10_areTwo_2, rfl, rfl, 119, 1, 10, (yX10_isPlayer, cX10_isPlayer, 2, (some .boolean)), rfl, me_X10_isPlayer, mc_X10_isPlayer, Or.inl ⟨(RX10, TX10, 24), rfl, rfl⟩, wd_1065, wd_1067, wd_31, wd_71⟩))) (m_right_nd (m_right_nd (m_right_lf ⟨3, dX10_areTwo_5, rfl, rfl, 25, rfl, by decide⟩) (m_right_lf ⟨1, dX10_areTwo_8, rfl, rfl, rfl⟩)) (m_right_nd (m_right_lf ⟨1, dX10_areTwo_9, rfl, rfl, rfl⟩) (m_right_lf ⟨3, dX10_areTwo_10, rfl, rfl, 119, 1, 10, (yX10_isPlayer, cX10_isPlayer, 2, (some .boolean)), rfl, me_X10_isPlayer, mc_X10_isPlayer, Or.inl ⟨(RX10, TX10, 24), rfl, rfl⟩, wd_1065, wd_1067, wd_31, wd_71⟩)))) (m_right_nd (m_right_nd (m_right_nd (m_right_lf ⟨3, dX10_areTwo_13, rfl, rfl, 25, rfl, by decide⟩) (m_right_lf ⟨1, dX10_areTwo_16, rfl, rfl, rfl⟩)) (m_right_nd (m_right_lf ⟨1, dX10_areTwo_17, rfl, rfl, rfl⟩) (m_right_lf ⟨3, dX10_areTwo_18, rfl, rfl, 25, rfl, by decide⟩))) (m_right_nd (m_right_nd (m_right_lf ⟨1, dX10_areTwo_21, rfl, rfl, by decide +kernel⟩) (m_right_lf ⟨3, dX10_areTwo_22, rfl, 26, rfl, by decide⟩)) (m_right_nd (m_right_lf ⟨1, dX10_areTwo_25, rfl, rfl, by decide +kernel⟩) (m_right_lf ⟨1, dX10_areTwo_26, rfl, 1, .boolean, rfl, rfl, Or.inr (Or.inl ⟨rfl, rfl⟩)⟩))))
