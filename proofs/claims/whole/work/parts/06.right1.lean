/-! By program (wip/whole/gen2.py): the words of the tables by their places, and the code tables' rightness. -/
theorem dX0_init_0 : decode cX0_init 0 = .ok (.aload_n 0, 1) := by decide +kernel
theorem dX0_init_1 : decode cX0_init 1 = .ok (.invokespecial 3, 3) := by decide +kernel
theorem dX0_init_4 : decode cX0_init 4 = .ok (.aload_n 0, 1) := by decide +kernel
theorem dX0_init_5 : decode cX0_init 5 = .ok (.bipush 20, 2) := by decide +kernel
theorem dX0_init_7 : decode cX0_init 7 = .ok (.newarray .int, 2) := by decide +kernel
theorem dX0_init_9 : decode cX0_init 9 = .ok (.putfield 9, 3) := by decide +kernel
theorem dX0_init_12 : decode cX0_init 12 = .ok (.return_, 1) := by decide +kernel
set_option maxRecDepth 20000 in
theorem r_X0_init : m_Right (yX0_init, cX0_init, 1, none) q_X0_init := m_right_nd (m_right_nd (m_right_lf ⟨1, dX0_init_0, rfl, rfl, rfl⟩) (m_right_nd (m_right_lf ⟨3, dX0_init_1, rfl, rfl, Or.inl ⟨rfl, wd_329, wd_86, wd_87⟩⟩) (m_right_lf ⟨1, dX0_init_4, rfl, rfl, rfl⟩))) (m_right_nd (m_right_nd (m_right_lf ⟨2, dX0_init_5, rfl, rfl, by decide +kernel⟩) (m_right_lf ⟨2, dX0_init_7, rfl, rfl, Or.inl ⟨rfl, rfl⟩, wd_168⟩)) (m_right_nd (m_right_lf ⟨3, dX0_init_9, rfl, rfl, 0, 0, 3, (RX0, TX0, 5), rfl, rfl, by decide, wd_330, Or.inr ⟨rfl, rfl, rfl⟩, tyX0 0, tyX0_ok 0 (by decide), Or.inr (Or.inr (Or.inr ⟨rfl, Or.inr ⟨_, rfl⟩⟩))⟩) (m_right_lf ⟨1, dX0_init_12, rfl, rfl⟩)))
theorem dX0_forget_0 : decode cX0_forget 0 = .ok (.aload_n 0, 1) := by decide +kernel
theorem dX0_forget_1 : decode cX0_forget 1 = .ok (.iconst 0, 1) := by decide +kernel
theorem dX0_forget_2 : decode cX0_forget 2 = .ok (.putfield 15, 3) := by decide +kernel
theorem dX0_forget_5 : decode cX0_forget 5 = .ok (.return_, 1) := by decide +kernel
set_option maxRecDepth 20000 in
theorem r_X0_forget : m_Right (yX0_forget, cX0_forget, 1, none) q_X0_forget := m_right_nd (m_right_nd (m_right_lf ⟨1, dX0_forget_0, rfl, rfl, rfl⟩) (m_right_lf ⟨1, dX0_forget_1, rfl, rfl, by decide +kernel⟩)) (m_right_nd (m_right_lf ⟨3, dX0_forget_2, rfl, rfl, 0, 1, 0, (RX0, TX0, 5), rfl, rfl, by decide, wd_332, Or.inl rfl, tyX0 1, tyX0_ok 1 (by decide), Or.inl ⟨rfl, rfl⟩⟩) (m_right_lf ⟨1, dX0_forget_5, rfl, rfl⟩))
theorem dX0_kept_0 : decode cX0_kept 0 = .ok (.aload_n 0, 1) := by decide +kernel
theorem dX0_kept_1 : decode cX0_kept 1 = .ok (.getfield 15, 3) := by decide +kernel
theorem dX0_kept_4 : decode cX0_kept 4 = .ok (.bipush 20, 2) := by decide +kernel
theorem dX0_kept_6 : decode cX0_kept 6 = .ok (.invokestatic 19, 3) := by decide +kernel
theorem dX0_kept_9 : decode cX0_kept 9 = .ok (.ireturn, 1) := by decide +kernel
set_option maxRecDepth 20000 in
theorem r_X0_kept : m_Right (yX0_kept, cX0_kept, 1, (some .int)) q_X0_kept := m_right_nd (m_right_nd (m_right_lf ⟨1, dX0_kept_0, rfl, rfl, rfl⟩) (m_right_lf ⟨3, dX0_kept_1, rfl, rfl, 0, 1, rfl, Or.inl ⟨(RX0, TX0, 5), rfl, by decide, wd_332⟩⟩)) (m_right_nd (m_right_lf ⟨2, dX0_kept_4, rfl, rfl, by decide +kernel⟩) (m_right_nd (m_right_lf ⟨3, dX0_kept_6, rfl, rfl, Or.inl ⟨_, rfl, wd_72, Or.inr (Or.inl ⟨rfl, wm_840, wm_392, wm_393⟩)⟩⟩) (m_right_lf ⟨1, dX0_kept_9, rfl, 0, .int, rfl, rfl, Or.inl ⟨rfl, rfl⟩⟩)))
theorem dX0_does_0 : decode cX0_does 0 = .ok (.aload_n 0, 1) := by decide +kernel
theorem dX0_does_1 : decode cX0_does 1 = .ok (.iload_n 3, 1) := by decide +kernel
theorem dX0_does_2 : decode cX0_does 2 = .ok (.putfield 25, 3) := by decide +kernel
theorem dX0_does_5 : decode cX0_does 5 = .ok (.aload_n 0, 1) := by decide +kernel
theorem dX0_does_6 : decode cX0_does 6 = .ok (.iload 4, 2) := by decide +kernel
theorem dX0_does_8 : decode cX0_does 8 = .ok (.putfield 28, 3) := by decide +kernel
theorem dX0_does_11 : decode cX0_does 11 = .ok (.aload_n 0, 1) := by decide +kernel
theorem dX0_does_12 : decode cX0_does 12 = .ok (.iload 5, 2) := by decide +kernel
theorem dX0_does_14 : decode cX0_does 14 = .ok (.putfield 31, 3) := by decide +kernel
theorem dX0_does_17 : decode cX0_does 17 = .ok (.iload_n 1, 1) := by decide +kernel
theorem dX0_does_18 : decode cX0_does 18 = .ok (.tableswitch 56 0 2 #[26, 36, 46], 26) := by decide +kernel
theorem dX0_does_44 : decode cX0_does 44 = .ok (.aload_n 0, 1) := by decide +kernel
theorem dX0_does_45 : decode cX0_does 45 = .ok (.aload_n 0, 1) := by decide +kernel
theorem dX0_does_46 : decode cX0_does 46 = .ok (.getfield 25, 3) := by decide +kernel
theorem dX0_does_49 : decode cX0_does 49 = .ok (.iload_n 2, 1) := by decide +kernel
theorem dX0_does_50 : decode cX0_does 50 = .ok (.invokestatic 34, 3) := by decide +kernel
theorem dX0_does_53 : decode cX0_does 53 = .ok (.ireturn, 1) := by decide +kernel
theorem dX0_does_54 : decode cX0_does 54 = .ok (.aload_n 0, 1) := by decide +kernel
theorem dX0_does_55 : decode cX0_does 55 = .ok (.aload_n 0, 1) := by decide +kernel
theorem dX0_does_56 : decode cX0_does 56 = .ok (.getfield 25, 3) := by decide +kernel
theorem dX0_does_59 : decode cX0_does 59 = .ok (.iload_n 2, 1) := by decide +kernel
theorem dX0_does_60 : decode cX0_does 60 = .ok (.invokestatic 38, 3) := by decide +kernel
theorem dX0_does_63 : decode cX0_does 63 = .ok (.ireturn, 1) := by decide +kernel
theorem dX0_does_64 : decode cX0_does 64 = .ok (.aload_n 0, 1) := by decide +kernel
theorem dX0_does_65 : decode cX0_does 65 = .ok (.aload_n 0, 1) := by decide +kernel
theorem dX0_does_66 : decode cX0_does 66 = .ok (.getfield 25, 3) := by decide +kernel
theorem dX0_does_69 : decode cX0_does 69 = .ok (.iload_n 2, 1) := by decide +kernel
theorem dX0_does_70 : decode cX0_does 70 = .ok (.invokestatic 41, 3) := by decide +kernel
theorem dX0_does_73 : decode cX0_does 73 = .ok (.ireturn, 1) := by decide +kernel
theorem dX0_does_74 : decode cX0_does 74 = .ok (.iconst 0, 1) := by decide +kernel
theorem dX0_does_75 : decode cX0_does 75 = .ok (.ireturn, 1) := by decide +kernel
set_option maxRecDepth 20000 in
theorem r_X0_does : m_Right (yX0_does, cX0_does, 6, (some .int)) q_X0_does := m_right_nd (m_right_nd (m_right_nd (m_right_nd (m_right_lf ⟨1, dX0_does_0, rfl, rfl, rfl⟩) (m_right_nd (m_right_lf ⟨1, dX0_does_1, rfl, rfl, rfl⟩) (m_right_lf ⟨3, dX0_does_2, rfl, rfl, 0, 2, 0, (RX0, TX0, 5), rfl, rfl, by decide, wd_334, Or.inl rfl, tyX0 2, tyX0_ok 2 (by decide), Or.inl ⟨rfl, rfl⟩⟩))) (m_right_nd (m_right_nd (m_right_lf ⟨1, dX0_does_5, rfl, rfl, rfl⟩) (m_right_lf ⟨2, dX0_does_6, rfl, rfl, rfl⟩)) (m_right_nd (m_right_lf ⟨3, dX0_does_8, rfl, rfl, 0, 3, 0, (RX0, TX0, 5), rfl, rfl, by decide, wd_335, Or.inl rfl, tyX0 3, tyX0_ok 3 (by decide), Or.inl ⟨rfl, rfl⟩⟩) (m_right_lf ⟨1, dX0_does_11, rfl, rfl, rfl⟩)))) (m_right_nd (m_right_nd (m_right_nd (m_right_lf ⟨2, dX0_does_12, rfl, rfl, rfl⟩) (m_right_lf ⟨3, dX0_does_14, rfl, rfl, 0, 4, 0, (RX0, TX0, 5), rfl, rfl, by decide, wd_336, Or.inl rfl, tyX0 4, tyX0_ok 4 (by decide), Or.inl ⟨rfl, rfl⟩⟩)) (m_right_nd (m_right_lf ⟨1, dX0_does_17, rfl, rfl, rfl⟩) (m_right_lf ⟨26, dX0_does_18, 74, [44, 54, 64], rfl, by decide, by decide +kernel⟩))) (m_right_nd (m_right_nd (m_right_lf ⟨1, dX0_does_44, rfl, rfl, rfl⟩) (m_right_lf ⟨1, dX0_does_45, rfl, rfl, rfl⟩)) (m_right_nd (m_right_lf ⟨3, dX0_does_46, rfl, rfl, 0, 2, rfl, Or.inl ⟨(RX0, TX0, 5), rfl, by decide, wd_334⟩⟩) (m_right_lf ⟨1, dX0_does_49, rfl, rfl, rfl⟩))))) (m_right_nd (m_right_nd (m_right_nd (m_right_nd (m_right_lf ⟨3, dX0_does_50, rfl, rfl, Or.inr (Or.inr ⟨5, 3, (yX0_moves, cX0_moves, 3, (some .int)), rfl, me_X0_moves, mc_X0_moves, wd_811, wd_812, wd_70⟩)⟩) (m_right_lf ⟨1, dX0_does_53, rfl, 0, .int, rfl, rfl, Or.inl ⟨rfl, rfl⟩⟩)) (m_right_nd (m_right_lf ⟨1, dX0_does_54, rfl, rfl, rfl⟩) (m_right_lf ⟨1, dX0_does_55, rfl, rfl, rfl⟩))) (m_right_nd (m_right_nd (m_right_lf ⟨3, dX0_does_56, rfl, rfl, 0, 2, rfl, Or.inl ⟨(RX0, TX0, 5), rfl, by decide, wd_334⟩⟩) (m_right_lf ⟨1, dX0_does_59, rfl, rfl, rfl⟩)) (m_right_nd (m_right_lf ⟨3, dX0_does_60, rfl, rfl, Or.inr (Or.inr ⟨6, 3, (yX0_bets, cX0_bets, 3, (some .int)), rfl, me_X0_bets, mc_X0_bets, wd_822, wd_823, wd_70⟩)⟩) (m_right_lf ⟨1, dX0_does_63, rfl, 0, .int, rfl, rfl, Or.inl ⟨rfl, rfl⟩⟩)))) (m_right_nd (m_right_nd (m_right_nd (m_right_lf ⟨1, dX0_does_64, rfl, rfl, rfl⟩) (m_right_lf ⟨1, dX0_does_65, rfl, rfl, rfl⟩)) (m_right_nd (m_right_lf ⟨3, dX0_does_66, rfl, rfl, 0, 2, rfl, Or.inl ⟨(RX0, TX0, 5), rfl, by decide, wd_334⟩⟩) (m_right_lf ⟨1, dX0_does_69, rfl, rfl, rfl⟩))) (m_right_nd (m_right_nd (m_right_lf ⟨3, dX0_does_70, rfl, rfl, Or.inr (Or.inr ⟨7, 3, (yX0_tells, cX0_tells, 4, (some .int)), rfl, me_X0_tells, mc_X0_tells, wd_827, wd_828, wd_70⟩)⟩) (m_right_lf ⟨1, dX0_does_73, rfl, 0, .int, rfl, rfl, Or.inl ⟨rfl, rfl⟩⟩)) (m_right_nd (m_right_lf ⟨1, dX0_does_74, rfl, rfl, by decide +kernel⟩) (m_right_lf ⟨1, dX0_does_75, rfl, 0, .int, rfl, rfl, Or.inl ⟨rfl, rfl⟩⟩)))))
theorem dX0_begins_0 : decode cX0_begins 0 = .ok (.aload_n 0, 1) := by decide +kernel
theorem dX0_begins_1 : decode cX0_begins 1 = .ok (.getfield 15, 3) := by decide +kernel
theorem dX0_begins_4 : decode cX0_begins 4 = .ok (.bipush 20, 2) := by decide +kernel
theorem dX0_begins_6 : decode cX0_begins 6 = .ok (.if_icmp .ge 13, 3) := by decide +kernel
theorem dX0_begins_9 : decode cX0_begins 9 = .ok (.aload_n 0, 1) := by decide +kernel
theorem dX0_begins_10 : decode cX0_begins 10 = .ok (.getfield 9, 3) := by decide +kernel
theorem dX0_begins_13 : decode cX0_begins 13 = .ok (.aload_n 0, 1) := by decide +kernel
theorem dX0_begins_14 : decode cX0_begins 14 = .ok (.getfield 15, 3) := by decide +kernel
theorem dX0_begins_17 : decode cX0_begins 17 = .ok (.iload_n 1, 1) := by decide +kernel
theorem dX0_begins_18 : decode cX0_begins 18 = .ok (.iastore, 1) := by decide +kernel
theorem dX0_begins_19 : decode cX0_begins 19 = .ok (.aload_n 0, 1) := by decide +kernel
theorem dX0_begins_20 : decode cX0_begins 20 = .ok (.dup, 1) := by decide +kernel
theorem dX0_begins_21 : decode cX0_begins 21 = .ok (.getfield 15, 3) := by decide +kernel
theorem dX0_begins_24 : decode cX0_begins 24 = .ok (.iconst 1, 1) := by decide +kernel
theorem dX0_begins_25 : decode cX0_begins 25 = .ok (.iadd, 1) := by decide +kernel
theorem dX0_begins_26 : decode cX0_begins 26 = .ok (.putfield 15, 3) := by decide +kernel
theorem dX0_begins_29 : decode cX0_begins 29 = .ok (.return_, 1) := by decide +kernel
set_option maxRecDepth 20000 in
theorem r_X0_begins : m_Right (yX0_begins, cX0_begins, 2, none) q_X0_begins := m_right_nd (m_right_nd (m_right_nd (m_right_nd (m_right_lf ⟨1, dX0_begins_0, rfl, rfl, rfl⟩) (m_right_lf ⟨3, dX0_begins_1, rfl, rfl, 0, 1, rfl, Or.inl ⟨(RX0, TX0, 5), rfl, by decide, wd_332⟩⟩)) (m_right_nd (m_right_lf ⟨2, dX0_begins_4, rfl, rfl, by decide +kernel⟩) (m_right_lf ⟨3, dX0_begins_6, rfl, rfl, 19, rfl, by decide⟩))) (m_right_nd (m_right_nd (m_right_lf ⟨1, dX0_begins_9, rfl, rfl, rfl⟩) (m_right_lf ⟨3, dX0_begins_10, rfl, rfl, 0, 0, rfl, Or.inl ⟨(RX0, TX0, 5), rfl, by decide, wd_330⟩⟩)) (m_right_nd (m_right_lf ⟨1, dX0_begins_13, rfl, rfl, rfl⟩) (m_right_lf ⟨3, dX0_begins_14, rfl, rfl, 0, 1, rfl, Or.inl ⟨(RX0, TX0, 5), rfl, by decide, wd_332⟩⟩)))) (m_right_nd (m_right_nd (m_right_nd (m_right_lf ⟨1, dX0_begins_17, rfl, rfl, rfl⟩) (m_right_lf ⟨1, dX0_begins_18, rfl, rfl⟩)) (m_right_nd (m_right_lf ⟨1, dX0_begins_19, rfl, rfl, rfl⟩) (m_right_lf ⟨1, dX0_begins_20, rfl, rfl⟩))) (m_right_nd (m_right_nd (m_right_lf ⟨3, dX0_begins_21, rfl, rfl, 0, 1, rfl, Or.inl ⟨(RX0, TX0, 5), rfl, by decide, wd_332⟩⟩) (m_right_lf ⟨1, dX0_begins_24, rfl, rfl, by decide +kernel⟩)) (m_right_nd (m_right_lf ⟨1, dX0_begins_25, rfl, rfl⟩) (m_right_nd (m_right_lf ⟨3, dX0_begins_26, rfl, rfl, 0, 1, 0, (RX0, TX0, 5), rfl, rfl, by decide, wd_332, Or.inl rfl, tyX0 1, tyX0_ok 1 (by decide), Or.inl ⟨rfl, rfl⟩⟩) (m_right_lf ⟨1, dX0_begins_29, rfl, rfl⟩)))))
theorem dX0_moves_0 : decode cX0_moves 0 = .ok (.getstatic 44, 3) := by decide +kernel
theorem dX0_moves_3 : decode cX0_moves 3 = .ok (.iload_n 1, 1) := by decide +kernel
theorem dX0_moves_4 : decode cX0_moves 4 = .ok (.iaload, 1) := by decide +kernel
theorem dX0_moves_5 : decode cX0_moves 5 = .ok (.lookupswitch 68 #[(1, 27), (5, 46)], 27) := by decide +kernel
theorem dX0_moves_32 : decode cX0_moves 32 = .ok (.aload_n 0, 1) := by decide +kernel
theorem dX0_moves_33 : decode cX0_moves 33 = .ok (.bipush 11, 2) := by decide +kernel
theorem dX0_moves_35 : decode cX0_moves 35 = .ok (.invokevirtual 47, 3) := by decide +kernel
theorem dX0_moves_38 : decode cX0_moves 38 = .ok (.aload_n 0, 1) := by decide +kernel
theorem dX0_moves_39 : decode cX0_moves 39 = .ok (.getstatic 51, 3) := by decide +kernel
theorem dX0_moves_42 : decode cX0_moves 42 = .ok (.iconst 1, 1) := by decide +kernel
theorem dX0_moves_43 : decode cX0_moves 43 = .ok (.iaload, 1) := by decide +kernel
theorem dX0_moves_44 : decode cX0_moves 44 = .ok (.iload_n 2, 1) := by decide +kernel
theorem dX0_moves_45 : decode cX0_moves 45 = .ok (.iconst 3, 1) := by decide +kernel
theorem dX0_moves_46 : decode cX0_moves 46 = .ok (.imul, 1) := by decide +kernel
theorem dX0_moves_47 : decode cX0_moves 47 = .ok (.invokestatic 34, 3) := by decide +kernel
theorem dX0_moves_50 : decode cX0_moves 50 = .ok (.ireturn, 1) := by decide +kernel
theorem dX0_moves_51 : decode cX0_moves 51 = .ok (.aload_n 0, 1) := by decide +kernel
theorem dX0_moves_52 : decode cX0_moves 52 = .ok (.bipush 51, 2) := by decide +kernel
theorem dX0_moves_54 : decode cX0_moves 54 = .ok (.invokevirtual 47, 3) := by decide +kernel
theorem dX0_moves_57 : decode cX0_moves 57 = .ok (.aload_n 0, 1) := by decide +kernel
theorem dX0_moves_58 : decode cX0_moves 58 = .ok (.getstatic 51, 3) := by decide +kernel
theorem dX0_moves_61 : decode cX0_moves 61 = .ok (.iconst 5, 1) := by decide +kernel
theorem dX0_moves_62 : decode cX0_moves 62 = .ok (.iaload, 1) := by decide +kernel
theorem dX0_moves_63 : decode cX0_moves 63 = .ok (.iload_n 2, 1) := by decide +kernel
theorem dX0_moves_64 : decode cX0_moves 64 = .ok (.invokestatic 34, 3) := by decide +kernel
theorem dX0_moves_67 : decode cX0_moves 67 = .ok (.aload_n 0, 1) := by decide +kernel
theorem dX0_moves_68 : decode cX0_moves 68 = .ok (.getfield 28, 3) := by decide +kernel
theorem dX0_moves_71 : decode cX0_moves 71 = .ok (.ixor, 1) := by decide +kernel
theorem dX0_moves_72 : decode cX0_moves 72 = .ok (.ireturn, 1) := by decide +kernel
theorem dX0_moves_73 : decode cX0_moves 73 = .ok (.aload_n 0, 1) := by decide +kernel
theorem dX0_moves_74 : decode cX0_moves 74 = .ok (.iconst 1, 1) := by decide +kernel
theorem dX0_moves_75 : decode cX0_moves 75 = .ok (.invokevirtual 47, 3) := by decide +kernel
theorem dX0_moves_78 : decode cX0_moves 78 = .ok (.iload_n 2, 1) := by decide +kernel
theorem dX0_moves_79 : decode cX0_moves 79 = .ok (.aload_n 0, 1) := by decide +kernel
theorem dX0_moves_80 : decode cX0_moves 80 = .ok (.getfield 28, 3) := by decide +kernel
theorem dX0_moves_83 : decode cX0_moves 83 = .ok (.iadd, 1) := by decide +kernel
theorem dX0_moves_84 : decode cX0_moves 84 = .ok (.ireturn, 1) := by decide +kernel
set_option maxRecDepth 20000 in
theorem r_X0_moves : m_Right (yX0_moves, cX0_moves, 3, (some .int)) q_X0_moves := m_right_nd (m_right_nd (m_right_nd (m_right_nd (m_right_nd (m_right_lf ⟨3, dX0_moves_0, rfl, rfl, "FewerMan$Acts", "MOVES", "[I", by decide +kernel, Or.inl wd_814⟩) (m_right_lf ⟨1, dX0_moves_3, rfl, rfl, rfl⟩)) (m_right_nd (m_right_lf ⟨1, dX0_moves_4, rfl, rfl⟩) (m_right_lf ⟨27, dX0_moves_5, rfl, by decide +kernel⟩))) (m_right_nd (m_right_nd (m_right_lf ⟨1, dX0_moves_32, rfl, rfl, rfl⟩) (m_right_lf ⟨2, dX0_moves_33, rfl, rfl, by decide +kernel⟩)) (m_right_nd (m_right_lf ⟨3, dX0_moves_35, rfl, rfl, 4, 1, 0, (yX0_begins, cX0_begins, 2, none), rfl, me_X0_begins, mc_X0_begins, Or.inl ⟨(RX0, TX0, 5), rfl, rfl⟩, wd_816, wd_818, wd_17, wd_70⟩) (m_right_nd (m_right_lf ⟨1, dX0_moves_38, rfl, rfl, rfl⟩) (m_right_lf ⟨3, dX0_moves_39, rfl, rfl, "FewerMan", "ABOVE", "[I", by decide +kernel, Or.inr ⟨rfl, rfl, rfl, rfl, rfl⟩⟩))))) (m_right_nd (m_right_nd (m_right_nd (m_right_lf ⟨1, dX0_moves_42, rfl, rfl, by decide +kernel⟩) (m_right_lf ⟨1, dX0_moves_43, rfl, rfl⟩)) (m_right_nd (m_right_lf ⟨1, dX0_moves_44, rfl, rfl, rfl⟩) (m_right_lf ⟨1, dX0_moves_45, rfl, rfl, by decide +kernel⟩))) (m_right_nd (m_right_nd (m_right_lf ⟨1, dX0_moves_46, rfl, rfl⟩) (m_right_lf ⟨3, dX0_moves_47, rfl, rfl, Or.inr (Or.inr ⟨5, 3, (yX0_moves, cX0_moves, 3, (some .int)), rfl, me_X0_moves, mc_X0_moves, wd_811, wd_812, wd_70⟩)⟩)) (m_right_nd (m_right_lf ⟨1, dX0_moves_50, rfl, 0, .int, rfl, rfl, Or.inl ⟨rfl, rfl⟩⟩) (m_right_nd (m_right_lf ⟨1, dX0_moves_51, rfl, rfl, rfl⟩) (m_right_lf ⟨2, dX0_moves_52, rfl, rfl, by decide +kernel⟩)))))) (m_right_nd (m_right_nd (m_right_nd (m_right_nd (m_right_lf ⟨3, dX0_moves_54, rfl, rfl, 4, 1, 0, (yX0_begins, cX0_begins, 2, none), rfl, me_X0_begins, mc_X0_begins, Or.inl ⟨(RX0, TX0, 5), rfl, rfl⟩, wd_816, wd_818, wd_17, wd_70⟩) (m_right_lf ⟨1, dX0_moves_57, rfl, rfl, rfl⟩)) (m_right_nd (m_right_lf ⟨3, dX0_moves_58, rfl, rfl, "FewerMan", "ABOVE", "[I", by decide +kernel, Or.inr ⟨rfl, rfl, rfl, rfl, rfl⟩⟩) (m_right_lf ⟨1, dX0_moves_61, rfl, rfl, by decide +kernel⟩))) (m_right_nd (m_right_nd (m_right_lf ⟨1, dX0_moves_62, rfl, rfl⟩) (m_right_lf ⟨1, dX0_moves_63, rfl, rfl, rfl⟩)) (m_right_nd (m_right_lf ⟨3, dX0_moves_64, rfl, rfl, Or.inr (Or.inr ⟨5, 3, (yX0_moves, cX0_moves, 3, (some .int)), rfl, me_X0_moves, mc_X0_moves, wd_811, wd_812, wd_70⟩)⟩) (m_right_nd (m_right_lf ⟨1, dX0_moves_67, rfl, rfl, rfl⟩) (m_right_lf ⟨3, dX0_moves_68, rfl, rfl, 0, 3, rfl, Or.inl ⟨(RX0, TX0, 5), rfl, by decide, wd_335⟩⟩))))) (m_right_nd (m_right_nd (m_right_nd (m_right_lf ⟨1, dX0_moves_71, rfl, rfl⟩) (m_right_lf ⟨1, dX0_moves_72, rfl, 0, .int, rfl, rfl, Or.inl ⟨rfl, rfl⟩⟩)) (m_right_nd (m_right_lf ⟨1, dX0_moves_73, rfl, rfl, rfl⟩) (m_right_nd (m_right_lf ⟨1, dX0_moves_74, rfl, rfl, by decide +kernel⟩) (m_right_lf ⟨3, dX0_moves_75, rfl, rfl, 4, 1, 0, (yX0_begins, cX0_begins, 2, none), rfl, me_X0_begins, mc_X0_begins, Or.inl ⟨(RX0, TX0, 5), rfl, rfl⟩, wd_816, wd_818, wd_17, wd_70⟩)))) (m_right_nd (m_right_nd (m_right_lf ⟨1, dX0_moves_78, rfl, rfl, rfl⟩) (m_right_lf ⟨1, dX0_moves_79, rfl, rfl, rfl⟩)) (m_right_nd (m_right_lf ⟨3, dX0_moves_80, rfl, rfl, 0, 3, rfl, Or.inl ⟨(RX0, TX0, 5), rfl, by decide, wd_335⟩⟩) (m_right_nd (m_right_lf ⟨1, dX0_moves_83, rfl, rfl⟩) (m_right_lf ⟨1, dX0_moves_84, rfl, 0, .int, rfl, rfl, Or.inl ⟨rfl, rfl⟩⟩))))))
theorem dX0_bets_0 : decode cX0_bets 0 = .ok (.getstatic 54, 3) := by decide +kernel
theorem dX0_bets_3 : decode cX0_bets 3 = .ok (.iload_n 1, 1) := by decide +kernel
theorem dX0_bets_4 : decode cX0_bets 4 = .ok (.iaload, 1) := by decide +kernel
theorem dX0_bets_5 : decode cX0_bets 5 = .ok (.lookupswitch 68 #[(2, 27), (6, 45)], 27) := by decide +kernel
theorem dX0_bets_32 : decode cX0_bets 32 = .ok (.aload_n 0, 1) := by decide +kernel
theorem dX0_bets_33 : decode cX0_bets 33 = .ok (.bipush 21, 2) := by decide +kernel
theorem dX0_bets_35 : decode cX0_bets 35 = .ok (.invokevirtual 47, 3) := by decide +kernel
theorem dX0_bets_38 : decode cX0_bets 38 = .ok (.aload_n 0, 1) := by decide +kernel
theorem dX0_bets_39 : decode cX0_bets 39 = .ok (.getstatic 51, 3) := by decide +kernel
theorem dX0_bets_42 : decode cX0_bets 42 = .ok (.iconst 2, 1) := by decide +kernel
theorem dX0_bets_43 : decode cX0_bets 43 = .ok (.iaload, 1) := by decide +kernel
theorem dX0_bets_44 : decode cX0_bets 44 = .ok (.iload_n 2, 1) := by decide +kernel
theorem dX0_bets_45 : decode cX0_bets 45 = .ok (.invokestatic 38, 3) := by decide +kernel
theorem dX0_bets_48 : decode cX0_bets 48 = .ok (.ineg, 1) := by decide +kernel
theorem dX0_bets_49 : decode cX0_bets 49 = .ok (.ireturn, 1) := by decide +kernel
theorem dX0_bets_50 : decode cX0_bets 50 = .ok (.aload_n 0, 1) := by decide +kernel
theorem dX0_bets_51 : decode cX0_bets 51 = .ok (.bipush 61, 2) := by decide +kernel
theorem dX0_bets_53 : decode cX0_bets 53 = .ok (.invokevirtual 47, 3) := by decide +kernel
theorem dX0_bets_56 : decode cX0_bets 56 = .ok (.aload_n 0, 1) := by decide +kernel
theorem dX0_bets_57 : decode cX0_bets 57 = .ok (.getstatic 51, 3) := by decide +kernel
theorem dX0_bets_60 : decode cX0_bets 60 = .ok (.bipush 6, 2) := by decide +kernel
theorem dX0_bets_62 : decode cX0_bets 62 = .ok (.iaload, 1) := by decide +kernel
theorem dX0_bets_63 : decode cX0_bets 63 = .ok (.iload_n 2, 1) := by decide +kernel
theorem dX0_bets_64 : decode cX0_bets 64 = .ok (.invokestatic 38, 3) := by decide +kernel
theorem dX0_bets_67 : decode cX0_bets 67 = .ok (.aload_n 0, 1) := by decide +kernel
theorem dX0_bets_68 : decode cX0_bets 68 = .ok (.getfield 31, 3) := by decide +kernel
theorem dX0_bets_71 : decode cX0_bets 71 = .ok (.iadd, 1) := by decide +kernel
theorem dX0_bets_72 : decode cX0_bets 72 = .ok (.ireturn, 1) := by decide +kernel
theorem dX0_bets_73 : decode cX0_bets 73 = .ok (.aload_n 0, 1) := by decide +kernel
theorem dX0_bets_74 : decode cX0_bets 74 = .ok (.iconst 2, 1) := by decide +kernel
theorem dX0_bets_75 : decode cX0_bets 75 = .ok (.invokevirtual 47, 3) := by decide +kernel
theorem dX0_bets_78 : decode cX0_bets 78 = .ok (.aload_n 0, 1) := by decide +kernel
theorem dX0_bets_79 : decode cX0_bets 79 = .ok (.aload_n 0, 1) := by decide +kernel
theorem dX0_bets_80 : decode cX0_bets 80 = .ok (.getfield 25, 3) := by decide +kernel
theorem dX0_bets_83 : decode cX0_bets 83 = .ok (.iload_n 2, 1) := by decide +kernel
theorem dX0_bets_84 : decode cX0_bets 84 = .ok (.invokestatic 34, 3) := by decide +kernel
theorem dX0_bets_87 : decode cX0_bets 87 = .ok (.aload_n 0, 1) := by decide +kernel
theorem dX0_bets_88 : decode cX0_bets 88 = .ok (.getfield 31, 3) := by decide +kernel
theorem dX0_bets_91 : decode cX0_bets 91 = .ok (.isub, 1) := by decide +kernel
theorem dX0_bets_92 : decode cX0_bets 92 = .ok (.ireturn, 1) := by decide +kernel
set_option maxRecDepth 20000 in
theorem r_X0_bets : m_Right (yX0_bets, cX0_bets, 3, (some .int)) q_X0_bets := m_right_nd (m_right_nd (m_right_nd (m_right_nd (m_right_nd (m_right_lf ⟨3, dX0_bets_0, rfl, rfl, "FewerMan$Acts", "BETS", "[I", by decide +kernel, Or.inl wd_825⟩) (m_right_lf ⟨1, dX0_bets_3, rfl, rfl, rfl⟩)) (m_right_nd (m_right_lf ⟨1, dX0_bets_4, rfl, rfl⟩) (m_right_nd (m_right_lf ⟨27, dX0_bets_5, rfl, by decide +kernel⟩) (m_right_lf ⟨1, dX0_bets_32, rfl, rfl, rfl⟩)))) (m_right_nd (m_right_nd (m_right_lf ⟨2, dX0_bets_33, rfl, rfl, by decide +kernel⟩) (m_right_lf ⟨3, dX0_bets_35, rfl, rfl, 4, 1, 0, (yX0_begins, cX0_begins, 2, none), rfl, me_X0_begins, mc_X0_begins, Or.inl ⟨(RX0, TX0, 5), rfl, rfl⟩, wd_816, wd_818, wd_17, wd_70⟩)) (m_right_nd (m_right_lf ⟨1, dX0_bets_38, rfl, rfl, rfl⟩) (m_right_nd (m_right_lf ⟨3, dX0_bets_39, rfl, rfl, "FewerMan", "ABOVE", "[I", by decide +kernel, Or.inr ⟨rfl, rfl, rfl, rfl, rfl⟩⟩) (m_right_lf ⟨1, dX0_bets_42, rfl, rfl, by decide +kernel⟩))))) (m_right_nd (m_right_nd (m_right_nd (m_right_lf ⟨1, dX0_bets_43, rfl, rfl⟩) (m_right_lf ⟨1, dX0_bets_44, rfl, rfl, rfl⟩)) (m_right_nd (m_right_lf ⟨3, dX0_bets_45, rfl, rfl, Or.inr (Or.inr ⟨6, 3, (yX0_bets, cX0_bets, 3, (some .int)), rfl, me_X0_bets, mc_X0_bets, wd_822, wd_823, wd_70⟩)⟩) (m_right_nd (m_right_lf ⟨1, dX0_bets_48, rfl, rfl⟩) (m_right_lf ⟨1, dX0_bets_49, rfl, 0, .int, rfl, rfl, Or.inl ⟨rfl, rfl⟩⟩)))) (m_right_nd (m_right_nd (m_right_lf ⟨1, dX0_bets_50, rfl, rfl, rfl⟩) (m_right_lf ⟨2, dX0_bets_51, rfl, rfl, by decide +kernel⟩)) (m_right_nd (m_right_lf ⟨3, dX0_bets_53, rfl, rfl, 4, 1, 0, (yX0_begins, cX0_begins, 2, none), rfl, me_X0_begins, mc_X0_begins, Or.inl ⟨(RX0, TX0, 5), rfl, rfl⟩, wd_816, wd_818, wd_17, wd_70⟩) (m_right_nd (m_right_lf ⟨1, dX0_bets_56, rfl, rfl, rfl⟩) (m_right_lf ⟨3, dX0_bets_57, rfl, rfl, "FewerMan", "ABOVE", "[I", by decide +kernel, Or.inr ⟨rfl, rfl, rfl, rfl, rfl⟩⟩)))))) (m_right_nd (m_right_nd (m_right_nd (m_right_nd (m_right_lf ⟨2, dX0_bets_60, rfl, rfl, by decide +kernel⟩) (m_right_lf ⟨1, dX0_bets_62, rfl, rfl⟩)) (m_right_nd (m_right_lf ⟨1, dX0_bets_63, rfl, rfl, rfl⟩) (m_right_nd (m_right_lf ⟨3, dX0_bets_64, rfl, rfl, Or.inr (Or.inr ⟨6, 3, (yX0_bets, cX0_bets, 3, (some .int)), rfl, me_X0_bets, mc_X0_bets, wd_822, wd_823, wd_70⟩)⟩) (m_right_lf ⟨1, dX0_bets_67, rfl, rfl, rfl⟩)))) (m_right_nd (m_right_nd (m_right_lf ⟨3, dX0_bets_68, rfl, rfl, 0, 4, rfl, Or.inl ⟨(RX0, TX0, 5), rfl, by decide, wd_336⟩⟩) (m_right_lf ⟨1, dX0_bets_71, rfl, rfl⟩)) (m_right_nd (m_right_lf ⟨1, dX0_bets_72, rfl, 0, .int, rfl, rfl, Or.inl ⟨rfl, rfl⟩⟩) (m_right_nd (m_right_lf ⟨1, dX0_bets_73, rfl, rfl, rfl⟩) (m_right_lf ⟨1, dX0_bets_74, rfl, rfl, by decide +kernel⟩))))) (m_right_nd (m_right_nd (m_right_nd (m_right_lf ⟨3, dX0_bets_75, rfl, rfl, 4, 1, 0, (yX0_begins, cX0_begins, 2, none), rfl, me_X0_begins, mc_X0_begins, Or.inl ⟨(RX0, TX0, 5), rfl, rfl⟩, wd_816, wd_818, wd_17, wd_70⟩) (m_right_lf ⟨1, dX0_bets_78, rfl, rfl, rfl⟩)) (m_right_nd (m_right_lf ⟨1, dX0_bets_79, rfl, rfl, rfl⟩) (m_right_nd (m_right_lf ⟨3, dX0_bets_80, rfl, rfl, 0, 2, rfl, Or.inl ⟨(RX0, TX0, 5), rfl, by decide, wd_334⟩⟩) (m_right_lf ⟨1, dX0_bets_83, rfl, rfl, rfl⟩)))) (m_right_nd (m_right_nd (m_right_lf ⟨3, dX0_bets_84, rfl, rfl, Or.inr (Or.inr ⟨5, 3, (yX0_moves, cX0_moves, 3, (some .int)), rfl, me_X0_moves, mc_X0_moves, wd_811, wd_812, wd_70⟩)⟩) (m_right_lf ⟨1, dX0_bets_87, rfl, rfl, rfl⟩)) (m_right_nd (m_right_lf ⟨3, dX0_bets_88, rfl, rfl, 0, 4, rfl, Or.inl ⟨(RX0, TX0, 5), rfl, by decide, wd_336⟩⟩) (m_right_nd (m_right_lf ⟨1, dX0_bets_91, rfl, rfl⟩) (m_right_lf ⟨1, dX0_bets_92, rfl, 0, .int, rfl, rfl, Or.inl ⟨rfl, rfl⟩⟩))))))
theorem dX0_tells_0 : decode cX0_tells 0 = .ok (.getstatic 57, 3) := by decide +kernel
theorem dX0_tells_3 : decode cX0_tells 3 = .ok (.iload_n 1, 1) := by decide +kernel
theorem dX0_tells_4 : decode cX0_tells 4 = .ok (.iaload, 1) := by decide +kernel
theorem dX0_tells_5 : decode cX0_tells 5 = .ok (.lookupswitch 78 #[(3, 27), (4, 47)], 27) := by decide +kernel
theorem dX0_tells_32 : decode cX0_tells 32 = .ok (.aload_n 0, 1) := by decide +kernel
theorem dX0_tells_33 : decode cX0_tells 33 = .ok (.bipush 31, 2) := by decide +kernel
theorem dX0_tells_35 : decode cX0_tells 35 = .ok (.invokevirtual 47, 3) := by decide +kernel
theorem dX0_tells_38 : decode cX0_tells 38 = .ok (.aload_n 0, 1) := by decide +kernel
theorem dX0_tells_39 : decode cX0_tells 39 = .ok (.getstatic 51, 3) := by decide +kernel
theorem dX0_tells_42 : decode cX0_tells 42 = .ok (.iconst 3, 1) := by decide +kernel
theorem dX0_tells_43 : decode cX0_tells 43 = .ok (.iaload, 1) := by decide +kernel
theorem dX0_tells_44 : decode cX0_tells 44 = .ok (.iload_n 2, 1) := by decide +kernel
theorem dX0_tells_45 : decode cX0_tells 45 = .ok (.invokestatic 41, 3) := by decide +kernel
theorem dX0_tells_48 : decode cX0_tells 48 = .ok (.bipush 7, 2) := by decide +kernel
theorem dX0_tells_50 : decode cX0_tells 50 = .ok (.ixor, 1) := by decide +kernel
theorem dX0_tells_51 : decode cX0_tells 51 = .ok (.ireturn, 1) := by decide +kernel
theorem dX0_tells_52 : decode cX0_tells 52 = .ok (.aload_n 0, 1) := by decide +kernel
theorem dX0_tells_53 : decode cX0_tells 53 = .ok (.bipush 41, 2) := by decide +kernel
theorem dX0_tells_55 : decode cX0_tells 55 = .ok (.invokevirtual 47, 3) := by decide +kernel
theorem dX0_tells_58 : decode cX0_tells 58 = .ok (.aload_n 0, 1) := by decide +kernel
theorem dX0_tells_59 : decode cX0_tells 59 = .ok (.getstatic 51, 3) := by decide +kernel
theorem dX0_tells_62 : decode cX0_tells 62 = .ok (.iconst 4, 1) := by decide +kernel
theorem dX0_tells_63 : decode cX0_tells 63 = .ok (.iaload, 1) := by decide +kernel
theorem dX0_tells_64 : decode cX0_tells 64 = .ok (.iload_n 2, 1) := by decide +kernel
theorem dX0_tells_65 : decode cX0_tells 65 = .ok (.iconst 1, 1) := by decide +kernel
theorem dX0_tells_66 : decode cX0_tells 66 = .ok (.isub, 1) := by decide +kernel
theorem dX0_tells_67 : decode cX0_tells 67 = .ok (.invokestatic 41, 3) := by decide +kernel
theorem dX0_tells_70 : decode cX0_tells 70 = .ok (.istore_n 3, 1) := by decide +kernel
theorem dX0_tells_71 : decode cX0_tells 71 = .ok (.iload_n 3, 1) := by decide +kernel
theorem dX0_tells_72 : decode cX0_tells 72 = .ok (.aload_n 0, 1) := by decide +kernel
theorem dX0_tells_73 : decode cX0_tells 73 = .ok (.aload_n 0, 1) := by decide +kernel
theorem dX0_tells_74 : decode cX0_tells 74 = .ok (.getfield 25, 3) := by decide +kernel
theorem dX0_tells_77 : decode cX0_tells 77 = .ok (.iconst 2, 1) := by decide +kernel
theorem dX0_tells_78 : decode cX0_tells 78 = .ok (.invokestatic 34, 3) := by decide +kernel
theorem dX0_tells_81 : decode cX0_tells 81 = .ok (.iadd, 1) := by decide +kernel
theorem dX0_tells_82 : decode cX0_tells 82 = .ok (.ireturn, 1) := by decide +kernel
theorem dX0_tells_83 : decode cX0_tells 83 = .ok (.aload_n 0, 1) := by decide +kernel
theorem dX0_tells_84 : decode cX0_tells 84 = .ok (.iconst 3, 1) := by decide +kernel
theorem dX0_tells_85 : decode cX0_tells 85 = .ok (.invokevirtual 47, 3) := by decide +kernel
theorem dX0_tells_88 : decode cX0_tells 88 = .ok (.aload_n 0, 1) := by decide +kernel
theorem dX0_tells_89 : decode cX0_tells 89 = .ok (.aload_n 0, 1) := by decide +kernel
theorem dX0_tells_90 : decode cX0_tells 90 = .ok (.getfield 25, 3) := by decide +kernel
theorem dX0_tells_93 : decode cX0_tells 93 = .ok (.iload_n 2, 1) := by decide +kernel
theorem dX0_tells_94 : decode cX0_tells 94 = .ok (.invokestatic 38, 3) := by decide +kernel
theorem dX0_tells_97 : decode cX0_tells 97 = .ok (.iconst 2, 1) := by decide +kernel
theorem dX0_tells_98 : decode cX0_tells 98 = .ok (.imul, 1) := by decide +kernel
theorem dX0_tells_99 : decode cX0_tells 99 = .ok (.ireturn, 1) := by decide +kernel
set_option maxRecDepth 20000 in
theorem r_X0_tells : m_Right (yX0_tells, cX0_tells, 4, (some .int)) q_X0_tells := m_right_nd (m_right_nd (m_right_nd (m_right_nd (m_right_nd (m_right_lf ⟨3, dX0_tells_0, rfl, rfl, "FewerMan$Acts", "TELLS", "[I", by decide +kernel, Or.inl wd_830⟩) (m_right_lf ⟨1, dX0_tells_3, rfl, rfl, rfl⟩)) (m_right_nd (m_right_lf ⟨1, dX0_tells_4, rfl, rfl⟩) (m_right_nd (m_right_lf ⟨27, dX0_tells_5, rfl, by decide +kernel⟩) (m_right_lf ⟨1, dX0_tells_32, rfl, rfl, rfl⟩)))) (m_right_nd (m_right_nd (m_right_lf ⟨2, dX0_tells_33, rfl, rfl, by decide +kernel⟩) (m_right_nd (m_right_lf ⟨3, dX0_tells_35, rfl, rfl, 4, 1, 0, (yX0_begins, cX0_begins, 2, none), rfl, me_X0_begins, mc_X0_begins, Or.inl ⟨(RX0, TX0, 5), rfl, rfl⟩, wd_816, wd_818, wd_17, wd_70⟩) (m_right_lf ⟨1, dX0_tells_38, rfl, rfl, rfl⟩))) (m_right_nd (m_right_lf ⟨3, dX0_tells_39, rfl, rfl, "FewerMan", "ABOVE", "[I", by decide +kernel, Or.inr ⟨rfl, rfl, rfl, rfl, rfl⟩⟩) (m_right_nd (m_right_lf ⟨1, dX0_tells_42, rfl, rfl, by decide +kernel⟩) (m_right_lf ⟨1, dX0_tells_43, rfl, rfl⟩))))) (m_right_nd (m_right_nd (m_right_nd (m_right_lf ⟨1, dX0_tells_44, rfl, rfl, rfl⟩) (m_right_nd (m_right_lf ⟨3, dX0_tells_45, rfl, rfl, Or.inr (Or.inr ⟨7, 3, (yX0_tells, cX0_tells, 4, (some .int)), rfl, me_X0_tells, mc_X0_tells, wd_827, wd_828, wd_70⟩)⟩) (m_right_lf ⟨2, dX0_tells_48, rfl, rfl, by decide +kernel⟩))) (m_right_nd (m_right_lf ⟨1, dX0_tells_50, rfl, rfl⟩) (m_right_nd (m_right_lf ⟨1, dX0_tells_51, rfl, 0, .int, rfl, rfl, Or.inl ⟨rfl, rfl⟩⟩) (m_right_lf ⟨1, dX0_tells_52, rfl, rfl, rfl⟩)))) (m_right_nd (m_right_nd (m_right_lf ⟨2, dX0_tells_53, rfl, rfl, by decide +kernel⟩) (m_right_nd (m_right_lf ⟨3, dX0_tells_55, rfl, rfl, 4, 1, 0, (yX0_begins, cX0_begins, 2, none), rfl, me_X0_begins, mc_X0_begins, Or.inl ⟨(RX0, TX0, 5), rfl, rfl⟩, wd_816, wd_818, wd_17, wd_70⟩) (m_right_lf ⟨1, dX0_tells_58, rfl, rfl, rfl⟩))) (m_right_nd (m_right_lf ⟨3, dX0_tells_59, rfl, rfl, "FewerMan", "ABOVE", "[I", by decide +kernel, Or.inr ⟨rfl, rfl, rfl, rfl, rfl⟩⟩) (m_right_nd (m_right_lf ⟨1, dX0_tells_62, rfl, rfl, by decide +kernel⟩) (m_right_lf ⟨1, dX0_tells_63, rfl, rfl⟩)))))) (m_right_nd (m_right_nd (m_right_nd (m_right_nd (m_right_lf ⟨1, dX0_tells_64, rfl, rfl, rfl⟩) (m_right_nd (m_right_lf ⟨1, dX0_tells_65, rfl, rfl, by decide +kernel⟩) (m_right_lf ⟨1, dX0_tells_66, rfl, rfl⟩))) (m_right_nd (m_right_lf ⟨3, dX0_tells_67, rfl, rfl, Or.inr (Or.inr ⟨7, 3, (yX0_tells, cX0_tells, 4, (some .int)), rfl, me_X0_tells, mc_X0_tells, wd_827, wd_828, wd_70⟩)⟩) (m_right_nd (m_right_lf ⟨1, dX0_tells_70, rfl, rfl, rfl⟩) (m_right_lf ⟨1, dX0_tells_71, rfl, rfl, rfl⟩)))) (m_right_nd (m_right_nd (m_right_lf ⟨1, dX0_tells_72, rfl, rfl, rfl⟩) (m_right_nd (m_right_lf ⟨1, dX0_tells_73, rfl, rfl, rfl⟩) (m_right_lf ⟨3, dX0_tells_74, rfl, rfl, 0, 2, rfl, Or.inl ⟨(RX0, TX0, 5), rfl, by decide, wd_334⟩⟩))) (m_right_nd (m_right_lf ⟨1, dX0_tells_77, rfl, rfl, by decide +kernel⟩) (m_right_nd (m_right_lf ⟨3, dX0_tells_78, rfl, rfl, Or.inr (Or.inr ⟨5, 3, (yX0_moves, cX0_moves, 3, (some .int)), rfl, me_X0_moves, mc_X0_moves, wd_811, wd_812, wd_70⟩)⟩) (m_right_lf ⟨1, dX0_tells_81, rfl, rfl⟩))))) (m_right_nd (m_right_nd (m_right_nd (m_right_lf ⟨1, dX0_tells_82, rfl, 0, .int, rfl, rfl, Or.inl ⟨rfl, rfl⟩⟩) (m_right_nd (m_right_lf ⟨1, dX0_tells_83, rfl, rfl, rfl⟩) (m_right_lf ⟨1, dX0_tells_84, rfl, rfl, by decide +kernel⟩))) (m_right_nd (m_right_lf ⟨3, dX0_tells_85, rfl, rfl, 4, 1, 0, (yX0_begins, cX0_begins, 2, none), rfl, me_X0_begins, mc_X0_begins, Or.inl ⟨(RX0, TX0, 5), rfl, rfl⟩, wd_816, wd_818, wd_17, wd_70⟩) (m_right_nd (m_right_lf ⟨1, dX0_tells_88, rfl, rfl, rfl⟩) (m_right_lf ⟨1, dX0_tells_89, rfl, rfl, rfl⟩)))) (m_right_nd (m_right_nd (m_right_lf ⟨3, dX0_tells_90, rfl, rfl, 0, 2, rfl, Or.inl ⟨(RX0, TX0, 5), rfl, by decide, wd_334⟩⟩) (m_right_nd (m_right_lf ⟨1, dX0_tells_93, rfl, rfl, rfl⟩) (m_right_lf ⟨3, dX0_tells_94, rfl, rfl, Or.inr (Or.inr ⟨6, 3, (yX0_bets, cX0_bets, 3, (some .int)), rfl, me_X0_bets, mc_X0_bets, wd_822, wd_823, wd_70⟩)⟩))) (m_right_nd (m_right_lf ⟨1, dX0_tells_97, rfl, rfl, by decide +kernel⟩) (m_right_nd (m_right_lf ⟨1, dX0_tells_98, rfl, rfl⟩) (m_right_lf ⟨1, dX0_tells_99, rfl, 0, .int, rfl, rfl, Or.inl ⟨rfl, rfl⟩⟩))))))
theorem dX1_init_0 : decode cX1_init 0 = .ok (.aload_n 0, 1) := by decide +kernel
theorem dX1_init_1 : decode cX1_init 1 = .ok (.invokespecial 3, 3) := by decide +kernel
theorem dX1_init_4 : decode cX1_init 4 = .ok (.aload_n 0, 1) := by decide +kernel
theorem dX1_init_5 : decode cX1_init 5 = .ok (.sipush 400, 3) := by decide +kernel
theorem dX1_init_8 : decode cX1_init 8 = .ok (.newarray .int, 2) := by decide +kernel
theorem dX1_init_10 : decode cX1_init 10 = .ok (.putfield 11, 3) := by decide +kernel
theorem dX1_init_13 : decode cX1_init 13 = .ok (.aload_n 0, 1) := by decide +kernel
theorem dX1_init_14 : decode cX1_init 14 = .ok (.sipush 400, 3) := by decide +kernel
theorem dX1_init_17 : decode cX1_init 17 = .ok (.newarray .boolean, 2) := by decide +kernel
theorem dX1_init_19 : decode cX1_init 19 = .ok (.putfield 15, 3) := by decide +kernel
theorem dX1_init_22 : decode cX1_init 22 = .ok (.aload_n 0, 1) := by decide +kernel
theorem dX1_init_23 : decode cX1_init 23 = .ok (.sipush 5200, 3) := by decide +kernel
theorem dX1_init_26 : decode cX1_init 26 = .ok (.newarray .long, 2) := by decide +kernel
theorem dX1_init_28 : decode cX1_init 28 = .ok (.putfield 19, 3) := by decide +kernel
theorem dX1_init_31 : decode cX1_init 31 = .ok (.return_, 1) := by decide +kernel
set_option maxRecDepth 20000 in
theorem r_X1_init : m_Right (yX1_init, cX1_init, 1, none) q_X1_init := m_right_nd (m_right_nd (m_right_nd (m_right_lf ⟨1, dX1_init_0, rfl, rfl, rfl⟩) (m_right_nd (m_right_lf ⟨3, dX1_init_1, rfl, rfl, Or.inl ⟨rfl, wd_213, wd_86, wd_87⟩⟩) (m_right_lf ⟨1, dX1_init_4, rfl, rfl, rfl⟩))) (m_right_nd (m_right_nd (m_right_lf ⟨3, dX1_init_5, rfl, rfl, by decide +kernel⟩) (m_right_lf ⟨2, dX1_init_8, rfl, rfl, Or.inl ⟨rfl, rfl⟩, wd_168⟩)) (m_right_nd (m_right_lf ⟨3, dX1_init_10, rfl, rfl, 1, 0, 3, (RX1, TX1, 4), rfl, rfl, by decide, wd_214, Or.inr ⟨rfl, rfl, rfl⟩, tyX1 0, tyX1_ok 0 (by decide), Or.inr (Or.inr (Or.inr ⟨rfl, Or.inr ⟨_, rfl⟩⟩))⟩) (m_right_lf ⟨1, dX1_init_13, rfl, rfl, rfl⟩)))) (m_right_nd (m_right_nd (m_right_nd (m_right_lf ⟨3, dX1_init_14, rfl, rfl, by decide +kernel⟩) (m_right_lf ⟨2, dX1_init_17, rfl, rfl, Or.inr (Or.inr ⟨rfl, rfl⟩), wd_229⟩)) (m_right_nd (m_right_lf ⟨3, dX1_init_19, rfl, rfl, 1, 2, 3, (RX1, TX1, 4), rfl, rfl, by decide, wd_218, Or.inr ⟨rfl, rfl, rfl⟩, tyX1 2, tyX1_ok 2 (by decide), Or.inr (Or.inr (Or.inr ⟨rfl, Or.inr ⟨_, rfl⟩⟩))⟩) (m_right_lf ⟨1, dX1_init_22, rfl, rfl, rfl⟩))) (m_right_nd (m_right_nd (m_right_lf ⟨3, dX1_init_23, rfl, rfl, by decide +kernel⟩) (m_right_lf ⟨2, dX1_init_26, rfl, rfl, Or.inr (Or.inl ⟨rfl, rfl⟩), wd_230⟩)) (m_right_nd (m_right_lf ⟨3, dX1_init_28, rfl, rfl, 1, 3, 3, (RX1, TX1, 4), rfl, rfl, by decide, wd_219, Or.inr ⟨rfl, rfl, rfl⟩, tyX1 3, tyX1_ok 3 (by decide), Or.inr (Or.inr (Or.inr ⟨rfl, Or.inr ⟨_, rfl⟩⟩))⟩) (m_right_lf ⟨1, dX1_init_31, rfl, rfl⟩))))
theorem dX1_pairOf_0 : decode cX1_pairOf 0 = .ok (.iload_n 0, 1) := by decide +kernel
theorem dX1_pairOf_1 : decode cX1_pairOf 1 = .ok (.iconst 1, 1) := by decide +kernel
theorem dX1_pairOf_2 : decode cX1_pairOf 2 = .ok (.isub, 1) := by decide +kernel
theorem dX1_pairOf_3 : decode cX1_pairOf 3 = .ok (.bipush 20, 2) := by decide +kernel
theorem dX1_pairOf_5 : decode cX1_pairOf 5 = .ok (.imul, 1) := by decide +kernel
theorem dX1_pairOf_6 : decode cX1_pairOf 6 = .ok (.iload_n 1, 1) := by decide +kernel
theorem dX1_pairOf_7 : decode cX1_pairOf 7 = .ok (.iadd, 1) := by decide +kernel
theorem dX1_pairOf_8 : decode cX1_pairOf 8 = .ok (.iconst 1, 1) := by decide +kernel
theorem dX1_pairOf_9 : decode cX1_pairOf 9 = .ok (.isub, 1) := by decide +kernel
theorem dX1_pairOf_10 : decode cX1_pairOf 10 = .ok (.ireturn, 1) := by decide +kernel
set_option maxRecDepth 20000 in
theorem r_X1_pairOf : m_Right (yX1_pairOf, cX1_pairOf, 2, (some .int)) q_X1_pairOf := m_right_nd (m_right_nd (m_right_nd (m_right_lf ⟨1, dX1_pairOf_0, rfl, rfl, rfl⟩) (m_right_lf ⟨1, dX1_pairOf_1, rfl, rfl, by decide +kernel⟩)) (m_right_nd (m_right_lf ⟨1, dX1_pairOf_2, rfl, rfl⟩) (m_right_nd (m_right_lf ⟨2, dX1_pairOf_3, rfl, rfl, by decide +kernel⟩) (m_right_lf ⟨1, dX1_pairOf_5, rfl, rfl⟩)))) (m_right_nd (m_right_nd (m_right_lf ⟨1, dX1_pairOf_6, rfl, rfl, rfl⟩) (m_right_lf ⟨1, dX1_pairOf_7, rfl, rfl⟩)) (m_right_nd (m_right_lf ⟨1, dX1_pairOf_8, rfl, rfl, by decide +kernel⟩) (m_right_nd (m_right_lf ⟨1, dX1_pairOf_9, rfl, rfl⟩) (m_right_lf ⟨1, dX1_pairOf_10, rfl, 0, .int, rfl, rfl, Or.inl ⟨rfl, rfl⟩⟩))))
theorem dX1_menOfOne_0 : decode cX1_menOfOne 0 = .ok (.iload_n 0, 1) := by decide +kernel
theorem dX1_menOfOne_1 : decode cX1_menOfOne 1 = .ok (.bipush 20, 2) := by decide +kernel
theorem dX1_menOfOne_3 : decode cX1_menOfOne 3 = .ok (.idiv, 1) := by decide +kernel
theorem dX1_menOfOne_4 : decode cX1_menOfOne 4 = .ok (.iconst 1, 1) := by decide +kernel
theorem dX1_menOfOne_5 : decode cX1_menOfOne 5 = .ok (.iadd, 1) := by decide +kernel
theorem dX1_menOfOne_6 : decode cX1_menOfOne 6 = .ok (.ireturn, 1) := by decide +kernel
set_option maxRecDepth 20000 in
theorem r_X1_menOfOne : m_Right (yX1_menOfOne, cX1_menOfOne, 1, (some .int)) q_X1_menOfOne := m_right_nd (m_right_nd (m_right_lf ⟨1, dX1_menOfOne_0, rfl, rfl, rfl⟩) (m_right_nd (m_right_lf ⟨2, dX1_menOfOne_1, rfl, rfl, by decide +kernel⟩) (m_right_lf ⟨1, dX1_menOfOne_3, rfl, rfl⟩))) (m_right_nd (m_right_lf ⟨1, dX1_menOfOne_4, rfl, rfl, by decide +kernel⟩) (m_right_nd (m_right_lf ⟨1, dX1_menOfOne_5, rfl, rfl⟩) (m_right_lf ⟨1, dX1_menOfOne_6, rfl, 0, .int, rfl, rfl, Or.inl ⟨rfl, rfl⟩⟩)))
theorem dX1_menOfOther_0 : decode cX1_menOfOther 0 = .ok (.iload_n 0, 1) := by decide +kernel
theorem dX1_menOfOther_1 : decode cX1_menOfOther 1 = .ok (.bipush 20, 2) := by decide +kernel
theorem dX1_menOfOther_3 : decode cX1_menOfOther 3 = .ok (.irem, 1) := by decide +kernel
theorem dX1_menOfOther_4 : decode cX1_menOfOther 4 = .ok (.iconst 1, 1) := by decide +kernel
theorem dX1_menOfOther_5 : decode cX1_menOfOther 5 = .ok (.iadd, 1) := by decide +kernel
theorem dX1_menOfOther_6 : decode cX1_menOfOther 6 = .ok (.ireturn, 1) := by decide +kernel
set_option maxRecDepth 20000 in
theorem r_X1_menOfOther : m_Right (yX1_menOfOther, cX1_menOfOther, 1, (some .int)) q_X1_menOfOther := m_right_nd (m_right_nd (m_right_lf ⟨1, dX1_menOfOther_0, rfl, rfl, rfl⟩) (m_right_nd (m_right_lf ⟨2, dX1_menOfOther_1, rfl, rfl, by decide +kernel⟩) (m_right_lf ⟨1, dX1_menOfOther_3, rfl, rfl⟩))) (m_right_nd (m_right_lf ⟨1, dX1_menOfOther_4, rfl, rfl, by decide +kernel⟩) (m_right_nd (m_right_lf ⟨1, dX1_menOfOther_5, rfl, rfl⟩) (m_right_lf ⟨1, dX1_menOfOther_6, rfl, 0, .int, rfl, rfl, Or.inl ⟨rfl, rfl⟩⟩)))
theorem dX1_add_0 : decode cX1_add 0 = .ok (.aload_n 0, 1) := by decide +kernel
theorem dX1_add_1 : decode cX1_add 1 = .ok (.getfield 15, 3) := by decide +kernel
theorem dX1_add_4 : decode cX1_add 4 = .ok (.iload_n 1, 1) := by decide +kernel
theorem dX1_add_5 : decode cX1_add 5 = .ok (.baload, 1) := by decide +kernel
theorem dX1_add_6 : decode cX1_add 6 = .ok (.ifCond .ne 30, 3) := by decide +kernel
theorem dX1_add_9 : decode cX1_add 9 = .ok (.aload_n 0, 1) := by decide +kernel
theorem dX1_add_10 : decode cX1_add 10 = .ok (.getfield 15, 3) := by decide +kernel
theorem dX1_add_13 : decode cX1_add 13 = .ok (.iload_n 1, 1) := by decide +kernel
theorem dX1_add_14 : decode cX1_add 14 = .ok (.iconst 1, 1) := by decide +kernel
theorem dX1_add_15 : decode cX1_add 15 = .ok (.bastore, 1) := by decide +kernel
theorem dX1_add_16 : decode cX1_add 16 = .ok (.aload_n 0, 1) := by decide +kernel
theorem dX1_add_17 : decode cX1_add 17 = .ok (.getfield 11, 3) := by decide +kernel
theorem dX1_add_20 : decode cX1_add 20 = .ok (.aload_n 0, 1) := by decide +kernel
theorem dX1_add_21 : decode cX1_add 21 = .ok (.getfield 23, 3) := by decide +kernel
theorem dX1_add_24 : decode cX1_add 24 = .ok (.iload_n 1, 1) := by decide +kernel
theorem dX1_add_25 : decode cX1_add 25 = .ok (.iastore, 1) := by decide +kernel
theorem dX1_add_26 : decode cX1_add 26 = .ok (.aload_n 0, 1) := by decide +kernel
theorem dX1_add_27 : decode cX1_add 27 = .ok (.dup, 1) := by decide +kernel
theorem dX1_add_28 : decode cX1_add 28 = .ok (.getfield 23, 3) := by decide +kernel
theorem dX1_add_31 : decode cX1_add 31 = .ok (.iconst 1, 1) := by decide +kernel
theorem dX1_add_32 : decode cX1_add 32 = .ok (.iadd, 1) := by decide +kernel
theorem dX1_add_33 : decode cX1_add 33 = .ok (.putfield 23, 3) := by decide +kernel
theorem dX1_add_36 : decode cX1_add 36 = .ok (.aload_n 0, 1) := by decide +kernel
theorem dX1_add_37 : decode cX1_add 37 = .ok (.getfield 19, 3) := by decide +kernel
theorem dX1_add_40 : decode cX1_add 40 = .ok (.iload_n 1, 1) := by decide +kernel
theorem dX1_add_41 : decode cX1_add 41 = .ok (.bipush 13, 2) := by decide +kernel
theorem dX1_add_43 : decode cX1_add 43 = .ok (.imul, 1) := by decide +kernel
theorem dX1_add_44 : decode cX1_add 44 = .ok (.iload_n 2, 1) := by decide +kernel
theorem dX1_add_45 : decode cX1_add 45 = .ok (.iadd, 1) := by decide +kernel
theorem dX1_add_46 : decode cX1_add 46 = .ok (.dup2, 1) := by decide +kernel
theorem dX1_add_47 : decode cX1_add 47 = .ok (.laload, 1) := by decide +kernel
theorem dX1_add_48 : decode cX1_add 48 = .ok (.lload_n 3, 1) := by decide +kernel
theorem dX1_add_49 : decode cX1_add 49 = .ok (.ladd, 1) := by decide +kernel
theorem dX1_add_50 : decode cX1_add 50 = .ok (.lastore, 1) := by decide +kernel
theorem dX1_add_51 : decode cX1_add 51 = .ok (.return_, 1) := by decide +kernel
set_option maxRecDepth 20000 in
theorem r_X1_add : m_Right (yX1_add, cX1_add, 5, none) q_X1_add := m_right_nd (m_right_nd (m_right_nd (m_right_nd (m_right_nd (m_right_lf ⟨1, dX1_add_0, rfl, rfl, rfl⟩) (m_right_lf ⟨3, dX1_add_1, rfl, rfl, 1, 2, rfl, Or.inl ⟨(RX1, TX1, 4), rfl, by decide, wd_218⟩⟩)) (m_right_nd (m_right_lf ⟨1, dX1_add_4, rfl, rfl, rfl⟩) (m_right_lf ⟨1, dX1_add_5, rfl, rfl⟩))) (m_right_nd (m_right_nd (m_right_lf ⟨3, dX1_add_6, rfl, rfl, 36, rfl, by decide⟩) (m_right_lf ⟨1, dX1_add_9, rfl, rfl, rfl⟩)) (m_right_nd (m_right_lf ⟨3, dX1_add_10, rfl, rfl, 1, 2, rfl, Or.inl ⟨(RX1, TX1, 4), rfl, by decide, wd_218⟩⟩) (m_right_lf ⟨1, dX1_add_13, rfl, rfl, rfl⟩)))) (m_right_nd (m_right_nd (m_right_nd (m_right_lf ⟨1, dX1_add_14, rfl, rfl, by decide +kernel⟩) (m_right_lf ⟨1, dX1_add_15, rfl, rfl⟩)) (m_right_nd (m_right_lf ⟨1, dX1_add_16, rfl, rfl, rfl⟩) (m_right_lf ⟨3, dX1_add_17, rfl, rfl, 1, 0, rfl, Or.inl ⟨(RX1, TX1, 4), rfl, by decide, wd_214⟩⟩))) (m_right_nd (m_right_nd (m_right_lf ⟨1, dX1_add_20, rfl, rfl, rfl⟩) (m_right_lf ⟨3, dX1_add_21, rfl, rfl, 1, 1, rfl, Or.inl ⟨(RX1, TX1, 4), rfl, by decide, wd_217⟩⟩)) (m_right_nd (m_right_lf ⟨1, dX1_add_24, rfl, rfl, rfl⟩) (m_right_nd (m_right_lf ⟨1, dX1_add_25, rfl, rfl⟩) (m_right_lf ⟨1, dX1_add_26, rfl, rfl, rfl⟩)))))) (m_right_nd (m_right_nd (m_right_nd (m_right_nd (m_right_lf ⟨1, dX1_add_27, rfl, rfl⟩) (m_right_lf ⟨3, dX1_add_28, rfl, rfl, 1, 1, rfl, Or.inl ⟨(RX1, TX1, 4), rfl, by decide, wd_217⟩⟩)) (m_right_nd (m_right_lf ⟨1, dX1_add_31, rfl, rfl, by decide +kernel⟩) (m_right_lf ⟨1, dX1_add_32, rfl, rfl⟩))) (m_right_nd (m_right_nd (m_right_lf ⟨3, dX1_add_33, rfl, rfl, 1, 1, 0, (RX1, TX1, 4), rfl, rfl, by decide, wd_217, Or.inl rfl, tyX1 1, tyX1_ok 1 (by decide), Or.inl ⟨rfl, rfl⟩⟩) (m_right_lf ⟨1, dX1_add_36, rfl, rfl, rfl⟩)) (m_right_nd (m_right_lf ⟨3, dX1_add_37, rfl, rfl, 1, 3, rfl, Or.inl ⟨(RX1, TX1, 4), rfl, by decide, wd_219⟩⟩) (m_right_nd (m_right_lf ⟨1, dX1_add_40, rfl, rfl, rfl⟩) (m_right_lf ⟨2, dX1_add_41, rfl, rfl, by decide +kernel⟩))))) (m_right_nd (m_right_nd (m_right_nd (m_right_lf ⟨1, dX1_add_43, rfl, rfl⟩) (m_right_lf ⟨1, dX1_add_44, rfl, rfl, rfl⟩)) (m_right_nd (m_right_lf ⟨1, dX1_add_45, rfl, rfl⟩) (m_right_lf ⟨1, dX1_add_46, rfl, rfl⟩))) (m_right_nd (m_right_nd (m_right_lf ⟨1, dX1_add_47, rfl, rfl⟩) (m_right_lf ⟨1, dX1_add_48, rfl, rfl, rfl⟩)) (m_right_nd (m_right_lf ⟨1, dX1_add_49, rfl, rfl⟩) (m_right_nd (m_right_lf ⟨1, dX1_add_50, rfl, rfl⟩) (m_right_lf ⟨1, dX1_add_51, rfl, rfl⟩))))))
theorem dX1_part_0 : decode cX1_part 0 = .ok (.aload_n 0, 1) := by decide +kernel
theorem dX1_part_1 : decode cX1_part 1 = .ok (.getfield 19, 3) := by decide +kernel
theorem dX1_part_4 : decode cX1_part 4 = .ok (.iload_n 1, 1) := by decide +kernel
theorem dX1_part_5 : decode cX1_part 5 = .ok (.bipush 13, 2) := by decide +kernel
theorem dX1_part_7 : decode cX1_part 7 = .ok (.imul, 1) := by decide +kernel
theorem dX1_part_8 : decode cX1_part 8 = .ok (.iload_n 2, 1) := by decide +kernel
theorem dX1_part_9 : decode cX1_part 9 = .ok (.iadd, 1) := by decide +kernel
theorem dX1_part_10 : decode cX1_part 10 = .ok (.laload, 1) := by decide +kernel
theorem dX1_part_11 : decode cX1_part 11 = .ok (.lreturn, 1) := by decide +kernel
set_option maxRecDepth 20000 in
theorem r_X1_part : m_Right (yX1_part, cX1_part, 3, (some .long)) q_X1_part := m_right_nd (m_right_nd (m_right_nd (m_right_lf ⟨1, dX1_part_0, rfl, rfl, rfl⟩) (m_right_lf ⟨3, dX1_part_1, rfl, rfl, 1, 3, rfl, Or.inl ⟨(RX1, TX1, 4), rfl, by decide, wd_219⟩⟩)) (m_right_nd (m_right_lf ⟨1, dX1_part_4, rfl, rfl, rfl⟩) (m_right_lf ⟨2, dX1_part_5, rfl, rfl, by decide +kernel⟩))) (m_right_nd (m_right_nd (m_right_lf ⟨1, dX1_part_7, rfl, rfl⟩) (m_right_lf ⟨1, dX1_part_8, rfl, rfl, rfl⟩)) (m_right_nd (m_right_lf ⟨1, dX1_part_9, rfl, rfl⟩) (m_right_nd (m_right_lf ⟨1, dX1_part_10, rfl, rfl⟩) (m_right_lf ⟨1, dX1_part_11, rfl, rfl⟩))))
theorem dX1_take_0 : decode cX1_take 0 = .ok (.aload_n 0, 1) := by decide +kernel
theorem dX1_take_1 : decode cX1_take 1 = .ok (.getfield 19, 3) := by decide +kernel
theorem dX1_take_4 : decode cX1_take 4 = .ok (.iload_n 1, 1) := by decide +kernel
theorem dX1_take_5 : decode cX1_take 5 = .ok (.bipush 13, 2) := by decide +kernel
theorem dX1_take_7 : decode cX1_take 7 = .ok (.imul, 1) := by decide +kernel
theorem dX1_take_8 : decode cX1_take 8 = .ok (.iload_n 2, 1) := by decide +kernel
theorem dX1_take_9 : decode cX1_take 9 = .ok (.iadd, 1) := by decide +kernel
theorem dX1_take_10 : decode cX1_take 10 = .ok (.laload, 1) := by decide +kernel
theorem dX1_take_11 : decode cX1_take 11 = .ok (.lstore_n 3, 1) := by decide +kernel
theorem dX1_take_12 : decode cX1_take 12 = .ok (.aload_n 0, 1) := by decide +kernel
theorem dX1_take_13 : decode cX1_take 13 = .ok (.getfield 19, 3) := by decide +kernel
theorem dX1_take_16 : decode cX1_take 16 = .ok (.iload_n 1, 1) := by decide +kernel
theorem dX1_take_17 : decode cX1_take 17 = .ok (.bipush 13, 2) := by decide +kernel
theorem dX1_take_19 : decode cX1_take 19 = .ok (.imul, 1) := by decide +kernel
theorem dX1_take_20 : decode cX1_take 20 = .ok (.iload_n 2, 1) := by decide +kernel
theorem dX1_take_21 : decode cX1_take 21 = .ok (.iadd, 1) := by decide +kernel
theorem dX1_take_22 : decode cX1_take 22 = .ok (.lconst 0, 1) := by decide +kernel
theorem dX1_take_23 : decode cX1_take 23 = .ok (.lastore, 1) := by decide +kernel
theorem dX1_take_24 : decode cX1_take 24 = .ok (.lload_n 3, 1) := by decide +kernel
theorem dX1_take_25 : decode cX1_take 25 = .ok (.lreturn, 1) := by decide +kernel
set_option maxRecDepth 20000 in
theorem r_X1_take : m_Right (yX1_take, cX1_take, 5, (some .long)) q_X1_take := m_right_nd (m_right_nd (m_right_nd (m_right_nd (m_right_lf ⟨1, dX1_take_0, rfl, rfl, rfl⟩) (m_right_lf ⟨3, dX1_take_1, rfl, rfl, 1, 3, rfl, Or.inl ⟨(RX1, TX1, 4), rfl, by decide, wd_219⟩⟩)) (m_right_nd (m_right_lf ⟨1, dX1_take_4, rfl, rfl, rfl⟩) (m_right_nd (m_right_lf ⟨2, dX1_take_5, rfl, rfl, by decide +kernel⟩) (m_right_lf ⟨1, dX1_take_7, rfl, rfl⟩)))) (m_right_nd (m_right_nd (m_right_lf ⟨1, dX1_take_8, rfl, rfl, rfl⟩) (m_right_lf ⟨1, dX1_take_9, rfl, rfl⟩)) (m_right_nd (m_right_lf ⟨1, dX1_take_10, rfl, rfl⟩) (m_right_nd (m_right_lf ⟨1, dX1_take_11, rfl, rfl, rfl⟩) (m_right_lf ⟨1, dX1_take_12, rfl, rfl, rfl⟩))))) (m_right_nd (m_right_nd (m_right_nd (m_right_lf ⟨3, dX1_take_13, rfl, rfl, 1, 3, rfl, Or.inl ⟨(RX1, TX1, 4), rfl, by decide, wd_219⟩⟩) (m_right_lf ⟨1, dX1_take_16, rfl, rfl, rfl⟩)) (m_right_nd (m_right_lf ⟨2, dX1_take_17, rfl, rfl, by decide +kernel⟩) (m_right_nd (m_right_lf ⟨1, dX1_take_19, rfl, rfl⟩) (m_right_lf ⟨1, dX1_take_20, rfl, rfl, rfl⟩)))) (m_right_nd (m_right_nd (m_right_lf ⟨1, dX1_take_21, rfl, rfl⟩) (m_right_lf ⟨1, dX1_take_22, rfl, rfl, by decide +kernel⟩)) (m_right_nd (m_right_lf ⟨1, dX1_take_23, rfl, rfl⟩) (m_right_nd (m_right_lf ⟨1, dX1_take_24, rfl, rfl, rfl⟩) (m_right_lf ⟨1, dX1_take_25, rfl, rfl⟩)))))
theorem dX1_clear_0 : decode cX1_clear 0 = .ok (.iconst 0, 1) := by decide +kernel
theorem dX1_clear_1 : decode cX1_clear 1 = .ok (.istore_n 1, 1) := by decide +kernel
theorem dX1_clear_2 : decode cX1_clear 2 = .ok (.iload_n 1, 1) := by decide +kernel
theorem dX1_clear_3 : decode cX1_clear 3 = .ok (.aload_n 0, 1) := by decide +kernel
theorem dX1_clear_4 : decode cX1_clear 4 = .ok (.getfield 23, 3) := by decide +kernel
theorem dX1_clear_7 : decode cX1_clear 7 = .ok (.if_icmp .ge 52, 3) := by decide +kernel
theorem dX1_clear_10 : decode cX1_clear 10 = .ok (.aload_n 0, 1) := by decide +kernel
theorem dX1_clear_11 : decode cX1_clear 11 = .ok (.getfield 15, 3) := by decide +kernel
theorem dX1_clear_14 : decode cX1_clear 14 = .ok (.aload_n 0, 1) := by decide +kernel
theorem dX1_clear_15 : decode cX1_clear 15 = .ok (.getfield 11, 3) := by decide +kernel
theorem dX1_clear_18 : decode cX1_clear 18 = .ok (.iload_n 1, 1) := by decide +kernel
theorem dX1_clear_19 : decode cX1_clear 19 = .ok (.iaload, 1) := by decide +kernel
theorem dX1_clear_20 : decode cX1_clear 20 = .ok (.iconst 0, 1) := by decide +kernel
theorem dX1_clear_21 : decode cX1_clear 21 = .ok (.bastore, 1) := by decide +kernel
theorem dX1_clear_22 : decode cX1_clear 22 = .ok (.iconst 0, 1) := by decide +kernel
theorem dX1_clear_23 : decode cX1_clear 23 = .ok (.istore_n 2, 1) := by decide +kernel
theorem dX1_clear_24 : decode cX1_clear 24 = .ok (.iload_n 2, 1) := by decide +kernel
theorem dX1_clear_25 : decode cX1_clear 25 = .ok (.bipush 13, 2) := by decide +kernel
theorem dX1_clear_27 : decode cX1_clear 27 = .ok (.if_icmp .ge 26, 3) := by decide +kernel
theorem dX1_clear_30 : decode cX1_clear 30 = .ok (.aload_n 0, 1) := by decide +kernel
theorem dX1_clear_31 : decode cX1_clear 31 = .ok (.getfield 19, 3) := by decide +kernel
theorem dX1_clear_34 : decode cX1_clear 34 = .ok (.aload_n 0, 1) := by decide +kernel
theorem dX1_clear_35 : decode cX1_clear 35 = .ok (.getfield 11, 3) := by decide +kernel
theorem dX1_clear_38 : decode cX1_clear 38 = .ok (.iload_n 1, 1) := by decide +kernel
theorem dX1_clear_39 : decode cX1_clear 39 = .ok (.iaload, 1) := by decide +kernel
theorem dX1_clear_40 : decode cX1_clear 40 = .ok (.bipush 13, 2) := by decide +kernel
theorem dX1_clear_42 : decode cX1_clear 42 = .ok (.imul, 1) := by decide +kernel
theorem dX1_clear_43 : decode cX1_clear 43 = .ok (.iload_n 2, 1) := by decide +kernel
theorem dX1_clear_44 : decode cX1_clear 44 = .ok (.iadd, 1) := by decide +kernel
theorem dX1_clear_45 : decode cX1_clear 45 = .ok (.lconst 0, 1) := by decide +kernel
theorem dX1_clear_46 : decode cX1_clear 46 = .ok (.lastore, 1) := by decide +kernel
theorem dX1_clear_47 : decode cX1_clear 47 = .ok (.iinc 2 1, 3) := by decide +kernel
theorem dX1_clear_50 : decode cX1_clear 50 = .ok (.goto (-26), 3) := by decide +kernel
theorem dX1_clear_53 : decode cX1_clear 53 = .ok (.iinc 1 1, 3) := by decide +kernel
theorem dX1_clear_56 : decode cX1_clear 56 = .ok (.goto (-54), 3) := by decide +kernel
theorem dX1_clear_59 : decode cX1_clear 59 = .ok (.aload_n 0, 1) := by decide +kernel
theorem dX1_clear_60 : decode cX1_clear 60 = .ok (.iconst 0, 1) := by decide +kernel
theorem dX1_clear_61 : decode cX1_clear 61 = .ok (.putfield 23, 3) := by decide +kernel
theorem dX1_clear_64 : decode cX1_clear 64 = .ok (.return_, 1) := by decide +kernel
set_option maxRecDepth 20000 in
theorem r_X1_clear : m_Right (yX1_clear, cX1_clear, 3, none) q_X1_clear := m_right_nd (m_right_nd (m_right_nd (m_right_nd (m_right_nd (m_right_lf ⟨1, dX1_clear_0, rfl, rfl, by decide +kernel⟩) (m_right_lf ⟨1, dX1_clear_1, rfl, rfl, rfl⟩)) (m_right_nd (m_right_lf ⟨1, dX1_clear_2, rfl, rfl, rfl⟩) (m_right_lf ⟨1, dX1_clear_3, rfl, rfl, rfl⟩))) (m_right_nd (m_right_nd (m_right_lf ⟨3, dX1_clear_4, rfl, rfl, 1, 1, rfl, Or.inl ⟨(RX1, TX1, 4), rfl, by decide, wd_217⟩⟩) (m_right_lf ⟨3, dX1_clear_7, rfl, rfl, 59, rfl, by decide⟩)) (m_right_nd (m_right_lf ⟨1, dX1_clear_10, rfl, rfl, rfl⟩) (m_right_nd (m_right_lf ⟨3, dX1_clear_11, rfl, rfl, 1, 2, rfl, Or.inl ⟨(RX1, TX1, 4), rfl, by decide, wd_218⟩⟩) (m_right_lf ⟨1, dX1_clear_14, rfl, rfl, rfl⟩))))) (m_right_nd (m_right_nd (m_right_nd (m_right_lf ⟨3, dX1_clear_15, rfl, rfl, 1, 0, rfl, Or.inl ⟨(RX1, TX1, 4), rfl, by decide, wd_214⟩⟩) (m_right_lf ⟨1, dX1_clear_18, rfl, rfl, rfl⟩)) (m_right_nd (m_right_lf ⟨1, dX1_clear_19, rfl, rfl⟩) (m_right_nd (m_right_lf ⟨1, dX1_clear_20, rfl, rfl, by decide +kernel⟩) (m_right_lf ⟨1, dX1_clear_21, rfl, rfl⟩)))) (m_right_nd (m_right_nd (m_right_lf ⟨1, dX1_clear_22, rfl, rfl, by decide +kernel⟩) (m_right_lf ⟨1, dX1_clear_23, rfl, rfl, rfl⟩)) (m_right_nd (m_right_lf ⟨1, dX1_clear_24, rfl, rfl, rfl⟩) (m_right_nd (m_right_lf ⟨2, dX1_clear_25, rfl, rfl, by decide +kernel⟩) (m_right_lf ⟨3, dX1_clear_27, rfl, rfl, 53, rfl, by decide⟩)))))) (m_right_nd (m_right_nd (m_right_nd (m_right_nd (m_right_lf ⟨1, dX1_clear_30, rfl, rfl, rfl⟩) (m_right_lf ⟨3, dX1_clear_31, rfl, rfl, 1, 3, rfl, Or.inl ⟨(RX1, TX1, 4), rfl, by decide, wd_219⟩⟩)) (m_right_nd (m_right_lf ⟨1, dX1_clear_34, rfl, rfl, rfl⟩) (m_right_nd (m_right_lf ⟨3, dX1_clear_35, rfl, rfl, 1, 0, rfl, Or.inl ⟨(RX1, TX1, 4), rfl, by decide, wd_214⟩⟩) (m_right_lf ⟨1, dX1_clear_38, rfl, rfl, rfl⟩)))) (m_right_nd (m_right_nd (m_right_lf ⟨1, dX1_clear_39, rfl, rfl⟩) (m_right_lf ⟨2, dX1_clear_40, rfl, rfl, by decide +kernel⟩)) (m_right_nd (m_right_lf ⟨1, dX1_clear_42, rfl, rfl⟩) (m_right_nd (m_right_lf ⟨1, dX1_clear_43, rfl, rfl, rfl⟩) (m_right_lf ⟨1, dX1_clear_44, rfl, rfl⟩))))) (m_right_nd (m_right_nd (m_right_nd (m_right_lf ⟨1, dX1_clear_45, rfl, rfl, by decide +kernel⟩) (m_right_lf ⟨1, dX1_clear_46, rfl, rfl⟩)) (m_right_nd (m_right_lf ⟨3, dX1_clear_47, rfl, rfl, rfl, by decide +kernel⟩) (m_right_nd (m_right_lf ⟨3, dX1_clear_50, rfl, 24, rfl, by decide⟩) (m_right_lf ⟨3, dX1_clear_53, rfl, rfl, rfl, by decide +kernel⟩)))) (m_right_nd (m_right_nd (m_right_lf ⟨3, dX1_clear_56, rfl, 2, rfl, by decide⟩) (m_right_lf ⟨1, dX1_clear_59, rfl, rfl, rfl⟩)) (m_right_nd (m_right_lf ⟨1, dX1_clear_60, rfl, rfl, by decide +kernel⟩) (m_right_nd (m_right_lf ⟨3, dX1_clear_61, rfl, rfl, 1, 1, 0, (RX1, TX1, 4), rfl, rfl, by decide, wd_217, Or.inl rfl, tyX1 1, tyX1_ok 1 (by decide), Or.inl ⟨rfl, rfl⟩⟩) (m_right_lf ⟨1, dX1_clear_64, rfl, rfl⟩))))))
theorem dX2_init_0 : decode cX2_init 0 = .ok (.aload_n 0, 1) := by decide +kernel
theorem dX2_init_1 : decode cX2_init 1 = .ok (.invokespecial 3, 3) := by decide +kernel
theorem dX2_init_4 : decode cX2_init 4 = .ok (.aload_n 0, 1) := by decide +kernel
theorem dX2_init_5 : decode cX2_init 5 = .ok (.new 9, 3) := by decide +kernel
theorem dX2_init_8 : decode cX2_init 8 = .ok (.dup, 1) := by decide +kernel
theorem dX2_init_9 : decode cX2_init 9 = .ok (.invokespecial 11, 3) := by decide +kernel
theorem dX2_init_12 : decode cX2_init 12 = .ok (.putfield 12, 3) := by decide +kernel
theorem dX2_init_15 : decode cX2_init 15 = .ok (.aload_n 0, 1) := by decide +kernel
theorem dX2_init_16 : decode cX2_init 16 = .ok (.new 9, 3) := by decide +kernel
theorem dX2_init_19 : decode cX2_init 19 = .ok (.dup, 1) := by decide +kernel
theorem dX2_init_20 : decode cX2_init 20 = .ok (.invokespecial 11, 3) := by decide +kernel
theorem dX2_init_23 : decode cX2_init 23 = .ok (.putfield 18, 3) := by decide +kernel
theorem dX2_init_26 : decode cX2_init 26 = .ok (.return_, 1) := by decide +kernel
set_option maxRecDepth 20000 in
theorem r_X2_init : m_Right (yX2_init, cX2_init, 1, none) q_X2_init := m_right_nd (m_right_nd (m_right_nd (m_right_lf ⟨1, dX2_init_0, rfl, rfl, rfl⟩) (m_right_nd (m_right_lf ⟨3, dX2_init_1, rfl, rfl, Or.inl ⟨rfl, wd_207, wd_86, wd_87⟩⟩) (m_right_lf ⟨1, dX2_init_4, rfl, rfl, rfl⟩))) (m_right_nd (m_right_lf ⟨3, dX2_init_5, rfl, rfl, 1, (RX1, TX1, 4), rfl, rfl, wd_208, wd_209, wd_66⟩) (m_right_nd (m_right_lf ⟨1, dX2_init_8, rfl, rfl⟩) (m_right_lf ⟨3, dX2_init_9, rfl, rfl, Or.inr ⟨8, 0, (yX1_init, cX1_init, 1, none), rfl, me_X1_init, mc_X1_init, rfl, rfl, wd_211, wd_66, Or.inr (by decide +kernel)⟩⟩)))) (m_right_nd (m_right_nd (m_right_lf ⟨3, dX2_init_12, rfl, rfl, 2, 0, 3, (RX2, TX2, 8), rfl, rfl, by decide, wd_231, Or.inl rfl, tyX2 0, tyX2_ok 0 (by decide), Or.inr (Or.inr (Or.inr ⟨rfl, Or.inl ⟨_, rfl⟩⟩))⟩) (m_right_nd (m_right_lf ⟨1, dX2_init_15, rfl, rfl, rfl⟩) (m_right_lf ⟨3, dX2_init_16, rfl, rfl, 1, (RX1, TX1, 4), rfl, rfl, wd_208, wd_209, wd_66⟩))) (m_right_nd (m_right_nd (m_right_lf ⟨1, dX2_init_19, rfl, rfl⟩) (m_right_lf ⟨3, dX2_init_20, rfl, rfl, Or.inr ⟨8, 0, (yX1_init, cX1_init, 1, none), rfl, me_X1_init, mc_X1_init, rfl, rfl, wd_211, wd_66, Or.inr (by decide +kernel)⟩⟩)) (m_right_nd (m_right_lf ⟨3, dX2_init_23, rfl, rfl, 2, 1, 3, (RX2, TX2, 8), rfl, rfl, by decide, wd_232, Or.inl rfl, tyX2 1, tyX2_ok 1 (by decide), Or.inr (Or.inr (Or.inr ⟨rfl, Or.inl ⟨_, rfl⟩⟩))⟩) (m_right_lf ⟨1, dX2_init_26, rfl, rfl⟩))))
theorem dX2_begins_0 : decode cX2_begins 0 = .ok (.aload_n 0, 1) := by decide +kernel
theorem dX2_begins_1 : decode cX2_begins 1 = .ok (.aload_n 1, 1) := by decide +kernel
theorem dX2_begins_2 : decode cX2_begins 2 = .ok (.putfield 21, 3) := by decide +kernel
theorem dX2_begins_5 : decode cX2_begins 5 = .ok (.aload_n 0, 1) := by decide +kernel
theorem dX2_begins_6 : decode cX2_begins 6 = .ok (.iload_n 2, 1) := by decide +kernel
theorem dX2_begins_7 : decode cX2_begins 7 = .ok (.putfield 25, 3) := by decide +kernel
theorem dX2_begins_10 : decode cX2_begins 10 = .ok (.aload_n 0, 1) := by decide +kernel
theorem dX2_begins_11 : decode cX2_begins 11 = .ok (.iload_n 3, 1) := by decide +kernel
theorem dX2_begins_12 : decode cX2_begins 12 = .ok (.putfield 29, 3) := by decide +kernel
theorem dX2_begins_15 : decode cX2_begins 15 = .ok (.aload_n 0, 1) := by decide +kernel
theorem dX2_begins_16 : decode cX2_begins 16 = .ok (.aload_n 1, 1) := by decide +kernel
theorem dX2_begins_17 : decode cX2_begins 17 = .ok (.getfield 32, 3) := by decide +kernel
theorem dX2_begins_20 : decode cX2_begins 20 = .ok (.putfield 37, 3) := by decide +kernel
theorem dX2_begins_23 : decode cX2_begins 23 = .ok (.aload_n 0, 1) := by decide +kernel
theorem dX2_begins_24 : decode cX2_begins 24 = .ok (.iconst 0, 1) := by decide +kernel
theorem dX2_begins_25 : decode cX2_begins 25 = .ok (.putfield 38, 3) := by decide +kernel
theorem dX2_begins_28 : decode cX2_begins 28 = .ok (.aload_n 0, 1) := by decide +kernel
theorem dX2_begins_29 : decode cX2_begins 29 = .ok (.iload 4, 2) := by decide +kernel
theorem dX2_begins_31 : decode cX2_begins 31 = .ok (.putfield 41, 3) := by decide +kernel
theorem dX2_begins_34 : decode cX2_begins 34 = .ok (.aload_n 0, 1) := by decide +kernel
theorem dX2_begins_35 : decode cX2_begins 35 = .ok (.getfield 12, 3) := by decide +kernel
theorem dX2_begins_38 : decode cX2_begins 38 = .ok (.invokevirtual 45, 3) := by decide +kernel
theorem dX2_begins_41 : decode cX2_begins 41 = .ok (.aload_n 0, 1) := by decide +kernel
theorem dX2_begins_42 : decode cX2_begins 42 = .ok (.getfield 12, 3) := by decide +kernel
theorem dX2_begins_45 : decode cX2_begins 45 = .ok (.aload_n 1, 1) := by decide +kernel
theorem dX2_begins_46 : decode cX2_begins 46 = .ok (.getfield 48, 3) := by decide +kernel
theorem dX2_begins_49 : decode cX2_begins 49 = .ok (.iload_n 2, 1) := by decide +kernel
theorem dX2_begins_50 : decode cX2_begins 50 = .ok (.iaload, 1) := by decide +kernel
theorem dX2_begins_51 : decode cX2_begins 51 = .ok (.aload_n 1, 1) := by decide +kernel
theorem dX2_begins_52 : decode cX2_begins 52 = .ok (.getfield 48, 3) := by decide +kernel
theorem dX2_begins_55 : decode cX2_begins 55 = .ok (.iload_n 3, 1) := by decide +kernel
theorem dX2_begins_56 : decode cX2_begins 56 = .ok (.iaload, 1) := by decide +kernel
theorem dX2_begins_57 : decode cX2_begins 57 = .ok (.invokestatic 52, 3) := by decide +kernel
theorem dX2_begins_60 : decode cX2_begins 60 = .ok (.iconst 0, 1) := by decide +kernel
theorem dX2_begins_61 : decode cX2_begins 61 = .ok (.lconst 1, 1) := by decide +kernel
theorem dX2_begins_62 : decode cX2_begins 62 = .ok (.invokevirtual 56, 3) := by decide +kernel
theorem dX2_begins_65 : decode cX2_begins 65 = .ok (.return_, 1) := by decide +kernel
set_option maxRecDepth 20000 in
theorem r_X2_begins : m_Right (yX2_begins, cX2_begins, 5, none) q_X2_begins := m_right_nd (m_right_nd (m_right_nd (m_right_nd (m_right_nd (m_right_lf ⟨1, dX2_begins_0, rfl, rfl, rfl⟩) (m_right_lf ⟨1, dX2_begins_1, rfl, rfl, rfl⟩)) (m_right_nd (m_right_lf ⟨3, dX2_begins_2, rfl, rfl, 2, 2, 3, (RX2, TX2, 8), rfl, rfl, by decide, wd_233, Or.inl rfl, tyX2 2, tyX2_ok 2 (by decide), Or.inr (Or.inr (Or.inr ⟨rfl, Or.inl ⟨_, rfl⟩⟩))⟩) (m_right_lf ⟨1, dX2_begins_5, rfl, rfl, rfl⟩))) (m_right_nd (m_right_nd (m_right_lf ⟨1, dX2_begins_6, rfl, rfl, rfl⟩) (m_right_lf ⟨3, dX2_begins_7, rfl, rfl, 2, 3, 0, (RX2, TX2, 8), rfl, rfl, by decide, wd_234, Or.inl rfl, tyX2 3, tyX2_ok 3 (by decide), Or.inl ⟨rfl, rfl⟩⟩)) (m_right_nd (m_right_lf ⟨1, dX2_begins_10, rfl, rfl, rfl⟩) (m_right_nd (m_right_lf ⟨1, dX2_begins_11, rfl, rfl, rfl⟩) (m_right_lf ⟨3, dX2_begins_12, rfl, rfl, 2, 4, 0, (RX2, TX2, 8), rfl, rfl, by decide, wd_235, Or.inl rfl, tyX2 4, tyX2_ok 4 (by decide), Or.inl ⟨rfl, rfl⟩⟩))))) (m_right_nd (m_right_nd (m_right_nd (m_right_lf ⟨1, dX2_begins_15, rfl, rfl, rfl⟩) (m_right_lf ⟨1, dX2_begins_16, rfl, rfl, rfl⟩)) (m_right_nd (m_right_lf ⟨3, dX2_begins_17, rfl, rfl, 7, 5, rfl, Or.inl ⟨(RX7, TX7, 16), rfl, by decide, wd_110⟩⟩) (m_right_lf ⟨3, dX2_begins_20, rfl, rfl, 2, 5, 0, (RX2, TX2, 8), rfl, rfl, by decide, wd_236, Or.inl rfl, tyX2 5, tyX2_ok 5 (by decide), Or.inl ⟨rfl, rfl⟩⟩))) (m_right_nd (m_right_nd (m_right_lf ⟨1, dX2_begins_23, rfl, rfl, rfl⟩) (m_right_lf ⟨1, dX2_begins_24, rfl, rfl, by decide +kernel⟩)) (m_right_nd (m_right_lf ⟨3, dX2_begins_25, rfl, rfl, 2, 6, 0, (RX2, TX2, 8), rfl, rfl, by decide, wd_237, Or.inl rfl, tyX2 6, tyX2_ok 6 (by decide), Or.inl ⟨rfl, rfl⟩⟩) (m_right_nd (m_right_lf ⟨1, dX2_begins_28, rfl, rfl, rfl⟩) (m_right_lf ⟨2, dX2_begins_29, rfl, rfl, rfl⟩)))))) (m_right_nd (m_right_nd (m_right_nd (m_right_nd (m_right_lf ⟨3, dX2_begins_31, rfl, rfl, 2, 7, 2, (RX2, TX2, 8), rfl, rfl, by decide, wd_238, Or.inl rfl, tyX2 7, tyX2_ok 7 (by decide), Or.inr (Or.inr (Or.inl ⟨rfl, rfl⟩))⟩) (m_right_lf ⟨1, dX2_begins_34, rfl, rfl, rfl⟩)) (m_right_nd (m_right_lf ⟨3, dX2_begins_35, rfl, rfl, 2, 0, rfl, Or.inl ⟨(RX2, TX2, 8), rfl, by decide, wd_231⟩⟩) (m_right_lf ⟨3, dX2_begins_38, rfl, rfl, 15, 0, 1, (yX1_clear, cX1_clear, 3, none), rfl, me_X1_clear, mc_X1_clear, Or.inl ⟨(RX1, TX1, 4), rfl, rfl⟩, wd_583, wd_584, wd_585, wd_66⟩))) (m_right_nd (m_right_nd (m_right_lf ⟨1, dX2_begins_41, rfl, rfl, rfl⟩) (m_right_lf ⟨3, dX2_begins_42, rfl, rfl, 2, 0, rfl, Or.inl ⟨(RX2, TX2, 8), rfl, by decide, wd_231⟩⟩)) (m_right_nd (m_right_lf ⟨1, dX2_begins_45, rfl, rfl, rfl⟩) (m_right_nd (m_right_lf ⟨3, dX2_begins_46, rfl, rfl, 7, 3, rfl, Or.inl ⟨(RX7, TX7, 16), rfl, by decide, wd_104⟩⟩) (m_right_lf ⟨1, dX2_begins_49, rfl, rfl, rfl⟩))))) (m_right_nd (m_right_nd (m_right_nd (m_right_lf ⟨1, dX2_begins_50, rfl, rfl⟩) (m_right_lf ⟨1, dX2_begins_51, rfl, rfl, rfl⟩)) (m_right_nd (m_right_lf ⟨3, dX2_begins_52, rfl, rfl, 7, 3, rfl, Or.inl ⟨(RX7, TX7, 16), rfl, by decide, wd_104⟩⟩) (m_right_nd (m_right_lf ⟨1, dX2_begins_55, rfl, rfl, rfl⟩) (m_right_lf ⟨1, dX2_begins_56, rfl, rfl⟩)))) (m_right_nd (m_right_nd (m_right_lf ⟨3, dX2_begins_57, rfl, rfl, Or.inr (Or.inr ⟨9, 2, (yX1_pairOf, cX1_pairOf, 2, (some .int)), rfl, me_X1_pairOf, mc_X1_pairOf, wd_587, wd_588, wd_66⟩)⟩) (m_right_lf ⟨1, dX2_begins_60, rfl, rfl, by decide +kernel⟩)) (m_right_nd (m_right_lf ⟨1, dX2_begins_61, rfl, rfl, by decide +kernel⟩) (m_right_nd (m_right_lf ⟨3, dX2_begins_62, rfl, rfl, 12, 3, 1, (yX1_add, cX1_add, 5, none), rfl, me_X1_add, mc_X1_add, Or.inl ⟨(RX1, TX1, 4), rfl, rfl⟩, wd_590, wd_591, wd_592, wd_66⟩) (m_right_lf ⟨1, dX2_begins_65, rfl, rfl⟩))))))
theorem dX2_goesOn_0 : decode cX2_goesOn 0 = .ok (.iconst 0, 1) := by decide +kernel
theorem dX2_goesOn_1 : decode cX2_goesOn 1 = .ok (.istore_n 1, 1) := by decide +kernel
theorem dX2_goesOn_2 : decode cX2_goesOn 2 = .ok (.iload_n 1, 1) := by decide +kernel
theorem dX2_goesOn_3 : decode cX2_goesOn 3 = .ok (.aload_n 0, 1) := by decide +kernel
theorem dX2_goesOn_4 : decode cX2_goesOn 4 = .ok (.getfield 12, 3) := by decide +kernel
theorem dX2_goesOn_7 : decode cX2_goesOn 7 = .ok (.getfield 60, 3) := by decide +kernel
theorem dX2_goesOn_10 : decode cX2_goesOn 10 = .ok (.if_icmp .ge 22, 3) := by decide +kernel
theorem dX2_goesOn_13 : decode cX2_goesOn 13 = .ok (.aload_n 0, 1) := by decide +kernel
theorem dX2_goesOn_14 : decode cX2_goesOn 14 = .ok (.aload_n 0, 1) := by decide +kernel
theorem dX2_goesOn_15 : decode cX2_goesOn 15 = .ok (.getfield 12, 3) := by decide +kernel
theorem dX2_goesOn_18 : decode cX2_goesOn 18 = .ok (.getfield 63, 3) := by decide +kernel
theorem dX2_goesOn_21 : decode cX2_goesOn 21 = .ok (.iload_n 1, 1) := by decide +kernel
theorem dX2_goesOn_22 : decode cX2_goesOn 22 = .ok (.iaload, 1) := by decide +kernel
theorem dX2_goesOn_23 : decode cX2_goesOn 23 = .ok (.invokevirtual 66, 3) := by decide +kernel
theorem dX2_goesOn_26 : decode cX2_goesOn 26 = .ok (.iinc 1 1, 3) := by decide +kernel
theorem dX2_goesOn_29 : decode cX2_goesOn 29 = .ok (.goto (-27), 3) := by decide +kernel
theorem dX2_goesOn_32 : decode cX2_goesOn 32 = .ok (.aload_n 0, 1) := by decide +kernel
theorem dX2_goesOn_33 : decode cX2_goesOn 33 = .ok (.getfield 12, 3) := by decide +kernel
theorem dX2_goesOn_36 : decode cX2_goesOn 36 = .ok (.invokevirtual 45, 3) := by decide +kernel
theorem dX2_goesOn_39 : decode cX2_goesOn 39 = .ok (.aload_n 0, 1) := by decide +kernel
theorem dX2_goesOn_40 : decode cX2_goesOn 40 = .ok (.getfield 12, 3) := by decide +kernel
theorem dX2_goesOn_43 : decode cX2_goesOn 43 = .ok (.astore_n 1, 1) := by decide +kernel
theorem dX2_goesOn_44 : decode cX2_goesOn 44 = .ok (.aload_n 0, 1) := by decide +kernel
theorem dX2_goesOn_45 : decode cX2_goesOn 45 = .ok (.aload_n 0, 1) := by decide +kernel
theorem dX2_goesOn_46 : decode cX2_goesOn 46 = .ok (.getfield 18, 3) := by decide +kernel
theorem dX2_goesOn_49 : decode cX2_goesOn 49 = .ok (.putfield 12, 3) := by decide +kernel
theorem dX2_goesOn_52 : decode cX2_goesOn 52 = .ok (.aload_n 0, 1) := by decide +kernel
theorem dX2_goesOn_53 : decode cX2_goesOn 53 = .ok (.aload_n 1, 1) := by decide +kernel
theorem dX2_goesOn_54 : decode cX2_goesOn 54 = .ok (.putfield 18, 3) := by decide +kernel
theorem dX2_goesOn_57 : decode cX2_goesOn 57 = .ok (.aload_n 0, 1) := by decide +kernel
theorem dX2_goesOn_58 : decode cX2_goesOn 58 = .ok (.dup, 1) := by decide +kernel
theorem dX2_goesOn_59 : decode cX2_goesOn 59 = .ok (.getfield 37, 3) := by decide +kernel
theorem dX2_goesOn_62 : decode cX2_goesOn 62 = .ok (.iconst 1, 1) := by decide +kernel
theorem dX2_goesOn_63 : decode cX2_goesOn 63 = .ok (.iadd, 1) := by decide +kernel
theorem dX2_goesOn_64 : decode cX2_goesOn 64 = .ok (.putfield 37, 3) := by decide +kernel
theorem dX2_goesOn_67 : decode cX2_goesOn 67 = .ok (.aload_n 0, 1) := by decide +kernel
theorem dX2_goesOn_68 : decode cX2_goesOn 68 = .ok (.dup, 1) := by decide +kernel
theorem dX2_goesOn_69 : decode cX2_goesOn 69 = .ok (.getfield 38, 3) := by decide +kernel
theorem dX2_goesOn_72 : decode cX2_goesOn 72 = .ok (.iconst 1, 1) := by decide +kernel
theorem dX2_goesOn_73 : decode cX2_goesOn 73 = .ok (.iadd, 1) := by decide +kernel
theorem dX2_goesOn_74 : decode cX2_goesOn 74 = .ok (.putfield 38, 3) := by decide +kernel
theorem dX2_goesOn_77 : decode cX2_goesOn 77 = .ok (.return_, 1) := by decide +kernel
set_option maxRecDepth 20000 in
theorem r_X2_goesOn : m_Right (yX2_goesOn, cX2_goesOn, 2, none) q_X2_goesOn := m_right_nd (m_right_nd (m_right_nd (m_right_nd (m_right_nd (m_right_lf ⟨1, dX2_goesOn_0, rfl, rfl, by decide +kernel⟩) (m_right_lf ⟨1, dX2_goesOn_1, rfl, rfl, rfl⟩)) (m_right_nd (m_right_lf ⟨1, dX2_goesOn_2, rfl, rfl, rfl⟩) (m_right_nd (m_right_lf ⟨1, dX2_goesOn_3, rfl, rfl, rfl⟩) (m_right_lf ⟨3, dX2_goesOn_4, rfl, rfl, 2, 0, rfl, Or.inl ⟨(RX2, TX2, 8), rfl, by decide, wd_231⟩⟩)))) (m_right_nd (m_right_nd (m_right_lf ⟨3, dX2_goesOn_7, rfl, rfl, 1, 1, rfl, Or.inl ⟨(RX1, TX1, 4), rfl, by decide, wd_216⟩⟩) (m_right_lf ⟨3, dX2_goesOn_10, rfl, rfl, 32, rfl, by decide⟩)) (m_right_nd (m_right_lf ⟨1, dX2_goesOn_13, rfl, rfl, rfl⟩) (m_right_nd (m_right_lf ⟨1, dX2_goesOn_14, rfl, rfl, rfl⟩) (m_right_lf ⟨3, dX2_goesOn_15, rfl, rfl, 2, 0, rfl, Or.inl ⟨(RX2, TX2, 8), rfl, by decide, wd_231⟩⟩))))) (m_right_nd (m_right_nd (m_right_nd (m_right_lf ⟨3, dX2_goesOn_18, rfl, rfl, 1, 0, rfl, Or.inl ⟨(RX1, TX1, 4), rfl, by decide, wd_215⟩⟩) (m_right_lf ⟨1, dX2_goesOn_21, rfl, rfl, rfl⟩)) (m_right_nd (m_right_lf ⟨1, dX2_goesOn_22, rfl, rfl⟩) (m_right_nd (m_right_lf ⟨3, dX2_goesOn_23, rfl, rfl, 19, 1, 2, (yX2_spreads, cX2_spreads, 11, none), rfl, me_X2_spreads, mc_X2_spreads, Or.inl ⟨(RX2, TX2, 8), rfl, rfl⟩, wd_598, wd_600, wd_11, wd_65⟩) (m_right_lf ⟨3, dX2_goesOn_26, rfl, rfl, rfl, by decide +kernel⟩)))) (m_right_nd (m_right_nd (m_right_lf ⟨3, dX2_goesOn_29, rfl, 2, rfl, by decide⟩) (m_right_nd (m_right_lf ⟨1, dX2_goesOn_32, rfl, rfl, rfl⟩) (m_right_lf ⟨3, dX2_goesOn_33, rfl, rfl, 2, 0, rfl, Or.inl ⟨(RX2, TX2, 8), rfl, by decide, wd_231⟩⟩))) (m_right_nd (m_right_lf ⟨3, dX2_goesOn_36, rfl, rfl, 15, 0, 1, (yX1_clear, cX1_clear, 3, none), rfl, me_X1_clear, mc_X1_clear, Or.inl ⟨(RX1, TX1, 4), rfl, rfl⟩, wd_583, wd_584, wd_585, wd_66⟩) (m_right_nd (m_right_lf ⟨1, dX2_goesOn_39, rfl, rfl, rfl⟩) (m_right_lf ⟨3, dX2_goesOn_40, rfl, rfl, 2, 0, rfl, Or.inl ⟨(RX2, TX2, 8), rfl, by decide, wd_231⟩⟩)))))) (m_right_nd (m_right_nd (m_right_nd (m_right_nd (m_right_lf ⟨1, dX2_goesOn_43, rfl, rfl, rfl⟩) (m_right_lf ⟨1, dX2_goesOn_44, rfl, rfl, rfl⟩)) (m_right_nd (m_right_lf ⟨1, dX2_goesOn_45, rfl, rfl, rfl⟩) (m_right_nd (m_right_lf ⟨3, dX2_goesOn_46, rfl, rfl, 2, 1, rfl, Or.inl ⟨(RX2, TX2, 8), rfl, by decide, wd_232⟩⟩) (m_right_lf ⟨3, dX2_goesOn_49, rfl, rfl, 2, 0, 3, (RX2, TX2, 8), rfl, rfl, by decide, wd_231, Or.inl rfl, tyX2 0, tyX2_ok 0 (by decide), Or.inr (Or.inr (Or.inr ⟨rfl, Or.inl ⟨_, rfl⟩⟩))⟩)))) (m_right_nd (m_right_nd (m_right_lf ⟨1, dX2_goesOn_52, rfl, rfl, rfl⟩) (m_right_lf ⟨1, dX2_goesOn_53, rfl, rfl, rfl⟩)) (m_right_nd (m_right_lf ⟨3, dX2_goesOn_54, rfl, rfl, 2, 1, 3, (RX2, TX2, 8), rfl, rfl, by decide, wd_232, Or.inl rfl, tyX2 1, tyX2_ok 1 (by decide), Or.inr (Or.inr (Or.inr ⟨rfl, Or.inl ⟨_, rfl⟩⟩))⟩) (m_right_nd (m_right_lf ⟨1, dX2_goesOn_57, rfl, rfl, rfl⟩) (m_right_lf ⟨1, dX2_goesOn_58, rfl, rfl⟩))))) (m_right_nd (m_right_nd (m_right_nd (m_right_lf ⟨3, dX2_goesOn_59, rfl, rfl, 2, 5, rfl, Or.inl ⟨(RX2, TX2, 8), rfl, by decide, wd_236⟩⟩) (m_right_lf ⟨1, dX2_goesOn_62, rfl, rfl, by decide +kernel⟩)) (m_right_nd (m_right_lf ⟨1, dX2_goesOn_63, rfl, rfl⟩) (m_right_nd (m_right_lf ⟨3, dX2_goesOn_64, rfl, rfl, 2, 5, 0, (RX2, TX2, 8), rfl, rfl, by decide, wd_236, Or.inl rfl, tyX2 5, tyX2_ok 5 (by decide), Or.inl ⟨rfl, rfl⟩⟩) (m_right_lf ⟨1, dX2_goesOn_67, rfl, rfl, rfl⟩)))) (m_right_nd (m_right_nd (m_right_lf ⟨1, dX2_goesOn_68, rfl, rfl⟩) (m_right_nd (m_right_lf ⟨3, dX2_goesOn_69, rfl, rfl, 2, 6, rfl, Or.inl ⟨(RX2, TX2, 8), rfl, by decide, wd_237⟩⟩) (m_right_lf ⟨1, dX2_goesOn_72, rfl, rfl, by decide +kernel⟩))) (m_right_nd (m_right_lf ⟨1, dX2_goesOn_73, rfl, rfl⟩) (m_right_nd (m_right_lf ⟨3, dX2_goesOn_74, rfl, rfl, 2, 6, 0, (RX2, TX2, 8), rfl, rfl, by decide, wd_237, Or.inl rfl, tyX2 6, tyX2_ok 6 (by decide), Or.inl ⟨rfl, rfl⟩⟩) (m_right_lf ⟨1, dX2_goesOn_77, rfl, rfl⟩))))))
theorem dX2_spreads_0 : decode cX2_spreads 0 = .ok (.iload_n 1, 1) := by decide +kernel
theorem dX2_spreads_1 : decode cX2_spreads 1 = .ok (.invokestatic 70, 3) := by decide +kernel
theorem dX2_spreads_4 : decode cX2_spreads 4 = .ok (.istore_n 2, 1) := by decide +kernel
theorem dX2_spreads_5 : decode cX2_spreads 5 = .ok (.iload_n 1, 1) := by decide +kernel
theorem dX2_spreads_6 : decode cX2_spreads 6 = .ok (.invokestatic 74, 3) := by decide +kernel
theorem dX2_spreads_9 : decode cX2_spreads 9 = .ok (.istore_n 3, 1) := by decide +kernel
theorem dX2_spreads_10 : decode cX2_spreads 10 = .ok (.aload_n 0, 1) := by decide +kernel
theorem dX2_spreads_11 : decode cX2_spreads 11 = .ok (.getfield 21, 3) := by decide +kernel
theorem dX2_spreads_14 : decode cX2_spreads 14 = .ok (.aload_n 0, 1) := by decide +kernel
theorem dX2_spreads_15 : decode cX2_spreads 15 = .ok (.getfield 25, 3) := by decide +kernel
theorem dX2_spreads_18 : decode cX2_spreads 18 = .ok (.aload_n 0, 1) := by decide +kernel
theorem dX2_spreads_19 : decode cX2_spreads 19 = .ok (.getfield 29, 3) := by decide +kernel
theorem dX2_spreads_22 : decode cX2_spreads 22 = .ok (.iload_n 2, 1) := by decide +kernel
theorem dX2_spreads_23 : decode cX2_spreads 23 = .ok (.iload_n 3, 1) := by decide +kernel
theorem dX2_spreads_24 : decode cX2_spreads 24 = .ok (.aload_n 0, 1) := by decide +kernel
theorem dX2_spreads_25 : decode cX2_spreads 25 = .ok (.getfield 37, 3) := by decide +kernel
theorem dX2_spreads_28 : decode cX2_spreads 28 = .ok (.invokevirtual 77, 3) := by decide +kernel
theorem dX2_spreads_31 : decode cX2_spreads 31 = .ok (.istore 4, 2) := by decide +kernel
theorem dX2_spreads_33 : decode cX2_spreads 33 = .ok (.aload_n 0, 1) := by decide +kernel
theorem dX2_spreads_34 : decode cX2_spreads 34 = .ok (.getfield 21, 3) := by decide +kernel
theorem dX2_spreads_37 : decode cX2_spreads 37 = .ok (.iload_n 2, 1) := by decide +kernel
theorem dX2_spreads_38 : decode cX2_spreads 38 = .ok (.invokevirtual 81, 3) := by decide +kernel
theorem dX2_spreads_41 : decode cX2_spreads 41 = .ok (.aload_n 0, 1) := by decide +kernel
theorem dX2_spreads_42 : decode cX2_spreads 42 = .ok (.getfield 21, 3) := by decide +kernel
theorem dX2_spreads_45 : decode cX2_spreads 45 = .ok (.iload_n 3, 1) := by decide +kernel
theorem dX2_spreads_46 : decode cX2_spreads 46 = .ok (.invokevirtual 84, 3) := by decide +kernel
theorem dX2_spreads_49 : decode cX2_spreads 49 = .ok (.invokestatic 52, 3) := by decide +kernel
theorem dX2_spreads_52 : decode cX2_spreads 52 = .ok (.istore 5, 2) := by decide +kernel
theorem dX2_spreads_54 : decode cX2_spreads 54 = .ok (.aload_n 0, 1) := by decide +kernel
theorem dX2_spreads_55 : decode cX2_spreads 55 = .ok (.getfield 21, 3) := by decide +kernel
theorem dX2_spreads_58 : decode cX2_spreads 58 = .ok (.iload_n 2, 1) := by decide +kernel
theorem dX2_spreads_59 : decode cX2_spreads 59 = .ok (.invokevirtual 84, 3) := by decide +kernel
theorem dX2_spreads_62 : decode cX2_spreads 62 = .ok (.aload_n 0, 1) := by decide +kernel
theorem dX2_spreads_63 : decode cX2_spreads 63 = .ok (.getfield 21, 3) := by decide +kernel
theorem dX2_spreads_66 : decode cX2_spreads 66 = .ok (.iload_n 3, 1) := by decide +kernel
theorem dX2_spreads_67 : decode cX2_spreads 67 = .ok (.invokevirtual 81, 3) := by decide +kernel
theorem dX2_spreads_70 : decode cX2_spreads 70 = .ok (.invokestatic 52, 3) := by decide +kernel
theorem dX2_spreads_73 : decode cX2_spreads 73 = .ok (.istore 6, 2) := by decide +kernel
theorem dX2_spreads_75 : decode cX2_spreads 75 = .ok (.aload_n 0, 1) := by decide +kernel
theorem dX2_spreads_76 : decode cX2_spreads 76 = .ok (.getfield 41, 3) := by decide +kernel
theorem dX2_spreads_79 : decode cX2_spreads 79 = .ok (.ifCond .eq 15, 3) := by decide +kernel
theorem dX2_spreads_82 : decode cX2_spreads 82 = .ok (.aload_n 0, 1) := by decide +kernel
theorem dX2_spreads_83 : decode cX2_spreads 83 = .ok (.getfield 38, 3) := by decide +kernel
theorem dX2_spreads_86 : decode cX2_spreads 86 = .ok (.bipush 11, 2) := by decide +kernel
theorem dX2_spreads_88 : decode cX2_spreads 88 = .ok (.invokestatic 87, 3) := by decide +kernel
theorem dX2_spreads_91 : decode cX2_spreads 91 = .ok (.goto 4, 3) := by decide +kernel
theorem dX2_spreads_94 : decode cX2_spreads 94 = .ok (.iconst 0, 1) := by decide +kernel
theorem dX2_spreads_95 : decode cX2_spreads 95 = .ok (.istore 7, 2) := by decide +kernel
theorem dX2_spreads_97 : decode cX2_spreads 97 = .ok (.iconst 0, 1) := by decide +kernel
theorem dX2_spreads_98 : decode cX2_spreads 98 = .ok (.istore 8, 2) := by decide +kernel
theorem dX2_spreads_100 : decode cX2_spreads 100 = .ok (.iload 8, 2) := by decide +kernel
theorem dX2_spreads_102 : decode cX2_spreads 102 = .ok (.iload 7, 2) := by decide +kernel
theorem dX2_spreads_104 : decode cX2_spreads 104 = .ok (.if_icmp .gt 78, 3) := by decide +kernel
theorem dX2_spreads_107 : decode cX2_spreads 107 = .ok (.aload_n 0, 1) := by decide +kernel
theorem dX2_spreads_108 : decode cX2_spreads 108 = .ok (.getfield 12, 3) := by decide +kernel
theorem dX2_spreads_111 : decode cX2_spreads 111 = .ok (.iload_n 1, 1) := by decide +kernel
theorem dX2_spreads_112 : decode cX2_spreads 112 = .ok (.iload 8, 2) := by decide +kernel
theorem dX2_spreads_114 : decode cX2_spreads 114 = .ok (.invokevirtual 92, 3) := by decide +kernel
theorem dX2_spreads_117 : decode cX2_spreads 117 = .ok (.lstore 9, 2) := by decide +kernel
theorem dX2_spreads_119 : decode cX2_spreads 119 = .ok (.lload 9, 2) := by decide +kernel
theorem dX2_spreads_121 : decode cX2_spreads 121 = .ok (.lconst 0, 1) := by decide +kernel
theorem dX2_spreads_122 : decode cX2_spreads 122 = .ok (.lcmp, 1) := by decide +kernel
theorem dX2_spreads_123 : decode cX2_spreads 123 = .ok (.ifCond .eq 53, 3) := by decide +kernel
theorem dX2_spreads_126 : decode cX2_spreads 126 = .ok (.aload_n 0, 1) := by decide +kernel
theorem dX2_spreads_127 : decode cX2_spreads 127 = .ok (.getfield 18, 3) := by decide +kernel
theorem dX2_spreads_130 : decode cX2_spreads 130 = .ok (.iload 5, 2) := by decide +kernel
theorem dX2_spreads_132 : decode cX2_spreads 132 = .ok (.aload_n 0, 1) := by decide +kernel
theorem dX2_spreads_133 : decode cX2_spreads 133 = .ok (.getfield 41, 3) := by decide +kernel
theorem dX2_spreads_136 : decode cX2_spreads 136 = .ok (.ifCond .eq 10, 3) := by decide +kernel
theorem dX2_spreads_139 : decode cX2_spreads 139 = .ok (.iload 8, 2) := by decide +kernel
theorem dX2_spreads_141 : decode cX2_spreads 141 = .ok (.iconst 1, 1) := by decide +kernel
theorem dX2_spreads_142 : decode cX2_spreads 142 = .ok (.iadd, 1) := by decide +kernel
theorem dX2_spreads_143 : decode cX2_spreads 143 = .ok (.goto 4, 3) := by decide +kernel
theorem dX2_spreads_146 : decode cX2_spreads 146 = .ok (.iconst 0, 1) := by decide +kernel
theorem dX2_spreads_147 : decode cX2_spreads 147 = .ok (.lload 9, 2) := by decide +kernel
theorem dX2_spreads_149 : decode cX2_spreads 149 = .ok (.iload 4, 2) := by decide +kernel
theorem dX2_spreads_151 : decode cX2_spreads 151 = .ok (.i2l, 1) := by decide +kernel
theorem dX2_spreads_152 : decode cX2_spreads 152 = .ok (.lmul, 1) := by decide +kernel
theorem dX2_spreads_153 : decode cX2_spreads 153 = .ok (.invokevirtual 56, 3) := by decide +kernel
theorem dX2_spreads_156 : decode cX2_spreads 156 = .ok (.aload_n 0, 1) := by decide +kernel
theorem dX2_spreads_157 : decode cX2_spreads 157 = .ok (.getfield 18, 3) := by decide +kernel
theorem dX2_spreads_160 : decode cX2_spreads 160 = .ok (.iload 6, 2) := by decide +kernel
theorem dX2_spreads_162 : decode cX2_spreads 162 = .ok (.iload 8, 2) := by decide +kernel
theorem dX2_spreads_164 : decode cX2_spreads 164 = .ok (.lload 9, 2) := by decide +kernel
theorem dX2_spreads_166 : decode cX2_spreads 166 = .ok (.bipush 10, 2) := by decide +kernel
theorem dX2_spreads_168 : decode cX2_spreads 168 = .ok (.iload 4, 2) := by decide +kernel
theorem dX2_spreads_170 : decode cX2_spreads 170 = .ok (.isub, 1) := by decide +kernel
theorem dX2_spreads_171 : decode cX2_spreads 171 = .ok (.i2l, 1) := by decide +kernel
theorem dX2_spreads_172 : decode cX2_spreads 172 = .ok (.lmul, 1) := by decide +kernel
theorem dX2_spreads_173 : decode cX2_spreads 173 = .ok (.invokevirtual 56, 3) := by decide +kernel
theorem dX2_spreads_176 : decode cX2_spreads 176 = .ok (.iinc 8 1, 3) := by decide +kernel
theorem dX2_spreads_179 : decode cX2_spreads 179 = .ok (.goto (-79), 3) := by decide +kernel
theorem dX2_spreads_182 : decode cX2_spreads 182 = .ok (.return_, 1) := by decide +kernel
set_option maxRecDepth 20000 in
theorem r_X2_spreads : m_Right (yX2_spreads, cX2_spreads, 11, none) q_X2_spreads := m_right_nd (m_right_nd (m_right_nd (m_right_nd (m_right_nd (m_right_nd (m_right_lf ⟨1, dX2_spreads_0, rfl, rfl, rfl⟩) (m_right_lf ⟨3, dX2_spreads_1, rfl, rfl, Or.inr (Or.inr ⟨10, 1, (yX1_menOfOne, cX1_menOfOne, 1, (some .int)), rfl, me_X1_menOfOne, mc_X1_menOfOne, wd_602, wd_603, wd_66⟩)⟩)) (m_right_nd (m_right_lf ⟨1, dX2_spreads_4, rfl, rfl, rfl⟩) (m_right_nd (m_right_lf ⟨1, dX2_spreads_5, rfl, rfl, rfl⟩) (m_right_lf ⟨3, dX2_spreads_6, rfl, rfl, Or.inr (Or.inr ⟨11, 1, (yX1_menOfOther, cX1_menOfOther, 1, (some .int)), rfl, me_X1_menOfOther, mc_X1_menOfOther, wd_605, wd_606, wd_66⟩)⟩)))) (m_right_nd (m_right_nd (m_right_lf ⟨1, dX2_spreads_9, rfl, rfl, rfl⟩) (m_right_nd (m_right_lf ⟨1, dX2_spreads_10, rfl, rfl, rfl⟩) (m_right_lf ⟨3, dX2_spreads_11, rfl, rfl, 2, 2, rfl, Or.inl ⟨(RX2, TX2, 8), rfl, by decide, wd_233⟩⟩))) (m_right_nd (m_right_lf ⟨1, dX2_spreads_14, rfl, rfl, rfl⟩) (m_right_nd (m_right_lf ⟨3, dX2_spreads_15, rfl, rfl, 2, 3, rfl, Or.inl ⟨(RX2, TX2, 8), rfl, by decide, wd_234⟩⟩) (m_right_lf ⟨1, dX2_spreads_18, rfl, rfl, rfl⟩))))) (m_right_nd (m_right_nd (m_right_nd (m_right_lf ⟨3, dX2_spreads_19, rfl, rfl, 2, 4, rfl, Or.inl ⟨(RX2, TX2, 8), rfl, by decide, wd_235⟩⟩) (m_right_nd (m_right_lf ⟨1, dX2_spreads_22, rfl, rfl, rfl⟩) (m_right_lf ⟨1, dX2_spreads_23, rfl, rfl, rfl⟩))) (m_right_nd (m_right_lf ⟨1, dX2_spreads_24, rfl, rfl, rfl⟩) (m_right_nd (m_right_lf ⟨3, dX2_spreads_25, rfl, rfl, 2, 5, rfl, Or.inl ⟨(RX2, TX2, 8), rfl, by decide, wd_236⟩⟩) (m_right_lf ⟨3, dX2_spreads_28, rfl, rfl, 65, 5, 7, (yX7_oddsOf, cX7_oddsOf, 7, (some .int)), rfl, me_X7_oddsOf, mc_X7_oddsOf, Or.inl ⟨(RX7, TX7, 16), rfl, rfl⟩, wd_608, wd_545, wd_546, wd_63⟩)))) (m_right_nd (m_right_nd (m_right_lf ⟨2, dX2_spreads_31, rfl, rfl, rfl⟩) (m_right_nd (m_right_lf ⟨1, dX2_spreads_33, rfl, rfl, rfl⟩) (m_right_lf ⟨3, dX2_spreads_34, rfl, rfl, 2, 2, rfl, Or.inl ⟨(RX2, TX2, 8), rfl, by decide, wd_233⟩⟩))) (m_right_nd (m_right_lf ⟨1, dX2_spreads_37, rfl, rfl, rfl⟩) (m_right_nd (m_right_lf ⟨3, dX2_spreads_38, rfl, rfl, 59, 1, 7, (yX7_menIfWon, cX7_menIfWon, 2, (some .int)), rfl, me_X7_menIfWon, mc_X7_menIfWon, Or.inl ⟨(RX7, TX7, 16), rfl, rfl⟩, wd_609, wd_562, wd_563, wd_63⟩) (m_right_lf ⟨1, dX2_spreads_41, rfl, rfl, rfl⟩)))))) (m_right_nd (m_right_nd (m_right_nd (m_right_nd (m_right_lf ⟨3, dX2_spreads_42, rfl, rfl, 2, 2, rfl, Or.inl ⟨(RX2, TX2, 8), rfl, by decide, wd_233⟩⟩) (m_right_lf ⟨1, dX2_spreads_45, rfl, rfl, rfl⟩)) (m_right_nd (m_right_lf ⟨3, dX2_spreads_46, rfl, rfl, 60, 1, 7, (yX7_menIfLost, cX7_menIfLost, 2, (some .int)), rfl, me_X7_menIfLost, mc_X7_menIfLost, Or.inl ⟨(RX7, TX7, 16), rfl, rfl⟩, wd_610, wd_567, wd_568, wd_63⟩) (m_right_nd (m_right_lf ⟨3, dX2_spreads_49, rfl, rfl, Or.inr (Or.inr ⟨9, 2, (yX1_pairOf, cX1_pairOf, 2, (some .int)), rfl, me_X1_pairOf, mc_X1_pairOf, wd_587, wd_588, wd_66⟩)⟩) (m_right_lf ⟨2, dX2_spreads_52, rfl, rfl, rfl⟩)))) (m_right_nd (m_right_nd (m_right_lf ⟨1, dX2_spreads_54, rfl, rfl, rfl⟩) (m_right_nd (m_right_lf ⟨3, dX2_spreads_55, rfl, rfl, 2, 2, rfl, Or.inl ⟨(RX2, TX2, 8), rfl, by decide, wd_233⟩⟩) (m_right_lf ⟨1, dX2_spreads_58, rfl, rfl, rfl⟩))) (m_right_nd (m_right_lf ⟨3, dX2_spreads_59, rfl, rfl, 60, 1, 7, (yX7_menIfLost, cX7_menIfLost, 2, (some .int)), rfl, me_X7_menIfLost, mc_X7_menIfLost, Or.inl ⟨(RX7, TX7, 16), rfl, rfl⟩, wd_610, wd_567, wd_568, wd_63⟩) (m_right_nd (m_right_lf ⟨1, dX2_spreads_62, rfl, rfl, rfl⟩) (m_right_lf ⟨3, dX2_spreads_63, rfl, rfl, 2, 2, rfl, Or.inl ⟨(RX2, TX2, 8), rfl, by decide, wd_233⟩⟩))))) (m_right_nd (m_right_nd (m_right_nd (m_right_lf ⟨1, dX2_spreads_66, rfl, rfl, rfl⟩) (m_right_nd (m_right_lf ⟨3, dX2_spreads_67, rfl, rfl, 59, 1, 7, (yX7_menIfWon, cX7_menIfWon, 2, (some .int)), rfl, me_X7_menIfWon, mc_X7_menIfWon, Or.inl ⟨(RX7, TX7, 16), rfl, rfl⟩, wd_609, wd_562, wd_563, wd_63⟩) (m_right_lf ⟨3, dX2_spreads_70, rfl, rfl, Or.inr (Or.inr ⟨9, 2, (yX1_pairOf, cX1_pairOf, 2, (some .int)), rfl, me_X1_pairOf, mc_X1_pairOf, wd_587, wd_588, wd_66⟩)⟩))) (m_right_nd (m_right_lf ⟨2, dX2_spreads_73, rfl, rfl, rfl⟩) (m_right_nd (m_right_lf ⟨1, dX2_spreads_75, rfl, rfl, rfl⟩) (m_right_lf ⟨3, dX2_spreads_76, rfl, rfl, 2, 7, rfl, Or.inl ⟨(RX2, TX2, 8), rfl, by decide, wd_238⟩⟩)))) (m_right_nd (m_right_nd (m_right_lf ⟨3, dX2_spreads_79, rfl, rfl, 94, rfl, by decide⟩) (m_right_nd (m_right_lf ⟨1, dX2_spreads_82, rfl, rfl, rfl⟩) (m_right_lf ⟨3, dX2_spreads_83, rfl, rfl, 2, 6, rfl, Or.inl ⟨(RX2, TX2, 8), rfl, by decide, wd_237⟩⟩))) (m_right_nd (m_right_lf ⟨2, dX2_spreads_86, rfl, rfl, by decide +kernel⟩) (m_right_nd (m_right_lf ⟨3, dX2_spreads_88, rfl, rfl, Or.inl ⟨_, rfl, wd_72, Or.inr (Or.inl ⟨rfl, wm_611, wm_392, wm_393⟩)⟩⟩) (m_right_lf ⟨3, dX2_spreads_91, rfl, 95, rfl, by decide⟩))))))) (m_right_nd (m_right_nd (m_right_nd (m_right_nd (m_right_nd (m_right_lf ⟨1, dX2_spreads_94, rfl, rfl, by decide +kernel⟩) (m_right_lf ⟨2, dX2_spreads_95, rfl, rfl, rfl⟩)) (m_right_nd (m_right_lf ⟨1, dX2_spreads_97, rfl, rfl, by decide +kernel⟩) (m_right_nd (m_right_lf ⟨2, dX2_spreads_98, rfl, rfl, rfl⟩) (m_right_lf ⟨2, dX2_spreads_100, rfl, rfl, rfl⟩)))) (m_right_nd (m_right_nd (m_right_lf ⟨2, dX2_spreads_102, rfl, rfl, rfl⟩) (m_right_nd (m_right_lf ⟨3, dX2_spreads_104, rfl, rfl, 182, rfl, by decide⟩) (m_right_lf ⟨1, dX2_spreads_107, rfl, rfl, rfl⟩))) (m_right_nd (m_right_lf ⟨3, dX2_spreads_108, rfl, rfl, 2, 0, rfl, Or.inl ⟨(RX2, TX2, 8), rfl, by decide, wd_231⟩⟩) (m_right_nd (m_right_lf ⟨1, dX2_spreads_111, rfl, rfl, rfl⟩) (m_right_lf ⟨2, dX2_spreads_112, rfl, rfl, rfl⟩))))) (m_right_nd (m_right_nd (m_right_nd (m_right_lf ⟨3, dX2_spreads_114, rfl, rfl, 13, 2, 1, (yX1_part, cX1_part, 3, (some .long)), rfl, me_X1_part, mc_X1_part, Or.inl ⟨(RX1, TX1, 4), rfl, rfl⟩, wd_612, wd_613, wd_614, wd_66⟩) (m_right_nd (m_right_lf ⟨2, dX2_spreads_117, rfl, rfl, rfl⟩) (m_right_lf ⟨2, dX2_spreads_119, rfl, rfl, rfl⟩))) (m_right_nd (m_right_lf ⟨1, dX2_spreads_121, rfl, rfl, by decide +kernel⟩) (m_right_nd (m_right_lf ⟨1, dX2_spreads_122, rfl, rfl⟩) (m_right_lf ⟨3, dX2_spreads_123, rfl, rfl, 176, rfl, by decide⟩)))) (m_right_nd (m_right_nd (m_right_lf ⟨1, dX2_spreads_126, rfl, rfl, rfl⟩) (m_right_nd (m_right_lf ⟨3, dX2_spreads_127, rfl, rfl, 2, 1, rfl, Or.inl ⟨(RX2, TX2, 8), rfl, by decide, wd_232⟩⟩) (m_right_lf ⟨2, dX2_spreads_130, rfl, rfl, rfl⟩))) (m_right_nd (m_right_lf ⟨1, dX2_spreads_132, rfl, rfl, rfl⟩) (m_right_nd (m_right_lf ⟨3, dX2_spreads_133, rfl, rfl, 2, 7, rfl, Or.inl ⟨(RX2, TX2, 8), rfl, by decide, wd_238⟩⟩) (m_right_lf ⟨3, dX2_spreads_136, rfl, rfl, 146, rfl, by decide⟩)))))) (m_right_nd (m_right_nd (m_right_nd (m_right_nd (m_right_lf ⟨2, dX2_spreads_139, rfl, rfl, rfl⟩) (m_right_nd (m_right_lf ⟨1, dX2_spreads_141, rfl, rfl, by decide +kernel⟩) (m_right_lf ⟨1, dX2_spreads_142, rfl, rfl⟩))) (m_right_nd (m_right_lf ⟨3, dX2_spreads_143, rfl, 147, rfl, by decide⟩) (m_right_nd (m_right_lf ⟨1, dX2_spreads_146, rfl, rfl, by decide +kernel⟩) (m_right_lf ⟨2, dX2_spreads_147, rfl, rfl, rfl⟩)))) (m_right_nd (m_right_nd (m_right_lf ⟨2, dX2_spreads_149, rfl, rfl, rfl⟩) (m_right_nd (m_right_lf ⟨1, dX2_spreads_151, rfl, rfl⟩) (m_right_lf ⟨1, dX2_spreads_152, rfl, rfl⟩))) (m_right_nd (m_right_lf ⟨3, dX2_spreads_153, rfl, rfl, 12, 3, 1, (yX1_add, cX1_add, 5, none), rfl, me_X1_add, mc_X1_add, Or.inl ⟨(RX1, TX1, 4), rfl, rfl⟩, wd_590, wd_591, wd_592, wd_66⟩) (m_right_nd (m_right_lf ⟨1, dX2_spreads_156, rfl, rfl, rfl⟩) (m_right_lf ⟨3, dX2_spreads_157, rfl, rfl, 2, 1, rfl, Or.inl ⟨(RX2, TX2, 8), rfl, by decide, wd_232⟩⟩))))) (m_right_nd (m_right_nd (m_right_nd (m_right_lf ⟨2, dX2_spreads_160, rfl, rfl, rfl⟩) (m_right_nd (m_right_lf ⟨2, dX2_spreads_162, rfl, rfl, rfl⟩) (m_right_lf ⟨2, dX2_spreads_164, rfl, rfl, rfl⟩))) (m_right_nd (m_right_lf ⟨2, dX2_spreads_166, rfl, rfl, by decide +kernel⟩) (m_right_nd (m_right_lf ⟨2, dX2_spreads_168, rfl, rfl, rfl⟩) (m_right_lf ⟨1, dX2_spreads_170, rfl, rfl⟩)))) (m_right_nd (m_right_nd (m_right_lf ⟨1, dX2_spreads_171, rfl, rfl⟩) (m_right_nd (m_right_lf ⟨1, dX2_spreads_172, rfl, rfl⟩) (m_right_lf ⟨3, dX2_spreads_173, rfl, rfl, 12, 3, 1, (yX1_add, cX1_add, 5, none), rfl, me_X1_add, mc_X1_add, Or.inl ⟨(RX1, TX1, 4), rfl, rfl⟩, wd_590, wd_591, wd_592, wd_66⟩))) (m_right_nd (m_right_lf ⟨3, dX2_spreads_176, rfl, rfl, rfl, by decide +kernel⟩) (m_right_nd (m_right_lf ⟨3, dX2_spreads_179, rfl, 100, rfl, by decide⟩) (m_right_lf ⟨1, dX2_spreads_182, rfl, rfl⟩)))))))
theorem dX2_takesWon_0 : decode cX2_takesWon 0 = .ok (.iload_n 1, 1) := by decide +kernel
theorem dX2_takesWon_1 : decode cX2_takesWon 1 = .ok (.ifCond .lt 9, 3) := by decide +kernel
theorem dX2_takesWon_4 : decode cX2_takesWon 4 = .ok (.iload_n 1, 1) := by decide +kernel
theorem dX2_takesWon_5 : decode cX2_takesWon 5 = .ok (.bipush 13, 2) := by decide +kernel
theorem dX2_takesWon_7 : decode cX2_takesWon 7 = .ok (.if_icmp .lt 5, 3) := by decide +kernel
theorem dX2_takesWon_10 : decode cX2_takesWon 10 = .ok (.lconst 0, 1) := by decide +kernel
theorem dX2_takesWon_11 : decode cX2_takesWon 11 = .ok (.lreturn, 1) := by decide +kernel
theorem dX2_takesWon_12 : decode cX2_takesWon 12 = .ok (.lconst 0, 1) := by decide +kernel
theorem dX2_takesWon_13 : decode cX2_takesWon 13 = .ok (.lstore_n 2, 1) := by decide +kernel
theorem dX2_takesWon_14 : decode cX2_takesWon 14 = .ok (.iconst 0, 1) := by decide +kernel
theorem dX2_takesWon_15 : decode cX2_takesWon 15 = .ok (.istore 4, 2) := by decide +kernel
theorem dX2_takesWon_17 : decode cX2_takesWon 17 = .ok (.iload 4, 2) := by decide +kernel
theorem dX2_takesWon_19 : decode cX2_takesWon 19 = .ok (.aload_n 0, 1) := by decide +kernel
theorem dX2_takesWon_20 : decode cX2_takesWon 20 = .ok (.getfield 12, 3) := by decide +kernel
theorem dX2_takesWon_23 : decode cX2_takesWon 23 = .ok (.getfield 60, 3) := by decide +kernel
theorem dX2_takesWon_26 : decode cX2_takesWon 26 = .ok (.if_icmp .ge 30, 3) := by decide +kernel
theorem dX2_takesWon_29 : decode cX2_takesWon 29 = .ok (.lload_n 2, 1) := by decide +kernel
theorem dX2_takesWon_30 : decode cX2_takesWon 30 = .ok (.aload_n 0, 1) := by decide +kernel
theorem dX2_takesWon_31 : decode cX2_takesWon 31 = .ok (.getfield 12, 3) := by decide +kernel
theorem dX2_takesWon_34 : decode cX2_takesWon 34 = .ok (.aload_n 0, 1) := by decide +kernel
theorem dX2_takesWon_35 : decode cX2_takesWon 35 = .ok (.getfield 12, 3) := by decide +kernel
theorem dX2_takesWon_38 : decode cX2_takesWon 38 = .ok (.getfield 63, 3) := by decide +kernel
theorem dX2_takesWon_41 : decode cX2_takesWon 41 = .ok (.iload 4, 2) := by decide +kernel
theorem dX2_takesWon_43 : decode cX2_takesWon 43 = .ok (.iaload, 1) := by decide +kernel
theorem dX2_takesWon_44 : decode cX2_takesWon 44 = .ok (.iload_n 1, 1) := by decide +kernel
theorem dX2_takesWon_45 : decode cX2_takesWon 45 = .ok (.invokevirtual 96, 3) := by decide +kernel
theorem dX2_takesWon_48 : decode cX2_takesWon 48 = .ok (.ladd, 1) := by decide +kernel
theorem dX2_takesWon_49 : decode cX2_takesWon 49 = .ok (.lstore_n 2, 1) := by decide +kernel
theorem dX2_takesWon_50 : decode cX2_takesWon 50 = .ok (.iinc 4 1, 3) := by decide +kernel
theorem dX2_takesWon_53 : decode cX2_takesWon 53 = .ok (.goto (-36), 3) := by decide +kernel
theorem dX2_takesWon_56 : decode cX2_takesWon 56 = .ok (.lload_n 2, 1) := by decide +kernel
theorem dX2_takesWon_57 : decode cX2_takesWon 57 = .ok (.lreturn, 1) := by decide +kernel
set_option maxRecDepth 20000 in
theorem r_X2_takesWon : m_Right (yX2_takesWon, cX2_takesWon, 5, (some .long)) q_X2_takesWon := m_right_nd (m_right_nd (m_right_nd (m_right_nd (m_right_nd (m_right_lf ⟨1, dX2_takesWon_0, rfl, rfl, rfl⟩) (m_right_lf ⟨3, dX2_takesWon_1, rfl, rfl, 10, rfl, by decide⟩)) (m_right_nd (m_right_lf ⟨1, dX2_takesWon_4, rfl, rfl, rfl⟩) (m_right_lf ⟨2, dX2_takesWon_5, rfl, rfl, by decide +kernel⟩))) (m_right_nd (m_right_nd (m_right_lf ⟨3, dX2_takesWon_7, rfl, rfl, 12, rfl, by decide⟩) (m_right_lf ⟨1, dX2_takesWon_10, rfl, rfl, by decide +kernel⟩)) (m_right_nd (m_right_lf ⟨1, dX2_takesWon_11, rfl, rfl⟩) (m_right_lf ⟨1, dX2_takesWon_12, rfl, rfl, by decide +kernel⟩)))) (m_right_nd (m_right_nd (m_right_nd (m_right_lf ⟨1, dX2_takesWon_13, rfl, rfl, rfl⟩) (m_right_lf ⟨1, dX2_takesWon_14, rfl, rfl, by decide +kernel⟩)) (m_right_nd (m_right_lf ⟨2, dX2_takesWon_15, rfl, rfl, rfl⟩) (m_right_lf ⟨2, dX2_takesWon_17, rfl, rfl, rfl⟩))) (m_right_nd (m_right_nd (m_right_lf ⟨1, dX2_takesWon_19, rfl, rfl, rfl⟩) (m_right_lf ⟨3, dX2_takesWon_20, rfl, rfl, 2, 0, rfl, Or.inl ⟨(RX2, TX2, 8), rfl, by decide, wd_231⟩⟩)) (m_right_nd (m_right_lf ⟨3, dX2_takesWon_23, rfl, rfl, 1, 1, rfl, Or.inl ⟨(RX1, TX1, 4), rfl, by decide, wd_216⟩⟩) (m_right_lf ⟨3, dX2_takesWon_26, rfl, rfl, 56, rfl, by decide⟩))))) (m_right_nd (m_right_nd (m_right_nd (m_right_nd (m_right_lf ⟨1, dX2_takesWon_29, rfl, rfl, rfl⟩) (m_right_lf ⟨1, dX2_takesWon_30, rfl, rfl, rfl⟩)) (m_right_nd (m_right_lf ⟨3, dX2_takesWon_31, rfl, rfl, 2, 0, rfl, Or.inl ⟨(RX2, TX2, 8), rfl, by decide, wd_231⟩⟩) (m_right_lf ⟨1, dX2_takesWon_34, rfl, rfl, rfl⟩))) (m_right_nd (m_right_nd (m_right_lf ⟨3, dX2_takesWon_35, rfl, rfl, 2, 0, rfl, Or.inl ⟨(RX2, TX2, 8), rfl, by decide, wd_231⟩⟩) (m_right_lf ⟨3, dX2_takesWon_38, rfl, rfl, 1, 0, rfl, Or.inl ⟨(RX1, TX1, 4), rfl, by decide, wd_215⟩⟩)) (m_right_nd (m_right_lf ⟨2, dX2_takesWon_41, rfl, rfl, rfl⟩) (m_right_lf ⟨1, dX2_takesWon_43, rfl, rfl⟩)))) (m_right_nd (m_right_nd (m_right_nd (m_right_lf ⟨1, dX2_takesWon_44, rfl, rfl, rfl⟩) (m_right_lf ⟨3, dX2_takesWon_45, rfl, rfl, 14, 2, 1, (yX1_take, cX1_take, 5, (some .long)), rfl, me_X1_take, mc_X1_take, Or.inl ⟨(RX1, TX1, 4), rfl, rfl⟩, wd_620, wd_621, wd_622, wd_66⟩)) (m_right_nd (m_right_lf ⟨1, dX2_takesWon_48, rfl, rfl⟩) (m_right_lf ⟨1, dX2_takesWon_49, rfl, rfl, rfl⟩))) (m_right_nd (m_right_nd (m_right_lf ⟨3, dX2_takesWon_50, rfl, rfl, rfl, by decide +kernel⟩) (m_right_lf ⟨3, dX2_takesWon_53, rfl, 17, rfl, by decide⟩)) (m_right_nd (m_right_lf ⟨1, dX2_takesWon_56, rfl, rfl, rfl⟩) (m_right_lf ⟨1, dX2_takesWon_57, rfl, rfl⟩)))))
theorem dX2_takesEnded_0 : decode cX2_takesEnded 0 = .ok (.lconst 0, 1) := by decide +kernel
theorem dX2_takesEnded_1 : decode cX2_takesEnded 1 = .ok (.lstore_n 1, 1) := by decide +kernel
theorem dX2_takesEnded_2 : decode cX2_takesEnded 2 = .ok (.iconst 0, 1) := by decide +kernel
theorem dX2_takesEnded_3 : decode cX2_takesEnded 3 = .ok (.istore_n 3, 1) := by decide +kernel
theorem dX2_takesEnded_4 : decode cX2_takesEnded 4 = .ok (.iload_n 3, 1) := by decide +kernel
theorem dX2_takesEnded_5 : decode cX2_takesEnded 5 = .ok (.aload_n 0, 1) := by decide +kernel
theorem dX2_takesEnded_6 : decode cX2_takesEnded 6 = .ok (.getfield 12, 3) := by decide +kernel
theorem dX2_takesEnded_9 : decode cX2_takesEnded 9 = .ok (.getfield 60, 3) := by decide +kernel
theorem dX2_takesEnded_12 : decode cX2_takesEnded 12 = .ok (.if_icmp .ge 45, 3) := by decide +kernel
theorem dX2_takesEnded_15 : decode cX2_takesEnded 15 = .ok (.aload_n 0, 1) := by decide +kernel
theorem dX2_takesEnded_16 : decode cX2_takesEnded 16 = .ok (.getfield 12, 3) := by decide +kernel
theorem dX2_takesEnded_19 : decode cX2_takesEnded 19 = .ok (.getfield 63, 3) := by decide +kernel
theorem dX2_takesEnded_22 : decode cX2_takesEnded 22 = .ok (.iload_n 3, 1) := by decide +kernel
theorem dX2_takesEnded_23 : decode cX2_takesEnded 23 = .ok (.iaload, 1) := by decide +kernel
theorem dX2_takesEnded_24 : decode cX2_takesEnded 24 = .ok (.invokestatic 70, 3) := by decide +kernel
theorem dX2_takesEnded_27 : decode cX2_takesEnded 27 = .ok (.iconst 1, 1) := by decide +kernel
theorem dX2_takesEnded_28 : decode cX2_takesEnded 28 = .ok (.if_icmp .ne 23, 3) := by decide +kernel
theorem dX2_takesEnded_31 : decode cX2_takesEnded 31 = .ok (.lload_n 1, 1) := by decide +kernel
theorem dX2_takesEnded_32 : decode cX2_takesEnded 32 = .ok (.aload_n 0, 1) := by decide +kernel
theorem dX2_takesEnded_33 : decode cX2_takesEnded 33 = .ok (.getfield 12, 3) := by decide +kernel
theorem dX2_takesEnded_36 : decode cX2_takesEnded 36 = .ok (.aload_n 0, 1) := by decide +kernel
theorem dX2_takesEnded_37 : decode cX2_takesEnded 37 = .ok (.getfield 12, 3) := by decide +kernel
theorem dX2_takesEnded_40 : decode cX2_takesEnded 40 = .ok (.getfield 63, 3) := by decide +kernel
theorem dX2_takesEnded_43 : decode cX2_takesEnded 43 = .ok (.iload_n 3, 1) := by decide +kernel
theorem dX2_takesEnded_44 : decode cX2_takesEnded 44 = .ok (.iaload, 1) := by decide +kernel
theorem dX2_takesEnded_45 : decode cX2_takesEnded 45 = .ok (.iconst 0, 1) := by decide +kernel
theorem dX2_takesEnded_46 : decode cX2_takesEnded 46 = .ok (.invokevirtual 96, 3) := by decide +kernel
theorem dX2_takesEnded_49 : decode cX2_takesEnded 49 = .ok (.ladd, 1) := by decide +kernel
theorem dX2_takesEnded_50 : decode cX2_takesEnded 50 = .ok (.lstore_n 1, 1) := by decide +kernel
theorem dX2_takesEnded_51 : decode cX2_takesEnded 51 = .ok (.iinc 3 1, 3) := by decide +kernel
theorem dX2_takesEnded_54 : decode cX2_takesEnded 54 = .ok (.goto (-50), 3) := by decide +kernel
theorem dX2_takesEnded_57 : decode cX2_takesEnded 57 = .ok (.lload_n 1, 1) := by decide +kernel
theorem dX2_takesEnded_58 : decode cX2_takesEnded 58 = .ok (.lreturn, 1) := by decide +kernel
set_option maxRecDepth 20000 in
theorem r_X2_takesEnded : m_Right (yX2_takesEnded, cX2_takesEnded, 4, (some .long)) q_X2_takesEnded := m_right_nd (m_right_nd (m_right_nd (m_right_nd (m_right_nd (m_right_lf ⟨1, dX2_takesEnded_0, rfl, rfl, by decide +kernel⟩) (m_right_lf ⟨1, dX2_takesEnded_1, rfl, rfl, rfl⟩)) (m_right_nd (m_right_lf ⟨1, dX2_takesEnded_2, rfl, rfl, by decide +kernel⟩) (m_right_lf ⟨1, dX2_takesEnded_3, rfl, rfl, rfl⟩))) (m_right_nd (m_right_nd (m_right_lf ⟨1, dX2_takesEnded_4, rfl, rfl, rfl⟩) (m_right_lf ⟨1, dX2_takesEnded_5, rfl, rfl, rfl⟩)) (m_right_nd (m_right_lf ⟨3, dX2_takesEnded_6, rfl, rfl, 2, 0, rfl, Or.inl ⟨(RX2, TX2, 8), rfl, by decide, wd_231⟩⟩) (m_right_lf ⟨3, dX2_takesEnded_9, rfl, rfl, 1, 1, rfl, Or.inl ⟨(RX1, TX1, 4), rfl, by decide, wd_216⟩⟩)))) (m_right_nd (m_right_nd (m_right_nd (m_right_lf ⟨3, dX2_takesEnded_12, rfl, rfl, 57, rfl, by decide⟩) (m_right_lf ⟨1, dX2_takesEnded_15, rfl, rfl, rfl⟩)) (m_right_nd (m_right_lf ⟨3, dX2_takesEnded_16, rfl, rfl, 2, 0, rfl, Or.inl ⟨(RX2, TX2, 8), rfl, by decide, wd_231⟩⟩) (m_right_lf ⟨3, dX2_takesEnded_19, rfl, rfl, 1, 0, rfl, Or.inl ⟨(RX1, TX1, 4), rfl, by decide, wd_215⟩⟩))) (m_right_nd (m_right_nd (m_right_lf ⟨1, dX2_takesEnded_22, rfl, rfl, rfl⟩) (m_right_lf ⟨1, dX2_takesEnded_23, rfl, rfl⟩)) (m_right_nd (m_right_lf ⟨3, dX2_takesEnded_24, rfl, rfl, Or.inr (Or.inr ⟨10, 1, (yX1_menOfOne, cX1_menOfOne, 1, (some .int)), rfl, me_X1_menOfOne, mc_X1_menOfOne, wd_602, wd_603, wd_66⟩)⟩) (m_right_lf ⟨1, dX2_takesEnded_27, rfl, rfl, by decide +kernel⟩))))) (m_right_nd (m_right_nd (m_right_nd (m_right_nd (m_right_lf ⟨3, dX2_takesEnded_28, rfl, rfl, 51, rfl, by decide⟩) (m_right_lf ⟨1, dX2_takesEnded_31, rfl, rfl, rfl⟩)) (m_right_nd (m_right_lf ⟨1, dX2_takesEnded_32, rfl, rfl, rfl⟩) (m_right_lf ⟨3, dX2_takesEnded_33, rfl, rfl, 2, 0, rfl, Or.inl ⟨(RX2, TX2, 8), rfl, by decide, wd_231⟩⟩))) (m_right_nd (m_right_nd (m_right_lf ⟨1, dX2_takesEnded_36, rfl, rfl, rfl⟩) (m_right_lf ⟨3, dX2_takesEnded_37, rfl, rfl, 2, 0, rfl, Or.inl ⟨(RX2, TX2, 8), rfl, by decide, wd_231⟩⟩)) (m_right_nd (m_right_lf ⟨3, dX2_takesEnded_40, rfl, rfl, 1, 0, rfl, Or.inl ⟨(RX1, TX1, 4), rfl, by decide, wd_215⟩⟩) (m_right_lf ⟨1, dX2_takesEnded_43, rfl, rfl, rfl⟩)))) (m_right_nd (m_right_nd (m_right_nd (m_right_lf ⟨1, dX2_takesEnded_44, rfl, rfl⟩) (m_right_lf ⟨1, dX2_takesEnded_45, rfl, rfl, by decide +kernel⟩)) (m_right_nd (m_right_lf ⟨3, dX2_takesEnded_46, rfl, rfl, 14, 2, 1, (yX1_take, cX1_take, 5, (some .long)), rfl, me_X1_take, mc_X1_take, Or.inl ⟨(RX1, TX1, 4), rfl, rfl⟩, wd_620, wd_621, wd_622, wd_66⟩) (m_right_lf ⟨1, dX2_takesEnded_49, rfl, rfl⟩))) (m_right_nd (m_right_nd (m_right_lf ⟨1, dX2_takesEnded_50, rfl, rfl, rfl⟩) (m_right_lf ⟨3, dX2_takesEnded_51, rfl, rfl, rfl, by decide +kernel⟩)) (m_right_nd (m_right_lf ⟨3, dX2_takesEnded_54, rfl, 4, rfl, by decide⟩) (m_right_nd (m_right_lf ⟨1, dX2_takesEnded_57, rfl, rfl, rfl⟩) (m_right_lf ⟨1, dX2_takesEnded_58, rfl, rfl⟩))))))
theorem dX2_menOfOne_0 : decode cX2_menOfOne 0 = .ok (.lconst 0, 1) := by decide +kernel
theorem dX2_menOfOne_1 : decode cX2_menOfOne 1 = .ok (.lstore_n 1, 1) := by decide +kernel
theorem dX2_menOfOne_2 : decode cX2_menOfOne 2 = .ok (.iconst 0, 1) := by decide +kernel
theorem dX2_menOfOne_3 : decode cX2_menOfOne 3 = .ok (.istore_n 3, 1) := by decide +kernel
theorem dX2_menOfOne_4 : decode cX2_menOfOne 4 = .ok (.iload_n 3, 1) := by decide +kernel
theorem dX2_menOfOne_5 : decode cX2_menOfOne 5 = .ok (.aload_n 0, 1) := by decide +kernel
theorem dX2_menOfOne_6 : decode cX2_menOfOne 6 = .ok (.getfield 12, 3) := by decide +kernel
theorem dX2_menOfOne_9 : decode cX2_menOfOne 9 = .ok (.getfield 60, 3) := by decide +kernel
theorem dX2_menOfOne_12 : decode cX2_menOfOne 12 = .ok (.if_icmp .ge 43, 3) := by decide +kernel
theorem dX2_menOfOne_15 : decode cX2_menOfOne 15 = .ok (.lload_n 1, 1) := by decide +kernel
theorem dX2_menOfOne_16 : decode cX2_menOfOne 16 = .ok (.aload_n 0, 1) := by decide +kernel
theorem dX2_menOfOne_17 : decode cX2_menOfOne 17 = .ok (.getfield 12, 3) := by decide +kernel
theorem dX2_menOfOne_20 : decode cX2_menOfOne 20 = .ok (.aload_n 0, 1) := by decide +kernel
theorem dX2_menOfOne_21 : decode cX2_menOfOne 21 = .ok (.getfield 12, 3) := by decide +kernel
theorem dX2_menOfOne_24 : decode cX2_menOfOne 24 = .ok (.getfield 63, 3) := by decide +kernel
theorem dX2_menOfOne_27 : decode cX2_menOfOne 27 = .ok (.iload_n 3, 1) := by decide +kernel
theorem dX2_menOfOne_28 : decode cX2_menOfOne 28 = .ok (.iaload, 1) := by decide +kernel
theorem dX2_menOfOne_29 : decode cX2_menOfOne 29 = .ok (.iconst 0, 1) := by decide +kernel
theorem dX2_menOfOne_30 : decode cX2_menOfOne 30 = .ok (.invokevirtual 92, 3) := by decide +kernel
theorem dX2_menOfOne_33 : decode cX2_menOfOne 33 = .ok (.aload_n 0, 1) := by decide +kernel
theorem dX2_menOfOne_34 : decode cX2_menOfOne 34 = .ok (.getfield 12, 3) := by decide +kernel
theorem dX2_menOfOne_37 : decode cX2_menOfOne 37 = .ok (.getfield 63, 3) := by decide +kernel
theorem dX2_menOfOne_40 : decode cX2_menOfOne 40 = .ok (.iload_n 3, 1) := by decide +kernel
theorem dX2_menOfOne_41 : decode cX2_menOfOne 41 = .ok (.iaload, 1) := by decide +kernel
theorem dX2_menOfOne_42 : decode cX2_menOfOne 42 = .ok (.invokestatic 70, 3) := by decide +kernel
theorem dX2_menOfOne_45 : decode cX2_menOfOne 45 = .ok (.i2l, 1) := by decide +kernel
theorem dX2_menOfOne_46 : decode cX2_menOfOne 46 = .ok (.lmul, 1) := by decide +kernel
theorem dX2_menOfOne_47 : decode cX2_menOfOne 47 = .ok (.ladd, 1) := by decide +kernel
theorem dX2_menOfOne_48 : decode cX2_menOfOne 48 = .ok (.lstore_n 1, 1) := by decide +kernel
theorem dX2_menOfOne_49 : decode cX2_menOfOne 49 = .ok (.iinc 3 1, 3) := by decide +kernel
theorem dX2_menOfOne_52 : decode cX2_menOfOne 52 = .ok (.goto (-48), 3) := by decide +kernel
theorem dX2_menOfOne_55 : decode cX2_menOfOne 55 = .ok (.lload_n 1, 1) := by decide +kernel
theorem dX2_menOfOne_56 : decode cX2_menOfOne 56 = .ok (.lreturn, 1) := by decide +kernel
set_option maxRecDepth 20000 in
theorem r_X2_menOfOne : m_Right (yX2_menOfOne, cX2_menOfOne, 4, (some .long)) q_X2_menOfOne := m_right_nd (m_right_nd (m_right_nd (m_right_nd (m_right_nd (m_right_lf ⟨1, dX2_menOfOne_0, rfl, rfl, by decide +kernel⟩) (m_right_lf ⟨1, dX2_menOfOne_1, rfl, rfl, rfl⟩)) (m_right_nd (m_right_lf ⟨1, dX2_menOfOne_2, rfl, rfl, by decide +kernel⟩) (m_right_lf ⟨1, dX2_menOfOne_3, rfl, rfl, rfl⟩))) (m_right_nd (m_right_nd (m_right_lf ⟨1, dX2_menOfOne_4, rfl, rfl, rfl⟩) (m_right_lf ⟨1, dX2_menOfOne_5, rfl, rfl, rfl⟩)) (m_right_nd (m_right_lf ⟨3, dX2_menOfOne_6, rfl, rfl, 2, 0, rfl, Or.inl ⟨(RX2, TX2, 8), rfl, by decide, wd_231⟩⟩) (m_right_lf ⟨3, dX2_menOfOne_9, rfl, rfl, 1, 1, rfl, Or.inl ⟨(RX1, TX1, 4), rfl, by decide, wd_216⟩⟩)))) (m_right_nd (m_right_nd (m_right_nd (m_right_lf ⟨3, dX2_menOfOne_12, rfl, rfl, 55, rfl, by decide⟩) (m_right_lf ⟨1, dX2_menOfOne_15, rfl, rfl, rfl⟩)) (m_right_nd (m_right_lf ⟨1, dX2_menOfOne_16, rfl, rfl, rfl⟩) (m_right_lf ⟨3, dX2_menOfOne_17, rfl, rfl, 2, 0, rfl, Or.inl ⟨(RX2, TX2, 8), rfl, by decide, wd_231⟩⟩))) (m_right_nd (m_right_nd (m_right_lf ⟨1, dX2_menOfOne_20, rfl, rfl, rfl⟩) (m_right_lf ⟨3, dX2_menOfOne_21, rfl, rfl, 2, 0, rfl, Or.inl ⟨(RX2, TX2, 8), rfl, by decide, wd_231⟩⟩)) (m_right_nd (m_right_lf ⟨3, dX2_menOfOne_24, rfl, rfl, 1, 0, rfl, Or.inl ⟨(RX1, TX1, 4), rfl, by decide, wd_215⟩⟩) (m_right_lf ⟨1, dX2_menOfOne_27, rfl, rfl, rfl⟩))))) (m_right_nd (m_right_nd (m_right_nd (m_right_nd (m_right_lf ⟨1, dX2_menOfOne_28, rfl, rfl⟩) (m_right_lf ⟨1, dX2_menOfOne_29, rfl, rfl, by decide +kernel⟩)) (m_right_nd (m_right_lf ⟨3, dX2_menOfOne_30, rfl, rfl, 13, 2, 1, (yX1_part, cX1_part, 3, (some .long)), rfl, me_X1_part, mc_X1_part, Or.inl ⟨(RX1, TX1, 4), rfl, rfl⟩, wd_612, wd_613, wd_614, wd_66⟩) (m_right_lf ⟨1, dX2_menOfOne_33, rfl, rfl, rfl⟩))) (m_right_nd (m_right_nd (m_right_lf ⟨3, dX2_menOfOne_34, rfl, rfl, 2, 0, rfl, Or.inl ⟨(RX2, TX2, 8), rfl, by decide, wd_231⟩⟩) (m_right_lf ⟨3, dX2_menOfOne_37, rfl, rfl, 1, 0, rfl, Or.inl ⟨(RX1, TX1, 4), rfl, by decide, wd_215⟩⟩)) (m_right_nd (m_right_lf ⟨1, dX2_menOfOne_40, rfl, rfl, rfl⟩) (m_right_lf ⟨1, dX2_menOfOne_41, rfl, rfl⟩)))) (m_right_nd (m_right_nd (m_right_nd (m_right_lf ⟨3, dX2_menOfOne_42, rfl, rfl, Or.inr (Or.inr ⟨10, 1, (yX1_menOfOne, cX1_menOfOne, 1, (some .int)), rfl, me_X1_menOfOne, mc_X1_menOfOne, wd_602, wd_603, wd_66⟩)⟩) (m_right_lf ⟨1, dX2_menOfOne_45, rfl, rfl⟩)) (m_right_nd (m_right_lf ⟨1, dX2_menOfOne_46, rfl, rfl⟩) (m_right_lf ⟨1, dX2_menOfOne_47, rfl, rfl⟩))) (m_right_nd (m_right_nd (m_right_lf ⟨1, dX2_menOfOne_48, rfl, rfl, rfl⟩) (m_right_lf ⟨3, dX2_menOfOne_49, rfl, rfl, rfl, by decide +kernel⟩)) (m_right_nd (m_right_lf ⟨3, dX2_menOfOne_52, rfl, 4, rfl, by decide⟩) (m_right_nd (m_right_lf ⟨1, dX2_menOfOne_55, rfl, rfl, rfl⟩) (m_right_lf ⟨1, dX2_menOfOne_56, rfl, rfl⟩))))))
theorem dX2_stakeOfOne_0 : decode cX2_stakeOfOne 0 = .ok (.lconst 0, 1) := by decide +kernel
theorem dX2_stakeOfOne_1 : decode cX2_stakeOfOne 1 = .ok (.lstore_n 1, 1) := by decide +kernel
theorem dX2_stakeOfOne_2 : decode cX2_stakeOfOne 2 = .ok (.iconst 0, 1) := by decide +kernel
theorem dX2_stakeOfOne_3 : decode cX2_stakeOfOne 3 = .ok (.istore_n 3, 1) := by decide +kernel
theorem dX2_stakeOfOne_4 : decode cX2_stakeOfOne 4 = .ok (.iload_n 3, 1) := by decide +kernel
theorem dX2_stakeOfOne_5 : decode cX2_stakeOfOne 5 = .ok (.aload_n 0, 1) := by decide +kernel
theorem dX2_stakeOfOne_6 : decode cX2_stakeOfOne 6 = .ok (.getfield 12, 3) := by decide +kernel
theorem dX2_stakeOfOne_9 : decode cX2_stakeOfOne 9 = .ok (.getfield 60, 3) := by decide +kernel
theorem dX2_stakeOfOne_12 : decode cX2_stakeOfOne 12 = .ok (.if_icmp .ge 98, 3) := by decide +kernel
theorem dX2_stakeOfOne_15 : decode cX2_stakeOfOne 15 = .ok (.aload_n 0, 1) := by decide +kernel
theorem dX2_stakeOfOne_16 : decode cX2_stakeOfOne 16 = .ok (.getfield 12, 3) := by decide +kernel
theorem dX2_stakeOfOne_19 : decode cX2_stakeOfOne 19 = .ok (.getfield 63, 3) := by decide +kernel
theorem dX2_stakeOfOne_22 : decode cX2_stakeOfOne 22 = .ok (.iload_n 3, 1) := by decide +kernel
theorem dX2_stakeOfOne_23 : decode cX2_stakeOfOne 23 = .ok (.iaload, 1) := by decide +kernel
theorem dX2_stakeOfOne_24 : decode cX2_stakeOfOne 24 = .ok (.invokestatic 70, 3) := by decide +kernel
theorem dX2_stakeOfOne_27 : decode cX2_stakeOfOne 27 = .ok (.istore 4, 2) := by decide +kernel
theorem dX2_stakeOfOne_29 : decode cX2_stakeOfOne 29 = .ok (.aload_n 0, 1) := by decide +kernel
theorem dX2_stakeOfOne_30 : decode cX2_stakeOfOne 30 = .ok (.getfield 12, 3) := by decide +kernel
theorem dX2_stakeOfOne_33 : decode cX2_stakeOfOne 33 = .ok (.getfield 63, 3) := by decide +kernel
theorem dX2_stakeOfOne_36 : decode cX2_stakeOfOne 36 = .ok (.iload_n 3, 1) := by decide +kernel
theorem dX2_stakeOfOne_37 : decode cX2_stakeOfOne 37 = .ok (.iaload, 1) := by decide +kernel
theorem dX2_stakeOfOne_38 : decode cX2_stakeOfOne 38 = .ok (.invokestatic 74, 3) := by decide +kernel
theorem dX2_stakeOfOne_41 : decode cX2_stakeOfOne 41 = .ok (.istore 5, 2) := by decide +kernel
theorem dX2_stakeOfOne_43 : decode cX2_stakeOfOne 43 = .ok (.aload_n 0, 1) := by decide +kernel
theorem dX2_stakeOfOne_44 : decode cX2_stakeOfOne 44 = .ok (.getfield 21, 3) := by decide +kernel
theorem dX2_stakeOfOne_47 : decode cX2_stakeOfOne 47 = .ok (.aload_n 0, 1) := by decide +kernel
theorem dX2_stakeOfOne_48 : decode cX2_stakeOfOne 48 = .ok (.getfield 25, 3) := by decide +kernel
theorem dX2_stakeOfOne_51 : decode cX2_stakeOfOne 51 = .ok (.aload_n 0, 1) := by decide +kernel
theorem dX2_stakeOfOne_52 : decode cX2_stakeOfOne 52 = .ok (.getfield 29, 3) := by decide +kernel
theorem dX2_stakeOfOne_55 : decode cX2_stakeOfOne 55 = .ok (.iload 4, 2) := by decide +kernel
theorem dX2_stakeOfOne_57 : decode cX2_stakeOfOne 57 = .ok (.iload 5, 2) := by decide +kernel
theorem dX2_stakeOfOne_59 : decode cX2_stakeOfOne 59 = .ok (.aload_n 0, 1) := by decide +kernel
theorem dX2_stakeOfOne_60 : decode cX2_stakeOfOne 60 = .ok (.getfield 37, 3) := by decide +kernel
theorem dX2_stakeOfOne_63 : decode cX2_stakeOfOne 63 = .ok (.invokevirtual 77, 3) := by decide +kernel
theorem dX2_stakeOfOne_66 : decode cX2_stakeOfOne 66 = .ok (.istore 6, 2) := by decide +kernel
theorem dX2_stakeOfOne_68 : decode cX2_stakeOfOne 68 = .ok (.lload_n 1, 1) := by decide +kernel
theorem dX2_stakeOfOne_69 : decode cX2_stakeOfOne 69 = .ok (.aload_n 0, 1) := by decide +kernel
theorem dX2_stakeOfOne_70 : decode cX2_stakeOfOne 70 = .ok (.getfield 12, 3) := by decide +kernel
theorem dX2_stakeOfOne_73 : decode cX2_stakeOfOne 73 = .ok (.aload_n 0, 1) := by decide +kernel
theorem dX2_stakeOfOne_74 : decode cX2_stakeOfOne 74 = .ok (.getfield 12, 3) := by decide +kernel
theorem dX2_stakeOfOne_77 : decode cX2_stakeOfOne 77 = .ok (.getfield 63, 3) := by decide +kernel
theorem dX2_stakeOfOne_80 : decode cX2_stakeOfOne 80 = .ok (.iload_n 3, 1) := by decide +kernel
theorem dX2_stakeOfOne_81 : decode cX2_stakeOfOne 81 = .ok (.iaload, 1) := by decide +kernel
theorem dX2_stakeOfOne_82 : decode cX2_stakeOfOne 82 = .ok (.iconst 0, 1) := by decide +kernel
theorem dX2_stakeOfOne_83 : decode cX2_stakeOfOne 83 = .ok (.invokevirtual 92, 3) := by decide +kernel
theorem dX2_stakeOfOne_86 : decode cX2_stakeOfOne 86 = .ok (.iload 6, 2) := by decide +kernel
theorem dX2_stakeOfOne_88 : decode cX2_stakeOfOne 88 = .ok (.iload 5, 2) := by decide +kernel
theorem dX2_stakeOfOne_90 : decode cX2_stakeOfOne 90 = .ok (.imul, 1) := by decide +kernel
theorem dX2_stakeOfOne_91 : decode cX2_stakeOfOne 91 = .ok (.bipush 10, 2) := by decide +kernel
theorem dX2_stakeOfOne_93 : decode cX2_stakeOfOne 93 = .ok (.iload 6, 2) := by decide +kernel
theorem dX2_stakeOfOne_95 : decode cX2_stakeOfOne 95 = .ok (.isub, 1) := by decide +kernel
theorem dX2_stakeOfOne_96 : decode cX2_stakeOfOne 96 = .ok (.iload 4, 2) := by decide +kernel
theorem dX2_stakeOfOne_98 : decode cX2_stakeOfOne 98 = .ok (.imul, 1) := by decide +kernel
theorem dX2_stakeOfOne_99 : decode cX2_stakeOfOne 99 = .ok (.isub, 1) := by decide +kernel
theorem dX2_stakeOfOne_100 : decode cX2_stakeOfOne 100 = .ok (.i2l, 1) := by decide +kernel
theorem dX2_stakeOfOne_101 : decode cX2_stakeOfOne 101 = .ok (.lmul, 1) := by decide +kernel
theorem dX2_stakeOfOne_102 : decode cX2_stakeOfOne 102 = .ok (.ladd, 1) := by decide +kernel
theorem dX2_stakeOfOne_103 : decode cX2_stakeOfOne 103 = .ok (.lstore_n 1, 1) := by decide +kernel
theorem dX2_stakeOfOne_104 : decode cX2_stakeOfOne 104 = .ok (.iinc 3 1, 3) := by decide +kernel
theorem dX2_stakeOfOne_107 : decode cX2_stakeOfOne 107 = .ok (.goto (-103), 3) := by decide +kernel
theorem dX2_stakeOfOne_110 : decode cX2_stakeOfOne 110 = .ok (.lload_n 1, 1) := by decide +kernel
theorem dX2_stakeOfOne_111 : decode cX2_stakeOfOne 111 = .ok (.lreturn, 1) := by decide +kernel
set_option maxRecDepth 20000 in
theorem r_X2_stakeOfOne : m_Right (yX2_stakeOfOne, cX2_stakeOfOne, 7, (some .long)) q_X2_stakeOfOne := m_right_nd (m_right_nd (m_right_nd (m_right_nd (m_right_nd (m_right_lf ⟨1, dX2_stakeOfOne_0, rfl, rfl, by decide +kernel⟩) (m_right_nd (m_right_lf ⟨1, dX2_stakeOfOne_1, rfl, rfl, rfl⟩) (m_right_lf ⟨1, dX2_stakeOfOne_2, rfl, rfl, by decide +kernel⟩))) (m_right_nd (m_right_nd (m_right_lf ⟨1, dX2_stakeOfOne_3, rfl, rfl, rfl⟩) (m_right_lf ⟨1, dX2_stakeOfOne_4, rfl, rfl, rfl⟩)) (m_right_nd (m_right_lf ⟨1, dX2_stakeOfOne_5, rfl, rfl, rfl⟩) (m_right_lf ⟨3, dX2_stakeOfOne_6, rfl, rfl, 2, 0, rfl, Or.inl ⟨(RX2, TX2, 8), rfl, by decide, wd_231⟩⟩)))) (m_right_nd (m_right_nd (m_right_nd (m_right_lf ⟨3, dX2_stakeOfOne_9, rfl, rfl, 1, 1, rfl, Or.inl ⟨(RX1, TX1, 4), rfl, by decide, wd_216⟩⟩) (m_right_lf ⟨3, dX2_stakeOfOne_12, rfl, rfl, 110, rfl, by decide⟩)) (m_right_nd (m_right_lf ⟨1, dX2_stakeOfOne_15, rfl, rfl, rfl⟩) (m_right_lf ⟨3, dX2_stakeOfOne_16, rfl, rfl, 2, 0, rfl, Or.inl ⟨(RX2, TX2, 8), rfl, by decide, wd_231⟩⟩))) (m_right_nd (m_right_nd (m_right_lf ⟨3, dX2_stakeOfOne_19, rfl, rfl, 1, 0, rfl, Or.inl ⟨(RX1, TX1, 4), rfl, by decide, wd_215⟩⟩) (m_right_lf ⟨1, dX2_stakeOfOne_22, rfl, rfl, rfl⟩)) (m_right_nd (m_right_lf ⟨1, dX2_stakeOfOne_23, rfl, rfl⟩) (m_right_lf ⟨3, dX2_stakeOfOne_24, rfl, rfl, Or.inr (Or.inr ⟨10, 1, (yX1_menOfOne, cX1_menOfOne, 1, (some .int)), rfl, me_X1_menOfOne, mc_X1_menOfOne, wd_602, wd_603, wd_66⟩)⟩))))) (m_right_nd (m_right_nd (m_right_nd (m_right_nd (m_right_lf ⟨2, dX2_stakeOfOne_27, rfl, rfl, rfl⟩) (m_right_lf ⟨1, dX2_stakeOfOne_29, rfl, rfl, rfl⟩)) (m_right_nd (m_right_lf ⟨3, dX2_stakeOfOne_30, rfl, rfl, 2, 0, rfl, Or.inl ⟨(RX2, TX2, 8), rfl, by decide, wd_231⟩⟩) (m_right_lf ⟨3, dX2_stakeOfOne_33, rfl, rfl, 1, 0, rfl, Or.inl ⟨(RX1, TX1, 4), rfl, by decide, wd_215⟩⟩))) (m_right_nd (m_right_nd (m_right_lf ⟨1, dX2_stakeOfOne_36, rfl, rfl, rfl⟩) (m_right_lf ⟨1, dX2_stakeOfOne_37, rfl, rfl⟩)) (m_right_nd (m_right_lf ⟨3, dX2_stakeOfOne_38, rfl, rfl, Or.inr (Or.inr ⟨11, 1, (yX1_menOfOther, cX1_menOfOther, 1, (some .int)), rfl, me_X1_menOfOther, mc_X1_menOfOther, wd_605, wd_606, wd_66⟩)⟩) (m_right_lf ⟨2, dX2_stakeOfOne_41, rfl, rfl, rfl⟩)))) (m_right_nd (m_right_nd (m_right_nd (m_right_lf ⟨1, dX2_stakeOfOne_43, rfl, rfl, rfl⟩) (m_right_lf ⟨3, dX2_stakeOfOne_44, rfl, rfl, 2, 2, rfl, Or.inl ⟨(RX2, TX2, 8), rfl, by decide, wd_233⟩⟩)) (m_right_nd (m_right_lf ⟨1, dX2_stakeOfOne_47, rfl, rfl, rfl⟩) (m_right_lf ⟨3, dX2_stakeOfOne_48, rfl, rfl, 2, 3, rfl, Or.inl ⟨(RX2, TX2, 8), rfl, by decide, wd_234⟩⟩))) (m_right_nd (m_right_nd (m_right_lf ⟨1, dX2_stakeOfOne_51, rfl, rfl, rfl⟩) (m_right_lf ⟨3, dX2_stakeOfOne_52, rfl, rfl, 2, 4, rfl, Or.inl ⟨(RX2, TX2, 8), rfl, by decide, wd_235⟩⟩)) (m_right_nd (m_right_lf ⟨2, dX2_stakeOfOne_55, rfl, rfl, rfl⟩) (m_right_lf ⟨2, dX2_stakeOfOne_57, rfl, rfl, rfl⟩)))))) (m_right_nd (m_right_nd (m_right_nd (m_right_nd (m_right_lf ⟨1, dX2_stakeOfOne_59, rfl, rfl, rfl⟩) (m_right_nd (m_right_lf ⟨3, dX2_stakeOfOne_60, rfl, rfl, 2, 5, rfl, Or.inl ⟨(RX2, TX2, 8), rfl, by decide, wd_236⟩⟩) (m_right_lf ⟨3, dX2_stakeOfOne_63, rfl, rfl, 65, 5, 7, (yX7_oddsOf, cX7_oddsOf, 7, (some .int)), rfl, me_X7_oddsOf, mc_X7_oddsOf, Or.inl ⟨(RX7, TX7, 16), rfl, rfl⟩, wd_608, wd_545, wd_546, wd_63⟩))) (m_right_nd (m_right_nd (m_right_lf ⟨2, dX2_stakeOfOne_66, rfl, rfl, rfl⟩) (m_right_lf ⟨1, dX2_stakeOfOne_68, rfl, rfl, rfl⟩)) (m_right_nd (m_right_lf ⟨1, dX2_stakeOfOne_69, rfl, rfl, rfl⟩) (m_right_lf ⟨3, dX2_stakeOfOne_70, rfl, rfl, 2, 0, rfl, Or.inl ⟨(RX2, TX2, 8), rfl, by decide, wd_231⟩⟩)))) (m_right_nd (m_right_nd (m_right_nd (m_right_lf ⟨1, dX2_stakeOfOne_73, rfl, rfl, rfl⟩) (m_right_lf ⟨3, dX2_stakeOfOne_74, rfl, rfl, 2, 0, rfl, Or.inl ⟨(RX2, TX2, 8), rfl, by decide, wd_231⟩⟩)) (m_right_nd (m_right_lf ⟨3, dX2_stakeOfOne_77, rfl, rfl, 1, 0, rfl, Or.inl ⟨(RX1, TX1, 4), rfl, by decide, wd_215⟩⟩) (m_right_lf ⟨1, dX2_stakeOfOne_80, rfl, rfl, rfl⟩))) (m_right_nd (m_right_nd (m_right_lf ⟨1, dX2_stakeOfOne_81, rfl, rfl⟩) (m_right_lf ⟨1, dX2_stakeOfOne_82, rfl, rfl, by decide +kernel⟩)) (m_right_nd (m_right_lf ⟨3, dX2_stakeOfOne_83, rfl, rfl, 13, 2, 1, (yX1_part, cX1_part, 3, (some .long)), rfl, me_X1_part, mc_X1_part, Or.inl ⟨(RX1, TX1, 4), rfl, rfl⟩, wd_612, wd_613, wd_614, wd_66⟩) (m_right_lf ⟨2, dX2_stakeOfOne_86, rfl, rfl, rfl⟩))))) (m_right_nd (m_right_nd (m_right_nd (m_right_nd (m_right_lf ⟨2, dX2_stakeOfOne_88, rfl, rfl, rfl⟩) (m_right_lf ⟨1, dX2_stakeOfOne_90, rfl, rfl⟩)) (m_right_nd (m_right_lf ⟨2, dX2_stakeOfOne_91, rfl, rfl, by decide +kernel⟩) (m_right_lf ⟨2, dX2_stakeOfOne_93, rfl, rfl, rfl⟩))) (m_right_nd (m_right_nd (m_right_lf ⟨1, dX2_stakeOfOne_95, rfl, rfl⟩) (m_right_lf ⟨2, dX2_stakeOfOne_96, rfl, rfl, rfl⟩)) (m_right_nd (m_right_lf ⟨1, dX2_stakeOfOne_98, rfl, rfl⟩) (m_right_lf ⟨1, dX2_stakeOfOne_99, rfl, rfl⟩)))) (m_right_nd (m_right_nd (m_right_nd (m_right_lf ⟨1, dX2_stakeOfOne_100, rfl, rfl⟩) (m_right_lf ⟨1, dX2_stakeOfOne_101, rfl, rfl⟩)) (m_right_nd (m_right_lf ⟨1, dX2_stakeOfOne_102, rfl, rfl⟩) (m_right_lf ⟨1, dX2_stakeOfOne_103, rfl, rfl, rfl⟩))) (m_right_nd (m_right_nd (m_right_lf ⟨3, dX2_stakeOfOne_104, rfl, rfl, rfl, by decide +kernel⟩) (m_right_lf ⟨3, dX2_stakeOfOne_107, rfl, 4, rfl, by decide⟩)) (m_right_nd (m_right_lf ⟨1, dX2_stakeOfOne_110, rfl, rfl, rfl⟩) (m_right_lf ⟨1, dX2_stakeOfOne_111, rfl, rfl⟩))))))
theorem dX3_init_0 : decode cX3_init 0 = .ok (.aload_n 0, 1) := by decide +kernel
theorem dX3_init_1 : decode cX3_init 1 = .ok (.invokespecial 1, 3) := by decide +kernel
theorem dX3_init_4 : decode cX3_init 4 = .ok (.aload_n 0, 1) := by decide +kernel
theorem dX3_init_5 : decode cX3_init 5 = .ok (.aload_n 1, 1) := by decide +kernel
theorem dX3_init_6 : decode cX3_init 6 = .ok (.getfield 7, 3) := by decide +kernel
theorem dX3_init_9 : decode cX3_init 9 = .ok (.putfield 13, 3) := by decide +kernel
theorem dX3_init_12 : decode cX3_init 12 = .ok (.aload_n 0, 1) := by decide +kernel
theorem dX3_init_13 : decode cX3_init 13 = .ok (.aload_n 1, 1) := by decide +kernel
theorem dX3_init_14 : decode cX3_init 14 = .ok (.getfield 16, 3) := by decide +kernel
theorem dX3_init_17 : decode cX3_init 17 = .ok (.putfield 19, 3) := by decide +kernel
theorem dX3_init_20 : decode cX3_init 20 = .ok (.aload_n 0, 1) := by decide +kernel
theorem dX3_init_21 : decode cX3_init 21 = .ok (.aload_n 1, 1) := by decide +kernel
theorem dX3_init_22 : decode cX3_init 22 = .ok (.getfield 20, 3) := by decide +kernel
theorem dX3_init_25 : decode cX3_init 25 = .ok (.newarray .int, 2) := by decide +kernel
theorem dX3_init_27 : decode cX3_init 27 = .ok (.putfield 23, 3) := by decide +kernel
theorem dX3_init_30 : decode cX3_init 30 = .ok (.aload_n 1, 1) := by decide +kernel
theorem dX3_init_31 : decode cX3_init 31 = .ok (.getfield 27, 3) := by decide +kernel
theorem dX3_init_34 : decode cX3_init 34 = .ok (.iconst 0, 1) := by decide +kernel
theorem dX3_init_35 : decode cX3_init 35 = .ok (.aload_n 0, 1) := by decide +kernel
theorem dX3_init_36 : decode cX3_init 36 = .ok (.getfield 23, 3) := by decide +kernel
theorem dX3_init_39 : decode cX3_init 39 = .ok (.iconst 0, 1) := by decide +kernel
theorem dX3_init_40 : decode cX3_init 40 = .ok (.aload_n 1, 1) := by decide +kernel
theorem dX3_init_41 : decode cX3_init 41 = .ok (.getfield 20, 3) := by decide +kernel
theorem dX3_init_44 : decode cX3_init 44 = .ok (.invokestatic 28, 3) := by decide +kernel
theorem dX3_init_47 : decode cX3_init 47 = .ok (.return_, 1) := by decide +kernel
set_option maxRecDepth 20000 in
theorem r_X3_init : m_Right (yX3_init, cX3_init, 2, none) q_X3_init := m_right_nd (m_right_nd (m_right_nd (m_right_nd (m_right_lf ⟨1, dX3_init_0, rfl, rfl, rfl⟩) (m_right_nd (m_right_lf ⟨3, dX3_init_1, rfl, rfl, Or.inl ⟨rfl, wd_450, wd_86, wd_87⟩⟩) (m_right_lf ⟨1, dX3_init_4, rfl, rfl, rfl⟩))) (m_right_nd (m_right_lf ⟨1, dX3_init_5, rfl, rfl, rfl⟩) (m_right_nd (m_right_lf ⟨3, dX3_init_6, rfl, rfl, 6, 1, rfl, Or.inl ⟨(RX6, TX6, 7), rfl, by decide, wd_177⟩⟩) (m_right_lf ⟨3, dX3_init_9, rfl, rfl, 3, 0, 0, (RX3, TX3, 3), rfl, rfl, by decide, wd_454, Or.inr ⟨rfl, rfl, rfl⟩, tyX3 0, tyX3_ok 0 (by decide), Or.inl ⟨rfl, rfl⟩⟩)))) (m_right_nd (m_right_nd (m_right_lf ⟨1, dX3_init_12, rfl, rfl, rfl⟩) (m_right_nd (m_right_lf ⟨1, dX3_init_13, rfl, rfl, rfl⟩) (m_right_lf ⟨3, dX3_init_14, rfl, rfl, 6, 2, rfl, Or.inl ⟨(RX6, TX6, 7), rfl, by decide, wd_179⟩⟩))) (m_right_nd (m_right_lf ⟨3, dX3_init_17, rfl, rfl, 3, 1, 0, (RX3, TX3, 3), rfl, rfl, by decide, wd_456, Or.inr ⟨rfl, rfl, rfl⟩, tyX3 1, tyX3_ok 1 (by decide), Or.inl ⟨rfl, rfl⟩⟩) (m_right_nd (m_right_lf ⟨1, dX3_init_20, rfl, rfl, rfl⟩) (m_right_lf ⟨1, dX3_init_21, rfl, rfl, rfl⟩))))) (m_right_nd (m_right_nd (m_right_nd (m_right_lf ⟨3, dX3_init_22, rfl, rfl, 6, 4, rfl, Or.inl ⟨(RX6, TX6, 7), rfl, by decide, wd_183⟩⟩) (m_right_nd (m_right_lf ⟨2, dX3_init_25, rfl, rfl, Or.inl ⟨rfl, rfl⟩, wd_168⟩) (m_right_lf ⟨3, dX3_init_27, rfl, rfl, 3, 2, 3, (RX3, TX3, 3), rfl, rfl, by decide, wd_458, Or.inr ⟨rfl, rfl, rfl⟩, tyX3 2, tyX3_ok 2 (by decide), Or.inr (Or.inr (Or.inr ⟨rfl, Or.inr ⟨_, rfl⟩⟩))⟩))) (m_right_nd (m_right_lf ⟨1, dX3_init_30, rfl, rfl, rfl⟩) (m_right_nd (m_right_lf ⟨3, dX3_init_31, rfl, rfl, 6, 3, rfl, Or.inl ⟨(RX6, TX6, 7), rfl, by decide, wd_182⟩⟩) (m_right_lf ⟨1, dX3_init_34, rfl, rfl, by decide +kernel⟩)))) (m_right_nd (m_right_nd (m_right_lf ⟨1, dX3_init_35, rfl, rfl, rfl⟩) (m_right_nd (m_right_lf ⟨3, dX3_init_36, rfl, rfl, 3, 2, rfl, Or.inl ⟨(RX3, TX3, 3), rfl, by decide, wd_458⟩⟩) (m_right_lf ⟨1, dX3_init_39, rfl, rfl, by decide +kernel⟩))) (m_right_nd (m_right_nd (m_right_lf ⟨1, dX3_init_40, rfl, rfl, rfl⟩) (m_right_lf ⟨3, dX3_init_41, rfl, rfl, 6, 4, rfl, Or.inl ⟨(RX6, TX6, 7), rfl, by decide, wd_183⟩⟩)) (m_right_nd (m_right_lf ⟨3, dX3_init_44, rfl, rfl, Or.inr (Or.inl ⟨rfl, wd_451, wd_453, wd_452, wd_74⟩)⟩) (m_right_lf ⟨1, dX3_init_47, rfl, rfl⟩)))))
theorem dX3_lift_0 : decode cX3_lift 0 = .ok (.iconst 0, 1) := by decide +kernel
theorem dX3_lift_1 : decode cX3_lift 1 = .ok (.istore_n 2, 1) := by decide +kernel
theorem dX3_lift_2 : decode cX3_lift 2 = .ok (.iconst 0, 1) := by decide +kernel
theorem dX3_lift_3 : decode cX3_lift 3 = .ok (.istore_n 3, 1) := by decide +kernel
theorem dX3_lift_4 : decode cX3_lift 4 = .ok (.iconst 0, 1) := by decide +kernel
theorem dX3_lift_5 : decode cX3_lift 5 = .ok (.istore 4, 2) := by decide +kernel
theorem dX3_lift_7 : decode cX3_lift 7 = .ok (.iload 4, 2) := by decide +kernel
theorem dX3_lift_9 : decode cX3_lift 9 = .ok (.aload_n 0, 1) := by decide +kernel
theorem dX3_lift_10 : decode cX3_lift 10 = .ok (.getfield 23, 3) := by decide +kernel
theorem dX3_lift_13 : decode cX3_lift 13 = .ok (.arraylength, 1) := by decide +kernel
theorem dX3_lift_14 : decode cX3_lift 14 = .ok (.if_icmp .ge 131, 3) := by decide +kernel
theorem dX3_lift_17 : decode cX3_lift 17 = .ok (.aload_n 0, 1) := by decide +kernel
theorem dX3_lift_18 : decode cX3_lift 18 = .ok (.getfield 23, 3) := by decide +kernel
theorem dX3_lift_21 : decode cX3_lift 21 = .ok (.iload 4, 2) := by decide +kernel
theorem dX3_lift_23 : decode cX3_lift 23 = .ok (.iaload, 1) := by decide +kernel
theorem dX3_lift_24 : decode cX3_lift 24 = .ok (.tableswitch 99 (-4) (-1) #[62, 51, 39, 32], 32) := by decide +kernel
theorem dX3_lift_56 : decode cX3_lift 56 = .ok (.iload_n 3, 1) := by decide +kernel
theorem dX3_lift_57 : decode cX3_lift 57 = .ok (.iconst 1, 1) := by decide +kernel
theorem dX3_lift_58 : decode cX3_lift 58 = .ok (.ixor, 1) := by decide +kernel
theorem dX3_lift_59 : decode cX3_lift 59 = .ok (.istore_n 3, 1) := by decide +kernel
theorem dX3_lift_60 : decode cX3_lift 60 = .ok (.goto 79, 3) := by decide +kernel
theorem dX3_lift_63 : decode cX3_lift 63 = .ok (.iload_n 3, 1) := by decide +kernel
theorem dX3_lift_64 : decode cX3_lift 64 = .ok (.iconst 1, 1) := by decide +kernel
theorem dX3_lift_65 : decode cX3_lift 65 = .ok (.ishr, 1) := by decide +kernel
theorem dX3_lift_66 : decode cX3_lift 66 = .ok (.iload_n 3, 1) := by decide +kernel
theorem dX3_lift_67 : decode cX3_lift 67 = .ok (.bipush (-2), 2) := by decide +kernel
theorem dX3_lift_69 : decode cX3_lift 69 = .ok (.ior, 1) := by decide +kernel
theorem dX3_lift_70 : decode cX3_lift 70 = .ok (.iand, 1) := by decide +kernel
theorem dX3_lift_71 : decode cX3_lift 71 = .ok (.istore_n 3, 1) := by decide +kernel
theorem dX3_lift_72 : decode cX3_lift 72 = .ok (.goto 67, 3) := by decide +kernel
theorem dX3_lift_75 : decode cX3_lift 75 = .ok (.iload_n 3, 1) := by decide +kernel
theorem dX3_lift_76 : decode cX3_lift 76 = .ok (.iconst 1, 1) := by decide +kernel
theorem dX3_lift_77 : decode cX3_lift 77 = .ok (.ishr, 1) := by decide +kernel
theorem dX3_lift_78 : decode cX3_lift 78 = .ok (.iload_n 3, 1) := by decide +kernel
theorem dX3_lift_79 : decode cX3_lift 79 = .ok (.iconst 1, 1) := by decide +kernel
theorem dX3_lift_80 : decode cX3_lift 80 = .ok (.iand, 1) := by decide +kernel
theorem dX3_lift_81 : decode cX3_lift 81 = .ok (.ior, 1) := by decide +kernel
theorem dX3_lift_82 : decode cX3_lift 82 = .ok (.istore_n 3, 1) := by decide +kernel
theorem dX3_lift_83 : decode cX3_lift 83 = .ok (.goto 56, 3) := by decide +kernel
theorem dX3_lift_86 : decode cX3_lift 86 = .ok (.iinc 4 1, 3) := by decide +kernel
theorem dX3_lift_89 : decode cX3_lift 89 = .ok (.iload_n 2, 1) := by decide +kernel
theorem dX3_lift_90 : decode cX3_lift 90 = .ok (.iload 4, 2) := by decide +kernel
theorem dX3_lift_92 : decode cX3_lift 92 = .ok (.aload_n 0, 1) := by decide +kernel
theorem dX3_lift_93 : decode cX3_lift 93 = .ok (.getfield 23, 3) := by decide +kernel
theorem dX3_lift_96 : decode cX3_lift 96 = .ok (.arraylength, 1) := by decide +kernel
theorem dX3_lift_97 : decode cX3_lift 97 = .ok (.if_icmp .ge 18, 3) := by decide +kernel
theorem dX3_lift_100 : decode cX3_lift 100 = .ok (.iload_n 3, 1) := by decide +kernel
theorem dX3_lift_101 : decode cX3_lift 101 = .ok (.iconst 1, 1) := by decide +kernel
theorem dX3_lift_102 : decode cX3_lift 102 = .ok (.if_icmp .ne 13, 3) := by decide +kernel
theorem dX3_lift_105 : decode cX3_lift 105 = .ok (.aload_n 0, 1) := by decide +kernel
theorem dX3_lift_106 : decode cX3_lift 106 = .ok (.getfield 23, 3) := by decide +kernel
theorem dX3_lift_109 : decode cX3_lift 109 = .ok (.iload 4, 2) := by decide +kernel
theorem dX3_lift_111 : decode cX3_lift 111 = .ok (.iaload, 1) := by decide +kernel
theorem dX3_lift_112 : decode cX3_lift 112 = .ok (.goto 4, 3) := by decide +kernel
theorem dX3_lift_115 : decode cX3_lift 115 = .ok (.iconst 0, 1) := by decide +kernel
theorem dX3_lift_116 : decode cX3_lift 116 = .ok (.iadd, 1) := by decide +kernel
theorem dX3_lift_117 : decode cX3_lift 117 = .ok (.istore_n 2, 1) := by decide +kernel
theorem dX3_lift_118 : decode cX3_lift 118 = .ok (.iconst 0, 1) := by decide +kernel
theorem dX3_lift_119 : decode cX3_lift 119 = .ok (.istore_n 3, 1) := by decide +kernel
theorem dX3_lift_120 : decode cX3_lift 120 = .ok (.goto 19, 3) := by decide +kernel
theorem dX3_lift_123 : decode cX3_lift 123 = .ok (.iload_n 3, 1) := by decide +kernel
theorem dX3_lift_124 : decode cX3_lift 124 = .ok (.iconst 1, 1) := by decide +kernel
theorem dX3_lift_125 : decode cX3_lift 125 = .ok (.ishl, 1) := by decide +kernel
theorem dX3_lift_126 : decode cX3_lift 126 = .ok (.aload_n 0, 1) := by decide +kernel
theorem dX3_lift_127 : decode cX3_lift 127 = .ok (.getfield 23, 3) := by decide +kernel
theorem dX3_lift_130 : decode cX3_lift 130 = .ok (.iload 4, 2) := by decide +kernel
theorem dX3_lift_132 : decode cX3_lift 132 = .ok (.iaload, 1) := by decide +kernel
theorem dX3_lift_133 : decode cX3_lift 133 = .ok (.aload_n 1, 1) := by decide +kernel
theorem dX3_lift_134 : decode cX3_lift 134 = .ok (.invokestatic 34, 3) := by decide +kernel
theorem dX3_lift_137 : decode cX3_lift 137 = .ok (.ior, 1) := by decide +kernel
theorem dX3_lift_138 : decode cX3_lift 138 = .ok (.istore_n 3, 1) := by decide +kernel
theorem dX3_lift_139 : decode cX3_lift 139 = .ok (.iinc 4 1, 3) := by decide +kernel
theorem dX3_lift_142 : decode cX3_lift 142 = .ok (.goto (-135), 3) := by decide +kernel
theorem dX3_lift_145 : decode cX3_lift 145 = .ok (.iload_n 2, 1) := by decide +kernel
theorem dX3_lift_146 : decode cX3_lift 146 = .ok (.ireturn, 1) := by decide +kernel
set_option maxRecDepth 20000 in
theorem r_X3_lift : m_Right (yX3_lift, cX3_lift, 5, (some .int)) q_X3_lift := m_right_nd (m_right_nd (m_right_nd (m_right_nd (m_right_nd (m_right_nd (m_right_lf ⟨1, dX3_lift_0, rfl, rfl, by decide +kernel⟩) (m_right_lf ⟨1, dX3_lift_1, rfl, rfl, rfl⟩)) (m_right_nd (m_right_lf ⟨1, dX3_lift_2, rfl, rfl, by decide +kernel⟩) (m_right_lf ⟨1, dX3_lift_3, rfl, rfl, rfl⟩))) (m_right_nd (m_right_nd (m_right_lf ⟨1, dX3_lift_4, rfl, rfl, by decide +kernel⟩) (m_right_lf ⟨2, dX3_lift_5, rfl, rfl, rfl⟩)) (m_right_nd (m_right_lf ⟨2, dX3_lift_7, rfl, rfl, rfl⟩) (m_right_nd (m_right_lf ⟨1, dX3_lift_9, rfl, rfl, rfl⟩) (m_right_lf ⟨3, dX3_lift_10, rfl, rfl, 3, 2, rfl, Or.inl ⟨(RX3, TX3, 3), rfl, by decide, wd_458⟩⟩))))) (m_right_nd (m_right_nd (m_right_nd (m_right_lf ⟨1, dX3_lift_13, rfl, rfl⟩) (m_right_lf ⟨3, dX3_lift_14, rfl, rfl, 145, rfl, by decide⟩)) (m_right_nd (m_right_lf ⟨1, dX3_lift_17, rfl, rfl, rfl⟩) (m_right_lf ⟨3, dX3_lift_18, rfl, rfl, 3, 2, rfl, Or.inl ⟨(RX3, TX3, 3), rfl, by decide, wd_458⟩⟩))) (m_right_nd (m_right_nd (m_right_lf ⟨2, dX3_lift_21, rfl, rfl, rfl⟩) (m_right_lf ⟨1, dX3_lift_23, rfl, rfl⟩)) (m_right_nd (m_right_lf ⟨32, dX3_lift_24, 123, [86, 75, 63, 56], rfl, by decide, by decide +kernel⟩) (m_right_nd (m_right_lf ⟨1, dX3_lift_56, rfl, rfl, rfl⟩) (m_right_lf ⟨1, dX3_lift_57, rfl, rfl, by decide +kernel⟩)))))) (m_right_nd (m_right_nd (m_right_nd (m_right_nd (m_right_lf ⟨1, dX3_lift_58, rfl, rfl⟩) (m_right_lf ⟨1, dX3_lift_59, rfl, rfl, rfl⟩)) (m_right_nd (m_right_lf ⟨3, dX3_lift_60, rfl, 139, rfl, by decide⟩) (m_right_lf ⟨1, dX3_lift_63, rfl, rfl, rfl⟩))) (m_right_nd (m_right_nd (m_right_lf ⟨1, dX3_lift_64, rfl, rfl, by decide +kernel⟩) (m_right_lf ⟨1, dX3_lift_65, rfl, rfl⟩)) (m_right_nd (m_right_lf ⟨1, dX3_lift_66, rfl, rfl, rfl⟩) (m_right_nd (m_right_lf ⟨2, dX3_lift_67, rfl, rfl, by decide +kernel⟩) (m_right_lf ⟨1, dX3_lift_69, rfl, rfl⟩))))) (m_right_nd (m_right_nd (m_right_nd (m_right_lf ⟨1, dX3_lift_70, rfl, rfl⟩) (m_right_lf ⟨1, dX3_lift_71, rfl, rfl, rfl⟩)) (m_right_nd (m_right_lf ⟨3, dX3_lift_72, rfl, 139, rfl, by decide⟩) (m_right_nd (m_right_lf ⟨1, dX3_lift_75, rfl, rfl, rfl⟩) (m_right_lf ⟨1, dX3_lift_76, rfl, rfl, by decide +kernel⟩)))) (m_right_nd (m_right_nd (m_right_lf ⟨1, dX3_lift_77, rfl, rfl⟩) (m_right_lf ⟨1, dX3_lift_78, rfl, rfl, rfl⟩)) (m_right_nd (m_right_lf ⟨1, dX3_lift_79, rfl, rfl, by decide +kernel⟩) (m_right_nd (m_right_lf ⟨1, dX3_lift_80, rfl, rfl⟩) (m_right_lf ⟨1, dX3_lift_81, rfl, rfl⟩))))))) (m_right_nd (m_right_nd (m_right_nd (m_right_nd (m_right_nd (m_right_lf ⟨1, dX3_lift_82, rfl, rfl, rfl⟩) (m_right_lf ⟨3, dX3_lift_83, rfl, 139, rfl, by decide⟩)) (m_right_nd (m_right_lf ⟨3, dX3_lift_86, rfl, rfl, rfl, by decide +kernel⟩) (m_right_lf ⟨1, dX3_lift_89, rfl, rfl, rfl⟩))) (m_right_nd (m_right_nd (m_right_lf ⟨2, dX3_lift_90, rfl, rfl, rfl⟩) (m_right_lf ⟨1, dX3_lift_92, rfl, rfl, rfl⟩)) (m_right_nd (m_right_lf ⟨3, dX3_lift_93, rfl, rfl, 3, 2, rfl, Or.inl ⟨(RX3, TX3, 3), rfl, by decide, wd_458⟩⟩) (m_right_nd (m_right_lf ⟨1, dX3_lift_96, rfl, rfl⟩) (m_right_lf ⟨3, dX3_lift_97, rfl, rfl, 115, rfl, by decide⟩))))) (m_right_nd (m_right_nd (m_right_nd (m_right_lf ⟨1, dX3_lift_100, rfl, rfl, rfl⟩) (m_right_lf ⟨1, dX3_lift_101, rfl, rfl, by decide +kernel⟩)) (m_right_nd (m_right_lf ⟨3, dX3_lift_102, rfl, rfl, 115, rfl, by decide⟩) (m_right_nd (m_right_lf ⟨1, dX3_lift_105, rfl, rfl, rfl⟩) (m_right_lf ⟨3, dX3_lift_106, rfl, rfl, 3, 2, rfl, Or.inl ⟨(RX3, TX3, 3), rfl, by decide, wd_458⟩⟩)))) (m_right_nd (m_right_nd (m_right_lf ⟨2, dX3_lift_109, rfl, rfl, rfl⟩) (m_right_lf ⟨1, dX3_lift_111, rfl, rfl⟩)) (m_right_nd (m_right_lf ⟨3, dX3_lift_112, rfl, 116, rfl, by decide⟩) (m_right_nd (m_right_lf ⟨1, dX3_lift_115, rfl, rfl, by decide +kernel⟩) (m_right_lf ⟨1, dX3_lift_116, rfl, rfl⟩)))))) (m_right_nd (m_right_nd (m_right_nd (m_right_nd (m_right_lf ⟨1, dX3_lift_117, rfl, rfl, rfl⟩) (m_right_lf ⟨1, dX3_lift_118, rfl, rfl, by decide +kernel⟩)) (m_right_nd (m_right_lf ⟨1, dX3_lift_119, rfl, rfl, rfl⟩) (m_right_lf ⟨3, dX3_lift_120, rfl, 139, rfl, by decide⟩))) (m_right_nd (m_right_nd (m_right_lf ⟨1, dX3_lift_123, rfl, rfl, rfl⟩) (m_right_lf ⟨1, dX3_lift_124, rfl, rfl, by decide +kernel⟩)) (m_right_nd (m_right_lf ⟨1, dX3_lift_125, rfl, rfl⟩) (m_right_nd (m_right_lf ⟨1, dX3_lift_126, rfl, rfl, rfl⟩) (m_right_lf ⟨3, dX3_lift_127, rfl, rfl, 3, 2, rfl, Or.inl ⟨(RX3, TX3, 3), rfl, by decide, wd_458⟩⟩))))) (m_right_nd (m_right_nd (m_right_nd (m_right_lf ⟨2, dX3_lift_130, rfl, rfl, rfl⟩) (m_right_lf ⟨1, dX3_lift_132, rfl, rfl⟩)) (m_right_nd (m_right_lf ⟨1, dX3_lift_133, rfl, rfl, rfl⟩) (m_right_nd (m_right_lf ⟨3, dX3_lift_134, rfl, rfl, Or.inr (Or.inr ⟨27, 2, (yX3_passes, cX3_passes, 5, (some .int)), rfl, me_X3_passes, mc_X3_passes, wd_524, wd_525, wd_73⟩)⟩) (m_right_lf ⟨1, dX3_lift_137, rfl, rfl⟩)))) (m_right_nd (m_right_nd (m_right_lf ⟨1, dX3_lift_138, rfl, rfl, rfl⟩) (m_right_lf ⟨3, dX3_lift_139, rfl, rfl, rfl, by decide +kernel⟩)) (m_right_nd (m_right_lf ⟨3, dX3_lift_142, rfl, 7, rfl, by decide⟩) (m_right_nd (m_right_lf ⟨1, dX3_lift_145, rfl, rfl, rfl⟩) (m_right_lf ⟨1, dX3_lift_146, rfl, 0, .int, rfl, rfl, Or.inl ⟨rfl, rfl⟩⟩)))))))
theorem dX3_testOf_0 : decode cX3_testOf 0 = .ok (.iload_n 0, 1) := by decide +kernel
theorem dX3_testOf_1 : decode cX3_testOf 1 = .ok (.iconst 3, 1) := by decide +kernel
theorem dX3_testOf_2 : decode cX3_testOf 2 = .ok (.imul, 1) := by decide +kernel
theorem dX3_testOf_3 : decode cX3_testOf 3 = .ok (.iload_n 1, 1) := by decide +kernel
theorem dX3_testOf_4 : decode cX3_testOf 4 = .ok (.iadd, 1) := by decide +kernel
theorem dX3_testOf_5 : decode cX3_testOf 5 = .ok (.bipush 100, 2) := by decide +kernel
theorem dX3_testOf_7 : decode cX3_testOf 7 = .ok (.imul, 1) := by decide +kernel
theorem dX3_testOf_8 : decode cX3_testOf 8 = .ok (.iload_n 2, 1) := by decide +kernel
theorem dX3_testOf_9 : decode cX3_testOf 9 = .ok (.iadd, 1) := by decide +kernel
theorem dX3_testOf_10 : decode cX3_testOf 10 = .ok (.ireturn, 1) := by decide +kernel
set_option maxRecDepth 20000 in
theorem r_X3_testOf : m_Right (yX3_testOf, cX3_testOf, 3, (some .int)) q_X3_testOf := m_right_nd (m_right_nd (m_right_nd (m_right_lf ⟨1, dX3_testOf_0, rfl, rfl, rfl⟩) (m_right_lf ⟨1, dX3_testOf_1, rfl, rfl, by decide +kernel⟩)) (m_right_nd (m_right_lf ⟨1, dX3_testOf_2, rfl, rfl⟩) (m_right_nd (m_right_lf ⟨1, dX3_testOf_3, rfl, rfl, rfl⟩) (m_right_lf ⟨1, dX3_testOf_4, rfl, rfl⟩)))) (m_right_nd (m_right_nd (m_right_lf ⟨2, dX3_testOf_5, rfl, rfl, by decide +kernel⟩) (m_right_lf ⟨1, dX3_testOf_7, rfl, rfl⟩)) (m_right_nd (m_right_lf ⟨1, dX3_testOf_8, rfl, rfl, rfl⟩) (m_right_nd (m_right_lf ⟨1, dX3_testOf_9, rfl, rfl⟩) (m_right_lf ⟨1, dX3_testOf_10, rfl, 0, .int, rfl, rfl, Or.inl ⟨rfl, rfl⟩⟩))))
theorem dX3_passes_0 : decode cX3_passes 0 = .ok (.iload_n 0, 1) := by decide +kernel
theorem dX3_passes_1 : decode cX3_passes 1 = .ok (.bipush 100, 2) := by decide +kernel
theorem dX3_passes_3 : decode cX3_passes 3 = .ok (.irem, 1) := by decide +kernel
theorem dX3_passes_4 : decode cX3_passes 4 = .ok (.istore_n 2, 1) := by decide +kernel
theorem dX3_passes_5 : decode cX3_passes 5 = .ok (.iload_n 0, 1) := by decide +kernel
theorem dX3_passes_6 : decode cX3_passes 6 = .ok (.bipush 100, 2) := by decide +kernel
theorem dX3_passes_8 : decode cX3_passes 8 = .ok (.idiv, 1) := by decide +kernel
theorem dX3_passes_9 : decode cX3_passes 9 = .ok (.iconst 3, 1) := by decide +kernel
theorem dX3_passes_10 : decode cX3_passes 10 = .ok (.irem, 1) := by decide +kernel
theorem dX3_passes_11 : decode cX3_passes 11 = .ok (.istore_n 3, 1) := by decide +kernel
theorem dX3_passes_12 : decode cX3_passes 12 = .ok (.aload_n 1, 1) := by decide +kernel
theorem dX3_passes_13 : decode cX3_passes 13 = .ok (.iload_n 0, 1) := by decide +kernel
theorem dX3_passes_14 : decode cX3_passes 14 = .ok (.sipush 300, 3) := by decide +kernel
theorem dX3_passes_17 : decode cX3_passes 17 = .ok (.idiv, 1) := by decide +kernel
theorem dX3_passes_18 : decode cX3_passes 18 = .ok (.iconst 5, 1) := by decide +kernel
theorem dX3_passes_19 : decode cX3_passes 19 = .ok (.irem, 1) := by decide +kernel
theorem dX3_passes_20 : decode cX3_passes 20 = .ok (.iaload, 1) := by decide +kernel
theorem dX3_passes_21 : decode cX3_passes 21 = .ok (.istore 4, 2) := by decide +kernel
theorem dX3_passes_23 : decode cX3_passes 23 = .ok (.iload_n 3, 1) := by decide +kernel
theorem dX3_passes_24 : decode cX3_passes 24 = .ok (.ifCond .ne 15, 3) := by decide +kernel
theorem dX3_passes_27 : decode cX3_passes 27 = .ok (.iload 4, 2) := by decide +kernel
theorem dX3_passes_29 : decode cX3_passes 29 = .ok (.iload_n 2, 1) := by decide +kernel
theorem dX3_passes_30 : decode cX3_passes 30 = .ok (.if_icmp .ge 7, 3) := by decide +kernel
theorem dX3_passes_33 : decode cX3_passes 33 = .ok (.iconst 1, 1) := by decide +kernel
theorem dX3_passes_34 : decode cX3_passes 34 = .ok (.goto 4, 3) := by decide +kernel
theorem dX3_passes_37 : decode cX3_passes 37 = .ok (.iconst 0, 1) := by decide +kernel
theorem dX3_passes_38 : decode cX3_passes 38 = .ok (.ireturn, 1) := by decide +kernel
theorem dX3_passes_39 : decode cX3_passes 39 = .ok (.iload_n 3, 1) := by decide +kernel
theorem dX3_passes_40 : decode cX3_passes 40 = .ok (.iconst 1, 1) := by decide +kernel
theorem dX3_passes_41 : decode cX3_passes 41 = .ok (.if_icmp .ne 15, 3) := by decide +kernel
theorem dX3_passes_44 : decode cX3_passes 44 = .ok (.iload 4, 2) := by decide +kernel
theorem dX3_passes_46 : decode cX3_passes 46 = .ok (.iload_n 2, 1) := by decide +kernel
theorem dX3_passes_47 : decode cX3_passes 47 = .ok (.if_icmp .ne 7, 3) := by decide +kernel
theorem dX3_passes_50 : decode cX3_passes 50 = .ok (.iconst 1, 1) := by decide +kernel
theorem dX3_passes_51 : decode cX3_passes 51 = .ok (.goto 4, 3) := by decide +kernel
theorem dX3_passes_54 : decode cX3_passes 54 = .ok (.iconst 0, 1) := by decide +kernel
theorem dX3_passes_55 : decode cX3_passes 55 = .ok (.ireturn, 1) := by decide +kernel
theorem dX3_passes_56 : decode cX3_passes 56 = .ok (.iload 4, 2) := by decide +kernel
theorem dX3_passes_58 : decode cX3_passes 58 = .ok (.iload_n 2, 1) := by decide +kernel
theorem dX3_passes_59 : decode cX3_passes 59 = .ok (.if_icmp .le 7, 3) := by decide +kernel
theorem dX3_passes_62 : decode cX3_passes 62 = .ok (.iconst 1, 1) := by decide +kernel
theorem dX3_passes_63 : decode cX3_passes 63 = .ok (.goto 4, 3) := by decide +kernel
theorem dX3_passes_66 : decode cX3_passes 66 = .ok (.iconst 0, 1) := by decide +kernel
theorem dX3_passes_67 : decode cX3_passes 67 = .ok (.ireturn, 1) := by decide +kernel
set_option maxRecDepth 20000 in
theorem r_X3_passes : m_Right (yX3_passes, cX3_passes, 5, (some .int)) q_X3_passes := m_right_nd (m_right_nd (m_right_nd (m_right_nd (m_right_nd (m_right_lf ⟨1, dX3_passes_0, rfl, rfl, rfl⟩) (m_right_lf ⟨2, dX3_passes_1, rfl, rfl, by decide +kernel⟩)) (m_right_nd (m_right_lf ⟨1, dX3_passes_3, rfl, rfl⟩) (m_right_nd (m_right_lf ⟨1, dX3_passes_4, rfl, rfl, rfl⟩) (m_right_lf ⟨1, dX3_passes_5, rfl, rfl, rfl⟩)))) (m_right_nd (m_right_nd (m_right_lf ⟨2, dX3_passes_6, rfl, rfl, by decide +kernel⟩) (m_right_nd (m_right_lf ⟨1, dX3_passes_8, rfl, rfl⟩) (m_right_lf ⟨1, dX3_passes_9, rfl, rfl, by decide +kernel⟩))) (m_right_nd (m_right_lf ⟨1, dX3_passes_10, rfl, rfl⟩) (m_right_nd (m_right_lf ⟨1, dX3_passes_11, rfl, rfl, rfl⟩) (m_right_lf ⟨1, dX3_passes_12, rfl, rfl, rfl⟩))))) (m_right_nd (m_right_nd (m_right_nd (m_right_lf ⟨1, dX3_passes_13, rfl, rfl, rfl⟩) (m_right_lf ⟨3, dX3_passes_14, rfl, rfl, by decide +kernel⟩)) (m_right_nd (m_right_lf ⟨1, dX3_passes_17, rfl, rfl⟩) (m_right_nd (m_right_lf ⟨1, dX3_passes_18, rfl, rfl, by decide +kernel⟩) (m_right_lf ⟨1, dX3_passes_19, rfl, rfl⟩)))) (m_right_nd (m_right_nd (m_right_lf ⟨1, dX3_passes_20, rfl, rfl⟩) (m_right_nd (m_right_lf ⟨2, dX3_passes_21, rfl, rfl, rfl⟩) (m_right_lf ⟨1, dX3_passes_23, rfl, rfl, rfl⟩))) (m_right_nd (m_right_lf ⟨3, dX3_passes_24, rfl, rfl, 39, rfl, by decide⟩) (m_right_nd (m_right_lf ⟨2, dX3_passes_27, rfl, rfl, rfl⟩) (m_right_lf ⟨1, dX3_passes_29, rfl, rfl, rfl⟩)))))) (m_right_nd (m_right_nd (m_right_nd (m_right_nd (m_right_lf ⟨3, dX3_passes_30, rfl, rfl, 37, rfl, by decide⟩) (m_right_lf ⟨1, dX3_passes_33, rfl, rfl, by decide +kernel⟩)) (m_right_nd (m_right_lf ⟨3, dX3_passes_34, rfl, 38, rfl, by decide⟩) (m_right_nd (m_right_lf ⟨1, dX3_passes_37, rfl, rfl, by decide +kernel⟩) (m_right_lf ⟨1, dX3_passes_38, rfl, 0, .int, rfl, rfl, Or.inl ⟨rfl, rfl⟩⟩)))) (m_right_nd (m_right_nd (m_right_lf ⟨1, dX3_passes_39, rfl, rfl, rfl⟩) (m_right_nd (m_right_lf ⟨1, dX3_passes_40, rfl, rfl, by decide +kernel⟩) (m_right_lf ⟨3, dX3_passes_41, rfl, rfl, 56, rfl, by decide⟩))) (m_right_nd (m_right_lf ⟨2, dX3_passes_44, rfl, rfl, rfl⟩) (m_right_nd (m_right_lf ⟨1, dX3_passes_46, rfl, rfl, rfl⟩) (m_right_lf ⟨3, dX3_passes_47, rfl, rfl, 54, rfl, by decide⟩))))) (m_right_nd (m_right_nd (m_right_nd (m_right_lf ⟨1, dX3_passes_50, rfl, rfl, by decide +kernel⟩) (m_right_lf ⟨3, dX3_passes_51, rfl, 55, rfl, by decide⟩)) (m_right_nd (m_right_lf ⟨1, dX3_passes_54, rfl, rfl, by decide +kernel⟩) (m_right_nd (m_right_lf ⟨1, dX3_passes_55, rfl, 0, .int, rfl, rfl, Or.inl ⟨rfl, rfl⟩⟩) (m_right_lf ⟨2, dX3_passes_56, rfl, rfl, rfl⟩)))) (m_right_nd (m_right_nd (m_right_lf ⟨1, dX3_passes_58, rfl, rfl, rfl⟩) (m_right_nd (m_right_lf ⟨3, dX3_passes_59, rfl, rfl, 66, rfl, by decide⟩) (m_right_lf ⟨1, dX3_passes_62, rfl, rfl, by decide +kernel⟩))) (m_right_nd (m_right_lf ⟨3, dX3_passes_63, rfl, 67, rfl, by decide⟩) (m_right_nd (m_right_lf ⟨1, dX3_passes_66, rfl, rfl, by decide +kernel⟩) (m_right_lf ⟨1, dX3_passes_67, rfl, 0, .int, rfl, rfl, Or.inl ⟨rfl, rfl⟩⟩))))))
theorem dX4_init_0 : decode cX4_init 0 = .ok (.aload_n 0, 1) := by decide +kernel
theorem dX4_init_1 : decode cX4_init 1 = .ok (.invokespecial 3, 3) := by decide +kernel
theorem dX4_init_4 : decode cX4_init 4 = .ok (.aload_n 0, 1) := by decide +kernel
theorem dX4_init_5 : decode cX4_init 5 = .ok (.iconst 4, 1) := by decide +kernel
theorem dX4_init_6 : decode cX4_init 6 = .ok (.newarray .int, 2) := by decide +kernel
theorem dX4_init_8 : decode cX4_init 8 = .ok (.putfield 9, 3) := by decide +kernel
theorem dX4_init_11 : decode cX4_init 11 = .ok (.aload_n 0, 1) := by decide +kernel
theorem dX4_init_12 : decode cX4_init 12 = .ok (.iconst 4, 1) := by decide +kernel
theorem dX4_init_13 : decode cX4_init 13 = .ok (.newarray .int, 2) := by decide +kernel
theorem dX4_init_15 : decode cX4_init 15 = .ok (.putfield 15, 3) := by decide +kernel
theorem dX4_init_18 : decode cX4_init 18 = .ok (.aload_n 0, 1) := by decide +kernel
theorem dX4_init_19 : decode cX4_init 19 = .ok (.iconst 5, 1) := by decide +kernel
theorem dX4_init_20 : decode cX4_init 20 = .ok (.bipush 21, 2) := by decide +kernel
theorem dX4_init_22 : decode cX4_init 22 = .ok (.multianewarray 18 2, 4) := by decide +kernel
theorem dX4_init_26 : decode cX4_init 26 = .ok (.putfield 20, 3) := by decide +kernel
theorem dX4_init_29 : decode cX4_init 29 = .ok (.return_, 1) := by decide +kernel
set_option maxRecDepth 20000 in
theorem r_X4_init : m_Right (yX4_init, cX4_init, 1, none) q_X4_init := m_right_nd (m_right_nd (m_right_nd (m_right_nd (m_right_lf ⟨1, dX4_init_0, rfl, rfl, rfl⟩) (m_right_lf ⟨3, dX4_init_1, rfl, rfl, Or.inl ⟨rfl, wd_277, wd_86, wd_87⟩⟩)) (m_right_nd (m_right_lf ⟨1, dX4_init_4, rfl, rfl, rfl⟩) (m_right_lf ⟨1, dX4_init_5, rfl, rfl, by decide +kernel⟩))) (m_right_nd (m_right_nd (m_right_lf ⟨2, dX4_init_6, rfl, rfl, Or.inl ⟨rfl, rfl⟩, wd_168⟩) (m_right_lf ⟨3, dX4_init_8, rfl, rfl, 4, 0, 3, (RX4, TX4, 7), rfl, rfl, by decide, wd_280, Or.inr ⟨rfl, rfl, rfl⟩, tyX4 0, tyX4_ok 0 (by decide), Or.inr (Or.inr (Or.inr ⟨rfl, Or.inr ⟨_, rfl⟩⟩))⟩)) (m_right_nd (m_right_lf ⟨1, dX4_init_11, rfl, rfl, rfl⟩) (m_right_lf ⟨1, dX4_init_12, rfl, rfl, by decide +kernel⟩)))) (m_right_nd (m_right_nd (m_right_nd (m_right_lf ⟨2, dX4_init_13, rfl, rfl, Or.inl ⟨rfl, rfl⟩, wd_168⟩) (m_right_lf ⟨3, dX4_init_15, rfl, rfl, 4, 3, 3, (RX4, TX4, 7), rfl, rfl, by decide, wd_286, Or.inr ⟨rfl, rfl, rfl⟩, tyX4 3, tyX4_ok 3 (by decide), Or.inr (Or.inr (Or.inr ⟨rfl, Or.inr ⟨_, rfl⟩⟩))⟩)) (m_right_nd (m_right_lf ⟨1, dX4_init_18, rfl, rfl, rfl⟩) (m_right_lf ⟨1, dX4_init_19, rfl, rfl, by decide +kernel⟩))) (m_right_nd (m_right_nd (m_right_lf ⟨2, dX4_init_20, rfl, rfl, by decide +kernel⟩) (m_right_lf ⟨4, dX4_init_22, rfl, rfl, rfl, rfl, rfl⟩)) (m_right_nd (m_right_lf ⟨3, dX4_init_26, rfl, rfl, 4, 4, 3, (RX4, TX4, 7), rfl, rfl, by decide, wd_287, Or.inr ⟨rfl, rfl, rfl⟩, tyX4 4, tyX4_ok 4 (by decide), Or.inr (Or.inr (Or.inr ⟨rfl, Or.inr ⟨_, rfl⟩⟩))⟩) (m_right_lf ⟨1, dX4_init_29, rfl, rfl⟩))))
theorem dX4_looksFor_0 : decode cX4_looksFor 0 = .ok (.aload_n 0, 1) := by decide +kernel
theorem dX4_looksFor_1 : decode cX4_looksFor 1 = .ok (.aload_n 1, 1) := by decide +kernel
theorem dX4_looksFor_2 : decode cX4_looksFor 2 = .ok (.putfield 23, 3) := by decide +kernel
theorem dX4_looksFor_5 : decode cX4_looksFor 5 = .ok (.aload_n 0, 1) := by decide +kernel
theorem dX4_looksFor_6 : decode cX4_looksFor 6 = .ok (.iload_n 2, 1) := by decide +kernel
theorem dX4_looksFor_7 : decode cX4_looksFor 7 = .ok (.putfield 27, 3) := by decide +kernel
theorem dX4_looksFor_10 : decode cX4_looksFor 10 = .ok (.aload_n 0, 1) := by decide +kernel
theorem dX4_looksFor_11 : decode cX4_looksFor 11 = .ok (.iconst 4, 1) := by decide +kernel
theorem dX4_looksFor_12 : decode cX4_looksFor 12 = .ok (.iload_n 3, 1) := by decide +kernel
theorem dX4_looksFor_13 : decode cX4_looksFor 13 = .ok (.invokestatic 31, 3) := by decide +kernel
theorem dX4_looksFor_16 : decode cX4_looksFor 16 = .ok (.invokestatic 37, 3) := by decide +kernel
theorem dX4_looksFor_19 : decode cX4_looksFor 19 = .ok (.putfield 43, 3) := by decide +kernel
theorem dX4_looksFor_22 : decode cX4_looksFor 22 = .ok (.aload_n 0, 1) := by decide +kernel
theorem dX4_looksFor_23 : decode cX4_looksFor 23 = .ok (.ldc2_w 46, 3) := by decide +kernel
theorem dX4_looksFor_26 : decode cX4_looksFor 26 = .ok (.putfield 48, 3) := by decide +kernel
theorem dX4_looksFor_29 : decode cX4_looksFor 29 = .ok (.iconst 0, 1) := by decide +kernel
theorem dX4_looksFor_30 : decode cX4_looksFor 30 = .ok (.istore 4, 2) := by decide +kernel
theorem dX4_looksFor_32 : decode cX4_looksFor 32 = .ok (.iload 4, 2) := by decide +kernel
theorem dX4_looksFor_34 : decode cX4_looksFor 34 = .ok (.bipush 20, 2) := by decide +kernel
theorem dX4_looksFor_36 : decode cX4_looksFor 36 = .ok (.if_icmp .gt 19, 3) := by decide +kernel
theorem dX4_looksFor_39 : decode cX4_looksFor 39 = .ok (.aload_n 0, 1) := by decide +kernel
theorem dX4_looksFor_40 : decode cX4_looksFor 40 = .ok (.getfield 20, 3) := by decide +kernel
theorem dX4_looksFor_43 : decode cX4_looksFor 43 = .ok (.iconst 0, 1) := by decide +kernel
theorem dX4_looksFor_44 : decode cX4_looksFor 44 = .ok (.aaload, 1) := by decide +kernel
theorem dX4_looksFor_45 : decode cX4_looksFor 45 = .ok (.iload 4, 2) := by decide +kernel
theorem dX4_looksFor_47 : decode cX4_looksFor 47 = .ok (.lconst 0, 1) := by decide +kernel
theorem dX4_looksFor_48 : decode cX4_looksFor 48 = .ok (.lastore, 1) := by decide +kernel
theorem dX4_looksFor_49 : decode cX4_looksFor 49 = .ok (.iinc 4 1, 3) := by decide +kernel
theorem dX4_looksFor_52 : decode cX4_looksFor 52 = .ok (.goto (-20), 3) := by decide +kernel
theorem dX4_looksFor_55 : decode cX4_looksFor 55 = .ok (.aload_n 0, 1) := by decide +kernel
theorem dX4_looksFor_56 : decode cX4_looksFor 56 = .ok (.getfield 20, 3) := by decide +kernel
theorem dX4_looksFor_59 : decode cX4_looksFor 59 = .ok (.iconst 0, 1) := by decide +kernel
theorem dX4_looksFor_60 : decode cX4_looksFor 60 = .ok (.aaload, 1) := by decide +kernel
theorem dX4_looksFor_61 : decode cX4_looksFor 61 = .ok (.aload_n 1, 1) := by decide +kernel
theorem dX4_looksFor_62 : decode cX4_looksFor 62 = .ok (.getfield 52, 3) := by decide +kernel
theorem dX4_looksFor_65 : decode cX4_looksFor 65 = .ok (.iload_n 2, 1) := by decide +kernel
theorem dX4_looksFor_66 : decode cX4_looksFor 66 = .ok (.iaload, 1) := by decide +kernel
theorem dX4_looksFor_67 : decode cX4_looksFor 67 = .ok (.lconst 1, 1) := by decide +kernel
theorem dX4_looksFor_68 : decode cX4_looksFor 68 = .ok (.lastore, 1) := by decide +kernel
theorem dX4_looksFor_69 : decode cX4_looksFor 69 = .ok (.aload_n 0, 1) := by decide +kernel
theorem dX4_looksFor_70 : decode cX4_looksFor 70 = .ok (.iconst 0, 1) := by decide +kernel
theorem dX4_looksFor_71 : decode cX4_looksFor 71 = .ok (.iload_n 3, 1) := by decide +kernel
theorem dX4_looksFor_72 : decode cX4_looksFor 72 = .ok (.lconst 0, 1) := by decide +kernel
theorem dX4_looksFor_73 : decode cX4_looksFor 73 = .ok (.invokestatic 57, 3) := by decide +kernel
theorem dX4_looksFor_76 : decode cX4_looksFor 76 = .ok (.return_, 1) := by decide +kernel
set_option maxRecDepth 20000 in
theorem r_X4_looksFor : m_Right (yX4_looksFor, cX4_looksFor, 5, none) q_X4_looksFor := m_right_nd (m_right_nd (m_right_nd (m_right_nd (m_right_nd (m_right_lf ⟨1, dX4_looksFor_0, rfl, rfl, rfl⟩) (m_right_lf ⟨1, dX4_looksFor_1, rfl, rfl, rfl⟩)) (m_right_nd (m_right_lf ⟨3, dX4_looksFor_2, rfl, rfl, 4, 5, 3, (RX4, TX4, 7), rfl, rfl, by decide, wd_288, Or.inl rfl, tyX4 5, tyX4_ok 5 (by decide), Or.inr (Or.inr (Or.inr ⟨rfl, Or.inl ⟨_, rfl⟩⟩))⟩) (m_right_nd (m_right_lf ⟨1, dX4_looksFor_5, rfl, rfl, rfl⟩) (m_right_lf ⟨1, dX4_looksFor_6, rfl, rfl, rfl⟩)))) (m_right_nd (m_right_nd (m_right_lf ⟨3, dX4_looksFor_7, rfl, rfl, 4, 6, 0, (RX4, TX4, 7), rfl, rfl, by decide, wd_289, Or.inl rfl, tyX4 6, tyX4_ok 6 (by decide), Or.inl ⟨rfl, rfl⟩⟩) (m_right_nd (m_right_lf ⟨1, dX4_looksFor_10, rfl, rfl, rfl⟩) (m_right_lf ⟨1, dX4_looksFor_11, rfl, rfl, by decide +kernel⟩))) (m_right_nd (m_right_lf ⟨1, dX4_looksFor_12, rfl, rfl, rfl⟩) (m_right_nd (m_right_lf ⟨3, dX4_looksFor_13, rfl, rfl, Or.inr (Or.inr ⟨197, 1, (yJ6_bitCount_0f7a4, cJ6_bitCount_0f7a4, 1, (some .int)), rfl, me_J6_bitCount_0f7a4, mc_J6_bitCount_0f7a4, wd_716, wd_707, wd_79⟩)⟩) (m_right_lf ⟨3, dX4_looksFor_16, rfl, rfl, Or.inl ⟨_, rfl, wd_72, Or.inr (Or.inl ⟨rfl, wm_717, wm_392, wm_393⟩)⟩⟩))))) (m_right_nd (m_right_nd (m_right_nd (m_right_lf ⟨3, dX4_looksFor_19, rfl, rfl, 4, 1, 0, (RX4, TX4, 7), rfl, rfl, by decide, wd_282, Or.inl rfl, tyX4 1, tyX4_ok 1 (by decide), Or.inl ⟨rfl, rfl⟩⟩) (m_right_lf ⟨1, dX4_looksFor_22, rfl, rfl, rfl⟩)) (m_right_nd (m_right_lf ⟨3, dX4_looksFor_23, rfl, rfl, _, rfl, wd_718⟩) (m_right_nd (m_right_lf ⟨3, dX4_looksFor_26, rfl, rfl, 4, 2, 1, (RX4, TX4, 7), rfl, rfl, by decide, wd_284, Or.inl rfl, tyX4 2, tyX4_ok 2 (by decide), Or.inr (Or.inl ⟨rfl, rfl⟩)⟩) (m_right_lf ⟨1, dX4_looksFor_29, rfl, rfl, by decide +kernel⟩)))) (m_right_nd (m_right_nd (m_right_lf ⟨2, dX4_looksFor_30, rfl, rfl, rfl⟩) (m_right_nd (m_right_lf ⟨2, dX4_looksFor_32, rfl, rfl, rfl⟩) (m_right_lf ⟨2, dX4_looksFor_34, rfl, rfl, by decide +kernel⟩))) (m_right_nd (m_right_lf ⟨3, dX4_looksFor_36, rfl, rfl, 55, rfl, by decide⟩) (m_right_nd (m_right_lf ⟨1, dX4_looksFor_39, rfl, rfl, rfl⟩) (m_right_lf ⟨3, dX4_looksFor_40, rfl, rfl, 4, 4, rfl, Or.inl ⟨(RX4, TX4, 7), rfl, by decide, wd_287⟩⟩)))))) (m_right_nd (m_right_nd (m_right_nd (m_right_nd (m_right_lf ⟨1, dX4_looksFor_43, rfl, rfl, by decide +kernel⟩) (m_right_lf ⟨1, dX4_looksFor_44, rfl, rfl⟩)) (m_right_nd (m_right_lf ⟨2, dX4_looksFor_45, rfl, rfl, rfl⟩) (m_right_nd (m_right_lf ⟨1, dX4_looksFor_47, rfl, rfl, by decide +kernel⟩) (m_right_lf ⟨1, dX4_looksFor_48, rfl, rfl⟩)))) (m_right_nd (m_right_nd (m_right_lf ⟨3, dX4_looksFor_49, rfl, rfl, rfl, by decide +kernel⟩) (m_right_nd (m_right_lf ⟨3, dX4_looksFor_52, rfl, 32, rfl, by decide⟩) (m_right_lf ⟨1, dX4_looksFor_55, rfl, rfl, rfl⟩))) (m_right_nd (m_right_lf ⟨3, dX4_looksFor_56, rfl, rfl, 4, 4, rfl, Or.inl ⟨(RX4, TX4, 7), rfl, by decide, wd_287⟩⟩) (m_right_nd (m_right_lf ⟨1, dX4_looksFor_59, rfl, rfl, by decide +kernel⟩) (m_right_lf ⟨1, dX4_looksFor_60, rfl, rfl⟩))))) (m_right_nd (m_right_nd (m_right_nd (m_right_lf ⟨1, dX4_looksFor_61, rfl, rfl, rfl⟩) (m_right_nd (m_right_lf ⟨3, dX4_looksFor_62, rfl, rfl, 7, 3, rfl, Or.inl ⟨(RX7, TX7, 16), rfl, by decide, wd_105⟩⟩) (m_right_lf ⟨1, dX4_looksFor_65, rfl, rfl, rfl⟩))) (m_right_nd (m_right_lf ⟨1, dX4_looksFor_66, rfl, rfl⟩) (m_right_nd (m_right_lf ⟨1, dX4_looksFor_67, rfl, rfl, by decide +kernel⟩) (m_right_lf ⟨1, dX4_looksFor_68, rfl, rfl⟩)))) (m_right_nd (m_right_nd (m_right_lf ⟨1, dX4_looksFor_69, rfl, rfl, rfl⟩) (m_right_nd (m_right_lf ⟨1, dX4_looksFor_70, rfl, rfl, by decide +kernel⟩) (m_right_lf ⟨1, dX4_looksFor_71, rfl, rfl, rfl⟩))) (m_right_nd (m_right_lf ⟨1, dX4_looksFor_72, rfl, rfl, by decide +kernel⟩) (m_right_nd (m_right_lf ⟨3, dX4_looksFor_73, rfl, rfl, Or.inr (Or.inr ⟨30, 4, (yX4_tryRows, cX4_tryRows, 6, none), rfl, me_X4_tryRows, mc_X4_tryRows, wd_719, wd_720, wd_68⟩)⟩) (m_right_lf ⟨1, dX4_looksFor_76, rfl, rfl⟩))))))
theorem dX4_tryRows_0 : decode cX4_tryRows 0 = .ok (.iload_n 1, 1) := by decide +kernel
theorem dX4_tryRows_1 : decode cX4_tryRows 1 = .ok (.aload_n 0, 1) := by decide +kernel
theorem dX4_tryRows_2 : decode cX4_tryRows 2 = .ok (.getfield 43, 3) := by decide +kernel
theorem dX4_tryRows_5 : decode cX4_tryRows 5 = .ok (.if_icmp .lt 32, 3) := by decide +kernel
theorem dX4_tryRows_8 : decode cX4_tryRows 8 = .ok (.lload_n 3, 1) := by decide +kernel
theorem dX4_tryRows_9 : decode cX4_tryRows 9 = .ok (.aload_n 0, 1) := by decide +kernel
theorem dX4_tryRows_10 : decode cX4_tryRows 10 = .ok (.getfield 48, 3) := by decide +kernel
theorem dX4_tryRows_13 : decode cX4_tryRows 13 = .ok (.lcmp, 1) := by decide +kernel
theorem dX4_tryRows_14 : decode cX4_tryRows 14 = .ok (.ifCond .le 22, 3) := by decide +kernel
theorem dX4_tryRows_17 : decode cX4_tryRows 17 = .ok (.aload_n 0, 1) := by decide +kernel
theorem dX4_tryRows_18 : decode cX4_tryRows 18 = .ok (.lload_n 3, 1) := by decide +kernel
theorem dX4_tryRows_19 : decode cX4_tryRows 19 = .ok (.putfield 48, 3) := by decide +kernel
theorem dX4_tryRows_22 : decode cX4_tryRows 22 = .ok (.aload_n 0, 1) := by decide +kernel
theorem dX4_tryRows_23 : decode cX4_tryRows 23 = .ok (.getfield 15, 3) := by decide +kernel
theorem dX4_tryRows_26 : decode cX4_tryRows 26 = .ok (.iconst 0, 1) := by decide +kernel
theorem dX4_tryRows_27 : decode cX4_tryRows 27 = .ok (.aload_n 0, 1) := by decide +kernel
theorem dX4_tryRows_28 : decode cX4_tryRows 28 = .ok (.getfield 9, 3) := by decide +kernel
theorem dX4_tryRows_31 : decode cX4_tryRows 31 = .ok (.iconst 0, 1) := by decide +kernel
theorem dX4_tryRows_32 : decode cX4_tryRows 32 = .ok (.iconst 4, 1) := by decide +kernel
theorem dX4_tryRows_33 : decode cX4_tryRows 33 = .ok (.invokestatic 61, 3) := by decide +kernel
theorem dX4_tryRows_36 : decode cX4_tryRows 36 = .ok (.return_, 1) := by decide +kernel
theorem dX4_tryRows_37 : decode cX4_tryRows 37 = .ok (.iconst 0, 1) := by decide +kernel
theorem dX4_tryRows_38 : decode cX4_tryRows 38 = .ok (.istore 5, 2) := by decide +kernel
theorem dX4_tryRows_40 : decode cX4_tryRows 40 = .ok (.iload 5, 2) := by decide +kernel
theorem dX4_tryRows_42 : decode cX4_tryRows 42 = .ok (.aload_n 0, 1) := by decide +kernel
theorem dX4_tryRows_43 : decode cX4_tryRows 43 = .ok (.getfield 23, 3) := by decide +kernel
theorem dX4_tryRows_46 : decode cX4_tryRows 46 = .ok (.getfield 67, 3) := by decide +kernel
theorem dX4_tryRows_49 : decode cX4_tryRows 49 = .ok (.if_icmp .ge 55, 3) := by decide +kernel
theorem dX4_tryRows_52 : decode cX4_tryRows 52 = .ok (.iload_n 2, 1) := by decide +kernel
theorem dX4_tryRows_53 : decode cX4_tryRows 53 = .ok (.iload 5, 2) := by decide +kernel
theorem dX4_tryRows_55 : decode cX4_tryRows 55 = .ok (.ishr, 1) := by decide +kernel
theorem dX4_tryRows_56 : decode cX4_tryRows 56 = .ok (.iconst 1, 1) := by decide +kernel
theorem dX4_tryRows_57 : decode cX4_tryRows 57 = .ok (.iand, 1) := by decide +kernel
theorem dX4_tryRows_58 : decode cX4_tryRows 58 = .ok (.iconst 1, 1) := by decide +kernel
theorem dX4_tryRows_59 : decode cX4_tryRows 59 = .ok (.if_icmp .ne 39, 3) := by decide +kernel
theorem dX4_tryRows_62 : decode cX4_tryRows 62 = .ok (.aload_n 0, 1) := by decide +kernel
theorem dX4_tryRows_63 : decode cX4_tryRows 63 = .ok (.getfield 15, 3) := by decide +kernel
theorem dX4_tryRows_66 : decode cX4_tryRows 66 = .ok (.iload_n 1, 1) := by decide +kernel
theorem dX4_tryRows_67 : decode cX4_tryRows 67 = .ok (.iload 5, 2) := by decide +kernel
theorem dX4_tryRows_69 : decode cX4_tryRows 69 = .ok (.iastore, 1) := by decide +kernel
theorem dX4_tryRows_70 : decode cX4_tryRows 70 = .ok (.aload_n 0, 1) := by decide +kernel
theorem dX4_tryRows_71 : decode cX4_tryRows 71 = .ok (.iload_n 1, 1) := by decide +kernel
theorem dX4_tryRows_72 : decode cX4_tryRows 72 = .ok (.iconst 1, 1) := by decide +kernel
theorem dX4_tryRows_73 : decode cX4_tryRows 73 = .ok (.iadd, 1) := by decide +kernel
theorem dX4_tryRows_74 : decode cX4_tryRows 74 = .ok (.iload_n 2, 1) := by decide +kernel
theorem dX4_tryRows_75 : decode cX4_tryRows 75 = .ok (.iconst 1, 1) := by decide +kernel
theorem dX4_tryRows_76 : decode cX4_tryRows 76 = .ok (.iload 5, 2) := by decide +kernel
theorem dX4_tryRows_78 : decode cX4_tryRows 78 = .ok (.ishl, 1) := by decide +kernel
theorem dX4_tryRows_79 : decode cX4_tryRows 79 = .ok (.iconst (-1), 1) := by decide +kernel
theorem dX4_tryRows_80 : decode cX4_tryRows 80 = .ok (.ixor, 1) := by decide +kernel
theorem dX4_tryRows_81 : decode cX4_tryRows 81 = .ok (.iand, 1) := by decide +kernel
theorem dX4_tryRows_82 : decode cX4_tryRows 82 = .ok (.lload_n 3, 1) := by decide +kernel
theorem dX4_tryRows_83 : decode cX4_tryRows 83 = .ok (.ldc2_w 70, 3) := by decide +kernel
theorem dX4_tryRows_86 : decode cX4_tryRows 86 = .ok (.lmul, 1) := by decide +kernel
theorem dX4_tryRows_87 : decode cX4_tryRows 87 = .ok (.aload_n 0, 1) := by decide +kernel
theorem dX4_tryRows_88 : decode cX4_tryRows 88 = .ok (.iload_n 1, 1) := by decide +kernel
theorem dX4_tryRows_89 : decode cX4_tryRows 89 = .ok (.iload 5, 2) := by decide +kernel
theorem dX4_tryRows_91 : decode cX4_tryRows 91 = .ok (.invokevirtual 72, 3) := by decide +kernel
theorem dX4_tryRows_94 : decode cX4_tryRows 94 = .ok (.ladd, 1) := by decide +kernel
theorem dX4_tryRows_95 : decode cX4_tryRows 95 = .ok (.invokestatic 57, 3) := by decide +kernel
theorem dX4_tryRows_98 : decode cX4_tryRows 98 = .ok (.iinc 5 1, 3) := by decide +kernel
theorem dX4_tryRows_101 : decode cX4_tryRows 101 = .ok (.goto (-61), 3) := by decide +kernel
theorem dX4_tryRows_104 : decode cX4_tryRows 104 = .ok (.return_, 1) := by decide +kernel
set_option maxRecDepth 20000 in
theorem r_X4_tryRows : m_Right (yX4_tryRows, cX4_tryRows, 6, none) q_X4_tryRows := m_right_nd (m_right_nd (m_right_nd (m_right_nd (m_right_nd (m_right_lf ⟨1, dX4_tryRows_0, rfl, rfl, rfl⟩) (m_right_nd (m_right_lf ⟨1, dX4_tryRows_1, rfl, rfl, rfl⟩) (m_right_lf ⟨3, dX4_tryRows_2, rfl, rfl, 4, 1, rfl, Or.inl ⟨(RX4, TX4, 7), rfl, by decide, wd_282⟩⟩))) (m_right_nd (m_right_nd (m_right_lf ⟨3, dX4_tryRows_5, rfl, rfl, 37, rfl, by decide⟩) (m_right_lf ⟨1, dX4_tryRows_8, rfl, rfl, rfl⟩)) (m_right_nd (m_right_lf ⟨1, dX4_tryRows_9, rfl, rfl, rfl⟩) (m_right_lf ⟨3, dX4_tryRows_10, rfl, rfl, 4, 2, rfl, Or.inl ⟨(RX4, TX4, 7), rfl, by decide, wd_284⟩⟩)))) (m_right_nd (m_right_nd (m_right_nd (m_right_lf ⟨1, dX4_tryRows_13, rfl, rfl⟩) (m_right_lf ⟨3, dX4_tryRows_14, rfl, rfl, 36, rfl, by decide⟩)) (m_right_nd (m_right_lf ⟨1, dX4_tryRows_17, rfl, rfl, rfl⟩) (m_right_lf ⟨1, dX4_tryRows_18, rfl, rfl, rfl⟩))) (m_right_nd (m_right_nd (m_right_lf ⟨3, dX4_tryRows_19, rfl, rfl, 4, 2, 1, (RX4, TX4, 7), rfl, rfl, by decide, wd_284, Or.inl rfl, tyX4 2, tyX4_ok 2 (by decide), Or.inr (Or.inl ⟨rfl, rfl⟩)⟩) (m_right_lf ⟨1, dX4_tryRows_22, rfl, rfl, rfl⟩)) (m_right_nd (m_right_lf ⟨3, dX4_tryRows_23, rfl, rfl, 4, 3, rfl, Or.inl ⟨(RX4, TX4, 7), rfl, by decide, wd_286⟩⟩) (m_right_lf ⟨1, dX4_tryRows_26, rfl, rfl, by decide +kernel⟩))))) (m_right_nd (m_right_nd (m_right_nd (m_right_nd (m_right_lf ⟨1, dX4_tryRows_27, rfl, rfl, rfl⟩) (m_right_lf ⟨3, dX4_tryRows_28, rfl, rfl, 4, 0, rfl, Or.inl ⟨(RX4, TX4, 7), rfl, by decide, wd_280⟩⟩)) (m_right_nd (m_right_lf ⟨1, dX4_tryRows_31, rfl, rfl, by decide +kernel⟩) (m_right_lf ⟨1, dX4_tryRows_32, rfl, rfl, by decide +kernel⟩))) (m_right_nd (m_right_nd (m_right_lf ⟨3, dX4_tryRows_33, rfl, rfl, Or.inr (Or.inl ⟨rfl, wd_722, wd_453, wd_452, wd_74⟩)⟩) (m_right_lf ⟨1, dX4_tryRows_36, rfl, rfl⟩)) (m_right_nd (m_right_lf ⟨1, dX4_tryRows_37, rfl, rfl, by decide +kernel⟩) (m_right_lf ⟨2, dX4_tryRows_38, rfl, rfl, rfl⟩)))) (m_right_nd (m_right_nd (m_right_nd (m_right_lf ⟨2, dX4_tryRows_40, rfl, rfl, rfl⟩) (m_right_lf ⟨1, dX4_tryRows_42, rfl, rfl, rfl⟩)) (m_right_nd (m_right_lf ⟨3, dX4_tryRows_43, rfl, rfl, 4, 5, rfl, Or.inl ⟨(RX4, TX4, 7), rfl, by decide, wd_288⟩⟩) (m_right_lf ⟨3, dX4_tryRows_46, rfl, rfl, 7, 0, rfl, Or.inl ⟨(RX7, TX7, 16), rfl, by decide, wd_96⟩⟩))) (m_right_nd (m_right_nd (m_right_lf ⟨3, dX4_tryRows_49, rfl, rfl, 104, rfl, by decide⟩) (m_right_lf ⟨1, dX4_tryRows_52, rfl, rfl, rfl⟩)) (m_right_nd (m_right_lf ⟨2, dX4_tryRows_53, rfl, rfl, rfl⟩) (m_right_lf ⟨1, dX4_tryRows_55, rfl, rfl⟩)))))) (m_right_nd (m_right_nd (m_right_nd (m_right_nd (m_right_nd (m_right_lf ⟨1, dX4_tryRows_56, rfl, rfl, by decide +kernel⟩) (m_right_lf ⟨1, dX4_tryRows_57, rfl, rfl⟩)) (m_right_nd (m_right_lf ⟨1, dX4_tryRows_58, rfl, rfl, by decide +kernel⟩) (m_right_lf ⟨3, dX4_tryRows_59, rfl, rfl, 98, rfl, by decide⟩))) (m_right_nd (m_right_nd (m_right_lf ⟨1, dX4_tryRows_62, rfl, rfl, rfl⟩) (m_right_lf ⟨3, dX4_tryRows_63, rfl, rfl, 4, 3, rfl, Or.inl ⟨(RX4, TX4, 7), rfl, by decide, wd_286⟩⟩)) (m_right_nd (m_right_lf ⟨1, dX4_tryRows_66, rfl, rfl, rfl⟩) (m_right_lf ⟨2, dX4_tryRows_67, rfl, rfl, rfl⟩)))) (m_right_nd (m_right_nd (m_right_nd (m_right_lf ⟨1, dX4_tryRows_69, rfl, rfl⟩) (m_right_lf ⟨1, dX4_tryRows_70, rfl, rfl, rfl⟩)) (m_right_nd (m_right_lf ⟨1, dX4_tryRows_71, rfl, rfl, rfl⟩) (m_right_lf ⟨1, dX4_tryRows_72, rfl, rfl, by decide +kernel⟩))) (m_right_nd (m_right_nd (m_right_lf ⟨1, dX4_tryRows_73, rfl, rfl⟩) (m_right_lf ⟨1, dX4_tryRows_74, rfl, rfl, rfl⟩)) (m_right_nd (m_right_lf ⟨1, dX4_tryRows_75, rfl, rfl, by decide +kernel⟩) (m_right_lf ⟨2, dX4_tryRows_76, rfl, rfl, rfl⟩))))) (m_right_nd (m_right_nd (m_right_nd (m_right_nd (m_right_lf ⟨1, dX4_tryRows_78, rfl, rfl⟩) (m_right_lf ⟨1, dX4_tryRows_79, rfl, rfl, by decide +kernel⟩)) (m_right_nd (m_right_lf ⟨1, dX4_tryRows_80, rfl, rfl⟩) (m_right_lf ⟨1, dX4_tryRows_81, rfl, rfl⟩))) (m_right_nd (m_right_nd (m_right_lf ⟨1, dX4_tryRows_82, rfl, rfl, rfl⟩) (m_right_lf ⟨3, dX4_tryRows_83, rfl, rfl, _, rfl, wd_723⟩)) (m_right_nd (m_right_lf ⟨1, dX4_tryRows_86, rfl, rfl⟩) (m_right_lf ⟨1, dX4_tryRows_87, rfl, rfl, rfl⟩)))) (m_right_nd (m_right_nd (m_right_nd (m_right_lf ⟨1, dX4_tryRows_88, rfl, rfl, rfl⟩) (m_right_lf ⟨2, dX4_tryRows_89, rfl, rfl, rfl⟩)) (m_right_nd (m_right_lf ⟨3, dX4_tryRows_91, rfl, rfl, 31, 2, 4, (yX4_plays, cX4_plays, 9, (some .long)), rfl, me_X4_plays, mc_X4_plays, Or.inl ⟨(RX4, TX4, 7), rfl, rfl⟩, wd_724, wd_726, wd_14, wd_68⟩) (m_right_lf ⟨1, dX4_tryRows_94, rfl, rfl⟩))) (m_right_nd (m_right_nd (m_right_lf ⟨3, dX4_tryRows_95, rfl, rfl, Or.inr (Or.inr ⟨30, 4, (yX4_tryRows, cX4_tryRows, 6, none), rfl, me_X4_tryRows, mc_X4_tryRows, wd_719, wd_720, wd_68⟩)⟩) (m_right_lf ⟨3, dX4_tryRows_98, rfl, rfl, rfl, by decide +kernel⟩)) (m_right_nd (m_right_lf ⟨3, dX4_tryRows_101, rfl, 40, rfl, by decide⟩) (m_right_lf ⟨1, dX4_tryRows_104, rfl, rfl⟩))))))
