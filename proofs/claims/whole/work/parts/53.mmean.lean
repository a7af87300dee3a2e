/-! By program (wip/whole/book*.py) and hand. -/
theorem e_mean_L (d : Nat) (h : mH) (i : Nat → Int32) (o t : Nat) (pd bw : Int64) (Q : Option Value → mH → Prop) (hM : h 76 = .inr (10, mObj i o t pd bw)) (A : Nat → Int64) (hA : h o = .inl (1, 5733, .inr (.inl A))) (s : Nat → Int32) (l : List Tok) (le mo a b gn : Nat) (v1 v2 v3 v4 : Int32) (K : mT0 d z_X10_mean 83 [some (.ref 76), some (.int v1), some (.int v2), some (.int v3), some (.int v4), some (.long (sE (a_od s l a b) (n_few le) (n_mor mo) st_mean A gn 5733)), none, some (.int (nI 5733))] [] h Q) : ∀ (r k : Nat) , k + r = 5733 → mT0 d z_X10_mean 47 [some (.ref 76), some (.int v1), some (.int v2), some (.int v3), some (.int v4), some (.long (sE (a_od s l a b) (n_few le) (n_mor mo) st_mean A gn k)), none, some (.int (nI k))] [] h Q := by
  intro r
  induction r with
  | zero =>
    intro k  hk 
    iterate 2 refine mT_s rfl rfl ?_
    refine mT_icmp_ge rfl (fun _ => ?_) (fun c => absurd (nI_le (a := 5733) (b := k) (by omega) (by omega)) c)
    obtain rfl : k = 5733 := by omega
    exact K
  | succ r ih =>
    intro k  hk 
    iterate 2 refine mT_s rfl rfl ?_
    refine mT_icmp_ge rfl (fun c => absurd c (nI_ge (a := k) (b := 5733) (by omega) (by omega))) (fun _ => ?_)
    iterate 8 refine mT_s rfl rfl ?_
    (apply mT_getf; (case hc => rfl); (case ha => first | rfl | assumption); (case hf => first | rfl | assumption))
    refine mT_s rfl rfl ?_
    (apply mT_laldK; (case hc => rfl); (case ha => first | rfl | assumption); (case hk => first | (simp only [ki_0, ki_1, ki_2, ki_3, ki_4, ki_5, ki_6, ki_7, ki_8, ki_9, ki_10, ki_11, ki_12, ki_17, ki_20, ki_21, ki_22, ki_42, ki_50, ki_58, ki_66, ki_74, ki_140, ki_174, ki_179, ki_184, ki_189, ki_441, nI_add, pk_mul]; with_reducible rfl) | (simp only [ki_0, ki_1, ki_2, ki_3, ki_4, ki_5, ki_6, ki_7, ki_8, ki_9, ki_10, ki_11, ki_12, ki_17, ki_20, ki_21, ki_22, ki_42, ki_50, ki_58, ki_66, ki_74, ki_140, ki_174, ki_179, ki_184, ki_189, ki_441, ix1, nI_add, pk_mul]; with_reducible rfl) | (simp only [ki_0, ki_1, ki_2, ki_3, ki_4, ki_5, ki_6, ki_7, ki_8, ki_9, ki_10, ki_11, ki_12, ki_17, ki_20, ki_21, ki_22, ki_42, ki_50, ki_58, ki_66, ki_74, ki_140, ki_174, ki_179, ki_184, ki_189, ki_441, ix1, ix2, nI_add, pk_mul]; with_reducible rfl) | (simp only [ki_0, ki_1, ki_2, ki_3, ki_4, ki_5, ki_6, ki_7, ki_8, ki_9, ki_10, ki_11, ki_12, ki_17, ki_20, ki_21, ki_22, ki_42, ki_50, ki_58, ki_66, ki_74, ki_140, ki_174, ki_179, ki_184, ki_189, ki_441, ix1, ix2, ix3, nI_add, pk_mul]; with_reducible rfl) | (simp (disch := omega) only [upd_n, ki_0, ki_1, ki_2, ki_3, ki_4, ki_5, ki_6, ki_7, ki_8, ki_9, ki_10, ki_11, ki_12, ki_17, ki_20, ki_21, ki_22, ki_42, ki_50, ki_58, ki_66, ki_74, ki_140, ki_174, ki_179, ki_184, ki_189, ki_441, ix1, nI_add, pk_mul]; with_reducible rfl) | (simp (disch := omega) only [upd_n, ki_0, ki_1, ki_2, ki_3, ki_4, ki_5, ki_6, ki_7, ki_8, ki_9, ki_10, ki_11, ki_12, ki_17, ki_20, ki_21, ki_22, ki_42, ki_50, ki_58, ki_66, ki_74, ki_140, ki_174, ki_179, ki_184, ki_189, ki_441, ix1, ix2, nI_add, pk_mul]; with_reducible rfl) | rfl); (case hlt => first | decide | omega); (case hn => decide))
    iterate 5 refine mT_s rfl rfl ?_
    have eM : (nI k / 21 - nI k / 21 / 21 * 21).toInt64 = iL ((k / 21 % 21 : Nat) : Int) := by
      rw [show (21 : Int32) = nI 21 from rfl, pk_div (by omega) (by omega) (by omega), pk_rem (by omega) (by omega) (by omega), nI_l (by omega)]
      rfl
    simp only [eM]
    rw [show (sE (a_od s l a b) (n_few le) (n_mor mo) st_mean A gn k) + iL ((k / 21 % 21 : Nat) : Int) * A k = (sE (a_od s l a b) (n_few le) (n_mor mo) st_mean A gn (k + 1)) from by
      show _ = sL _ (k + 1)
      rw [sL_S _ k, Int64.mul_comm]
      rfl, nI_1]
    exact ih (k + 1) (by omega)
theorem e_mean (d : Nat) (h : mH) (s i : Nat → Int32) (o t : Nat) (pd bw : Int64) (Q : Option Value → mH → Prop) (hM : h 76 = .inr (10, mObj i o t pd bw)) (h77 : h 77 = .inl (0, 889, .inl s)) (hN : 87 ≤ m_nx h) (hI : s_Inv s) {l : List Tok} {le mo : Nat} (hG : sG s l le mo) (mm : Nat → Nat) (g : Nat) (hmm : ∀ j, j < 5 → mm j ≤ 20) (hs : s_at s mm g = s) (hg : g ≤ 9999) (h80 : ∃ f, h 80 = .inl (0, 5, .inl f)) (h81 : ∃ g, h 81 = .inl (2, 64, .inl g)) (h79 : ∃ f, h 79 = .inl (0, 6, .inl f)) (hot : hOT o t) (hA : ∃ A : Nat → Int64, h o = .inl (1, 5733, .inr (.inl A))) (hC : ∃ C : Nat → Int64, h t = .inl (1, 5733, .inr (.inl C)))  (x y n part : Int32) (kN : ¬ (okP s x ∧ okP s y ∧ x ≠ y ∧ (0 ≤ n ∧ n ≤ 12) ∧ (0 ≤ part ∧ part ≤ 1)) → Q (some (.long (-9223372036854775808))) h) (k : ∀ a b : Nat, a < 5 → b < 5 → x = nI a → y = nI b → okP s x → okP s y → a ≠ b → ∀ m : Nat, m ≤ 12 → n = nI m → (0 ≤ part ∧ part ≤ 1) → ∀ h2 o2 t2 pd2, rX [76, 77, 79, 80, 81, 82, 83] h h2 → hOT o2 t2 → h2 76 = .inr (10, mObj i o2 t2 pd2 bw) → h2 77 = .inl (0, 889, .inl s) → (∃ f, h2 79 = .inl (0, 6, .inl f)) → (∃ A : Nat → Int64, h2 o2 = .inl (1, 5733, .inr (.inl A))) → (∃ C : Nat → Int64, h2 t2 = .inl (1, 5733, .inr (.inl C))) → Q (some (.long (v_low (eG (a_od s l a b) (n_few le) (n_mor mo) st_mean rw_no m g 0 (mm a) (mm b)) (10 ^ m) part))) h2) : mT0 (d + 6) z_X10_mean 0 (m_init z_X10_mean [.ref 76, .int x, .int y, .int n, .int part]) [] h Q := by
  iterate 3 refine mT_s rfl rfl ?_
  (apply mT_inv; (case hc => rfl); (case hd => rfl); (case hb => first | rfl | assumption); (case hg => rfl))
  refine e_areTwo _ h s i o t pd bw _ hM h77 hN hI x y (fun two => ?_) (fun j2 j10 hj2 hj10 e2 e10 v2 v10 hne => ?_)
  · skip
    iterate 2 refine mT_s rfl rfl ?_
    refine mT_ret rfl rfl ?_
    exact kN (fun z => two ⟨z.1, z.2.1, z.2.2.1⟩)
  · iterate 4 refine mT_s rfl rfl ?_
    refine mT_c rfl rfl ?_
    refine e_in _ _ _ _ _ _ (fun a13 b13 => ?_) (fun a13 => ?_)
    · iterate 4 refine mT_s rfl rfl ?_
      refine mT_c rfl rfl ?_
      refine e_in _ _ _ _ _ _ (fun a23 b23 => ?_) (fun a23 => ?_)
      · iterate 6 refine mT_s rfl rfl ?_
        (apply mT_inv; (case hc => rfl); (case hd => rfl); (case hb => first | rfl | assumption); (case hg => rfl))
        obtain ⟨m, hm, hnn⟩ : ∃ m : Nat, m ≤ 12 ∧ n = nI m := i_nat (n := 12) a13 b13 (by omega)
        rw [e2, e10, hnn]
        refine e_gamesOn s i bw _ mm g hg hG j2 j10 hj2 hj10 hne 0 false (fun z => absurd z (by decide)) (fun z => absurd rfl z) m (by omega) _ h o t pd hot hM (by rw [hs]; exact h77) hmm h79 hN h80 h81 hA hC (fun h5 o5 t5 A5 A25 pd5 hr5 hot5 hM5 h775 h795 hA5 hC5 hJ5 => ?_)
        rw [hs] at h775
        have b0 : 10 ^ m ≤ 10 ^ 12 := Nat.pow_le_pow_right (by decide) (by omega)
        iterate 4 refine mT_s rfl rfl ?_
        have z9 := e_mean_L (d + 6) h5 i o5 t5 pd5 bw Q hM5 A5 hA5 s l le mo j2 j10 (g + m) (nI j2) (nI j10) (nI m) part ?_ 5733 0 (by omega)
        · exact z9
        rw [gJ_plain hJ5 (fun _ _ _ _ => rfl)]
        iterate 2 refine mT_s rfl rfl ?_
        refine mT_c rfl rfl ?_
        refine e_tens _ _ _ m (by omega) ?_
        refine mT_s rfl rfl ?_
        refine mT_c rfl rfl ?_
        refine e_lowest _ _ _ (eG (a_od s l j2 j10) (n_few le) (n_mor mo) st_mean rw_no m g 0 (mm j2) (mm j10)) (b_mean (hmm j2 hj2) (hmm j10 hj10) (by omega)) _ part (Nat.pow_pos (by decide)) (by omega) ?_
        refine mT_ret rfl rfl ?_
        exact k j2 j10 hj2 hj10 e2 e10 v2 v10 hne m hm hnn ⟨a23, b23⟩ h5 o5 t5 pd5 hr5 hot5 hM5 h775 h795 ⟨_, hA5⟩ hC5
      · iterate 2 refine mT_s rfl rfl ?_
        refine mT_ret rfl rfl ?_
        exact kN (fun z => a23 z.2.2.2.2)
    · iterate 2 refine mT_s rfl rfl ?_
      refine mT_ret rfl rfl ?_
      exact kN (fun z => a13 z.2.2.2.1)

theorem e_ends_L (d : Nat) (h : mH) (i : Nat → Int32) (o t : Nat) (pd bw : Int64) (Q : Option Value → mH → Prop) (hM : h 76 = .inr (10, mObj i o t pd bw)) (A : Nat → Int64) (hA : h o = .inl (1, 5733, .inr (.inl A))) (s : Nat → Int32) (l : List Tok) (le mo a b gn : Nat) (v1 v2 v3 v4 : Int32) (K : mT0 d z_X10_ends 89 [some (.ref 76), some (.int v1), some (.int v2), some (.int v3), some (.int v4), some (.long (sE (a_od s l a b) (n_few le) (n_mor mo) st_ends A gn 5733)), none, some (.int (nI 5733))] [] h Q) : ∀ (r k : Nat) , k + r = 5733 → mT0 d z_X10_ends 47 [some (.ref 76), some (.int v1), some (.int v2), some (.int v3), some (.int v4), some (.long (sE (a_od s l a b) (n_few le) (n_mor mo) st_ends A gn k)), none, some (.int (nI k))] [] h Q := by
  intro r
  induction r with
  | zero =>
    intro k  hk 
    iterate 2 refine mT_s rfl rfl ?_
    refine mT_icmp_ge rfl (fun _ => ?_) (fun c => absurd (nI_le (a := 5733) (b := k) (by omega) (by omega)) c)
    obtain rfl : k = 5733 := by omega
    exact K
  | succ r ih =>
    intro k  hk 
    iterate 2 refine mT_s rfl rfl ?_
    refine mT_icmp_ge rfl (fun c => absurd c (nI_ge (a := k) (b := 5733) (by omega) (by omega))) (fun _ => ?_)
    iterate 7 refine mT_s rfl rfl ?_
    refine mT_icmp_ne rfl (fun c66 => ?_) (fun c66 => ?_)
    · have eM : nI k / 21 - nI k / 21 / 21 * 21 = nI (k / 21 % 21) := by rw [show (21 : Int32) = nI 21 from rfl, pk_div (by omega) (by omega) (by omega), pk_rem (by omega) (by omega) (by omega)]
      have c66 : ¬ k / 21 % 21 = 1 := fun z => c66 (eM.trans (congrArg nI z))
      iterate 5 refine mT_s rfl rfl ?_
      rw [show (sE (a_od s l a b) (n_few le) (n_mor mo) st_ends A gn k) + 0 = (sE (a_od s l a b) (n_few le) (n_mor mo) st_ends A gn (k + 1)) from by
        show _ = sL _ (k + 1)
        rw [sL_S _ k, show dk (fun w m o => iL (eG (a_od s l a b) (n_few le) (n_mor mo) st_ends rw_no 0 gn w m o)) k = iL 0 from by
          show iL ((st_ends 0 (k / 441) (k / 21 % 21) (k % 21)).getD 0) = iL 0
          unfold st_ends
          rw [if_neg c66]
          rfl, iL_0, Int64.mul_zero]
        rfl, nI_1]
      exact ih (k + 1) (by omega)
    · have eM : nI k / 21 - nI k / 21 / 21 * 21 = nI (k / 21 % 21) := by rw [show (21 : Int32) = nI 21 from rfl, pk_div (by omega) (by omega) (by omega), pk_rem (by omega) (by omega) (by omega)]
      have c66 : k / 21 % 21 = 1 := (nI_eq (b := 1) (by omega) (by omega)).mp (eM.symm.trans c66)
      refine mT_s rfl rfl ?_
      (apply mT_getf; (case hc => rfl); (case ha => first | rfl | assumption); (case hf => first | rfl | assumption))
      refine mT_s rfl rfl ?_
      (apply mT_laldK; (case hc => rfl); (case ha => first | rfl | assumption); (case hk => first | (simp only [ki_0, ki_1, ki_2, ki_3, ki_4, ki_5, ki_6, ki_7, ki_8, ki_9, ki_10, ki_11, ki_12, ki_17, ki_20, ki_21, ki_22, ki_42, ki_50, ki_58, ki_66, ki_74, ki_140, ki_174, ki_179, ki_184, ki_189, ki_441, nI_add, pk_mul]; with_reducible rfl) | (simp only [ki_0, ki_1, ki_2, ki_3, ki_4, ki_5, ki_6, ki_7, ki_8, ki_9, ki_10, ki_11, ki_12, ki_17, ki_20, ki_21, ki_22, ki_42, ki_50, ki_58, ki_66, ki_74, ki_140, ki_174, ki_179, ki_184, ki_189, ki_441, ix1, nI_add, pk_mul]; with_reducible rfl) | (simp only [ki_0, ki_1, ki_2, ki_3, ki_4, ki_5, ki_6, ki_7, ki_8, ki_9, ki_10, ki_11, ki_12, ki_17, ki_20, ki_21, ki_22, ki_42, ki_50, ki_58, ki_66, ki_74, ki_140, ki_174, ki_179, ki_184, ki_189, ki_441, ix1, ix2, nI_add, pk_mul]; with_reducible rfl) | (simp only [ki_0, ki_1, ki_2, ki_3, ki_4, ki_5, ki_6, ki_7, ki_8, ki_9, ki_10, ki_11, ki_12, ki_17, ki_20, ki_21, ki_22, ki_42, ki_50, ki_58, ki_66, ki_74, ki_140, ki_174, ki_179, ki_184, ki_189, ki_441, ix1, ix2, ix3, nI_add, pk_mul]; with_reducible rfl) | (simp (disch := omega) only [upd_n, ki_0, ki_1, ki_2, ki_3, ki_4, ki_5, ki_6, ki_7, ki_8, ki_9, ki_10, ki_11, ki_12, ki_17, ki_20, ki_21, ki_22, ki_42, ki_50, ki_58, ki_66, ki_74, ki_140, ki_174, ki_179, ki_184, ki_189, ki_441, ix1, nI_add, pk_mul]; with_reducible rfl) | (simp (disch := omega) only [upd_n, ki_0, ki_1, ki_2, ki_3, ki_4, ki_5, ki_6, ki_7, ki_8, ki_9, ki_10, ki_11, ki_12, ki_17, ki_20, ki_21, ki_22, ki_42, ki_50, ki_58, ki_66, ki_74, ki_140, ki_174, ki_179, ki_184, ki_189, ki_441, ix1, ix2, nI_add, pk_mul]; with_reducible rfl) | rfl); (case hlt => first | decide | omega); (case hn => decide))
      iterate 5 refine mT_s rfl rfl ?_
      rw [show (sE (a_od s l a b) (n_few le) (n_mor mo) st_ends A gn k) + A k = (sE (a_od s l a b) (n_few le) (n_mor mo) st_ends A gn (k + 1)) from by
        show _ = sL _ (k + 1)
        rw [sL_S _ k, show dk (fun w m o => iL (eG (a_od s l a b) (n_few le) (n_mor mo) st_ends rw_no 0 gn w m o)) k = iL 1 from by
          show iL ((st_ends 0 (k / 441) (k / 21 % 21) (k % 21)).getD 0) = iL 1
          unfold st_ends
          rw [if_pos c66]
          rfl, iL_1, Int64.mul_one]
        rfl, nI_1]
      exact ih (k + 1) (by omega)
theorem e_ends (d : Nat) (h : mH) (s i : Nat → Int32) (o t : Nat) (pd bw : Int64) (Q : Option Value → mH → Prop) (hM : h 76 = .inr (10, mObj i o t pd bw)) (h77 : h 77 = .inl (0, 889, .inl s)) (hN : 87 ≤ m_nx h) (hI : s_Inv s) {l : List Tok} {le mo : Nat} (hG : sG s l le mo) (mm : Nat → Nat) (g : Nat) (hmm : ∀ j, j < 5 → mm j ≤ 20) (hs : s_at s mm g = s) (hg : g ≤ 9999) (h80 : ∃ f, h 80 = .inl (0, 5, .inl f)) (h81 : ∃ g, h 81 = .inl (2, 64, .inl g)) (h79 : ∃ f, h 79 = .inl (0, 6, .inl f)) (hot : hOT o t) (hA : ∃ A : Nat → Int64, h o = .inl (1, 5733, .inr (.inl A))) (hC : ∃ C : Nat → Int64, h t = .inl (1, 5733, .inr (.inl C)))  (x y n part : Int32) (kN : ¬ (okP s x ∧ okP s y ∧ x ≠ y ∧ (0 ≤ n ∧ n ≤ 12) ∧ (0 ≤ part ∧ part ≤ 1)) → Q (some (.long (-9223372036854775808))) h) (k : ∀ a b : Nat, a < 5 → b < 5 → x = nI a → y = nI b → okP s x → okP s y → a ≠ b → ∀ m : Nat, m ≤ 12 → n = nI m → (0 ≤ part ∧ part ≤ 1) → ∀ h2 o2 t2 pd2, rX [76, 77, 79, 80, 81, 82, 83] h h2 → hOT o2 t2 → h2 76 = .inr (10, mObj i o2 t2 pd2 bw) → h2 77 = .inl (0, 889, .inl s) → (∃ f, h2 79 = .inl (0, 6, .inl f)) → (∃ A : Nat → Int64, h2 o2 = .inl (1, 5733, .inr (.inl A))) → (∃ C : Nat → Int64, h2 t2 = .inl (1, 5733, .inr (.inl C))) → Q (some (.long (v_low (eG (a_od s l a b) (n_few le) (n_mor mo) st_ends rw_no m g 0 (mm a) (mm b)) (10 ^ m) part))) h2) : mT0 (d + 6) z_X10_ends 0 (m_init z_X10_ends [.ref 76, .int x, .int y, .int n, .int part]) [] h Q := by
  iterate 3 refine mT_s rfl rfl ?_
  (apply mT_inv; (case hc => rfl); (case hd => rfl); (case hb => first | rfl | assumption); (case hg => rfl))
  refine e_areTwo _ h s i o t pd bw _ hM h77 hN hI x y (fun two => ?_) (fun j2 j10 hj2 hj10 e2 e10 v2 v10 hne => ?_)
  · skip
    iterate 2 refine mT_s rfl rfl ?_
    refine mT_ret rfl rfl ?_
    exact kN (fun z => two ⟨z.1, z.2.1, z.2.2.1⟩)
  · iterate 4 refine mT_s rfl rfl ?_
    refine mT_c rfl rfl ?_
    refine e_in _ _ _ _ _ _ (fun a13 b13 => ?_) (fun a13 => ?_)
    · iterate 4 refine mT_s rfl rfl ?_
      refine mT_c rfl rfl ?_
      refine e_in _ _ _ _ _ _ (fun a23 b23 => ?_) (fun a23 => ?_)
      · iterate 6 refine mT_s rfl rfl ?_
        (apply mT_inv; (case hc => rfl); (case hd => rfl); (case hb => first | rfl | assumption); (case hg => rfl))
        obtain ⟨m, hm, hnn⟩ : ∃ m : Nat, m ≤ 12 ∧ n = nI m := i_nat (n := 12) a13 b13 (by omega)
        rw [e2, e10, hnn]
        refine e_gamesOn s i bw _ mm g hg hG j2 j10 hj2 hj10 hne 1 true (fun _ => by decide) (fun _ => rfl) m (by omega) _ h o t pd hot hM (by rw [hs]; exact h77) hmm h79 hN h80 h81 hA hC (fun h5 o5 t5 A5 A25 pd5 hr5 hot5 hM5 h775 h795 hA5 hC5 hJ5 => ?_)
        rw [hs] at h775
        have b0 : 10 ^ m ≤ 10 ^ 12 := Nat.pow_le_pow_right (by decide) (by omega)
        iterate 4 refine mT_s rfl rfl ?_
        have z9 := e_ends_L (d + 6) h5 i o5 t5 pd5 bw Q hM5 A5 hA5 s l le mo j2 j10 (g + m) (nI j2) (nI j10) (nI m) part ?_ 5733 0 (by omega)
        · exact z9
        rw [gJ_ends hJ5]
        iterate 2 refine mT_s rfl rfl ?_
        refine mT_c rfl rfl ?_
        refine e_tens _ _ _ m (by omega) ?_
        refine mT_s rfl rfl ?_
        refine mT_c rfl rfl ?_
        refine e_lowest _ _ _ (eG (a_od s l j2 j10) (n_few le) (n_mor mo) st_ends rw_no m g 0 (mm j2) (mm j10)) (b_ends (hmm j2 hj2) (hmm j10 hj10) (by omega)) _ part (Nat.pow_pos (by decide)) (by omega) ?_
        refine mT_ret rfl rfl ?_
        exact k j2 j10 hj2 hj10 e2 e10 v2 v10 hne m hm hnn ⟨a23, b23⟩ h5 o5 t5 pd5 hr5 hot5 hM5 h775 h795 ⟨_, hA5⟩ hC5
      · iterate 2 refine mT_s rfl rfl ?_
        refine mT_ret rfl rfl ?_
        exact kN (fun z => a23 z.2.2.2.2)
    · iterate 2 refine mT_s rfl rfl ?_
      refine mT_ret rfl rfl ?_
      exact kN (fun z => a13 z.2.2.2.1)

theorem e_stakes (d : Nat) (h : mH) (s i : Nat → Int32) (o t : Nat) (pd bw : Int64) (Q : Option Value → mH → Prop) (hM : h 76 = .inr (10, mObj i o t pd bw)) (h77 : h 77 = .inl (0, 889, .inl s)) (hN : 87 ≤ m_nx h) (hI : s_Inv s) {l : List Tok} {le mo : Nat} (hG : sG s l le mo) (mm : Nat → Nat) (g : Nat) (hmm : ∀ j, j < 5 → mm j ≤ 20) (hs : s_at s mm g = s) (hg : g ≤ 9999) (h80 : ∃ f, h 80 = .inl (0, 5, .inl f)) (h81 : ∃ g, h 81 = .inl (2, 64, .inl g)) (h79 : ∃ f, h 79 = .inl (0, 6, .inl f)) (hot : hOT o t) (hA : ∃ A : Nat → Int64, h o = .inl (1, 5733, .inr (.inl A))) (hC : ∃ C : Nat → Int64, h t = .inl (1, 5733, .inr (.inl C)))  (x y n part : Int32) (kN : ¬ (okP s x ∧ okP s y ∧ x ≠ y ∧ (0 ≤ n ∧ n ≤ 10) ∧ (0 ≤ part ∧ part ≤ 1)) → Q (some (.long (-9223372036854775808))) h) (k : ∀ a b : Nat, a < 5 → b < 5 → x = nI a → y = nI b → okP s x → okP s y → a ≠ b → ∀ m : Nat, m ≤ 10 → n = nI m → (0 ≤ part ∧ part ≤ 1) → ∀ h2 o2 t2 pd2, rX [76, 77, 79, 80, 81, 82, 83] h h2 → hOT o2 t2 → h2 76 = .inr (10, mObj i o2 t2 pd2 bw) → h2 77 = .inl (0, 889, .inl s) → (∃ f, h2 79 = .inl (0, 6, .inl f)) → (∃ A : Nat → Int64, h2 o2 = .inl (1, 5733, .inr (.inl A))) → (∃ C : Nat → Int64, h2 t2 = .inl (1, 5733, .inr (.inl C))) → Q (some (.long (v_low (eG (a_od s l a b) (n_few le) (n_mor mo) st_no (rw_st (a_od s l a b)) m g 0 (mm a) (mm b)) (10 ^ m) part))) h2) : mT0 (d + 6) z_X10_stakes 0 (m_init z_X10_stakes [.ref 76, .int x, .int y, .int n, .int part]) [] h Q := by
  iterate 3 refine mT_s rfl rfl ?_
  (apply mT_inv; (case hc => rfl); (case hd => rfl); (case hb => first | rfl | assumption); (case hg => rfl))
  refine e_areTwo _ h s i o t pd bw _ hM h77 hN hI x y (fun two => ?_) (fun j2 j10 hj2 hj10 e2 e10 v2 v10 hne => ?_)
  · skip
    iterate 2 refine mT_s rfl rfl ?_
    refine mT_ret rfl rfl ?_
    exact kN (fun z => two ⟨z.1, z.2.1, z.2.2.1⟩)
  · iterate 4 refine mT_s rfl rfl ?_
    refine mT_c rfl rfl ?_
    refine e_in _ _ _ _ _ _ (fun a13 b13 => ?_) (fun a13 => ?_)
    · iterate 4 refine mT_s rfl rfl ?_
      refine mT_c rfl rfl ?_
      refine e_in _ _ _ _ _ _ (fun a23 b23 => ?_) (fun a23 => ?_)
      · iterate 6 refine mT_s rfl rfl ?_
        (apply mT_inv; (case hc => rfl); (case hd => rfl); (case hb => first | rfl | assumption); (case hg => rfl))
        obtain ⟨m, hm, hnn⟩ : ∃ m : Nat, m ≤ 10 ∧ n = nI m := i_nat (n := 10) a13 b13 (by omega)
        rw [e2, e10, hnn]
        refine e_gamesOn s i bw _ mm g hg hG j2 j10 hj2 hj10 hne 0 false (fun z => absurd z (by decide)) (fun z => absurd rfl z) m (by omega) _ h o t pd hot hM (by rw [hs]; exact h77) hmm h79 hN h80 h81 hA hC (fun h5 o5 t5 A5 A25 pd5 hr5 hot5 hM5 h775 h795 hA5 hC5 hJ5 => ?_)
        rw [hs] at h775
        have b0 : 10 ^ m ≤ 10 ^ 12 := Nat.pow_le_pow_right (by decide) (by omega)
        refine mT_s rfl rfl ?_
        (apply mT_getf; (case hc => rfl); (case ha => first | rfl | assumption); (case hf => first | rfl | assumption))
        refine mT_s rfl rfl ?_
        refine mT_c rfl rfl ?_
        refine e_tens _ _ _ m (by omega) ?_
        refine mT_s rfl rfl ?_
        refine mT_c rfl rfl ?_
        rw [gJ_stakes hJ5]
        refine e_lowest _ _ _ (eG (a_od s l j2 j10) (n_few le) (n_mor mo) st_no (rw_st (a_od s l j2 j10)) m g 0 (mm j2) (mm j10)) (b_stakes (hmm j2 hj2) (hmm j10 hj10) (by omega)) _ part (Nat.pow_pos (by decide)) (by omega) ?_
        refine mT_ret rfl rfl ?_
        exact k j2 j10 hj2 hj10 e2 e10 v2 v10 hne m hm hnn ⟨a23, b23⟩ h5 o5 t5 pd5 hr5 hot5 hM5 h775 h795 ⟨_, hA5⟩ hC5
      · iterate 2 refine mT_s rfl rfl ?_
        refine mT_ret rfl rfl ?_
        exact kN (fun z => a23 z.2.2.2.2)
    · iterate 2 refine mT_s rfl rfl ?_
      refine mT_ret rfl rfl ?_
      exact kN (fun z => a13 z.2.2.2.1)
