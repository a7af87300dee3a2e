/-! By program (wip/whole/book*.py) and hand. -/
def hOT (o t : Nat) : Prop := (o = 82 ∧ t = 83) ∨ (o = 83 ∧ t = 82)
theorem e_games_L (s i : Nat → Int32) (bw : Int64) (Q : Option Value → mH → Prop) (mm : Nat → Nat) (g : Nat) (hg : g ≤ 9999) {l : List Tok} {le mo : Nat} (hG : sG s l le mo) (p q : Nat) (hp : p < 5) (hq : q < 5) (hpq : p ≠ q) (sf : Int32) (stop : Bool) (hsf : stop = true → ¬ sf = 0) (hstop : ¬ sf = 0 → stop = true) (n : Nat) (hn : n ≤ 12) (d : Nat)  (f2 : Nat → Int32) (hf2 : f2 0 = nI g) : ∀ (r k : Nat) (h : mH) (o t : Nat) (A : Nat → Int64) (A2 : Nat → Nat) (pd : Int64), k + r = n → hOT o t → h 76 = .inr (10, mObj i o t pd bw) → (∃ mm0 g0, h 77 = .inl (0, 889, .inl (s_at s mm0 g0))) → h 79 = .inl (0, 6, .inl f2) → 87 ≤ m_nx h → (∃ f, h 80 = .inl (0, 5, .inl f)) → (∃ g, h 81 = .inl (2, 64, .inl g)) → h o = .inl (1, 5733, .inr (.inl A)) → (∃ C : Nat → Int64, h t = .inl (1, 5733, .inr (.inl C))) → gJ (a_od s l p q) (n_few le) (n_mor mo) stop g (mm p) (mm q) n k A A2 pd → (∀ h2 o2 t2 A A2 pd, rX [76, 77, 80, 81, 82, 83] h h2 → hOT o2 t2 → h2 76 = .inr (10, mObj i o2 t2 pd bw) → (∃ mm0 g0, h2 77 = .inl (0, 889, .inl (s_at s mm0 g0))) → h2 o2 = .inl (1, 5733, .inr (.inl A)) → (∃ C : Nat → Int64, h2 t2 = .inl (1, 5733, .inr (.inl C))) → gJ (a_od s l p q) (n_few le) (n_mor mo) stop g (mm p) (mm q) n n A A2 pd → mT0 (d + 5) z_X10_gamesOn 48 [some (.ref 76), some (.int (nI p)), some (.int (nI q)), some (.int (nI n)), some (.int sf), some (.int (nI n))] [] h2 Q) → mT0 (d + 5) z_X10_gamesOn 13 [some (.ref 76), some (.int (nI p)), some (.int (nI q)), some (.int (nI n)), some (.int sf), some (.int (nI k))] [] h Q := by
  intro r
  induction r with
  | zero =>
    intro k h o t A A2 pd hk hot hM ⟨mm0, g0, h77⟩ h79 hN h80 h81 hA hC hJ K
    iterate 2 refine mT_s rfl rfl ?_
    refine mT_icmp_ge rfl (fun _ => ?_) (fun c => absurd (nI_le (a := n) (b := k) (by omega) (by omega)) c)
    obtain rfl : k = n := by omega
    exact K h o t A A2 pd (rX.rfl' h80 h81) hot hM ⟨_, _, h77⟩ hA hC hJ
  | succ r ih =>
    intro k h o t A A2 pd hk hot hM ⟨mm0, g0, h77⟩ h79 hN h80 h81 hA hC hJ K
    rcases hot with ⟨rfl, rfl⟩ | ⟨rfl, rfl⟩
    · skip
      iterate 2 refine mT_s rfl rfl ?_
      refine mT_icmp_ge rfl (fun c => absurd c (nI_ge (a := k) (b := n) (by omega) (by omega))) (fun _ => ?_)
      refine mT_s rfl rfl ?_
      (apply mT_getf; (case hc => rfl); (case ha => first | rfl | assumption); (case hf => first | rfl | assumption))
      iterate 2 refine mT_s rfl rfl ?_
      (apply mT_getf; (case hc => rfl); (case ha => first | rfl | assumption); (case hf => first | rfl | assumption))
      refine mT_s rfl rfl ?_
      (apply mT_ialdK; (case hc => rfl); (case ha => first | rfl | assumption); (case hk => first | (simp only [ki_0, ki_1, ki_2, ki_3, ki_4, ki_5, ki_6, ki_7, ki_8, ki_9, ki_10, ki_11, ki_12, ki_17, ki_20, ki_21, ki_22, ki_42, ki_50, ki_58, ki_66, ki_74, ki_140, ki_174, ki_179, ki_184, ki_189, ki_441, nI_add, pk_mul]; with_reducible rfl) | (simp only [ki_0, ki_1, ki_2, ki_3, ki_4, ki_5, ki_6, ki_7, ki_8, ki_9, ki_10, ki_11, ki_12, ki_17, ki_20, ki_21, ki_22, ki_42, ki_50, ki_58, ki_66, ki_74, ki_140, ki_174, ki_179, ki_184, ki_189, ki_441, ix1, nI_add, pk_mul]; with_reducible rfl) | (simp only [ki_0, ki_1, ki_2, ki_3, ki_4, ki_5, ki_6, ki_7, ki_8, ki_9, ki_10, ki_11, ki_12, ki_17, ki_20, ki_21, ki_22, ki_42, ki_50, ki_58, ki_66, ki_74, ki_140, ki_174, ki_179, ki_184, ki_189, ki_441, ix1, ix2, nI_add, pk_mul]; with_reducible rfl) | (simp only [ki_0, ki_1, ki_2, ki_3, ki_4, ki_5, ki_6, ki_7, ki_8, ki_9, ki_10, ki_11, ki_12, ki_17, ki_20, ki_21, ki_22, ki_42, ki_50, ki_58, ki_66, ki_74, ki_140, ki_174, ki_179, ki_184, ki_189, ki_441, ix1, ix2, ix3, nI_add, pk_mul]; with_reducible rfl) | (simp (disch := omega) only [upd_n, ki_0, ki_1, ki_2, ki_3, ki_4, ki_5, ki_6, ki_7, ki_8, ki_9, ki_10, ki_11, ki_12, ki_17, ki_20, ki_21, ki_22, ki_42, ki_50, ki_58, ki_66, ki_74, ki_140, ki_174, ki_179, ki_184, ki_189, ki_441, ix1, nI_add, pk_mul]; with_reducible rfl) | (simp (disch := omega) only [upd_n, ki_0, ki_1, ki_2, ki_3, ki_4, ki_5, ki_6, ki_7, ki_8, ki_9, ki_10, ki_11, ki_12, ki_17, ki_20, ki_21, ki_22, ki_42, ki_50, ki_58, ki_66, ki_74, ki_140, ki_174, ki_179, ki_184, ki_189, ki_441, ix1, ix2, nI_add, pk_mul]; with_reducible rfl) | rfl); (case hlt => first | decide | omega); (case hn => decide))
      iterate 2 refine mT_s rfl rfl ?_
      (apply mT_iastK; (case hc => rfl); (case ha => first | rfl | assumption); (case hk => first | (simp only [ki_0, ki_1, ki_2, ki_3, ki_4, ki_5, ki_6, ki_7, ki_8, ki_9, ki_10, ki_11, ki_12, ki_17, ki_20, ki_21, ki_22, ki_42, ki_50, ki_58, ki_66, ki_74, ki_140, ki_174, ki_179, ki_184, ki_189, ki_441, nI_add, pk_mul]; with_reducible rfl) | (simp only [ki_0, ki_1, ki_2, ki_3, ki_4, ki_5, ki_6, ki_7, ki_8, ki_9, ki_10, ki_11, ki_12, ki_17, ki_20, ki_21, ki_22, ki_42, ki_50, ki_58, ki_66, ki_74, ki_140, ki_174, ki_179, ki_184, ki_189, ki_441, ix1, nI_add, pk_mul]; with_reducible rfl) | (simp only [ki_0, ki_1, ki_2, ki_3, ki_4, ki_5, ki_6, ki_7, ki_8, ki_9, ki_10, ki_11, ki_12, ki_17, ki_20, ki_21, ki_22, ki_42, ki_50, ki_58, ki_66, ki_74, ki_140, ki_174, ki_179, ki_184, ki_189, ki_441, ix1, ix2, nI_add, pk_mul]; with_reducible rfl) | (simp only [ki_0, ki_1, ki_2, ki_3, ki_4, ki_5, ki_6, ki_7, ki_8, ki_9, ki_10, ki_11, ki_12, ki_17, ki_20, ki_21, ki_22, ki_42, ki_50, ki_58, ki_66, ki_74, ki_140, ki_174, ki_179, ki_184, ki_189, ki_441, ix1, ix2, ix3, nI_add, pk_mul]; with_reducible rfl) | (simp (disch := omega) only [upd_n, ki_0, ki_1, ki_2, ki_3, ki_4, ki_5, ki_6, ki_7, ki_8, ki_9, ki_10, ki_11, ki_12, ki_17, ki_20, ki_21, ki_22, ki_42, ki_50, ki_58, ki_66, ki_74, ki_140, ki_174, ki_179, ki_184, ki_189, ki_441, ix1, nI_add, pk_mul]; with_reducible rfl) | (simp (disch := omega) only [upd_n, ki_0, ki_1, ki_2, ki_3, ki_4, ki_5, ki_6, ki_7, ki_8, ki_9, ki_10, ki_11, ki_12, ki_17, ki_20, ki_21, ki_22, ki_42, ki_50, ki_58, ki_66, ki_74, ki_140, ki_174, ki_179, ki_184, ki_189, ki_441, ix1, ix2, nI_add, pk_mul]; with_reducible rfl) | rfl); (case hlt => first | decide | omega); (case hn => decide); (case hN => assumption); (case hg => rfl))
      iterate 4 refine mT_s rfl rfl ?_
      (apply mT_inv; (case hc => rfl); (case hd => rfl); (case hb => first | rfl | assumption); (case hg => rfl))
      rw [hf2, nI_add, s_at_ug]
      refine e_gameOn82 _ (m_up h 77 _) s i pd bw _ hM hN p q hp hq hpq (g + k) (by omega) ⟨_, rfl⟩ hG h80 h81 sf stop hsf hstop A hA hC A2 k (by omega) hJ.1 (Nat.le_trans hJ.2.1 (Nat.pow_le_pow_right (by decide) (by omega))) hJ.2.2.1 (fun h3 C2 pd2 hr3 hM3 h773 hA3 hC3 hI3 => ?_)
      obtain ⟨mm3, h773⟩ := h773
      have hr3s := hr3
      have hN3 : 87 ≤ m_nx h3 := by rw [hr3.nx (by decide)]; exact hN
      iterate 2 refine mT_s rfl rfl ?_
      rw [nI_1]
      obtain ⟨C3, hJ3⟩ := gJ_S hJ (by omega) hI3
      exact ih (k + 1) h3 83 82 C2 C3 pd2 (by omega) (Or.inr ⟨rfl, rfl⟩) hM3 ⟨_, _, h773⟩ ((hr3.1 79 (by decide)).trans h79) hN3 hr3.2.1 hr3.2.2 hC3 ⟨_, hA3⟩ hJ3 (fun h4 o4 t4 A4 A24 pd4 hr4 => K h4 o4 t4 A4 A24 pd4 (rX.tr ((rX.rfl' h80 h81).up (k := 77) (by decide) (by decide) (by decide)) (rX.tr hr3s hr4)))
    · skip
      iterate 2 refine mT_s rfl rfl ?_
      refine mT_icmp_ge rfl (fun c => absurd c (nI_ge (a := k) (b := n) (by omega) (by omega))) (fun _ => ?_)
      refine mT_s rfl rfl ?_
      (apply mT_getf; (case hc => rfl); (case ha => first | rfl | assumption); (case hf => first | rfl | assumption))
      iterate 2 refine mT_s rfl rfl ?_
      (apply mT_getf; (case hc => rfl); (case ha => first | rfl | assumption); (case hf => first | rfl | assumption))
      refine mT_s rfl rfl ?_
      (apply mT_ialdK; (case hc => rfl); (case ha => first | rfl | assumption); (case hk => first | (simp only [ki_0, ki_1, ki_2, ki_3, ki_4, ki_5, ki_6, ki_7, ki_8, ki_9, ki_10, ki_11, ki_12, ki_17, ki_20, ki_21, ki_22, ki_42, ki_50, ki_58, ki_66, ki_74, ki_140, ki_174, ki_179, ki_184, ki_189, ki_441, nI_add, pk_mul]; with_reducible rfl) | (simp only [ki_0, ki_1, ki_2, ki_3, ki_4, ki_5, ki_6, ki_7, ki_8, ki_9, ki_10, ki_11, ki_12, ki_17, ki_20, ki_21, ki_22, ki_42, ki_50, ki_58, ki_66, ki_74, ki_140, ki_174, ki_179, ki_184, ki_189, ki_441, ix1, nI_add, pk_mul]; with_reducible rfl) | (simp only [ki_0, ki_1, ki_2, ki_3, ki_4, ki_5, ki_6, ki_7, ki_8, ki_9, ki_10, ki_11, ki_12, ki_17, ki_20, ki_21, ki_22, ki_42, ki_50, ki_58, ki_66, ki_74, ki_140, ki_174, ki_179, ki_184, ki_189, ki_441, ix1, ix2, nI_add, pk_mul]; with_reducible rfl) | (simp only [ki_0, ki_1, ki_2, ki_3, ki_4, ki_5, ki_6, ki_7, ki_8, ki_9, ki_10, ki_11, ki_12, ki_17, ki_20, ki_21, ki_22, ki_42, ki_50, ki_58, ki_66, ki_74, ki_140, ki_174, ki_179, ki_184, ki_189, ki_441, ix1, ix2, ix3, nI_add, pk_mul]; with_reducible rfl) | (simp (disch := omega) only [upd_n, ki_0, ki_1, ki_2, ki_3, ki_4, ki_5, ki_6, ki_7, ki_8, ki_9, ki_10, ki_11, ki_12, ki_17, ki_20, ki_21, ki_22, ki_42, ki_50, ki_58, ki_66, ki_74, ki_140, ki_174, ki_179, ki_184, ki_189, ki_441, ix1, nI_add, pk_mul]; with_reducible rfl) | (simp (disch := omega) only [upd_n, ki_0, ki_1, ki_2, ki_3, ki_4, ki_5, ki_6, ki_7, ki_8, ki_9, ki_10, ki_11, ki_12, ki_17, ki_20, ki_21, ki_22, ki_42, ki_50, ki_58, ki_66, ki_74, ki_140, ki_174, ki_179, ki_184, ki_189, ki_441, ix1, ix2, nI_add, pk_mul]; with_reducible rfl) | rfl); (case hlt => first | decide | omega); (case hn => decide))
      iterate 2 refine mT_s rfl rfl ?_
      (apply mT_iastK; (case hc => rfl); (case ha => first | rfl | assumption); (case hk => first | (simp only [ki_0, ki_1, ki_2, ki_3, ki_4, ki_5, ki_6, ki_7, ki_8, ki_9, ki_10, ki_11, ki_12, ki_17, ki_20, ki_21, ki_22, ki_42, ki_50, ki_58, ki_66, ki_74, ki_140, ki_174, ki_179, ki_184, ki_189, ki_441, nI_add, pk_mul]; with_reducible rfl) | (simp only [ki_0, ki_1, ki_2, ki_3, ki_4, ki_5, ki_6, ki_7, ki_8, ki_9, ki_10, ki_11, ki_12, ki_17, ki_20, ki_21, ki_22, ki_42, ki_50, ki_58, ki_66, ki_74, ki_140, ki_174, ki_179, ki_184, ki_189, ki_441, ix1, nI_add, pk_mul]; with_reducible rfl) | (simp only [ki_0, ki_1, ki_2, ki_3, ki_4, ki_5, ki_6, ki_7, ki_8, ki_9, ki_10, ki_11, ki_12, ki_17, ki_20, ki_21, ki_22, ki_42, ki_50, ki_58, ki_66, ki_74, ki_140, ki_174, ki_179, ki_184, ki_189, ki_441, ix1, ix2, nI_add, pk_mul]; with_reducible rfl) | (simp only [ki_0, ki_1, ki_2, ki_3, ki_4, ki_5, ki_6, ki_7, ki_8, ki_9, ki_10, ki_11, ki_12, ki_17, ki_20, ki_21, ki_22, ki_42, ki_50, ki_58, ki_66, ki_74, ki_140, ki_174, ki_179, ki_184, ki_189, ki_441, ix1, ix2, ix3, nI_add, pk_mul]; with_reducible rfl) | (simp (disch := omega) only [upd_n, ki_0, ki_1, ki_2, ki_3, ki_4, ki_5, ki_6, ki_7, ki_8, ki_9, ki_10, ki_11, ki_12, ki_17, ki_20, ki_21, ki_22, ki_42, ki_50, ki_58, ki_66, ki_74, ki_140, ki_174, ki_179, ki_184, ki_189, ki_441, ix1, nI_add, pk_mul]; with_reducible rfl) | (simp (disch := omega) only [upd_n, ki_0, ki_1, ki_2, ki_3, ki_4, ki_5, ki_6, ki_7, ki_8, ki_9, ki_10, ki_11, ki_12, ki_17, ki_20, ki_21, ki_22, ki_42, ki_50, ki_58, ki_66, ki_74, ki_140, ki_174, ki_179, ki_184, ki_189, ki_441, ix1, ix2, nI_add, pk_mul]; with_reducible rfl) | rfl); (case hlt => first | decide | omega); (case hn => decide); (case hN => assumption); (case hg => rfl))
      iterate 4 refine mT_s rfl rfl ?_
      (apply mT_inv; (case hc => rfl); (case hd => rfl); (case hb => first | rfl | assumption); (case hg => rfl))
      rw [hf2, nI_add, s_at_ug]
      refine e_gameOn83 _ (m_up h 77 _) s i pd bw _ hM hN p q hp hq hpq (g + k) (by omega) ⟨_, rfl⟩ hG h80 h81 sf stop hsf hstop A hA hC A2 k (by omega) hJ.1 (Nat.le_trans hJ.2.1 (Nat.pow_le_pow_right (by decide) (by omega))) hJ.2.2.1 (fun h3 C2 pd2 hr3 hM3 h773 hA3 hC3 hI3 => ?_)
      obtain ⟨mm3, h773⟩ := h773
      have hr3s := hr3
      have hN3 : 87 ≤ m_nx h3 := by rw [hr3.nx (by decide)]; exact hN
      iterate 2 refine mT_s rfl rfl ?_
      rw [nI_1]
      obtain ⟨C3, hJ3⟩ := gJ_S hJ (by omega) hI3
      exact ih (k + 1) h3 82 83 C2 C3 pd2 (by omega) (Or.inl ⟨rfl, rfl⟩) hM3 ⟨_, _, h773⟩ ((hr3.1 79 (by decide)).trans h79) hN3 hr3.2.1 hr3.2.2 hC3 ⟨_, hA3⟩ hJ3 (fun h4 o4 t4 A4 A24 pd4 hr4 => K h4 o4 t4 A4 A24 pd4 (rX.tr ((rX.rfl' h80 h81).up (k := 77) (by decide) (by decide) (by decide)) (rX.tr hr3s hr4)))
theorem e_gamesOn (s i : Nat → Int32) (bw : Int64) (Q : Option Value → mH → Prop) (mm : Nat → Nat) (g : Nat) (hg : g ≤ 9999) {l : List Tok} {le mo : Nat} (hG : sG s l le mo) (p q : Nat) (hp : p < 5) (hq : q < 5) (hpq : p ≠ q) (sf : Int32) (stop : Bool) (hsf : stop = true → ¬ sf = 0) (hstop : ¬ sf = 0 → stop = true) (n : Nat) (hn : n ≤ 12) (d : Nat)  (h : mH) (o t : Nat) (pd : Int64) (hot : hOT o t) (hM : h 76 = .inr (10, mObj i o t pd bw)) (h77 : h 77 = .inl (0, 889, .inl (s_at s mm g))) (hmm : ∀ j, j < 5 → mm j ≤ 20) (h79 : ∃ f, h 79 = .inl (0, 6, .inl f)) (hN : 87 ≤ m_nx h) (h80 : ∃ f, h 80 = .inl (0, 5, .inl f)) (h81 : ∃ g, h 81 = .inl (2, 64, .inl g)) (hA : ∃ A : Nat → Int64, h o = .inl (1, 5733, .inr (.inl A))) (hC : ∃ C : Nat → Int64, h t = .inl (1, 5733, .inr (.inl C))) (K : ∀ h2 o2 t2 A A2 pd, rX [76, 77, 79, 80, 81, 82, 83] h h2 → hOT o2 t2 → h2 76 = .inr (10, mObj i o2 t2 pd bw) → h2 77 = .inl (0, 889, .inl (s_at s mm g)) → (∃ f, h2 79 = .inl (0, 6, .inl f)) → h2 o2 = .inl (1, 5733, .inr (.inl A)) → (∃ C : Nat → Int64, h2 t2 = .inl (1, 5733, .inr (.inl C))) → gJ (a_od s l p q) (n_few le) (n_mor mo) stop g (mm p) (mm q) n n A A2 pd → Q none h2) : mT0 (d + 5) z_X10_gamesOn 0 (m_init z_X10_gamesOn [.ref 76, .int (nI p), .int (nI q), .int (nI n), .int sf]) [] h Q := by
  obtain ⟨f0, h79⟩ := h79
  obtain ⟨A0, hA0⟩ := hA
  obtain ⟨C0, hC0⟩ := hC
  rcases hot with ⟨rfl, rfl⟩ | ⟨rfl, rfl⟩
  · skip
    refine mT_s rfl rfl ?_
    (apply mT_inv; (case hc => rfl); (case hd => rfl); (case hb => first | rfl | assumption); (case hg => rfl))
    refine e_keeps _ h (s_at s mm g) i f0 82 83 pd bw _ hM h77 h79 hN (fun f2 hf2 => ?_)
    iterate 3 refine mT_s rfl rfl ?_
    (apply mT_inv; (case hc => rfl); (case hd => rfl); (case hb => first | rfl | assumption); (case hg => rfl))
    refine e_beginsTwo82 _ (m_up h 79 _) s i pd bw _ hM hN p q hp hq mm g h77 (hmm p hp) (hmm q hq) A0 hA0 (fun A hA => ?_)
    iterate 2 refine mT_s rfl rfl ?_
    refine e_games_L s i bw Q mm g hg hG p q hp hq hpq sf stop hsf hstop n hn d f2 (hf2 0 (by decide)) n 0 (m_up (m_up (m_up h 79 _) 82 _) 76 _) 82 83 A _ 0 (by omega) (Or.inl ⟨rfl, rfl⟩) rfl ⟨_, _, h77⟩ rfl hN h80 h81 rfl ⟨C0, hC0⟩ (gJ_0 (hmm p hp) (hmm q hq) hA) (fun h3 o3 t3 A3 A23 pd3 hr3 hot3 hM3 h773 hA3 hC3 hJ3 => ?_)
    obtain ⟨mm3, g3, h773⟩ := h773
    have hN3 : 87 ≤ m_nx h3 := by rw [hr3.nx (by decide)]; exact hN
    have h793 : h3 79 = .inl (0, 6, .inl f2) := hr3.1 79 (by decide)
    refine mT_s rfl rfl ?_
    (apply mT_inv; (case hc => rfl); (case hd => rfl); (case hb => first | rfl | assumption); (case hg => rfl))
    refine e_goesBack _ h3 _ i f2 o3 t3 pd3 bw _ hM3 h773 h793 hN3 ?_
    rw [back_at hf2]
    refine mT_ret rfl rfl ?_
    refine K _ o3 t3 A3 A23 pd3 ((((((rX.rfl' h80 h81).up (k := 79) (by decide) (by decide) (by decide)).up (k := 82) (by decide) (by decide) (by decide)).up (k := 76) (by decide) (by decide) (by decide)).tr (hr3.mono (by decide))).up (by decide) (by decide) (by decide)) hot3 hM3 rfl ⟨f2, h793⟩ ?_ ?_ hJ3
    · rw [m_up_n (by rcases hot3 with ⟨z, _⟩ | ⟨z, _⟩ <;> rw [z] <;> decide)]; exact hA3
    · rw [m_up_n (by rcases hot3 with ⟨_, z⟩ | ⟨_, z⟩ <;> rw [z] <;> decide)]; exact hC3
  · skip
    refine mT_s rfl rfl ?_
    (apply mT_inv; (case hc => rfl); (case hd => rfl); (case hb => first | rfl | assumption); (case hg => rfl))
    refine e_keeps _ h (s_at s mm g) i f0 83 82 pd bw _ hM h77 h79 hN (fun f2 hf2 => ?_)
    iterate 3 refine mT_s rfl rfl ?_
    (apply mT_inv; (case hc => rfl); (case hd => rfl); (case hb => first | rfl | assumption); (case hg => rfl))
    refine e_beginsTwo83 _ (m_up h 79 _) s i pd bw _ hM hN p q hp hq mm g h77 (hmm p hp) (hmm q hq) A0 hA0 (fun A hA => ?_)
    iterate 2 refine mT_s rfl rfl ?_
    refine e_games_L s i bw Q mm g hg hG p q hp hq hpq sf stop hsf hstop n hn d f2 (hf2 0 (by decide)) n 0 (m_up (m_up (m_up h 79 _) 83 _) 76 _) 83 82 A _ 0 (by omega) (Or.inr ⟨rfl, rfl⟩) rfl ⟨_, _, h77⟩ rfl hN h80 h81 rfl ⟨C0, hC0⟩ (gJ_0 (hmm p hp) (hmm q hq) hA) (fun h3 o3 t3 A3 A23 pd3 hr3 hot3 hM3 h773 hA3 hC3 hJ3 => ?_)
    obtain ⟨mm3, g3, h773⟩ := h773
    have hN3 : 87 ≤ m_nx h3 := by rw [hr3.nx (by decide)]; exact hN
    have h793 : h3 79 = .inl (0, 6, .inl f2) := hr3.1 79 (by decide)
    refine mT_s rfl rfl ?_
    (apply mT_inv; (case hc => rfl); (case hd => rfl); (case hb => first | rfl | assumption); (case hg => rfl))
    refine e_goesBack _ h3 _ i f2 o3 t3 pd3 bw _ hM3 h773 h793 hN3 ?_
    rw [back_at hf2]
    refine mT_ret rfl rfl ?_
    refine K _ o3 t3 A3 A23 pd3 ((((((rX.rfl' h80 h81).up (k := 79) (by decide) (by decide) (by decide)).up (k := 83) (by decide) (by decide) (by decide)).up (k := 76) (by decide) (by decide) (by decide)).tr (hr3.mono (by decide))).up (by decide) (by decide) (by decide)) hot3 hM3 rfl ⟨f2, h793⟩ ?_ ?_ hJ3
    · rw [m_up_n (by rcases hot3 with ⟨z, _⟩ | ⟨z, _⟩ <;> rw [z] <;> decide)]; exact hA3
    · rw [m_up_n (by rcases hot3 with ⟨_, z⟩ | ⟨_, z⟩ <;> rw [z] <;> decide)]; exact hC3