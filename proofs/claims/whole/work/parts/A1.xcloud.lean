/-! By program (wip/whole/book*.py) and hand. -/
theorem x_pairOf (d : Nat) (h : mH) (Q : Option Value → mH → Prop)  (m o : Nat) (hm : 1 ≤ m ∧ m ≤ 20) (ho : 1 ≤ o ∧ o ≤ 20) (K : Q (some (.int (nI (pq m o)))) h) : mT0 d z_X1_pairOf 0 (m_init z_X1_pairOf [.int (nI m), .int (nI o)]) [] h Q := by
  iterate 9 refine mT_s rfl rfl ?_
  refine mT_ret rfl rfl ?_
  have e : (nI m - 1) * 20 + nI o - 1 = nI (pq m o) := by
    rw [show (1 : Int32) = nI 1 from rfl, show (20 : Int32) = nI 20 from rfl, pk_sub hm.1, pk_mul, nI_add, pk_sub (by omega)]
    exact congrArg nI (by unfold pq; omega)
  rw [← e] at K
  exact K

theorem x_cMenOne (d : Nat) (h : mH) (Q : Option Value → mH → Prop)  (p : Nat) (hp : p < 400) (K : Q (some (.int (nI (p / 20 + 1)))) h) : mT0 d z_X1_menOfOne 0 (m_init z_X1_menOfOne [.int (nI p)]) [] h Q := by
  iterate 5 refine mT_s rfl rfl ?_
  refine mT_ret rfl rfl ?_
  have e : nI p / 20 + 1 = nI (p / 20 + 1) := by
    rw [show (1 : Int32) = nI 1 from rfl, show (20 : Int32) = nI 20 from rfl, pk_div (by omega) (by omega) (by omega), nI_add]
  rw [← e] at K
  exact K

theorem x_cMenOther (d : Nat) (h : mH) (Q : Option Value → mH → Prop)  (p : Nat) (hp : p < 400) (K : Q (some (.int (nI (p % 20 + 1)))) h) : mT0 d z_X1_menOfOther 0 (m_init z_X1_menOfOther [.int (nI p)]) [] h Q := by
  iterate 5 refine mT_s rfl rfl ?_
  refine mT_ret rfl rfl ?_
  have e : nI p - nI p / 20 * 20 + 1 = nI (p % 20 + 1) := by
    rw [show (1 : Int32) = nI 1 from rfl, show (20 : Int32) = nI 20 from rfl, pk_rem (by omega) (by omega) (by omega), nI_add]
  rw [← e] at K
  exact K

theorem m_up_sw {h : mH} {a b : Nat} {x y : mE} (hab : a ≠ b) : m_up (m_up h b y) a x = m_up (m_up h a x) b y := by
  funext k
  unfold m_up
  cases h1 : Nat.beq k a <;> cases h2 : Nat.beq k b
  · rfl
  · rfl
  · rfl
  · exact absurd ((Nat.eq_of_beq_eq_true h1).symm.trans (Nat.eq_of_beq_eq_true h2)) hab
theorem x_part_54 (d : Nat) (h : mH) (Q : Option Value → mH → Prop) (sz : Nat) (P lb : Nat → Nat) (W : Nat → Int64) (hN : 87 ≤ m_nx h) (C : cCl h 54 sz P lb W)  (p w : Nat) (hp : p < 400) (hw : w < 13) (K : Q (some (.long (W (p * 13 + w)))) h) : mT0 d z_X1_part 0 (m_init z_X1_part [.ref 54, .int (nI p), .int (nI w)]) [] h Q := by
  obtain ⟨hC, ⟨pf, hpf, ep⟩, ⟨lf, hlf, el⟩, hW, hI⟩ := C
  have hC : h 54 = .inr (1, [.ref 55, .int (nI sz), .ref 56, .ref 57]) := hC
  have hpf : h 55 = _ := hpf
  have hlf : h 56 = _ := hlf
  have hW : h 57 = _ := hW
  refine mT_s rfl rfl ?_
  (apply mT_getf; (case hc => rfl); (case ha => first | rfl | assumption); (case hf => first | rfl | assumption))
  iterate 5 refine mT_s rfl rfl ?_
  (apply mT_laldK; (case hc => rfl); (case ha => first | rfl | assumption); (case hk => first | (simp only [ki_0, ki_1, ki_2, ki_3, ki_4, ki_5, ki_6, ki_7, ki_8, ki_9, ki_10, ki_11, ki_12, ki_17, ki_20, ki_21, ki_22, ki_42, ki_50, ki_58, ki_66, ki_74, ki_140, ki_174, ki_179, ki_184, ki_189, ki_441, ki_13, nI_add, pk_mul]; with_reducible rfl) | (simp only [ki_0, ki_1, ki_2, ki_3, ki_4, ki_5, ki_6, ki_7, ki_8, ki_9, ki_10, ki_11, ki_12, ki_17, ki_20, ki_21, ki_22, ki_42, ki_50, ki_58, ki_66, ki_74, ki_140, ki_174, ki_179, ki_184, ki_189, ki_441, ki_13, ix1, nI_add, pk_mul]; with_reducible rfl) | (simp only [ki_0, ki_1, ki_2, ki_3, ki_4, ki_5, ki_6, ki_7, ki_8, ki_9, ki_10, ki_11, ki_12, ki_17, ki_20, ki_21, ki_22, ki_42, ki_50, ki_58, ki_66, ki_74, ki_140, ki_174, ki_179, ki_184, ki_189, ki_441, ki_13, ix1, ix2, nI_add, pk_mul]; with_reducible rfl) | (simp only [ki_0, ki_1, ki_2, ki_3, ki_4, ki_5, ki_6, ki_7, ki_8, ki_9, ki_10, ki_11, ki_12, ki_17, ki_20, ki_21, ki_22, ki_42, ki_50, ki_58, ki_66, ki_74, ki_140, ki_174, ki_179, ki_184, ki_189, ki_441, ki_13, ix1, ix2, ix3, nI_add, pk_mul]; with_reducible rfl) | (simp (disch := omega) only [upd_n, ki_0, ki_1, ki_2, ki_3, ki_4, ki_5, ki_6, ki_7, ki_8, ki_9, ki_10, ki_11, ki_12, ki_17, ki_20, ki_21, ki_22, ki_42, ki_50, ki_58, ki_66, ki_74, ki_140, ki_174, ki_179, ki_184, ki_189, ki_441, ki_13, ix1, nI_add, pk_mul]; with_reducible rfl) | (simp (disch := omega) only [upd_n, ki_0, ki_1, ki_2, ki_3, ki_4, ki_5, ki_6, ki_7, ki_8, ki_9, ki_10, ki_11, ki_12, ki_17, ki_20, ki_21, ki_22, ki_42, ki_50, ki_58, ki_66, ki_74, ki_140, ki_174, ki_179, ki_184, ki_189, ki_441, ki_13, ix1, ix2, nI_add, pk_mul]; with_reducible rfl) | rfl); (case hlt => first | decide | omega); (case hn => first | decide | omega))
  refine mT_ret rfl rfl ?_
  exact K

theorem x_take_54 (d : Nat) (h : mH) (Q : Option Value → mH → Prop) (sz : Nat) (P lb : Nat → Nat) (W : Nat → Int64) (hN : 87 ≤ m_nx h) (C : cCl h 54 sz P lb W)  (p w : Nat) (hp : p < 400) (hw : w < 13) (hl : lb p = 1) (K : ∀ h2, (∀ a, a ≠ 57 → h2 a = h a) → cCl h2 54 sz P lb (vp_updL W (p * 13 + w) 0) → Q (some (.long (W (p * 13 + w)))) h2) : mT0 d z_X1_take 0 (m_init z_X1_take [.ref 54, .int (nI p), .int (nI w)]) [] h Q := by
  obtain ⟨hC, ⟨pf, hpf, ep⟩, ⟨lf, hlf, el⟩, hW, hI⟩ := C
  have hC : h 54 = .inr (1, [.ref 55, .int (nI sz), .ref 56, .ref 57]) := hC
  have hpf : h 55 = _ := hpf
  have hlf : h 56 = _ := hlf
  have hW : h 57 = _ := hW
  refine mT_s rfl rfl ?_
  (apply mT_getf; (case hc => rfl); (case ha => first | rfl | assumption); (case hf => first | rfl | assumption))
  iterate 5 refine mT_s rfl rfl ?_
  (apply mT_laldK; (case hc => rfl); (case ha => first | rfl | assumption); (case hk => first | (simp only [ki_0, ki_1, ki_2, ki_3, ki_4, ki_5, ki_6, ki_7, ki_8, ki_9, ki_10, ki_11, ki_12, ki_17, ki_20, ki_21, ki_22, ki_42, ki_50, ki_58, ki_66, ki_74, ki_140, ki_174, ki_179, ki_184, ki_189, ki_441, ki_13, nI_add, pk_mul]; with_reducible rfl) | (simp only [ki_0, ki_1, ki_2, ki_3, ki_4, ki_5, ki_6, ki_7, ki_8, ki_9, ki_10, ki_11, ki_12, ki_17, ki_20, ki_21, ki_22, ki_42, ki_50, ki_58, ki_66, ki_74, ki_140, ki_174, ki_179, ki_184, ki_189, ki_441, ki_13, ix1, nI_add, pk_mul]; with_reducible rfl) | (simp only [ki_0, ki_1, ki_2, ki_3, ki_4, ki_5, ki_6, ki_7, ki_8, ki_9, ki_10, ki_11, ki_12, ki_17, ki_20, ki_21, ki_22, ki_42, ki_50, ki_58, ki_66, ki_74, ki_140, ki_174, ki_179, ki_184, ki_189, ki_441, ki_13, ix1, ix2, nI_add, pk_mul]; with_reducible rfl) | (simp only [ki_0, ki_1, ki_2, ki_3, ki_4, ki_5, ki_6, ki_7, ki_8, ki_9, ki_10, ki_11, ki_12, ki_17, ki_20, ki_21, ki_22, ki_42, ki_50, ki_58, ki_66, ki_74, ki_140, ki_174, ki_179, ki_184, ki_189, ki_441, ki_13, ix1, ix2, ix3, nI_add, pk_mul]; with_reducible rfl) | (simp (disch := omega) only [upd_n, ki_0, ki_1, ki_2, ki_3, ki_4, ki_5, ki_6, ki_7, ki_8, ki_9, ki_10, ki_11, ki_12, ki_17, ki_20, ki_21, ki_22, ki_42, ki_50, ki_58, ki_66, ki_74, ki_140, ki_174, ki_179, ki_184, ki_189, ki_441, ki_13, ix1, nI_add, pk_mul]; with_reducible rfl) | (simp (disch := omega) only [upd_n, ki_0, ki_1, ki_2, ki_3, ki_4, ki_5, ki_6, ki_7, ki_8, ki_9, ki_10, ki_11, ki_12, ki_17, ki_20, ki_21, ki_22, ki_42, ki_50, ki_58, ki_66, ki_74, ki_140, ki_174, ki_179, ki_184, ki_189, ki_441, ki_13, ix1, ix2, nI_add, pk_mul]; with_reducible rfl) | rfl); (case hlt => first | decide | omega); (case hn => first | decide | omega))
  iterate 2 refine mT_s rfl rfl ?_
  (apply mT_getf; (case hc => rfl); (case ha => first | rfl | assumption); (case hf => first | rfl | assumption))
  iterate 6 refine mT_s rfl rfl ?_
  (apply mT_lastK; (case hc => rfl); (case ha => first | rfl | assumption); (case hk => first | (simp only [ki_0, ki_1, ki_2, ki_3, ki_4, ki_5, ki_6, ki_7, ki_8, ki_9, ki_10, ki_11, ki_12, ki_17, ki_20, ki_21, ki_22, ki_42, ki_50, ki_58, ki_66, ki_74, ki_140, ki_174, ki_179, ki_184, ki_189, ki_441, ki_13, nI_add, pk_mul]; with_reducible rfl) | (simp only [ki_0, ki_1, ki_2, ki_3, ki_4, ki_5, ki_6, ki_7, ki_8, ki_9, ki_10, ki_11, ki_12, ki_17, ki_20, ki_21, ki_22, ki_42, ki_50, ki_58, ki_66, ki_74, ki_140, ki_174, ki_179, ki_184, ki_189, ki_441, ki_13, ix1, nI_add, pk_mul]; with_reducible rfl) | (simp only [ki_0, ki_1, ki_2, ki_3, ki_4, ki_5, ki_6, ki_7, ki_8, ki_9, ki_10, ki_11, ki_12, ki_17, ki_20, ki_21, ki_22, ki_42, ki_50, ki_58, ki_66, ki_74, ki_140, ki_174, ki_179, ki_184, ki_189, ki_441, ki_13, ix1, ix2, nI_add, pk_mul]; with_reducible rfl) | (simp only [ki_0, ki_1, ki_2, ki_3, ki_4, ki_5, ki_6, ki_7, ki_8, ki_9, ki_10, ki_11, ki_12, ki_17, ki_20, ki_21, ki_22, ki_42, ki_50, ki_58, ki_66, ki_74, ki_140, ki_174, ki_179, ki_184, ki_189, ki_441, ki_13, ix1, ix2, ix3, nI_add, pk_mul]; with_reducible rfl) | (simp (disch := omega) only [upd_n, ki_0, ki_1, ki_2, ki_3, ki_4, ki_5, ki_6, ki_7, ki_8, ki_9, ki_10, ki_11, ki_12, ki_17, ki_20, ki_21, ki_22, ki_42, ki_50, ki_58, ki_66, ki_74, ki_140, ki_174, ki_179, ki_184, ki_189, ki_441, ki_13, ix1, nI_add, pk_mul]; with_reducible rfl) | (simp (disch := omega) only [upd_n, ki_0, ki_1, ki_2, ki_3, ki_4, ki_5, ki_6, ki_7, ki_8, ki_9, ki_10, ki_11, ki_12, ki_17, ki_20, ki_21, ki_22, ki_42, ki_50, ki_58, ki_66, ki_74, ki_140, ki_174, ki_179, ki_184, ki_189, ki_441, ki_13, ix1, ix2, nI_add, pk_mul]; with_reducible rfl) | rfl); (case hlt => first | decide | omega); (case hn => first | decide | omega); (case hN => assumption); (case hg => rfl))
  refine mT_s rfl rfl ?_
  refine mT_ret rfl rfl ?_
  exact K _ (fun a z => m_up_n z) ⟨hC, ⟨pf, hpf, ep⟩, ⟨lf, hlf, el⟩, rfl, hI.set hw hl⟩

theorem x_add_54 (d : Nat) (h : mH) (Q : Option Value → mH → Prop) (sz : Nat) (P lb : Nat → Nat) (W : Nat → Int64) (hN : 87 ≤ m_nx h) (C : cCl h 54 sz P lb W)  (p w : Nat) (hp : p < 400) (hw : w < 13) (x : Int64) (K : ∀ h2 sz2 P2 lb2, (∀ a, a < 54 ∨ 57 < a → h2 a = h a) → cCl h2 54 sz2 P2 lb2 (vp_updL W (p * 13 + w) (W (p * 13 + w) + x)) → Q none h2) : mT0 d z_X1_add 0 (m_init z_X1_add [.ref 54, .int (nI p), .int (nI w), .long x]) [] h Q := by
  obtain ⟨hC, ⟨pf, hpf, ep⟩, ⟨lf, hlf, el⟩, hW, hI⟩ := C
  have hC : h 54 = .inr (1, [.ref 55, .int (nI sz), .ref 56, .ref 57]) := hC
  have hpf : h 55 = _ := hpf
  have hlf : h 56 = _ := hlf
  have hW : h 57 = _ := hW
  refine mT_s rfl rfl ?_
  (apply mT_getf; (case hc => rfl); (case ha => first | rfl | assumption); (case hf => first | rfl | assumption))
  refine mT_s rfl rfl ?_
  (apply mT_baldK; (case hc => rfl); (case ha => first | rfl | assumption); (case hk => first | (simp only [ki_0, ki_1, ki_2, ki_3, ki_4, ki_5, ki_6, ki_7, ki_8, ki_9, ki_10, ki_11, ki_12, ki_17, ki_20, ki_21, ki_22, ki_42, ki_50, ki_58, ki_66, ki_74, ki_140, ki_174, ki_179, ki_184, ki_189, ki_441, ki_13, nI_add, pk_mul]; with_reducible rfl) | (simp only [ki_0, ki_1, ki_2, ki_3, ki_4, ki_5, ki_6, ki_7, ki_8, ki_9, ki_10, ki_11, ki_12, ki_17, ki_20, ki_21, ki_22, ki_42, ki_50, ki_58, ki_66, ki_74, ki_140, ki_174, ki_179, ki_184, ki_189, ki_441, ki_13, ix1, nI_add, pk_mul]; with_reducible rfl) | (simp only [ki_0, ki_1, ki_2, ki_3, ki_4, ki_5, ki_6, ki_7, ki_8, ki_9, ki_10, ki_11, ki_12, ki_17, ki_20, ki_21, ki_22, ki_42, ki_50, ki_58, ki_66, ki_74, ki_140, ki_174, ki_179, ki_184, ki_189, ki_441, ki_13, ix1, ix2, nI_add, pk_mul]; with_reducible rfl) | (simp only [ki_0, ki_1, ki_2, ki_3, ki_4, ki_5, ki_6, ki_7, ki_8, ki_9, ki_10, ki_11, ki_12, ki_17, ki_20, ki_21, ki_22, ki_42, ki_50, ki_58, ki_66, ki_74, ki_140, ki_174, ki_179, ki_184, ki_189, ki_441, ki_13, ix1, ix2, ix3, nI_add, pk_mul]; with_reducible rfl) | (simp (disch := omega) only [upd_n, ki_0, ki_1, ki_2, ki_3, ki_4, ki_5, ki_6, ki_7, ki_8, ki_9, ki_10, ki_11, ki_12, ki_17, ki_20, ki_21, ki_22, ki_42, ki_50, ki_58, ki_66, ki_74, ki_140, ki_174, ki_179, ki_184, ki_189, ki_441, ki_13, ix1, nI_add, pk_mul]; with_reducible rfl) | (simp (disch := omega) only [upd_n, ki_0, ki_1, ki_2, ki_3, ki_4, ki_5, ki_6, ki_7, ki_8, ki_9, ki_10, ki_11, ki_12, ki_17, ki_20, ki_21, ki_22, ki_42, ki_50, ki_58, ki_66, ki_74, ki_140, ki_174, ki_179, ki_184, ki_189, ki_441, ki_13, ix1, ix2, nI_add, pk_mul]; with_reducible rfl) | rfl); (case hlt => first | decide | omega); (case hn => first | decide | omega))
  refine mT_if_ne rfl (fun c6 => ?_) (fun c6 => ?_)
  · rw [el p hp] at c6
    have c6 : lb p = 1 := by
      have h1 := hI.1 p hp
      rcases Nat.eq_zero_or_pos (lb p) with z | z
      · exact absurd (congrArg nI z) c6
      · omega
    refine mT_s rfl rfl ?_
    (apply mT_getf; (case hc => rfl); (case ha => first | rfl | assumption); (case hf => first | rfl | assumption))
    iterate 6 refine mT_s rfl rfl ?_
    (apply mT_laldK; (case hc => rfl); (case ha => first | rfl | assumption); (case hk => first | (simp only [ki_0, ki_1, ki_2, ki_3, ki_4, ki_5, ki_6, ki_7, ki_8, ki_9, ki_10, ki_11, ki_12, ki_17, ki_20, ki_21, ki_22, ki_42, ki_50, ki_58, ki_66, ki_74, ki_140, ki_174, ki_179, ki_184, ki_189, ki_441, ki_13, nI_add, pk_mul]; with_reducible rfl) | (simp only [ki_0, ki_1, ki_2, ki_3, ki_4, ki_5, ki_6, ki_7, ki_8, ki_9, ki_10, ki_11, ki_12, ki_17, ki_20, ki_21, ki_22, ki_42, ki_50, ki_58, ki_66, ki_74, ki_140, ki_174, ki_179, ki_184, ki_189, ki_441, ki_13, ix1, nI_add, pk_mul]; with_reducible rfl) | (simp only [ki_0, ki_1, ki_2, ki_3, ki_4, ki_5, ki_6, ki_7, ki_8, ki_9, ki_10, ki_11, ki_12, ki_17, ki_20, ki_21, ki_22, ki_42, ki_50, ki_58, ki_66, ki_74, ki_140, ki_174, ki_179, ki_184, ki_189, ki_441, ki_13, ix1, ix2, nI_add, pk_mul]; with_reducible rfl) | (simp only [ki_0, ki_1, ki_2, ki_3, ki_4, ki_5, ki_6, ki_7, ki_8, ki_9, ki_10, ki_11, ki_12, ki_17, ki_20, ki_21, ki_22, ki_42, ki_50, ki_58, ki_66, ki_74, ki_140, ki_174, ki_179, ki_184, ki_189, ki_441, ki_13, ix1, ix2, ix3, nI_add, pk_mul]; with_reducible rfl) | (simp (disch := omega) only [upd_n, ki_0, ki_1, ki_2, ki_3, ki_4, ki_5, ki_6, ki_7, ki_8, ki_9, ki_10, ki_11, ki_12, ki_17, ki_20, ki_21, ki_22, ki_42, ki_50, ki_58, ki_66, ki_74, ki_140, ki_174, ki_179, ki_184, ki_189, ki_441, ki_13, ix1, nI_add, pk_mul]; with_reducible rfl) | (simp (disch := omega) only [upd_n, ki_0, ki_1, ki_2, ki_3, ki_4, ki_5, ki_6, ki_7, ki_8, ki_9, ki_10, ki_11, ki_12, ki_17, ki_20, ki_21, ki_22, ki_42, ki_50, ki_58, ki_66, ki_74, ki_140, ki_174, ki_179, ki_184, ki_189, ki_441, ki_13, ix1, ix2, nI_add, pk_mul]; with_reducible rfl) | rfl); (case hlt => first | decide | omega); (case hn => first | decide | omega))
    iterate 2 refine mT_s rfl rfl ?_
    (apply mT_lastK; (case hc => rfl); (case ha => first | rfl | assumption); (case hk => first | (simp only [ki_0, ki_1, ki_2, ki_3, ki_4, ki_5, ki_6, ki_7, ki_8, ki_9, ki_10, ki_11, ki_12, ki_17, ki_20, ki_21, ki_22, ki_42, ki_50, ki_58, ki_66, ki_74, ki_140, ki_174, ki_179, ki_184, ki_189, ki_441, ki_13, nI_add, pk_mul]; with_reducible rfl) | (simp only [ki_0, ki_1, ki_2, ki_3, ki_4, ki_5, ki_6, ki_7, ki_8, ki_9, ki_10, ki_11, ki_12, ki_17, ki_20, ki_21, ki_22, ki_42, ki_50, ki_58, ki_66, ki_74, ki_140, ki_174, ki_179, ki_184, ki_189, ki_441, ki_13, ix1, nI_add, pk_mul]; with_reducible rfl) | (simp only [ki_0, ki_1, ki_2, ki_3, ki_4, ki_5, ki_6, ki_7, ki_8, ki_9, ki_10, ki_11, ki_12, ki_17, ki_20, ki_21, ki_22, ki_42, ki_50, ki_58, ki_66, ki_74, ki_140, ki_174, ki_179, ki_184, ki_189, ki_441, ki_13, ix1, ix2, nI_add, pk_mul]; with_reducible rfl) | (simp only [ki_0, ki_1, ki_2, ki_3, ki_4, ki_5, ki_6, ki_7, ki_8, ki_9, ki_10, ki_11, ki_12, ki_17, ki_20, ki_21, ki_22, ki_42, ki_50, ki_58, ki_66, ki_74, ki_140, ki_174, ki_179, ki_184, ki_189, ki_441, ki_13, ix1, ix2, ix3, nI_add, pk_mul]; with_reducible rfl) | (simp (disch := omega) only [upd_n, ki_0, ki_1, ki_2, ki_3, ki_4, ki_5, ki_6, ki_7, ki_8, ki_9, ki_10, ki_11, ki_12, ki_17, ki_20, ki_21, ki_22, ki_42, ki_50, ki_58, ki_66, ki_74, ki_140, ki_174, ki_179, ki_184, ki_189, ki_441, ki_13, ix1, nI_add, pk_mul]; with_reducible rfl) | (simp (disch := omega) only [upd_n, ki_0, ki_1, ki_2, ki_3, ki_4, ki_5, ki_6, ki_7, ki_8, ki_9, ki_10, ki_11, ki_12, ki_17, ki_20, ki_21, ki_22, ki_42, ki_50, ki_58, ki_66, ki_74, ki_140, ki_174, ki_179, ki_184, ki_189, ki_441, ki_13, ix1, ix2, nI_add, pk_mul]; with_reducible rfl) | rfl); (case hlt => first | decide | omega); (case hn => first | decide | omega); (case hN => assumption); (case hg => rfl))
    refine mT_ret rfl rfl ?_
    exact K _ sz P lb (fun a z => m_up_n (by omega)) ⟨hC, ⟨pf, hpf, ep⟩, ⟨lf, hlf, el⟩, rfl, hI.set hw c6⟩
  · rw [el p hp] at c6
    have c6 : lb p = 0 := (nI_eq (b := 0) (by have := hI.1 p hp; omega) (by omega)).mp c6
    have hA := hI.add hp c6
    have hlt := hA.2
    refine mT_s rfl rfl ?_
    (apply mT_getf; (case hc => rfl); (case ha => first | rfl | assumption); (case hf => first | rfl | assumption))
    iterate 2 refine mT_s rfl rfl ?_
    (apply mT_bastK; (case hc => rfl); (case ha => first | rfl | assumption); (case hk => first | (simp only [ki_0, ki_1, ki_2, ki_3, ki_4, ki_5, ki_6, ki_7, ki_8, ki_9, ki_10, ki_11, ki_12, ki_17, ki_20, ki_21, ki_22, ki_42, ki_50, ki_58, ki_66, ki_74, ki_140, ki_174, ki_179, ki_184, ki_189, ki_441, ki_13, nI_add, pk_mul]; with_reducible rfl) | (simp only [ki_0, ki_1, ki_2, ki_3, ki_4, ki_5, ki_6, ki_7, ki_8, ki_9, ki_10, ki_11, ki_12, ki_17, ki_20, ki_21, ki_22, ki_42, ki_50, ki_58, ki_66, ki_74, ki_140, ki_174, ki_179, ki_184, ki_189, ki_441, ki_13, ix1, nI_add, pk_mul]; with_reducible rfl) | (simp only [ki_0, ki_1, ki_2, ki_3, ki_4, ki_5, ki_6, ki_7, ki_8, ki_9, ki_10, ki_11, ki_12, ki_17, ki_20, ki_21, ki_22, ki_42, ki_50, ki_58, ki_66, ki_74, ki_140, ki_174, ki_179, ki_184, ki_189, ki_441, ki_13, ix1, ix2, nI_add, pk_mul]; with_reducible rfl) | (simp only [ki_0, ki_1, ki_2, ki_3, ki_4, ki_5, ki_6, ki_7, ki_8, ki_9, ki_10, ki_11, ki_12, ki_17, ki_20, ki_21, ki_22, ki_42, ki_50, ki_58, ki_66, ki_74, ki_140, ki_174, ki_179, ki_184, ki_189, ki_441, ki_13, ix1, ix2, ix3, nI_add, pk_mul]; with_reducible rfl) | (simp (disch := omega) only [upd_n, ki_0, ki_1, ki_2, ki_3, ki_4, ki_5, ki_6, ki_7, ki_8, ki_9, ki_10, ki_11, ki_12, ki_17, ki_20, ki_21, ki_22, ki_42, ki_50, ki_58, ki_66, ki_74, ki_140, ki_174, ki_179, ki_184, ki_189, ki_441, ki_13, ix1, nI_add, pk_mul]; with_reducible rfl) | (simp (disch := omega) only [upd_n, ki_0, ki_1, ki_2, ki_3, ki_4, ki_5, ki_6, ki_7, ki_8, ki_9, ki_10, ki_11, ki_12, ki_17, ki_20, ki_21, ki_22, ki_42, ki_50, ki_58, ki_66, ki_74, ki_140, ki_174, ki_179, ki_184, ki_189, ki_441, ki_13, ix1, ix2, nI_add, pk_mul]; with_reducible rfl) | rfl); (case hlt => first | decide | omega); (case hn => first | decide | omega); (case hN => assumption); (case hg => rfl); (case hb => first | exact Or.inl rfl | exact Or.inr rfl))
    refine mT_s rfl rfl ?_
    (apply mT_getf; (case hc => rfl); (case ha => first | rfl | assumption); (case hf => first | rfl | assumption))
    refine mT_s rfl rfl ?_
    (apply mT_getf; (case hc => rfl); (case ha => first | rfl | assumption); (case hf => first | rfl | assumption))
    refine mT_s rfl rfl ?_
    (apply mT_iastK; (case hc => rfl); (case ha => first | rfl | assumption); (case hk => first | (simp only [ki_0, ki_1, ki_2, ki_3, ki_4, ki_5, ki_6, ki_7, ki_8, ki_9, ki_10, ki_11, ki_12, ki_17, ki_20, ki_21, ki_22, ki_42, ki_50, ki_58, ki_66, ki_74, ki_140, ki_174, ki_179, ki_184, ki_189, ki_441, ki_13, nI_add, pk_mul]; with_reducible rfl) | (simp only [ki_0, ki_1, ki_2, ki_3, ki_4, ki_5, ki_6, ki_7, ki_8, ki_9, ki_10, ki_11, ki_12, ki_17, ki_20, ki_21, ki_22, ki_42, ki_50, ki_58, ki_66, ki_74, ki_140, ki_174, ki_179, ki_184, ki_189, ki_441, ki_13, ix1, nI_add, pk_mul]; with_reducible rfl) | (simp only [ki_0, ki_1, ki_2, ki_3, ki_4, ki_5, ki_6, ki_7, ki_8, ki_9, ki_10, ki_11, ki_12, ki_17, ki_20, ki_21, ki_22, ki_42, ki_50, ki_58, ki_66, ki_74, ki_140, ki_174, ki_179, ki_184, ki_189, ki_441, ki_13, ix1, ix2, nI_add, pk_mul]; with_reducible rfl) | (simp only [ki_0, ki_1, ki_2, ki_3, ki_4, ki_5, ki_6, ki_7, ki_8, ki_9, ki_10, ki_11, ki_12, ki_17, ki_20, ki_21, ki_22, ki_42, ki_50, ki_58, ki_66, ki_74, ki_140, ki_174, ki_179, ki_184, ki_189, ki_441, ki_13, ix1, ix2, ix3, nI_add, pk_mul]; with_reducible rfl) | (simp (disch := omega) only [upd_n, ki_0, ki_1, ki_2, ki_3, ki_4, ki_5, ki_6, ki_7, ki_8, ki_9, ki_10, ki_11, ki_12, ki_17, ki_20, ki_21, ki_22, ki_42, ki_50, ki_58, ki_66, ki_74, ki_140, ki_174, ki_179, ki_184, ki_189, ki_441, ki_13, ix1, nI_add, pk_mul]; with_reducible rfl) | (simp (disch := omega) only [upd_n, ki_0, ki_1, ki_2, ki_3, ki_4, ki_5, ki_6, ki_7, ki_8, ki_9, ki_10, ki_11, ki_12, ki_17, ki_20, ki_21, ki_22, ki_42, ki_50, ki_58, ki_66, ki_74, ki_140, ki_174, ki_179, ki_184, ki_189, ki_441, ki_13, ix1, ix2, nI_add, pk_mul]; with_reducible rfl) | rfl); (case hlt => first | decide | omega); (case hn => first | decide | omega); (case hN => assumption); (case hg => rfl))
    iterate 2 refine mT_s rfl rfl ?_
    (apply mT_getf; (case hc => rfl); (case ha => first | rfl | assumption); (case hf => first | rfl | assumption))
    iterate 2 refine mT_s rfl rfl ?_
    (apply mT_putfN; (case hc => rfl); (case ha => first | rfl | assumption); (case hN => assumption); (case hg => rfl))
    refine mT_s rfl rfl ?_
    (apply mT_getf; (case hc => rfl); (case ha => first | rfl | assumption); (case hf => first | rfl | assumption))
    iterate 6 refine mT_s rfl rfl ?_
    (apply mT_laldK; (case hc => rfl); (case ha => first | rfl | assumption); (case hk => first | (simp only [ki_0, ki_1, ki_2, ki_3, ki_4, ki_5, ki_6, ki_7, ki_8, ki_9, ki_10, ki_11, ki_12, ki_17, ki_20, ki_21, ki_22, ki_42, ki_50, ki_58, ki_66, ki_74, ki_140, ki_174, ki_179, ki_184, ki_189, ki_441, ki_13, nI_add, pk_mul]; with_reducible rfl) | (simp only [ki_0, ki_1, ki_2, ki_3, ki_4, ki_5, ki_6, ki_7, ki_8, ki_9, ki_10, ki_11, ki_12, ki_17, ki_20, ki_21, ki_22, ki_42, ki_50, ki_58, ki_66, ki_74, ki_140, ki_174, ki_179, ki_184, ki_189, ki_441, ki_13, ix1, nI_add, pk_mul]; with_reducible rfl) | (simp only [ki_0, ki_1, ki_2, ki_3, ki_4, ki_5, ki_6, ki_7, ki_8, ki_9, ki_10, ki_11, ki_12, ki_17, ki_20, ki_21, ki_22, ki_42, ki_50, ki_58, ki_66, ki_74, ki_140, ki_174, ki_179, ki_184, ki_189, ki_441, ki_13, ix1, ix2, nI_add, pk_mul]; with_reducible rfl) | (simp only [ki_0, ki_1, ki_2, ki_3, ki_4, ki_5, ki_6, ki_7, ki_8, ki_9, ki_10, ki_11, ki_12, ki_17, ki_20, ki_21, ki_22, ki_42, ki_50, ki_58, ki_66, ki_74, ki_140, ki_174, ki_179, ki_184, ki_189, ki_441, ki_13, ix1, ix2, ix3, nI_add, pk_mul]; with_reducible rfl) | (simp (disch := omega) only [upd_n, ki_0, ki_1, ki_2, ki_3, ki_4, ki_5, ki_6, ki_7, ki_8, ki_9, ki_10, ki_11, ki_12, ki_17, ki_20, ki_21, ki_22, ki_42, ki_50, ki_58, ki_66, ki_74, ki_140, ki_174, ki_179, ki_184, ki_189, ki_441, ki_13, ix1, nI_add, pk_mul]; with_reducible rfl) | (simp (disch := omega) only [upd_n, ki_0, ki_1, ki_2, ki_3, ki_4, ki_5, ki_6, ki_7, ki_8, ki_9, ki_10, ki_11, ki_12, ki_17, ki_20, ki_21, ki_22, ki_42, ki_50, ki_58, ki_66, ki_74, ki_140, ki_174, ki_179, ki_184, ki_189, ki_441, ki_13, ix1, ix2, nI_add, pk_mul]; with_reducible rfl) | rfl); (case hlt => first | decide | omega); (case hn => first | decide | omega))
    iterate 2 refine mT_s rfl rfl ?_
    (apply mT_lastK; (case hc => rfl); (case ha => first | rfl | assumption); (case hk => first | (simp only [ki_0, ki_1, ki_2, ki_3, ki_4, ki_5, ki_6, ki_7, ki_8, ki_9, ki_10, ki_11, ki_12, ki_17, ki_20, ki_21, ki_22, ki_42, ki_50, ki_58, ki_66, ki_74, ki_140, ki_174, ki_179, ki_184, ki_189, ki_441, ki_13, nI_add, pk_mul]; with_reducible rfl) | (simp only [ki_0, ki_1, ki_2, ki_3, ki_4, ki_5, ki_6, ki_7, ki_8, ki_9, ki_10, ki_11, ki_12, ki_17, ki_20, ki_21, ki_22, ki_42, ki_50, ki_58, ki_66, ki_74, ki_140, ki_174, ki_179, ki_184, ki_189, ki_441, ki_13, ix1, nI_add, pk_mul]; with_reducible rfl) | (simp only [ki_0, ki_1, ki_2, ki_3, ki_4, ki_5, ki_6, ki_7, ki_8, ki_9, ki_10, ki_11, ki_12, ki_17, ki_20, ki_21, ki_22, ki_42, ki_50, ki_58, ki_66, ki_74, ki_140, ki_174, ki_179, ki_184, ki_189, ki_441, ki_13, ix1, ix2, nI_add, pk_mul]; with_reducible rfl) | (simp only [ki_0, ki_1, ki_2, ki_3, ki_4, ki_5, ki_6, ki_7, ki_8, ki_9, ki_10, ki_11, ki_12, ki_17, ki_20, ki_21, ki_22, ki_42, ki_50, ki_58, ki_66, ki_74, ki_140, ki_174, ki_179, ki_184, ki_189, ki_441, ki_13, ix1, ix2, ix3, nI_add, pk_mul]; with_reducible rfl) | (simp (disch := omega) only [upd_n, ki_0, ki_1, ki_2, ki_3, ki_4, ki_5, ki_6, ki_7, ki_8, ki_9, ki_10, ki_11, ki_12, ki_17, ki_20, ki_21, ki_22, ki_42, ki_50, ki_58, ki_66, ki_74, ki_140, ki_174, ki_179, ki_184, ki_189, ki_441, ki_13, ix1, nI_add, pk_mul]; with_reducible rfl) | (simp (disch := omega) only [upd_n, ki_0, ki_1, ki_2, ki_3, ki_4, ki_5, ki_6, ki_7, ki_8, ki_9, ki_10, ki_11, ki_12, ki_17, ki_20, ki_21, ki_22, ki_42, ki_50, ki_58, ki_66, ki_74, ki_140, ki_174, ki_179, ki_184, ki_189, ki_441, ki_13, ix1, ix2, nI_add, pk_mul]; with_reducible rfl) | rfl); (case hlt => first | decide | omega); (case hn => first | decide | omega); (case hN => assumption); (case hg => rfl))
    refine mT_ret rfl rfl ?_
    have hA9 := hA.1.set (x := W (p * 13 + w) + x) hw (updM_s lb p 1)
    rw [nI_1]
    refine K _ (sz + 1) (updM P sz p) (updM lb p 1) (fun a z => ?_) ⟨rfl, ⟨_, rfl, fun j hj => ?_⟩, ⟨_, rfl, fun q hq => ?_⟩, rfl, hA9⟩
    · rw [m_up_n (show a ≠ 57 by omega), m_up_n (show a ≠ 54 by omega), m_up_n (show a ≠ 55 by omega), m_up_n (show a ≠ 56 by omega)]
    · by_cases e : j = sz
      · subst e; rw [upd_s, updM_s]
      · rw [upd_n _ _ e, updM_n _ e]; exact ep j (by omega)
    · by_cases e : q = p
      · subst e; rw [upd_s, updM_s]; rfl
      · rw [upd_n _ _ e, updM_n _ e]; exact el q hq

theorem x_clr_I54 (d : Nat) (h : mH) (Q : Option Value → mH → Prop) (sz : Nat) (P lb : Nat → Nat) (W : Nat → Int64) (hN : 87 ≤ m_nx h) (C : cCl h 54 sz P lb W) (i : Nat) (hi9 : i < sz) (lf2 : Nat → Int32) (K : ∀ W2 : Nat → Int64, (∀ k, k < 5200 → W2 k = 0 ∨ (W2 k = W k ∧ ∀ j, j < i + 1 → P j ≠ k / 13)) → mT0 d z_X1_clear 53 [some (.ref 54), some (.int (nI i)), some (.int (nI 13))] [] (m_up (m_up h 56 (.inl (2, 400, .inl lf2))) 57 (.inl (1, 5200, .inr (.inl W2)))) Q) : ∀ (r w : Nat) (W2 : Nat → Int64), w + r = 13 → (∀ k, k < 5200 → W2 k = 0 ∨ (W2 k = W k ∧ (∀ j, j < i → P j ≠ k / 13) ∧ ¬ (k / 13 = P i ∧ k % 13 < w))) → mT0 d z_X1_clear 24 [some (.ref 54), some (.int (nI i)), some (.int (nI w))] [] (m_up (m_up h 56 (.inl (2, 400, .inl lf2))) 57 (.inl (1, 5200, .inr (.inl W2)))) Q := by
  obtain ⟨hC, ⟨pf, hpf, ep⟩, ⟨lf, hlf, el⟩, hW, hI⟩ := C
  have hC : h 54 = .inr (1, [.ref 55, .int (nI sz), .ref 56, .ref 57]) := hC
  have hpf : h 55 = _ := hpf
  have hlf : h 56 = _ := hlf
  have hW : h 57 = _ := hW
  have ix1 := ep i hi9
  have hPi := (hI.2.2.1 i hi9).1
  have hszle := hI.le
  intro r
  induction r with
  | zero =>
    intro w W2 hk hi
    iterate 2 refine mT_s rfl rfl ?_
    refine mT_icmp_ge rfl (fun _ => ?_) (fun c => absurd (nI_le (a := 13) (b := w) (by omega) (by omega)) c)
    obtain rfl : w = 13 := by omega
    refine K W2 (fun k hk => ?_)
    rcases hi k hk with z | ⟨z1, z2, z3⟩
    · exact Or.inl z
    · refine Or.inr ⟨z1, fun j hj => ?_⟩
      by_cases e : j = i
      · subst e
        exact fun z => z3 ⟨z.symm, by omega⟩
      · exact z2 j (by omega)
  | succ r ih =>
    intro w W2 hk hi
    iterate 2 refine mT_s rfl rfl ?_
    refine mT_icmp_ge rfl (fun c => absurd c (nI_ge (a := w) (b := 13) (by omega) (by omega))) (fun _ => ?_)
    refine mT_s rfl rfl ?_
    (apply mT_getf; (case hc => rfl); (case ha => first | rfl | assumption); (case hf => first | rfl | assumption))
    refine mT_s rfl rfl ?_
    (apply mT_getf; (case hc => rfl); (case ha => first | rfl | assumption); (case hf => first | rfl | assumption))
    refine mT_s rfl rfl ?_
    (apply mT_ialdK; (case hc => rfl); (case ha => first | rfl | assumption); (case hk => first | (simp only [ki_0, ki_1, ki_2, ki_3, ki_4, ki_5, ki_6, ki_7, ki_8, ki_9, ki_10, ki_11, ki_12, ki_17, ki_20, ki_21, ki_22, ki_42, ki_50, ki_58, ki_66, ki_74, ki_140, ki_174, ki_179, ki_184, ki_189, ki_441, ki_13, nI_add, pk_mul]; with_reducible rfl) | (simp only [ki_0, ki_1, ki_2, ki_3, ki_4, ki_5, ki_6, ki_7, ki_8, ki_9, ki_10, ki_11, ki_12, ki_17, ki_20, ki_21, ki_22, ki_42, ki_50, ki_58, ki_66, ki_74, ki_140, ki_174, ki_179, ki_184, ki_189, ki_441, ki_13, ix1, nI_add, pk_mul]; with_reducible rfl) | (simp only [ki_0, ki_1, ki_2, ki_3, ki_4, ki_5, ki_6, ki_7, ki_8, ki_9, ki_10, ki_11, ki_12, ki_17, ki_20, ki_21, ki_22, ki_42, ki_50, ki_58, ki_66, ki_74, ki_140, ki_174, ki_179, ki_184, ki_189, ki_441, ki_13, ix1, ix2, nI_add, pk_mul]; with_reducible rfl) | (simp only [ki_0, ki_1, ki_2, ki_3, ki_4, ki_5, ki_6, ki_7, ki_8, ki_9, ki_10, ki_11, ki_12, ki_17, ki_20, ki_21, ki_22, ki_42, ki_50, ki_58, ki_66, ki_74, ki_140, ki_174, ki_179, ki_184, ki_189, ki_441, ki_13, ix1, ix2, ix3, nI_add, pk_mul]; with_reducible rfl) | (simp (disch := omega) only [upd_n, ki_0, ki_1, ki_2, ki_3, ki_4, ki_5, ki_6, ki_7, ki_8, ki_9, ki_10, ki_11, ki_12, ki_17, ki_20, ki_21, ki_22, ki_42, ki_50, ki_58, ki_66, ki_74, ki_140, ki_174, ki_179, ki_184, ki_189, ki_441, ki_13, ix1, nI_add, pk_mul]; with_reducible rfl) | (simp (disch := omega) only [upd_n, ki_0, ki_1, ki_2, ki_3, ki_4, ki_5, ki_6, ki_7, ki_8, ki_9, ki_10, ki_11, ki_12, ki_17, ki_20, ki_21, ki_22, ki_42, ki_50, ki_58, ki_66, ki_74, ki_140, ki_174, ki_179, ki_184, ki_189, ki_441, ki_13, ix1, ix2, nI_add, pk_mul]; with_reducible rfl) | rfl); (case hlt => first | decide | omega); (case hn => first | decide | omega))
    iterate 5 refine mT_s rfl rfl ?_
    (apply mT_lastK; (case hc => rfl); (case ha => first | rfl | assumption); (case hk => first | (simp only [ki_0, ki_1, ki_2, ki_3, ki_4, ki_5, ki_6, ki_7, ki_8, ki_9, ki_10, ki_11, ki_12, ki_17, ki_20, ki_21, ki_22, ki_42, ki_50, ki_58, ki_66, ki_74, ki_140, ki_174, ki_179, ki_184, ki_189, ki_441, ki_13, nI_add, pk_mul]; with_reducible rfl) | (simp only [ki_0, ki_1, ki_2, ki_3, ki_4, ki_5, ki_6, ki_7, ki_8, ki_9, ki_10, ki_11, ki_12, ki_17, ki_20, ki_21, ki_22, ki_42, ki_50, ki_58, ki_66, ki_74, ki_140, ki_174, ki_179, ki_184, ki_189, ki_441, ki_13, ix1, nI_add, pk_mul]; with_reducible rfl) | (simp only [ki_0, ki_1, ki_2, ki_3, ki_4, ki_5, ki_6, ki_7, ki_8, ki_9, ki_10, ki_11, ki_12, ki_17, ki_20, ki_21, ki_22, ki_42, ki_50, ki_58, ki_66, ki_74, ki_140, ki_174, ki_179, ki_184, ki_189, ki_441, ki_13, ix1, ix2, nI_add, pk_mul]; with_reducible rfl) | (simp only [ki_0, ki_1, ki_2, ki_3, ki_4, ki_5, ki_6, ki_7, ki_8, ki_9, ki_10, ki_11, ki_12, ki_17, ki_20, ki_21, ki_22, ki_42, ki_50, ki_58, ki_66, ki_74, ki_140, ki_174, ki_179, ki_184, ki_189, ki_441, ki_13, ix1, ix2, ix3, nI_add, pk_mul]; with_reducible rfl) | (simp (disch := omega) only [upd_n, ki_0, ki_1, ki_2, ki_3, ki_4, ki_5, ki_6, ki_7, ki_8, ki_9, ki_10, ki_11, ki_12, ki_17, ki_20, ki_21, ki_22, ki_42, ki_50, ki_58, ki_66, ki_74, ki_140, ki_174, ki_179, ki_184, ki_189, ki_441, ki_13, ix1, nI_add, pk_mul]; with_reducible rfl) | (simp (disch := omega) only [upd_n, ki_0, ki_1, ki_2, ki_3, ki_4, ki_5, ki_6, ki_7, ki_8, ki_9, ki_10, ki_11, ki_12, ki_17, ki_20, ki_21, ki_22, ki_42, ki_50, ki_58, ki_66, ki_74, ki_140, ki_174, ki_179, ki_184, ki_189, ki_441, ki_13, ix1, ix2, nI_add, pk_mul]; with_reducible rfl) | rfl); (case hlt => first | decide | omega); (case hn => first | decide | omega); (case hN => assumption); (case hg => rfl))
    iterate 2 refine mT_s rfl rfl ?_
    rw [m_up_up, nI_1]
    refine ih (w + 1) _ (by omega) (fun k hk => ?_)
    by_cases e : k = P i * 13 + w
    · subst e; exact Or.inl pk_uLs
    · rw [pk_uLn e]
      rcases hi k hk with z | ⟨z1, z2, z3⟩
      · exact Or.inl z
      · refine Or.inr ⟨z1, z2, fun z => ?_⟩
        by_cases e2 : k % 13 < w
        · exact z3 ⟨z.1, e2⟩
        · exact e (by omega)
theorem x_clr_L54 (d : Nat) (h : mH) (Q : Option Value → mH → Prop) (sz : Nat) (P lb : Nat → Nat) (W : Nat → Int64) (hN : 87 ≤ m_nx h) (C : cCl h 54 sz P lb W) (K : ∀ h2, (∀ a, a < 54 ∨ 57 < a → h2 a = h a) → cZ h2 54 → Q none h2): ∀ (r i : Nat) (lf2 : Nat → Int32) (W2 : Nat → Int64) (x2 : Option Value), i + r = sz → (∀ p, p < 400 → lf2 p = 0 ∨ (lf2 p = nI (lb p) ∧ ∀ j, j < i → P j ≠ p)) → (∀ k, k < 5200 → W2 k = 0 ∨ (W2 k = W k ∧ ∀ j, j < i → P j ≠ k / 13)) → mT0 d z_X1_clear 2 [some (.ref 54), some (.int (nI i)), x2] [] (m_up (m_up h 56 (.inl (2, 400, .inl lf2))) 57 (.inl (1, 5200, .inr (.inl W2)))) Q := by
  obtain ⟨hC, ⟨pf, hpf, ep⟩, ⟨lf, hlf, el⟩, hW, hI⟩ := C
  have hC : h 54 = .inr (1, [.ref 55, .int (nI sz), .ref 56, .ref 57]) := hC
  have hpf : h 55 = _ := hpf
  have hlf : h 56 = _ := hlf
  have hW : h 57 = _ := hW
  have hle := hI.le
  intro r
  induction r with
  | zero =>
    intro i lf2 W2 x2 hk hi1 hi2
    iterate 2 refine mT_s rfl rfl ?_
    (apply mT_getf; (case hc => rfl); (case ha => first | rfl | assumption); (case hf => first | rfl | assumption))
    refine mT_icmp_ge rfl (fun _ => ?_) (fun c => absurd (nI_le (a := sz) (b := i) (by omega) (by omega)) c)
    iterate 2 refine mT_s rfl rfl ?_
    (apply mT_putfN; (case hc => rfl); (case ha => first | rfl | assumption); (case hN => assumption); (case hg => rfl))
    refine mT_ret rfl rfl ?_
    obtain rfl : i = sz := by omega
    have hl2 : ∀ p, p < 400 → lf2 p = 0 := fun p hp => by
      rcases hi1 p hp with z | ⟨z1, z2⟩
      · exact z
      · rw [z1]
        have h1 := hI.1 p hp
        rcases Nat.eq_zero_or_pos (lb p) with z | z
        · rw [z]; rfl
        · obtain ⟨j, hj, e⟩ := hI.2.2.2.1 p hp (by omega)
          exact absurd e (z2 j hj)
    have hW2 : ∀ k, k < 5200 → W2 k = 0 := fun k hk => by
      rcases hi2 k hk with z | ⟨z1, z2⟩
      · exact z
      · rw [z1]
        have h1 := hI.1 (k / 13) (by omega)
        rcases Nat.eq_zero_or_pos (lb (k / 13)) with z | z
        · exact hI.2.2.2.2.1 k hk z
        · obtain ⟨j, hj, e⟩ := hI.2.2.2.1 (k / 13) (by omega) (by omega)
          exact absurd e (z2 j hj)
    refine K _ (fun a z => ?_) ⟨P, fun _ => 0, W2, ⟨rfl, ⟨pf, hpf, fun j hj => absurd hj (by omega)⟩, ⟨lf2, rfl, fun p hp => hl2 p hp⟩, rfl, cI_0 (fun _ _ => rfl) hW2⟩, hW2⟩
    rw [m_up_n (show a ≠ 54 by omega), m_up_n (show a ≠ 57 by omega), m_up_n (show a ≠ 56 by omega)]
  | succ r ih =>
    intro i lf2 W2 x2 hk hi1 hi2
    have ix1 := ep i (by omega)
    have hPi := (hI.2.2.1 i (by omega)).1
    iterate 2 refine mT_s rfl rfl ?_
    (apply mT_getf; (case hc => rfl); (case ha => first | rfl | assumption); (case hf => first | rfl | assumption))
    refine mT_icmp_ge rfl (fun c => absurd c (nI_ge (a := i) (b := sz) (by omega) (by omega))) (fun _ => ?_)
    refine mT_s rfl rfl ?_
    (apply mT_getf; (case hc => rfl); (case ha => first | rfl | assumption); (case hf => first | rfl | assumption))
    refine mT_s rfl rfl ?_
    (apply mT_getf; (case hc => rfl); (case ha => first | rfl | assumption); (case hf => first | rfl | assumption))
    refine mT_s rfl rfl ?_
    (apply mT_ialdK; (case hc => rfl); (case ha => first | rfl | assumption); (case hk => first | (simp only [ki_0, ki_1, ki_2, ki_3, ki_4, ki_5, ki_6, ki_7, ki_8, ki_9, ki_10, ki_11, ki_12, ki_17, ki_20, ki_21, ki_22, ki_42, ki_50, ki_58, ki_66, ki_74, ki_140, ki_174, ki_179, ki_184, ki_189, ki_441, ki_13, nI_add, pk_mul]; with_reducible rfl) | (simp only [ki_0, ki_1, ki_2, ki_3, ki_4, ki_5, ki_6, ki_7, ki_8, ki_9, ki_10, ki_11, ki_12, ki_17, ki_20, ki_21, ki_22, ki_42, ki_50, ki_58, ki_66, ki_74, ki_140, ki_174, ki_179, ki_184, ki_189, ki_441, ki_13, ix1, nI_add, pk_mul]; with_reducible rfl) | (simp only [ki_0, ki_1, ki_2, ki_3, ki_4, ki_5, ki_6, ki_7, ki_8, ki_9, ki_10, ki_11, ki_12, ki_17, ki_20, ki_21, ki_22, ki_42, ki_50, ki_58, ki_66, ki_74, ki_140, ki_174, ki_179, ki_184, ki_189, ki_441, ki_13, ix1, ix2, nI_add, pk_mul]; with_reducible rfl) | (simp only [ki_0, ki_1, ki_2, ki_3, ki_4, ki_5, ki_6, ki_7, ki_8, ki_9, ki_10, ki_11, ki_12, ki_17, ki_20, ki_21, ki_22, ki_42, ki_50, ki_58, ki_66, ki_74, ki_140, ki_174, ki_179, ki_184, ki_189, ki_441, ki_13, ix1, ix2, ix3, nI_add, pk_mul]; with_reducible rfl) | (simp (disch := omega) only [upd_n, ki_0, ki_1, ki_2, ki_3, ki_4, ki_5, ki_6, ki_7, ki_8, ki_9, ki_10, ki_11, ki_12, ki_17, ki_20, ki_21, ki_22, ki_42, ki_50, ki_58, ki_66, ki_74, ki_140, ki_174, ki_179, ki_184, ki_189, ki_441, ki_13, ix1, nI_add, pk_mul]; with_reducible rfl) | (simp (disch := omega) only [upd_n, ki_0, ki_1, ki_2, ki_3, ki_4, ki_5, ki_6, ki_7, ki_8, ki_9, ki_10, ki_11, ki_12, ki_17, ki_20, ki_21, ki_22, ki_42, ki_50, ki_58, ki_66, ki_74, ki_140, ki_174, ki_179, ki_184, ki_189, ki_441, ki_13, ix1, ix2, nI_add, pk_mul]; with_reducible rfl) | rfl); (case hlt => first | decide | omega); (case hn => first | decide | omega))
    refine mT_s rfl rfl ?_
    (apply mT_bastK; (case hc => rfl); (case ha => first | rfl | assumption); (case hk => first | (simp only [ki_0, ki_1, ki_2, ki_3, ki_4, ki_5, ki_6, ki_7, ki_8, ki_9, ki_10, ki_11, ki_12, ki_17, ki_20, ki_21, ki_22, ki_42, ki_50, ki_58, ki_66, ki_74, ki_140, ki_174, ki_179, ki_184, ki_189, ki_441, ki_13, nI_add, pk_mul]; with_reducible rfl) | (simp only [ki_0, ki_1, ki_2, ki_3, ki_4, ki_5, ki_6, ki_7, ki_8, ki_9, ki_10, ki_11, ki_12, ki_17, ki_20, ki_21, ki_22, ki_42, ki_50, ki_58, ki_66, ki_74, ki_140, ki_174, ki_179, ki_184, ki_189, ki_441, ki_13, ix1, nI_add, pk_mul]; with_reducible rfl) | (simp only [ki_0, ki_1, ki_2, ki_3, ki_4, ki_5, ki_6, ki_7, ki_8, ki_9, ki_10, ki_11, ki_12, ki_17, ki_20, ki_21, ki_22, ki_42, ki_50, ki_58, ki_66, ki_74, ki_140, ki_174, ki_179, ki_184, ki_189, ki_441, ki_13, ix1, ix2, nI_add, pk_mul]; with_reducible rfl) | (simp only [ki_0, ki_1, ki_2, ki_3, ki_4, ki_5, ki_6, ki_7, ki_8, ki_9, ki_10, ki_11, ki_12, ki_17, ki_20, ki_21, ki_22, ki_42, ki_50, ki_58, ki_66, ki_74, ki_140, ki_174, ki_179, ki_184, ki_189, ki_441, ki_13, ix1, ix2, ix3, nI_add, pk_mul]; with_reducible rfl) | (simp (disch := omega) only [upd_n, ki_0, ki_1, ki_2, ki_3, ki_4, ki_5, ki_6, ki_7, ki_8, ki_9, ki_10, ki_11, ki_12, ki_17, ki_20, ki_21, ki_22, ki_42, ki_50, ki_58, ki_66, ki_74, ki_140, ki_174, ki_179, ki_184, ki_189, ki_441, ki_13, ix1, nI_add, pk_mul]; with_reducible rfl) | (simp (disch := omega) only [upd_n, ki_0, ki_1, ki_2, ki_3, ki_4, ki_5, ki_6, ki_7, ki_8, ki_9, ki_10, ki_11, ki_12, ki_17, ki_20, ki_21, ki_22, ki_42, ki_50, ki_58, ki_66, ki_74, ki_140, ki_174, ki_179, ki_184, ki_189, ki_441, ki_13, ix1, ix2, nI_add, pk_mul]; with_reducible rfl) | rfl); (case hlt => first | decide | omega); (case hn => first | decide | omega); (case hN => assumption); (case hg => rfl); (case hb => first | exact Or.inl rfl | exact Or.inr rfl))
    iterate 2 refine mT_s rfl rfl ?_
    have hlf3 : ∀ p, p < 400 → upd lf2 (P i) 0 p = 0 ∨ (upd lf2 (P i) 0 p = nI (lb p) ∧ ∀ j, j < i + 1 → P j ≠ p) := fun p hp => by
      by_cases e : p = P i
      · subst e; exact Or.inl (upd_s _ _ _)
      · rw [upd_n _ _ e]
        rcases hi1 p hp with z | ⟨z1, z2⟩
        · exact Or.inl z
        · exact Or.inr ⟨z1, fun j hj => by
            by_cases e2 : j = i
            · subst e2; exact fun z => e z.symm
            · exact z2 j (by omega)⟩
    rw [m_up_sw (show 56 ≠ 57 by decide), m_up_up]
    refine x_clr_I54 d h Q sz P lb W hN ⟨hC, ⟨pf, hpf, ep⟩, ⟨lf, hlf, el⟩, hW, hI⟩ i (by omega) (upd lf2 (P i) 0) (fun W3 hW3 => ?_) 13 0 W2 (by omega) (fun k hk => ?_)
    · iterate 2 refine mT_s rfl rfl ?_
      rw [nI_1]
      exact ih (i + 1) _ _ _ (by omega) hlf3 hW3
    · rcases hi2 k hk with z | ⟨z1, z2⟩
      · exact Or.inl z
      · exact Or.inr ⟨z1, z2, fun z => absurd z.2 (Nat.not_lt_zero _)⟩
theorem x_clear_54 (d : Nat) (h : mH) (Q : Option Value → mH → Prop) (sz : Nat) (P lb : Nat → Nat) (W : Nat → Int64) (hN : 87 ≤ m_nx h) (C : cCl h 54 sz P lb W) (K : ∀ h2, (∀ a, a < 54 ∨ 57 < a → h2 a = h a) → cZ h2 54 → Q none h2): mT0 d z_X1_clear 0 (m_init z_X1_clear [.ref 54]) [] h Q := by
  obtain ⟨hC, ⟨pf, hpf, ep⟩, ⟨lf, hlf, el⟩, hW, hI⟩ := C
  have hC : h 54 = .inr (1, [.ref 55, .int (nI sz), .ref 56, .ref 57]) := hC
  have hpf : h 55 = _ := hpf
  have hlf : h 56 = _ := hlf
  have hW : h 57 = _ := hW
  iterate 2 refine mT_s rfl rfl ?_
  have z9 := x_clr_L54 d h Q sz P lb W hN ⟨hC, ⟨pf, hpf, ep⟩, ⟨lf, hlf, el⟩, hW, hI⟩ K sz 0 lf W none (by omega) (fun p hp => Or.inr ⟨el p hp, fun j hj => absurd hj (by omega)⟩) (fun k hk => Or.inr ⟨rfl, fun j hj => absurd hj (by omega)⟩)
  rw [m_up_id hlf, m_up_id hW] at z9
  exact z9
theorem x_part_58 (d : Nat) (h : mH) (Q : Option Value → mH → Prop) (sz : Nat) (P lb : Nat → Nat) (W : Nat → Int64) (hN : 87 ≤ m_nx h) (C : cCl h 58 sz P lb W)  (p w : Nat) (hp : p < 400) (hw : w < 13) (K : Q (some (.long (W (p * 13 + w)))) h) : mT0 d z_X1_part 0 (m_init z_X1_part [.ref 58, .int (nI p), .int (nI w)]) [] h Q := by
  obtain ⟨hC, ⟨pf, hpf, ep⟩, ⟨lf, hlf, el⟩, hW, hI⟩ := C
  have hC : h 58 = .inr (1, [.ref 59, .int (nI sz), .ref 60, .ref 61]) := hC
  have hpf : h 59 = _ := hpf
  have hlf : h 60 = _ := hlf
  have hW : h 61 = _ := hW
  refine mT_s rfl rfl ?_
  (apply mT_getf; (case hc => rfl); (case ha => first | rfl | assumption); (case hf => first | rfl | assumption))
  iterate 5 refine mT_s rfl rfl ?_
  (apply mT_laldK; (case hc => rfl); (case ha => first | rfl | assumption); (case hk => first | (simp only [ki_0, ki_1, ki_2, ki_3, ki_4, ki_5, ki_6, ki_7, ki_8, ki_9, ki_10, ki_11, ki_12, ki_17, ki_20, ki_21, ki_22, ki_42, ki_50, ki_58, ki_66, ki_74, ki_140, ki_174, ki_179, ki_184, ki_189, ki_441, ki_13, nI_add, pk_mul]; with_reducible rfl) | (simp only [ki_0, ki_1, ki_2, ki_3, ki_4, ki_5, ki_6, ki_7, ki_8, ki_9, ki_10, ki_11, ki_12, ki_17, ki_20, ki_21, ki_22, ki_42, ki_50, ki_58, ki_66, ki_74, ki_140, ki_174, ki_179, ki_184, ki_189, ki_441, ki_13, ix1, nI_add, pk_mul]; with_reducible rfl) | (simp only [ki_0, ki_1, ki_2, ki_3, ki_4, ki_5, ki_6, ki_7, ki_8, ki_9, ki_10, ki_11, ki_12, ki_17, ki_20, ki_21, ki_22, ki_42, ki_50, ki_58, ki_66, ki_74, ki_140, ki_174, ki_179, ki_184, ki_189, ki_441, ki_13, ix1, ix2, nI_add, pk_mul]; with_reducible rfl) | (simp only [ki_0, ki_1, ki_2, ki_3, ki_4, ki_5, ki_6, ki_7, ki_8, ki_9, ki_10, ki_11, ki_12, ki_17, ki_20, ki_21, ki_22, ki_42, ki_50, ki_58, ki_66, ki_74, ki_140, ki_174, ki_179, ki_184, ki_189, ki_441, ki_13, ix1, ix2, ix3, nI_add, pk_mul]; with_reducible rfl) | (simp (disch := omega) only [upd_n, ki_0, ki_1, ki_2, ki_3, ki_4, ki_5, ki_6, ki_7, ki_8, ki_9, ki_10, ki_11, ki_12, ki_17, ki_20, ki_21, ki_22, ki_42, ki_50, ki_58, ki_66, ki_74, ki_140, ki_174, ki_179, ki_184, ki_189, ki_441, ki_13, ix1, nI_add, pk_mul]; with_reducible rfl) | (simp (disch := omega) only [upd_n, ki_0, ki_1, ki_2, ki_3, ki_4, ki_5, ki_6, ki_7, ki_8, ki_9, ki_10, ki_11, ki_12, ki_17, ki_20, ki_21, ki_22, ki_42, ki_50, ki_58, ki_66, ki_74, ki_140, ki_174, ki_179, ki_184, ki_189, ki_441, ki_13, ix1, ix2, nI_add, pk_mul]; with_reducible rfl) | rfl); (case hlt => first | decide | omega); (case hn => first | decide | omega))
  refine mT_ret rfl rfl ?_
  exact K

theorem x_take_58 (d : Nat) (h : mH) (Q : Option Value → mH → Prop) (sz : Nat) (P lb : Nat → Nat) (W : Nat → Int64) (hN : 87 ≤ m_nx h) (C : cCl h 58 sz P lb W)  (p w : Nat) (hp : p < 400) (hw : w < 13) (hl : lb p = 1) (K : ∀ h2, (∀ a, a ≠ 61 → h2 a = h a) → cCl h2 58 sz P lb (vp_updL W (p * 13 + w) 0) → Q (some (.long (W (p * 13 + w)))) h2) : mT0 d z_X1_take 0 (m_init z_X1_take [.ref 58, .int (nI p), .int (nI w)]) [] h Q := by
  obtain ⟨hC, ⟨pf, hpf, ep⟩, ⟨lf, hlf, el⟩, hW, hI⟩ := C
  have hC : h 58 = .inr (1, [.ref 59, .int (nI sz), .ref 60, .ref 61]) := hC
  have hpf : h 59 = _ := hpf
  have hlf : h 60 = _ := hlf
  have hW : h 61 = _ := hW
  refine mT_s rfl rfl ?_
  (apply mT_getf; (case hc => rfl); (case ha => first | rfl | assumption); (case hf => first | rfl | assumption))
  iterate 5 refine mT_s rfl rfl ?_
  (apply mT_laldK; (case hc => rfl); (case ha => first | rfl | assumption); (case hk => first | (simp only [ki_0, ki_1, ki_2, ki_3, ki_4, ki_5, ki_6, ki_7, ki_8, ki_9, ki_10, ki_11, ki_12, ki_17, ki_20, ki_21, ki_22, ki_42, ki_50, ki_58, ki_66, ki_74, ki_140, ki_174, ki_179, ki_184, ki_189, ki_441, ki_13, nI_add, pk_mul]; with_reducible rfl) | (simp only [ki_0, ki_1, ki_2, ki_3, ki_4, ki_5, ki_6, ki_7, ki_8, ki_9, ki_10, ki_11, ki_12, ki_17, ki_20, ki_21, ki_22, ki_42, ki_50, ki_58, ki_66, ki_74, ki_140, ki_174, ki_179, ki_184, ki_189, ki_441, ki_13, ix1, nI_add, pk_mul]; with_reducible rfl) | (simp only [ki_0, ki_1, ki_2, ki_3, ki_4, ki_5, ki_6, ki_7, ki_8, ki_9, ki_10, ki_11, ki_12, ki_17, ki_20, ki_21, ki_22, ki_42, ki_50, ki_58, ki_66, ki_74, ki_140, ki_174, ki_179, ki_184, ki_189, ki_441, ki_13, ix1, ix2, nI_add, pk_mul]; with_reducible rfl) | (simp only [ki_0, ki_1, ki_2, ki_3, ki_4, ki_5, ki_6, ki_7, ki_8, ki_9, ki_10, ki_11, ki_12, ki_17, ki_20, ki_21, ki_22, ki_42, ki_50, ki_58, ki_66, ki_74, ki_140, ki_174, ki_179, ki_184, ki_189, ki_441, ki_13, ix1, ix2, ix3, nI_add, pk_mul]; with_reducible rfl) | (simp (disch := omega) only [upd_n, ki_0, ki_1, ki_2, ki_3, ki_4, ki_5, ki_6, ki_7, ki_8, ki_9, ki_10, ki_11, ki_12, ki_17, ki_20, ki_21, ki_22, ki_42, ki_50, ki_58, ki_66, ki_74, ki_140, ki_174, ki_179, ki_184, ki_189, ki_441, ki_13, ix1, nI_add, pk_mul]; with_reducible rfl) | (simp (disch := omega) only [upd_n, ki_0, ki_1, ki_2, ki_3, ki_4, ki_5, ki_6, ki_7, ki_8, ki_9, ki_10, ki_11, ki_12, ki_17, ki_20, ki_21, ki_22, ki_42, ki_50, ki_58, ki_66, ki_74, ki_140, ki_174, ki_179, ki_184, ki_189, ki_441, ki_13, ix1, ix2, nI_add, pk_mul]; with_reducible rfl) | rfl); (case hlt => first | decide | omega); (case hn => first | decide | omega))
  iterate 2 refine mT_s rfl rfl ?_
  (apply mT_getf; (case hc => rfl); (case ha => first | rfl | assumption); (case hf => first | rfl | assumption))
  iterate 6 refine mT_s rfl rfl ?_
  (apply mT_lastK; (case hc => rfl); (case ha => first | rfl | assumption); (case hk => first | (simp only [ki_0, ki_1, ki_2, ki_3, ki_4, ki_5, ki_6, ki_7, ki_8, ki_9, ki_10, ki_11, ki_12, ki_17, ki_20, ki_21, ki_22, ki_42, ki_50, ki_58, ki_66, ki_74, ki_140, ki_174, ki_179, ki_184, ki_189, ki_441, ki_13, nI_add, pk_mul]; with_reducible rfl) | (simp only [ki_0, ki_1, ki_2, ki_3, ki_4, ki_5, ki_6, ki_7, ki_8, ki_9, ki_10, ki_11, ki_12, ki_17, ki_20, ki_21, ki_22, ki_42, ki_50, ki_58, ki_66, ki_74, ki_140, ki_174, ki_179, ki_184, ki_189, ki_441, ki_13, ix1, nI_add, pk_mul]; with_reducible rfl) | (simp only [ki_0, ki_1, ki_2, ki_3, ki_4, ki_5, ki_6, ki_7, ki_8, ki_9, ki_10, ki_11, ki_12, ki_17, ki_20, ki_21, ki_22, ki_42, ki_50, ki_58, ki_66, ki_74, ki_140, ki_174, ki_179, ki_184, ki_189, ki_441, ki_13, ix1, ix2, nI_add, pk_mul]; with_reducible rfl) | (simp only [ki_0, ki_1, ki_2, ki_3, ki_4, ki_5, ki_6, ki_7, ki_8, ki_9, ki_10, ki_11, ki_12, ki_17, ki_20, ki_21, ki_22, ki_42, ki_50, ki_58, ki_66, ki_74, ki_140, ki_174, ki_179, ki_184, ki_189, ki_441, ki_13, ix1, ix2, ix3, nI_add, pk_mul]; with_reducible rfl) | (simp (disch := omega) only [upd_n, ki_0, ki_1, ki_2, ki_3, ki_4, ki_5, ki_6, ki_7, ki_8, ki_9, ki_10, ki_11, ki_12, ki_17, ki_20, ki_21, ki_22, ki_42, ki_50, ki_58, ki_66, ki_74, ki_140, ki_174, ki_179, ki_184, ki_189, ki_441, ki_13, ix1, nI_add, pk_mul]; with_reducible rfl) | (simp (disch := omega) only [upd_n, ki_0, ki_1, ki_2, ki_3, ki_4, ki_5, ki_6, ki_7, ki_8, ki_9, ki_10, ki_11, ki_12, ki_17, ki_20, ki_21, ki_22, ki_42, ki_50, ki_58, ki_66, ki_74, ki_140, ki_174, ki_179, ki_184, ki_189, ki_441, ki_13, ix1, ix2, nI_add, pk_mul]; with_reducible rfl) | rfl); (case hlt => first | decide | omega); (case hn => first | decide | omega); (case hN => assumption); (case hg => rfl))
  refine mT_s rfl rfl ?_
  refine mT_ret rfl rfl ?_
  exact K _ (fun a z => m_up_n z) ⟨hC, ⟨pf, hpf, ep⟩, ⟨lf, hlf, el⟩, rfl, hI.set hw hl⟩

theorem x_add_58 (d : Nat) (h : mH) (Q : Option Value → mH → Prop) (sz : Nat) (P lb : Nat → Nat) (W : Nat → Int64) (hN : 87 ≤ m_nx h) (C : cCl h 58 sz P lb W)  (p w : Nat) (hp : p < 400) (hw : w < 13) (x : Int64) (K : ∀ h2 sz2 P2 lb2, (∀ a, a < 58 ∨ 61 < a → h2 a = h a) → cCl h2 58 sz2 P2 lb2 (vp_updL W (p * 13 + w) (W (p * 13 + w) + x)) → Q none h2) : mT0 d z_X1_add 0 (m_init z_X1_add [.ref 58, .int (nI p), .int (nI w), .long x]) [] h Q := by
  obtain ⟨hC, ⟨pf, hpf, ep⟩, ⟨lf, hlf, el⟩, hW, hI⟩ := C
  have hC : h 58 = .inr (1, [.ref 59, .int (nI sz), .ref 60, .ref 61]) := hC
  have hpf : h 59 = _ := hpf
  have hlf : h 60 = _ := hlf
  have hW : h 61 = _ := hW
  refine mT_s rfl rfl ?_
  (apply mT_getf; (case hc => rfl); (case ha => first | rfl | assumption); (case hf => first | rfl | assumption))
  refine mT_s rfl rfl ?_
  (apply mT_baldK; (case hc => rfl); (case ha => first | rfl | assumption); (case hk => first | (simp only [ki_0, ki_1, ki_2, ki_3, ki_4, ki_5, ki_6, ki_7, ki_8, ki_9, ki_10, ki_11, ki_12, ki_17, ki_20, ki_21, ki_22, ki_42, ki_50, ki_58, ki_66, ki_74, ki_140, ki_174, ki_179, ki_184, ki_189, ki_441, ki_13, nI_add, pk_mul]; with_reducible rfl) | (simp only [ki_0, ki_1, ki_2, ki_3, ki_4, ki_5, ki_6, ki_7, ki_8, ki_9, ki_10, ki_11, ki_12, ki_17, ki_20, ki_21, ki_22, ki_42, ki_50, ki_58, ki_66, ki_74, ki_140, ki_174, ki_179, ki_184, ki_189, ki_441, ki_13, ix1, nI_add, pk_mul]; with_reducible rfl) | (simp only [ki_0, ki_1, ki_2, ki_3, ki_4, ki_5, ki_6, ki_7, ki_8, ki_9, ki_10, ki_11, ki_12, ki_17, ki_20, ki_21, ki_22, ki_42, ki_50, ki_58, ki_66, ki_74, ki_140, ki_174, ki_179, ki_184, ki_189, ki_441, ki_13, ix1, ix2, nI_add, pk_mul]; with_reducible rfl) | (simp only [ki_0, ki_1, ki_2, ki_3, ki_4, ki_5, ki_6, ki_7, ki_8, ki_9, ki_10, ki_11, ki_12, ki_17, ki_20, ki_21, ki_22, ki_42, ki_50, ki_58, ki_66, ki_74, ki_140, ki_174, ki_179, ki_184, ki_189, ki_441, ki_13, ix1, ix2, ix3, nI_add, pk_mul]; with_reducible rfl) | (simp (disch := omega) only [upd_n, ki_0, ki_1, ki_2, ki_3, ki_4, ki_5, ki_6, ki_7, ki_8, ki_9, ki_10, ki_11, ki_12, ki_17, ki_20, ki_21, ki_22, ki_42, ki_50, ki_58, ki_66, ki_74, ki_140, ki_174, ki_179, ki_184, ki_189, ki_441, ki_13, ix1, nI_add, pk_mul]; with_reducible rfl) | (simp (disch := omega) only [upd_n, ki_0, ki_1, ki_2, ki_3, ki_4, ki_5, ki_6, ki_7, ki_8, ki_9, ki_10, ki_11, ki_12, ki_17, ki_20, ki_21, ki_22, ki_42, ki_50, ki_58, ki_66, ki_74, ki_140, ki_174, ki_179, ki_184, ki_189, ki_441, ki_13, ix1, ix2, nI_add, pk_mul]; with_reducible rfl) | rfl); (case hlt => first | decide | omega); (case hn => first | decide | omega))
  refine mT_if_ne rfl (fun c6 => ?_) (fun c6 => ?_)
  · rw [el p hp] at c6
    have c6 : lb p = 1 := by
      have h1 := hI.1 p hp
      rcases Nat.eq_zero_or_pos (lb p) with z | z
      · exact absurd (congrArg nI z) c6
      · omega
    refine mT_s rfl rfl ?_
    (apply mT_getf; (case hc => rfl); (case ha => first | rfl | assumption); (case hf => first | rfl | assumption))
    iterate 6 refine mT_s rfl rfl ?_
    (apply mT_laldK; (case hc => rfl); (case ha => first | rfl | assumption); (case hk => first | (simp only [ki_0, ki_1, ki_2, ki_3, ki_4, ki_5, ki_6, ki_7, ki_8, ki_9, ki_10, ki_11, ki_12, ki_17, ki_20, ki_21, ki_22, ki_42, ki_50, ki_58, ki_66, ki_74, ki_140, ki_174, ki_179, ki_184, ki_189, ki_441, ki_13, nI_add, pk_mul]; with_reducible rfl) | (simp only [ki_0, ki_1, ki_2, ki_3, ki_4, ki_5, ki_6, ki_7, ki_8, ki_9, ki_10, ki_11, ki_12, ki_17, ki_20, ki_21, ki_22, ki_42, ki_50, ki_58, ki_66, ki_74, ki_140, ki_174, ki_179, ki_184, ki_189, ki_441, ki_13, ix1, nI_add, pk_mul]; with_reducible rfl) | (simp only [ki_0, ki_1, ki_2, ki_3, ki_4, ki_5, ki_6, ki_7, ki_8, ki_9, ki_10, ki_11, ki_12, ki_17, ki_20, ki_21, ki_22, ki_42, ki_50, ki_58, ki_66, ki_74, ki_140, ki_174, ki_179, ki_184, ki_189, ki_441, ki_13, ix1, ix2, nI_add, pk_mul]; with_reducible rfl) | (simp only [ki_0, ki_1, ki_2, ki_3, ki_4, ki_5, ki_6, ki_7, ki_8, ki_9, ki_10, ki_11, ki_12, ki_17, ki_20, ki_21, ki_22, ki_42, ki_50, ki_58, ki_66, ki_74, ki_140, ki_174, ki_179, ki_184, ki_189, ki_441, ki_13, ix1, ix2, ix3, nI_add, pk_mul]; with_reducible rfl) | (simp (disch := omega) only [upd_n, ki_0, ki_1, ki_2, ki_3, ki_4, ki_5, ki_6, ki_7, ki_8, ki_9, ki_10, ki_11, ki_12, ki_17, ki_20, ki_21, ki_22, ki_42, ki_50, ki_58, ki_66, ki_74, ki_140, ki_174, ki_179, ki_184, ki_189, ki_441, ki_13, ix1, nI_add, pk_mul]; with_reducible rfl) | (simp (disch := omega) only [upd_n, ki_0, ki_1, ki_2, ki_3, ki_4, ki_5, ki_6, ki_7, ki_8, ki_9, ki_10, ki_11, ki_12, ki_17, ki_20, ki_21, ki_22, ki_42, ki_50, ki_58, ki_66, ki_74, ki_140, ki_174, ki_179, ki_184, ki_189, ki_441, ki_13, ix1, ix2, nI_add, pk_mul]; with_reducible rfl) | rfl); (case hlt => first | decide | omega); (case hn => first | decide | omega))
    iterate 2 refine mT_s rfl rfl ?_
    (apply mT_lastK; (case hc => rfl); (case ha => first | rfl | assumption); (case hk => first | (simp only [ki_0, ki_1, ki_2, ki_3, ki_4, ki_5, ki_6, ki_7, ki_8, ki_9, ki_10, ki_11, ki_12, ki_17, ki_20, ki_21, ki_22, ki_42, ki_50, ki_58, ki_66, ki_74, ki_140, ki_174, ki_179, ki_184, ki_189, ki_441, ki_13, nI_add, pk_mul]; with_reducible rfl) | (simp only [ki_0, ki_1, ki_2, ki_3, ki_4, ki_5, ki_6, ki_7, ki_8, ki_9, ki_10, ki_11, ki_12, ki_17, ki_20, ki_21, ki_22, ki_42, ki_50, ki_58, ki_66, ki_74, ki_140, ki_174, ki_179, ki_184, ki_189, ki_441, ki_13, ix1, nI_add, pk_mul]; with_reducible rfl) | (simp only [ki_0, ki_1, ki_2, ki_3, ki_4, ki_5, ki_6, ki_7, ki_8, ki_9, ki_10, ki_11, ki_12, ki_17, ki_20, ki_21, ki_22, ki_42, ki_50, ki_58, ki_66, ki_74, ki_140, ki_174, ki_179, ki_184, ki_189, ki_441, ki_13, ix1, ix2, nI_add, pk_mul]; with_reducible rfl) | (simp only [ki_0, ki_1, ki_2, ki_3, ki_4, ki_5, ki_6, ki_7, ki_8, ki_9, ki_10, ki_11, ki_12, ki_17, ki_20, ki_21, ki_22, ki_42, ki_50, ki_58, ki_66, ki_74, ki_140, ki_174, ki_179, ki_184, ki_189, ki_441, ki_13, ix1, ix2, ix3, nI_add, pk_mul]; with_reducible rfl) | (simp (disch := omega) only [upd_n, ki_0, ki_1, ki_2, ki_3, ki_4, ki_5, ki_6, ki_7, ki_8, ki_9, ki_10, ki_11, ki_12, ki_17, ki_20, ki_21, ki_22, ki_42, ki_50, ki_58, ki_66, ki_74, ki_140, ki_174, ki_179, ki_184, ki_189, ki_441, ki_13, ix1, nI_add, pk_mul]; with_reducible rfl) | (simp (disch := omega) only [upd_n, ki_0, ki_1, ki_2, ki_3, ki_4, ki_5, ki_6, ki_7, ki_8, ki_9, ki_10, ki_11, ki_12, ki_17, ki_20, ki_21, ki_22, ki_42, ki_50, ki_58, ki_66, ki_74, ki_140, ki_174, ki_179, ki_184, ki_189, ki_441, ki_13, ix1, ix2, nI_add, pk_mul]; with_reducible rfl) | rfl); (case hlt => first | decide | omega); (case hn => first | decide | omega); (case hN => assumption); (case hg => rfl))
    refine mT_ret rfl rfl ?_
    exact K _ sz P lb (fun a z => m_up_n (by omega)) ⟨hC, ⟨pf, hpf, ep⟩, ⟨lf, hlf, el⟩, rfl, hI.set hw c6⟩
  · rw [el p hp] at c6
    have c6 : lb p = 0 := (nI_eq (b := 0) (by have := hI.1 p hp; omega) (by omega)).mp c6
    have hA := hI.add hp c6
    have hlt := hA.2
    refine mT_s rfl rfl ?_
    (apply mT_getf; (case hc => rfl); (case ha => first | rfl | assumption); (case hf => first | rfl | assumption))
    iterate 2 refine mT_s rfl rfl ?_
    (apply mT_bastK; (case hc => rfl); (case ha => first | rfl | assumption); (case hk => first | (simp only [ki_0, ki_1, ki_2, ki_3, ki_4, ki_5, ki_6, ki_7, ki_8, ki_9, ki_10, ki_11, ki_12, ki_17, ki_20, ki_21, ki_22, ki_42, ki_50, ki_58, ki_66, ki_74, ki_140, ki_174, ki_179, ki_184, ki_189, ki_441, ki_13, nI_add, pk_mul]; with_reducible rfl) | (simp only [ki_0, ki_1, ki_2, ki_3, ki_4, ki_5, ki_6, ki_7, ki_8, ki_9, ki_10, ki_11, ki_12, ki_17, ki_20, ki_21, ki_22, ki_42, ki_50, ki_58, ki_66, ki_74, ki_140, ki_174, ki_179, ki_184, ki_189, ki_441, ki_13, ix1, nI_add, pk_mul]; with_reducible rfl) | (simp only [ki_0, ki_1, ki_2, ki_3, ki_4, ki_5, ki_6, ki_7, ki_8, ki_9, ki_10, ki_11, ki_12, ki_17, ki_20, ki_21, ki_22, ki_42, ki_50, ki_58, ki_66, ki_74, ki_140, ki_174, ki_179, ki_184, ki_189, ki_441, ki_13, ix1, ix2, nI_add, pk_mul]; with_reducible rfl) | (simp only [ki_0, ki_1, ki_2, ki_3, ki_4, ki_5, ki_6, ki_7, ki_8, ki_9, ki_10, ki_11, ki_12, ki_17, ki_20, ki_21, ki_22, ki_42, ki_50, ki_58, ki_66, ki_74, ki_140, ki_174, ki_179, ki_184, ki_189, ki_441, ki_13, ix1, ix2, ix3, nI_add, pk_mul]; with_reducible rfl) | (simp (disch := omega) only [upd_n, ki_0, ki_1, ki_2, ki_3, ki_4, ki_5, ki_6, ki_7, ki_8, ki_9, ki_10, ki_11, ki_12, ki_17, ki_20, ki_21, ki_22, ki_42, ki_50, ki_58, ki_66, ki_74, ki_140, ki_174, ki_179, ki_184, ki_189, ki_441, ki_13, ix1, nI_add, pk_mul]; with_reducible rfl) | (simp (disch := omega) only [upd_n, ki_0, ki_1, ki_2, ki_3, ki_4, ki_5, ki_6, ki_7, ki_8, ki_9, ki_10, ki_11, ki_12, ki_17, ki_20, ki_21, ki_22, ki_42, ki_50, ki_58, ki_66, ki_74, ki_140, ki_174, ki_179, ki_184, ki_189, ki_441, ki_13, ix1, ix2, nI_add, pk_mul]; with_reducible rfl) | rfl); (case hlt => first | decide | omega); (case hn => first | decide | omega); (case hN => assumption); (case hg => rfl); (case hb => first | exact Or.inl rfl | exact Or.inr rfl))
    refine mT_s rfl rfl ?_
    (apply mT_getf; (case hc => rfl); (case ha => first | rfl | assumption); (case hf => first | rfl | assumption))
    refine mT_s rfl rfl ?_
    (apply mT_getf; (case hc => rfl); (case ha => first | rfl | assumption); (case hf => first | rfl | assumption))
    refine mT_s rfl rfl ?_
    (apply mT_iastK; (case hc => rfl); (case ha => first | rfl | assumption); (case hk => first | (simp only [ki_0, ki_1, ki_2, ki_3, ki_4, ki_5, ki_6, ki_7, ki_8, ki_9, ki_10, ki_11, ki_12, ki_17, ki_20, ki_21, ki_22, ki_42, ki_50, ki_58, ki_66, ki_74, ki_140, ki_174, ki_179, ki_184, ki_189, ki_441, ki_13, nI_add, pk_mul]; with_reducible rfl) | (simp only [ki_0, ki_1, ki_2, ki_3, ki_4, ki_5, ki_6, ki_7, ki_8, ki_9, ki_10, ki_11, ki_12, ki_17, ki_20, ki_21, ki_22, ki_42, ki_50, ki_58, ki_66, ki_74, ki_140, ki_174, ki_179, ki_184, ki_189, ki_441, ki_13, ix1, nI_add, pk_mul]; with_reducible rfl) | (simp only [ki_0, ki_1, ki_2, ki_3, ki_4, ki_5, ki_6, ki_7, ki_8, ki_9, ki_10, ki_11, ki_12, ki_17, ki_20, ki_21, ki_22, ki_42, ki_50, ki_58, ki_66, ki_74, ki_140, ki_174, ki_179, ki_184, ki_189, ki_441, ki_13, ix1, ix2, nI_add, pk_mul]; with_reducible rfl) | (simp only [ki_0, ki_1, ki_2, ki_3, ki_4, ki_5, ki_6, ki_7, ki_8, ki_9, ki_10, ki_11, ki_12, ki_17, ki_20, ki_21, ki_22, ki_42, ki_50, ki_58, ki_66, ki_74, ki_140, ki_174, ki_179, ki_184, ki_189, ki_441, ki_13, ix1, ix2, ix3, nI_add, pk_mul]; with_reducible rfl) | (simp (disch := omega) only [upd_n, ki_0, ki_1, ki_2, ki_3, ki_4, ki_5, ki_6, ki_7, ki_8, ki_9, ki_10, ki_11, ki_12, ki_17, ki_20, ki_21, ki_22, ki_42, ki_50, ki_58, ki_66, ki_74, ki_140, ki_174, ki_179, ki_184, ki_189, ki_441, ki_13, ix1, nI_add, pk_mul]; with_reducible rfl) | (simp (disch := omega) only [upd_n, ki_0, ki_1, ki_2, ki_3, ki_4, ki_5, ki_6, ki_7, ki_8, ki_9, ki_10, ki_11, ki_12, ki_17, ki_20, ki_21, ki_22, ki_42, ki_50, ki_58, ki_66, ki_74, ki_140, ki_174, ki_179, ki_184, ki_189, ki_441, ki_13, ix1, ix2, nI_add, pk_mul]; with_reducible rfl) | rfl); (case hlt => first | decide | omega); (case hn => first | decide | omega); (case hN => assumption); (case hg => rfl))
    iterate 2 refine mT_s rfl rfl ?_
    (apply mT_getf; (case hc => rfl); (case ha => first | rfl | assumption); (case hf => first | rfl | assumption))
    iterate 2 refine mT_s rfl rfl ?_
    (apply mT_putfN; (case hc => rfl); (case ha => first | rfl | assumption); (case hN => assumption); (case hg => rfl))
    refine mT_s rfl rfl ?_
    (apply mT_getf; (case hc => rfl); (case ha => first | rfl | assumption); (case hf => first | rfl | assumption))
    iterate 6 refine mT_s rfl rfl ?_
    (apply mT_laldK; (case hc => rfl); (case ha => first | rfl | assumption); (case hk => first | (simp only [ki_0, ki_1, ki_2, ki_3, ki_4, ki_5, ki_6, ki_7, ki_8, ki_9, ki_10, ki_11, ki_12, ki_17, ki_20, ki_21, ki_22, ki_42, ki_50, ki_58, ki_66, ki_74, ki_140, ki_174, ki_179, ki_184, ki_189, ki_441, ki_13, nI_add, pk_mul]; with_reducible rfl) | (simp only [ki_0, ki_1, ki_2, ki_3, ki_4, ki_5, ki_6, ki_7, ki_8, ki_9, ki_10, ki_11, ki_12, ki_17, ki_20, ki_21, ki_22, ki_42, ki_50, ki_58, ki_66, ki_74, ki_140, ki_174, ki_179, ki_184, ki_189, ki_441, ki_13, ix1, nI_add, pk_mul]; with_reducible rfl) | (simp only [ki_0, ki_1, ki_2, ki_3, ki_4, ki_5, ki_6, ki_7, ki_8, ki_9, ki_10, ki_11, ki_12, ki_17, ki_20, ki_21, ki_22, ki_42, ki_50, ki_58, ki_66, ki_74, ki_140, ki_174, ki_179, ki_184, ki_189, ki_441, ki_13, ix1, ix2, nI_add, pk_mul]; with_reducible rfl) | (simp only [ki_0, ki_1, ki_2, ki_3, ki_4, ki_5, ki_6, ki_7, ki_8, ki_9, ki_10, ki_11, ki_12, ki_17, ki_20, ki_21, ki_22, ki_42, ki_50, ki_58, ki_66, ki_74, ki_140, ki_174, ki_179, ki_184, ki_189, ki_441, ki_13, ix1, ix2, ix3, nI_add, pk_mul]; with_reducible rfl) | (simp (disch := omega) only [upd_n, ki_0, ki_1, ki_2, ki_3, ki_4, ki_5, ki_6, ki_7, ki_8, ki_9, ki_10, ki_11, ki_12, ki_17, ki_20, ki_21, ki_22, ki_42, ki_50, ki_58, ki_66, ki_74, ki_140, ki_174, ki_179, ki_184, ki_189, ki_441, ki_13, ix1, nI_add, pk_mul]; with_reducible rfl) | (simp (disch := omega) only [upd_n, ki_0, ki_1, ki_2, ki_3, ki_4, ki_5, ki_6, ki_7, ki_8, ki_9, ki_10, ki_11, ki_12, ki_17, ki_20, ki_21, ki_22, ki_42, ki_50, ki_58, ki_66, ki_74, ki_140, ki_174, ki_179, ki_184, ki_189, ki_441, ki_13, ix1, ix2, nI_add, pk_mul]; with_reducible rfl) | rfl); (case hlt => first | decide | omega); (case hn => first | decide | omega))
    iterate 2 refine mT_s rfl rfl ?_
    (apply mT_lastK; (case hc => rfl); (case ha => first | rfl | assumption); (case hk => first | (simp only [ki_0, ki_1, ki_2, ki_3, ki_4, ki_5, ki_6, ki_7, ki_8, ki_9, ki_10, ki_11, ki_12, ki_17, ki_20, ki_21, ki_22, ki_42, ki_50, ki_58, ki_66, ki_74, ki_140, ki_174, ki_179, ki_184, ki_189, ki_441, ki_13, nI_add, pk_mul]; with_reducible rfl) | (simp only [ki_0, ki_1, ki_2, ki_3, ki_4, ki_5, ki_6, ki_7, ki_8, ki_9, ki_10, ki_11, ki_12, ki_17, ki_20, ki_21, ki_22, ki_42, ki_50, ki_58, ki_66, ki_74, ki_140, ki_174, ki_179, ki_184, ki_189, ki_441, ki_13, ix1, nI_add, pk_mul]; with_reducible rfl) | (simp only [ki_0, ki_1, ki_2, ki_3, ki_4, ki_5, ki_6, ki_7, ki_8, ki_9, ki_10, ki_11, ki_12, ki_17, ki_20, ki_21, ki_22, ki_42, ki_50, ki_58, ki_66, ki_74, ki_140, ki_174, ki_179, ki_184, ki_189, ki_441, ki_13, ix1, ix2, nI_add, pk_mul]; with_reducible rfl) | (simp only [ki_0, ki_1, ki_2, ki_3, ki_4, ki_5, ki_6, ki_7, ki_8, ki_9, ki_10, ki_11, ki_12, ki_17, ki_20, ki_21, ki_22, ki_42, ki_50, ki_58, ki_66, ki_74, ki_140, ki_174, ki_179, ki_184, ki_189, ki_441, ki_13, ix1, ix2, ix3, nI_add, pk_mul]; with_reducible rfl) | (simp (disch := omega) only [upd_n, ki_0, ki_1, ki_2, ki_3, ki_4, ki_5, ki_6, ki_7, ki_8, ki_9, ki_10, ki_11, ki_12, ki_17, ki_20, ki_21, ki_22, ki_42, ki_50, ki_58, ki_66, ki_74, ki_140, ki_174, ki_179, ki_184, ki_189, ki_441, ki_13, ix1, nI_add, pk_mul]; with_reducible rfl) | (simp (disch := omega) only [upd_n, ki_0, ki_1, ki_2, ki_3, ki_4, ki_5, ki_6, ki_7, ki_8, ki_9, ki_10, ki_11, ki_12, ki_17, ki_20, ki_21, ki_22, ki_42, ki_50, ki_58, ki_66, ki_74, ki_140, ki_174, ki_179, ki_184, ki_189, ki_441, ki_13, ix1, ix2, nI_add, pk_mul]; with_reducible rfl) | rfl); (case hlt => first | decide | omega); (case hn => first | decide | omega); (case hN => assumption); (case hg => rfl))
    refine mT_ret rfl rfl ?_
    have hA9 := hA.1.set (x := W (p * 13 + w) + x) hw (updM_s lb p 1)
    rw [nI_1]
    refine K _ (sz + 1) (updM P sz p) (updM lb p 1) (fun a z => ?_) ⟨rfl, ⟨_, rfl, fun j hj => ?_⟩, ⟨_, rfl, fun q hq => ?_⟩, rfl, hA9⟩
    · rw [m_up_n (show a ≠ 61 by omega), m_up_n (show a ≠ 58 by omega), m_up_n (show a ≠ 59 by omega), m_up_n (show a ≠ 60 by omega)]
    · by_cases e : j = sz
      · subst e; rw [upd_s, updM_s]
      · rw [upd_n _ _ e, updM_n _ e]; exact ep j (by omega)
    · by_cases e : q = p
      · subst e; rw [upd_s, updM_s]; rfl
      · rw [upd_n _ _ e, updM_n _ e]; exact el q hq

theorem x_clr_I58 (d : Nat) (h : mH) (Q : Option Value → mH → Prop) (sz : Nat) (P lb : Nat → Nat) (W : Nat → Int64) (hN : 87 ≤ m_nx h) (C : cCl h 58 sz P lb W) (i : Nat) (hi9 : i < sz) (lf2 : Nat → Int32) (K : ∀ W2 : Nat → Int64, (∀ k, k < 5200 → W2 k = 0 ∨ (W2 k = W k ∧ ∀ j, j < i + 1 → P j ≠ k / 13)) → mT0 d z_X1_clear 53 [some (.ref 58), some (.int (nI i)), some (.int (nI 13))] [] (m_up (m_up h 60 (.inl (2, 400, .inl lf2))) 61 (.inl (1, 5200, .inr (.inl W2)))) Q) : ∀ (r w : Nat) (W2 : Nat → Int64), w + r = 13 → (∀ k, k < 5200 → W2 k = 0 ∨ (W2 k = W k ∧ (∀ j, j < i → P j ≠ k / 13) ∧ ¬ (k / 13 = P i ∧ k % 13 < w))) → mT0 d z_X1_clear 24 [some (.ref 58), some (.int (nI i)), some (.int (nI w))] [] (m_up (m_up h 60 (.inl (2, 400, .inl lf2))) 61 (.inl (1, 5200, .inr (.inl W2)))) Q := by
  obtain ⟨hC, ⟨pf, hpf, ep⟩, ⟨lf, hlf, el⟩, hW, hI⟩ := C
  have hC : h 58 = .inr (1, [.ref 59, .int (nI sz), .ref 60, .ref 61]) := hC
  have hpf : h 59 = _ := hpf
  have hlf : h 60 = _ := hlf
  have hW : h 61 = _ := hW
  have ix1 := ep i hi9
  have hPi := (hI.2.2.1 i hi9).1
  have hszle := hI.le
  intro r
  induction r with
  | zero =>
    intro w W2 hk hi
    iterate 2 refine mT_s rfl rfl ?_
    refine mT_icmp_ge rfl (fun _ => ?_) (fun c => absurd (nI_le (a := 13) (b := w) (by omega) (by omega)) c)
    obtain rfl : w = 13 := by omega
    refine K W2 (fun k hk => ?_)
    rcases hi k hk with z | ⟨z1, z2, z3⟩
    · exact Or.inl z
    · refine Or.inr ⟨z1, fun j hj => ?_⟩
      by_cases e : j = i
      · subst e
        exact fun z => z3 ⟨z.symm, by omega⟩
      · exact z2 j (by omega)
  | succ r ih =>
    intro w W2 hk hi
    iterate 2 refine mT_s rfl rfl ?_
    refine mT_icmp_ge rfl (fun c => absurd c (nI_ge (a := w) (b := 13) (by omega) (by omega))) (fun _ => ?_)
    refine mT_s rfl rfl ?_
    (apply mT_getf; (case hc => rfl); (case ha => first | rfl | assumption); (case hf => first | rfl | assumption))
    refine mT_s rfl rfl ?_
    (apply mT_getf; (case hc => rfl); (case ha => first | rfl | assumption); (case hf => first | rfl | assumption))
    refine mT_s rfl rfl ?_
    (apply mT_ialdK; (case hc => rfl); (case ha => first | rfl | assumption); (case hk => first | (simp only [ki_0, ki_1, ki_2, ki_3, ki_4, ki_5, ki_6, ki_7, ki_8, ki_9, ki_10, ki_11, ki_12, ki_17, ki_20, ki_21, ki_22, ki_42, ki_50, ki_58, ki_66, ki_74, ki_140, ki_174, ki_179, ki_184, ki_189, ki_441, ki_13, nI_add, pk_mul]; with_reducible rfl) | (simp only [ki_0, ki_1, ki_2, ki_3, ki_4, ki_5, ki_6, ki_7, ki_8, ki_9, ki_10, ki_11, ki_12, ki_17, ki_20, ki_21, ki_22, ki_42, ki_50, ki_58, ki_66, ki_74, ki_140, ki_174, ki_179, ki_184, ki_189, ki_441, ki_13, ix1, nI_add, pk_mul]; with_reducible rfl) | (simp only [ki_0, ki_1, ki_2, ki_3, ki_4, ki_5, ki_6, ki_7, ki_8, ki_9, ki_10, ki_11, ki_12, ki_17, ki_20, ki_21, ki_22, ki_42, ki_50, ki_58, ki_66, ki_74, ki_140, ki_174, ki_179, ki_184, ki_189, ki_441, ki_13, ix1, ix2, nI_add, pk_mul]; with_reducible rfl) | (simp only [ki_0, ki_1, ki_2, ki_3, ki_4, ki_5, ki_6, ki_7, ki_8, ki_9, ki_10, ki_11, ki_12, ki_17, ki_20, ki_21, ki_22, ki_42, ki_50, ki_58, ki_66, ki_74, ki_140, ki_174, ki_179, ki_184, ki_189, ki_441, ki_13, ix1, ix2, ix3, nI_add, pk_mul]; with_reducible rfl) | (simp (disch := omega) only [upd_n, ki_0, ki_1, ki_2, ki_3, ki_4, ki_5, ki_6, ki_7, ki_8, ki_9, ki_10, ki_11, ki_12, ki_17, ki_20, ki_21, ki_22, ki_42, ki_50, ki_58, ki_66, ki_74, ki_140, ki_174, ki_179, ki_184, ki_189, ki_441, ki_13, ix1, nI_add, pk_mul]; with_reducible rfl) | (simp (disch := omega) only [upd_n, ki_0, ki_1, ki_2, ki_3, ki_4, ki_5, ki_6, ki_7, ki_8, ki_9, ki_10, ki_11, ki_12, ki_17, ki_20, ki_21, ki_22, ki_42, ki_50, ki_58, ki_66, ki_74, ki_140, ki_174, ki_179, ki_184, ki_189, ki_441, ki_13, ix1, ix2, nI_add, pk_mul]; with_reducible rfl) | rfl); (case hlt => first | decide | omega); (case hn => first | decide | omega))
    iterate 5 refine mT_s rfl rfl ?_
    (apply mT_lastK; (case hc => rfl); (case ha => first | rfl | assumption); (case hk => first | (simp only [ki_0, ki_1, ki_2, ki_3, ki_4, ki_5, ki_6, ki_7, ki_8, ki_9, ki_10, ki_11, ki_12, ki_17, ki_20, ki_21, ki_22, ki_42, ki_50, ki_58, ki_66, ki_74, ki_140, ki_174, ki_179, ki_184, ki_189, ki_441, ki_13, nI_add, pk_mul]; with_reducible rfl) | (simp only [ki_0, ki_1, ki_2, ki_3, ki_4, ki_5, ki_6, ki_7, ki_8, ki_9, ki_10, ki_11, ki_12, ki_17, ki_20, ki_21, ki_22, ki_42, ki_50, ki_58, ki_66, ki_74, ki_140, ki_174, ki_179, ki_184, ki_189, ki_441, ki_13, ix1, nI_add, pk_mul]; with_reducible rfl) | (simp only [ki_0, ki_1, ki_2, ki_3, ki_4, ki_5, ki_6, ki_7, ki_8, ki_9, ki_10, ki_11, ki_12, ki_17, ki_20, ki_21, ki_22, ki_42, ki_50, ki_58, ki_66, ki_74, ki_140, ki_174, ki_179, ki_184, ki_189, ki_441, ki_13, ix1, ix2, nI_add, pk_mul]; with_reducible rfl) | (simp only [ki_0, ki_1, ki_2, ki_3, ki_4, ki_5, ki_6, ki_7, ki_8, ki_9, ki_10, ki_11, ki_12, ki_17, ki_20, ki_21, ki_22, ki_42, ki_50, ki_58, ki_66, ki_74, ki_140, ki_174, ki_179, ki_184, ki_189, ki_441, ki_13, ix1, ix2, ix3, nI_add, pk_mul]; with_reducible rfl) | (simp (disch := omega) only [upd_n, ki_0, ki_1, ki_2, ki_3, ki_4, ki_5, ki_6, ki_7, ki_8, ki_9, ki_10, ki_11, ki_12, ki_17, ki_20, ki_21, ki_22, ki_42, ki_50, ki_58, ki_66, ki_74, ki_140, ki_174, ki_179, ki_184, ki_189, ki_441, ki_13, ix1, nI_add, pk_mul]; with_reducible rfl) | (simp (disch := omega) only [upd_n, ki_0, ki_1, ki_2, ki_3, ki_4, ki_5, ki_6, ki_7, ki_8, ki_9, ki_10, ki_11, ki_12, ki_17, ki_20, ki_21, ki_22, ki_42, ki_50, ki_58, ki_66, ki_74, ki_140, ki_174, ki_179, ki_184, ki_189, ki_441, ki_13, ix1, ix2, nI_add, pk_mul]; with_reducible rfl) | rfl); (case hlt => first | decide | omega); (case hn => first | decide | omega); (case hN => assumption); (case hg => rfl))
    iterate 2 refine mT_s rfl rfl ?_
    rw [m_up_up, nI_1]
    refine ih (w + 1) _ (by omega) (fun k hk => ?_)
    by_cases e : k = P i * 13 + w
    · subst e; exact Or.inl pk_uLs
    · rw [pk_uLn e]
      rcases hi k hk with z | ⟨z1, z2, z3⟩
      · exact Or.inl z
      · refine Or.inr ⟨z1, z2, fun z => ?_⟩
        by_cases e2 : k % 13 < w
        · exact z3 ⟨z.1, e2⟩
        · exact e (by omega)
theorem x_clr_L58 (d : Nat) (h : mH) (Q : Option Value → mH → Prop) (sz : Nat) (P lb : Nat → Nat) (W : Nat → Int64) (hN : 87 ≤ m_nx h) (C : cCl h 58 sz P lb W) (K : ∀ h2, (∀ a, a < 58 ∨ 61 < a → h2 a = h a) → cZ h2 58 → Q none h2): ∀ (r i : Nat) (lf2 : Nat → Int32) (W2 : Nat → Int64) (x2 : Option Value), i + r = sz → (∀ p, p < 400 → lf2 p = 0 ∨ (lf2 p = nI (lb p) ∧ ∀ j, j < i → P j ≠ p)) → (∀ k, k < 5200 → W2 k = 0 ∨ (W2 k = W k ∧ ∀ j, j < i → P j ≠ k / 13)) → mT0 d z_X1_clear 2 [some (.ref 58), some (.int (nI i)), x2] [] (m_up (m_up h 60 (.inl (2, 400, .inl lf2))) 61 (.inl (1, 5200, .inr (.inl W2)))) Q := by
  obtain ⟨hC, ⟨pf, hpf, ep⟩, ⟨lf, hlf, el⟩, hW, hI⟩ := C
  have hC : h 58 = .inr (1, [.ref 59, .int (nI sz), .ref 60, .ref 61]) := hC
  have hpf : h 59 = _ := hpf
  have hlf : h 60 = _ := hlf
  have hW : h 61 = _ := hW
  have hle := hI.le
  intro r
  induction r with
  | zero =>
    intro i lf2 W2 x2 hk hi1 hi2
    iterate 2 refine mT_s rfl rfl ?_
    (apply mT_getf; (case hc => rfl); (case ha => first | rfl | assumption); (case hf => first | rfl | assumption))
    refine mT_icmp_ge rfl (fun _ => ?_) (fun c => absurd (nI_le (a := sz) (b := i) (by omega) (by omega)) c)
    iterate 2 refine mT_s rfl rfl ?_
    (apply mT_putfN; (case hc => rfl); (case ha => first | rfl | assumption); (case hN => assumption); (case hg => rfl))
    refine mT_ret rfl rfl ?_
    obtain rfl : i = sz := by omega
    have hl2 : ∀ p, p < 400 → lf2 p = 0 := fun p hp => by
      rcases hi1 p hp with z | ⟨z1, z2⟩
      · exact z
      · rw [z1]
        have h1 := hI.1 p hp
        rcases Nat.eq_zero_or_pos (lb p) with z | z
        · rw [z]; rfl
        · obtain ⟨j, hj, e⟩ := hI.2.2.2.1 p hp (by omega)
          exact absurd e (z2 j hj)
    have hW2 : ∀ k, k < 5200 → W2 k = 0 := fun k hk => by
      rcases hi2 k hk with z | ⟨z1, z2⟩
      · exact z
      · rw [z1]
        have h1 := hI.1 (k / 13) (by omega)
        rcases Nat.eq_zero_or_pos (lb (k / 13)) with z | z
        · exact hI.2.2.2.2.1 k hk z
        · obtain ⟨j, hj, e⟩ := hI.2.2.2.1 (k / 13) (by omega) (by omega)
          exact absurd e (z2 j hj)
    refine K _ (fun a z => ?_) ⟨P, fun _ => 0, W2, ⟨rfl, ⟨pf, hpf, fun j hj => absurd hj (by omega)⟩, ⟨lf2, rfl, fun p hp => hl2 p hp⟩, rfl, cI_0 (fun _ _ => rfl) hW2⟩, hW2⟩
    rw [m_up_n (show a ≠ 58 by omega), m_up_n (show a ≠ 61 by omega), m_up_n (show a ≠ 60 by omega)]
  | succ r ih =>
    intro i lf2 W2 x2 hk hi1 hi2
    have ix1 := ep i (by omega)
    have hPi := (hI.2.2.1 i (by omega)).1
    iterate 2 refine mT_s rfl rfl ?_
    (apply mT_getf; (case hc => rfl); (case ha => first | rfl | assumption); (case hf => first | rfl | assumption))
    refine mT_icmp_ge rfl (fun c => absurd c (nI_ge (a := i) (b := sz) (by omega) (by omega))) (fun _ => ?_)
    refine mT_s rfl rfl ?_
    (apply mT_getf; (case hc => rfl); (case ha => first | rfl | assumption); (case hf => first | rfl | assumption))
    refine mT_s rfl rfl ?_
    (apply mT_getf; (case hc => rfl); (case ha => first | rfl | assumption); (case hf => first | rfl | assumption))
    refine mT_s rfl rfl ?_
    (apply mT_ialdK; (case hc => rfl); (case ha => first | rfl | assumption); (case hk => first | (simp only [ki_0, ki_1, ki_2, ki_3, ki_4, ki_5, ki_6, ki_7, ki_8, ki_9, ki_10, ki_11, ki_12, ki_17, ki_20, ki_21, ki_22, ki_42, ki_50, ki_58, ki_66, ki_74, ki_140, ki_174, ki_179, ki_184, ki_189, ki_441, ki_13, nI_add, pk_mul]; with_reducible rfl) | (simp only [ki_0, ki_1, ki_2, ki_3, ki_4, ki_5, ki_6, ki_7, ki_8, ki_9, ki_10, ki_11, ki_12, ki_17, ki_20, ki_21, ki_22, ki_42, ki_50, ki_58, ki_66, ki_74, ki_140, ki_174, ki_179, ki_184, ki_189, ki_441, ki_13, ix1, nI_add, pk_mul]; with_reducible rfl) | (simp only [ki_0, ki_1, ki_2, ki_3, ki_4, ki_5, ki_6, ki_7, ki_8, ki_9, ki_10, ki_11, ki_12, ki_17, ki_20, ki_21, ki_22, ki_42, ki_50, ki_58, ki_66, ki_74, ki_140, ki_174, ki_179, ki_184, ki_189, ki_441, ki_13, ix1, ix2, nI_add, pk_mul]; with_reducible rfl) | (simp only [ki_0, ki_1, ki_2, ki_3, ki_4, ki_5, ki_6, ki_7, ki_8, ki_9, ki_10, ki_11, ki_12, ki_17, ki_20, ki_21, ki_22, ki_42, ki_50, ki_58, ki_66, ki_74, ki_140, ki_174, ki_179, ki_184, ki_189, ki_441, ki_13, ix1, ix2, ix3, nI_add, pk_mul]; with_reducible rfl) | (simp (disch := omega) only [upd_n, ki_0, ki_1, ki_2, ki_3, ki_4, ki_5, ki_6, ki_7, ki_8, ki_9, ki_10, ki_11, ki_12, ki_17, ki_20, ki_21, ki_22, ki_42, ki_50, ki_58, ki_66, ki_74, ki_140, ki_174, ki_179, ki_184, ki_189, ki_441, ki_13, ix1, nI_add, pk_mul]; with_reducible rfl) | (simp (disch := omega) only [upd_n, ki_0, ki_1, ki_2, ki_3, ki_4, ki_5, ki_6, ki_7, ki_8, ki_9, ki_10, ki_11, ki_12, ki_17, ki_20, ki_21, ki_22, ki_42, ki_50, ki_58, ki_66, ki_74, ki_140, ki_174, ki_179, ki_184, ki_189, ki_441, ki_13, ix1, ix2, nI_add, pk_mul]; with_reducible rfl) | rfl); (case hlt => first | decide | omega); (case hn => first | decide | omega))
    refine mT_s rfl rfl ?_
    (apply mT_bastK; (case hc => rfl); (case ha => first | rfl | assumption); (case hk => first | (simp only [ki_0, ki_1, ki_2, ki_3, ki_4, ki_5, ki_6, ki_7, ki_8, ki_9, ki_10, ki_11, ki_12, ki_17, ki_20, ki_21, ki_22, ki_42, ki_50, ki_58, ki_66, ki_74, ki_140, ki_174, ki_179, ki_184, ki_189, ki_441, ki_13, nI_add, pk_mul]; with_reducible rfl) | (simp only [ki_0, ki_1, ki_2, ki_3, ki_4, ki_5, ki_6, ki_7, ki_8, ki_9, ki_10, ki_11, ki_12, ki_17, ki_20, ki_21, ki_22, ki_42, ki_50, ki_58, ki_66, ki_74, ki_140, ki_174, ki_179, ki_184, ki_189, ki_441, ki_13, ix1, nI_add, pk_mul]; with_reducible rfl) | (simp only [ki_0, ki_1, ki_2, ki_3, ki_4, ki_5, ki_6, ki_7, ki_8, ki_9, ki_10, ki_11, ki_12, ki_17, ki_20, ki_21, ki_22, ki_42, ki_50, ki_58, ki_66, ki_74, ki_140, ki_174, ki_179, ki_184, ki_189, ki_441, ki_13, ix1, ix2, nI_add, pk_mul]; with_reducible rfl) | (simp only [ki_0, ki_1, ki_2, ki_3, ki_4, ki_5, ki_6, ki_7, ki_8, ki_9, ki_10, ki_11, ki_12, ki_17, ki_20, ki_21, ki_22, ki_42, ki_50, ki_58, ki_66, ki_74, ki_140, ki_174, ki_179, ki_184, ki_189, ki_441, ki_13, ix1, ix2, ix3, nI_add, pk_mul]; with_reducible rfl) | (simp (disch := omega) only [upd_n, ki_0, ki_1, ki_2, ki_3, ki_4, ki_5, ki_6, ki_7, ki_8, ki_9, ki_10, ki_11, ki_12, ki_17, ki_20, ki_21, ki_22, ki_42, ki_50, ki_58, ki_66, ki_74, ki_140, ki_174, ki_179, ki_184, ki_189, ki_441, ki_13, ix1, nI_add, pk_mul]; with_reducible rfl) | (simp (disch := omega) only [upd_n, ki_0, ki_1, ki_2, ki_3, ki_4, ki_5, ki_6, ki_7, ki_8, ki_9, ki_10, ki_11, ki_12, ki_17, ki_20, ki_21, ki_22, ki_42, ki_50, ki_58, ki_66, ki_74, ki_140, ki_174, ki_179, ki_184, ki_189, ki_441, ki_13, ix1, ix2, nI_add, pk_mul]; with_reducible rfl) | rfl); (case hlt => first | decide | omega); (case hn => first | decide | omega); (case hN => assumption); (case hg => rfl); (case hb => first | exact Or.inl rfl | exact Or.inr rfl))
    iterate 2 refine mT_s rfl rfl ?_
    have hlf3 : ∀ p, p < 400 → upd lf2 (P i) 0 p = 0 ∨ (upd lf2 (P i) 0 p = nI (lb p) ∧ ∀ j, j < i + 1 → P j ≠ p) := fun p hp => by
      by_cases e : p = P i
      · subst e; exact Or.inl (upd_s _ _ _)
      · rw [upd_n _ _ e]
        rcases hi1 p hp with z | ⟨z1, z2⟩
        · exact Or.inl z
        · exact Or.inr ⟨z1, fun j hj => by
            by_cases e2 : j = i
            · subst e2; exact fun z => e z.symm
            · exact z2 j (by omega)⟩
    rw [m_up_sw (show 60 ≠ 61 by decide), m_up_up]
    refine x_clr_I58 d h Q sz P lb W hN ⟨hC, ⟨pf, hpf, ep⟩, ⟨lf, hlf, el⟩, hW, hI⟩ i (by omega) (upd lf2 (P i) 0) (fun W3 hW3 => ?_) 13 0 W2 (by omega) (fun k hk => ?_)
    · iterate 2 refine mT_s rfl rfl ?_
      rw [nI_1]
      exact ih (i + 1) _ _ _ (by omega) hlf3 hW3
    · rcases hi2 k hk with z | ⟨z1, z2⟩
      · exact Or.inl z
      · exact Or.inr ⟨z1, z2, fun z => absurd z.2 (Nat.not_lt_zero _)⟩
theorem x_clear_58 (d : Nat) (h : mH) (Q : Option Value → mH → Prop) (sz : Nat) (P lb : Nat → Nat) (W : Nat → Int64) (hN : 87 ≤ m_nx h) (C : cCl h 58 sz P lb W) (K : ∀ h2, (∀ a, a < 58 ∨ 61 < a → h2 a = h a) → cZ h2 58 → Q none h2): mT0 d z_X1_clear 0 (m_init z_X1_clear [.ref 58]) [] h Q := by
  obtain ⟨hC, ⟨pf, hpf, ep⟩, ⟨lf, hlf, el⟩, hW, hI⟩ := C
  have hC : h 58 = .inr (1, [.ref 59, .int (nI sz), .ref 60, .ref 61]) := hC
  have hpf : h 59 = _ := hpf
  have hlf : h 60 = _ := hlf
  have hW : h 61 = _ := hW
  iterate 2 refine mT_s rfl rfl ?_
  have z9 := x_clr_L58 d h Q sz P lb W hN ⟨hC, ⟨pf, hpf, ep⟩, ⟨lf, hlf, el⟩, hW, hI⟩ K sz 0 lf W none (by omega) (fun p hp => Or.inr ⟨el p hp, fun j hj => absurd hj (by omega)⟩) (fun k hk => Or.inr ⟨rfl, fun j hj => absurd hj (by omega)⟩)
  rw [m_up_id hlf, m_up_id hW] at z9
  exact z9