/-! By program (wip/whole/book*.py) and hand. -/
/-- the book: who won, who lost, whether the first one named won -/
def sB (s : Nat → Int32) (nb : Nat) (bA bB : Nat → Nat) (bW : Nat → Bool) : Prop := s 8 = nI nb ∧ nb ≤ 8 ∧ ∀ k, k < nb → s (42 + k) = nI (bA k) ∧ s (50 + k) = nI (bB k) ∧ s (58 + k) = bI (bW k) ∧ bA k < 5 ∧ bB k < 5 ∧ bA k ≠ bB k
def b_w (bA bB : Nat → Nat) (bW : Nat → Bool) (k : Nat) : Nat := cond (bW k) (bA k) (bB k)
/-- men behind so many games of the book -/
def nBk (le mo : Nat) (bA bB : Nat → Nat) (bW : Nat → Bool) (mm : Nat → Nat) : Nat → Nat → Nat
  | 0 => mm
  | k + 1 => n_play le mo (nBk le mo bA bB bW mm k) (b_w bA bB bW k) (b_w bB bA bW k)
theorem nBk_le {le mo : Nat} {bA bB : Nat → Nat} {bW : Nat → Bool} {mm : Nat → Nat} {nb : Nat} (hb : ∀ k, k < nb → bA k < 5 ∧ bB k < 5) (hm : ∀ j, j < 5 → mm j ≤ 20) : ∀ k, k ≤ nb → ∀ j, j < 5 → nBk le mo bA bB bW mm k j ≤ 20
  | 0, _ => hm
  | k + 1, hk => n_play_le (by
      have := hb k (by omega)
      unfold b_w
      cases bW k
      · exact this.2
      · exact this.1) (nBk_le hb hm k (by omega))
theorem e_booksGame (d : Nat) (h : mH) (s i : Nat → Int32) (o t : Nat) (pd bw : Int64) (Q : Option Value → mH → Prop) (mm : Nat → Nat) (g : Nat) (hM : h 76 = .inr (10, mObj i o t pd bw)) (h77 : h 77 = .inl (0, 889, .inl (s_at s mm g))) (hN : 87 ≤ m_nx h) {l : List Tok} {le mo : Nat} (hG : sG s l le mo)  (k : Nat) (a b : Nat) (w : Bool) (ha : a < 5) (hb : b < 5) (hab : a ≠ b) (e1 : s (42 + k) = nI a) (e2 : s (50 + k) = nI b) (e3 : s (58 + k) = bI w) (hk : k < 8) (h1 : ∀ j, j < 5 → mm j ≤ 20) (K : Q none (m_up h 77 (.inl (0, 889, .inl (s_at s (n_play le mo mm (cond w a b) (cond w b a)) (g + 1)))))) : mT0 (d + 3) z_X10_booksGame 0 (m_init z_X10_booksGame [.ref 76, .int (nI k)]) [] h Q := by
  refine mT_s rfl rfl ?_
  (apply mT_getf; (case hc => rfl); (case ha => first | rfl | assumption); (case hf => first | rfl | assumption))
  iterate 3 refine mT_s rfl rfl ?_
  (apply mT_ialdK; (case hc => rfl); (case ha => first | rfl | assumption); (case hk => first | (simp only [ki_0, ki_1, ki_2, ki_3, ki_4, ki_5, ki_6, ki_7, ki_8, ki_9, ki_10, ki_11, ki_12, ki_17, ki_20, ki_21, ki_22, ki_42, ki_50, ki_58, ki_66, ki_74, ki_140, ki_174, ki_179, ki_184, ki_189, ki_441, nI_add, pk_mul]; with_reducible rfl) | (simp only [ki_0, ki_1, ki_2, ki_3, ki_4, ki_5, ki_6, ki_7, ki_8, ki_9, ki_10, ki_11, ki_12, ki_17, ki_20, ki_21, ki_22, ki_42, ki_50, ki_58, ki_66, ki_74, ki_140, ki_174, ki_179, ki_184, ki_189, ki_441, ix1, nI_add, pk_mul]; with_reducible rfl) | (simp only [ki_0, ki_1, ki_2, ki_3, ki_4, ki_5, ki_6, ki_7, ki_8, ki_9, ki_10, ki_11, ki_12, ki_17, ki_20, ki_21, ki_22, ki_42, ki_50, ki_58, ki_66, ki_74, ki_140, ki_174, ki_179, ki_184, ki_189, ki_441, ix1, ix2, nI_add, pk_mul]; with_reducible rfl) | (simp only [ki_0, ki_1, ki_2, ki_3, ki_4, ki_5, ki_6, ki_7, ki_8, ki_9, ki_10, ki_11, ki_12, ki_17, ki_20, ki_21, ki_22, ki_42, ki_50, ki_58, ki_66, ki_74, ki_140, ki_174, ki_179, ki_184, ki_189, ki_441, ix1, ix2, ix3, nI_add, pk_mul]; with_reducible rfl) | (simp (disch := omega) only [upd_n, ki_0, ki_1, ki_2, ki_3, ki_4, ki_5, ki_6, ki_7, ki_8, ki_9, ki_10, ki_11, ki_12, ki_17, ki_20, ki_21, ki_22, ki_42, ki_50, ki_58, ki_66, ki_74, ki_140, ki_174, ki_179, ki_184, ki_189, ki_441, ix1, nI_add, pk_mul]; with_reducible rfl) | (simp (disch := omega) only [upd_n, ki_0, ki_1, ki_2, ki_3, ki_4, ki_5, ki_6, ki_7, ki_8, ki_9, ki_10, ki_11, ki_12, ki_17, ki_20, ki_21, ki_22, ki_42, ki_50, ki_58, ki_66, ki_74, ki_140, ki_174, ki_179, ki_184, ki_189, ki_441, ix1, ix2, nI_add, pk_mul]; with_reducible rfl) | rfl); (case hlt => first | decide | omega); (case hn => decide))
  iterate 2 refine mT_s rfl rfl ?_
  (apply mT_getf; (case hc => rfl); (case ha => first | rfl | assumption); (case hf => first | rfl | assumption))
  iterate 3 refine mT_s rfl rfl ?_
  (apply mT_ialdK; (case hc => rfl); (case ha => first | rfl | assumption); (case hk => first | (simp only [ki_0, ki_1, ki_2, ki_3, ki_4, ki_5, ki_6, ki_7, ki_8, ki_9, ki_10, ki_11, ki_12, ki_17, ki_20, ki_21, ki_22, ki_42, ki_50, ki_58, ki_66, ki_74, ki_140, ki_174, ki_179, ki_184, ki_189, ki_441, nI_add, pk_mul]; with_reducible rfl) | (simp only [ki_0, ki_1, ki_2, ki_3, ki_4, ki_5, ki_6, ki_7, ki_8, ki_9, ki_10, ki_11, ki_12, ki_17, ki_20, ki_21, ki_22, ki_42, ki_50, ki_58, ki_66, ki_74, ki_140, ki_174, ki_179, ki_184, ki_189, ki_441, ix1, nI_add, pk_mul]; with_reducible rfl) | (simp only [ki_0, ki_1, ki_2, ki_3, ki_4, ki_5, ki_6, ki_7, ki_8, ki_9, ki_10, ki_11, ki_12, ki_17, ki_20, ki_21, ki_22, ki_42, ki_50, ki_58, ki_66, ki_74, ki_140, ki_174, ki_179, ki_184, ki_189, ki_441, ix1, ix2, nI_add, pk_mul]; with_reducible rfl) | (simp only [ki_0, ki_1, ki_2, ki_3, ki_4, ki_5, ki_6, ki_7, ki_8, ki_9, ki_10, ki_11, ki_12, ki_17, ki_20, ki_21, ki_22, ki_42, ki_50, ki_58, ki_66, ki_74, ki_140, ki_174, ki_179, ki_184, ki_189, ki_441, ix1, ix2, ix3, nI_add, pk_mul]; with_reducible rfl) | (simp (disch := omega) only [upd_n, ki_0, ki_1, ki_2, ki_3, ki_4, ki_5, ki_6, ki_7, ki_8, ki_9, ki_10, ki_11, ki_12, ki_17, ki_20, ki_21, ki_22, ki_42, ki_50, ki_58, ki_66, ki_74, ki_140, ki_174, ki_179, ki_184, ki_189, ki_441, ix1, nI_add, pk_mul]; with_reducible rfl) | (simp (disch := omega) only [upd_n, ki_0, ki_1, ki_2, ki_3, ki_4, ki_5, ki_6, ki_7, ki_8, ki_9, ki_10, ki_11, ki_12, ki_17, ki_20, ki_21, ki_22, ki_42, ki_50, ki_58, ki_66, ki_74, ki_140, ki_174, ki_179, ki_184, ki_189, ki_441, ix1, ix2, nI_add, pk_mul]; with_reducible rfl) | rfl); (case hlt => first | decide | omega); (case hn => decide))
  iterate 2 refine mT_s rfl rfl ?_
  (apply mT_getf; (case hc => rfl); (case ha => first | rfl | assumption); (case hf => first | rfl | assumption))
  iterate 3 refine mT_s rfl rfl ?_
  (apply mT_ialdK; (case hc => rfl); (case ha => first | rfl | assumption); (case hk => first | (simp only [ki_0, ki_1, ki_2, ki_3, ki_4, ki_5, ki_6, ki_7, ki_8, ki_9, ki_10, ki_11, ki_12, ki_17, ki_20, ki_21, ki_22, ki_42, ki_50, ki_58, ki_66, ki_74, ki_140, ki_174, ki_179, ki_184, ki_189, ki_441, nI_add, pk_mul]; with_reducible rfl) | (simp only [ki_0, ki_1, ki_2, ki_3, ki_4, ki_5, ki_6, ki_7, ki_8, ki_9, ki_10, ki_11, ki_12, ki_17, ki_20, ki_21, ki_22, ki_42, ki_50, ki_58, ki_66, ki_74, ki_140, ki_174, ki_179, ki_184, ki_189, ki_441, ix1, nI_add, pk_mul]; with_reducible rfl) | (simp only [ki_0, ki_1, ki_2, ki_3, ki_4, ki_5, ki_6, ki_7, ki_8, ki_9, ki_10, ki_11, ki_12, ki_17, ki_20, ki_21, ki_22, ki_42, ki_50, ki_58, ki_66, ki_74, ki_140, ki_174, ki_179, ki_184, ki_189, ki_441, ix1, ix2, nI_add, pk_mul]; with_reducible rfl) | (simp only [ki_0, ki_1, ki_2, ki_3, ki_4, ki_5, ki_6, ki_7, ki_8, ki_9, ki_10, ki_11, ki_12, ki_17, ki_20, ki_21, ki_22, ki_42, ki_50, ki_58, ki_66, ki_74, ki_140, ki_174, ki_179, ki_184, ki_189, ki_441, ix1, ix2, ix3, nI_add, pk_mul]; with_reducible rfl) | (simp (disch := omega) only [upd_n, ki_0, ki_1, ki_2, ki_3, ki_4, ki_5, ki_6, ki_7, ki_8, ki_9, ki_10, ki_11, ki_12, ki_17, ki_20, ki_21, ki_22, ki_42, ki_50, ki_58, ki_66, ki_74, ki_140, ki_174, ki_179, ki_184, ki_189, ki_441, ix1, nI_add, pk_mul]; with_reducible rfl) | (simp (disch := omega) only [upd_n, ki_0, ki_1, ki_2, ki_3, ki_4, ki_5, ki_6, ki_7, ki_8, ki_9, ki_10, ki_11, ki_12, ki_17, ki_20, ki_21, ki_22, ki_42, ki_50, ki_58, ki_66, ki_74, ki_140, ki_174, ki_179, ki_184, ki_189, ki_441, ix1, ix2, nI_add, pk_mul]; with_reducible rfl) | rfl); (case hlt => first | decide | omega); (case hn => decide))
  refine mT_s rfl rfl ?_
  refine mT_icmp_ne rfl (fun c30 => ?_) (fun c30 => ?_)
  · rw [s_at_k s mm g (show 6 ≤ 58 + k by omega), e3] at c30
    iterate 9 refine mT_s rfl rfl ?_
    (apply mT_inv; (case hc => rfl); (case hd => rfl); (case hb => first | rfl | assumption); (case hg => rfl))
    rw [s_at_k s mm g (show 6 ≤ 42 + k by omega), s_at_k s mm g (show 6 ≤ 50 + k by omega), e1, e2]
    first | (refine e_plays_at _ h s i o t pd bw _ mm g hM h77 hN hG a b ha hb hab (Nat.le_trans (h1 a ha) (by decide)) (Nat.le_trans (h1 b hb) (by decide)) ?_) | (refine e_plays_at _ h s i o t pd bw _ mm g hM h77 hN hG b a hb ha (Ne.symm hab) (Nat.le_trans (h1 b hb) (by decide)) (Nat.le_trans (h1 a ha) (by decide)) ?_)
    refine mT_ret rfl rfl ?_
    obtain rfl : w = false := by
      cases w with
      | false => rfl
      | true => exact absurd rfl c30
    exact K
  · rw [s_at_k s mm g (show 6 ≤ 58 + k by omega), e3] at c30
    iterate 12 refine mT_s rfl rfl ?_
    (apply mT_inv; (case hc => rfl); (case hd => rfl); (case hb => first | rfl | assumption); (case hg => rfl))
    rw [s_at_k s mm g (show 6 ≤ 42 + k by omega), s_at_k s mm g (show 6 ≤ 50 + k by omega), e1, e2]
    first | (refine e_plays_at _ h s i o t pd bw _ mm g hM h77 hN hG a b ha hb hab (Nat.le_trans (h1 a ha) (by decide)) (Nat.le_trans (h1 b hb) (by decide)) ?_) | (refine e_plays_at _ h s i o t pd bw _ mm g hM h77 hN hG b a hb ha (Ne.symm hab) (Nat.le_trans (h1 b hb) (by decide)) (Nat.le_trans (h1 a ha) (by decide)) ?_)
    refine mT_ret rfl rfl ?_
    obtain rfl : w = true := by
      cases w with
      | true => rfl
      | false => exact absurd c30 (by decide)
    exact K

theorem e_says_L (d : Nat) (h : mH) (s i : Nat → Int32) (o t : Nat) (pd bw : Int64) (Q : Option Value → mH → Prop) (mm : Nat → Nat) (g : Nat) (hM : h 76 = .inr (10, mObj i o t pd bw)) (hN : 87 ≤ m_nx h) {l : List Tok} {le mo : Nat} (hG : sG s l le mo) (hmm : ∀ j, j < 5 → mm j ≤ 20) {nb : Nat} {bA bB : Nat → Nat} {bW : Nat → Bool} (hB : sB s nb bA bB bW) (x : Int32) (K : mT0 (d + 4) z_X10_says 38 [some (.ref 76), some (.int x), some (.int (nI nb))] [] (m_up h 77 (.inl (0, 889, .inl (s_at s (nBk le mo bA bB bW mm nb) (g + nb))))) Q) : ∀ (r k : Nat) , k + r = nb → mT0 (d + 4) z_X10_says 16 [some (.ref 76), some (.int x), some (.int (nI k))] [] (m_up h 77 (.inl (0, 889, .inl (s_at s (nBk le mo bA bB bW mm k) (g + k))))) Q := by
  intro r
  induction r with
  | zero =>
    intro k  hk 
    iterate 2 refine mT_s rfl rfl ?_
    (apply mT_getf; (case hc => rfl); (case ha => first | rfl | assumption); (case hf => first | rfl | assumption))
    refine mT_s rfl rfl ?_
    (apply mT_ialdK; (case hc => rfl); (case ha => first | rfl | assumption); (case hk => first | (simp only [ki_0, ki_1, ki_2, ki_3, ki_4, ki_5, ki_6, ki_7, ki_8, ki_9, ki_10, ki_11, ki_12, ki_17, ki_20, ki_21, ki_22, ki_42, ki_50, ki_58, ki_66, ki_74, ki_140, ki_174, ki_179, ki_184, ki_189, ki_441, nI_add, pk_mul]; with_reducible rfl) | (simp only [ki_0, ki_1, ki_2, ki_3, ki_4, ki_5, ki_6, ki_7, ki_8, ki_9, ki_10, ki_11, ki_12, ki_17, ki_20, ki_21, ki_22, ki_42, ki_50, ki_58, ki_66, ki_74, ki_140, ki_174, ki_179, ki_184, ki_189, ki_441, ix1, nI_add, pk_mul]; with_reducible rfl) | (simp only [ki_0, ki_1, ki_2, ki_3, ki_4, ki_5, ki_6, ki_7, ki_8, ki_9, ki_10, ki_11, ki_12, ki_17, ki_20, ki_21, ki_22, ki_42, ki_50, ki_58, ki_66, ki_74, ki_140, ki_174, ki_179, ki_184, ki_189, ki_441, ix1, ix2, nI_add, pk_mul]; with_reducible rfl) | (simp only [ki_0, ki_1, ki_2, ki_3, ki_4, ki_5, ki_6, ki_7, ki_8, ki_9, ki_10, ki_11, ki_12, ki_17, ki_20, ki_21, ki_22, ki_42, ki_50, ki_58, ki_66, ki_74, ki_140, ki_174, ki_179, ki_184, ki_189, ki_441, ix1, ix2, ix3, nI_add, pk_mul]; with_reducible rfl) | (simp (disch := omega) only [upd_n, ki_0, ki_1, ki_2, ki_3, ki_4, ki_5, ki_6, ki_7, ki_8, ki_9, ki_10, ki_11, ki_12, ki_17, ki_20, ki_21, ki_22, ki_42, ki_50, ki_58, ki_66, ki_74, ki_140, ki_174, ki_179, ki_184, ki_189, ki_441, ix1, nI_add, pk_mul]; with_reducible rfl) | (simp (disch := omega) only [upd_n, ki_0, ki_1, ki_2, ki_3, ki_4, ki_5, ki_6, ki_7, ki_8, ki_9, ki_10, ki_11, ki_12, ki_17, ki_20, ki_21, ki_22, ki_42, ki_50, ki_58, ki_66, ki_74, ki_140, ki_174, ki_179, ki_184, ki_189, ki_441, ix1, ix2, nI_add, pk_mul]; with_reducible rfl) | rfl); (case hlt => first | decide | omega); (case hn => decide))
    rw [s_at_k s _ _ (show 6 ≤ 8 by decide), hB.1]
    have hb8 := hB.2.1
    refine mT_icmp_ge rfl (fun _ => ?_) (fun c => absurd (nI_le (a := nb) (b := k) (by omega) (by omega)) c)
    obtain rfl : k = nb := by omega
    exact K
  | succ r ih =>
    intro k  hk 
    iterate 2 refine mT_s rfl rfl ?_
    (apply mT_getf; (case hc => rfl); (case ha => first | rfl | assumption); (case hf => first | rfl | assumption))
    refine mT_s rfl rfl ?_
    (apply mT_ialdK; (case hc => rfl); (case ha => first | rfl | assumption); (case hk => first | (simp only [ki_0, ki_1, ki_2, ki_3, ki_4, ki_5, ki_6, ki_7, ki_8, ki_9, ki_10, ki_11, ki_12, ki_17, ki_20, ki_21, ki_22, ki_42, ki_50, ki_58, ki_66, ki_74, ki_140, ki_174, ki_179, ki_184, ki_189, ki_441, nI_add, pk_mul]; with_reducible rfl) | (simp only [ki_0, ki_1, ki_2, ki_3, ki_4, ki_5, ki_6, ki_7, ki_8, ki_9, ki_10, ki_11, ki_12, ki_17, ki_20, ki_21, ki_22, ki_42, ki_50, ki_58, ki_66, ki_74, ki_140, ki_174, ki_179, ki_184, ki_189, ki_441, ix1, nI_add, pk_mul]; with_reducible rfl) | (simp only [ki_0, ki_1, ki_2, ki_3, ki_4, ki_5, ki_6, ki_7, ki_8, ki_9, ki_10, ki_11, ki_12, ki_17, ki_20, ki_21, ki_22, ki_42, ki_50, ki_58, ki_66, ki_74, ki_140, ki_174, ki_179, ki_184, ki_189, ki_441, ix1, ix2, nI_add, pk_mul]; with_reducible rfl) | (simp only [ki_0, ki_1, ki_2, ki_3, ki_4, ki_5, ki_6, ki_7, ki_8, ki_9, ki_10, ki_11, ki_12, ki_17, ki_20, ki_21, ki_22, ki_42, ki_50, ki_58, ki_66, ki_74, ki_140, ki_174, ki_179, ki_184, ki_189, ki_441, ix1, ix2, ix3, nI_add, pk_mul]; with_reducible rfl) | (simp (disch := omega) only [upd_n, ki_0, ki_1, ki_2, ki_3, ki_4, ki_5, ki_6, ki_7, ki_8, ki_9, ki_10, ki_11, ki_12, ki_17, ki_20, ki_21, ki_22, ki_42, ki_50, ki_58, ki_66, ki_74, ki_140, ki_174, ki_179, ki_184, ki_189, ki_441, ix1, nI_add, pk_mul]; with_reducible rfl) | (simp (disch := omega) only [upd_n, ki_0, ki_1, ki_2, ki_3, ki_4, ki_5, ki_6, ki_7, ki_8, ki_9, ki_10, ki_11, ki_12, ki_17, ki_20, ki_21, ki_22, ki_42, ki_50, ki_58, ki_66, ki_74, ki_140, ki_174, ki_179, ki_184, ki_189, ki_441, ix1, ix2, nI_add, pk_mul]; with_reducible rfl) | rfl); (case hlt => first | decide | omega); (case hn => decide))
    rw [s_at_k s _ _ (show 6 ≤ 8 by decide), hB.1]
    have hb8 := hB.2.1
    refine mT_icmp_ge rfl (fun c => absurd c (nI_ge (a := k) (b := nb) (by omega) (by omega))) (fun _ => ?_)
    iterate 2 refine mT_s rfl rfl ?_
    (apply mT_inv; (case hc => rfl); (case hd => rfl); (case hb => first | rfl | assumption); (case hg => rfl))
    obtain ⟨q1, q2, q3, q4, q5, q6⟩ := hB.2.2 k (by omega)
    refine e_booksGame _ (m_up h 77 _) s i o t pd bw _ (nBk le mo bA bB bW mm k) (g + k) hM rfl hN hG k (bA k) (bB k) (bW k) q4 q5 q6 q1 q2 q3 (by have := hB.2.1; omega) (nBk_le (fun k hk => ⟨(hB.2.2 k hk).2.2.2.1, (hB.2.2 k hk).2.2.2.2.1⟩) hmm k (by omega)) ?_
    rw [m_up_up]
    iterate 2 refine mT_s rfl rfl ?_
    rw [nI_1]
    exact ih (k + 1) (by omega)
theorem back_at {s : Nat → Int32} {mm m2 : Nat → Nat} {g g2 : Nat} {f : Nat → Int32} (hf : ∀ j, j < 6 → f j = s_at s mm g j) : (fun j => if j < 6 then f j else s_at s m2 g2 j) = s_at s mm g := by
  funext j
  by_cases h : j < 6
  · rw [if_pos h, hf j h]
  · rw [if_neg h, s_at_k s _ _ (by omega), s_at_k s _ _ (by omega)]
theorem e_says (d : Nat) (h : mH) (s i : Nat → Int32) (o t : Nat) (pd bw : Int64) (Q : Option Value → mH → Prop) (hM : h 76 = .inr (10, mObj i o t pd bw)) (h77 : h 77 = .inl (0, 889, .inl s)) (hN : 87 ≤ m_nx h) (hI : s_Inv s) {l : List Tok} {le mo : Nat} (hG : sG s l le mo) (mm : Nat → Nat) (g : Nat) (hmm : ∀ j, j < 5 → mm j ≤ 20) (hs : s_at s mm g = s) (hg : g ≤ 9999) (h80 : ∃ f, h 80 = .inl (0, 5, .inl f)) (h81 : ∃ g, h 81 = .inl (2, 64, .inl g))  {nb : Nat} {bA bB : Nat → Nat} {bW : Nat → Bool} (hB : sB s nb bA bB bW) (h79 : ∃ f, h 79 = .inl (0, 6, .inl f)) (x : Int32) (kN : ¬ okP s x → Q (some (.int (-1))) h) (k : ∀ p : Nat, p < 5 → x = nI p → okP s x → ∀ h2, rX [77, 79, 80, 81] h h2 → h2 77 = .inl (0, 889, .inl s) → (∃ f, h2 79 = .inl (0, 6, .inl f)) → Q (some (.int (nI ((nBk le mo bA bB bW mm nb) p)))) h2) : mT0 (d + 5) z_X10_says 0 (m_init z_X10_says [.ref 76, .int x]) [] h Q := by
  iterate 2 refine mT_s rfl rfl ?_
  (apply mT_inv; (case hc => rfl); (case hd => rfl); (case hb => first | rfl | assumption); (case hg => rfl))
  refine e_isPlayer _ _ _ _ _ _ _ _ _ hM h77 hN hI _ (fun p2 hp2 ep2 v2 => ?_) (fun v2 => ?_)
  · skip
    iterate 2 refine mT_s rfl rfl ?_
    (apply mT_inv; (case hc => rfl); (case hd => rfl); (case hb => first | rfl | assumption); (case hg => rfl))
    obtain ⟨f0, h79⟩ := h79
    refine e_keeps _ h s i _ o t pd bw _ hM h77 h79 hN (fun f2 hf2 => ?_)
    iterate 2 refine mT_s rfl rfl ?_
    rw [← m_up_id (show m_up h 79 (.inl (0, 6, .inl f2)) 77 = .inl (0, 889, .inl (s_at s mm g)) by rw [hs]; exact h77)]
    refine e_says_L _ (m_up h 79 _) s i o t pd bw Q mm g hM hN hG hmm hB x ?_ nb 0 (by omega)
    refine mT_s rfl rfl ?_
    (apply mT_getf; (case hc => rfl); (case ha => first | rfl | assumption); (case hf => first | rfl | assumption))
    iterate 3 refine mT_s rfl rfl ?_
    rw [ep2]
    (apply mT_ialdK; (case hc => rfl); (case ha => first | rfl | assumption); (case hk => first | (simp only [ki_0, ki_1, ki_2, ki_3, ki_4, ki_5, ki_6, ki_7, ki_8, ki_9, ki_10, ki_11, ki_12, ki_17, ki_20, ki_21, ki_22, ki_42, ki_50, ki_58, ki_66, ki_74, ki_140, ki_174, ki_179, ki_184, ki_189, ki_441, nI_add, pk_mul]; with_reducible rfl) | (simp only [ki_0, ki_1, ki_2, ki_3, ki_4, ki_5, ki_6, ki_7, ki_8, ki_9, ki_10, ki_11, ki_12, ki_17, ki_20, ki_21, ki_22, ki_42, ki_50, ki_58, ki_66, ki_74, ki_140, ki_174, ki_179, ki_184, ki_189, ki_441, ix1, nI_add, pk_mul]; with_reducible rfl) | (simp only [ki_0, ki_1, ki_2, ki_3, ki_4, ki_5, ki_6, ki_7, ki_8, ki_9, ki_10, ki_11, ki_12, ki_17, ki_20, ki_21, ki_22, ki_42, ki_50, ki_58, ki_66, ki_74, ki_140, ki_174, ki_179, ki_184, ki_189, ki_441, ix1, ix2, nI_add, pk_mul]; with_reducible rfl) | (simp only [ki_0, ki_1, ki_2, ki_3, ki_4, ki_5, ki_6, ki_7, ki_8, ki_9, ki_10, ki_11, ki_12, ki_17, ki_20, ki_21, ki_22, ki_42, ki_50, ki_58, ki_66, ki_74, ki_140, ki_174, ki_179, ki_184, ki_189, ki_441, ix1, ix2, ix3, nI_add, pk_mul]; with_reducible rfl) | (simp (disch := omega) only [upd_n, ki_0, ki_1, ki_2, ki_3, ki_4, ki_5, ki_6, ki_7, ki_8, ki_9, ki_10, ki_11, ki_12, ki_17, ki_20, ki_21, ki_22, ki_42, ki_50, ki_58, ki_66, ki_74, ki_140, ki_174, ki_179, ki_184, ki_189, ki_441, ix1, nI_add, pk_mul]; with_reducible rfl) | (simp (disch := omega) only [upd_n, ki_0, ki_1, ki_2, ki_3, ki_4, ki_5, ki_6, ki_7, ki_8, ki_9, ki_10, ki_11, ki_12, ki_17, ki_20, ki_21, ki_22, ki_42, ki_50, ki_58, ki_66, ki_74, ki_140, ki_174, ki_179, ki_184, ki_189, ki_441, ix1, ix2, nI_add, pk_mul]; with_reducible rfl) | rfl); (case hlt => first | decide | omega); (case hn => decide))
    iterate 2 refine mT_s rfl rfl ?_
    (apply mT_inv; (case hc => rfl); (case hd => rfl); (case hb => first | rfl | assumption); (case hg => rfl))
    refine e_goesBack _ (m_up (m_up h 79 _) 77 _) _ i f2 o t pd bw _ hM rfl rfl hN ?_
    refine mT_s rfl rfl ?_
    refine mT_ret rfl rfl ?_
    have e9 : (fun j => if j < 6 then f2 j else s_at s (nBk le mo bA bB bW mm nb) (g + nb) j) = s := by
      rw [back_at (mm := mm) (g := g) (fun j hj => by rw [hf2 j hj, hs]), hs]
    rw [m_up_up, e9, s_at_m s _ _ hp2]
    exact k p2 hp2 ep2 v2 _ (((rX.rfl' h80 h81).up (k := 79) (by decide) (by decide) (by decide)).up (k := 77) (by decide) (by decide) (by decide)) rfl ⟨f2, rfl⟩
  · iterate 2 refine mT_s rfl rfl ?_
    refine mT_ret rfl rfl ?_
    exact kN v2
