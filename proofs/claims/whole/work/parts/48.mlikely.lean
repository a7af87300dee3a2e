/-! By program (wip/whole/book*.py) and hand. -/
theorem s_at_uv (s : Nat → Int32) (mm : Nat → Nat) (g : Nat) {j : Nat} (hj : 6 ≤ j) (x : Int32) : upd (s_at s mm g) j x = s_at (upd s j x) mm g := by
  funext k
  unfold upd s_at
  by_cases e : k = j
  · subst e
    rw [if_pos rfl, if_neg (by omega), if_neg (by omega)]
    exact (if_pos rfl).symm
  · rw [if_neg e, show (fun i => if i = j then x else s i) k = s k from if_neg e]
/-- how likely the book is, as parts of ten a game: od by the game's place -/
def nC (od : Nat → Nat) (bW : Nat → Bool) : Nat → Nat → Nat → Nat
  | 0, _, all => all
  | r + 1, k, all => nC od bW r (k + 1) (all * cond (bW k) (od k) (10 - od k))
theorem nC_le {od : Nat → Nat} {bW : Nat → Bool} (h1 : ∀ k, 1 ≤ od k ∧ od k ≤ 9) : ∀ r k all, 1 ≤ all → all ≤ nC od bW r k all ∧ nC od bW r k all ≤ all * 9 ^ r
  | 0, k, all, h => ⟨Nat.le_refl _, by show all ≤ all * 9 ^ 0; omega⟩
  | r + 1, k, all, h => by
    have h2 : 1 ≤ cond (bW k) (od k) (10 - od k) ∧ cond (bW k) (od k) (10 - od k) ≤ 9 := by
      have := h1 k
      cases bW k
      · exact ⟨by show 1 ≤ 10 - od k; omega, by show 10 - od k ≤ 9; omega⟩
      · exact this
    have h3 := Nat.mul_le_mul_left all h2.1
    have h4 := Nat.mul_le_mul_left all h2.2
    obtain ⟨a, b⟩ := nC_le (bW := bW) h1 r (k + 1) (all * cond (bW k) (od k) (10 - od k)) (by omega)
    show all ≤ nC od bW r (k + 1) _ ∧ nC od bW r (k + 1) _ ≤ all * 9 ^ (r + 1)
    refine ⟨by omega, Nat.le_trans b ?_⟩
    rw [Nat.pow_succ, Nat.mul_comm (9 ^ r) 9, ← Nat.mul_assoc]
    exact Nat.mul_le_mul_right _ h4
def nLi (ch : Nat → Nat) : Nat → Nat → Nat → Int → Nat
  | 0, _, best, _ => best
  | r + 1, v, best, most => if most < (ch v : Int) then nLi ch r (v + 1) v (ch v) else nLi ch r (v + 1) best most
/-- odds of the book's games, played by hand -/
def b_od (s : Nat → Int32) (l : List Tok) (le mo : Nat) (bA bB : Nat → Nat) (bW : Nat → Bool) (mm : Nat → Nat) (g k : Nat) : Nat := a_od s l (bA k) (bB k) (nBk le mo bA bB bW mm k (bA k)) (nBk le mo bA bB bW mm k (bB k)) (g + k)
theorem sB_c {s s2 : Nat → Int32} {nb : Nat} {bA bB : Nat → Nat} {bW : Nat → Bool} (h : ∀ k, 42 ≤ k → s2 k = s k) (h8 : s2 8 = s 8) (hB : sB s nb bA bB bW) : sB s2 nb bA bB bW := by
  obtain ⟨h1, h2, h3⟩ := hB
  refine ⟨h8.trans h1, h2, fun k hk => ?_⟩
  rw [h (42 + k) (by omega), h (50 + k) (by omega), h (58 + k) (by omega)]
  exact h3 k hk
set_option maxHeartbeats 4000000 in
theorem e_lik_L (s i : Nat → Int32) (o t : Nat) (pd bw : Int64) (Q : Option Value → mH → Prop) (mm : Nat → Nat) (g : Nat) {l : List Tok} {le mo : Nat} (hG : sG s l le mo) (hmm : ∀ j, j < 5 → mm j ≤ 20) (hg : g < 10100) {nb : Nat} {bA bB : Nat → Nat} {bW : Nat → Bool} (hB : sB s nb bA bB bW) (x is best v : Int32) (most : Int64) (d : Nat)  : ∀ (r k : Nat) (h : mH) (all : Nat) (x10 : Option Value), k + r = nb → h 76 = .inr (10, mObj i o t pd bw) → h 77 = .inl (0, 889, .inl (s_at s (nBk le mo bA bB bW mm k) (g + k))) → 87 ≤ m_nx h → (∃ f, h 80 = .inl (0, 5, .inl f)) → (∃ g, h 81 = .inl (2, 64, .inl g)) → (∀ h2 x10, rX [77, 80, 81] h h2 → h2 77 = .inl (0, 889, .inl (s_at s (nBk le mo bA bB bW mm nb) (g + nb))) → mT0 (d + 4) z_X10_likely 139 [some (.ref 76), some (.int x), some (.int is), some (.int best), some (.long most), none, some (.int v), some (.long (lN (nC (b_od s l le mo bA bB bW mm g) bW r k all))), none, some (.int (nI (nb))), x10] [] h2 Q) → mT0 (d + 4) z_X10_likely 58 [some (.ref 76), some (.int x), some (.int is), some (.int best), some (.long most), none, some (.int v), some (.long (lN (all))), none, some (.int (nI (k))), x10] [] h Q := by
  intro r
  induction r with
  | zero =>
    intro k h all x10 hk hM h77 hN h80 h81 K
    iterate 2 refine mT_s rfl rfl ?_
    (apply mT_getf; (case hc => rfl); (case ha => first | rfl | assumption); (case hf => first | rfl | assumption))
    refine mT_s rfl rfl ?_
    (apply mT_ialdK; (case hc => rfl); (case ha => first | rfl | assumption); (case hk => first | (simp only [ki_0, ki_1, ki_2, ki_3, ki_4, ki_5, ki_6, ki_7, ki_8, ki_9, ki_10, ki_11, ki_12, ki_17, ki_20, ki_21, ki_22, ki_42, ki_50, ki_58, ki_66, ki_74, ki_140, ki_174, ki_179, ki_184, ki_189, ki_441, nI_add, pk_mul]; with_reducible rfl) | (simp only [ki_0, ki_1, ki_2, ki_3, ki_4, ki_5, ki_6, ki_7, ki_8, ki_9, ki_10, ki_11, ki_12, ki_17, ki_20, ki_21, ki_22, ki_42, ki_50, ki_58, ki_66, ki_74, ki_140, ki_174, ki_179, ki_184, ki_189, ki_441, ix1, nI_add, pk_mul]; with_reducible rfl) | (simp only [ki_0, ki_1, ki_2, ki_3, ki_4, ki_5, ki_6, ki_7, ki_8, ki_9, ki_10, ki_11, ki_12, ki_17, ki_20, ki_21, ki_22, ki_42, ki_50, ki_58, ki_66, ki_74, ki_140, ki_174, ki_179, ki_184, ki_189, ki_441, ix1, ix2, nI_add, pk_mul]; with_reducible rfl) | (simp only [ki_0, ki_1, ki_2, ki_3, ki_4, ki_5, ki_6, ki_7, ki_8, ki_9, ki_10, ki_11, ki_12, ki_17, ki_20, ki_21, ki_22, ki_42, ki_50, ki_58, ki_66, ki_74, ki_140, ki_174, ki_179, ki_184, ki_189, ki_441, ix1, ix2, ix3, nI_add, pk_mul]; with_reducible rfl) | (simp (disch := omega) only [upd_n, ki_0, ki_1, ki_2, ki_3, ki_4, ki_5, ki_6, ki_7, ki_8, ki_9, ki_10, ki_11, ki_12, ki_17, ki_20, ki_21, ki_22, ki_42, ki_50, ki_58, ki_66, ki_74, ki_140, ki_174, ki_179, ki_184, ki_189, ki_441, ix1, nI_add, pk_mul]; with_reducible rfl) | (simp (disch := omega) only [upd_n, ki_0, ki_1, ki_2, ki_3, ki_4, ki_5, ki_6, ki_7, ki_8, ki_9, ki_10, ki_11, ki_12, ki_17, ki_20, ki_21, ki_22, ki_42, ki_50, ki_58, ki_66, ki_74, ki_140, ki_174, ki_179, ki_184, ki_189, ki_441, ix1, ix2, nI_add, pk_mul]; with_reducible rfl) | rfl); (case hlt => first | decide | omega); (case hn => decide))
    rw [s_at_k s _ _ (show 6 ≤ 8 by decide), hB.1]
    have hb8 := hB.2.1
    refine mT_icmp_ge rfl (fun _ => ?_) (fun c => absurd (nI_le (by omega) (by omega)) c)
    obtain rfl : k = nb := by omega
    exact K h _ (rX.rfl' h80 h81) h77
  | succ r ih =>
    intro k h all x10 hk hM h77 hN h80 h81 K
    iterate 2 refine mT_s rfl rfl ?_
    (apply mT_getf; (case hc => rfl); (case ha => first | rfl | assumption); (case hf => first | rfl | assumption))
    refine mT_s rfl rfl ?_
    (apply mT_ialdK; (case hc => rfl); (case ha => first | rfl | assumption); (case hk => first | (simp only [ki_0, ki_1, ki_2, ki_3, ki_4, ki_5, ki_6, ki_7, ki_8, ki_9, ki_10, ki_11, ki_12, ki_17, ki_20, ki_21, ki_22, ki_42, ki_50, ki_58, ki_66, ki_74, ki_140, ki_174, ki_179, ki_184, ki_189, ki_441, nI_add, pk_mul]; with_reducible rfl) | (simp only [ki_0, ki_1, ki_2, ki_3, ki_4, ki_5, ki_6, ki_7, ki_8, ki_9, ki_10, ki_11, ki_12, ki_17, ki_20, ki_21, ki_22, ki_42, ki_50, ki_58, ki_66, ki_74, ki_140, ki_174, ki_179, ki_184, ki_189, ki_441, ix1, nI_add, pk_mul]; with_reducible rfl) | (simp only [ki_0, ki_1, ki_2, ki_3, ki_4, ki_5, ki_6, ki_7, ki_8, ki_9, ki_10, ki_11, ki_12, ki_17, ki_20, ki_21, ki_22, ki_42, ki_50, ki_58, ki_66, ki_74, ki_140, ki_174, ki_179, ki_184, ki_189, ki_441, ix1, ix2, nI_add, pk_mul]; with_reducible rfl) | (simp only [ki_0, ki_1, ki_2, ki_3, ki_4, ki_5, ki_6, ki_7, ki_8, ki_9, ki_10, ki_11, ki_12, ki_17, ki_20, ki_21, ki_22, ki_42, ki_50, ki_58, ki_66, ki_74, ki_140, ki_174, ki_179, ki_184, ki_189, ki_441, ix1, ix2, ix3, nI_add, pk_mul]; with_reducible rfl) | (simp (disch := omega) only [upd_n, ki_0, ki_1, ki_2, ki_3, ki_4, ki_5, ki_6, ki_7, ki_8, ki_9, ki_10, ki_11, ki_12, ki_17, ki_20, ki_21, ki_22, ki_42, ki_50, ki_58, ki_66, ki_74, ki_140, ki_174, ki_179, ki_184, ki_189, ki_441, ix1, nI_add, pk_mul]; with_reducible rfl) | (simp (disch := omega) only [upd_n, ki_0, ki_1, ki_2, ki_3, ki_4, ki_5, ki_6, ki_7, ki_8, ki_9, ki_10, ki_11, ki_12, ki_17, ki_20, ki_21, ki_22, ki_42, ki_50, ki_58, ki_66, ki_74, ki_140, ki_174, ki_179, ki_184, ki_189, ki_441, ix1, ix2, nI_add, pk_mul]; with_reducible rfl) | rfl); (case hlt => first | decide | omega); (case hn => decide))
    rw [s_at_k s _ _ (show 6 ≤ 8 by decide), hB.1]
    have hb8 := hB.2.1
    refine mT_icmp_ge rfl (fun c => absurd c (nI_ge (by omega) (by omega))) (fun _ => ?_)
    iterate 2 refine mT_s rfl rfl ?_
    (apply mT_getf; (case hc => rfl); (case ha => first | rfl | assumption); (case hf => first | rfl | assumption))
    iterate 3 refine mT_s rfl rfl ?_
    (apply mT_ialdK; (case hc => rfl); (case ha => first | rfl | assumption); (case hk => first | (simp only [ki_0, ki_1, ki_2, ki_3, ki_4, ki_5, ki_6, ki_7, ki_8, ki_9, ki_10, ki_11, ki_12, ki_17, ki_20, ki_21, ki_22, ki_42, ki_50, ki_58, ki_66, ki_74, ki_140, ki_174, ki_179, ki_184, ki_189, ki_441, nI_add, pk_mul]; with_reducible rfl) | (simp only [ki_0, ki_1, ki_2, ki_3, ki_4, ki_5, ki_6, ki_7, ki_8, ki_9, ki_10, ki_11, ki_12, ki_17, ki_20, ki_21, ki_22, ki_42, ki_50, ki_58, ki_66, ki_74, ki_140, ki_174, ki_179, ki_184, ki_189, ki_441, ix1, nI_add, pk_mul]; with_reducible rfl) | (simp only [ki_0, ki_1, ki_2, ki_3, ki_4, ki_5, ki_6, ki_7, ki_8, ki_9, ki_10, ki_11, ki_12, ki_17, ki_20, ki_21, ki_22, ki_42, ki_50, ki_58, ki_66, ki_74, ki_140, ki_174, ki_179, ki_184, ki_189, ki_441, ix1, ix2, nI_add, pk_mul]; with_reducible rfl) | (simp only [ki_0, ki_1, ki_2, ki_3, ki_4, ki_5, ki_6, ki_7, ki_8, ki_9, ki_10, ki_11, ki_12, ki_17, ki_20, ki_21, ki_22, ki_42, ki_50, ki_58, ki_66, ki_74, ki_140, ki_174, ki_179, ki_184, ki_189, ki_441, ix1, ix2, ix3, nI_add, pk_mul]; with_reducible rfl) | (simp (disch := omega) only [upd_n, ki_0, ki_1, ki_2, ki_3, ki_4, ki_5, ki_6, ki_7, ki_8, ki_9, ki_10, ki_11, ki_12, ki_17, ki_20, ki_21, ki_22, ki_42, ki_50, ki_58, ki_66, ki_74, ki_140, ki_174, ki_179, ki_184, ki_189, ki_441, ix1, nI_add, pk_mul]; with_reducible rfl) | (simp (disch := omega) only [upd_n, ki_0, ki_1, ki_2, ki_3, ki_4, ki_5, ki_6, ki_7, ki_8, ki_9, ki_10, ki_11, ki_12, ki_17, ki_20, ki_21, ki_22, ki_42, ki_50, ki_58, ki_66, ki_74, ki_140, ki_174, ki_179, ki_184, ki_189, ki_441, ix1, ix2, nI_add, pk_mul]; with_reducible rfl) | rfl); (case hlt => first | decide | omega); (case hn => decide))
    refine mT_s rfl rfl ?_
    (apply mT_getf; (case hc => rfl); (case ha => first | rfl | assumption); (case hf => first | rfl | assumption))
    iterate 3 refine mT_s rfl rfl ?_
    (apply mT_ialdK; (case hc => rfl); (case ha => first | rfl | assumption); (case hk => first | (simp only [ki_0, ki_1, ki_2, ki_3, ki_4, ki_5, ki_6, ki_7, ki_8, ki_9, ki_10, ki_11, ki_12, ki_17, ki_20, ki_21, ki_22, ki_42, ki_50, ki_58, ki_66, ki_74, ki_140, ki_174, ki_179, ki_184, ki_189, ki_441, nI_add, pk_mul]; with_reducible rfl) | (simp only [ki_0, ki_1, ki_2, ki_3, ki_4, ki_5, ki_6, ki_7, ki_8, ki_9, ki_10, ki_11, ki_12, ki_17, ki_20, ki_21, ki_22, ki_42, ki_50, ki_58, ki_66, ki_74, ki_140, ki_174, ki_179, ki_184, ki_189, ki_441, ix1, nI_add, pk_mul]; with_reducible rfl) | (simp only [ki_0, ki_1, ki_2, ki_3, ki_4, ki_5, ki_6, ki_7, ki_8, ki_9, ki_10, ki_11, ki_12, ki_17, ki_20, ki_21, ki_22, ki_42, ki_50, ki_58, ki_66, ki_74, ki_140, ki_174, ki_179, ki_184, ki_189, ki_441, ix1, ix2, nI_add, pk_mul]; with_reducible rfl) | (simp only [ki_0, ki_1, ki_2, ki_3, ki_4, ki_5, ki_6, ki_7, ki_8, ki_9, ki_10, ki_11, ki_12, ki_17, ki_20, ki_21, ki_22, ki_42, ki_50, ki_58, ki_66, ki_74, ki_140, ki_174, ki_179, ki_184, ki_189, ki_441, ix1, ix2, ix3, nI_add, pk_mul]; with_reducible rfl) | (simp (disch := omega) only [upd_n, ki_0, ki_1, ki_2, ki_3, ki_4, ki_5, ki_6, ki_7, ki_8, ki_9, ki_10, ki_11, ki_12, ki_17, ki_20, ki_21, ki_22, ki_42, ki_50, ki_58, ki_66, ki_74, ki_140, ki_174, ki_179, ki_184, ki_189, ki_441, ix1, nI_add, pk_mul]; with_reducible rfl) | (simp (disch := omega) only [upd_n, ki_0, ki_1, ki_2, ki_3, ki_4, ki_5, ki_6, ki_7, ki_8, ki_9, ki_10, ki_11, ki_12, ki_17, ki_20, ki_21, ki_22, ki_42, ki_50, ki_58, ki_66, ki_74, ki_140, ki_174, ki_179, ki_184, ki_189, ki_441, ix1, ix2, nI_add, pk_mul]; with_reducible rfl) | rfl); (case hlt => first | decide | omega); (case hn => decide))
    (apply mT_inv; (case hc => rfl); (case hd => rfl); (case hb => first | rfl | assumption); (case hg => rfl))
    obtain ⟨q1, q2, q3, q4, q5, q6⟩ := hB.2.2 k (by omega)
    rw [s_at_k s _ _ (show 6 ≤ 42 + k by omega), s_at_k s _ _ (show 6 ≤ 50 + k by omega), q1, q2]
    refine e_odds_at _ h s i o t pd bw _ (nBk le mo bA bB bW mm k) (g + k) hM h77 hN hG (bA k) (bB k) q4 q5 (by omega) h80 h81 (fun h2 hr2 h772 => ?_)
    have hod := Nat.le_trans (a_od_n s l (bA k) (bB k) (nBk le mo bA bB bW mm k (bA k)) (nBk le mo bA bB bW mm k (bB k)) (g + k)).2.2 (show 9 ≤ 10 by decide)
    have hM2 : h2 76 = _ := (hr2.1 76 (by decide)).trans hM
    have hN2 : 87 ≤ m_nx h2 := by rw [hr2.nx (by decide)]; exact hN
    iterate 3 refine mT_s rfl rfl ?_
    (apply mT_getf; (case hc => rfl); (case ha => first | rfl | assumption); (case hf => first | rfl | assumption))
    iterate 3 refine mT_s rfl rfl ?_
    (apply mT_ialdK; (case hc => rfl); (case ha => first | rfl | assumption); (case hk => first | (simp only [ki_0, ki_1, ki_2, ki_3, ki_4, ki_5, ki_6, ki_7, ki_8, ki_9, ki_10, ki_11, ki_12, ki_17, ki_20, ki_21, ki_22, ki_42, ki_50, ki_58, ki_66, ki_74, ki_140, ki_174, ki_179, ki_184, ki_189, ki_441, nI_add, pk_mul]; with_reducible rfl) | (simp only [ki_0, ki_1, ki_2, ki_3, ki_4, ki_5, ki_6, ki_7, ki_8, ki_9, ki_10, ki_11, ki_12, ki_17, ki_20, ki_21, ki_22, ki_42, ki_50, ki_58, ki_66, ki_74, ki_140, ki_174, ki_179, ki_184, ki_189, ki_441, ix1, nI_add, pk_mul]; with_reducible rfl) | (simp only [ki_0, ki_1, ki_2, ki_3, ki_4, ki_5, ki_6, ki_7, ki_8, ki_9, ki_10, ki_11, ki_12, ki_17, ki_20, ki_21, ki_22, ki_42, ki_50, ki_58, ki_66, ki_74, ki_140, ki_174, ki_179, ki_184, ki_189, ki_441, ix1, ix2, nI_add, pk_mul]; with_reducible rfl) | (simp only [ki_0, ki_1, ki_2, ki_3, ki_4, ki_5, ki_6, ki_7, ki_8, ki_9, ki_10, ki_11, ki_12, ki_17, ki_20, ki_21, ki_22, ki_42, ki_50, ki_58, ki_66, ki_74, ki_140, ki_174, ki_179, ki_184, ki_189, ki_441, ix1, ix2, ix3, nI_add, pk_mul]; with_reducible rfl) | (simp (disch := omega) only [upd_n, ki_0, ki_1, ki_2, ki_3, ki_4, ki_5, ki_6, ki_7, ki_8, ki_9, ki_10, ki_11, ki_12, ki_17, ki_20, ki_21, ki_22, ki_42, ki_50, ki_58, ki_66, ki_74, ki_140, ki_174, ki_179, ki_184, ki_189, ki_441, ix1, nI_add, pk_mul]; with_reducible rfl) | (simp (disch := omega) only [upd_n, ki_0, ki_1, ki_2, ki_3, ki_4, ki_5, ki_6, ki_7, ki_8, ki_9, ki_10, ki_11, ki_12, ki_17, ki_20, ki_21, ki_22, ki_42, ki_50, ki_58, ki_66, ki_74, ki_140, ki_174, ki_179, ki_184, ki_189, ki_441, ix1, ix2, nI_add, pk_mul]; with_reducible rfl) | rfl); (case hlt => first | decide | omega); (case hn => decide))
    refine mT_s rfl rfl ?_
    refine mT_icmp_ne rfl (fun c109 => ?_) (fun c109 => ?_)
    · iterate 8 refine mT_s rfl rfl ?_
      (apply mT_inv; (case hc => rfl); (case hd => rfl); (case hb => first | rfl | assumption); (case hg => rfl))
      refine e_booksGame _ h2 s i o t pd bw _ (nBk le mo bA bB bW mm k) (g + k) hM2 h772 hN2 hG k (bA k) (bB k) (bW k) q4 q5 q6 q1 q2 q3 (by have := hB.2.1; omega) (nBk_le (fun k hk => ⟨(hB.2.2 k hk).2.2.2.1, (hB.2.2 k hk).2.2.2.2.1⟩) hmm k (by omega)) ?_
      iterate 2 refine mT_s rfl rfl ?_
      have hw : bW k = false := by
        cases e : bW k with
        | false => rfl
        | true => exact absurd (by rw [s_at_k s _ _ (show 6 ≤ 58 + k by omega), q3, e]; rfl) c109
      rw [nI_1, (od_n hod).2, lN_mul]
      refine ih (k + 1) (m_up h2 77 _) _ _ (by omega) hM2 rfl hN2 hr2.2.1 hr2.2.2 (fun h3 y hr3 h773 => ?_)
      unfold nC at K
      rw [hw] at K
      exact K h3 y (rX.tr (hr2.up (k := 77) (by decide) (by decide) (by decide)) hr3) h773
    · iterate 7 refine mT_s rfl rfl ?_
      (apply mT_inv; (case hc => rfl); (case hd => rfl); (case hb => first | rfl | assumption); (case hg => rfl))
      refine e_booksGame _ h2 s i o t pd bw _ (nBk le mo bA bB bW mm k) (g + k) hM2 h772 hN2 hG k (bA k) (bB k) (bW k) q4 q5 q6 q1 q2 q3 (by have := hB.2.1; omega) (nBk_le (fun k hk => ⟨(hB.2.2 k hk).2.2.2.1, (hB.2.2 k hk).2.2.2.2.1⟩) hmm k (by omega)) ?_
      iterate 2 refine mT_s rfl rfl ?_
      have hw : bW k = true := by
        cases e : bW k with
        | true => rfl
        | false => exact absurd (show bI false = 1 from e ▸ q3 ▸ s_at_k s _ _ (show 6 ≤ 58 + k by omega) ▸ c109) (by decide)
      rw [nI_1, (od_n hod).1, lN_mul]
      refine ih (k + 1) (m_up h2 77 _) _ _ (by omega) hM2 rfl hN2 hr2.2.1 hr2.2.2 (fun h3 y hr3 h773 => ?_)
      unfold nC at K
      rw [hw] at K
      exact K h3 y (rX.tr (hr2.up (k := 77) (by decide) (by decide) (by decide)) hr3) h773
theorem upd_id (f : Nat → Int32) (k : Nat) : upd f k (f k) = f := by
  funext j
  unfold upd
  split
  · rename_i e; rw [e]
  · rfl
set_option maxHeartbeats 4000000 in
theorem e_lik_O (s i : Nat → Int32) (o t : Nat) (pd bw : Int64) (Q : Option Value → mH → Prop) (mm : Nat → Nat) (g : Nat) {l : List Tok} {le mo : Nat} (hG : sG s l le mo) (hmm : ∀ j, j < 5 → mm j ≤ 20) (hg : g < 10100) {nb : Nat} {bA bB : Nat → Nat} {bW : Nat → Bool} (hB : sB s nb bA bB bW) (p : Nat) (hp : p < 5) (d : Nat)  : ∀ (r v : Nat) (h : mH) (best : Nat) (most : Int) (x7 x8 x9 x10 : Option Value), v + r = 10 → (-1 ≤ most ∧ most ≤ 43046721) → best ≤ 10 → h 76 = .inr (10, mObj i o t pd bw) → (∃ y, h 77 = .inl (0, 889, .inl (s_at (upd s (17 + p) y) mm g))) → 87 ≤ m_nx h → (∃ f, h 80 = .inl (0, 5, .inl f)) → (∃ g, h 81 = .inl (2, 64, .inl g)) → (∃ f, h 79 = .inl (0, 6, .inl f)) → (∀ h2, rX [77, 79, 80, 81] h h2 → h2 77 = .inl (0, 889, .inl (s_at s mm g)) → (∃ f, h2 79 = .inl (0, 6, .inl f)) → Q (some (.int (nI (nLi (fun v => nC (b_od (upd s (17 + p) (nI v)) l le mo bA bB bW mm g) bW nb 0 1) r v best most)))) h2) → mT0 (d + 4) z_X10_likely 30 [some (.ref 76), some (.int (nI p)), some (.int (s (17 + p))), some (.int (nI best)), some (.long (iL most)), none, some (.int (nI v)), x7, x8, x9, x10] [] h Q := by
  intro r
  induction r with
  | zero =>
    intro v h best most x7 x8 x9 x10 hv hmo hbe hM ⟨y0, h77⟩ hN h80 h81 ⟨f0, h79⟩ K
    iterate 2 refine mT_s rfl rfl ?_
    refine mT_icmp_ge rfl (fun _ => ?_) (fun c => absurd (nI_le (a := 10) (b := v) (by omega) (by omega)) c)
    refine mT_s rfl rfl ?_
    (apply mT_getf; (case hc => rfl); (case ha => first | rfl | assumption); (case hf => first | rfl | assumption))
    iterate 4 refine mT_s rfl rfl ?_
    (apply mT_iastK; (case hc => rfl); (case ha => first | rfl | assumption); (case hk => first | (simp only [ki_0, ki_1, ki_2, ki_3, ki_4, ki_5, ki_6, ki_7, ki_8, ki_9, ki_10, ki_11, ki_12, ki_17, ki_20, ki_21, ki_22, ki_42, ki_50, ki_58, ki_66, ki_74, ki_140, ki_174, ki_179, ki_184, ki_189, ki_441, nI_add, pk_mul]; with_reducible rfl) | (simp only [ki_0, ki_1, ki_2, ki_3, ki_4, ki_5, ki_6, ki_7, ki_8, ki_9, ki_10, ki_11, ki_12, ki_17, ki_20, ki_21, ki_22, ki_42, ki_50, ki_58, ki_66, ki_74, ki_140, ki_174, ki_179, ki_184, ki_189, ki_441, ix1, nI_add, pk_mul]; with_reducible rfl) | (simp only [ki_0, ki_1, ki_2, ki_3, ki_4, ki_5, ki_6, ki_7, ki_8, ki_9, ki_10, ki_11, ki_12, ki_17, ki_20, ki_21, ki_22, ki_42, ki_50, ki_58, ki_66, ki_74, ki_140, ki_174, ki_179, ki_184, ki_189, ki_441, ix1, ix2, nI_add, pk_mul]; with_reducible rfl) | (simp only [ki_0, ki_1, ki_2, ki_3, ki_4, ki_5, ki_6, ki_7, ki_8, ki_9, ki_10, ki_11, ki_12, ki_17, ki_20, ki_21, ki_22, ki_42, ki_50, ki_58, ki_66, ki_74, ki_140, ki_174, ki_179, ki_184, ki_189, ki_441, ix1, ix2, ix3, nI_add, pk_mul]; with_reducible rfl) | (simp (disch := omega) only [upd_n, ki_0, ki_1, ki_2, ki_3, ki_4, ki_5, ki_6, ki_7, ki_8, ki_9, ki_10, ki_11, ki_12, ki_17, ki_20, ki_21, ki_22, ki_42, ki_50, ki_58, ki_66, ki_74, ki_140, ki_174, ki_179, ki_184, ki_189, ki_441, ix1, nI_add, pk_mul]; with_reducible rfl) | (simp (disch := omega) only [upd_n, ki_0, ki_1, ki_2, ki_3, ki_4, ki_5, ki_6, ki_7, ki_8, ki_9, ki_10, ki_11, ki_12, ki_17, ki_20, ki_21, ki_22, ki_42, ki_50, ki_58, ki_66, ki_74, ki_140, ki_174, ki_179, ki_184, ki_189, ki_441, ix1, ix2, nI_add, pk_mul]; with_reducible rfl) | rfl); (case hlt => first | decide | omega); (case hn => decide); (case hN => assumption); (case hg => rfl))
    refine mT_s rfl rfl ?_
    refine mT_ret rfl rfl ?_
    rw [s_at_uv _ _ _ (show 6 ≤ 17 + p by omega), upd_u, upd_id]
    exact K _ ((rX.rfl' h80 h81).up (by decide) (by decide) (by decide)) rfl ⟨f0, h79⟩
  | succ r ih =>
    intro v h best most x7 x8 x9 x10 hv hmo hbe hM ⟨y0, h77⟩ hN h80 h81 ⟨f0, h79⟩ K
    iterate 2 refine mT_s rfl rfl ?_
    refine mT_icmp_ge rfl (fun c => absurd c (nI_ge (a := v) (b := 10) (by omega) (by omega))) (fun _ => ?_)
    refine mT_s rfl rfl ?_
    (apply mT_getf; (case hc => rfl); (case ha => first | rfl | assumption); (case hf => first | rfl | assumption))
    iterate 4 refine mT_s rfl rfl ?_
    (apply mT_iastK; (case hc => rfl); (case ha => first | rfl | assumption); (case hk => first | (simp only [ki_0, ki_1, ki_2, ki_3, ki_4, ki_5, ki_6, ki_7, ki_8, ki_9, ki_10, ki_11, ki_12, ki_17, ki_20, ki_21, ki_22, ki_42, ki_50, ki_58, ki_66, ki_74, ki_140, ki_174, ki_179, ki_184, ki_189, ki_441, nI_add, pk_mul]; with_reducible rfl) | (simp only [ki_0, ki_1, ki_2, ki_3, ki_4, ki_5, ki_6, ki_7, ki_8, ki_9, ki_10, ki_11, ki_12, ki_17, ki_20, ki_21, ki_22, ki_42, ki_50, ki_58, ki_66, ki_74, ki_140, ki_174, ki_179, ki_184, ki_189, ki_441, ix1, nI_add, pk_mul]; with_reducible rfl) | (simp only [ki_0, ki_1, ki_2, ki_3, ki_4, ki_5, ki_6, ki_7, ki_8, ki_9, ki_10, ki_11, ki_12, ki_17, ki_20, ki_21, ki_22, ki_42, ki_50, ki_58, ki_66, ki_74, ki_140, ki_174, ki_179, ki_184, ki_189, ki_441, ix1, ix2, nI_add, pk_mul]; with_reducible rfl) | (simp only [ki_0, ki_1, ki_2, ki_3, ki_4, ki_5, ki_6, ki_7, ki_8, ki_9, ki_10, ki_11, ki_12, ki_17, ki_20, ki_21, ki_22, ki_42, ki_50, ki_58, ki_66, ki_74, ki_140, ki_174, ki_179, ki_184, ki_189, ki_441, ix1, ix2, ix3, nI_add, pk_mul]; with_reducible rfl) | (simp (disch := omega) only [upd_n, ki_0, ki_1, ki_2, ki_3, ki_4, ki_5, ki_6, ki_7, ki_8, ki_9, ki_10, ki_11, ki_12, ki_17, ki_20, ki_21, ki_22, ki_42, ki_50, ki_58, ki_66, ki_74, ki_140, ki_174, ki_179, ki_184, ki_189, ki_441, ix1, nI_add, pk_mul]; with_reducible rfl) | (simp (disch := omega) only [upd_n, ki_0, ki_1, ki_2, ki_3, ki_4, ki_5, ki_6, ki_7, ki_8, ki_9, ki_10, ki_11, ki_12, ki_17, ki_20, ki_21, ki_22, ki_42, ki_50, ki_58, ki_66, ki_74, ki_140, ki_174, ki_179, ki_184, ki_189, ki_441, ix1, ix2, nI_add, pk_mul]; with_reducible rfl) | rfl); (case hlt => first | decide | omega); (case hn => decide); (case hN => assumption); (case hg => rfl))
    refine mT_s rfl rfl ?_
    (apply mT_inv; (case hc => rfl); (case hd => rfl); (case hb => first | rfl | assumption); (case hg => rfl))
    rw [s_at_uv _ _ _ (show 6 ≤ 17 + p by omega), upd_u]
    have hG2 : sG (upd s (17 + p) (nI v)) l le mo := sG_c (fun k hk => upd_n s _ (by omega)) (upd_n s _ (by omega)) hG
    have hB2 : sB (upd s (17 + p) (nI v)) nb bA bB bW := sB_c (fun k hk => upd_n s _ (by omega)) (upd_n s _ (by omega)) hB
    refine e_keeps _ (m_up h 77 _) _ i f0 o t pd bw _ hM rfl h79 hN (fun f2 hf2 => ?_)
    iterate 4 refine mT_s rfl rfl ?_
    rw [show m_up (m_up h 77 (.inl (0, 889, .inl (s_at (upd s (17 + p) (nI v)) mm g)))) 79 (.inl (0, 6, .inl f2)) = m_up (m_up h 77 (.inl (0, 889, .inl (s_at (upd s (17 + p) (nI v)) (nBk le mo bA bB bW mm 0) (g + 0))))) 79 (.inl (0, 6, .inl f2)) from rfl]
    refine e_lik_L (upd s (17 + p) (nI v)) i o t pd bw Q mm g hG2 hmm hg hB2 (nI p) (s (17 + p)) (nI best) (nI v) (iL most) d nb 0 (m_up (m_up h 77 _) 79 _) 1 _ (by omega) hM rfl hN h80 h81 (fun h3 y hr3 h773 => ?_)
    have hM3 : h3 76 = _ := (hr3.1 76 (by decide)).trans hM
    have h793 : h3 79 = _ := (hr3.1 79 (by decide))
    have h793 : h3 79 = .inl (0, 6, .inl f2) := h793
    have hN3 : 87 ≤ m_nx h3 := by rw [hr3.nx (by decide)]; exact hN
    have hod9 : ∀ k, 1 ≤ b_od (upd s (17 + p) (nI v)) l le mo bA bB bW mm g k ∧ b_od (upd s (17 + p) (nI v)) l le mo bA bB bW mm g k ≤ 9 := fun k => (a_od_n _ l _ _ _ _ _).2
    have hch := nC_le (bW := bW) hod9 nb 0 1 (Nat.le_refl 1)
    have h98 : 9 ^ nb ≤ 9 ^ 8 := Nat.pow_le_pow_right (by decide) hB.2.1
    refine mT_s rfl rfl ?_
    (apply mT_inv; (case hc => rfl); (case hd => rfl); (case hb => first | rfl | assumption); (case hg => rfl))
    refine e_goesBack _ h3 _ i f2 o t pd bw _ hM3 h773 h793 hN3 ?_
    rw [back_at hf2]
    iterate 3 refine mT_s rfl rfl ?_
    refine mT_if_le rfl (fun c148 => ?_) (fun c148 => ?_)
    · have c148m := c148
      have c148 : ¬ most < ((nC (b_od (upd s (17 + p) (nI v)) l le mo bA bB bW mm g) bW nb 0 1 : Nat) : Int) := fun z => Int64.not_lt.mpr ((lg_cmp_le _ _).mp c148m) ((iL_lt (by omega) (by omega) (by omega) (by omega)).mpr z)
      iterate 5 refine mT_s rfl rfl ?_
      refine mT_if_le rfl (fun _ => ?_) (fun c => absurd c148m c)
      iterate 4 refine mT_s rfl rfl ?_
      rw [nI_1]
      unfold nLi at K
      have hr4 : rX [77, 79, 80, 81] h (m_up h3 77 (.inl (0, 889, .inl (s_at (upd s (17 + p) (nI v)) mm g)))) := ((((rX.rfl' h80 h81).up (k := 77) (by decide) (by decide) (by decide)).up (k := 79) (by decide) (by decide) (by decide)).tr (hr3.mono (by decide))).up (by decide) (by decide) (by decide)
      rw [if_neg c148] at K
      exact ih (v + 1) (m_up h3 77 _) best most _ _ _ _ (by omega) hmo (by omega) hM3 ⟨_, rfl⟩ hN3 hr3.2.1 hr3.2.2 ⟨_, h793⟩ (fun h5 hr5 h775 h795 => K h5 (rX.tr hr4 hr5) h775 h795)
    · have c148m := c148
      have c148 : most < ((nC (b_od (upd s (17 + p) (nI v)) l le mo bA bB bW mm g) bW nb 0 1 : Nat) : Int) := (iL_lt (by omega) (by omega) (by omega) (by omega)).mp (Int64.not_le.mp (fun z => c148m ((lg_cmp_le _ _).mpr z)))
      iterate 6 refine mT_s rfl rfl ?_
      refine mT_if_le rfl (fun c => absurd c c148m) (fun _ => ?_)
      iterate 5 refine mT_s rfl rfl ?_
      rw [nI_1]
      unfold nLi at K
      have hr4 : rX [77, 79, 80, 81] h (m_up h3 77 (.inl (0, 889, .inl (s_at (upd s (17 + p) (nI v)) mm g)))) := ((((rX.rfl' h80 h81).up (k := 77) (by decide) (by decide) (by decide)).up (k := 79) (by decide) (by decide) (by decide)).tr (hr3.mono (by decide))).up (by decide) (by decide) (by decide)
      rw [if_pos c148] at K
      exact ih (v + 1) (m_up h3 77 _) v _ _ _ _ _ (by omega) (by omega) (by omega) hM3 ⟨_, rfl⟩ hN3 hr3.2.1 hr3.2.2 ⟨_, h793⟩ (fun h5 hr5 h775 h795 => K h5 (rX.tr hr4 hr5) h775 h795)
theorem e_likely (d : Nat) (h : mH) (s i : Nat → Int32) (o t : Nat) (pd bw : Int64) (Q : Option Value → mH → Prop) (hM : h 76 = .inr (10, mObj i o t pd bw)) (h77 : h 77 = .inl (0, 889, .inl s)) (hN : 87 ≤ m_nx h) (hI : s_Inv s) {l : List Tok} {le mo : Nat} (hG : sG s l le mo) (mm : Nat → Nat) (g : Nat) (hmm : ∀ j, j < 5 → mm j ≤ 20) (hs : s_at s mm g = s) (hg : g ≤ 9999) (h80 : ∃ f, h 80 = .inl (0, 5, .inl f)) (h81 : ∃ g, h 81 = .inl (2, 64, .inl g))  {nb : Nat} {bA bB : Nat → Nat} {bW : Nat → Bool} (hB : sB s nb bA bB bW) (h79 : ∃ f, h 79 = .inl (0, 6, .inl f)) (x : Int32) (kN : ¬ okP s x → Q (some (.int (-1))) h) (k : ∀ p : Nat, p < 5 → x = nI p → okP s x → ∀ h2, rX [77, 79, 80, 81] h h2 → h2 77 = .inl (0, 889, .inl s) → (∃ f, h2 79 = .inl (0, 6, .inl f)) → Q (some (.int (nI (nLi (fun v => nC (b_od (upd s (17 + p) (nI v)) l le mo bA bB bW mm g) bW nb 0 1) 10 0 0 (-1))))) h2) : mT0 (d + 4) z_X10_likely 0 (m_init z_X10_likely [.ref 76, .int x]) [] h Q := by
  iterate 2 refine mT_s rfl rfl ?_
  (apply mT_inv; (case hc => rfl); (case hd => rfl); (case hb => first | rfl | assumption); (case hg => rfl))
  refine e_isPlayer _ _ _ _ _ _ _ _ _ hM h77 hN hI _ (fun p hp ix1 v2 => ?_) (fun v2 => ?_)
  · skip
    iterate 2 refine mT_s rfl rfl ?_
    (apply mT_getf; (case hc => rfl); (case ha => first | rfl | assumption); (case hf => first | rfl | assumption))
    iterate 3 refine mT_s rfl rfl ?_
    (apply mT_ialdK; (case hc => rfl); (case ha => first | rfl | assumption); (case hk => first | (simp only [ki_0, ki_1, ki_2, ki_3, ki_4, ki_5, ki_6, ki_7, ki_8, ki_9, ki_10, ki_11, ki_12, ki_17, ki_20, ki_21, ki_22, ki_42, ki_50, ki_58, ki_66, ki_74, ki_140, ki_174, ki_179, ki_184, ki_189, ki_441, nI_add, pk_mul]; with_reducible rfl) | (simp only [ki_0, ki_1, ki_2, ki_3, ki_4, ki_5, ki_6, ki_7, ki_8, ki_9, ki_10, ki_11, ki_12, ki_17, ki_20, ki_21, ki_22, ki_42, ki_50, ki_58, ki_66, ki_74, ki_140, ki_174, ki_179, ki_184, ki_189, ki_441, ix1, nI_add, pk_mul]; with_reducible rfl) | (simp only [ki_0, ki_1, ki_2, ki_3, ki_4, ki_5, ki_6, ki_7, ki_8, ki_9, ki_10, ki_11, ki_12, ki_17, ki_20, ki_21, ki_22, ki_42, ki_50, ki_58, ki_66, ki_74, ki_140, ki_174, ki_179, ki_184, ki_189, ki_441, ix1, ix2, nI_add, pk_mul]; with_reducible rfl) | (simp only [ki_0, ki_1, ki_2, ki_3, ki_4, ki_5, ki_6, ki_7, ki_8, ki_9, ki_10, ki_11, ki_12, ki_17, ki_20, ki_21, ki_22, ki_42, ki_50, ki_58, ki_66, ki_74, ki_140, ki_174, ki_179, ki_184, ki_189, ki_441, ix1, ix2, ix3, nI_add, pk_mul]; with_reducible rfl) | (simp (disch := omega) only [upd_n, ki_0, ki_1, ki_2, ki_3, ki_4, ki_5, ki_6, ki_7, ki_8, ki_9, ki_10, ki_11, ki_12, ki_17, ki_20, ki_21, ki_22, ki_42, ki_50, ki_58, ki_66, ki_74, ki_140, ki_174, ki_179, ki_184, ki_189, ki_441, ix1, nI_add, pk_mul]; with_reducible rfl) | (simp (disch := omega) only [upd_n, ki_0, ki_1, ki_2, ki_3, ki_4, ki_5, ki_6, ki_7, ki_8, ki_9, ki_10, ki_11, ki_12, ki_17, ki_20, ki_21, ki_22, ki_42, ki_50, ki_58, ki_66, ki_74, ki_140, ki_174, ki_179, ki_184, ki_189, ki_441, ix1, ix2, nI_add, pk_mul]; with_reducible rfl) | rfl); (case hlt => first | decide | omega); (case hn => decide))
    iterate 7 refine mT_s rfl rfl ?_
    subst ix1
    refine e_lik_O s i o t pd bw Q mm g hG hmm (by omega) hB p hp d 10 0 h 0 (-1) _ _ _ _ (by omega) (by decide) (by omega) hM ⟨s (17 + p), by rw [upd_id, hs]; exact h77⟩ hN h80 h81 h79 (fun h2 hr2 h772 h792 => ?_)
    rw [hs] at h772
    exact k p hp rfl v2 h2 hr2 h772 h792
  · iterate 2 refine mT_s rfl rfl ?_
    refine mT_ret rfl rfl ?_
    exact kN v2
