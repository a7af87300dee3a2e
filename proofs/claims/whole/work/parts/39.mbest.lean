/-! By program (wip/whole/book*.py) and hand. -/
/-- the best for the last of n + 1 games, and whether to lose the first one on purpose -/
def nP (od : Nat → Nat → Nat → Nat) (fw mr : Nat → Nat) : Nat → Nat → Nat → Nat → Nat
  | 0, g, m, o => od m o g
  | n + 1, g, m, o => max (10 * nP od fw mr n (g + 1) (mr m) (fw o)) (od m o g * nP od fw mr n (g + 1) (fw m) (mr o) + (10 - od m o g) * nP od fw mr n (g + 1) (mr m) (fw o))
def nPl (od : Nat → Nat → Nat → Nat) (fw mr : Nat → Nat) (n g m o : Nat) : Bool := match n with
  | 0 => false
  | n + 1 => decide (od m o g * nP od fw mr n (g + 1) (fw m) (mr o) + (10 - od m o g) * nP od fw mr n (g + 1) (mr m) (fw o) < 10 * nP od fw mr n (g + 1) (mr m) (fw o))
theorem mix_le {k a b B : Nat} (hk : k ≤ 10) (ha : a ≤ B) (hb : b ≤ B) : k * a + (10 - k) * b ≤ 10 * B := by
  have h1 := Nat.mul_le_mul_left k ha
  have h2 := Nat.mul_le_mul_left (10 - k) hb
  have h3 : k * B + (10 - k) * B = 10 * B := by rw [← Nat.add_mul, show k + (10 - k) = 10 by omega]
  omega
theorem nP_le {od : Nat → Nat → Nat → Nat} {fw mr : Nat → Nat} (hod : ∀ m o g, od m o g ≤ 9) : ∀ n g m o, nP od fw mr n g m o ≤ 9 * 10 ^ n
  | 0, g, m, o => by
    have := hod m o g
    show od m o g ≤ 9 * 10 ^ 0
    omega
  | n + 1, g, m, o => by
    have h1 := nP_le hod (fw := fw) (mr := mr) n (g + 1) (mr m) (fw o)
    have h2 := nP_le hod (fw := fw) (mr := mr) n (g + 1) (fw m) (mr o)
    have h3 := mix_le (Nat.le_trans (hod m o g) (by decide)) h2 h1
    show max _ _ ≤ 9 * (10 ^ n * 10)
    rw [show 9 * (10 ^ n * 10) = 10 * (9 * 10 ^ n) from by omega]
    exact Nat.max_le.mpr ⟨Nat.mul_le_mul_left 10 h1, h3⟩
theorem od_n {k : Nat} (hk : k ≤ 10) : (nI k).toInt64 = lN k ∧ ((10 : Int32) - nI k).toInt64 = lN (10 - k) := by
  refine ⟨nI_l (by omega), ?_⟩
  rw [show (10 : Int32) = nI 10 from rfl, pk_sub hk, nI_l (by omega)]
theorem mObj_15 (i : Nat → Int32) (o t : Nat) (pd bw : Int64) (x : Int32) : (mObj i o t pd bw).set 15 (.int x) = mObj (upd i 15 x) o t pd bw := rfl
set_option maxHeartbeats 4000000 in
theorem e_bestFor (s : Nat → Int32) (o t : Nat) (bw : Int64) {l : List Tok} {le mo : Nat} (hG : sG s l le mo) (p q : Nat) (hp : p < 5) (hq : q < 5) (hpq : p ≠ q) (d : Nat) : ∀ (n : Nat) (h : mH) (i : Nat → Int32) (pd : Int64) (Q : Option Value → mH → Prop) (mm : Nat → Nat) (g : Nat) (hmm : ∀ j, j < 5 → mm j ≤ 20), g + n < 20000 → n < 8 → h 76 = .inr (10, mObj i o t pd bw) → h 77 = .inl (0, 889, .inl (s_at s mm g)) → 87 ≤ m_nx h → (∃ f, h 80 = .inl (0, 5, .inl f)) → (∃ g, h 81 = .inl (2, 64, .inl g)) → (∀ h2, rX [76, 77, 80, 81] h h2 → h2 77 = .inl (0, 889, .inl (s_at s mm g)) → h2 76 = .inr (10, mObj (upd i 15 (bI (nPl (a_od s l p q) (n_few le) (n_mor mo) n g (mm p) (mm q)))) o t pd bw) → Q (some (.long (lN (nP (a_od s l p q) (n_few le) (n_mor mo) n g (mm p) (mm q))))) h2) → mT0 (d + n + 3) z_X10_bestFor 0 (m_init z_X10_bestFor [.ref 76, .int (nI p), .int (nI q), .int (nI (n + 1))]) [] h Q := by
  intro n
  induction n with
  | zero =>
    intro h i pd Q mm g hmm hgn hn hM h77 hN h80 h81 K
    have hod := Nat.le_trans (a_od_n s l p q (mm p) (mm q) g).2.2 (show 9 ≤ 10 by decide)
    iterate 3 refine mT_s rfl rfl ?_
    (apply mT_inv; (case hc => rfl); (case hd => rfl); (case hb => first | rfl | assumption); (case hg => rfl))
    refine e_odds_at _ h s i o t pd bw _ mm g hM h77 hN hG p q hp hq (by omega) h80 h81 (fun h2 hr2 h772 => ?_)
    have hM2 : h2 76 = _ := (hr2.1 76 (by decide)).trans hM
    have hN2 : 87 ≤ m_nx h2 := by rw [hr2.nx (by decide)]; exact hN
    iterate 3 refine mT_s rfl rfl ?_
    refine mT_icmp_ne rfl (fun c => absurd rfl c) (fun _ => ?_)
    iterate 2 refine mT_s rfl rfl ?_
    (apply mT_putfN; (case hc => rfl); (case ha => first | rfl | assumption); (case hN => assumption); (case hg => rfl))
    iterate 2 refine mT_s rfl rfl ?_
    refine mT_ret rfl rfl ?_
    have K := K (m_up h2 76 (.inr (10, mObj (upd i 15 0) o t pd bw))) ((hr2.mono (by decide)).up (by decide) (by decide) (by decide)) h772 rfl
    rw [(od_n hod).1]
    exact K
  | succ n ih =>
    intro h i pd Q mm g hmm hgn hn hM h77 hN h80 h81 K
    have hod := Nat.le_trans (a_od_n s l p q (mm p) (mm q) g).2.2 (show 9 ≤ 10 by decide)
    iterate 3 refine mT_s rfl rfl ?_
    (apply mT_inv; (case hc => rfl); (case hd => rfl); (case hb => first | rfl | assumption); (case hg => rfl))
    refine e_odds_at _ h s i o t pd bw _ mm g hM h77 hN hG p q hp hq (by omega) h80 h81 (fun h2 hr2 h772 => ?_)
    have hM2 : h2 76 = _ := (hr2.1 76 (by decide)).trans hM
    have hN2 : 87 ≤ m_nx h2 := by rw [hr2.nx (by decide)]; exact hN
    iterate 3 refine mT_s rfl rfl ?_
    refine mT_icmp_ne rfl (fun _ => ?_) (fun c => absurd ((nI_eq (a := n + 1 + 1) (b := 1) (by omega) (by omega)).mp c) (by omega))
    refine mT_s rfl rfl ?_
    (apply mT_getf; (case hc => rfl); (case ha => first | rfl | assumption); (case hf => first | rfl | assumption))
    iterate 3 refine mT_s rfl rfl ?_
    (apply mT_ialdK; (case hc => rfl); (case ha => first | rfl | assumption); (case hk => first | (simp only [ki_0, ki_1, ki_2, ki_3, ki_4, ki_5, ki_6, ki_7, ki_8, ki_9, ki_10, ki_11, ki_12, ki_17, ki_20, ki_21, ki_22, ki_42, ki_50, ki_58, ki_66, ki_74, ki_140, ki_174, ki_179, ki_184, ki_189, ki_441, nI_add, pk_mul]; with_reducible rfl) | (simp only [ki_0, ki_1, ki_2, ki_3, ki_4, ki_5, ki_6, ki_7, ki_8, ki_9, ki_10, ki_11, ki_12, ki_17, ki_20, ki_21, ki_22, ki_42, ki_50, ki_58, ki_66, ki_74, ki_140, ki_174, ki_179, ki_184, ki_189, ki_441, ix1, nI_add, pk_mul]; with_reducible rfl) | (simp only [ki_0, ki_1, ki_2, ki_3, ki_4, ki_5, ki_6, ki_7, ki_8, ki_9, ki_10, ki_11, ki_12, ki_17, ki_20, ki_21, ki_22, ki_42, ki_50, ki_58, ki_66, ki_74, ki_140, ki_174, ki_179, ki_184, ki_189, ki_441, ix1, ix2, nI_add, pk_mul]; with_reducible rfl) | (simp only [ki_0, ki_1, ki_2, ki_3, ki_4, ki_5, ki_6, ki_7, ki_8, ki_9, ki_10, ki_11, ki_12, ki_17, ki_20, ki_21, ki_22, ki_42, ki_50, ki_58, ki_66, ki_74, ki_140, ki_174, ki_179, ki_184, ki_189, ki_441, ix1, ix2, ix3, nI_add, pk_mul]; with_reducible rfl) | (simp (disch := omega) only [upd_n, ki_0, ki_1, ki_2, ki_3, ki_4, ki_5, ki_6, ki_7, ki_8, ki_9, ki_10, ki_11, ki_12, ki_17, ki_20, ki_21, ki_22, ki_42, ki_50, ki_58, ki_66, ki_74, ki_140, ki_174, ki_179, ki_184, ki_189, ki_441, ix1, nI_add, pk_mul]; with_reducible rfl) | (simp (disch := omega) only [upd_n, ki_0, ki_1, ki_2, ki_3, ki_4, ki_5, ki_6, ki_7, ki_8, ki_9, ki_10, ki_11, ki_12, ki_17, ki_20, ki_21, ki_22, ki_42, ki_50, ki_58, ki_66, ki_74, ki_140, ki_174, ki_179, ki_184, ki_189, ki_441, ix1, ix2, nI_add, pk_mul]; with_reducible rfl) | rfl); (case hlt => first | decide | omega); (case hn => decide))
    iterate 2 refine mT_s rfl rfl ?_
    (apply mT_getf; (case hc => rfl); (case ha => first | rfl | assumption); (case hf => first | rfl | assumption))
    iterate 3 refine mT_s rfl rfl ?_
    (apply mT_ialdK; (case hc => rfl); (case ha => first | rfl | assumption); (case hk => first | (simp only [ki_0, ki_1, ki_2, ki_3, ki_4, ki_5, ki_6, ki_7, ki_8, ki_9, ki_10, ki_11, ki_12, ki_17, ki_20, ki_21, ki_22, ki_42, ki_50, ki_58, ki_66, ki_74, ki_140, ki_174, ki_179, ki_184, ki_189, ki_441, nI_add, pk_mul]; with_reducible rfl) | (simp only [ki_0, ki_1, ki_2, ki_3, ki_4, ki_5, ki_6, ki_7, ki_8, ki_9, ki_10, ki_11, ki_12, ki_17, ki_20, ki_21, ki_22, ki_42, ki_50, ki_58, ki_66, ki_74, ki_140, ki_174, ki_179, ki_184, ki_189, ki_441, ix1, nI_add, pk_mul]; with_reducible rfl) | (simp only [ki_0, ki_1, ki_2, ki_3, ki_4, ki_5, ki_6, ki_7, ki_8, ki_9, ki_10, ki_11, ki_12, ki_17, ki_20, ki_21, ki_22, ki_42, ki_50, ki_58, ki_66, ki_74, ki_140, ki_174, ki_179, ki_184, ki_189, ki_441, ix1, ix2, nI_add, pk_mul]; with_reducible rfl) | (simp only [ki_0, ki_1, ki_2, ki_3, ki_4, ki_5, ki_6, ki_7, ki_8, ki_9, ki_10, ki_11, ki_12, ki_17, ki_20, ki_21, ki_22, ki_42, ki_50, ki_58, ki_66, ki_74, ki_140, ki_174, ki_179, ki_184, ki_189, ki_441, ix1, ix2, ix3, nI_add, pk_mul]; with_reducible rfl) | (simp (disch := omega) only [upd_n, ki_0, ki_1, ki_2, ki_3, ki_4, ki_5, ki_6, ki_7, ki_8, ki_9, ki_10, ki_11, ki_12, ki_17, ki_20, ki_21, ki_22, ki_42, ki_50, ki_58, ki_66, ki_74, ki_140, ki_174, ki_179, ki_184, ki_189, ki_441, ix1, nI_add, pk_mul]; with_reducible rfl) | (simp (disch := omega) only [upd_n, ki_0, ki_1, ki_2, ki_3, ki_4, ki_5, ki_6, ki_7, ki_8, ki_9, ki_10, ki_11, ki_12, ki_17, ki_20, ki_21, ki_22, ki_42, ki_50, ki_58, ki_66, ki_74, ki_140, ki_174, ki_179, ki_184, ki_189, ki_441, ix1, ix2, nI_add, pk_mul]; with_reducible rfl) | rfl); (case hlt => first | decide | omega); (case hn => decide))
    iterate 4 refine mT_s rfl rfl ?_
    (apply mT_inv; (case hc => rfl); (case hd => rfl); (case hb => first | rfl | assumption); (case hg => rfl))
    rw [s_at_m s mm g hp, s_at_m s mm g hq]
    refine e_plays_at _ h2 s i o t pd bw _ mm g hM2 h772 hN2 hG p q hp hq hpq (Nat.le_trans (hmm p hp) (by decide)) (Nat.le_trans (hmm q hq) (by decide)) ?_
    iterate 6 refine mT_s rfl rfl ?_
    (apply mT_inv; (case hc => rfl); (case hd => rfl); (case hb => first | rfl | assumption); (case hg => rfl))
    rw [show (1 : Int32) = nI 1 from rfl, pk_sub (by omega)]
    refine ih (m_up h2 77 (.inl (0, 889, .inl (s_at s (n_play le mo mm p q) (g + 1))))) _ pd _ (n_play le mo mm p q) (g + 1) (n_play_le hp hmm) (by omega) (by omega) hM2 rfl hN2 hr2.2.1 hr2.2.2 (fun h3 hr3 h773 h763 => ?_)
    have hM3 := h763
    have hN3 : 87 ≤ m_nx h3 := by rw [hr3.nx (by decide)]; exact hN2
    iterate 2 refine mT_s rfl rfl ?_
    (apply mT_getf; (case hc => rfl); (case ha => first | rfl | assumption); (case hf => first | rfl | assumption))
    iterate 5 refine mT_s rfl rfl ?_
    (apply mT_inv; (case hc => rfl); (case hd => rfl); (case hb => first | rfl | assumption); (case hg => rfl))
    refine e_moreOf_at _ h3 s _ o t pd bw _ _ _ hM3 h773 hN3 hG _ (mm p) rfl (Nat.le_trans (hmm p hp) (by decide)) ?_
    (apply mT_iastK; (case hc => rfl); (case ha => first | rfl | assumption); (case hk => first | (simp only [ki_0, ki_1, ki_2, ki_3, ki_4, ki_5, ki_6, ki_7, ki_8, ki_9, ki_10, ki_11, ki_12, ki_17, ki_20, ki_21, ki_22, ki_42, ki_50, ki_58, ki_66, ki_74, ki_140, ki_174, ki_179, ki_184, ki_189, ki_441, nI_add, pk_mul]; with_reducible rfl) | (simp only [ki_0, ki_1, ki_2, ki_3, ki_4, ki_5, ki_6, ki_7, ki_8, ki_9, ki_10, ki_11, ki_12, ki_17, ki_20, ki_21, ki_22, ki_42, ki_50, ki_58, ki_66, ki_74, ki_140, ki_174, ki_179, ki_184, ki_189, ki_441, ix1, nI_add, pk_mul]; with_reducible rfl) | (simp only [ki_0, ki_1, ki_2, ki_3, ki_4, ki_5, ki_6, ki_7, ki_8, ki_9, ki_10, ki_11, ki_12, ki_17, ki_20, ki_21, ki_22, ki_42, ki_50, ki_58, ki_66, ki_74, ki_140, ki_174, ki_179, ki_184, ki_189, ki_441, ix1, ix2, nI_add, pk_mul]; with_reducible rfl) | (simp only [ki_0, ki_1, ki_2, ki_3, ki_4, ki_5, ki_6, ki_7, ki_8, ki_9, ki_10, ki_11, ki_12, ki_17, ki_20, ki_21, ki_22, ki_42, ki_50, ki_58, ki_66, ki_74, ki_140, ki_174, ki_179, ki_184, ki_189, ki_441, ix1, ix2, ix3, nI_add, pk_mul]; with_reducible rfl) | (simp (disch := omega) only [upd_n, ki_0, ki_1, ki_2, ki_3, ki_4, ki_5, ki_6, ki_7, ki_8, ki_9, ki_10, ki_11, ki_12, ki_17, ki_20, ki_21, ki_22, ki_42, ki_50, ki_58, ki_66, ki_74, ki_140, ki_174, ki_179, ki_184, ki_189, ki_441, ix1, nI_add, pk_mul]; with_reducible rfl) | (simp (disch := omega) only [upd_n, ki_0, ki_1, ki_2, ki_3, ki_4, ki_5, ki_6, ki_7, ki_8, ki_9, ki_10, ki_11, ki_12, ki_17, ki_20, ki_21, ki_22, ki_42, ki_50, ki_58, ki_66, ki_74, ki_140, ki_174, ki_179, ki_184, ki_189, ki_441, ix1, ix2, nI_add, pk_mul]; with_reducible rfl) | rfl); (case hlt => first | decide | omega); (case hn => decide); (case hN => assumption); (case hg => rfl))
    refine mT_s rfl rfl ?_
    (apply mT_getf; (case hc => rfl); (case ha => first | rfl | assumption); (case hf => first | rfl | assumption))
    iterate 5 refine mT_s rfl rfl ?_
    (apply mT_inv; (case hc => rfl); (case hd => rfl); (case hb => first | rfl | assumption); (case hg => rfl))
    rw [s_at_um s _ _ _ hp]
    refine e_fewer_at _ (m_up h3 77 _) s _ o t pd bw _ _ _ hM3 rfl hN3 hG _ (mm q) rfl (Nat.le_trans (hmm q hq) (by decide)) ?_
    (apply mT_iastK; (case hc => rfl); (case ha => first | rfl | assumption); (case hk => first | (simp only [ki_0, ki_1, ki_2, ki_3, ki_4, ki_5, ki_6, ki_7, ki_8, ki_9, ki_10, ki_11, ki_12, ki_17, ki_20, ki_21, ki_22, ki_42, ki_50, ki_58, ki_66, ki_74, ki_140, ki_174, ki_179, ki_184, ki_189, ki_441, nI_add, pk_mul]; with_reducible rfl) | (simp only [ki_0, ki_1, ki_2, ki_3, ki_4, ki_5, ki_6, ki_7, ki_8, ki_9, ki_10, ki_11, ki_12, ki_17, ki_20, ki_21, ki_22, ki_42, ki_50, ki_58, ki_66, ki_74, ki_140, ki_174, ki_179, ki_184, ki_189, ki_441, ix1, nI_add, pk_mul]; with_reducible rfl) | (simp only [ki_0, ki_1, ki_2, ki_3, ki_4, ki_5, ki_6, ki_7, ki_8, ki_9, ki_10, ki_11, ki_12, ki_17, ki_20, ki_21, ki_22, ki_42, ki_50, ki_58, ki_66, ki_74, ki_140, ki_174, ki_179, ki_184, ki_189, ki_441, ix1, ix2, nI_add, pk_mul]; with_reducible rfl) | (simp only [ki_0, ki_1, ki_2, ki_3, ki_4, ki_5, ki_6, ki_7, ki_8, ki_9, ki_10, ki_11, ki_12, ki_17, ki_20, ki_21, ki_22, ki_42, ki_50, ki_58, ki_66, ki_74, ki_140, ki_174, ki_179, ki_184, ki_189, ki_441, ix1, ix2, ix3, nI_add, pk_mul]; with_reducible rfl) | (simp (disch := omega) only [upd_n, ki_0, ki_1, ki_2, ki_3, ki_4, ki_5, ki_6, ki_7, ki_8, ki_9, ki_10, ki_11, ki_12, ki_17, ki_20, ki_21, ki_22, ki_42, ki_50, ki_58, ki_66, ki_74, ki_140, ki_174, ki_179, ki_184, ki_189, ki_441, ix1, nI_add, pk_mul]; with_reducible rfl) | (simp (disch := omega) only [upd_n, ki_0, ki_1, ki_2, ki_3, ki_4, ki_5, ki_6, ki_7, ki_8, ki_9, ki_10, ki_11, ki_12, ki_17, ki_20, ki_21, ki_22, ki_42, ki_50, ki_58, ki_66, ki_74, ki_140, ki_174, ki_179, ki_184, ki_189, ki_441, ix1, ix2, nI_add, pk_mul]; with_reducible rfl) | rfl); (case hlt => first | decide | omega); (case hn => decide); (case hN => assumption); (case hg => rfl))
    iterate 6 refine mT_s rfl rfl ?_
    (apply mT_inv; (case hc => rfl); (case hd => rfl); (case hb => first | rfl | assumption); (case hg => rfl))
    simp only [m_up_up]
    rw [s_at_um s _ _ _ hq, n_play_2 le mo mm hpq]
    rw [show (1 : Int32) = nI 1 from rfl, pk_sub (by omega)]
    refine ih (m_up h3 77 (.inl (0, 889, .inl (s_at s (n_play le mo mm q p) (g + 1))))) _ pd _ (n_play le mo mm q p) (g + 1) (n_play_le hq hmm) (by omega) (by omega) hM3 rfl hN3 hr3.2.1 hr3.2.2 (fun h4 hr4 h774 h764 => ?_)
    have hM4 := h764
    have hN4 : 87 ≤ m_nx h4 := by rw [hr4.nx (by decide)]; exact hN3
    iterate 2 refine mT_s rfl rfl ?_
    (apply mT_getf; (case hc => rfl); (case ha => first | rfl | assumption); (case hf => first | rfl | assumption))
    iterate 4 refine mT_s rfl rfl ?_
    (apply mT_iastK; (case hc => rfl); (case ha => first | rfl | assumption); (case hk => first | (simp only [ki_0, ki_1, ki_2, ki_3, ki_4, ki_5, ki_6, ki_7, ki_8, ki_9, ki_10, ki_11, ki_12, ki_17, ki_20, ki_21, ki_22, ki_42, ki_50, ki_58, ki_66, ki_74, ki_140, ki_174, ki_179, ki_184, ki_189, ki_441, nI_add, pk_mul]; with_reducible rfl) | (simp only [ki_0, ki_1, ki_2, ki_3, ki_4, ki_5, ki_6, ki_7, ki_8, ki_9, ki_10, ki_11, ki_12, ki_17, ki_20, ki_21, ki_22, ki_42, ki_50, ki_58, ki_66, ki_74, ki_140, ki_174, ki_179, ki_184, ki_189, ki_441, ix1, nI_add, pk_mul]; with_reducible rfl) | (simp only [ki_0, ki_1, ki_2, ki_3, ki_4, ki_5, ki_6, ki_7, ki_8, ki_9, ki_10, ki_11, ki_12, ki_17, ki_20, ki_21, ki_22, ki_42, ki_50, ki_58, ki_66, ki_74, ki_140, ki_174, ki_179, ki_184, ki_189, ki_441, ix1, ix2, nI_add, pk_mul]; with_reducible rfl) | (simp only [ki_0, ki_1, ki_2, ki_3, ki_4, ki_5, ki_6, ki_7, ki_8, ki_9, ki_10, ki_11, ki_12, ki_17, ki_20, ki_21, ki_22, ki_42, ki_50, ki_58, ki_66, ki_74, ki_140, ki_174, ki_179, ki_184, ki_189, ki_441, ix1, ix2, ix3, nI_add, pk_mul]; with_reducible rfl) | (simp (disch := omega) only [upd_n, ki_0, ki_1, ki_2, ki_3, ki_4, ki_5, ki_6, ki_7, ki_8, ki_9, ki_10, ki_11, ki_12, ki_17, ki_20, ki_21, ki_22, ki_42, ki_50, ki_58, ki_66, ki_74, ki_140, ki_174, ki_179, ki_184, ki_189, ki_441, ix1, nI_add, pk_mul]; with_reducible rfl) | (simp (disch := omega) only [upd_n, ki_0, ki_1, ki_2, ki_3, ki_4, ki_5, ki_6, ki_7, ki_8, ki_9, ki_10, ki_11, ki_12, ki_17, ki_20, ki_21, ki_22, ki_42, ki_50, ki_58, ki_66, ki_74, ki_140, ki_174, ki_179, ki_184, ki_189, ki_441, ix1, ix2, nI_add, pk_mul]; with_reducible rfl) | rfl); (case hlt => first | decide | omega); (case hn => decide); (case hN => assumption); (case hg => rfl))
    refine mT_s rfl rfl ?_
    (apply mT_getf; (case hc => rfl); (case ha => first | rfl | assumption); (case hf => first | rfl | assumption))
    iterate 4 refine mT_s rfl rfl ?_
    (apply mT_iastK; (case hc => rfl); (case ha => first | rfl | assumption); (case hk => first | (simp only [ki_0, ki_1, ki_2, ki_3, ki_4, ki_5, ki_6, ki_7, ki_8, ki_9, ki_10, ki_11, ki_12, ki_17, ki_20, ki_21, ki_22, ki_42, ki_50, ki_58, ki_66, ki_74, ki_140, ki_174, ki_179, ki_184, ki_189, ki_441, nI_add, pk_mul]; with_reducible rfl) | (simp only [ki_0, ki_1, ki_2, ki_3, ki_4, ki_5, ki_6, ki_7, ki_8, ki_9, ki_10, ki_11, ki_12, ki_17, ki_20, ki_21, ki_22, ki_42, ki_50, ki_58, ki_66, ki_74, ki_140, ki_174, ki_179, ki_184, ki_189, ki_441, ix1, nI_add, pk_mul]; with_reducible rfl) | (simp only [ki_0, ki_1, ki_2, ki_3, ki_4, ki_5, ki_6, ki_7, ki_8, ki_9, ki_10, ki_11, ki_12, ki_17, ki_20, ki_21, ki_22, ki_42, ki_50, ki_58, ki_66, ki_74, ki_140, ki_174, ki_179, ki_184, ki_189, ki_441, ix1, ix2, nI_add, pk_mul]; with_reducible rfl) | (simp only [ki_0, ki_1, ki_2, ki_3, ki_4, ki_5, ki_6, ki_7, ki_8, ki_9, ki_10, ki_11, ki_12, ki_17, ki_20, ki_21, ki_22, ki_42, ki_50, ki_58, ki_66, ki_74, ki_140, ki_174, ki_179, ki_184, ki_189, ki_441, ix1, ix2, ix3, nI_add, pk_mul]; with_reducible rfl) | (simp (disch := omega) only [upd_n, ki_0, ki_1, ki_2, ki_3, ki_4, ki_5, ki_6, ki_7, ki_8, ki_9, ki_10, ki_11, ki_12, ki_17, ki_20, ki_21, ki_22, ki_42, ki_50, ki_58, ki_66, ki_74, ki_140, ki_174, ki_179, ki_184, ki_189, ki_441, ix1, nI_add, pk_mul]; with_reducible rfl) | (simp (disch := omega) only [upd_n, ki_0, ki_1, ki_2, ki_3, ki_4, ki_5, ki_6, ki_7, ki_8, ki_9, ki_10, ki_11, ki_12, ki_17, ki_20, ki_21, ki_22, ki_42, ki_50, ki_58, ki_66, ki_74, ki_140, ki_174, ki_179, ki_184, ki_189, ki_441, ix1, ix2, nI_add, pk_mul]; with_reducible rfl) | rfl); (case hlt => first | decide | omega); (case hn => decide); (case hN => assumption); (case hg => rfl))
    refine mT_s rfl rfl ?_
    (apply mT_getf; (case hc => rfl); (case ha => first | rfl | assumption); (case hf => first | rfl | assumption))
    iterate 2 refine mT_s rfl rfl ?_
    (apply mT_ialdK; (case hc => rfl); (case ha => first | rfl | assumption); (case hk => first | (simp only [ki_0, ki_1, ki_2, ki_3, ki_4, ki_5, ki_6, ki_7, ki_8, ki_9, ki_10, ki_11, ki_12, ki_17, ki_20, ki_21, ki_22, ki_42, ki_50, ki_58, ki_66, ki_74, ki_140, ki_174, ki_179, ki_184, ki_189, ki_441, nI_add, pk_mul]; with_reducible rfl) | (simp only [ki_0, ki_1, ki_2, ki_3, ki_4, ki_5, ki_6, ki_7, ki_8, ki_9, ki_10, ki_11, ki_12, ki_17, ki_20, ki_21, ki_22, ki_42, ki_50, ki_58, ki_66, ki_74, ki_140, ki_174, ki_179, ki_184, ki_189, ki_441, ix1, nI_add, pk_mul]; with_reducible rfl) | (simp only [ki_0, ki_1, ki_2, ki_3, ki_4, ki_5, ki_6, ki_7, ki_8, ki_9, ki_10, ki_11, ki_12, ki_17, ki_20, ki_21, ki_22, ki_42, ki_50, ki_58, ki_66, ki_74, ki_140, ki_174, ki_179, ki_184, ki_189, ki_441, ix1, ix2, nI_add, pk_mul]; with_reducible rfl) | (simp only [ki_0, ki_1, ki_2, ki_3, ki_4, ki_5, ki_6, ki_7, ki_8, ki_9, ki_10, ki_11, ki_12, ki_17, ki_20, ki_21, ki_22, ki_42, ki_50, ki_58, ki_66, ki_74, ki_140, ki_174, ki_179, ki_184, ki_189, ki_441, ix1, ix2, ix3, nI_add, pk_mul]; with_reducible rfl) | (simp (disch := omega) only [upd_n, ki_0, ki_1, ki_2, ki_3, ki_4, ki_5, ki_6, ki_7, ki_8, ki_9, ki_10, ki_11, ki_12, ki_17, ki_20, ki_21, ki_22, ki_42, ki_50, ki_58, ki_66, ki_74, ki_140, ki_174, ki_179, ki_184, ki_189, ki_441, ix1, nI_add, pk_mul]; with_reducible rfl) | (simp (disch := omega) only [upd_n, ki_0, ki_1, ki_2, ki_3, ki_4, ki_5, ki_6, ki_7, ki_8, ki_9, ki_10, ki_11, ki_12, ki_17, ki_20, ki_21, ki_22, ki_42, ki_50, ki_58, ki_66, ki_74, ki_140, ki_174, ki_179, ki_184, ki_189, ki_441, ix1, ix2, nI_add, pk_mul]; with_reducible rfl) | rfl); (case hlt => first | decide | omega); (case hn => decide))
    iterate 2 refine mT_s rfl rfl ?_
    (apply mT_iastK; (case hc => rfl); (case ha => first | rfl | assumption); (case hk => first | (simp only [ki_0, ki_1, ki_2, ki_3, ki_4, ki_5, ki_6, ki_7, ki_8, ki_9, ki_10, ki_11, ki_12, ki_17, ki_20, ki_21, ki_22, ki_42, ki_50, ki_58, ki_66, ki_74, ki_140, ki_174, ki_179, ki_184, ki_189, ki_441, nI_add, pk_mul]; with_reducible rfl) | (simp only [ki_0, ki_1, ki_2, ki_3, ki_4, ki_5, ki_6, ki_7, ki_8, ki_9, ki_10, ki_11, ki_12, ki_17, ki_20, ki_21, ki_22, ki_42, ki_50, ki_58, ki_66, ki_74, ki_140, ki_174, ki_179, ki_184, ki_189, ki_441, ix1, nI_add, pk_mul]; with_reducible rfl) | (simp only [ki_0, ki_1, ki_2, ki_3, ki_4, ki_5, ki_6, ki_7, ki_8, ki_9, ki_10, ki_11, ki_12, ki_17, ki_20, ki_21, ki_22, ki_42, ki_50, ki_58, ki_66, ki_74, ki_140, ki_174, ki_179, ki_184, ki_189, ki_441, ix1, ix2, nI_add, pk_mul]; with_reducible rfl) | (simp only [ki_0, ki_1, ki_2, ki_3, ki_4, ki_5, ki_6, ki_7, ki_8, ki_9, ki_10, ki_11, ki_12, ki_17, ki_20, ki_21, ki_22, ki_42, ki_50, ki_58, ki_66, ki_74, ki_140, ki_174, ki_179, ki_184, ki_189, ki_441, ix1, ix2, ix3, nI_add, pk_mul]; with_reducible rfl) | (simp (disch := omega) only [upd_n, ki_0, ki_1, ki_2, ki_3, ki_4, ki_5, ki_6, ki_7, ki_8, ki_9, ki_10, ki_11, ki_12, ki_17, ki_20, ki_21, ki_22, ki_42, ki_50, ki_58, ki_66, ki_74, ki_140, ki_174, ki_179, ki_184, ki_189, ki_441, ix1, nI_add, pk_mul]; with_reducible rfl) | (simp (disch := omega) only [upd_n, ki_0, ki_1, ki_2, ki_3, ki_4, ki_5, ki_6, ki_7, ki_8, ki_9, ki_10, ki_11, ki_12, ki_17, ki_20, ki_21, ki_22, ki_42, ki_50, ki_58, ki_66, ki_74, ki_140, ki_174, ki_179, ki_184, ki_189, ki_441, ix1, ix2, nI_add, pk_mul]; with_reducible rfl) | rfl); (case hlt => first | decide | omega); (case hn => decide); (case hN => assumption); (case hg => rfl))
    iterate 18 refine mT_s rfl rfl ?_
    refine mT_if_le rfl (fun c156 => ?_) (fun c156 => ?_)
    · refine mT_s rfl rfl ?_
      (apply mT_putfN; (case hc => rfl); (case ha => first | rfl | assumption); (case hN => assumption); (case hg => rfl))
      refine mT_s rfl rfl ?_
      (apply mT_getf; (case hc => rfl); (case ha => first | rfl | assumption); (case hf => first | rfl | assumption))
      refine mT_if_eq rfl (fun _ => ?_) (fun c => absurd rfl c)
      refine mT_s rfl rfl ?_
      refine mT_ret rfl rfl ?_
      simp only [m_up_up]
      rw [s_at_um s _ _ _ hp, s_at_um s _ _ _ hq, s_at_0, nI_pred, s_at_ug, n_play_b le mo mm hpq]
      have c156 := (lg_cmp_le _ _).mp c156
      have b1 := nP_le (fw := n_few le) (mr := n_mor mo) (fun m o g => (a_od_n s l p q m o g).2.2) n (g + 1) (n_few le (mm p)) (n_mor mo (mm q))
      have b2 := nP_le (fw := n_few le) (mr := n_mor mo) (fun m o g => (a_od_n s l p q m o g).2.2) n (g + 1) (n_mor mo (mm p)) (n_few le (mm q))
      have b3 : 10 ^ n ≤ 10 ^ 7 := Nat.pow_le_pow_right (by decide) (by omega)
      have b4 := mix_le hod b1 b2
      simp only [(od_n hod).1, (od_n hod).2, (n_play_w hpq).1, (n_play_w hpq).2, (n_play_w (Ne.symm hpq)).1, (n_play_w (Ne.symm hpq)).2, show (10 : Int64) = lN 10 from rfl, lN_mul, lN_add] at c156 ⊢
      rw [pk_lLE (by omega) (by omega)] at c156
      rw [mObj_15, upd_u, upd_u]
      have K := K (m_up (m_up h4 77 (.inl (0, 889, .inl (s_at s mm g)))) 76 (.inr (10, mObj (upd i 15 0) o t pd bw))) (((rX.tr (rX.tr ((hr2.mono (by decide)).up (k := 77) (by decide) (by decide) (by decide)) hr3) (rX.tr (rX.rfl' hr3.2.1 hr3.2.2 |>.up (k := 77) (by decide) (by decide) (by decide)) hr4)).up (k := 77) (by decide) (by decide) (by decide)).up (by decide) (by decide) (by decide)) rfl (by
        rw [show nPl (a_od s l p q) (n_few le) (n_mor mo) (n + 1) g (mm p) (mm q) = false from decide_eq_false (by omega)]
        rfl)
      refine (congrArg (fun v => Q (some (.long (lN v))) _) ?_).mp K
      show max _ _ = _
      omega
    · iterate 2 refine mT_s rfl rfl ?_
      (apply mT_putfN; (case hc => rfl); (case ha => first | rfl | assumption); (case hN => assumption); (case hg => rfl))
      refine mT_s rfl rfl ?_
      (apply mT_getf; (case hc => rfl); (case ha => first | rfl | assumption); (case hf => first | rfl | assumption))
      refine mT_if_eq rfl (fun c => absurd c (by decide)) (fun _ => ?_)
      iterate 4 refine mT_s rfl rfl ?_
      refine mT_ret rfl rfl ?_
      simp only [m_up_up]
      rw [s_at_um s _ _ _ hp, s_at_um s _ _ _ hq, s_at_0, nI_pred, s_at_ug, n_play_b le mo mm hpq]
      have c156 := Int64.not_le.mp (fun z => c156 ((lg_cmp_le _ _).mpr z))
      have b1 := nP_le (fw := n_few le) (mr := n_mor mo) (fun m o g => (a_od_n s l p q m o g).2.2) n (g + 1) (n_few le (mm p)) (n_mor mo (mm q))
      have b2 := nP_le (fw := n_few le) (mr := n_mor mo) (fun m o g => (a_od_n s l p q m o g).2.2) n (g + 1) (n_mor mo (mm p)) (n_few le (mm q))
      have b3 : 10 ^ n ≤ 10 ^ 7 := Nat.pow_le_pow_right (by decide) (by omega)
      have b4 := mix_le hod b1 b2
      simp only [(od_n hod).1, (od_n hod).2, (n_play_w hpq).1, (n_play_w hpq).2, (n_play_w (Ne.symm hpq)).1, (n_play_w (Ne.symm hpq)).2, show (10 : Int64) = lN 10 from rfl, lN_mul, lN_add] at c156 ⊢
      rw [pk_lLT (by omega) (by omega)] at c156
      rw [mObj_15, upd_u, upd_u]
      have K := K (m_up (m_up h4 77 (.inl (0, 889, .inl (s_at s mm g)))) 76 (.inr (10, mObj (upd i 15 1) o t pd bw))) (((rX.tr (rX.tr ((hr2.mono (by decide)).up (k := 77) (by decide) (by decide) (by decide)) hr3) (rX.tr (rX.rfl' hr3.2.1 hr3.2.2 |>.up (k := 77) (by decide) (by decide) (by decide)) hr4)).up (k := 77) (by decide) (by decide) (by decide)).up (by decide) (by decide) (by decide)) rfl (by
        rw [show nPl (a_od s l p q) (n_few le) (n_mor mo) (n + 1) g (mm p) (mm q) = true from decide_eq_true (by omega)]
        rfl)
      refine (congrArg (fun v => Q (some (.long (lN v))) _) ?_).mp K
      show max _ _ = _
      omega