/-! By program (wip/whole/book*.py) and hand. -/
theorem rBs.c5 {h h2 : mH} {i : Nat → Int32} {iv : Value} {s : Nat → Int32} {l : List Tok} {le mo : Nat} (b : rBs 21 h i iv s l le mo) (hh : ∀ a, a ≤ 30 ∨ 87 ≤ a → h2 a = h a) : rBs 21 h2 i iv s l le mo := by
  obtain ⟨b1, b2, b3, b4, b5, b6, b7, b8⟩ := b
  refine ⟨(hh _ (by omega)).trans b1, ?_, rI_c (fun a ha => hh a (by omega)) b3, b4, rAr_c (hh _ (by omega)) b5, rAr_c (hh _ (by omega)) b6, rAr_c (hh _ (by omega)) b7, by rw [hh _ (by omega)]; exact b8⟩
  have : m_nx h2 = m_nx h := by unfold m_nx; rw [hh 0 (by omega)]
  rw [this]
  exact b2
theorem XR.c5 {h h2 : mH} {i : Nat → Int32} {iv : Value} {s : Nat → Int32} {l : List Tok} {le mo nb : Nat} {wi lo : Nat → Nat} (X : XR 21 h i iv s l le mo nb wi lo) (hh : ∀ a, a ≠ 30 → a ≤ 30 ∨ 87 ≤ a → h2 a = h a) (h9 : ∃ f, h2 30 = .inl (0, 5, .inl f)) : XR 21 h2 i iv s l le mo nb wi lo := by
  obtain ⟨⟨b1, b2, b3, b4, b5, b6, b7, b8⟩, XM, XT, XA, XB, XL, hi⟩ := X
  refine ⟨⟨(hh _ (by decide) (by omega)).trans b1, ?_, rI_c (fun a ha => hh a (by omega) (by omega)) b3, b4, rAr_c (hh _ (by decide) (by omega)) b5, rAr_c (hh _ (by decide) (by omega)) b6, rAr_c (hh _ (by decide) (by omega)) b7, h9⟩, rAr_c (hh _ (by decide) (by omega)) XM, rAr_c (hh _ (by decide) (by omega)) XT, rAr_c (hh _ (by decide) (by omega)) XA, rBk_c (hh _ (by decide) (by omega)) XB, rBk_c (hh _ (by decide) (by omega)) XL, hi⟩
  have : m_nx h2 = m_nx h := by unfold m_nx; rw [hh 0 (by decide) (by omega)]
  rw [this]
  exact b2
theorem x_asks (d : Nat) (h : mH) (Q : Option Value → mH → Prop)  (hN : 87 ≤ m_nx h) (v1 : Value) (v2 v3 a b : Int32) (hP : h 62 = .inr (5, [v1, .int v2, .int v3])) (K : Q none (m_up h 62 (.inr (5, [.ref 21, .int a, .int b])))) : mT0 d z_X5_asks 0 (m_init z_X5_asks [.ref 62, .ref 21, .int a, .int b]) [] h Q := by
  iterate 2 refine mT_s rfl rfl ?_
  (apply mT_putfN; (case hc => rfl); (case ha => first | rfl | assumption); (case hN => assumption); (case hg => rfl))
  iterate 2 refine mT_s rfl rfl ?_
  (apply mT_putfN; (case hc => rfl); (case ha => first | rfl | assumption); (case hN => assumption); (case hg => rfl))
  iterate 2 refine mT_s rfl rfl ?_
  (apply mT_putfN; (case hc => rfl); (case ha => first | rfl | assumption); (case hN => assumption); (case hg => rfl))
  refine mT_ret rfl rfl ?_
  rw [m_up_up, m_up_up]
  exact K

theorem x_atBest (d : Nat) (h : mH) (Q : Option Value → mH → Prop) (i : Nat → Int32) (iv : Value) (s : Nat → Int32) (l : List Tok) (le mo : Nat) (B : rBs 21 h i iv s l le mo) (hle : le ≤ 99) (hmo : mo ≤ 99) (hP : ∃ v1 : Value, ∃ v2 v3 : Int32, h 62 = .inr (5, [v1, .int v2, .int v3])) (mm : Nat → Nat) (M : rMn 21 h mm) (hmm : ∀ j, j < 5 → mm j ≤ 20) (g : Nat) (hg : i 1 = nI g) (hg2 : g ≤ 9999) (p q : Nat) (hp : p < 5) (hq : q < 5) (hpq : p ≠ q)  (n : Nat) (hn : n < 8) (K : ∀ h2, (∀ a, a ≠ 30 → a ≠ 62 → h2 a = h a) → (∃ f, h2 30 = .inl (0, 5, .inl f)) → (∃ v1 : Value, ∃ v2 v3 : Int32, h2 62 = .inr (5, [v1, .int v2, .int v3])) → Q (some (.long (lN (nP (a_od s l p q) (n_few le) (n_mor mo) n g (mm p) (mm q))))) h2) : mT0 (d + 20) z_X5_atBest 0 (m_init z_X5_atBest [.ref 62, .ref 21, .int (nI p), .int (nI q), .int (nI (n + 1))]) [] h Q := by
  obtain ⟨hR, hN, hV, hwt, hK, hV5, hW, h9⟩ := id B
  obtain ⟨fm, hfm, em⟩ := M
  obtain ⟨v1, v2, v3, hP⟩ := hP
  have B2 : rBs 21 (m_up h 62 (.inr (5, [.ref 21, .int (nI p), .int (nI q)]))) i iv s l le mo := B.c5 (fun a z => m_up_n (by omega))
  iterate 4 refine mT_s rfl rfl ?_
  (apply mT_inv; (case hc => rfl); (case hd => rfl); (case hb => first | rfl | assumption); (case hg => rfl))
  refine x_asks _ h _ hN v1 v2 v3 _ _ hP ?_
  iterate 2 refine mT_s rfl rfl ?_
  (apply mT_getf; (case hc => rfl); (case ha => first | rfl | assumption); (case hf => first | rfl | assumption))
  refine mT_s rfl rfl ?_
  (apply mT_ialdK; (case hc => rfl); (case ha => first | rfl | assumption); (case hk => first | (simp only [ki_0, ki_1, ki_2, ki_3, ki_4, ki_5, ki_6, ki_7, ki_8, ki_9, ki_10, ki_11, ki_12, ki_17, ki_20, ki_21, ki_22, ki_42, ki_50, ki_58, ki_66, ki_74, ki_140, ki_174, ki_179, ki_184, ki_189, ki_441, nI_add, pk_mul]; with_reducible rfl) | (simp only [ki_0, ki_1, ki_2, ki_3, ki_4, ki_5, ki_6, ki_7, ki_8, ki_9, ki_10, ki_11, ki_12, ki_17, ki_20, ki_21, ki_22, ki_42, ki_50, ki_58, ki_66, ki_74, ki_140, ki_174, ki_179, ki_184, ki_189, ki_441, ix1, nI_add, pk_mul]; with_reducible rfl) | (simp only [ki_0, ki_1, ki_2, ki_3, ki_4, ki_5, ki_6, ki_7, ki_8, ki_9, ki_10, ki_11, ki_12, ki_17, ki_20, ki_21, ki_22, ki_42, ki_50, ki_58, ki_66, ki_74, ki_140, ki_174, ki_179, ki_184, ki_189, ki_441, ix1, ix2, nI_add, pk_mul]; with_reducible rfl) | (simp only [ki_0, ki_1, ki_2, ki_3, ki_4, ki_5, ki_6, ki_7, ki_8, ki_9, ki_10, ki_11, ki_12, ki_17, ki_20, ki_21, ki_22, ki_42, ki_50, ki_58, ki_66, ki_74, ki_140, ki_174, ki_179, ki_184, ki_189, ki_441, ix1, ix2, ix3, nI_add, pk_mul]; with_reducible rfl) | (simp (disch := omega) only [upd_n, ki_0, ki_1, ki_2, ki_3, ki_4, ki_5, ki_6, ki_7, ki_8, ki_9, ki_10, ki_11, ki_12, ki_17, ki_20, ki_21, ki_22, ki_42, ki_50, ki_58, ki_66, ki_74, ki_140, ki_174, ki_179, ki_184, ki_189, ki_441, ix1, nI_add, pk_mul]; with_reducible rfl) | (simp (disch := omega) only [upd_n, ki_0, ki_1, ki_2, ki_3, ki_4, ki_5, ki_6, ki_7, ki_8, ki_9, ki_10, ki_11, ki_12, ki_17, ki_20, ki_21, ki_22, ki_42, ki_50, ki_58, ki_66, ki_74, ki_140, ki_174, ki_179, ki_184, ki_189, ki_441, ix1, ix2, nI_add, pk_mul]; with_reducible rfl) | rfl); (case hlt => first | decide | omega); (case hn => first | decide | omega))
  refine mT_s rfl rfl ?_
  (apply mT_getf; (case hc => rfl); (case ha => first | rfl | assumption); (case hf => first | rfl | assumption))
  refine mT_s rfl rfl ?_
  (apply mT_ialdK; (case hc => rfl); (case ha => first | rfl | assumption); (case hk => first | (simp only [ki_0, ki_1, ki_2, ki_3, ki_4, ki_5, ki_6, ki_7, ki_8, ki_9, ki_10, ki_11, ki_12, ki_17, ki_20, ki_21, ki_22, ki_42, ki_50, ki_58, ki_66, ki_74, ki_140, ki_174, ki_179, ki_184, ki_189, ki_441, nI_add, pk_mul]; with_reducible rfl) | (simp only [ki_0, ki_1, ki_2, ki_3, ki_4, ki_5, ki_6, ki_7, ki_8, ki_9, ki_10, ki_11, ki_12, ki_17, ki_20, ki_21, ki_22, ki_42, ki_50, ki_58, ki_66, ki_74, ki_140, ki_174, ki_179, ki_184, ki_189, ki_441, ix1, nI_add, pk_mul]; with_reducible rfl) | (simp only [ki_0, ki_1, ki_2, ki_3, ki_4, ki_5, ki_6, ki_7, ki_8, ki_9, ki_10, ki_11, ki_12, ki_17, ki_20, ki_21, ki_22, ki_42, ki_50, ki_58, ki_66, ki_74, ki_140, ki_174, ki_179, ki_184, ki_189, ki_441, ix1, ix2, nI_add, pk_mul]; with_reducible rfl) | (simp only [ki_0, ki_1, ki_2, ki_3, ki_4, ki_5, ki_6, ki_7, ki_8, ki_9, ki_10, ki_11, ki_12, ki_17, ki_20, ki_21, ki_22, ki_42, ki_50, ki_58, ki_66, ki_74, ki_140, ki_174, ki_179, ki_184, ki_189, ki_441, ix1, ix2, ix3, nI_add, pk_mul]; with_reducible rfl) | (simp (disch := omega) only [upd_n, ki_0, ki_1, ki_2, ki_3, ki_4, ki_5, ki_6, ki_7, ki_8, ki_9, ki_10, ki_11, ki_12, ki_17, ki_20, ki_21, ki_22, ki_42, ki_50, ki_58, ki_66, ki_74, ki_140, ki_174, ki_179, ki_184, ki_189, ki_441, ix1, nI_add, pk_mul]; with_reducible rfl) | (simp (disch := omega) only [upd_n, ki_0, ki_1, ki_2, ki_3, ki_4, ki_5, ki_6, ki_7, ki_8, ki_9, ki_10, ki_11, ki_12, ki_17, ki_20, ki_21, ki_22, ki_42, ki_50, ki_58, ki_66, ki_74, ki_140, ki_174, ki_179, ki_184, ki_189, ki_441, ix1, ix2, nI_add, pk_mul]; with_reducible rfl) | rfl); (case hlt => first | decide | omega); (case hn => first | decide | omega))
  refine mT_s rfl rfl ?_
  (apply mT_getf; (case hc => rfl); (case ha => first | rfl | assumption); (case hf => first | rfl | assumption))
  refine mT_s rfl rfl ?_
  refine mT_c rfl rfl ?_
  rw [em p hp, em q hq, hg]
  refine mT0_d (e := d + (15 - 2 * n) + 2 * n + 4) (by omega) ?_
  refine x_best i iv s l le mo hle hmo p q hp hq n _ (m_up h 62 _) (mm p) (mm q) g _ hn (hmm p hp) (hmm q hq) (by omega) B2 rfl (fun h2 r2 => ?_)
  refine mT_ret rfl rfl ?_
  exact K h2 (fun a x y => (r2.1 a x).trans (m_up_n y)) r2.2 ⟨_, _, _, (r2.1 62 (by decide))⟩

theorem nPl_lt {od : Nat → Nat → Nat → Nat} {fw mr : Nat → Nat} {n g m o : Nat} (h1 : 1 ≤ od m o g) (h9 : od m o g ≤ 9) : nPl od fw mr (n + 1) g m o = decide (nP od fw mr n (g + 1) (fw m) (mr o) < nP od fw mr n (g + 1) (mr m) (fw o)) := by
  show decide (od m o g * nP od fw mr n (g + 1) (fw m) (mr o) + (10 - od m o g) * nP od fw mr n (g + 1) (mr m) (fw o) < 10 * nP od fw mr n (g + 1) (mr m) (fw o)) = _
  generalize nP od fw mr n (g + 1) (fw m) (mr o) = a
  generalize nP od fw mr n (g + 1) (mr m) (fw o) = b
  generalize od m o g = e at h1 h9 ⊢
  have h3 : e * b + (10 - e) * b = 10 * b := by rw [← Nat.add_mul, show e + (10 - e) = 10 by omega]
  by_cases h : a < b
  · rw [decide_eq_true h, decide_eq_true]
    have := Nat.mul_lt_mul_of_pos_left h (show 0 < e by omega)
    omega
  · rw [decide_eq_false h, decide_eq_false]
    have := Nat.mul_le_mul_left e (Nat.not_lt.mp h)
    omega
set_option maxHeartbeats 4000000 in
theorem x_losesFirst (d : Nat) (h : mH) (Q : Option Value → mH → Prop) (i : Nat → Int32) (iv : Value) (s : Nat → Int32) (l : List Tok) (le mo : Nat) (B : rBs 21 h i iv s l le mo) (hle : le ≤ 99) (hmo : mo ≤ 99) (hP : ∃ v1 : Value, ∃ v2 v3 : Int32, h 62 = .inr (5, [v1, .int v2, .int v3])) (mm : Nat → Nat) (M : rMn 21 h mm) (hmm : ∀ j, j < 5 → mm j ≤ 20) (g : Nat) (hg : i 1 = nI g) (hg2 : g ≤ 9999) (p q : Nat) (hp : p < 5) (hq : q < 5) (hpq : p ≠ q) (n : Nat) (hn : n < 8) (K : ∀ h2, (∀ a, a ≠ 30 → a ≠ 62 → h2 a = h a) → (∃ f, h2 30 = .inl (0, 5, .inl f)) → (∃ v1 : Value, ∃ v2 v3 : Int32, h2 62 = .inr (5, [v1, .int v2, .int v3])) → Q (some (.int (bI (nPl (a_od s l p q) (n_few le) (n_mor mo) n g (mm p) (mm q))))) h2) : mT0 (d + 20) z_X5_losesFirst 0 (m_init z_X5_losesFirst [.ref 62, .ref 21, .int (nI p), .int (nI q), .int (nI (n + 1))]) [] h Q := by
  obtain ⟨hR, hN, hV, hwt, hK, hV5, hW, h9⟩ := id B
  obtain ⟨fm, hfm, em⟩ := M
  obtain ⟨v1, v2, v3, hP⟩ := hP
  have B2 : rBs 21 (m_up h 62 (.inr (5, [.ref 21, .int (nI p), .int (nI q)]))) i iv s l le mo := B.c5 (fun a z => m_up_n (by omega))
  cases n with
  | zero =>
    iterate 2 refine mT_s rfl rfl ?_
    refine mT_icmp_ge rfl (fun c => absurd c (by decide)) (fun _ => ?_)
    refine mT_s rfl rfl ?_
    refine mT_ret rfl rfl ?_
    exact K h (fun _ _ _ => rfl) h9 ⟨_, _, _, hP⟩
  | succ n =>
    iterate 2 refine mT_s rfl rfl ?_
    refine mT_icmp_ge rfl (fun _ => ?_) (fun c => absurd (show nI 2 ≤ nI (n + 1 + 1) from nI_le (by omega) (by omega)) c)
    iterate 4 refine mT_s rfl rfl ?_
    (apply mT_inv; (case hc => rfl); (case hd => rfl); (case hb => first | rfl | assumption); (case hg => rfl))
    refine x_asks _ h _ hN v1 v2 v3 _ _ hP ?_
    refine mT_s rfl rfl ?_
    (apply mT_getf; (case hc => rfl); (case ha => first | rfl | assumption); (case hf => first | rfl | assumption))
    refine mT_s rfl rfl ?_
    (apply mT_ialdK; (case hc => rfl); (case ha => first | rfl | assumption); (case hk => first | (simp only [ki_0, ki_1, ki_2, ki_3, ki_4, ki_5, ki_6, ki_7, ki_8, ki_9, ki_10, ki_11, ki_12, ki_17, ki_20, ki_21, ki_22, ki_42, ki_50, ki_58, ki_66, ki_74, ki_140, ki_174, ki_179, ki_184, ki_189, ki_441, nI_add, pk_mul]; with_reducible rfl) | (simp only [ki_0, ki_1, ki_2, ki_3, ki_4, ki_5, ki_6, ki_7, ki_8, ki_9, ki_10, ki_11, ki_12, ki_17, ki_20, ki_21, ki_22, ki_42, ki_50, ki_58, ki_66, ki_74, ki_140, ki_174, ki_179, ki_184, ki_189, ki_441, ix1, nI_add, pk_mul]; with_reducible rfl) | (simp only [ki_0, ki_1, ki_2, ki_3, ki_4, ki_5, ki_6, ki_7, ki_8, ki_9, ki_10, ki_11, ki_12, ki_17, ki_20, ki_21, ki_22, ki_42, ki_50, ki_58, ki_66, ki_74, ki_140, ki_174, ki_179, ki_184, ki_189, ki_441, ix1, ix2, nI_add, pk_mul]; with_reducible rfl) | (simp only [ki_0, ki_1, ki_2, ki_3, ki_4, ki_5, ki_6, ki_7, ki_8, ki_9, ki_10, ki_11, ki_12, ki_17, ki_20, ki_21, ki_22, ki_42, ki_50, ki_58, ki_66, ki_74, ki_140, ki_174, ki_179, ki_184, ki_189, ki_441, ix1, ix2, ix3, nI_add, pk_mul]; with_reducible rfl) | (simp (disch := omega) only [upd_n, ki_0, ki_1, ki_2, ki_3, ki_4, ki_5, ki_6, ki_7, ki_8, ki_9, ki_10, ki_11, ki_12, ki_17, ki_20, ki_21, ki_22, ki_42, ki_50, ki_58, ki_66, ki_74, ki_140, ki_174, ki_179, ki_184, ki_189, ki_441, ix1, nI_add, pk_mul]; with_reducible rfl) | (simp (disch := omega) only [upd_n, ki_0, ki_1, ki_2, ki_3, ki_4, ki_5, ki_6, ki_7, ki_8, ki_9, ki_10, ki_11, ki_12, ki_17, ki_20, ki_21, ki_22, ki_42, ki_50, ki_58, ki_66, ki_74, ki_140, ki_174, ki_179, ki_184, ki_189, ki_441, ix1, ix2, nI_add, pk_mul]; with_reducible rfl) | rfl); (case hlt => first | decide | omega); (case hn => first | decide | omega))
    iterate 2 refine mT_s rfl rfl ?_
    (apply mT_getf; (case hc => rfl); (case ha => first | rfl | assumption); (case hf => first | rfl | assumption))
    refine mT_s rfl rfl ?_
    (apply mT_ialdK; (case hc => rfl); (case ha => first | rfl | assumption); (case hk => first | (simp only [ki_0, ki_1, ki_2, ki_3, ki_4, ki_5, ki_6, ki_7, ki_8, ki_9, ki_10, ki_11, ki_12, ki_17, ki_20, ki_21, ki_22, ki_42, ki_50, ki_58, ki_66, ki_74, ki_140, ki_174, ki_179, ki_184, ki_189, ki_441, nI_add, pk_mul]; with_reducible rfl) | (simp only [ki_0, ki_1, ki_2, ki_3, ki_4, ki_5, ki_6, ki_7, ki_8, ki_9, ki_10, ki_11, ki_12, ki_17, ki_20, ki_21, ki_22, ki_42, ki_50, ki_58, ki_66, ki_74, ki_140, ki_174, ki_179, ki_184, ki_189, ki_441, ix1, nI_add, pk_mul]; with_reducible rfl) | (simp only [ki_0, ki_1, ki_2, ki_3, ki_4, ki_5, ki_6, ki_7, ki_8, ki_9, ki_10, ki_11, ki_12, ki_17, ki_20, ki_21, ki_22, ki_42, ki_50, ki_58, ki_66, ki_74, ki_140, ki_174, ki_179, ki_184, ki_189, ki_441, ix1, ix2, nI_add, pk_mul]; with_reducible rfl) | (simp only [ki_0, ki_1, ki_2, ki_3, ki_4, ki_5, ki_6, ki_7, ki_8, ki_9, ki_10, ki_11, ki_12, ki_17, ki_20, ki_21, ki_22, ki_42, ki_50, ki_58, ki_66, ki_74, ki_140, ki_174, ki_179, ki_184, ki_189, ki_441, ix1, ix2, ix3, nI_add, pk_mul]; with_reducible rfl) | (simp (disch := omega) only [upd_n, ki_0, ki_1, ki_2, ki_3, ki_4, ki_5, ki_6, ki_7, ki_8, ki_9, ki_10, ki_11, ki_12, ki_17, ki_20, ki_21, ki_22, ki_42, ki_50, ki_58, ki_66, ki_74, ki_140, ki_174, ki_179, ki_184, ki_189, ki_441, ix1, nI_add, pk_mul]; with_reducible rfl) | (simp (disch := omega) only [upd_n, ki_0, ki_1, ki_2, ki_3, ki_4, ki_5, ki_6, ki_7, ki_8, ki_9, ki_10, ki_11, ki_12, ki_17, ki_20, ki_21, ki_22, ki_42, ki_50, ki_58, ki_66, ki_74, ki_140, ki_174, ki_179, ki_184, ki_189, ki_441, ix1, ix2, nI_add, pk_mul]; with_reducible rfl) | rfl); (case hlt => first | decide | omega); (case hn => first | decide | omega))
    iterate 5 refine mT_s rfl rfl ?_
    (apply mT_getf; (case hc => rfl); (case ha => first | rfl | assumption); (case hf => first | rfl | assumption))
    refine mT_s rfl rfl ?_
    refine mT_c rfl rfl ?_
    rw [em p hp, em q hq, hg]
    refine mT0_d (e := d + (14 - 2 * n) + 2 * n + 5) (by omega) ?_
    refine x_ifLost _ (m_up h 62 _) _ i iv s l le mo B2 hle hmo p q rfl (mm p) (mm q) g (n + 1) (hmm p hp) (hmm q hq) ?_
    refine x_best i iv s l le mo hle hmo p q hp hq n _ (m_up h 62 _) _ _ (g + 1) _ (by omega) n_mor_le (n_few_le (hmm q hq)) (by omega) B2 rfl (fun h2 r2 => ⟨_, rfl, ?_⟩)
    have B3 := B2.c (by decide) r2.1 r2.2
    have hP3 : h2 62 = _ := r2.1 62 (by decide)
    obtain ⟨hR3, hN3, -, -, -, -, -, -⟩ := id B3
    iterate 4 refine mT_s rfl rfl ?_
    (apply mT_getf; (case hc => rfl); (case ha => first | rfl | assumption); (case hf => first | rfl | assumption))
    refine mT_s rfl rfl ?_
    refine mT_c rfl rfl ?_
    rw [hg]
    refine mT0_d (e := d + (14 - 2 * n) + 2 * n + 5) (by omega) ?_
    refine x_ifWon _ h2 _ i iv s l le mo B3 hle hmo p q hP3 (mm p) (mm q) g (n + 1) (hmm p hp) (hmm q hq) ?_
    refine x_best i iv s l le mo hle hmo p q hp hq n _ h2 _ _ (g + 1) _ (by omega) (n_few_le (hmm p hp)) n_mor_le (by omega) B3 hP3 (fun h3 r3 => ⟨_, rfl, ?_⟩)
    refine mT_s rfl rfl ?_
    refine mT_if_le rfl (fun c60 => ?_) (fun c60 => ?_)
    · refine mT_s rfl rfl ?_
      refine mT_ret rfl rfl ?_
      have b1 := nP_le (fw := n_few le) (mr := n_mor mo) (fun m o g => (a_od_n s l p q m o g).2.2) n (g + 1) (n_few le (mm p)) (n_mor mo (mm q))
      have b2 := nP_le (fw := n_few le) (mr := n_mor mo) (fun m o g => (a_od_n s l p q m o g).2.2) n (g + 1) (n_mor mo (mm p)) (n_few le (mm q))
      have b3 : 10 ^ n ≤ 10 ^ 7 := Nat.pow_le_pow_right (by decide) (by omega)
      have K := K h3 (fun a x y => (r3.1 a x).trans ((r2.1 a x).trans (m_up_n y))) r3.2 ⟨_, _, _, ((r3.1 62 (by decide)).trans hP3)⟩
      rw [nPl_lt (a_od_n s l p q (mm p) (mm q) g).2.1 (a_od_n s l p q (mm p) (mm q) g).2.2, decide_eq_false (by rw [← pk_lLT (by omega) (by omega)]; exact Int64.not_lt.mpr ((lg_cmp_le _ _).mp c60))] at K
      exact K
    · iterate 2 refine mT_s rfl rfl ?_
      refine mT_ret rfl rfl ?_
      have b1 := nP_le (fw := n_few le) (mr := n_mor mo) (fun m o g => (a_od_n s l p q m o g).2.2) n (g + 1) (n_few le (mm p)) (n_mor mo (mm q))
      have b2 := nP_le (fw := n_few le) (mr := n_mor mo) (fun m o g => (a_od_n s l p q m o g).2.2) n (g + 1) (n_mor mo (mm p)) (n_few le (mm q))
      have b3 : 10 ^ n ≤ 10 ^ 7 := Nat.pow_le_pow_right (by decide) (by omega)
      have K := K h3 (fun a x y => (r3.1 a x).trans ((r2.1 a x).trans (m_up_n y))) r3.2 ⟨_, _, _, ((r3.1 62 (by decide)).trans hP3)⟩
      rw [nPl_lt (a_od_n s l p q (mm p) (mm q) g).2.1 (a_od_n s l p q (mm p) (mm q) g).2.2, decide_eq_true (by rw [← pk_lLT (by omega) (by omega)]; exact Int64.not_le.mp (fun z => c60 ((lg_cmp_le _ _).mpr z)))] at K
      exact K