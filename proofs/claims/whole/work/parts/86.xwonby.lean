/-! By program (wip/whole/book*.py) and hand. -/
theorem rBs.c7 {h h2 : mH} {i : Nat → Int32} {iv : Value} {s : Nat → Int32} {l : List Tok} {le mo : Nat} (b : rBs 41 h i iv s l le mo) (hh : ∀ a, a ≠ 72 → h2 a = h a) : rBs 41 h2 i iv s l le mo := by
  obtain ⟨b1, b2, b3, b4, b5, b6, b7, b8⟩ := b
  refine ⟨(hh _ (by decide)).trans b1, ?_, rI_c (fun a ha => hh a (by omega)) b3, b4, rAr_c (hh _ (by decide)) b5, rAr_c (hh _ (by decide)) b6, rAr_c (hh _ (by decide)) b7, by rw [hh _ (by decide)]; exact b8⟩
  have : m_nx h2 = m_nx h := by unfold m_nx; rw [hh 0 (by decide)]
  rw [this]
  exact b2
theorem x_wonBy_L (d : Nat) (h : mH) (Q : Option Value → mH → Prop) (i : Nat → Int32) (iv : Value) (s : Nat → Int32) (l : List Tok) (le mo : Nat) (B : rBs 41 h i iv s l le mo) (who ng n : Nat) (hn2 : 2 ≤ n) (hn5 : n ≤ 5) (hi0 : i 0 = nI n) (hS : h 72 = .inr (8, [.ref 73, .ref 41, .int (nI who), .int (nI ng)])) (K : ∀ wf : Nat → Int32, (∀ j, j < n - 2 → wf j = nI (j + 2)) → mT0 d z_X8_wonBy 44 [some (.ref 72), some (.ref 41), some (.int (nI who)), some (.int (nI ng)), some (.int (nI n))] [] (m_up h 73 (.inl (0, 13, .inl wf))) Q) : ∀ (r k : Nat) (wf : Nat → Int32), k + r = n → (2 ≤ k ∧ ∀ j, j + 2 < k → wf j = nI (j + 2)) → mT0 d z_X8_wonBy 18 [some (.ref 72), some (.ref 41), some (.int (nI who)), some (.int (nI ng)), some (.int (nI k))] [] (m_up h 73 (.inl (0, 13, .inl wf))) Q := by
  obtain ⟨hR, hN, -, -, -, -, -, -⟩ := id B
  intro r
  induction r with
  | zero =>
    intro k wf  hk hi
    iterate 2 refine mT_s rfl rfl ?_
    (apply mT_getf; (case hc => rfl); (case ha => first | rfl | assumption); (case hf => first | rfl | assumption))
    rw [hi0]
    refine mT_icmp_ge rfl (fun _ => ?_) (fun c => absurd (nI_le (a := n) (b := k) (by omega) (by omega)) c)
    obtain rfl : k = n := by omega
    exact K wf (fun j hj => hi.2 j (by omega))
  | succ r ih =>
    intro k wf  hk hi
    iterate 2 refine mT_s rfl rfl ?_
    (apply mT_getf; (case hc => rfl); (case ha => first | rfl | assumption); (case hf => first | rfl | assumption))
    rw [hi0]
    refine mT_icmp_ge rfl (fun c => absurd c (nI_ge (a := k) (b := n) (by omega) (by omega))) (fun _ => ?_)
    refine mT_s rfl rfl ?_
    (apply mT_getf; (case hc => rfl); (case ha => first | rfl | assumption); (case hf => first | rfl | assumption))
    iterate 4 refine mT_s rfl rfl ?_
    have hi1 := hi.1
    have ix1 : nI k - nI 2 = nI (k - 2) := pk_sub hi.1
    (apply mT_iastK; (case hc => rfl); (case ha => first | rfl | assumption); (case hk => first | (simp only [ki_0, ki_1, ki_2, ki_3, ki_4, ki_5, ki_6, ki_7, ki_8, ki_9, ki_10, ki_11, ki_12, ki_17, ki_20, ki_21, ki_22, ki_42, ki_50, ki_58, ki_66, ki_74, ki_140, ki_174, ki_179, ki_184, ki_189, ki_441, nI_add, pk_mul]; with_reducible rfl) | (simp only [ki_0, ki_1, ki_2, ki_3, ki_4, ki_5, ki_6, ki_7, ki_8, ki_9, ki_10, ki_11, ki_12, ki_17, ki_20, ki_21, ki_22, ki_42, ki_50, ki_58, ki_66, ki_74, ki_140, ki_174, ki_179, ki_184, ki_189, ki_441, ix1, nI_add, pk_mul]; with_reducible rfl) | (simp only [ki_0, ki_1, ki_2, ki_3, ki_4, ki_5, ki_6, ki_7, ki_8, ki_9, ki_10, ki_11, ki_12, ki_17, ki_20, ki_21, ki_22, ki_42, ki_50, ki_58, ki_66, ki_74, ki_140, ki_174, ki_179, ki_184, ki_189, ki_441, ix1, ix2, nI_add, pk_mul]; with_reducible rfl) | (simp only [ki_0, ki_1, ki_2, ki_3, ki_4, ki_5, ki_6, ki_7, ki_8, ki_9, ki_10, ki_11, ki_12, ki_17, ki_20, ki_21, ki_22, ki_42, ki_50, ki_58, ki_66, ki_74, ki_140, ki_174, ki_179, ki_184, ki_189, ki_441, ix1, ix2, ix3, nI_add, pk_mul]; with_reducible rfl) | (simp (disch := omega) only [upd_n, ki_0, ki_1, ki_2, ki_3, ki_4, ki_5, ki_6, ki_7, ki_8, ki_9, ki_10, ki_11, ki_12, ki_17, ki_20, ki_21, ki_22, ki_42, ki_50, ki_58, ki_66, ki_74, ki_140, ki_174, ki_179, ki_184, ki_189, ki_441, ix1, nI_add, pk_mul]; with_reducible rfl) | (simp (disch := omega) only [upd_n, ki_0, ki_1, ki_2, ki_3, ki_4, ki_5, ki_6, ki_7, ki_8, ki_9, ki_10, ki_11, ki_12, ki_17, ki_20, ki_21, ki_22, ki_42, ki_50, ki_58, ki_66, ki_74, ki_140, ki_174, ki_179, ki_184, ki_189, ki_441, ix1, ix2, nI_add, pk_mul]; with_reducible rfl) | rfl); (case hlt => first | decide | omega); (case hn => first | decide | omega); (case hN => assumption); (case hg => rfl))
    iterate 2 refine mT_s rfl rfl ?_
    rw [m_up_up, nI_1]
    refine ih (k + 1) _ (by omega) ⟨by omega, fun j hj => ?_⟩
    by_cases e : j = k - 2
    · rw [e, upd_s]
      exact congrArg nI (by omega)
    · rw [upd_n _ _ e]
      exact hi.2 j (by omega)
theorem t_row_g {n j : Nat} (hj : j < n - 2) : (t_row n).getD j 0 = j + 2 := by
  unfold t_row
  rw [getD_e (by rw [List.length_range']; exact hj), List.getElem_range']
  omega
theorem t_row_n {n : Nat} (h2 : 2 ≤ n) (h5 : n ≤ 5) : ∀ x ∈ 0 :: 1 :: t_row n, x < n := by
  have h : n = 2 ∨ n = 3 ∨ n = 4 ∨ n = 5 := by omega
  rcases h with rfl | rfl | rfl | rfl <;> decide
theorem x_wonByS (d : Nat) (h : mH) (Q : Option Value → mH → Prop) (i : Nat → Int32) (iv : Value) (s : Nat → Int32) (l : List Tok) (le mo : Nat) (B : rBs 41 h i iv s l le mo)  (hle : le ≤ 99) (hmo : mo ≤ 99) (hl140 : l.length ≤ 140) (hS0 : ∃ v1 : Value, ∃ v2 v3 : Int32, h 72 = .inr (8, [.ref 73, v1, .int v2, .int v3])) (hW0 : ∃ wf, h 73 = .inl (0, 13, .inl wf)) (n : Nat) (hn2 : 2 ≤ n) (hn5 : n ≤ 5) (hi0 : i 0 = nI n) (mm : Nat → Nat) (M : rMn 41 h mm) (hmm : ∀ j, j < 5 → mm j ≤ 20) (g : Nat) (hg : i 1 = nI g) (hg2 : g ≤ 9999) (hsK : ∀ p, p < n → sK s p) (who m : Nat) (hwho : who < 5) (hm : m < 8) (K : ∀ h2, (∀ c, c ≠ 41 → c ≠ 44 → c ≠ 50 → c ≠ 72 → c ≠ 73 → h2 c = h c) → rBs 41 h2 i iv s l le mo → rMn 41 h2 mm → (∃ wf, h2 73 = .inl (0, 13, .inl wf)) → (∃ v1 : Value, ∃ v2 v3 : Int32, h2 72 = .inr (8, [.ref 73, v1, .int v2, .int v3])) → Q (some (.long (lN (nT (a_od s l) le mo who m mm g 0 1 (t_row n))))) h2) : mT0 (d + 20) z_X8_wonBy 0 (m_init z_X8_wonBy [.ref 72, .ref 41, .int (nI who), .int (nI (m + 1))]) [] h Q := by
  obtain ⟨hR, hN, hV, hwt, hK, hV5, hW, h9⟩ := id B
  obtain ⟨v1, v2, v3, hS0⟩ := hS0
  obtain ⟨w0, hW0⟩ := hW0
  iterate 2 refine mT_s rfl rfl ?_
  (apply mT_putfN; (case hc => rfl); (case ha => first | rfl | assumption); (case hN => assumption); (case hg => rfl))
  iterate 2 refine mT_s rfl rfl ?_
  (apply mT_putfN; (case hc => rfl); (case ha => first | rfl | assumption); (case hN => assumption); (case hg => rfl))
  iterate 2 refine mT_s rfl rfl ?_
  (apply mT_putfN; (case hc => rfl); (case ha => first | rfl | assumption); (case hN => assumption); (case hg => rfl))
  iterate 2 refine mT_s rfl rfl ?_
  simp only [m_up_up]
  have B7 : rBs 41 (m_up h 72 (.inr (8, [.ref 73, .ref 41, .int (nI who), .int (nI (m + 1))]))) i iv s l le mo := B.c7 (fun c z => m_up_n z)
  have z9 := x_wonBy_L (d + 20) (m_up h 72 (.inr (8, [.ref 73, .ref 41, .int (nI who), .int (nI (m + 1))]))) Q i iv s l le mo B7 who (m + 1) n hn2 hn5 hi0 rfl (fun wf hwf => ?_) (n - 2) 2 w0 (by omega) ⟨Nat.le_refl _, fun j hj => absurd hj (by omega)⟩
  · rw [m_up_id (show m_up h 72 _ 73 = _ from hW0)] at z9
    exact z9
  iterate 4 refine mT_s rfl rfl ?_
  refine mT_c rfl rfl ?_
  obtain ⟨r1, r2, r3⟩ := t_row_ok hn2 hn5
  refine mT0_d (e := d + (14 - m) + m + 5) (by omega) ?_
  refine x_wonFrom iv s l le mo hle hmo hl140 who (m + 1) (n - 2) (by omega) hwho (fun p hp => hsK p (by omega)) m _ 0 (m_up (m_up h 72 _) 73 _) i wf mm g 0 1 (t_row n) _ (by omega) ((B.c7 (fun c z => m_up_n z)).c6 (fun c z => m_up_n z)) (M.c rfl) hmm (by rw [hi0]; exact congrArg nI (by omega)) hg (by omega) rfl rfl (fun j hj => by rw [r3] at hj; rw [Nat.zero_add, hwf j hj, t_row_g hj]) r1 (fun x hx => by have := t_row_n hn2 hn5 x hx; omega) r3 (by omega) (fun h3 wf3 f3 B3 M3 hwf3 _ => ?_)
  refine mT_ret rfl rfl ?_
  exact K h3 (fun c a b e f z => (f3 c a b e z).trans ((m_up_n z).trans (m_up_n f))) B3 M3 ⟨_, hwf3⟩ ⟨_, _, _, (f3 72 (by decide) (by decide) (by decide) (by decide))⟩
