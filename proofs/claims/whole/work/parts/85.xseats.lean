/-! By program (wip/whole/book*.py) and hand. -/
theorem x_goesBack (d : Nat) (h : mH) (Q : Option Value → mH → Prop) (i : Nat → Int32) (iv : Value) (s : Nat → Int32) (l : List Tok) (le mo : Nat) (B : rBs 41 h i iv s l le mo)  (x1 : Value) (x2 x3 : Int32) (hS : h 72 = .inr (8, [x1, .ref 41, .int x2, .int x3])) (mm : Nat → Nat) (M : rMn 41 h mm) (p q a b g : Nat) (hp : p < 5) (hq : q < 5) (hg : i 1 = nI (g + 1)) (K : ∀ h2, (∀ c, c ≠ 41 → c ≠ 44 → h2 c = h c) → h2 41 = .inr (7, rObj 41 (upd i 1 (nI g)) iv) → rMn 41 h2 (updM (updM mm p a) q b) → Q none h2) : mT0 d z_X8_goesBack 0 (m_init z_X8_goesBack [.ref 72, .int (nI p), .int (nI a), .int (nI q), .int (nI b)]) [] h Q := by
  obtain ⟨hR, hN, hV, hwt, hK, hV5, hW, h9⟩ := id B
  obtain ⟨fm, hfm, em⟩ := M
  refine mT_s rfl rfl ?_
  (apply mT_getf; (case hc => rfl); (case ha => first | rfl | assumption); (case hf => first | rfl | assumption))
  (apply mT_getf; (case hc => rfl); (case ha => first | rfl | assumption); (case hf => first | rfl | assumption))
  iterate 2 refine mT_s rfl rfl ?_
  (apply mT_iastK; (case hc => rfl); (case ha => first | rfl | assumption); (case hk => first | (simp only [ki_0, ki_1, ki_2, ki_3, ki_4, ki_5, ki_6, ki_7, ki_8, ki_9, ki_10, ki_11, ki_12, ki_17, ki_20, ki_21, ki_22, ki_42, ki_50, ki_58, ki_66, ki_74, ki_140, ki_174, ki_179, ki_184, ki_189, ki_441, nI_add, pk_mul]; with_reducible rfl) | (simp only [ki_0, ki_1, ki_2, ki_3, ki_4, ki_5, ki_6, ki_7, ki_8, ki_9, ki_10, ki_11, ki_12, ki_17, ki_20, ki_21, ki_22, ki_42, ki_50, ki_58, ki_66, ki_74, ki_140, ki_174, ki_179, ki_184, ki_189, ki_441, ix1, nI_add, pk_mul]; with_reducible rfl) | (simp only [ki_0, ki_1, ki_2, ki_3, ki_4, ki_5, ki_6, ki_7, ki_8, ki_9, ki_10, ki_11, ki_12, ki_17, ki_20, ki_21, ki_22, ki_42, ki_50, ki_58, ki_66, ki_74, ki_140, ki_174, ki_179, ki_184, ki_189, ki_441, ix1, ix2, nI_add, pk_mul]; with_reducible rfl) | (simp only [ki_0, ki_1, ki_2, ki_3, ki_4, ki_5, ki_6, ki_7, ki_8, ki_9, ki_10, ki_11, ki_12, ki_17, ki_20, ki_21, ki_22, ki_42, ki_50, ki_58, ki_66, ki_74, ki_140, ki_174, ki_179, ki_184, ki_189, ki_441, ix1, ix2, ix3, nI_add, pk_mul]; with_reducible rfl) | (simp (disch := omega) only [upd_n, ki_0, ki_1, ki_2, ki_3, ki_4, ki_5, ki_6, ki_7, ki_8, ki_9, ki_10, ki_11, ki_12, ki_17, ki_20, ki_21, ki_22, ki_42, ki_50, ki_58, ki_66, ki_74, ki_140, ki_174, ki_179, ki_184, ki_189, ki_441, ix1, nI_add, pk_mul]; with_reducible rfl) | (simp (disch := omega) only [upd_n, ki_0, ki_1, ki_2, ki_3, ki_4, ki_5, ki_6, ki_7, ki_8, ki_9, ki_10, ki_11, ki_12, ki_17, ki_20, ki_21, ki_22, ki_42, ki_50, ki_58, ki_66, ki_74, ki_140, ki_174, ki_179, ki_184, ki_189, ki_441, ix1, ix2, nI_add, pk_mul]; with_reducible rfl) | rfl); (case hlt => first | decide | omega); (case hn => first | decide | omega); (case hN => assumption); (case hg => rfl))
  refine mT_s rfl rfl ?_
  (apply mT_getf; (case hc => rfl); (case ha => first | rfl | assumption); (case hf => first | rfl | assumption))
  (apply mT_getf; (case hc => rfl); (case ha => first | rfl | assumption); (case hf => first | rfl | assumption))
  iterate 2 refine mT_s rfl rfl ?_
  (apply mT_iastK; (case hc => rfl); (case ha => first | rfl | assumption); (case hk => first | (simp only [ki_0, ki_1, ki_2, ki_3, ki_4, ki_5, ki_6, ki_7, ki_8, ki_9, ki_10, ki_11, ki_12, ki_17, ki_20, ki_21, ki_22, ki_42, ki_50, ki_58, ki_66, ki_74, ki_140, ki_174, ki_179, ki_184, ki_189, ki_441, nI_add, pk_mul]; with_reducible rfl) | (simp only [ki_0, ki_1, ki_2, ki_3, ki_4, ki_5, ki_6, ki_7, ki_8, ki_9, ki_10, ki_11, ki_12, ki_17, ki_20, ki_21, ki_22, ki_42, ki_50, ki_58, ki_66, ki_74, ki_140, ki_174, ki_179, ki_184, ki_189, ki_441, ix1, nI_add, pk_mul]; with_reducible rfl) | (simp only [ki_0, ki_1, ki_2, ki_3, ki_4, ki_5, ki_6, ki_7, ki_8, ki_9, ki_10, ki_11, ki_12, ki_17, ki_20, ki_21, ki_22, ki_42, ki_50, ki_58, ki_66, ki_74, ki_140, ki_174, ki_179, ki_184, ki_189, ki_441, ix1, ix2, nI_add, pk_mul]; with_reducible rfl) | (simp only [ki_0, ki_1, ki_2, ki_3, ki_4, ki_5, ki_6, ki_7, ki_8, ki_9, ki_10, ki_11, ki_12, ki_17, ki_20, ki_21, ki_22, ki_42, ki_50, ki_58, ki_66, ki_74, ki_140, ki_174, ki_179, ki_184, ki_189, ki_441, ix1, ix2, ix3, nI_add, pk_mul]; with_reducible rfl) | (simp (disch := omega) only [upd_n, ki_0, ki_1, ki_2, ki_3, ki_4, ki_5, ki_6, ki_7, ki_8, ki_9, ki_10, ki_11, ki_12, ki_17, ki_20, ki_21, ki_22, ki_42, ki_50, ki_58, ki_66, ki_74, ki_140, ki_174, ki_179, ki_184, ki_189, ki_441, ix1, nI_add, pk_mul]; with_reducible rfl) | (simp (disch := omega) only [upd_n, ki_0, ki_1, ki_2, ki_3, ki_4, ki_5, ki_6, ki_7, ki_8, ki_9, ki_10, ki_11, ki_12, ki_17, ki_20, ki_21, ki_22, ki_42, ki_50, ki_58, ki_66, ki_74, ki_140, ki_174, ki_179, ki_184, ki_189, ki_441, ix1, ix2, nI_add, pk_mul]; with_reducible rfl) | rfl); (case hlt => first | decide | omega); (case hn => first | decide | omega); (case hN => assumption); (case hg => rfl))
  refine mT_s rfl rfl ?_
  (apply mT_getf; (case hc => rfl); (case ha => first | rfl | assumption); (case hf => first | rfl | assumption))
  refine mT_s rfl rfl ?_
  (apply mT_getf; (case hc => rfl); (case ha => first | rfl | assumption); (case hf => first | rfl | assumption))
  iterate 2 refine mT_s rfl rfl ?_
  (apply mT_putfN; (case hc => rfl); (case ha => first | rfl | assumption); (case hN => assumption); (case hg => rfl))
  refine mT_ret rfl rfl ?_
  simp only [m_up_up]
  rw [hg, nI_pred]
  refine K _ (fun c x y => (m_up_n x).trans (m_up_n y)) rfl ⟨_, rfl, fun j hj => ?_⟩
  by_cases e1 : j = q
  · subst e1
    rw [upd_s, updM_s]
  · rw [upd_n _ _ e1, updM_n _ e1]
    by_cases e2 : j = p
    · subst e2
      rw [upd_s, updM_s]
    · rw [upd_n _ _ e2, updM_n _ e2, em j hj]

theorem x_comesFor (d : Nat) (h : mH) (Q : Option Value → mH → Prop) (i : Nat → Int32) (iv : Value) (s : Nat → Int32) (l : List Tok) (le mo : Nat) (B : rBs 41 h i iv s l le mo)  (x2 x3 : Int32) (hS : h 72 = .inr (8, [.ref 73, .ref 41, .int x2, .int x3])) (wf : Nat → Int32) (hwf : h 73 = .inl (0, 13, .inl wf)) (x k many : Nat) (hk : k + many < 13) (hi : i 0 = nI (many + 2)) (K : Q (some (.int (upd wf (k + many) (nI x) k))) (m_up h 73 (.inl (0, 13, .inl (upd wf (k + many) (nI x)))))) : mT0 d z_X8_comesFor 0 (m_init z_X8_comesFor [.ref 72, .int (nI x), .int (nI k)]) [] h Q := by
  obtain ⟨hR, hN, hV, hwt, hK, hV5, hW, h9⟩ := id B
  have ix1 : nI k + i 0 - nI 2 = nI (k + many) := by rw [hi, nI_add, show k + (many + 2) = k + many + 2 by omega, pk_sub (by omega)]; rfl
  refine mT_s rfl rfl ?_
  (apply mT_getf; (case hc => rfl); (case ha => first | rfl | assumption); (case hf => first | rfl | assumption))
  iterate 2 refine mT_s rfl rfl ?_
  (apply mT_getf; (case hc => rfl); (case ha => first | rfl | assumption); (case hf => first | rfl | assumption))
  (apply mT_getf; (case hc => rfl); (case ha => first | rfl | assumption); (case hf => first | rfl | assumption))
  iterate 4 refine mT_s rfl rfl ?_
  (apply mT_iastK; (case hc => rfl); (case ha => first | rfl | assumption); (case hk => first | (simp only [ki_0, ki_1, ki_2, ki_3, ki_4, ki_5, ki_6, ki_7, ki_8, ki_9, ki_10, ki_11, ki_12, ki_17, ki_20, ki_21, ki_22, ki_42, ki_50, ki_58, ki_66, ki_74, ki_140, ki_174, ki_179, ki_184, ki_189, ki_441, nI_add, pk_mul]; with_reducible rfl) | (simp only [ki_0, ki_1, ki_2, ki_3, ki_4, ki_5, ki_6, ki_7, ki_8, ki_9, ki_10, ki_11, ki_12, ki_17, ki_20, ki_21, ki_22, ki_42, ki_50, ki_58, ki_66, ki_74, ki_140, ki_174, ki_179, ki_184, ki_189, ki_441, ix1, nI_add, pk_mul]; with_reducible rfl) | (simp only [ki_0, ki_1, ki_2, ki_3, ki_4, ki_5, ki_6, ki_7, ki_8, ki_9, ki_10, ki_11, ki_12, ki_17, ki_20, ki_21, ki_22, ki_42, ki_50, ki_58, ki_66, ki_74, ki_140, ki_174, ki_179, ki_184, ki_189, ki_441, ix1, ix2, nI_add, pk_mul]; with_reducible rfl) | (simp only [ki_0, ki_1, ki_2, ki_3, ki_4, ki_5, ki_6, ki_7, ki_8, ki_9, ki_10, ki_11, ki_12, ki_17, ki_20, ki_21, ki_22, ki_42, ki_50, ki_58, ki_66, ki_74, ki_140, ki_174, ki_179, ki_184, ki_189, ki_441, ix1, ix2, ix3, nI_add, pk_mul]; with_reducible rfl) | (simp (disch := omega) only [upd_n, ki_0, ki_1, ki_2, ki_3, ki_4, ki_5, ki_6, ki_7, ki_8, ki_9, ki_10, ki_11, ki_12, ki_17, ki_20, ki_21, ki_22, ki_42, ki_50, ki_58, ki_66, ki_74, ki_140, ki_174, ki_179, ki_184, ki_189, ki_441, ix1, nI_add, pk_mul]; with_reducible rfl) | (simp (disch := omega) only [upd_n, ki_0, ki_1, ki_2, ki_3, ki_4, ki_5, ki_6, ki_7, ki_8, ki_9, ki_10, ki_11, ki_12, ki_17, ki_20, ki_21, ki_22, ki_42, ki_50, ki_58, ki_66, ki_74, ki_140, ki_174, ki_179, ki_184, ki_189, ki_441, ix1, ix2, nI_add, pk_mul]; with_reducible rfl) | rfl); (case hlt => first | decide | omega); (case hn => first | decide | omega); (case hN => assumption); (case hg => rfl))
  refine mT_s rfl rfl ?_
  (apply mT_getf; (case hc => rfl); (case ha => first | rfl | assumption); (case hf => first | rfl | assumption))
  refine mT_s rfl rfl ?_
  (apply mT_ialdK; (case hc => rfl); (case ha => first | rfl | assumption); (case hk => first | (simp only [ki_0, ki_1, ki_2, ki_3, ki_4, ki_5, ki_6, ki_7, ki_8, ki_9, ki_10, ki_11, ki_12, ki_17, ki_20, ki_21, ki_22, ki_42, ki_50, ki_58, ki_66, ki_74, ki_140, ki_174, ki_179, ki_184, ki_189, ki_441, nI_add, pk_mul]; with_reducible rfl) | (simp only [ki_0, ki_1, ki_2, ki_3, ki_4, ki_5, ki_6, ki_7, ki_8, ki_9, ki_10, ki_11, ki_12, ki_17, ki_20, ki_21, ki_22, ki_42, ki_50, ki_58, ki_66, ki_74, ki_140, ki_174, ki_179, ki_184, ki_189, ki_441, ix1, nI_add, pk_mul]; with_reducible rfl) | (simp only [ki_0, ki_1, ki_2, ki_3, ki_4, ki_5, ki_6, ki_7, ki_8, ki_9, ki_10, ki_11, ki_12, ki_17, ki_20, ki_21, ki_22, ki_42, ki_50, ki_58, ki_66, ki_74, ki_140, ki_174, ki_179, ki_184, ki_189, ki_441, ix1, ix2, nI_add, pk_mul]; with_reducible rfl) | (simp only [ki_0, ki_1, ki_2, ki_3, ki_4, ki_5, ki_6, ki_7, ki_8, ki_9, ki_10, ki_11, ki_12, ki_17, ki_20, ki_21, ki_22, ki_42, ki_50, ki_58, ki_66, ki_74, ki_140, ki_174, ki_179, ki_184, ki_189, ki_441, ix1, ix2, ix3, nI_add, pk_mul]; with_reducible rfl) | (simp (disch := omega) only [upd_n, ki_0, ki_1, ki_2, ki_3, ki_4, ki_5, ki_6, ki_7, ki_8, ki_9, ki_10, ki_11, ki_12, ki_17, ki_20, ki_21, ki_22, ki_42, ki_50, ki_58, ki_66, ki_74, ki_140, ki_174, ki_179, ki_184, ki_189, ki_441, ix1, nI_add, pk_mul]; with_reducible rfl) | (simp (disch := omega) only [upd_n, ki_0, ki_1, ki_2, ki_3, ki_4, ki_5, ki_6, ki_7, ki_8, ki_9, ki_10, ki_11, ki_12, ki_17, ki_20, ki_21, ki_22, ki_42, ki_50, ki_58, ki_66, ki_74, ki_140, ki_174, ki_179, ki_184, ki_189, ki_441, ix1, ix2, nI_add, pk_mul]; with_reducible rfl) | rfl); (case hlt => first | decide | omega); (case hn => first | decide | omega))
  refine mT_ret rfl rfl ?_
  exact K

theorem rBs.c6 {h h2 : mH} {i : Nat → Int32} {iv : Value} {s : Nat → Int32} {l : List Tok} {le mo : Nat} (b : rBs 41 h i iv s l le mo) (hh : ∀ a, a ≠ 73 → h2 a = h a) : rBs 41 h2 i iv s l le mo := by
  obtain ⟨b1, b2, b3, b4, b5, b6, b7, b8⟩ := b
  refine ⟨(hh _ (by decide)).trans b1, ?_, rI_c (fun a ha => hh a (by omega)) b3, b4, rAr_c (hh _ (by decide)) b5, rAr_c (hh _ (by decide)) b6, rAr_c (hh _ (by decide)) b7, by rw [hh _ (by decide)]; exact b8⟩
  have : m_nx h2 = m_nx h := by unfold m_nx; rw [hh 0 (by decide)]
  rw [this]
  exact b2
theorem rMn.c {h h2 : mH} {r : Nat} {mm : Nat → Nat} (m : rMn r h mm) (hh : h2 (r + 3) = h (r + 3)) : rMn r h2 mm := by
  obtain ⟨f, h1, h2'⟩ := m
  exact ⟨f, hh.trans h1, h2'⟩
theorem upd_back {i : Nat → Int32} {x : Int32} {k : Nat} : upd (upd i k x) k (i k) = i := by
  rw [upd_u, upd_id]
theorem q_head {wf : Nat → Int32} {qs : List Nat} {k x y : Nat} {ys : List Nat} (hq : ∀ j, j < qs.length → wf (k + j) = nI (qs.getD j 0)) (hy : qs ++ [x] = y :: ys) : upd wf (k + qs.length) (nI x) k = nI y ∧ ∀ j, j < ys.length → upd wf (k + qs.length) (nI x) (k + 1 + j) = nI (ys.getD j 0) := by
  have hall : ∀ j, j < qs.length + 1 → upd wf (k + qs.length) (nI x) (k + j) = nI ((qs ++ [x]).getD j 0) := by
    intro j hj
    by_cases e : j = qs.length
    · subst e
      rw [upd_s, getD_e (by rw [List.length_append]; exact Nat.lt_succ_self _), List.getElem_append_right (Nat.le_refl _)]
      exact congrArg nI (by simp)
    · have hj2 : j < qs.length := by omega
      rw [upd_n _ _ (by omega), hq j hj2, getD_e hj2, getD_e (by rw [List.length_append]; show j < qs.length + 1; omega), List.getElem_append_left hj2]
  have hlen : ys.length = qs.length := by
    have := congrArg List.length hy
    simp only [List.length_append, List.length_cons, List.length_nil] at this
    omega
  rw [hy] at hall
  refine ⟨hall 0 (by omega), fun j hj => ?_⟩
  have := hall (j + 1) (by omega)
  rw [show k + 1 + j = k + (j + 1) by omega, this]
  rfl
theorem next_ok2 {p q N : Nat} {qs : List Nat} (h : (p :: q :: qs).Nodup) (h5 : ∀ x ∈ p :: q :: qs, x < N) : ∃ y ys, qs ++ [q] = y :: ys ∧ (p :: y :: ys).Nodup ∧ (∀ x ∈ p :: y :: ys, x < N) ∧ ys.length = qs.length := by
  obtain ⟨y, ys, hy⟩ : ∃ y ys, qs ++ [q] = y :: ys := by
    cases qs with
    | nil => exact ⟨q, [], rfl⟩
    | cons a l => exact ⟨a, l ++ [q], rfl⟩
  have hperm : List.Perm (p :: q :: qs) (p :: y :: ys) := by
    rw [← hy]
    exact List.Perm.cons p (List.perm_append_singleton q qs).symm
  have hlen : ys.length = qs.length := by
    have := congrArg List.length hy
    simp only [List.length_append, List.length_cons, List.length_nil] at this
    omega
  exact ⟨y, ys, hy, hperm.nodup_iff.mp h, fun x hx => h5 x (hperm.mem_iff.mpr hx), hlen⟩
set_option maxHeartbeats 8000000 in
theorem x_wonFrom (iv : Value) (s : Nat → Int32) (l : List Tok) (le mo : Nat) (hle : le ≤ 99) (hmo : mo ≤ 99) (hl140 : l.length ≤ 140) (who ng many : Nat) (hng : ng ≤ 8) (hwho : who < 5) (hsK : ∀ p, p < many + 2 → sK s p) : ∀ (n d k : Nat) (h : mH) (i wf : Nat → Int32) (mm : Nat → Nat) (g p q : Nat) (qs : List Nat) (Q : Option Value → mH → Prop), k + n + 1 = ng → rBs 41 h i iv s l le mo → rMn 41 h mm → (∀ j, j < 5 → mm j ≤ 20) → i 0 = nI (many + 2) → i 1 = nI g → g + n < 20000 → h 72 = .inr (8, [.ref 73, .ref 41, .int (nI who), .int (nI ng)]) → h 73 = .inl (0, 13, .inl wf) → (∀ j, j < qs.length → wf (k + j) = nI (qs.getD j 0)) → (p :: q :: qs).Nodup → (∀ x ∈ p :: q :: qs, x < many + 2) → qs.length = many → many ≤ 3 → (∀ h2 wf2, (∀ c, c ≠ 41 → c ≠ 44 → c ≠ 50 → c ≠ 73 → h2 c = h c) → rBs 41 h2 i iv s l le mo → rMn 41 h2 mm → h2 73 = .inl (0, 13, .inl wf2) → (∀ j, j < k + qs.length → wf2 j = wf j) → Q (some (.long (lN (nT (a_od s l) le mo who n mm g p q qs)))) h2) → mT0 (d + n + 5) z_X8_wonFrom 0 (m_init z_X8_wonFrom [.ref 72, .int (nI k), .int (nI p), .int (nI q)]) [] h Q := by
  intro n
  induction n with
  | zero =>
    intro d k h i wf mm g p q qs Q hkn B M hmm hi0 hi1 hgn hS hwf hqs hnd h5 hql hmany K
    have hp5 := h5 p (List.mem_cons_self)
    have hq5 := h5 q (List.mem_cons_of_mem _ (List.mem_cons_self))
    have hp : p < 5 := by omega
    have hq : q < 5 := by omega
    have hpq : p ≠ q := fun z => (List.nodup_cons.mp hnd).1 (z ▸ List.mem_cons_self)
    have hod := Nat.le_trans (a_od_n s l p q (mm p) (mm q) g).2.2 (show 9 ≤ 10 by decide)
    obtain ⟨hR, hN, -, hwt, -, -, -, -⟩ := id B
    refine mT_s rfl rfl ?_
    (apply mT_getf; (case hc => rfl); (case ha => first | rfl | assumption); (case hf => first | rfl | assumption))
    iterate 2 refine mT_s rfl rfl ?_
    (apply mT_inv; (case hc => rfl); (case hd => rfl); (case hb => first | rfl | assumption); (case hg => rfl))
    refine x_oddsNow_41 _ h _ i iv s l le mo B mm M p q g hp hq hi1 (by omega) (fun h2 r2 => ?_)
    have B2 := B.c (by decide) r2.1 r2.2
    have M2 := M.c (r2.1 44 (by decide))
    have hS2 : h2 72 = _ := (r2.1 72 (by decide)).trans hS
    have hwf2 : h2 73 = _ := (r2.1 73 (by decide)).trans hwf
    obtain ⟨hR2, hN2, -, -, -, -, -, -⟩ := id B2
    obtain ⟨fm2, hfm2, em2⟩ := id M2
    iterate 3 refine mT_s rfl rfl ?_
    (apply mT_getf; (case hc => rfl); (case ha => first | rfl | assumption); (case hf => first | rfl | assumption))
    iterate 2 refine mT_s rfl rfl ?_
    rw [show (1 : Int32) = nI 1 from rfl, pk_sub (show 1 ≤ ng by omega)]
    refine mT_icmp_lt rfl (fun c => absurd ((nI_ltI (by omega) (by omega)).mp c) (by omega)) (fun _ => ?_)
    iterate 2 refine mT_s rfl rfl ?_
    (apply mT_getf; (case hc => rfl); (case ha => first | rfl | assumption); (case hf => first | rfl | assumption))
    refine mT_icmp_ne rfl (fun c26 => ?_) (fun c26 => ?_)
    · have c26 : ¬ who = p := fun z => c26 (by rw [z])
      iterate 2 refine mT_s rfl rfl ?_
      (apply mT_getf; (case hc => rfl); (case ha => first | rfl | assumption); (case hf => first | rfl | assumption))
      refine mT_icmp_ne rfl (fun c38 => ?_) (fun c38 => ?_)
      · have c38 : ¬ who = q := fun z => c38 (by rw [z])
        refine mT_s rfl rfl ?_
        refine mT_ret rfl rfl ?_
        have K := K h2 wf (fun c x y z w => r2.1 c z) B2 M2 hwf2 (fun _ _ => rfl)
        unfold nT at K
        rw [if_neg c26, if_neg c38] at K
        exact K
      · have c38 : who = q := ((nI_eq (by omega) (by omega)).mp c38).symm
        iterate 5 refine mT_s rfl rfl ?_
        refine mT_ret rfl rfl ?_
        have K := K h2 wf (fun c x y z w => r2.1 c z) B2 M2 hwf2 (fun _ _ => rfl)
        unfold nT at K
        rw [if_neg c26, if_pos c38] at K
        rw [(od_n hod).2]
        exact K
    · have c26 : who = p := ((nI_eq (by omega) (by omega)).mp c26).symm
      iterate 2 refine mT_s rfl rfl ?_
      refine mT_ret rfl rfl ?_
      have K := K h2 wf (fun c x y z w => r2.1 c z) B2 M2 hwf2 (fun _ _ => rfl)
      unfold nT at K
      rw [if_pos c26] at K
      rw [(od_n hod).1]
      exact K
  | succ n ih =>
    intro d k h i wf mm g p q qs Q hkn B M hmm hi0 hi1 hgn hS hwf hqs hnd h5 hql hmany K
    have hp5 := h5 p (List.mem_cons_self)
    have hq5 := h5 q (List.mem_cons_of_mem _ (List.mem_cons_self))
    have hp : p < 5 := by omega
    have hq : q < 5 := by omega
    have hpq : p ≠ q := fun z => (List.nodup_cons.mp hnd).1 (z ▸ List.mem_cons_self)
    have hod := Nat.le_trans (a_od_n s l p q (mm p) (mm q) g).2.2 (show 9 ≤ 10 by decide)
    obtain ⟨hR, hN, -, hwt, -, -, -, -⟩ := id B
    obtain ⟨y1, ys1, hn1⟩ := next_ok2 hnd h5
    obtain ⟨y2, ys2, hn2⟩ := next_ok2 (nodup_turn hnd) (fun x hx => h5 x ((List.Perm.swap p q qs).mem_iff.mp hx))
    refine mT_s rfl rfl ?_
    (apply mT_getf; (case hc => rfl); (case ha => first | rfl | assumption); (case hf => first | rfl | assumption))
    iterate 2 refine mT_s rfl rfl ?_
    (apply mT_inv; (case hc => rfl); (case hd => rfl); (case hb => first | rfl | assumption); (case hg => rfl))
    refine x_oddsNow_41 _ h _ i iv s l le mo B mm M p q g hp hq hi1 (by omega) (fun h2 r2 => ?_)
    have B2 := B.c (by decide) r2.1 r2.2
    have M2 := M.c (r2.1 44 (by decide))
    have hS2 : h2 72 = _ := (r2.1 72 (by decide)).trans hS
    have hwf2 : h2 73 = _ := (r2.1 73 (by decide)).trans hwf
    obtain ⟨hR2, hN2, -, -, -, -, -, -⟩ := id B2
    obtain ⟨fm2, hfm2, em2⟩ := id M2
    iterate 3 refine mT_s rfl rfl ?_
    (apply mT_getf; (case hc => rfl); (case ha => first | rfl | assumption); (case hf => first | rfl | assumption))
    iterate 2 refine mT_s rfl rfl ?_
    rw [show (1 : Int32) = nI 1 from rfl, pk_sub (show 1 ≤ ng by omega)]
    refine mT_icmp_lt rfl (fun _ => ?_) (fun c => absurd (nI_lt (a := k) (b := ng - 1) (by omega) (by omega)) c)
    refine mT_s rfl rfl ?_
    (apply mT_getf; (case hc => rfl); (case ha => first | rfl | assumption); (case hf => first | rfl | assumption))
    (apply mT_getf; (case hc => rfl); (case ha => first | rfl | assumption); (case hf => first | rfl | assumption))
    refine mT_s rfl rfl ?_
    (apply mT_ialdK; (case hc => rfl); (case ha => first | rfl | assumption); (case hk => first | (simp only [ki_0, ki_1, ki_2, ki_3, ki_4, ki_5, ki_6, ki_7, ki_8, ki_9, ki_10, ki_11, ki_12, ki_17, ki_20, ki_21, ki_22, ki_42, ki_50, ki_58, ki_66, ki_74, ki_140, ki_174, ki_179, ki_184, ki_189, ki_441, nI_add, pk_mul]; with_reducible rfl) | (simp only [ki_0, ki_1, ki_2, ki_3, ki_4, ki_5, ki_6, ki_7, ki_8, ki_9, ki_10, ki_11, ki_12, ki_17, ki_20, ki_21, ki_22, ki_42, ki_50, ki_58, ki_66, ki_74, ki_140, ki_174, ki_179, ki_184, ki_189, ki_441, ix1, nI_add, pk_mul]; with_reducible rfl) | (simp only [ki_0, ki_1, ki_2, ki_3, ki_4, ki_5, ki_6, ki_7, ki_8, ki_9, ki_10, ki_11, ki_12, ki_17, ki_20, ki_21, ki_22, ki_42, ki_50, ki_58, ki_66, ki_74, ki_140, ki_174, ki_179, ki_184, ki_189, ki_441, ix1, ix2, nI_add, pk_mul]; with_reducible rfl) | (simp only [ki_0, ki_1, ki_2, ki_3, ki_4, ki_5, ki_6, ki_7, ki_8, ki_9, ki_10, ki_11, ki_12, ki_17, ki_20, ki_21, ki_22, ki_42, ki_50, ki_58, ki_66, ki_74, ki_140, ki_174, ki_179, ki_184, ki_189, ki_441, ix1, ix2, ix3, nI_add, pk_mul]; with_reducible rfl) | (simp (disch := omega) only [upd_n, ki_0, ki_1, ki_2, ki_3, ki_4, ki_5, ki_6, ki_7, ki_8, ki_9, ki_10, ki_11, ki_12, ki_17, ki_20, ki_21, ki_22, ki_42, ki_50, ki_58, ki_66, ki_74, ki_140, ki_174, ki_179, ki_184, ki_189, ki_441, ix1, nI_add, pk_mul]; with_reducible rfl) | (simp (disch := omega) only [upd_n, ki_0, ki_1, ki_2, ki_3, ki_4, ki_5, ki_6, ki_7, ki_8, ki_9, ki_10, ki_11, ki_12, ki_17, ki_20, ki_21, ki_22, ki_42, ki_50, ki_58, ki_66, ki_74, ki_140, ki_174, ki_179, ki_184, ki_189, ki_441, ix1, ix2, nI_add, pk_mul]; with_reducible rfl) | rfl); (case hlt => first | decide | omega); (case hn => first | decide | omega))
    iterate 2 refine mT_s rfl rfl ?_
    (apply mT_getf; (case hc => rfl); (case ha => first | rfl | assumption); (case hf => first | rfl | assumption))
    (apply mT_getf; (case hc => rfl); (case ha => first | rfl | assumption); (case hf => first | rfl | assumption))
    refine mT_s rfl rfl ?_
    (apply mT_ialdK; (case hc => rfl); (case ha => first | rfl | assumption); (case hk => first | (simp only [ki_0, ki_1, ki_2, ki_3, ki_4, ki_5, ki_6, ki_7, ki_8, ki_9, ki_10, ki_11, ki_12, ki_17, ki_20, ki_21, ki_22, ki_42, ki_50, ki_58, ki_66, ki_74, ki_140, ki_174, ki_179, ki_184, ki_189, ki_441, nI_add, pk_mul]; with_reducible rfl) | (simp only [ki_0, ki_1, ki_2, ki_3, ki_4, ki_5, ki_6, ki_7, ki_8, ki_9, ki_10, ki_11, ki_12, ki_17, ki_20, ki_21, ki_22, ki_42, ki_50, ki_58, ki_66, ki_74, ki_140, ki_174, ki_179, ki_184, ki_189, ki_441, ix1, nI_add, pk_mul]; with_reducible rfl) | (simp only [ki_0, ki_1, ki_2, ki_3, ki_4, ki_5, ki_6, ki_7, ki_8, ki_9, ki_10, ki_11, ki_12, ki_17, ki_20, ki_21, ki_22, ki_42, ki_50, ki_58, ki_66, ki_74, ki_140, ki_174, ki_179, ki_184, ki_189, ki_441, ix1, ix2, nI_add, pk_mul]; with_reducible rfl) | (simp only [ki_0, ki_1, ki_2, ki_3, ki_4, ki_5, ki_6, ki_7, ki_8, ki_9, ki_10, ki_11, ki_12, ki_17, ki_20, ki_21, ki_22, ki_42, ki_50, ki_58, ki_66, ki_74, ki_140, ki_174, ki_179, ki_184, ki_189, ki_441, ix1, ix2, ix3, nI_add, pk_mul]; with_reducible rfl) | (simp (disch := omega) only [upd_n, ki_0, ki_1, ki_2, ki_3, ki_4, ki_5, ki_6, ki_7, ki_8, ki_9, ki_10, ki_11, ki_12, ki_17, ki_20, ki_21, ki_22, ki_42, ki_50, ki_58, ki_66, ki_74, ki_140, ki_174, ki_179, ki_184, ki_189, ki_441, ix1, nI_add, pk_mul]; with_reducible rfl) | (simp (disch := omega) only [upd_n, ki_0, ki_1, ki_2, ki_3, ki_4, ki_5, ki_6, ki_7, ki_8, ki_9, ki_10, ki_11, ki_12, ki_17, ki_20, ki_21, ki_22, ki_42, ki_50, ki_58, ki_66, ki_74, ki_140, ki_174, ki_179, ki_184, ki_189, ki_441, ix1, ix2, nI_add, pk_mul]; with_reducible rfl) | rfl); (case hlt => first | decide | omega); (case hn => first | decide | omega))
    iterate 2 refine mT_s rfl rfl ?_
    (apply mT_getf; (case hc => rfl); (case ha => first | rfl | assumption); (case hf => first | rfl | assumption))
    iterate 3 refine mT_s rfl rfl ?_
    (apply mT_inv; (case hc => rfl); (case hd => rfl); (case hb => first | rfl | assumption); (case hg => rfl))
    rw [em2 p hp, em2 q hq]
    refine x_gameW_41 _ h2 _ i iv s l le mo B2 hle hmo mm M2 p q g hp hq hpq hmm hi1 (fun h3 f3 hR3 M3 => ?_)
    have B3 := B2.c2 (by decide) f3 hR3
    have hS3 : h3 72 = _ := (f3 72 (by decide) (by decide)).trans hS2
    have hwf3 : h3 73 = _ := (f3 73 (by decide) (by decide)).trans hwf2
    have hN3 := B3.2.1
    have hi03 : (upd i 1 (nI (g + 1))) 0 = nI (many + 2) := (upd_n _ _ (by decide)).trans hi0
    iterate 8 refine mT_s rfl rfl ?_
    (apply mT_inv; (case hc => rfl); (case hd => rfl); (case hb => first | rfl | assumption); (case hg => rfl))
    refine x_comesFor _ h3 _ (upd i 1 (nI (g + 1))) iv s l le mo B3 _ _ hS3 wf hwf3 q k many (by omega) hi03 ?_
    have hh1 := q_head hqs hn1.1
    rw [hql] at hh1
    refine mT_c rfl rfl ?_
    rw [hh1.1, nI_1]
    refine ih d (k + 1) (m_up h3 73 _) (upd i 1 (nI (g + 1))) _ (n_play le mo mm p q) (g + 1) p y1 ys1 _ (by omega) (B3.c6 (fun c z => m_up_n z)) (M3.c rfl) (n_play_le hp hmm) hi03 (upd_s _ _ _) (by omega) hS3 rfl hh1.2 hn1.2.1 hn1.2.2.1 (hn1.2.2.2.trans hql) hmany (fun h5 wf5 f5 B5 M5 hwf5 e5 => ?_)
    have hS5 : h5 72 = _ := (f5 72 (by decide) (by decide) (by decide) (by decide)).trans hS3
    have hN5 := B5.2.1
    have hR5 := B5.1
    iterate 6 refine mT_s rfl rfl ?_
    (apply mT_inv; (case hc => rfl); (case hd => rfl); (case hb => first | rfl | assumption); (case hg => rfl))
    refine x_goesBack _ h5 _ (upd i 1 (nI (g + 1))) iv s l le mo B5 _ _ _ hS5 (n_play le mo mm p q) M5 p q (mm p) (mm q) g hp hq (upd_s _ _ _) (fun h6 f6 hR6 M6 => ?_)
    rw [upd_u, ← hi1, upd_id] at hR6
    rw [n_play_2 le mo mm hpq, updM_id mm rfl, updM_id mm rfl] at M6
    have B6 := B5.c2 (by decide) f6 hR6
    have hS6 : h6 72 = _ := (f6 72 (by decide) (by decide)).trans hS5
    have hwf6 : h6 73 = _ := (f6 73 (by decide) (by decide)).trans hwf5
    have hN6 := B6.2.1
    refine mT_s rfl rfl ?_
    (apply mT_getf; (case hc => rfl); (case ha => first | rfl | assumption); (case hf => first | rfl | assumption))
    iterate 3 refine mT_s rfl rfl ?_
    (apply mT_inv; (case hc => rfl); (case hd => rfl); (case hb => first | rfl | assumption); (case hg => rfl))
    refine x_gameL_41 _ h6 _ i iv s l le mo B6 hle hmo mm M6 p q g hp hq hpq hmm hi1 (fun h7 f7 hR7 M7 => ?_)
    have B7 := B6.c2 (by decide) f7 hR7
    have hS7 : h7 72 = _ := (f7 72 (by decide) (by decide)).trans hS6
    have hwf7 : h7 73 = _ := (f7 73 (by decide) (by decide)).trans hwf6
    have hN7 := B7.2.1
    iterate 7 refine mT_s rfl rfl ?_
    (apply mT_inv; (case hc => rfl); (case hd => rfl); (case hb => first | rfl | assumption); (case hg => rfl))
    refine x_comesFor _ h7 _ (upd i 1 (nI (g + 1))) iv s l le mo B7 _ _ hS7 wf5 hwf7 p k many (by omega) hi03 ?_
    have hqs5 : ∀ j, j < qs.length → wf5 (k + j) = nI (qs.getD j 0) := fun j hj => by
      rw [e5 (k + j) (by rw [hn1.2.2.2]; omega), upd_n _ _ (by omega)]
      exact hqs j hj
    have hh2 := q_head hqs5 hn2.1
    rw [hql] at hh2
    refine mT_s rfl rfl ?_
    refine mT_c rfl rfl ?_
    rw [hh2.1, nI_1]
    have hqy : q ≠ y2 := fun z => (List.nodup_cons.mp hn2.2.1).1 (z ▸ List.mem_cons_self)
    have hy2 : y2 < many + 2 := hn2.2.2.1 y2 (List.mem_cons_of_mem _ List.mem_cons_self)
    refine ih d (k + 1) (m_up h7 73 _) (upd i 1 (nI (g + 1))) _ (n_play le mo mm q p) (g + 1) y2 q ys2 _ (by omega) (B7.c6 (fun c z => m_up_n z)) (M7.c rfl) (n_play_le hq hmm) hi03 (upd_s _ _ _) (by omega) hS7 rfl hh2.2 (nodup_turn hn2.2.1) (fun x hx => hn2.2.2.1 x ((List.Perm.swap q y2 ys2).mem_iff.mp hx)) (hn2.2.2.2.trans hql) hmany (fun h9 wf9 f9 B9 M9 hwf9 e9 => ?_)
    rw [nT_swap (fun p q m o g => (a_od_n s l p q m o g).2.2) hqy (od_sym hwt hl140 (hsK q hq5) (hsK y2 hy2) (n_play_le hq hmm q hq) (n_play_le hq hmm y2 (by omega)))]
    have hS9 : h9 72 = _ := (f9 72 (by decide) (by decide) (by decide) (by decide)).trans hS7
    have hN9 := B9.2.1
    iterate 6 refine mT_s rfl rfl ?_
    (apply mT_inv; (case hc => rfl); (case hd => rfl); (case hb => first | rfl | assumption); (case hg => rfl))
    refine x_goesBack _ h9 _ (upd i 1 (nI (g + 1))) iv s l le mo B9 _ _ _ hS9 (n_play le mo mm q p) M9 p q (mm p) (mm q) g hp hq (upd_s _ _ _) (fun ha fa hRa Ma => ?_)
    rw [upd_u, ← hi1, upd_id] at hRa
    rw [n_play_b le mo mm hpq] at Ma
    have Ba := B9.c2 (by decide) fa hRa
    have hwfa : ha 73 = _ := (fa 73 (by decide) (by decide)).trans hwf9
    iterate 11 refine mT_s rfl rfl ?_
    refine mT_ret rfl rfl ?_
    have K := K ha wf9 (fun c x y z w => (fa c x y).trans ((f9 c x y z w).trans ((m_up_n w).trans ((f7 c x y).trans ((f6 c x y).trans ((f5 c x y z w).trans ((m_up_n w).trans ((f3 c x y).trans (r2.1 c z))))))))) Ba Ma hwfa (fun j hj => ?_)
    · rw [(od_n hod).1, (od_n hod).2]
      simp only [lN_mul, lN_add]
      unfold nT at K
      rw [hn1.1, hn2.1] at K
      exact K
    · rw [e9 j (by rw [hn2.2.2.2]; omega), upd_n _ _ (by omega), e5 j (by rw [hn1.2.2.2]; omega), upd_n _ _ (by omega)]