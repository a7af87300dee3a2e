/-! By program (wip/whole/book*.py) and hand. -/
/-- the orders' objects, as they lie between calls -/
def rOrS (h : mH) : Prop := (∃ (a c : Int32) (b : Int64) (v : Value), h 63 = .inr (4, [.ref 64, .int a, .long b, .ref 65, .ref 66, v, .int c])) ∧ (∃ f, h 64 = .inl (0, 4, .inl f)) ∧ (∃ f, h 65 = .inl (0, 4, .inl f)) ∧ rQs h ∧ ∀ a, 67 ≤ a → a ≤ 71 → ∃ E, rSp h a E
theorem min_4 {a : Nat} (h : a ≤ 4) : (if nI a < (4 : Int32) then nI a else 4) = nI a := by
  by_cases c : nI a < (4 : Int32)
  · rw [if_pos c]
  · rw [if_neg c]
    exact congrArg nI (show 4 = a by
      rcases Nat.lt_or_ge a 4 with z | z
      · exact absurd (nI_lt (b := 4) z (by decide)) c
      · omega)
theorem x_lf_L (d : Nat) (h : mH) (Q : Option Value → mH → Prop) (p left : Nat) (sz : Int32) (me : Int64) (w : Int32) (hN : 87 ≤ m_nx h) (hO : h 63 = .inr (4, [.ref 64, .int sz, .long me, .ref 65, .ref 66, .ref 21, .int w])) (hQs : rQs h) (K : ∀ E : Nat → Int64, (∀ j, j < 21 → E j = 0) → mT0 d z_X4_looksFor 55 [some (.ref 63), some (.ref 21), some (.int (nI p)), some (.int (nI left)), some (.int (nI 21))] [] (m_up h 67 (.inl (1, 21, .inr (.inl E)))) Q) : ∀ (r k : Nat) (E : Nat → Int64), k + r = 21 → (∀ j, j < k → E j = 0) → mT0 d z_X4_looksFor 32 [some (.ref 63), some (.ref 21), some (.int (nI p)), some (.int (nI left)), some (.int (nI k))] [] (m_up h 67 (.inl (1, 21, .inr (.inl E)))) Q := by
  intro r
  induction r with
  | zero =>
    intro k E hk hE
    obtain ⟨qs, hq0, q0, q1, q2, q3, q4⟩ := id hQs
    iterate 2 refine mT_s rfl rfl ?_
    refine mT_icmp_gt rfl (fun _ => ?_) (fun c => absurd (show nI 20 < nI k from nI_lt (by omega) (by omega)) c)
    obtain rfl : k = 21 := by omega
    exact K E hE
  | succ r ih =>
    intro k E hk hE
    obtain ⟨qs, hq0, q0, q1, q2, q3, q4⟩ := id hQs
    iterate 2 refine mT_s rfl rfl ?_
    refine mT_icmp_gt rfl (fun c => absurd ((nI_ltI (a := 20) (b := k) (by omega) (by omega)).mp c) (by omega)) (fun _ => ?_)
    refine mT_s rfl rfl ?_
    (apply mT_getf; (case hc => rfl); (case ha => first | rfl | assumption); (case hf => first | rfl | assumption))
    refine mT_s rfl rfl ?_
    (apply mT_aaldK; (case hc => rfl); (case ha => first | rfl | assumption); (case hk => first | (simp only [ki_0, ki_1, ki_2, ki_3, ki_4, ki_5, ki_6, ki_7, ki_8, ki_9, ki_10, ki_11, ki_12, ki_17, ki_20, ki_21, ki_22, ki_42, ki_50, ki_58, ki_66, ki_74, ki_140, ki_174, ki_179, ki_184, ki_189, ki_441, nI_add, pk_mul]; with_reducible rfl) | (simp only [ki_0, ki_1, ki_2, ki_3, ki_4, ki_5, ki_6, ki_7, ki_8, ki_9, ki_10, ki_11, ki_12, ki_17, ki_20, ki_21, ki_22, ki_42, ki_50, ki_58, ki_66, ki_74, ki_140, ki_174, ki_179, ki_184, ki_189, ki_441, ix1, nI_add, pk_mul]; with_reducible rfl) | (simp only [ki_0, ki_1, ki_2, ki_3, ki_4, ki_5, ki_6, ki_7, ki_8, ki_9, ki_10, ki_11, ki_12, ki_17, ki_20, ki_21, ki_22, ki_42, ki_50, ki_58, ki_66, ki_74, ki_140, ki_174, ki_179, ki_184, ki_189, ki_441, ix1, ix2, nI_add, pk_mul]; with_reducible rfl) | (simp only [ki_0, ki_1, ki_2, ki_3, ki_4, ki_5, ki_6, ki_7, ki_8, ki_9, ki_10, ki_11, ki_12, ki_17, ki_20, ki_21, ki_22, ki_42, ki_50, ki_58, ki_66, ki_74, ki_140, ki_174, ki_179, ki_184, ki_189, ki_441, ix1, ix2, ix3, nI_add, pk_mul]; with_reducible rfl) | (simp (disch := omega) only [upd_n, ki_0, ki_1, ki_2, ki_3, ki_4, ki_5, ki_6, ki_7, ki_8, ki_9, ki_10, ki_11, ki_12, ki_17, ki_20, ki_21, ki_22, ki_42, ki_50, ki_58, ki_66, ki_74, ki_140, ki_174, ki_179, ki_184, ki_189, ki_441, ix1, nI_add, pk_mul]; with_reducible rfl) | (simp (disch := omega) only [upd_n, ki_0, ki_1, ki_2, ki_3, ki_4, ki_5, ki_6, ki_7, ki_8, ki_9, ki_10, ki_11, ki_12, ki_17, ki_20, ki_21, ki_22, ki_42, ki_50, ki_58, ki_66, ki_74, ki_140, ki_174, ki_179, ki_184, ki_189, ki_441, ix1, ix2, nI_add, pk_mul]; with_reducible rfl) | rfl); (case hlt => first | decide | omega); (case hn => first | decide | omega); (case hb => first | rfl | assumption); (case h20 => rfl))
    iterate 2 refine mT_s rfl rfl ?_
    (apply mT_lastK; (case hc => rfl); (case ha => first | rfl | assumption); (case hk => first | (simp only [ki_0, ki_1, ki_2, ki_3, ki_4, ki_5, ki_6, ki_7, ki_8, ki_9, ki_10, ki_11, ki_12, ki_17, ki_20, ki_21, ki_22, ki_42, ki_50, ki_58, ki_66, ki_74, ki_140, ki_174, ki_179, ki_184, ki_189, ki_441, nI_add, pk_mul]; with_reducible rfl) | (simp only [ki_0, ki_1, ki_2, ki_3, ki_4, ki_5, ki_6, ki_7, ki_8, ki_9, ki_10, ki_11, ki_12, ki_17, ki_20, ki_21, ki_22, ki_42, ki_50, ki_58, ki_66, ki_74, ki_140, ki_174, ki_179, ki_184, ki_189, ki_441, ix1, nI_add, pk_mul]; with_reducible rfl) | (simp only [ki_0, ki_1, ki_2, ki_3, ki_4, ki_5, ki_6, ki_7, ki_8, ki_9, ki_10, ki_11, ki_12, ki_17, ki_20, ki_21, ki_22, ki_42, ki_50, ki_58, ki_66, ki_74, ki_140, ki_174, ki_179, ki_184, ki_189, ki_441, ix1, ix2, nI_add, pk_mul]; with_reducible rfl) | (simp only [ki_0, ki_1, ki_2, ki_3, ki_4, ki_5, ki_6, ki_7, ki_8, ki_9, ki_10, ki_11, ki_12, ki_17, ki_20, ki_21, ki_22, ki_42, ki_50, ki_58, ki_66, ki_74, ki_140, ki_174, ki_179, ki_184, ki_189, ki_441, ix1, ix2, ix3, nI_add, pk_mul]; with_reducible rfl) | (simp (disch := omega) only [upd_n, ki_0, ki_1, ki_2, ki_3, ki_4, ki_5, ki_6, ki_7, ki_8, ki_9, ki_10, ki_11, ki_12, ki_17, ki_20, ki_21, ki_22, ki_42, ki_50, ki_58, ki_66, ki_74, ki_140, ki_174, ki_179, ki_184, ki_189, ki_441, ix1, nI_add, pk_mul]; with_reducible rfl) | (simp (disch := omega) only [upd_n, ki_0, ki_1, ki_2, ki_3, ki_4, ki_5, ki_6, ki_7, ki_8, ki_9, ki_10, ki_11, ki_12, ki_17, ki_20, ki_21, ki_22, ki_42, ki_50, ki_58, ki_66, ki_74, ki_140, ki_174, ki_179, ki_184, ki_189, ki_441, ix1, ix2, nI_add, pk_mul]; with_reducible rfl) | rfl); (case hlt => first | decide | omega); (case hn => first | decide | omega); (case hN => assumption); (case hg => rfl))
    iterate 2 refine mT_s rfl rfl ?_
    rw [m_up_up, nI_1]
    refine ih (k + 1) _ (by omega) (fun j hj => ?_)
    by_cases z : j = k
    · subst z; rw [pk_uLs]
    · rw [pk_uLn z]; exact hE j (by omega)
theorem x_looksFor (d : Nat) (h : mH) (Q : Option Value → mH → Prop) (i : Nat → Int32) (iv : Value) (s : Nat → Int32) (l : List Tok) (le mo : Nat) (B : rBs 21 h i iv s l le mo) (hle : le ≤ 99) (hmo : mo ≤ 99) (mm : Nat → Nat) (M : rMn 21 h mm) (hmm : ∀ j, j < 5 → mm j ≤ 20) (g : Nat) (hg : g ≤ 9999) (hi1 : i 1 = nI g) (n : Nat) (hn5 : n ≤ 5) (hi0 : i 0 = nI n) (p : Nat) (hpn : p < n) (hm1 : 1 ≤ mm p) (left : Nat) (hl : left < 2 ^ n) (hlp : left / 2 ^ p % 2 = 0) (S : rOrS h) (K : ∀ h2 boF, (∀ c, c ≠ 30 → c < 63 ∨ 71 < c → h2 c = h c) → (∃ f, h2 30 = .inl (0, 5, .inl f)) → rOrS h2 → rOr h2 (nPop left) (iL (v_best s l le mo p n mm g left).1) p → h2 64 = .inl (0, 4, .inl boF) → BX boF (v_best s l le mo p n mm g left).2 → Q none h2) : mT0 (d + 10) z_X4_looksFor 0 (m_init z_X4_looksFor [.ref 63, .ref 21, .int (nI p), .int (nI left)]) [] h Q := by
  obtain ⟨⟨a0, c0, b0, v0, hO⟩, ⟨boF0, h640⟩, ⟨rowF0, h650⟩, hQs, hSp⟩ := id S
  obtain ⟨hR, hN, -, -, -, -, -, h30⟩ := id B
  obtain ⟨fm, hfm, em⟩ := id M
  obtain ⟨E0, hE0⟩ := hSp 67 (by decide) (by decide)
  have hp : p < 5 := by omega
  have hl32 : left < 32 := Nat.lt_of_lt_of_le hl (Nat.pow_le_pow_right (n := 2) (by decide) hn5)
  have hp4 := pop_le hn5 hpn hl hlp
  have hmp20 := hmm p hp
  have hv := v_best_ok (s := s) (l := l) (le := le) (mo := mo) (p := p) (mm := mm) (g := g) hn5 hl
  iterate 2 refine mT_s rfl rfl ?_
  (apply mT_putfN; (case hc => rfl); (case ha => first | rfl | assumption); (case hN => assumption); (case hg => rfl))
  iterate 2 refine mT_s rfl rfl ?_
  (apply mT_putfN; (case hc => rfl); (case ha => first | rfl | assumption); (case hN => assumption); (case hg => rfl))
  iterate 3 refine mT_s rfl rfl ?_
  refine mT_c rfl rfl ?_
  refine x_bitCount _ (m_up (m_up h 63 _) 63 _) _ left hl32 ?_
  refine mT_s rfl rfl ?_
  (apply mT_putfN; (case hc => rfl); (case ha => first | rfl | assumption); (case hN => assumption); (case hg => rfl))
  iterate 2 refine mT_s rfl rfl ?_
  (apply mT_putfN; (case hc => rfl); (case ha => first | rfl | assumption); (case hN => assumption); (case hg => rfl))
  iterate 2 refine mT_s rfl rfl ?_
  rw [min_4 hp4]
  simp only [m_up_up]
  have z9 := x_lf_L (d + 10) (m_up h 63 (.inr (4, [.ref 64, .int (nI (nPop left)), .long (-1), .ref 65, .ref 66, .ref 21, .int (nI p)]))) Q p left (nI (nPop left)) (-1) (nI p) hN rfl hQs (fun E hE => ?_) 21 0 E0 (by omega) (fun j hj => absurd hj (by omega))
  · rw [m_up_id (show (m_up h 63 (.inr (4, [.ref 64, .int (nI (nPop left)), .long (-1), .ref 65, .ref 66, .ref 21, .int (nI p)]))) 67 = _ from hE0)] at z9
    exact z9
  obtain ⟨qs, hq0, q0, q1, q2, q3, q4⟩ := id hQs
  have ix1 := em p hp
  refine mT_s rfl rfl ?_
  (apply mT_getf; (case hc => rfl); (case ha => first | rfl | assumption); (case hf => first | rfl | assumption))
  refine mT_s rfl rfl ?_
  (apply mT_aaldK; (case hc => rfl); (case ha => first | rfl | assumption); (case hk => first | (simp only [ki_0, ki_1, ki_2, ki_3, ki_4, ki_5, ki_6, ki_7, ki_8, ki_9, ki_10, ki_11, ki_12, ki_17, ki_20, ki_21, ki_22, ki_42, ki_50, ki_58, ki_66, ki_74, ki_140, ki_174, ki_179, ki_184, ki_189, ki_441, nI_add, pk_mul]; with_reducible rfl) | (simp only [ki_0, ki_1, ki_2, ki_3, ki_4, ki_5, ki_6, ki_7, ki_8, ki_9, ki_10, ki_11, ki_12, ki_17, ki_20, ki_21, ki_22, ki_42, ki_50, ki_58, ki_66, ki_74, ki_140, ki_174, ki_179, ki_184, ki_189, ki_441, ix1, nI_add, pk_mul]; with_reducible rfl) | (simp only [ki_0, ki_1, ki_2, ki_3, ki_4, ki_5, ki_6, ki_7, ki_8, ki_9, ki_10, ki_11, ki_12, ki_17, ki_20, ki_21, ki_22, ki_42, ki_50, ki_58, ki_66, ki_74, ki_140, ki_174, ki_179, ki_184, ki_189, ki_441, ix1, ix2, nI_add, pk_mul]; with_reducible rfl) | (simp only [ki_0, ki_1, ki_2, ki_3, ki_4, ki_5, ki_6, ki_7, ki_8, ki_9, ki_10, ki_11, ki_12, ki_17, ki_20, ki_21, ki_22, ki_42, ki_50, ki_58, ki_66, ki_74, ki_140, ki_174, ki_179, ki_184, ki_189, ki_441, ix1, ix2, ix3, nI_add, pk_mul]; with_reducible rfl) | (simp (disch := omega) only [upd_n, ki_0, ki_1, ki_2, ki_3, ki_4, ki_5, ki_6, ki_7, ki_8, ki_9, ki_10, ki_11, ki_12, ki_17, ki_20, ki_21, ki_22, ki_42, ki_50, ki_58, ki_66, ki_74, ki_140, ki_174, ki_179, ki_184, ki_189, ki_441, ix1, nI_add, pk_mul]; with_reducible rfl) | (simp (disch := omega) only [upd_n, ki_0, ki_1, ki_2, ki_3, ki_4, ki_5, ki_6, ki_7, ki_8, ki_9, ki_10, ki_11, ki_12, ki_17, ki_20, ki_21, ki_22, ki_42, ki_50, ki_58, ki_66, ki_74, ki_140, ki_174, ki_179, ki_184, ki_189, ki_441, ix1, ix2, nI_add, pk_mul]; with_reducible rfl) | rfl); (case hlt => first | decide | omega); (case hn => first | decide | omega); (case hb => first | rfl | assumption); (case h20 => rfl))
  refine mT_s rfl rfl ?_
  (apply mT_getf; (case hc => rfl); (case ha => first | rfl | assumption); (case hf => first | rfl | assumption))
  refine mT_s rfl rfl ?_
  (apply mT_ialdK; (case hc => rfl); (case ha => first | rfl | assumption); (case hk => first | (simp only [ki_0, ki_1, ki_2, ki_3, ki_4, ki_5, ki_6, ki_7, ki_8, ki_9, ki_10, ki_11, ki_12, ki_17, ki_20, ki_21, ki_22, ki_42, ki_50, ki_58, ki_66, ki_74, ki_140, ki_174, ki_179, ki_184, ki_189, ki_441, nI_add, pk_mul]; with_reducible rfl) | (simp only [ki_0, ki_1, ki_2, ki_3, ki_4, ki_5, ki_6, ki_7, ki_8, ki_9, ki_10, ki_11, ki_12, ki_17, ki_20, ki_21, ki_22, ki_42, ki_50, ki_58, ki_66, ki_74, ki_140, ki_174, ki_179, ki_184, ki_189, ki_441, ix1, nI_add, pk_mul]; with_reducible rfl) | (simp only [ki_0, ki_1, ki_2, ki_3, ki_4, ki_5, ki_6, ki_7, ki_8, ki_9, ki_10, ki_11, ki_12, ki_17, ki_20, ki_21, ki_22, ki_42, ki_50, ki_58, ki_66, ki_74, ki_140, ki_174, ki_179, ki_184, ki_189, ki_441, ix1, ix2, nI_add, pk_mul]; with_reducible rfl) | (simp only [ki_0, ki_1, ki_2, ki_3, ki_4, ki_5, ki_6, ki_7, ki_8, ki_9, ki_10, ki_11, ki_12, ki_17, ki_20, ki_21, ki_22, ki_42, ki_50, ki_58, ki_66, ki_74, ki_140, ki_174, ki_179, ki_184, ki_189, ki_441, ix1, ix2, ix3, nI_add, pk_mul]; with_reducible rfl) | (simp (disch := omega) only [upd_n, ki_0, ki_1, ki_2, ki_3, ki_4, ki_5, ki_6, ki_7, ki_8, ki_9, ki_10, ki_11, ki_12, ki_17, ki_20, ki_21, ki_22, ki_42, ki_50, ki_58, ki_66, ki_74, ki_140, ki_174, ki_179, ki_184, ki_189, ki_441, ix1, nI_add, pk_mul]; with_reducible rfl) | (simp (disch := omega) only [upd_n, ki_0, ki_1, ki_2, ki_3, ki_4, ki_5, ki_6, ki_7, ki_8, ki_9, ki_10, ki_11, ki_12, ki_17, ki_20, ki_21, ki_22, ki_42, ki_50, ki_58, ki_66, ki_74, ki_140, ki_174, ki_179, ki_184, ki_189, ki_441, ix1, ix2, nI_add, pk_mul]; with_reducible rfl) | rfl); (case hlt => first | decide | omega); (case hn => first | decide | omega))
  refine mT_s rfl rfl ?_
  (apply mT_lastK; (case hc => rfl); (case ha => first | rfl | assumption); (case hk => first | (simp only [ki_0, ki_1, ki_2, ki_3, ki_4, ki_5, ki_6, ki_7, ki_8, ki_9, ki_10, ki_11, ki_12, ki_17, ki_20, ki_21, ki_22, ki_42, ki_50, ki_58, ki_66, ki_74, ki_140, ki_174, ki_179, ki_184, ki_189, ki_441, nI_add, pk_mul]; with_reducible rfl) | (simp only [ki_0, ki_1, ki_2, ki_3, ki_4, ki_5, ki_6, ki_7, ki_8, ki_9, ki_10, ki_11, ki_12, ki_17, ki_20, ki_21, ki_22, ki_42, ki_50, ki_58, ki_66, ki_74, ki_140, ki_174, ki_179, ki_184, ki_189, ki_441, ix1, nI_add, pk_mul]; with_reducible rfl) | (simp only [ki_0, ki_1, ki_2, ki_3, ki_4, ki_5, ki_6, ki_7, ki_8, ki_9, ki_10, ki_11, ki_12, ki_17, ki_20, ki_21, ki_22, ki_42, ki_50, ki_58, ki_66, ki_74, ki_140, ki_174, ki_179, ki_184, ki_189, ki_441, ix1, ix2, nI_add, pk_mul]; with_reducible rfl) | (simp only [ki_0, ki_1, ki_2, ki_3, ki_4, ki_5, ki_6, ki_7, ki_8, ki_9, ki_10, ki_11, ki_12, ki_17, ki_20, ki_21, ki_22, ki_42, ki_50, ki_58, ki_66, ki_74, ki_140, ki_174, ki_179, ki_184, ki_189, ki_441, ix1, ix2, ix3, nI_add, pk_mul]; with_reducible rfl) | (simp (disch := omega) only [upd_n, ki_0, ki_1, ki_2, ki_3, ki_4, ki_5, ki_6, ki_7, ki_8, ki_9, ki_10, ki_11, ki_12, ki_17, ki_20, ki_21, ki_22, ki_42, ki_50, ki_58, ki_66, ki_74, ki_140, ki_174, ki_179, ki_184, ki_189, ki_441, ix1, nI_add, pk_mul]; with_reducible rfl) | (simp (disch := omega) only [upd_n, ki_0, ki_1, ki_2, ki_3, ki_4, ki_5, ki_6, ki_7, ki_8, ki_9, ki_10, ki_11, ki_12, ki_17, ki_20, ki_21, ki_22, ki_42, ki_50, ki_58, ki_66, ki_74, ki_140, ki_174, ki_179, ki_184, ki_189, ki_441, ix1, ix2, nI_add, pk_mul]; with_reducible rfl) | rfl); (case hlt => first | decide | omega); (case hn => first | decide | omega); (case hN => assumption); (case hg => rfl))
  iterate 4 refine mT_s rfl rfl ?_
  refine mT_c rfl rfl ?_
  simp only [m_up_up]
  have ne : ∀ a : Nat, a ≠ 63 → a ≠ 67 → m_up (m_up h 63 (.inr (4, [.ref 64, .int (nI (nPop left)), .long (-1), .ref 65, .ref 66, .ref 21, .int (nI p)]))) 67 (.inl (1, 21, .inr (.inl (vp_updL E (mm p) 1)))) a = h a := fun a z1 z2 => (m_up_n z2).trans (m_up_n z1)
  refine mT0_d (e := (d + (4 - nPop left)) + nPop left + 5) (by omega) ?_
  refine xOK_all i iv s l le mo hle hmo p n hp hn5 hi0 mm g hg hi1 (nPop left) (d + (4 - nPop left)) hp4 (nPop left) left [] _ (vp_updL E (mm p) 1) 0 (-1, []) boF0 rowF0 _ hl32 rfl (by show 0 + _ = _; omega) ⟨B.d5 (fun a z1 z2 => ne a (by omega) (by omega)) h30, (M.c rfl), (congrArg (fun z => (.inr (4, [.ref 64, .int (nI (nPop left)), .long z, .ref 65, .ref 66, .ref 21, .int (nI p)]) : mE)) (show (-1 : Int64) = iL (-1) from by decide)), ⟨qs, hq0, q0, q1, q2, q3, q4⟩, fun a z1 z2 => ?_⟩ rfl ?_ (oG_0 hmp20 (fun j hj => ?_)) h640 h650 (fun z => absurd z (by decide)) (by decide) (fun j hj => absurd hj (by simp)) (fun h5 rowF5 boF5 f5 k5 h305 hO5 h665 hSp5 h645 h655 hBO5 _ => ?_)
  · by_cases z : a = 67
    · subst z; exact ⟨_, rfl⟩
    · obtain ⟨E2, hE2⟩ := hSp a z1 z2
      exact ⟨E2, (ne a (by omega) z).trans hE2⟩
  · rw [pk_uLn (show 0 ≠ mm p by omega)]
    exact hE 0 (by decide)
  · by_cases z : j = mm p
    · subst z; rw [pk_uLs, if_pos rfl]
    · rw [pk_uLn z, if_neg z]; exact hE j hj
  refine mT_ret rfl rfl ?_
  exact K h5 boF5 (fun c z1 z2 => (f5 c z1 z2).trans (ne c (by omega) (by omega))) h305 ⟨⟨_, _, _, _, hO5⟩, ⟨_, h645⟩, ⟨_, h655⟩, by unfold rQs; rw [h665]; exact ⟨qs, hq0, q0, q1, q2, q3, q4⟩, hSp5⟩ hO5 h645 (hBO5 hv.1)
theorem x_orderP (d : Nat) (h : mH) (Q : Option Value → mH → Prop) (it : Int32) (hX : h 20 = .inr (9, xObj it)) (i : Nat → Int32) (iv : Value) (s : Nat → Int32) (hI : s_Inv s) (l : List Tok) (le mo nb : Nat) (wi lo : Nat → Nat) (X : XR 21 h i iv s l le mo nb wi lo)  (hle : le ≤ 99) (hmo : mo ≤ 99) (mm : Nat → Nat) (g : Nat) (hmm : ∀ j, j < 5 → mm j ≤ 20) (hs : s_at s mm g = s) (hg : g ≤ 9999) (hOS : rOrS h) (n : Nat) (hn : s 6 = nI n) (hn55 : n ≤ 5) (hm1 : ∀ j, j < n → 1 ≤ mm j) (x y w : Int32) (kN : ¬ (okP s x ∧ 0 ≤ w ∧ w ≤ 3) → Q (some (.int (-1))) h) (kB : ∀ p : Nat, p < n → x = nI p → ¬ okSet n p y → Q (some (.int (-2))) h) (k : ∀ p left j : Nat, p < n → x = nI p → left < 2 ^ n → y = nI left → left / 2 ^ p % 2 = 0 → j < 4 → w = nI j → ∀ h2, (∀ c, c ≠ 30 → c < 63 ∨ 71 < c → h2 c = h c) → rOrS h2 → XR 21 h2 i iv s l le mo nb wi lo → Q (some (.int (if j < nPop left then nI ((v_best s l le mo p n mm g left).2.getD j 0) else -5))) h2) : mT0 (d + 11) z_X9_order 0 (m_init z_X9_order [.ref 20, .int x, .int y, .int w]) [] h Q := by
  obtain ⟨B, XM, XT, XA, XB, XL, i0, i1, i2, i3, i4, i5⟩ := id X
  obtain ⟨hR, hN, hV, hwt, hK, hV5, hW, h9⟩ := id B
  obtain ⟨fk, hk, ek⟩ := id hK
  obtain ⟨fv, hv, ev⟩ := id hV5
  obtain ⟨fm, hm, em⟩ := id XM
  obtain ⟨fw, hw, ew⟩ := id hW
  obtain ⟨ft, ht, et⟩ := id XT
  obtain ⟨fa, hfa, ea⟩ := id XA
  obtain ⟨fb, hb, eb⟩ := id XB
  obtain ⟨fl, hfl, el⟩ := id XL
  obtain ⟨⟨a0, c0, b0, v0, hO63⟩, -⟩ := id hOS
  have hn5 := hn55
  have hn6 := hn
  have hi0 := i0.trans hn6
  have M : rMn 21 h mm := ⟨fm, hm, fun j hj => (em j hj).trans (by rw [← s_at_m s mm g hj, hs])⟩
  have hg1 : i 1 = nI g := i1.trans (by rw [← hs]; rfl)
  iterate 2 refine mT_s rfl rfl ?_
  (apply mT_inv; (case hc => rfl); (case hd => rfl); (case hb => first | rfl | assumption); (case hg => rfl))
  refine x_isNobody _ h _ it hX i iv hR s n hn5 hn6 hi0 _ (fun v2 => ?_) (fun p hp ix1 v2 => ?_)
  · iterate 2 refine mT_s rfl rfl ?_
    refine mT_ret rfl rfl ?_
    exact kN (fun z => v2 z.1)
  · have hpn := okP_n hn6 (by omega) hp ix1 v2
    iterate 2 refine mT_s rfl rfl ?_
    refine mT_if_lt rfl (fun c9 => ?_) (fun c9 => ?_)
    · refine mT_s rfl rfl ?_
      refine mT_ret rfl rfl ?_
      exact kN (fun z => absurd c9 (Int32.not_lt.mpr z.2.1))
    · iterate 2 refine mT_s rfl rfl ?_
      refine mT_icmp_lt rfl (fun c14 => ?_) (fun c14 => ?_)
      · obtain ⟨j, hj, hj2⟩ := i_nat (n := 3) (Int32.not_lt.mp c9) (lt_4.mp c14) (by omega)
        iterate 3 refine mT_s rfl rfl ?_
        (apply mT_inv; (case hc => rfl); (case hd => rfl); (case hb => first | rfl | assumption); (case hg => rfl))
        rw [ix1]
        refine x_isNoSet _ h _ it hX i iv hR n hn5 hi0 p hpn y (fun hset => ?_) (fun left hl hy hlp => ?_)
        · iterate 2 refine mT_s rfl rfl ?_
          refine mT_ret rfl rfl ?_
          exact kB p hpn ix1 hset
        · iterate 2 refine mT_s rfl rfl ?_
          (apply mT_getf; (case hc => rfl); (case ha => first | rfl | assumption); (case hf => first | rfl | assumption))
          refine mT_s rfl rfl ?_
          (apply mT_getf; (case hc => rfl); (case ha => first | rfl | assumption); (case hf => first | rfl | assumption))
          iterate 2 refine mT_s rfl rfl ?_
          (apply mT_inv; (case hc => rfl); (case hd => rfl); (case hb => first | rfl | assumption); (case hg => rfl))
          rw [hy]
          refine x_looksFor _ h _ i iv s l le mo B hle hmo mm M hmm g hg hg1 n hn5 hi0 p hpn (hm1 p hpn) left hl hlp hOS (fun h2 boF f2 h302 S2 O2 h642 hBX => ?_)
          have hX2 : h2 20 = _ := (f2 20 (by decide) (by decide)).trans hX
          have O2 : h2 63 = _ := O2
          have X2 : XR 21 h2 i iv s l le mo nb wi lo := X.c5 (fun c z1 z2 => f2 c z1 (by omega)) h302
          have hv := v_best_ok (s := s) (l := l) (le := le) (mo := mo) (p := p) (mm := mm) (g := g) hn5 hl
          iterate 2 refine mT_s rfl rfl ?_
          (apply mT_getf; (case hc => rfl); (case ha => first | rfl | assumption); (case hf => first | rfl | assumption))
          (apply mT_getf; (case hc => rfl); (case ha => first | rfl | assumption); (case hf => first | rfl | assumption))
          refine mT_icmp_ge rfl (fun c52 => ?_) (fun c52 => ?_)
          · have hj4 : j < 4 := by omega
            rw [hj2] at c52
            have c52 : nPop left ≤ j := (nI_leI (by have := pop_le hn5 hpn hl hlp; omega) (by omega)).mp c52
            refine mT_s rfl rfl ?_
            refine mT_ret rfl rfl ?_
            have k := k p left j hpn ix1 hl hy hlp (by omega) hj2 h2 (fun c z1 z2 => f2 c z1 z2) S2 X2
            rw [if_neg (by omega)] at k
            exact k
          · have ix2 := hj2
            rw [hj2] at c52
            have hj4 : j < 4 := by omega
            have c52 : j < nPop left := Nat.lt_of_not_le (fun z => c52 (nI_le z (by omega)))
            refine mT_s rfl rfl ?_
            (apply mT_getf; (case hc => rfl); (case ha => first | rfl | assumption); (case hf => first | rfl | assumption))
            (apply mT_getf; (case hc => rfl); (case ha => first | rfl | assumption); (case hf => first | rfl | assumption))
            refine mT_s rfl rfl ?_
            (apply mT_ialdK; (case hc => rfl); (case ha => first | rfl | assumption); (case hk => first | (simp only [ki_0, ki_1, ki_2, ki_3, ki_4, ki_5, ki_6, ki_7, ki_8, ki_9, ki_10, ki_11, ki_12, ki_17, ki_20, ki_21, ki_22, ki_42, ki_50, ki_58, ki_66, ki_74, ki_140, ki_174, ki_179, ki_184, ki_189, ki_441, nI_add, pk_mul]; with_reducible rfl) | (simp only [ki_0, ki_1, ki_2, ki_3, ki_4, ki_5, ki_6, ki_7, ki_8, ki_9, ki_10, ki_11, ki_12, ki_17, ki_20, ki_21, ki_22, ki_42, ki_50, ki_58, ki_66, ki_74, ki_140, ki_174, ki_179, ki_184, ki_189, ki_441, ix1, nI_add, pk_mul]; with_reducible rfl) | (simp only [ki_0, ki_1, ki_2, ki_3, ki_4, ki_5, ki_6, ki_7, ki_8, ki_9, ki_10, ki_11, ki_12, ki_17, ki_20, ki_21, ki_22, ki_42, ki_50, ki_58, ki_66, ki_74, ki_140, ki_174, ki_179, ki_184, ki_189, ki_441, ix1, ix2, nI_add, pk_mul]; with_reducible rfl) | (simp only [ki_0, ki_1, ki_2, ki_3, ki_4, ki_5, ki_6, ki_7, ki_8, ki_9, ki_10, ki_11, ki_12, ki_17, ki_20, ki_21, ki_22, ki_42, ki_50, ki_58, ki_66, ki_74, ki_140, ki_174, ki_179, ki_184, ki_189, ki_441, ix1, ix2, ix3, nI_add, pk_mul]; with_reducible rfl) | (simp (disch := omega) only [upd_n, ki_0, ki_1, ki_2, ki_3, ki_4, ki_5, ki_6, ki_7, ki_8, ki_9, ki_10, ki_11, ki_12, ki_17, ki_20, ki_21, ki_22, ki_42, ki_50, ki_58, ki_66, ki_74, ki_140, ki_174, ki_179, ki_184, ki_189, ki_441, ix1, nI_add, pk_mul]; with_reducible rfl) | (simp (disch := omega) only [upd_n, ki_0, ki_1, ki_2, ki_3, ki_4, ki_5, ki_6, ki_7, ki_8, ki_9, ki_10, ki_11, ki_12, ki_17, ki_20, ki_21, ki_22, ki_42, ki_50, ki_58, ki_66, ki_74, ki_140, ki_174, ki_179, ki_184, ki_189, ki_441, ix1, ix2, nI_add, pk_mul]; with_reducible rfl) | rfl); (case hlt => first | decide | omega); (case hn => first | decide | omega))
            refine mT_s rfl rfl ?_
            refine mT_ret rfl rfl ?_
            have k := k p left j hpn ix1 hl hy hlp (by omega) hj2 h2 (fun c z1 z2 => f2 c z1 z2) S2 X2
            rw [if_pos c52, ← hBX j (by rw [hv.2.2]; exact c52)] at k
            exact k
      · refine mT_s rfl rfl ?_
        refine mT_ret rfl rfl ?_
        exact kN (fun z => c14 (lt_4.mpr z.2.2))

theorem x_orderMeanP (d : Nat) (h : mH) (Q : Option Value → mH → Prop) (it : Int32) (hX : h 20 = .inr (9, xObj it)) (i : Nat → Int32) (iv : Value) (s : Nat → Int32) (hI : s_Inv s) (l : List Tok) (le mo nb : Nat) (wi lo : Nat → Nat) (X : XR 21 h i iv s l le mo nb wi lo)  (hle : le ≤ 99) (hmo : mo ≤ 99) (mm : Nat → Nat) (g : Nat) (hmm : ∀ j, j < 5 → mm j ≤ 20) (hs : s_at s mm g = s) (hg : g ≤ 9999) (hOS : rOrS h) (n : Nat) (hn : s 6 = nI n) (hn55 : n ≤ 5) (hm1 : ∀ j, j < n → 1 ≤ mm j) (x y part : Int32) (kN : ¬ ((∃ p : Nat, p < n ∧ x = nI p ∧ okSet n p y) ∧ (0 ≤ part ∧ part ≤ 1)) → Q (some (.long (-9223372036854775808))) h) (k : ∀ p left : Nat, p < n → x = nI p → left < 2 ^ n → y = nI left → left / 2 ^ p % 2 = 0 → (0 ≤ part ∧ part ≤ 1) → ∀ h2, (∀ c, c ≠ 30 → c < 63 ∨ 71 < c → h2 c = h c) → rOrS h2 → XR 21 h2 i iv s l le mo nb wi lo → Q (some (.long (v_low (v_best s l le mo p n mm g left).1 (10 ^ nPop left) part))) h2) : mT0 (d + 11) z_X9_orderMean 0 (m_init z_X9_orderMean [.ref 20, .int x, .int y, .int part]) [] h Q := by
  obtain ⟨B, XM, XT, XA, XB, XL, i0, i1, i2, i3, i4, i5⟩ := id X
  obtain ⟨hR, hN, hV, hwt, hK, hV5, hW, h9⟩ := id B
  obtain ⟨fk, hk, ek⟩ := id hK
  obtain ⟨fv, hv, ev⟩ := id hV5
  obtain ⟨fm, hm, em⟩ := id XM
  obtain ⟨fw, hw, ew⟩ := id hW
  obtain ⟨ft, ht, et⟩ := id XT
  obtain ⟨fa, hfa, ea⟩ := id XA
  obtain ⟨fb, hb, eb⟩ := id XB
  obtain ⟨fl, hfl, el⟩ := id XL
  obtain ⟨⟨a0, c0, b0, v0, hO63⟩, -⟩ := id hOS
  have hn5 := hn55
  have hn6 := hn
  have hi0 := i0.trans hn6
  have M : rMn 21 h mm := ⟨fm, hm, fun j hj => (em j hj).trans (by rw [← s_at_m s mm g hj, hs])⟩
  have hg1 : i 1 = nI g := i1.trans (by rw [← hs]; rfl)
  iterate 2 refine mT_s rfl rfl ?_
  (apply mT_inv; (case hc => rfl); (case hd => rfl); (case hb => first | rfl | assumption); (case hg => rfl))
  refine x_isNobody _ h _ it hX i iv hR s n hn5 hn6 hi0 _ (fun v2 => ?_) (fun p hp ix1 v2 => ?_)
  · iterate 2 refine mT_s rfl rfl ?_
    refine mT_ret rfl rfl ?_
    exact kN (fun ⟨⟨p2, z1, z2, z3⟩, _⟩ => v2 (okP_of hn6 hn5 z1 z2))
  · have hpn := okP_n hn6 (by omega) hp ix1 v2
    iterate 4 refine mT_s rfl rfl ?_
    (apply mT_inv; (case hc => rfl); (case hd => rfl); (case hb => first | rfl | assumption); (case hg => rfl))
    rw [ix1]
    refine x_isNoSet _ h _ it hX i iv hR n hn5 hi0 p hpn y (fun hset => ?_) (fun left hl hy hlp => ?_)
    · iterate 2 refine mT_s rfl rfl ?_
      refine mT_ret rfl rfl ?_
      exact kN (fun ⟨⟨p2, z1, z2, z3⟩, _⟩ => hset (by
        have : p2 = p := (nI_eq (by omega) (by omega)).mp (by rw [← z2, ix1])
        rw [← this]; exact z3))
    · iterate 2 refine mT_s rfl rfl ?_
      refine mT_c rfl rfl ?_
      refine x_isNoPart _ h _ _ (fun a20 => ?_) (fun a20 => ?_)
      · iterate 2 refine mT_s rfl rfl ?_
        refine mT_ret rfl rfl ?_
        exact kN (fun z => a20 z.2)
      · iterate 2 refine mT_s rfl rfl ?_
        (apply mT_getf; (case hc => rfl); (case ha => first | rfl | assumption); (case hf => first | rfl | assumption))
        refine mT_s rfl rfl ?_
        (apply mT_getf; (case hc => rfl); (case ha => first | rfl | assumption); (case hf => first | rfl | assumption))
        iterate 2 refine mT_s rfl rfl ?_
        (apply mT_inv; (case hc => rfl); (case hd => rfl); (case hb => first | rfl | assumption); (case hg => rfl))
        rw [hy]
        refine x_looksFor _ h _ i iv s l le mo B hle hmo mm M hmm g hg hg1 n hn5 hi0 p hpn (hm1 p hpn) left hl hlp hOS (fun h2 boF f2 h302 S2 O2 h642 hBX => ?_)
        have hX2 : h2 20 = _ := (f2 20 (by decide) (by decide)).trans hX
        have O2 : h2 63 = _ := O2
        have X2 : XR 21 h2 i iv s l le mo nb wi lo := X.c5 (fun c z1 z2 => f2 c z1 (by omega)) h302
        have hv := v_best_ok (s := s) (l := l) (le := le) (mo := mo) (p := p) (mm := mm) (g := g) hn5 hl
        refine mT_s rfl rfl ?_
        (apply mT_getf; (case hc => rfl); (case ha => first | rfl | assumption); (case hf => first | rfl | assumption))
        (apply mT_getf; (case hc => rfl); (case ha => first | rfl | assumption); (case hf => first | rfl | assumption))
        refine mT_s rfl rfl ?_
        (apply mT_getf; (case hc => rfl); (case ha => first | rfl | assumption); (case hf => first | rfl | assumption))
        (apply mT_getf; (case hc => rfl); (case ha => first | rfl | assumption); (case hf => first | rfl | assumption))
        refine mT_c rfl rfl ?_
        have hp4 := pop_le hn5 hpn hl hlp
        refine x_pow _ _ _ (nPop left) (by omega) ?_
        refine mT_s rfl rfl ?_
        refine mT_c rfl rfl ?_
        have b0 : 10 ^ nPop left ≤ 10 ^ 4 := Nat.pow_le_pow_right (by decide) hp4
        refine x_partOf _ _ _ (v_best s l le mo p n mm g left).1 (by omega) _ part (Nat.pow_pos (by decide)) (by omega) ?_
        refine mT_ret rfl rfl ?_
        exact k p left hpn ix1 hl hy hlp a20 h2 (fun c z1 z2 => f2 c z1 z2) S2 X2
