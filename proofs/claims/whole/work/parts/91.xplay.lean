/-! By program (wip/whole/book*.py) and hand. -/
theorem XR.g {h h2 : mH} {i : Nat → Int32} {iv : Value} {s : Nat → Int32} {l : List Tok} {le mo nb : Nat} {wi lo : Nat → Nat} (X : XR 21 h i iv s l le mo nb wi lo) {m2 : Nat → Nat} {g2 : Nat} (f2 : ∀ a, a ≠ 21 → a ≠ 24 → h2 a = h a) (hR : h2 21 = .inr (7, rObj 21 (upd i 1 (nI g2)) iv)) (M2 : rMn 21 h2 m2) : XR 21 h2 (upd i 1 (nI g2)) iv (s_at s m2 g2) l le mo nb wi lo := by
  obtain ⟨B, XM, XT, XA, XB, XL, i0, i1, i2, i3, i4, i5⟩ := id X
  obtain ⟨hR1, hN, hV, hwt, hK, hV5, hW, h9⟩ := id B
  obtain ⟨fm, hm, em⟩ := M2
  refine X.u (fun a z => f2 a (by omega) (by omega)) hR (rA_s (rAr_c (f2 _ (by decide) (by decide)) hK) (fun j hj => s_at_k s m2 g2 (by omega))) (rA_s (rAr_c (f2 _ (by decide) (by decide)) hV5) (fun j hj => s_at_k s m2 g2 (by omega))) (rA_s (rAr_c (f2 _ (by decide) (by decide)) hW) (fun j hj => s_at_k s m2 g2 (by omega))) (by rw [f2 30 (by decide) (by decide)]; exact h9) ⟨fm, hm, fun j hj => (em j hj).trans (s_at_m s m2 g2 hj).symm⟩ (rA_s (rAr_c (f2 _ (by decide) (by decide)) XT) (fun j hj => s_at_k s m2 g2 (by omega))) (rA_s (rAr_c (f2 _ (by decide) (by decide)) XA) (fun j hj => s_at_k s m2 g2 (by omega))) (rBk_c (f2 _ (by decide) (by decide)) XB) (rBk_c (f2 _ (by decide) (by decide)) XL) ⟨?_, ?_, ?_, ?_, ?_, ?_⟩
  · rw [upd_n _ _ (by decide), s_at_k s m2 g2 (by decide)]; exact i0
  · rw [upd_s]; rfl
  · rw [upd_n _ _ (by decide), s_at_k s m2 g2 (by decide)]; exact i2
  · rw [upd_n _ _ (by decide), s_at_k s m2 g2 (by decide)]; exact i3
  · rw [upd_n _ _ (by decide), s_at_k s m2 g2 (by decide)]; exact i4
  · rw [upd_n _ _ (by decide), s_at_k s m2 g2 (by decide)]; exact i5
theorem x_playW (d : Nat) (h : mH) (Q : Option Value → mH → Prop) (it : Int32) (hX : h 20 = .inr (9, xObj it)) (i : Nat → Int32) (iv : Value) (s : Nat → Int32) (hI : s_Inv s) (l : List Tok) (le mo nb : Nat) (wi lo : Nat → Nat) (X : XR 21 h i iv s l le mo nb wi lo)  (hle : le ≤ 99) (hmo : mo ≤ 99) (mm : Nat → Nat) (g : Nat) (hmm : ∀ j, j < 5 → mm j ≤ 20) (hs : s_at s mm g = s) (hg : g ≤ 9999) (x y : Int32) (kN : ¬ (okP s x ∧ okP s y) → Q (some (.int (-1))) h) (kB : okP s x → okP s y → x = y → Q (some (.int (-2))) h) (kF : okP s x → okP s y → x ≠ y → g = 9999 → Q (some (.int (-3))) h) (k : ∀ a b : Nat, a < 5 → b < 5 → x = nI a → y = nI b → okP s x → okP s y → a ≠ b → g < 9999 → ∀ h2 i2, (∀ a, a ≤ 20 ∨ 31 ≤ a → h2 a = h a) → XR 21 h2 i2 iv (s_at s (n_play le mo mm a b) (g + 1)) l le mo nb wi lo → Q (some (.int (nI ((n_play le mo mm a b) a)))) h2) : mT0 (d + 3) z_X9_play 0 (m_init z_X9_play [.ref 20, .int x, .int y, .int 1]) [] h Q := by
  obtain ⟨B, XM, XT, XA, XB, XL, i0, i1, i2, i3, i4, i5⟩ := id X
  obtain ⟨hR, hN, hV, hwt, hK, hV5, hW, h9⟩ := id B
  obtain ⟨n9, hn5, hn6⟩ := hI.1
  have hi0 := i0.trans hn6
  obtain ⟨fk, hk, ek⟩ := id hK
  obtain ⟨fv, hv, ev⟩ := id hV5
  obtain ⟨fm, hm, em⟩ := id XM
  obtain ⟨fw, hw, ew⟩ := id hW
  obtain ⟨ft, ht, et⟩ := id XT
  obtain ⟨fa, hfa, ea⟩ := id XA
  obtain ⟨fb, hb, eb⟩ := id XB
  obtain ⟨fl, hfl, el⟩ := id XL
  have M : rMn 21 h mm := ⟨fm, hm, fun j hj => (em j hj).trans (by rw [← s_at_m s mm g hj, hs])⟩
  have hg1 : i 1 = nI g := i1.trans (by rw [← hs]; rfl)
  iterate 3 refine mT_s rfl rfl ?_
  (apply mT_inv; (case hc => rfl); (case hd => rfl); (case hb => first | rfl | assumption); (case hg => rfl))
  refine x_refusal _ h _ it hX i iv hR s n9 hn5 hn6 hi0 x y (fun v => ?_) (fun v w e => ?_) (fun a b ha hb ix1 ix2 va vb hab => ?_)
  · iterate 4 refine mT_s rfl rfl ?_
    refine mT_ret rfl rfl ?_
    exact kN v
  · iterate 4 refine mT_s rfl rfl ?_
    refine mT_ret rfl rfl ?_
    exact kB v w e
  · iterate 4 refine mT_s rfl rfl ?_
    (apply mT_getf; (case hc => rfl); (case ha => first | rfl | assumption); (case hf => first | rfl | assumption))
    (apply mT_getf; (case hc => rfl); (case ha => first | rfl | assumption); (case hf => first | rfl | assumption))
    refine mT_s rfl rfl ?_
    refine mT_icmp_lt rfl (fun c26 => ?_) (fun c26 => ?_)
    · rw [hg1] at c26
      have c26 : g < 9999 := (nI_ltI (b := 9999) (by omega) (by omega)).mp c26
      refine mT_s rfl rfl ?_
      (apply mT_getf; (case hc => rfl); (case ha => first | rfl | assumption); (case hf => first | rfl | assumption))
      iterate 3 refine mT_s rfl rfl ?_
      (apply mT_inv; (case hc => rfl); (case hd => rfl); (case hb => first | rfl | assumption); (case hg => rfl))
      rw [ix1, ix2]
      refine x_gameW_21 _ h _ i iv s l le mo B hle hmo mm M a b g ha hb hab hmm hg1 (fun h2 f2 hR2 M2 => ?_)
      obtain ⟨fm2, hm2, em2⟩ := id M2
      have hX2 : h2 20 = _ := (f2 20 (by decide) (by decide)).trans hX
      refine mT_s rfl rfl ?_
      (apply mT_getf; (case hc => rfl); (case ha => first | rfl | assumption); (case hf => first | rfl | assumption))
      (apply mT_getf; (case hc => rfl); (case ha => first | rfl | assumption); (case hf => first | rfl | assumption))
      refine mT_s rfl rfl ?_
      (apply mT_ialdK; (case hc => rfl); (case ha => first | rfl | assumption); (case hk => first | (simp only [ki_0, ki_1, ki_2, ki_3, ki_4, ki_5, ki_6, ki_7, ki_8, ki_9, ki_10, ki_11, ki_12, ki_17, ki_20, ki_21, ki_22, ki_42, ki_50, ki_58, ki_66, ki_74, ki_140, ki_174, ki_179, ki_184, ki_189, ki_441, nI_add, pk_mul]; with_reducible rfl) | (simp only [ki_0, ki_1, ki_2, ki_3, ki_4, ki_5, ki_6, ki_7, ki_8, ki_9, ki_10, ki_11, ki_12, ki_17, ki_20, ki_21, ki_22, ki_42, ki_50, ki_58, ki_66, ki_74, ki_140, ki_174, ki_179, ki_184, ki_189, ki_441, ix1, nI_add, pk_mul]; with_reducible rfl) | (simp only [ki_0, ki_1, ki_2, ki_3, ki_4, ki_5, ki_6, ki_7, ki_8, ki_9, ki_10, ki_11, ki_12, ki_17, ki_20, ki_21, ki_22, ki_42, ki_50, ki_58, ki_66, ki_74, ki_140, ki_174, ki_179, ki_184, ki_189, ki_441, ix1, ix2, nI_add, pk_mul]; with_reducible rfl) | (simp only [ki_0, ki_1, ki_2, ki_3, ki_4, ki_5, ki_6, ki_7, ki_8, ki_9, ki_10, ki_11, ki_12, ki_17, ki_20, ki_21, ki_22, ki_42, ki_50, ki_58, ki_66, ki_74, ki_140, ki_174, ki_179, ki_184, ki_189, ki_441, ix1, ix2, ix3, nI_add, pk_mul]; with_reducible rfl) | (simp (disch := omega) only [upd_n, ki_0, ki_1, ki_2, ki_3, ki_4, ki_5, ki_6, ki_7, ki_8, ki_9, ki_10, ki_11, ki_12, ki_17, ki_20, ki_21, ki_22, ki_42, ki_50, ki_58, ki_66, ki_74, ki_140, ki_174, ki_179, ki_184, ki_189, ki_441, ix1, nI_add, pk_mul]; with_reducible rfl) | (simp (disch := omega) only [upd_n, ki_0, ki_1, ki_2, ki_3, ki_4, ki_5, ki_6, ki_7, ki_8, ki_9, ki_10, ki_11, ki_12, ki_17, ki_20, ki_21, ki_22, ki_42, ki_50, ki_58, ki_66, ki_74, ki_140, ki_174, ki_179, ki_184, ki_189, ki_441, ix1, ix2, nI_add, pk_mul]; with_reducible rfl) | rfl); (case hlt => first | decide | omega); (case hn => first | decide | omega))
      refine mT_ret rfl rfl ?_
      rw [em2 a ha]
      exact k a b ha hb ix1 ix2 va vb hab c26 h2 _ (fun c z => f2 c (by omega) (by omega)) (X.g f2 hR2 ⟨fm2, hm2, em2⟩)
    · rw [hg1] at c26
      have c26 : g = 9999 := by
        rcases Nat.lt_or_ge g 9999 with z | z
        · exact absurd (nI_lt (b := 9999) z (by omega)) c26
        · omega
      refine mT_s rfl rfl ?_
      refine mT_ret rfl rfl ?_
      exact kF va vb (fun z => hab (by rw [ix1, ix2] at z; exact (nI_eq (by omega) (by omega)).mp z)) c26

theorem x_playL (d : Nat) (h : mH) (Q : Option Value → mH → Prop) (it : Int32) (hX : h 20 = .inr (9, xObj it)) (i : Nat → Int32) (iv : Value) (s : Nat → Int32) (hI : s_Inv s) (l : List Tok) (le mo nb : Nat) (wi lo : Nat → Nat) (X : XR 21 h i iv s l le mo nb wi lo)  (hle : le ≤ 99) (hmo : mo ≤ 99) (mm : Nat → Nat) (g : Nat) (hmm : ∀ j, j < 5 → mm j ≤ 20) (hs : s_at s mm g = s) (hg : g ≤ 9999) (x y : Int32) (kN : ¬ (okP s x ∧ okP s y) → Q (some (.int (-1))) h) (kB : okP s x → okP s y → x = y → Q (some (.int (-2))) h) (kF : okP s x → okP s y → x ≠ y → g = 9999 → Q (some (.int (-3))) h) (k : ∀ a b : Nat, a < 5 → b < 5 → x = nI a → y = nI b → okP s x → okP s y → a ≠ b → g < 9999 → ∀ h2 i2, (∀ a, a ≤ 20 ∨ 31 ≤ a → h2 a = h a) → XR 21 h2 i2 iv (s_at s (n_play le mo mm b a) (g + 1)) l le mo nb wi lo → Q (some (.int (nI ((n_play le mo mm b a) a)))) h2) : mT0 (d + 3) z_X9_play 0 (m_init z_X9_play [.ref 20, .int x, .int y, .int 0]) [] h Q := by
  obtain ⟨B, XM, XT, XA, XB, XL, i0, i1, i2, i3, i4, i5⟩ := id X
  obtain ⟨hR, hN, hV, hwt, hK, hV5, hW, h9⟩ := id B
  obtain ⟨n9, hn5, hn6⟩ := hI.1
  have hi0 := i0.trans hn6
  obtain ⟨fk, hk, ek⟩ := id hK
  obtain ⟨fv, hv, ev⟩ := id hV5
  obtain ⟨fm, hm, em⟩ := id XM
  obtain ⟨fw, hw, ew⟩ := id hW
  obtain ⟨ft, ht, et⟩ := id XT
  obtain ⟨fa, hfa, ea⟩ := id XA
  obtain ⟨fb, hb, eb⟩ := id XB
  obtain ⟨fl, hfl, el⟩ := id XL
  have M : rMn 21 h mm := ⟨fm, hm, fun j hj => (em j hj).trans (by rw [← s_at_m s mm g hj, hs])⟩
  have hg1 : i 1 = nI g := i1.trans (by rw [← hs]; rfl)
  iterate 3 refine mT_s rfl rfl ?_
  (apply mT_inv; (case hc => rfl); (case hd => rfl); (case hb => first | rfl | assumption); (case hg => rfl))
  refine x_refusal _ h _ it hX i iv hR s n9 hn5 hn6 hi0 x y (fun v => ?_) (fun v w e => ?_) (fun a b ha hb ix1 ix2 va vb hab => ?_)
  · iterate 4 refine mT_s rfl rfl ?_
    refine mT_ret rfl rfl ?_
    exact kN v
  · iterate 4 refine mT_s rfl rfl ?_
    refine mT_ret rfl rfl ?_
    exact kB v w e
  · iterate 4 refine mT_s rfl rfl ?_
    (apply mT_getf; (case hc => rfl); (case ha => first | rfl | assumption); (case hf => first | rfl | assumption))
    (apply mT_getf; (case hc => rfl); (case ha => first | rfl | assumption); (case hf => first | rfl | assumption))
    refine mT_s rfl rfl ?_
    refine mT_icmp_lt rfl (fun c26 => ?_) (fun c26 => ?_)
    · rw [hg1] at c26
      have c26 : g < 9999 := (nI_ltI (b := 9999) (by omega) (by omega)).mp c26
      refine mT_s rfl rfl ?_
      (apply mT_getf; (case hc => rfl); (case ha => first | rfl | assumption); (case hf => first | rfl | assumption))
      iterate 3 refine mT_s rfl rfl ?_
      (apply mT_inv; (case hc => rfl); (case hd => rfl); (case hb => first | rfl | assumption); (case hg => rfl))
      rw [ix1, ix2]
      refine x_gameL_21 _ h _ i iv s l le mo B hle hmo mm M a b g ha hb hab hmm hg1 (fun h2 f2 hR2 M2 => ?_)
      obtain ⟨fm2, hm2, em2⟩ := id M2
      have hX2 : h2 20 = _ := (f2 20 (by decide) (by decide)).trans hX
      refine mT_s rfl rfl ?_
      (apply mT_getf; (case hc => rfl); (case ha => first | rfl | assumption); (case hf => first | rfl | assumption))
      (apply mT_getf; (case hc => rfl); (case ha => first | rfl | assumption); (case hf => first | rfl | assumption))
      refine mT_s rfl rfl ?_
      (apply mT_ialdK; (case hc => rfl); (case ha => first | rfl | assumption); (case hk => first | (simp only [ki_0, ki_1, ki_2, ki_3, ki_4, ki_5, ki_6, ki_7, ki_8, ki_9, ki_10, ki_11, ki_12, ki_17, ki_20, ki_21, ki_22, ki_42, ki_50, ki_58, ki_66, ki_74, ki_140, ki_174, ki_179, ki_184, ki_189, ki_441, nI_add, pk_mul]; with_reducible rfl) | (simp only [ki_0, ki_1, ki_2, ki_3, ki_4, ki_5, ki_6, ki_7, ki_8, ki_9, ki_10, ki_11, ki_12, ki_17, ki_20, ki_21, ki_22, ki_42, ki_50, ki_58, ki_66, ki_74, ki_140, ki_174, ki_179, ki_184, ki_189, ki_441, ix1, nI_add, pk_mul]; with_reducible rfl) | (simp only [ki_0, ki_1, ki_2, ki_3, ki_4, ki_5, ki_6, ki_7, ki_8, ki_9, ki_10, ki_11, ki_12, ki_17, ki_20, ki_21, ki_22, ki_42, ki_50, ki_58, ki_66, ki_74, ki_140, ki_174, ki_179, ki_184, ki_189, ki_441, ix1, ix2, nI_add, pk_mul]; with_reducible rfl) | (simp only [ki_0, ki_1, ki_2, ki_3, ki_4, ki_5, ki_6, ki_7, ki_8, ki_9, ki_10, ki_11, ki_12, ki_17, ki_20, ki_21, ki_22, ki_42, ki_50, ki_58, ki_66, ki_74, ki_140, ki_174, ki_179, ki_184, ki_189, ki_441, ix1, ix2, ix3, nI_add, pk_mul]; with_reducible rfl) | (simp (disch := omega) only [upd_n, ki_0, ki_1, ki_2, ki_3, ki_4, ki_5, ki_6, ki_7, ki_8, ki_9, ki_10, ki_11, ki_12, ki_17, ki_20, ki_21, ki_22, ki_42, ki_50, ki_58, ki_66, ki_74, ki_140, ki_174, ki_179, ki_184, ki_189, ki_441, ix1, nI_add, pk_mul]; with_reducible rfl) | (simp (disch := omega) only [upd_n, ki_0, ki_1, ki_2, ki_3, ki_4, ki_5, ki_6, ki_7, ki_8, ki_9, ki_10, ki_11, ki_12, ki_17, ki_20, ki_21, ki_22, ki_42, ki_50, ki_58, ki_66, ki_74, ki_140, ki_174, ki_179, ki_184, ki_189, ki_441, ix1, ix2, nI_add, pk_mul]; with_reducible rfl) | rfl); (case hlt => first | decide | omega); (case hn => first | decide | omega))
      refine mT_ret rfl rfl ?_
      rw [em2 a ha]
      exact k a b ha hb ix1 ix2 va vb hab c26 h2 _ (fun c z => f2 c (by omega) (by omega)) (X.g f2 hR2 ⟨fm2, hm2, em2⟩)
    · rw [hg1] at c26
      have c26 : g = 9999 := by
        rcases Nat.lt_or_ge g 9999 with z | z
        · exact absurd (nI_lt (b := 9999) z (by omega)) c26
        · omega
      refine mT_s rfl rfl ?_
      refine mT_ret rfl rfl ?_
      exact kF va vb (fun z => hab (by rw [ix1, ix2] at z; exact (nI_eq (by omega) (by omega)).mp z)) c26

theorem x_bookW (d : Nat) (h : mH) (Q : Option Value → mH → Prop) (it : Int32) (hX : h 20 = .inr (9, xObj it)) (i : Nat → Int32) (iv : Value) (s : Nat → Int32) (hI : s_Inv s) (l : List Tok) (le mo nb : Nat) (wi lo : Nat → Nat) (X : XR 21 h i iv s l le mo nb wi lo)  (hnb : nb ≤ 8) (hnb8 : s 8 = nI nb) (x y : Int32) (kR : x = -1 → ∀ h2 i2, (∀ a, a ≤ 20 ∨ 31 ≤ a → h2 a = h a) → XR 21 h2 i2 iv (upd s 8 0) l le mo 0 wi lo → Q (some (.int 0)) h2) (kN : ¬ x = -1 → ¬ (okP s x ∧ okP s y) → Q (some (.int (-1))) h) (kB : ¬ x = -1 → okP s x → okP s y → x = y → Q (some (.int (-2))) h) (kF : ¬ x = -1 → okP s x → okP s y → x ≠ y → nb = 8 → Q (some (.int (-4))) h) (k : ∀ a b : Nat, a < 5 → b < 5 → x = nI a → y = nI b → okP s x → okP s y → a ≠ b → ¬ x = -1 → nb < 8 → ∀ h2 i2, (∀ a, a ≤ 20 ∨ 31 ≤ a → h2 a = h a) → XR 21 h2 i2 iv (upd (upd (upd (upd s (42 + nb) x) (50 + nb) y) (58 + nb) 1) 8 (nI (nb + 1))) l le mo (nb + 1) (updM wi nb a) (updM lo nb b) → Q (some (.int (nI (nb + 1)))) h2) : mT0 (d + 3) z_X9_book 0 (m_init z_X9_book [.ref 20, .int x, .int y, .int 1]) [] h Q := by
  obtain ⟨B, XM, XT, XA, XB, XL, i0, i1, i2, i3, i4, i5⟩ := id X
  obtain ⟨hR, hN, hV, hwt, hK, hV5, hW, h9⟩ := id B
  obtain ⟨n9, hn5, hn6⟩ := hI.1
  have hi0 := i0.trans hn6
  obtain ⟨fk, hk, ek⟩ := id hK
  obtain ⟨fv, hv, ev⟩ := id hV5
  obtain ⟨fm, hm, em⟩ := id XM
  obtain ⟨fw, hw, ew⟩ := id hW
  obtain ⟨ft, ht, et⟩ := id XT
  obtain ⟨fa, hfa, ea⟩ := id XA
  obtain ⟨fb, hb, eb⟩ := id XB
  obtain ⟨fl, hfl, el⟩ := id XL
  have ix3 := i4.trans hnb8
  iterate 2 refine mT_s rfl rfl ?_
  refine mT_icmp_ne rfl (fun c2 => ?_) (fun c2 => ?_)
  · iterate 3 refine mT_s rfl rfl ?_
    (apply mT_inv; (case hc => rfl); (case hd => rfl); (case hb => first | rfl | assumption); (case hg => rfl))
    refine x_refusal _ h _ it hX i iv hR s n9 hn5 hn6 hi0 x y (fun v => ?_) (fun v w e => ?_) (fun a b ha hb ix1 ix2 va vb hab => ?_)
    · iterate 4 refine mT_s rfl rfl ?_
      refine mT_ret rfl rfl ?_
      exact kN c2 v
    · iterate 4 refine mT_s rfl rfl ?_
      refine mT_ret rfl rfl ?_
      exact kB c2 v w e
    · iterate 4 refine mT_s rfl rfl ?_
      (apply mT_getf; (case hc => rfl); (case ha => first | rfl | assumption); (case hf => first | rfl | assumption))
      (apply mT_getf; (case hc => rfl); (case ha => first | rfl | assumption); (case hf => first | rfl | assumption))
      refine mT_s rfl rfl ?_
      refine mT_icmp_lt rfl (fun c40 => ?_) (fun c40 => ?_)
      · rw [ix3] at c40
        have c40 : nb < 8 := (nI_ltI (b := 8) (by omega) (by omega)).mp c40
        have ix1x := ix1
        have ix2x := ix2
        clear ix1 ix2
        have ix1 := ix3
        refine mT_s rfl rfl ?_
        (apply mT_getf; (case hc => rfl); (case ha => first | rfl | assumption); (case hf => first | rfl | assumption))
        (apply mT_getf; (case hc => rfl); (case ha => first | rfl | assumption); (case hf => first | rfl | assumption))
        refine mT_s rfl rfl ?_
        (apply mT_getf; (case hc => rfl); (case ha => first | rfl | assumption); (case hf => first | rfl | assumption))
        (apply mT_getf; (case hc => rfl); (case ha => first | rfl | assumption); (case hf => first | rfl | assumption))
        refine mT_s rfl rfl ?_
        refine mT_if_eq rfl (fun c => absurd c (by decide)) (fun _ => ?_)
        iterate 2 refine mT_s rfl rfl ?_
        (apply mT_iastK; (case hc => rfl); (case ha => first | rfl | assumption); (case hk => first | (simp only [ki_0, ki_1, ki_2, ki_3, ki_4, ki_5, ki_6, ki_7, ki_8, ki_9, ki_10, ki_11, ki_12, ki_17, ki_20, ki_21, ki_22, ki_42, ki_50, ki_58, ki_66, ki_74, ki_140, ki_174, ki_179, ki_184, ki_189, ki_441, nI_add, pk_mul]; with_reducible rfl) | (simp only [ki_0, ki_1, ki_2, ki_3, ki_4, ki_5, ki_6, ki_7, ki_8, ki_9, ki_10, ki_11, ki_12, ki_17, ki_20, ki_21, ki_22, ki_42, ki_50, ki_58, ki_66, ki_74, ki_140, ki_174, ki_179, ki_184, ki_189, ki_441, ix1, nI_add, pk_mul]; with_reducible rfl) | (simp only [ki_0, ki_1, ki_2, ki_3, ki_4, ki_5, ki_6, ki_7, ki_8, ki_9, ki_10, ki_11, ki_12, ki_17, ki_20, ki_21, ki_22, ki_42, ki_50, ki_58, ki_66, ki_74, ki_140, ki_174, ki_179, ki_184, ki_189, ki_441, ix1, ix2, nI_add, pk_mul]; with_reducible rfl) | (simp only [ki_0, ki_1, ki_2, ki_3, ki_4, ki_5, ki_6, ki_7, ki_8, ki_9, ki_10, ki_11, ki_12, ki_17, ki_20, ki_21, ki_22, ki_42, ki_50, ki_58, ki_66, ki_74, ki_140, ki_174, ki_179, ki_184, ki_189, ki_441, ix1, ix2, ix3, nI_add, pk_mul]; with_reducible rfl) | (simp (disch := omega) only [upd_n, ki_0, ki_1, ki_2, ki_3, ki_4, ki_5, ki_6, ki_7, ki_8, ki_9, ki_10, ki_11, ki_12, ki_17, ki_20, ki_21, ki_22, ki_42, ki_50, ki_58, ki_66, ki_74, ki_140, ki_174, ki_179, ki_184, ki_189, ki_441, ix1, nI_add, pk_mul]; with_reducible rfl) | (simp (disch := omega) only [upd_n, ki_0, ki_1, ki_2, ki_3, ki_4, ki_5, ki_6, ki_7, ki_8, ki_9, ki_10, ki_11, ki_12, ki_17, ki_20, ki_21, ki_22, ki_42, ki_50, ki_58, ki_66, ki_74, ki_140, ki_174, ki_179, ki_184, ki_189, ki_441, ix1, ix2, nI_add, pk_mul]; with_reducible rfl) | rfl); (case hlt => first | decide | omega); (case hn => first | decide | omega); (case hN => assumption); (case hg => rfl))
        refine mT_s rfl rfl ?_
        (apply mT_getf; (case hc => rfl); (case ha => first | rfl | assumption); (case hf => first | rfl | assumption))
        (apply mT_getf; (case hc => rfl); (case ha => first | rfl | assumption); (case hf => first | rfl | assumption))
        refine mT_s rfl rfl ?_
        (apply mT_getf; (case hc => rfl); (case ha => first | rfl | assumption); (case hf => first | rfl | assumption))
        (apply mT_getf; (case hc => rfl); (case ha => first | rfl | assumption); (case hf => first | rfl | assumption))
        refine mT_s rfl rfl ?_
        refine mT_if_eq rfl (fun c => absurd c (by decide)) (fun _ => ?_)
        iterate 2 refine mT_s rfl rfl ?_
        (apply mT_iastK; (case hc => rfl); (case ha => first | rfl | assumption); (case hk => first | (simp only [ki_0, ki_1, ki_2, ki_3, ki_4, ki_5, ki_6, ki_7, ki_8, ki_9, ki_10, ki_11, ki_12, ki_17, ki_20, ki_21, ki_22, ki_42, ki_50, ki_58, ki_66, ki_74, ki_140, ki_174, ki_179, ki_184, ki_189, ki_441, nI_add, pk_mul]; with_reducible rfl) | (simp only [ki_0, ki_1, ki_2, ki_3, ki_4, ki_5, ki_6, ki_7, ki_8, ki_9, ki_10, ki_11, ki_12, ki_17, ki_20, ki_21, ki_22, ki_42, ki_50, ki_58, ki_66, ki_74, ki_140, ki_174, ki_179, ki_184, ki_189, ki_441, ix1, nI_add, pk_mul]; with_reducible rfl) | (simp only [ki_0, ki_1, ki_2, ki_3, ki_4, ki_5, ki_6, ki_7, ki_8, ki_9, ki_10, ki_11, ki_12, ki_17, ki_20, ki_21, ki_22, ki_42, ki_50, ki_58, ki_66, ki_74, ki_140, ki_174, ki_179, ki_184, ki_189, ki_441, ix1, ix2, nI_add, pk_mul]; with_reducible rfl) | (simp only [ki_0, ki_1, ki_2, ki_3, ki_4, ki_5, ki_6, ki_7, ki_8, ki_9, ki_10, ki_11, ki_12, ki_17, ki_20, ki_21, ki_22, ki_42, ki_50, ki_58, ki_66, ki_74, ki_140, ki_174, ki_179, ki_184, ki_189, ki_441, ix1, ix2, ix3, nI_add, pk_mul]; with_reducible rfl) | (simp (disch := omega) only [upd_n, ki_0, ki_1, ki_2, ki_3, ki_4, ki_5, ki_6, ki_7, ki_8, ki_9, ki_10, ki_11, ki_12, ki_17, ki_20, ki_21, ki_22, ki_42, ki_50, ki_58, ki_66, ki_74, ki_140, ki_174, ki_179, ki_184, ki_189, ki_441, ix1, nI_add, pk_mul]; with_reducible rfl) | (simp (disch := omega) only [upd_n, ki_0, ki_1, ki_2, ki_3, ki_4, ki_5, ki_6, ki_7, ki_8, ki_9, ki_10, ki_11, ki_12, ki_17, ki_20, ki_21, ki_22, ki_42, ki_50, ki_58, ki_66, ki_74, ki_140, ki_174, ki_179, ki_184, ki_189, ki_441, ix1, ix2, nI_add, pk_mul]; with_reducible rfl) | rfl); (case hlt => first | decide | omega); (case hn => first | decide | omega); (case hN => assumption); (case hg => rfl))
        refine mT_s rfl rfl ?_
        (apply mT_getf; (case hc => rfl); (case ha => first | rfl | assumption); (case hf => first | rfl | assumption))
        refine mT_s rfl rfl ?_
        (apply mT_getf; (case hc => rfl); (case ha => first | rfl | assumption); (case hf => first | rfl | assumption))
        iterate 2 refine mT_s rfl rfl ?_
        (apply mT_putfN; (case hc => rfl); (case ha => first | rfl | assumption); (case hN => assumption); (case hg => rfl))
        refine mT_s rfl rfl ?_
        (apply mT_getf; (case hc => rfl); (case ha => first | rfl | assumption); (case hf => first | rfl | assumption))
        (apply mT_getf; (case hc => rfl); (case ha => first | rfl | assumption); (case hf => first | rfl | assumption))
        refine mT_ret rfl rfl ?_
        rw [ix3, nI_1]
        refine k a b ha hb ix1x ix2x va vb hab c2 c40 _ (upd i 4 (nI (nb + 1))) (fun a z => by rw [m_up_n (show a ≠ 21 by omega), m_up_n (show a ≠ 28 by omega), m_up_n (show a ≠ 27 by omega)]) (X.u (fun a z => by rw [m_up_n (show a ≠ 21 by omega), m_up_n (show a ≠ 28 by omega), m_up_n (show a ≠ 27 by omega)]) rfl (rA_s (rAr_c rfl hK) (fun j hj => by simp (disch := omega) only [upd_n])) (rA_s (rAr_c rfl hV5) (fun j hj => by simp (disch := omega) only [upd_n])) (rA_s (rAr_c rfl hW) (fun j hj => by simp (disch := omega) only [upd_n])) h9 (rA_s (rAr_c rfl XM) (fun j hj => by simp (disch := omega) only [upd_n])) (rA_s (rAr_c rfl XT) (fun j hj => by simp (disch := omega) only [upd_n])) (rA_s (rAr_c rfl XA) (fun j hj => by simp (disch := omega) only [upd_n])) ⟨_, rfl, fun j hj => by
          by_cases z : j = nb
          · subst z; rw [upd_s, updM_s]; exact ix1x
          · rw [upd_n _ _ z, updM_n _ z]; exact eb j (by omega)⟩ ⟨_, rfl, fun j hj => by
          by_cases z : j = nb
          · subst z; rw [upd_s, updM_s]; exact ix2x
          · rw [upd_n _ _ z, updM_n _ z]; exact el j (by omega)⟩ ⟨?_, ?_, ?_, ?_, ?_, ?_⟩)
        all_goals first | rfl | (simp (disch := omega) only [upd_n, upd_s]; first | assumption | rfl)
      · rw [ix3] at c40
        have c40 : nb = 8 := by
          rcases Nat.lt_or_ge nb 8 with z | z
          · exact absurd (nI_lt (b := 8) z (by omega)) c40
          · omega
        refine mT_s rfl rfl ?_
        refine mT_ret rfl rfl ?_
        exact kF c2 va vb (fun z => hab (by rw [ix1, ix2] at z; exact (nI_eq (by omega) (by omega)).mp z)) c40
  · refine mT_s rfl rfl ?_
    (apply mT_getf; (case hc => rfl); (case ha => first | rfl | assumption); (case hf => first | rfl | assumption))
    refine mT_s rfl rfl ?_
    (apply mT_putfN; (case hc => rfl); (case ha => first | rfl | assumption); (case hN => assumption); (case hg => rfl))
    refine mT_s rfl rfl ?_
    refine mT_ret rfl rfl ?_
    refine kR c2 _ (upd i 4 0) (fun a z => by rw [m_up_n (show a ≠ 21 by omega)]) (X.u (fun a z => by rw [m_up_n (show a ≠ 21 by omega)]) rfl (rA_s (rAr_c rfl hK) (fun j hj => by simp (disch := omega) only [upd_n])) (rA_s (rAr_c rfl hV5) (fun j hj => by simp (disch := omega) only [upd_n])) (rA_s (rAr_c rfl hW) (fun j hj => by simp (disch := omega) only [upd_n])) h9 (rA_s (rAr_c rfl XM) (fun j hj => by simp (disch := omega) only [upd_n])) (rA_s (rAr_c rfl XT) (fun j hj => by simp (disch := omega) only [upd_n])) (rA_s (rAr_c rfl XA) (fun j hj => by simp (disch := omega) only [upd_n])) ⟨fb, hb, fun j hj => absurd hj (by omega)⟩ ⟨fl, hfl, fun j hj => absurd hj (by omega)⟩ ⟨?_, ?_, ?_, ?_, ?_, ?_⟩)
    all_goals first | rfl | (simp (disch := omega) only [upd_n, upd_s]; first | assumption | rfl)

theorem x_bookL (d : Nat) (h : mH) (Q : Option Value → mH → Prop) (it : Int32) (hX : h 20 = .inr (9, xObj it)) (i : Nat → Int32) (iv : Value) (s : Nat → Int32) (hI : s_Inv s) (l : List Tok) (le mo nb : Nat) (wi lo : Nat → Nat) (X : XR 21 h i iv s l le mo nb wi lo)  (hnb : nb ≤ 8) (hnb8 : s 8 = nI nb) (x y : Int32) (kR : x = -1 → ∀ h2 i2, (∀ a, a ≤ 20 ∨ 31 ≤ a → h2 a = h a) → XR 21 h2 i2 iv (upd s 8 0) l le mo 0 wi lo → Q (some (.int 0)) h2) (kN : ¬ x = -1 → ¬ (okP s x ∧ okP s y) → Q (some (.int (-1))) h) (kB : ¬ x = -1 → okP s x → okP s y → x = y → Q (some (.int (-2))) h) (kF : ¬ x = -1 → okP s x → okP s y → x ≠ y → nb = 8 → Q (some (.int (-4))) h) (k : ∀ a b : Nat, a < 5 → b < 5 → x = nI a → y = nI b → okP s x → okP s y → a ≠ b → ¬ x = -1 → nb < 8 → ∀ h2 i2, (∀ a, a ≤ 20 ∨ 31 ≤ a → h2 a = h a) → XR 21 h2 i2 iv (upd (upd (upd (upd s (42 + nb) x) (50 + nb) y) (58 + nb) 0) 8 (nI (nb + 1))) l le mo (nb + 1) (updM wi nb b) (updM lo nb a) → Q (some (.int (nI (nb + 1)))) h2) : mT0 (d + 3) z_X9_book 0 (m_init z_X9_book [.ref 20, .int x, .int y, .int 0]) [] h Q := by
  obtain ⟨B, XM, XT, XA, XB, XL, i0, i1, i2, i3, i4, i5⟩ := id X
  obtain ⟨hR, hN, hV, hwt, hK, hV5, hW, h9⟩ := id B
  obtain ⟨n9, hn5, hn6⟩ := hI.1
  have hi0 := i0.trans hn6
  obtain ⟨fk, hk, ek⟩ := id hK
  obtain ⟨fv, hv, ev⟩ := id hV5
  obtain ⟨fm, hm, em⟩ := id XM
  obtain ⟨fw, hw, ew⟩ := id hW
  obtain ⟨ft, ht, et⟩ := id XT
  obtain ⟨fa, hfa, ea⟩ := id XA
  obtain ⟨fb, hb, eb⟩ := id XB
  obtain ⟨fl, hfl, el⟩ := id XL
  have ix3 := i4.trans hnb8
  iterate 2 refine mT_s rfl rfl ?_
  refine mT_icmp_ne rfl (fun c2 => ?_) (fun c2 => ?_)
  · iterate 3 refine mT_s rfl rfl ?_
    (apply mT_inv; (case hc => rfl); (case hd => rfl); (case hb => first | rfl | assumption); (case hg => rfl))
    refine x_refusal _ h _ it hX i iv hR s n9 hn5 hn6 hi0 x y (fun v => ?_) (fun v w e => ?_) (fun a b ha hb ix1 ix2 va vb hab => ?_)
    · iterate 4 refine mT_s rfl rfl ?_
      refine mT_ret rfl rfl ?_
      exact kN c2 v
    · iterate 4 refine mT_s rfl rfl ?_
      refine mT_ret rfl rfl ?_
      exact kB c2 v w e
    · iterate 4 refine mT_s rfl rfl ?_
      (apply mT_getf; (case hc => rfl); (case ha => first | rfl | assumption); (case hf => first | rfl | assumption))
      (apply mT_getf; (case hc => rfl); (case ha => first | rfl | assumption); (case hf => first | rfl | assumption))
      refine mT_s rfl rfl ?_
      refine mT_icmp_lt rfl (fun c40 => ?_) (fun c40 => ?_)
      · rw [ix3] at c40
        have c40 : nb < 8 := (nI_ltI (b := 8) (by omega) (by omega)).mp c40
        have ix1x := ix1
        have ix2x := ix2
        clear ix1 ix2
        have ix1 := ix3
        refine mT_s rfl rfl ?_
        (apply mT_getf; (case hc => rfl); (case ha => first | rfl | assumption); (case hf => first | rfl | assumption))
        (apply mT_getf; (case hc => rfl); (case ha => first | rfl | assumption); (case hf => first | rfl | assumption))
        refine mT_s rfl rfl ?_
        (apply mT_getf; (case hc => rfl); (case ha => first | rfl | assumption); (case hf => first | rfl | assumption))
        (apply mT_getf; (case hc => rfl); (case ha => first | rfl | assumption); (case hf => first | rfl | assumption))
        refine mT_s rfl rfl ?_
        refine mT_if_eq rfl (fun _ => ?_) (fun c => absurd rfl c)
        refine mT_s rfl rfl ?_
        (apply mT_iastK; (case hc => rfl); (case ha => first | rfl | assumption); (case hk => first | (simp only [ki_0, ki_1, ki_2, ki_3, ki_4, ki_5, ki_6, ki_7, ki_8, ki_9, ki_10, ki_11, ki_12, ki_17, ki_20, ki_21, ki_22, ki_42, ki_50, ki_58, ki_66, ki_74, ki_140, ki_174, ki_179, ki_184, ki_189, ki_441, nI_add, pk_mul]; with_reducible rfl) | (simp only [ki_0, ki_1, ki_2, ki_3, ki_4, ki_5, ki_6, ki_7, ki_8, ki_9, ki_10, ki_11, ki_12, ki_17, ki_20, ki_21, ki_22, ki_42, ki_50, ki_58, ki_66, ki_74, ki_140, ki_174, ki_179, ki_184, ki_189, ki_441, ix1, nI_add, pk_mul]; with_reducible rfl) | (simp only [ki_0, ki_1, ki_2, ki_3, ki_4, ki_5, ki_6, ki_7, ki_8, ki_9, ki_10, ki_11, ki_12, ki_17, ki_20, ki_21, ki_22, ki_42, ki_50, ki_58, ki_66, ki_74, ki_140, ki_174, ki_179, ki_184, ki_189, ki_441, ix1, ix2, nI_add, pk_mul]; with_reducible rfl) | (simp only [ki_0, ki_1, ki_2, ki_3, ki_4, ki_5, ki_6, ki_7, ki_8, ki_9, ki_10, ki_11, ki_12, ki_17, ki_20, ki_21, ki_22, ki_42, ki_50, ki_58, ki_66, ki_74, ki_140, ki_174, ki_179, ki_184, ki_189, ki_441, ix1, ix2, ix3, nI_add, pk_mul]; with_reducible rfl) | (simp (disch := omega) only [upd_n, ki_0, ki_1, ki_2, ki_3, ki_4, ki_5, ki_6, ki_7, ki_8, ki_9, ki_10, ki_11, ki_12, ki_17, ki_20, ki_21, ki_22, ki_42, ki_50, ki_58, ki_66, ki_74, ki_140, ki_174, ki_179, ki_184, ki_189, ki_441, ix1, nI_add, pk_mul]; with_reducible rfl) | (simp (disch := omega) only [upd_n, ki_0, ki_1, ki_2, ki_3, ki_4, ki_5, ki_6, ki_7, ki_8, ki_9, ki_10, ki_11, ki_12, ki_17, ki_20, ki_21, ki_22, ki_42, ki_50, ki_58, ki_66, ki_74, ki_140, ki_174, ki_179, ki_184, ki_189, ki_441, ix1, ix2, nI_add, pk_mul]; with_reducible rfl) | rfl); (case hlt => first | decide | omega); (case hn => first | decide | omega); (case hN => assumption); (case hg => rfl))
        refine mT_s rfl rfl ?_
        (apply mT_getf; (case hc => rfl); (case ha => first | rfl | assumption); (case hf => first | rfl | assumption))
        (apply mT_getf; (case hc => rfl); (case ha => first | rfl | assumption); (case hf => first | rfl | assumption))
        refine mT_s rfl rfl ?_
        (apply mT_getf; (case hc => rfl); (case ha => first | rfl | assumption); (case hf => first | rfl | assumption))
        (apply mT_getf; (case hc => rfl); (case ha => first | rfl | assumption); (case hf => first | rfl | assumption))
        refine mT_s rfl rfl ?_
        refine mT_if_eq rfl (fun _ => ?_) (fun c => absurd rfl c)
        refine mT_s rfl rfl ?_
        (apply mT_iastK; (case hc => rfl); (case ha => first | rfl | assumption); (case hk => first | (simp only [ki_0, ki_1, ki_2, ki_3, ki_4, ki_5, ki_6, ki_7, ki_8, ki_9, ki_10, ki_11, ki_12, ki_17, ki_20, ki_21, ki_22, ki_42, ki_50, ki_58, ki_66, ki_74, ki_140, ki_174, ki_179, ki_184, ki_189, ki_441, nI_add, pk_mul]; with_reducible rfl) | (simp only [ki_0, ki_1, ki_2, ki_3, ki_4, ki_5, ki_6, ki_7, ki_8, ki_9, ki_10, ki_11, ki_12, ki_17, ki_20, ki_21, ki_22, ki_42, ki_50, ki_58, ki_66, ki_74, ki_140, ki_174, ki_179, ki_184, ki_189, ki_441, ix1, nI_add, pk_mul]; with_reducible rfl) | (simp only [ki_0, ki_1, ki_2, ki_3, ki_4, ki_5, ki_6, ki_7, ki_8, ki_9, ki_10, ki_11, ki_12, ki_17, ki_20, ki_21, ki_22, ki_42, ki_50, ki_58, ki_66, ki_74, ki_140, ki_174, ki_179, ki_184, ki_189, ki_441, ix1, ix2, nI_add, pk_mul]; with_reducible rfl) | (simp only [ki_0, ki_1, ki_2, ki_3, ki_4, ki_5, ki_6, ki_7, ki_8, ki_9, ki_10, ki_11, ki_12, ki_17, ki_20, ki_21, ki_22, ki_42, ki_50, ki_58, ki_66, ki_74, ki_140, ki_174, ki_179, ki_184, ki_189, ki_441, ix1, ix2, ix3, nI_add, pk_mul]; with_reducible rfl) | (simp (disch := omega) only [upd_n, ki_0, ki_1, ki_2, ki_3, ki_4, ki_5, ki_6, ki_7, ki_8, ki_9, ki_10, ki_11, ki_12, ki_17, ki_20, ki_21, ki_22, ki_42, ki_50, ki_58, ki_66, ki_74, ki_140, ki_174, ki_179, ki_184, ki_189, ki_441, ix1, nI_add, pk_mul]; with_reducible rfl) | (simp (disch := omega) only [upd_n, ki_0, ki_1, ki_2, ki_3, ki_4, ki_5, ki_6, ki_7, ki_8, ki_9, ki_10, ki_11, ki_12, ki_17, ki_20, ki_21, ki_22, ki_42, ki_50, ki_58, ki_66, ki_74, ki_140, ki_174, ki_179, ki_184, ki_189, ki_441, ix1, ix2, nI_add, pk_mul]; with_reducible rfl) | rfl); (case hlt => first | decide | omega); (case hn => first | decide | omega); (case hN => assumption); (case hg => rfl))
        refine mT_s rfl rfl ?_
        (apply mT_getf; (case hc => rfl); (case ha => first | rfl | assumption); (case hf => first | rfl | assumption))
        refine mT_s rfl rfl ?_
        (apply mT_getf; (case hc => rfl); (case ha => first | rfl | assumption); (case hf => first | rfl | assumption))
        iterate 2 refine mT_s rfl rfl ?_
        (apply mT_putfN; (case hc => rfl); (case ha => first | rfl | assumption); (case hN => assumption); (case hg => rfl))
        refine mT_s rfl rfl ?_
        (apply mT_getf; (case hc => rfl); (case ha => first | rfl | assumption); (case hf => first | rfl | assumption))
        (apply mT_getf; (case hc => rfl); (case ha => first | rfl | assumption); (case hf => first | rfl | assumption))
        refine mT_ret rfl rfl ?_
        rw [ix3, nI_1]
        refine k a b ha hb ix1x ix2x va vb hab c2 c40 _ (upd i 4 (nI (nb + 1))) (fun a z => by rw [m_up_n (show a ≠ 21 by omega), m_up_n (show a ≠ 28 by omega), m_up_n (show a ≠ 27 by omega)]) (X.u (fun a z => by rw [m_up_n (show a ≠ 21 by omega), m_up_n (show a ≠ 28 by omega), m_up_n (show a ≠ 27 by omega)]) rfl (rA_s (rAr_c rfl hK) (fun j hj => by simp (disch := omega) only [upd_n])) (rA_s (rAr_c rfl hV5) (fun j hj => by simp (disch := omega) only [upd_n])) (rA_s (rAr_c rfl hW) (fun j hj => by simp (disch := omega) only [upd_n])) h9 (rA_s (rAr_c rfl XM) (fun j hj => by simp (disch := omega) only [upd_n])) (rA_s (rAr_c rfl XT) (fun j hj => by simp (disch := omega) only [upd_n])) (rA_s (rAr_c rfl XA) (fun j hj => by simp (disch := omega) only [upd_n])) ⟨_, rfl, fun j hj => by
          by_cases z : j = nb
          · subst z; rw [upd_s, updM_s]; exact ix2x
          · rw [upd_n _ _ z, updM_n _ z]; exact eb j (by omega)⟩ ⟨_, rfl, fun j hj => by
          by_cases z : j = nb
          · subst z; rw [upd_s, updM_s]; exact ix1x
          · rw [upd_n _ _ z, updM_n _ z]; exact el j (by omega)⟩ ⟨?_, ?_, ?_, ?_, ?_, ?_⟩)
        all_goals first | rfl | (simp (disch := omega) only [upd_n, upd_s]; first | assumption | rfl)
      · rw [ix3] at c40
        have c40 : nb = 8 := by
          rcases Nat.lt_or_ge nb 8 with z | z
          · exact absurd (nI_lt (b := 8) z (by omega)) c40
          · omega
        refine mT_s rfl rfl ?_
        refine mT_ret rfl rfl ?_
        exact kF c2 va vb (fun z => hab (by rw [ix1, ix2] at z; exact (nI_eq (by omega) (by omega)).mp z)) c40
  · refine mT_s rfl rfl ?_
    (apply mT_getf; (case hc => rfl); (case ha => first | rfl | assumption); (case hf => first | rfl | assumption))
    refine mT_s rfl rfl ?_
    (apply mT_putfN; (case hc => rfl); (case ha => first | rfl | assumption); (case hN => assumption); (case hg => rfl))
    refine mT_s rfl rfl ?_
    refine mT_ret rfl rfl ?_
    refine kR c2 _ (upd i 4 0) (fun a z => by rw [m_up_n (show a ≠ 21 by omega)]) (X.u (fun a z => by rw [m_up_n (show a ≠ 21 by omega)]) rfl (rA_s (rAr_c rfl hK) (fun j hj => by simp (disch := omega) only [upd_n])) (rA_s (rAr_c rfl hV5) (fun j hj => by simp (disch := omega) only [upd_n])) (rA_s (rAr_c rfl hW) (fun j hj => by simp (disch := omega) only [upd_n])) h9 (rA_s (rAr_c rfl XM) (fun j hj => by simp (disch := omega) only [upd_n])) (rA_s (rAr_c rfl XT) (fun j hj => by simp (disch := omega) only [upd_n])) (rA_s (rAr_c rfl XA) (fun j hj => by simp (disch := omega) only [upd_n])) ⟨fb, hb, fun j hj => absurd hj (by omega)⟩ ⟨fl, hfl, fun j hj => absurd hj (by omega)⟩ ⟨?_, ?_, ?_, ?_, ?_, ?_⟩)
    all_goals first | rfl | (simp (disch := omega) only [upd_n, upd_s]; first | assumption | rfl)
