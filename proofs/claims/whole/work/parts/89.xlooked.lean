/-! By program (wip/whole/book*.py) and hand. -/
theorem x_saysP (d : Nat) (h : mH) (Q : Option Value → mH → Prop) (it : Int32) (hX : h 20 = .inr (9, xObj it)) (i : Nat → Int32) (iv : Value) (s : Nat → Int32) (hI : s_Inv s) (l : List Tok) (le mo nb : Nat) (bA bB : Nat → Nat) (bW : Nat → Bool) (X : XR 21 h i iv s l le mo nb (b_w bA bB bW) (b_w bB bA bW))  (hle : le ≤ 99) (hmo : mo ≤ 99) (hbk : ∀ k, k < nb → bA k < 5 ∧ bB k < 5 ∧ bA k ≠ bB k) (hnb : nb ≤ 8) (hnb8 : s 8 = nI nb) (hM41 : rSh 41 h) (mm : Nat → Nat) (g : Nat) (hmm : ∀ j, j < 5 → mm j ≤ 20) (hs : s_at s mm g = s) (hg : g ≤ 9999) (x : Int32) (kN : ¬ okP s x → Q (some (.int (-1))) h) (k : ∀ p : Nat, p < 5 → x = nI p → okP s x → ∀ h2, (∀ c, c < 41 ∨ 50 < c → h2 c = h c) → rSh 41 h2 → XR 21 h2 i iv s l le mo nb (b_w bA bB bW) (b_w bB bA bW) → Q (some (.int (nI ((nBk le mo bA bB bW mm nb) p)))) h2) : mT0 (d + 4) z_X9_says 0 (m_init z_X9_says [.ref 20, .int x]) [] h Q := by
  obtain ⟨B, XM, XT, XA, XB, XL, i0, i1, i2, i3, i4, i5⟩ := id X
  obtain ⟨hR, hN, hV, hwt, hK, hV5, hW, h9⟩ := id B
  obtain ⟨n9, hn5, hn6⟩ := hI.1
  have hi0 := i0.trans hn6
  obtain ⟨fk, hk, ek⟩ := id hK
  obtain ⟨fv, hv, ev⟩ := id hV5
  obtain ⟨fm, hm, em⟩ := id XM
  obtain ⟨fw, hw, ew⟩ := id hW
  obtain ⟨ft, ht, et⟩ := id XT
  obtain ⟨fa, hfa, ea⟩ := id XA
  obtain ⟨fb, hb, eb⟩ := id XB
  obtain ⟨fl, hfl, el⟩ := id XL
  have M : rMn 21 h mm := ⟨fm, hm, fun j hj => (em j hj).trans (by rw [← s_at_m s mm g hj, hs])⟩
  have hg1 : i 1 = nI g := i1.trans (by rw [← hs]; rfl)
  obtain ⟨t41, tv41, tR41⟩ := hM41.1
  iterate 2 refine mT_s rfl rfl ?_
  (apply mT_inv; (case hc => rfl); (case hd => rfl); (case hb => first | rfl | assumption); (case hg => rfl))
  refine x_isNobody _ h _ it hX i iv hR s n9 hn5 hn6 hi0 _ (fun v2 => ?_) (fun p hp ix1 v2 => ?_)
  · iterate 2 refine mT_s rfl rfl ?_
    refine mT_ret rfl rfl ?_
    exact kN v2
  · iterate 2 refine mT_s rfl rfl ?_
    (apply mT_getf; (case hc => rfl); (case ha => first | rfl | assumption); (case hf => first | rfl | assumption))
    refine mT_s rfl rfl ?_
    (apply mT_getf; (case hc => rfl); (case ha => first | rfl | assumption); (case hf => first | rfl | assumption))
    (apply mT_inv; (case hc => rfl); (case hd => rfl); (case hb => first | rfl | assumption); (case hg => rfl))
    refine x_becomes_41_21 _ h _ i iv s l le mo nb hnb _ _ X hM41 (fun h2 i2 f2 X2 => ?_)
    obtain ⟨B2, XM2, -, -, XB2, XL2, j0, j1, -, -, -, -⟩ := id X2
    obtain ⟨fm2, hm2, em2⟩ := id XM2
    have M2 : rMn 41 h2 mm := ⟨fm2, hm2, fun j hj => (em2 j hj).trans (by rw [← s_at_m s mm g hj, hs])⟩
    have hX2 : h2 20 = _ := (f2 20 (by decide)).trans hX
    have hR21 : h2 21 = _ := (f2 21 (by decide)).trans hR
    have hN2 := B2.2.1
    have hg41 : i2 1 = nI (g + 0) := j1.trans (by rw [← hs]; rfl)
    iterate 2 refine mT_s rfl rfl ?_
    rw [ix1]
    exact x_says_L d Q it iv s l le mo hle hmo hbk hnb mm hmm g p hp h2 hX2 i hR21 (i4.trans hnb8) XB2 XL2 (fun h3 i3 f3 B3 M3 => by
      have fh : ∀ c, c < 41 ∨ 50 < c → h3 c = h c := fun c z => (f3 c (by omega) (by omega)).trans (f2 c z)
      have X3 := X.c5 (h2 := h3) (fun c z1 z2 => fh c (by omega)) (by rw [fh 30 (by decide)]; exact h9)
      have S3 := rSh_of B3 M3 X2 (f3 46 (by decide) (by decide)) (f3 47 (by decide) (by decide)) (f3 48 (by decide) (by decide)) (f3 49 (by decide) (by decide))
      exact k p hp ix1 v2 h3 fh S3 X3) nb 0 h2 i2 (by omega) (fun _ _ _ => rfl) B2 M2 hg41

theorem x_looked_L (d : Nat) (Q : Option Value → mH → Prop) (it : Int32) (iv : Value) (s : Nat → Int32) (l : List Tok) (le mo : Nat) (hle : le ≤ 99) (hmo : mo ≤ 99) {nb : Nat} {bA bB : Nat → Nat} {bW : Nat → Bool} (hbk : ∀ k, k < nb → bA k < 5 ∧ bB k < 5 ∧ bA k ≠ bB k) (hnb : nb ≤ 8) (mm : Nat → Nat) (hmm : ∀ j, j < 5 → mm j ≤ 20) (g : Nat) {nt : Nat} {ta : Nat → Nat} (hT : sTa s nt ta) (h0 : mH) (hX0 : h0 20 = .inr (9, xObj it)) (j0 : Nat → Int32) (hR0 : h0 21 = .inr (7, rObj 21 j0 iv)) (hj4 : j0 4 = nI nb) (hb47 : rBk h0 47 nb (b_w bA bB bW)) (hb48 : rBk h0 48 nb (b_w bB bA bW)) (hj5 : j0 5 = nI nt) (ht29 : rAr h0 29 8 66 s) : ∀ (r k : Nat) (h : mH) (i : Nat → Int32), k + r = nt → (∀ c, c ≠ 41 → c ≠ 44 → h c = h0 c) → rBs 41 h i iv s l le mo → rMn 41 h (nBk le mo bA bB bW mm k) → i 1 = nI (g + k) → (∀ h2 i2 m2, (∀ c, c ≠ 41 → c ≠ 44 → h2 c = h0 c) → rBs 41 h2 i2 iv s l le mo → rMn 41 h2 m2 → Q (some (.int (nLook nb (nBk le mo bA bB bW mm) ta r k))) h2) → mT0 (d + 4) z_X9_looked 26 [some (.ref 20), some (.int (nI k))] [] h Q := by
  obtain ⟨fa, ht, ea⟩ := ht29
  intro r
  induction r with
  | zero =>
    intro k h i hk fh B M hi1 K
    have hX : h 20 = _ := (fh 20 (by decide) (by decide)).trans hX0
    have hR1 : h 21 = _ := (fh 21 (by decide) (by decide)).trans hR0
    obtain ⟨hR, hN, -, -, -, -, -, -⟩ := id B
    iterate 2 refine mT_s rfl rfl ?_
    (apply mT_getf; (case hc => rfl); (case ha => first | rfl | assumption); (case hf => first | rfl | assumption))
    (apply mT_getf; (case hc => rfl); (case ha => first | rfl | assumption); (case hf => first | rfl | assumption))
    rw [hj5]
    have ht8 := hT.2.1
    refine mT_icmp_ge rfl (fun _ => ?_) (fun c => absurd (nI_le (by omega) (by omega)) c)
    refine mT_s rfl rfl ?_
    refine mT_ret rfl rfl ?_
    have K := K h i _ fh B M
    exact K
  | succ r ih =>
    intro k h i hk fh B M hi1 K
    have hX : h 20 = _ := (fh 20 (by decide) (by decide)).trans hX0
    have hR1 : h 21 = _ := (fh 21 (by decide) (by decide)).trans hR0
    obtain ⟨hR, hN, -, -, -, -, -, -⟩ := id B
    iterate 2 refine mT_s rfl rfl ?_
    (apply mT_getf; (case hc => rfl); (case ha => first | rfl | assumption); (case hf => first | rfl | assumption))
    (apply mT_getf; (case hc => rfl); (case ha => first | rfl | assumption); (case hf => first | rfl | assumption))
    rw [hj5]
    have ht8 := hT.2.1
    refine mT_icmp_ge rfl (fun c => absurd c (nI_ge (by omega) (by omega))) (fun _ => ?_)
    iterate 2 refine mT_s rfl rfl ?_
    (apply mT_getf; (case hc => rfl); (case ha => first | rfl | assumption); (case hf => first | rfl | assumption))
    (apply mT_getf; (case hc => rfl); (case ha => first | rfl | assumption); (case hf => first | rfl | assumption))
    refine mT_icmp_lt rfl (fun c45 => ?_) (fun c45 => ?_)
    · rw [hj4] at c45
      have c45 : k < nb := (nI_ltI (by omega) (by omega)).mp c45
      refine mT_s rfl rfl ?_
      (apply mT_getf; (case hc => rfl); (case ha => first | rfl | assumption); (case hf => first | rfl | assumption))
      refine mT_s rfl rfl ?_
      (apply mT_inv; (case hc => rfl); (case hd => rfl); (case hb => first | rfl | assumption); (case hg => rfl))
      refine x_gameOfBook _ h _ i iv s l le mo B hle hmo hbk (rBk_c (fh 47 (by decide) (by decide)) hb47) (rBk_c (fh 48 (by decide) (by decide)) hb48) hnb (nBk le mo bA bB bW mm k) M (nBk_le (fun k hk => ⟨(hbk k hk).1, (hbk k hk).2.1⟩) hmm k (by omega)) (g + k) hi1 k (by omega) (fun h2 f2 B2 M2 => ?_)
      obtain ⟨fm2, hm2, em2⟩ := id M2
      have hX2 : h2 20 = _ := (f2 20 (by decide) (by decide)).trans hX
      have hR12 : h2 21 = _ := (f2 21 (by decide) (by decide)).trans hR1
      have ht2 : h2 29 = _ := (f2 29 (by decide) (by decide)).trans ((fh 29 (by decide) (by decide)).trans ht)
      have hN2 := B2.2.1
      have hR2 := B2.1
      refine mT_s rfl rfl ?_
      (apply mT_getf; (case hc => rfl); (case ha => first | rfl | assumption); (case hf => first | rfl | assumption))
      (apply mT_getf; (case hc => rfl); (case ha => first | rfl | assumption); (case hf => first | rfl | assumption))
      refine mT_s rfl rfl ?_
      (apply mT_ialdK; (case hc => rfl); (case ha => first | rfl | assumption); (case hk => first | (simp only [ki_0, ki_1, ki_2, ki_3, ki_4, ki_5, ki_6, ki_7, ki_8, ki_9, ki_10, ki_11, ki_12, ki_17, ki_20, ki_21, ki_22, ki_42, ki_50, ki_58, ki_66, ki_74, ki_140, ki_174, ki_179, ki_184, ki_189, ki_441, nI_add, pk_mul]; with_reducible rfl) | (simp only [ki_0, ki_1, ki_2, ki_3, ki_4, ki_5, ki_6, ki_7, ki_8, ki_9, ki_10, ki_11, ki_12, ki_17, ki_20, ki_21, ki_22, ki_42, ki_50, ki_58, ki_66, ki_74, ki_140, ki_174, ki_179, ki_184, ki_189, ki_441, ix1, nI_add, pk_mul]; with_reducible rfl) | (simp only [ki_0, ki_1, ki_2, ki_3, ki_4, ki_5, ki_6, ki_7, ki_8, ki_9, ki_10, ki_11, ki_12, ki_17, ki_20, ki_21, ki_22, ki_42, ki_50, ki_58, ki_66, ki_74, ki_140, ki_174, ki_179, ki_184, ki_189, ki_441, ix1, ix2, nI_add, pk_mul]; with_reducible rfl) | (simp only [ki_0, ki_1, ki_2, ki_3, ki_4, ki_5, ki_6, ki_7, ki_8, ki_9, ki_10, ki_11, ki_12, ki_17, ki_20, ki_21, ki_22, ki_42, ki_50, ki_58, ki_66, ki_74, ki_140, ki_174, ki_179, ki_184, ki_189, ki_441, ix1, ix2, ix3, nI_add, pk_mul]; with_reducible rfl) | (simp (disch := omega) only [upd_n, ki_0, ki_1, ki_2, ki_3, ki_4, ki_5, ki_6, ki_7, ki_8, ki_9, ki_10, ki_11, ki_12, ki_17, ki_20, ki_21, ki_22, ki_42, ki_50, ki_58, ki_66, ki_74, ki_140, ki_174, ki_179, ki_184, ki_189, ki_441, ix1, nI_add, pk_mul]; with_reducible rfl) | (simp (disch := omega) only [upd_n, ki_0, ki_1, ki_2, ki_3, ki_4, ki_5, ki_6, ki_7, ki_8, ki_9, ki_10, ki_11, ki_12, ki_17, ki_20, ki_21, ki_22, ki_42, ki_50, ki_58, ki_66, ki_74, ki_140, ki_174, ki_179, ki_184, ki_189, ki_441, ix1, ix2, nI_add, pk_mul]; with_reducible rfl) | rfl); (case hlt => first | decide | omega); (case hn => first | decide | omega))
      refine mT_s rfl rfl ?_
      (apply mT_getf; (case hc => rfl); (case ha => first | rfl | assumption); (case hf => first | rfl | assumption))
      (apply mT_getf; (case hc => rfl); (case ha => first | rfl | assumption); (case hf => first | rfl | assumption))
      refine mT_s rfl rfl ?_
      (apply mT_ialdK; (case hc => rfl); (case ha => first | rfl | assumption); (case hk => first | (simp only [ki_0, ki_1, ki_2, ki_3, ki_4, ki_5, ki_6, ki_7, ki_8, ki_9, ki_10, ki_11, ki_12, ki_17, ki_20, ki_21, ki_22, ki_42, ki_50, ki_58, ki_66, ki_74, ki_140, ki_174, ki_179, ki_184, ki_189, ki_441, nI_add, pk_mul]; with_reducible rfl) | (simp only [ki_0, ki_1, ki_2, ki_3, ki_4, ki_5, ki_6, ki_7, ki_8, ki_9, ki_10, ki_11, ki_12, ki_17, ki_20, ki_21, ki_22, ki_42, ki_50, ki_58, ki_66, ki_74, ki_140, ki_174, ki_179, ki_184, ki_189, ki_441, ix1, nI_add, pk_mul]; with_reducible rfl) | (simp only [ki_0, ki_1, ki_2, ki_3, ki_4, ki_5, ki_6, ki_7, ki_8, ki_9, ki_10, ki_11, ki_12, ki_17, ki_20, ki_21, ki_22, ki_42, ki_50, ki_58, ki_66, ki_74, ki_140, ki_174, ki_179, ki_184, ki_189, ki_441, ix1, ix2, nI_add, pk_mul]; with_reducible rfl) | (simp only [ki_0, ki_1, ki_2, ki_3, ki_4, ki_5, ki_6, ki_7, ki_8, ki_9, ki_10, ki_11, ki_12, ki_17, ki_20, ki_21, ki_22, ki_42, ki_50, ki_58, ki_66, ki_74, ki_140, ki_174, ki_179, ki_184, ki_189, ki_441, ix1, ix2, ix3, nI_add, pk_mul]; with_reducible rfl) | (simp (disch := omega) only [upd_n, ki_0, ki_1, ki_2, ki_3, ki_4, ki_5, ki_6, ki_7, ki_8, ki_9, ki_10, ki_11, ki_12, ki_17, ki_20, ki_21, ki_22, ki_42, ki_50, ki_58, ki_66, ki_74, ki_140, ki_174, ki_179, ki_184, ki_189, ki_441, ix1, nI_add, pk_mul]; with_reducible rfl) | (simp (disch := omega) only [upd_n, ki_0, ki_1, ki_2, ki_3, ki_4, ki_5, ki_6, ki_7, ki_8, ki_9, ki_10, ki_11, ki_12, ki_17, ki_20, ki_21, ki_22, ki_42, ki_50, ki_58, ki_66, ki_74, ki_140, ki_174, ki_179, ki_184, ki_189, ki_441, ix1, ix2, nI_add, pk_mul]; with_reducible rfl) | rfl); (case hlt => first | decide | omega); (case hn => first | decide | omega))
      refine mT_icmp_eq rfl (fun c76 => ?_) (fun c76 => ?_)
      · have c76 : nBk le mo bA bB bW mm (k + 1) 0 = ta k := by
          have := hT.2.2 k (by omega)
          have hmk := nBk_le (le := le) (mo := mo) (bW := bW) (fun k hk => ⟨(hbk k hk).1, (hbk k hk).2.1⟩) hmm (k + 1) (by omega) 0 (by decide)
          rw [em2 0 (by decide), ea k (by omega), this.1] at c76
          exact (nI_eq (by exact Nat.lt_of_le_of_lt hmk (by decide)) (by omega)).mp c76
        iterate 2 refine mT_s rfl rfl ?_
        unfold nLook at K
        rw [if_neg (show ¬ nb ≤ k by omega), if_pos c76] at K
        rw [nI_1]
        exact ih (k + 1) h2 _ (by omega) (fun c x y => (f2 c x y).trans (fh c x y)) B2 ⟨fm2, hm2, em2⟩ (upd_s _ _ _) K
      · have c76 : ¬ nBk le mo bA bB bW mm (k + 1) 0 = ta k := by
          intro z
          have := hT.2.2 k (by omega)
          refine c76 ?_
          rw [em2 0 (by decide), ea k (by omega), this.1]
          exact congrArg nI z
        refine mT_s rfl rfl ?_
        refine mT_ret rfl rfl ?_
        have K := K h2 _ _ (fun c x y => (f2 c x y).trans (fh c x y)) B2 ⟨fm2, hm2, em2⟩
        unfold nLook at K
        rw [if_neg (show ¬ nb ≤ k by omega), if_neg c76] at K
        exact K
    · rw [hj4] at c45
      have c45 : nb ≤ k := by
        rcases Nat.lt_or_ge k nb with z | z
        · exact absurd (nI_lt z (by omega)) c45
        · exact z
      refine mT_s rfl rfl ?_
      refine mT_ret rfl rfl ?_
      have K := K h i _ fh B M
      unfold nLook at K
      rw [if_pos c45] at K
      exact K