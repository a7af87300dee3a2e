/-! By program (wip/whole/book*.py) and hand. -/
theorem lt_4 {x : Int32} : x < 4 ↔ x ≤ 3 := by
  rw [Int32.lt_iff_toInt_lt, Int32.le_iff_toInt_le, show (4 : Int32).toInt = 4 from rfl, show (3 : Int32).toInt = 3 from rfl]
  omega
theorem XR.q {h h2 : mH} {i : Nat → Int32} {iv : Value} {s : Nat → Int32} {l : List Tok} {le mo nb : Nat} {wi lo : Nat → Nat} (X : XR 21 h i iv s l le mo nb wi lo) (r : rQ 30 h h2) : XR 21 h2 i iv s l le mo nb wi lo := by
  obtain ⟨B, XM, XT, XA, XB, XL, hi⟩ := X
  exact ⟨B.c (by decide) r.1 r.2, rAr_c (r.1 _ (by decide)) XM, rAr_c (r.1 _ (by decide)) XT, rAr_c (r.1 _ (by decide)) XA, rBk_c (r.1 _ (by decide)) XB, rBk_c (r.1 _ (by decide)) XL, hi⟩
theorem x_row (d : Nat) (h : mH) (Q : Option Value → mH → Prop) (it : Int32) (hX : h 20 = .inr (9, xObj it)) (i : Nat → Int32) (iv : Value) (s : Nat → Int32) (hI : s_Inv s) (l : List Tok) (le mo nb : Nat) (wi lo : Nat → Nat) (X : XR 21 h i iv s l le mo nb wi lo)  (p k x : Int32) (K : ∀ h2 i2, (∀ a, a ≤ 20 ∨ 31 ≤ a → h2 a = h a) → XR 21 h2 i2 iv (f_row s p k x).2 l le mo nb wi lo → Q (some (.int (f_row s p k x).1)) h2) : mT0 (d + 1) z_X9_row 0 (m_init z_X9_row [.ref 20, .int p, .int k, .int x]) [] h Q := by
  obtain ⟨B, XM, XT, XA, XB, XL, i0, i1, i2, i3, i4, i5⟩ := id X
  obtain ⟨hR, hN, hV, hwt, hK, hV5, hW, h9⟩ := id B
  obtain ⟨n, hn5, hn6⟩ := hI.1
  have hi0 := i0.trans hn6
  obtain ⟨fk, hk, ek⟩ := id hK
  obtain ⟨fv, hv, ev⟩ := id hV5
  obtain ⟨fm, hm, em⟩ := id XM
  obtain ⟨fw, hw, ew⟩ := id hW
  obtain ⟨ft, ht, et⟩ := id XT
  obtain ⟨fa, hfa, ea⟩ := id XA
  obtain ⟨fb, hb, eb⟩ := id XB
  obtain ⟨fl, hfl, el⟩ := id XL
  iterate 2 refine mT_s rfl rfl ?_
  (apply mT_inv; (case hc => rfl); (case hd => rfl); (case hb => first | rfl | assumption); (case hg => rfl))
  refine x_isNobody _ h _ it hX i iv hR s n hn5 hn6 hi0 _ (fun v2 => ?_) (fun j2 hj2 ix1 v2 => ?_)
  · iterate 2 refine mT_s rfl rfl ?_
    refine mT_ret rfl rfl ?_
    unfold f_row at K
    rw [if_neg v2] at K
    exact K h i (fun _ _ => rfl) X
  · iterate 2 refine mT_s rfl rfl ?_
    refine mT_if_lt rfl (fun c9 => ?_) (fun c9 => ?_)
    · refine mT_s rfl rfl ?_
      refine mT_ret rfl rfl ?_
      unfold f_row at K
      rw [if_pos v2, if_neg (fun z => absurd c9 (Int32.not_lt.mpr z.1))] at K
      exact K h i (fun _ _ => rfl) X
    · iterate 2 refine mT_s rfl rfl ?_
      refine mT_icmp_lt rfl (fun c14 => ?_) (fun c14 => ?_)
      · have hk3 : 0 ≤ k ∧ k ≤ 3 := ⟨Int32.not_lt.mp c9, lt_4.mp c14⟩
        obtain ⟨k9, hk9, ix2⟩ := i_nat (n := 3) hk3.1 hk3.2 (by omega)
        refine mT_s rfl rfl ?_
        refine mT_if_lt rfl (fun c20 => ?_) (fun c20 => ?_)
        · refine mT_s rfl rfl ?_
          refine mT_ret rfl rfl ?_
          unfold f_row at K
          rw [if_pos v2, if_pos hk3, if_neg (fun z => absurd c20 (Int32.not_lt.mpr z.1))] at K
          exact K h i (fun _ _ => rfl) X
        · iterate 2 refine mT_s rfl rfl ?_
          refine mT_icmp_le rfl (fun c26 => ?_) (fun c26 => ?_)
          · refine mT_s rfl rfl ?_
            (apply mT_getf; (case hc => rfl); (case ha => first | rfl | assumption); (case hf => first | rfl | assumption))
            (apply mT_getf; (case hc => rfl); (case ha => first | rfl | assumption); (case hf => first | rfl | assumption))
            refine mT_s rfl rfl ?_
            (apply mT_ialdK; (case hc => rfl); (case ha => first | rfl | assumption); (case hk => first | (simp only [ki_0, ki_1, ki_2, ki_3, ki_4, ki_5, ki_6, ki_7, ki_8, ki_9, ki_10, ki_11, ki_12, ki_17, ki_20, ki_21, ki_22, ki_42, ki_50, ki_58, ki_66, ki_74, ki_140, ki_174, ki_179, ki_184, ki_189, ki_441, nI_add, pk_mul]; with_reducible rfl) | (simp only [ki_0, ki_1, ki_2, ki_3, ki_4, ki_5, ki_6, ki_7, ki_8, ki_9, ki_10, ki_11, ki_12, ki_17, ki_20, ki_21, ki_22, ki_42, ki_50, ki_58, ki_66, ki_74, ki_140, ki_174, ki_179, ki_184, ki_189, ki_441, ix1, nI_add, pk_mul]; with_reducible rfl) | (simp only [ki_0, ki_1, ki_2, ki_3, ki_4, ki_5, ki_6, ki_7, ki_8, ki_9, ki_10, ki_11, ki_12, ki_17, ki_20, ki_21, ki_22, ki_42, ki_50, ki_58, ki_66, ki_74, ki_140, ki_174, ki_179, ki_184, ki_189, ki_441, ix1, ix2, nI_add, pk_mul]; with_reducible rfl) | (simp only [ki_0, ki_1, ki_2, ki_3, ki_4, ki_5, ki_6, ki_7, ki_8, ki_9, ki_10, ki_11, ki_12, ki_17, ki_20, ki_21, ki_22, ki_42, ki_50, ki_58, ki_66, ki_74, ki_140, ki_174, ki_179, ki_184, ki_189, ki_441, ix1, ix2, ix3, nI_add, pk_mul]; with_reducible rfl) | (simp (disch := omega) only [upd_n, ki_0, ki_1, ki_2, ki_3, ki_4, ki_5, ki_6, ki_7, ki_8, ki_9, ki_10, ki_11, ki_12, ki_17, ki_20, ki_21, ki_22, ki_42, ki_50, ki_58, ki_66, ki_74, ki_140, ki_174, ki_179, ki_184, ki_189, ki_441, ix1, nI_add, pk_mul]; with_reducible rfl) | (simp (disch := omega) only [upd_n, ki_0, ki_1, ki_2, ki_3, ki_4, ki_5, ki_6, ki_7, ki_8, ki_9, ki_10, ki_11, ki_12, ki_17, ki_20, ki_21, ki_22, ki_42, ki_50, ki_58, ki_66, ki_74, ki_140, ki_174, ki_179, ki_184, ki_189, ki_441, ix1, ix2, nI_add, pk_mul]; with_reducible rfl) | rfl); (case hlt => first | decide | omega); (case hn => first | decide | omega))
            refine mT_s rfl rfl ?_
            refine mT_icmp_eq rfl (fun c43 => ?_) (fun c43 => ?_)
            · rw [ek j2 hj2] at c43
              refine mT_s rfl rfl ?_
              (apply mT_getf; (case hc => rfl); (case ha => first | rfl | assumption); (case hf => first | rfl | assumption))
              (apply mT_getf; (case hc => rfl); (case ha => first | rfl | assumption); (case hf => first | rfl | assumption))
              iterate 5 refine mT_s rfl rfl ?_
              (apply mT_ialdK; (case hc => rfl); (case ha => first | rfl | assumption); (case hk => first | (simp only [ki_0, ki_1, ki_2, ki_3, ki_4, ki_5, ki_6, ki_7, ki_8, ki_9, ki_10, ki_11, ki_12, ki_17, ki_20, ki_21, ki_22, ki_42, ki_50, ki_58, ki_66, ki_74, ki_140, ki_174, ki_179, ki_184, ki_189, ki_441, nI_add, pk_mul]; with_reducible rfl) | (simp only [ki_0, ki_1, ki_2, ki_3, ki_4, ki_5, ki_6, ki_7, ki_8, ki_9, ki_10, ki_11, ki_12, ki_17, ki_20, ki_21, ki_22, ki_42, ki_50, ki_58, ki_66, ki_74, ki_140, ki_174, ki_179, ki_184, ki_189, ki_441, ix1, nI_add, pk_mul]; with_reducible rfl) | (simp only [ki_0, ki_1, ki_2, ki_3, ki_4, ki_5, ki_6, ki_7, ki_8, ki_9, ki_10, ki_11, ki_12, ki_17, ki_20, ki_21, ki_22, ki_42, ki_50, ki_58, ki_66, ki_74, ki_140, ki_174, ki_179, ki_184, ki_189, ki_441, ix1, ix2, nI_add, pk_mul]; with_reducible rfl) | (simp only [ki_0, ki_1, ki_2, ki_3, ki_4, ki_5, ki_6, ki_7, ki_8, ki_9, ki_10, ki_11, ki_12, ki_17, ki_20, ki_21, ki_22, ki_42, ki_50, ki_58, ki_66, ki_74, ki_140, ki_174, ki_179, ki_184, ki_189, ki_441, ix1, ix2, ix3, nI_add, pk_mul]; with_reducible rfl) | (simp (disch := omega) only [upd_n, ki_0, ki_1, ki_2, ki_3, ki_4, ki_5, ki_6, ki_7, ki_8, ki_9, ki_10, ki_11, ki_12, ki_17, ki_20, ki_21, ki_22, ki_42, ki_50, ki_58, ki_66, ki_74, ki_140, ki_174, ki_179, ki_184, ki_189, ki_441, ix1, nI_add, pk_mul]; with_reducible rfl) | (simp (disch := omega) only [upd_n, ki_0, ki_1, ki_2, ki_3, ki_4, ki_5, ki_6, ki_7, ki_8, ki_9, ki_10, ki_11, ki_12, ki_17, ki_20, ki_21, ki_22, ki_42, ki_50, ki_58, ki_66, ki_74, ki_140, ki_174, ki_179, ki_184, ki_189, ki_441, ix1, ix2, nI_add, pk_mul]; with_reducible rfl) | rfl); (case hlt => first | decide | omega); (case hn => first | decide | omega))
              iterate 2 refine mT_s rfl rfl ?_
              (apply mT_getf; (case hc => rfl); (case ha => first | rfl | assumption); (case hf => first | rfl | assumption))
              (apply mT_getf; (case hc => rfl); (case ha => first | rfl | assumption); (case hf => first | rfl | assumption))
              iterate 6 refine mT_s rfl rfl ?_
              (apply mT_iastK; (case hc => rfl); (case ha => first | rfl | assumption); (case hk => first | (simp only [ki_0, ki_1, ki_2, ki_3, ki_4, ki_5, ki_6, ki_7, ki_8, ki_9, ki_10, ki_11, ki_12, ki_17, ki_20, ki_21, ki_22, ki_42, ki_50, ki_58, ki_66, ki_74, ki_140, ki_174, ki_179, ki_184, ki_189, ki_441, nI_add, pk_mul]; with_reducible rfl) | (simp only [ki_0, ki_1, ki_2, ki_3, ki_4, ki_5, ki_6, ki_7, ki_8, ki_9, ki_10, ki_11, ki_12, ki_17, ki_20, ki_21, ki_22, ki_42, ki_50, ki_58, ki_66, ki_74, ki_140, ki_174, ki_179, ki_184, ki_189, ki_441, ix1, nI_add, pk_mul]; with_reducible rfl) | (simp only [ki_0, ki_1, ki_2, ki_3, ki_4, ki_5, ki_6, ki_7, ki_8, ki_9, ki_10, ki_11, ki_12, ki_17, ki_20, ki_21, ki_22, ki_42, ki_50, ki_58, ki_66, ki_74, ki_140, ki_174, ki_179, ki_184, ki_189, ki_441, ix1, ix2, nI_add, pk_mul]; with_reducible rfl) | (simp only [ki_0, ki_1, ki_2, ki_3, ki_4, ki_5, ki_6, ki_7, ki_8, ki_9, ki_10, ki_11, ki_12, ki_17, ki_20, ki_21, ki_22, ki_42, ki_50, ki_58, ki_66, ki_74, ki_140, ki_174, ki_179, ki_184, ki_189, ki_441, ix1, ix2, ix3, nI_add, pk_mul]; with_reducible rfl) | (simp (disch := omega) only [upd_n, ki_0, ki_1, ki_2, ki_3, ki_4, ki_5, ki_6, ki_7, ki_8, ki_9, ki_10, ki_11, ki_12, ki_17, ki_20, ki_21, ki_22, ki_42, ki_50, ki_58, ki_66, ki_74, ki_140, ki_174, ki_179, ki_184, ki_189, ki_441, ix1, nI_add, pk_mul]; with_reducible rfl) | (simp (disch := omega) only [upd_n, ki_0, ki_1, ki_2, ki_3, ki_4, ki_5, ki_6, ki_7, ki_8, ki_9, ki_10, ki_11, ki_12, ki_17, ki_20, ki_21, ki_22, ki_42, ki_50, ki_58, ki_66, ki_74, ki_140, ki_174, ki_179, ki_184, ki_189, ki_441, ix1, ix2, nI_add, pk_mul]; with_reducible rfl) | rfl); (case hlt => first | decide | omega); (case hn => first | decide | omega); (case hN => assumption); (case hg => rfl))
              refine mT_s rfl rfl ?_
              refine mT_ret rfl rfl ?_
              unfold f_row at K
              rw [if_pos v2, if_pos hk3, if_pos ⟨Int32.not_lt.mp c20, c26⟩, ix1, i_cl j2 (by omega), if_pos c43, ix2, i_cl k9 (by omega), show 22 + 4 * j2 + k9 = 22 + (j2 * 4 + k9) by omega] at K
              dsimp only at K
              rw [ew (j2 * 4 + k9) (by omega)]
              refine K _ i (fun a z => by rw [m_up_n (show a ≠ 25 by omega)]) (X.u (fun a z => by rw [m_up_n (show a ≠ 25 by omega)]) hR (rA_s (rAr_c rfl hK) (fun j hj => by simp (disch := omega) only [upd_n])) (rA_s (rAr_c rfl hV5) (fun j hj => by simp (disch := omega) only [upd_n])) (rA_u ew rfl (upd_s _ _ _) (fun j hj e => by simp (disch := omega) only [upd_n])) h9 (rA_s (rAr_c rfl XM) (fun j hj => by simp (disch := omega) only [upd_n])) (rA_s (rAr_c rfl XT) (fun j hj => by simp (disch := omega) only [upd_n])) (rA_s (rAr_c rfl XA) (fun j hj => by simp (disch := omega) only [upd_n])) (rBk_c rfl XB) (rBk_c rfl XL) ⟨?_, ?_, ?_, ?_, ?_, ?_⟩)
              all_goals first | rfl | (simp (disch := omega) only [upd_n]; assumption)
            · rw [ek j2 hj2] at c43
              refine mT_s rfl rfl ?_
              refine mT_ret rfl rfl ?_
              unfold f_row at K
              rw [if_pos v2, if_pos hk3, if_pos ⟨Int32.not_lt.mp c20, c26⟩, ix1, i_cl j2 (by omega), if_neg c43] at K
              exact K h i (fun _ _ => rfl) X
          · refine mT_s rfl rfl ?_
            refine mT_ret rfl rfl ?_
            unfold f_row at K
            rw [if_pos v2, if_pos hk3, if_neg (fun z => c26 z.2)] at K
            exact K h i (fun _ _ => rfl) X
      · refine mT_s rfl rfl ?_
        refine mT_ret rfl rfl ?_
        unfold f_row at K
        rw [if_pos v2, if_neg (fun z => c14 (lt_4.mpr z.2))] at K
        exact K h i (fun _ _ => rfl) X

theorem x_tale (d : Nat) (h : mH) (Q : Option Value → mH → Prop) (it : Int32) (hX : h 20 = .inr (9, xObj it)) (i : Nat → Int32) (iv : Value) (s : Nat → Int32) (hI : s_Inv s) (l : List Tok) (le mo nb : Nat) (wi lo : Nat → Nat) (X : XR 21 h i iv s l le mo nb wi lo)  (x : Int32) (K : ∀ h2 i2, (∀ a, a ≤ 20 ∨ 31 ≤ a → h2 a = h a) → XR 21 h2 i2 iv (f_tale s x).2 l le mo nb wi lo → Q (some (.int (f_tale s x).1)) h2) : mT0 (d + 1) z_X9_tale 0 (m_init z_X9_tale [.ref 20, .int x]) [] h Q := by
  obtain ⟨B, XM, XT, XA, XB, XL, i0, i1, i2, i3, i4, i5⟩ := id X
  obtain ⟨hR, hN, hV, hwt, hK, hV5, hW, h9⟩ := id B
  obtain ⟨n, hn5, hn6⟩ := hI.1
  have hi0 := i0.trans hn6
  obtain ⟨fk, hk, ek⟩ := id hK
  obtain ⟨fv, hv, ev⟩ := id hV5
  obtain ⟨fm, hm, em⟩ := id XM
  obtain ⟨fw, hw, ew⟩ := id hW
  obtain ⟨ft, ht, et⟩ := id XT
  obtain ⟨fa, hfa, ea⟩ := id XA
  obtain ⟨fb, hb, eb⟩ := id XB
  obtain ⟨fl, hfl, el⟩ := id XL
  obtain ⟨k, hk2, ix1⟩ := hI.2.2.2.1
  have ix2 := i5.trans ix1
  iterate 2 refine mT_s rfl rfl ?_
  refine mT_icmp_ne rfl (fun c2 => ?_) (fun c2 => ?_)
  · refine mT_s rfl rfl ?_
    refine mT_c rfl rfl ?_
    refine x_isNoMen _ h _ _ (fun a16 => ?_) (fun a16 b16 => ?_)
    · iterate 2 refine mT_s rfl rfl ?_
      refine mT_ret rfl rfl ?_
      unfold f_tale at K
      rw [if_neg c2, if_neg a16] at K
      exact K h i (fun _ _ => rfl) X
    · iterate 2 refine mT_s rfl rfl ?_
      (apply mT_getf; (case hc => rfl); (case ha => first | rfl | assumption); (case hf => first | rfl | assumption))
      (apply mT_getf; (case hc => rfl); (case ha => first | rfl | assumption); (case hf => first | rfl | assumption))
      refine mT_s rfl rfl ?_
      refine mT_icmp_lt rfl (fun c34 => ?_) (fun c34 => ?_)
      · have hk100 : k < 8 := by
          rw [ix2] at c34
          exact (nI_ltI (by omega) (by omega)).mp c34
        refine mT_s rfl rfl ?_
        (apply mT_getf; (case hc => rfl); (case ha => first | rfl | assumption); (case hf => first | rfl | assumption))
        (apply mT_getf; (case hc => rfl); (case ha => first | rfl | assumption); (case hf => first | rfl | assumption))
        refine mT_s rfl rfl ?_
        (apply mT_getf; (case hc => rfl); (case ha => first | rfl | assumption); (case hf => first | rfl | assumption))
        (apply mT_getf; (case hc => rfl); (case ha => first | rfl | assumption); (case hf => first | rfl | assumption))
        refine mT_s rfl rfl ?_
        (apply mT_iastK; (case hc => rfl); (case ha => first | rfl | assumption); (case hk => first | (simp only [ki_0, ki_1, ki_2, ki_3, ki_4, ki_5, ki_6, ki_7, ki_8, ki_9, ki_10, ki_11, ki_12, ki_17, ki_20, ki_21, ki_22, ki_42, ki_50, ki_58, ki_66, ki_74, ki_140, ki_174, ki_179, ki_184, ki_189, ki_441, nI_add, pk_mul]; with_reducible rfl) | (simp only [ki_0, ki_1, ki_2, ki_3, ki_4, ki_5, ki_6, ki_7, ki_8, ki_9, ki_10, ki_11, ki_12, ki_17, ki_20, ki_21, ki_22, ki_42, ki_50, ki_58, ki_66, ki_74, ki_140, ki_174, ki_179, ki_184, ki_189, ki_441, ix1, nI_add, pk_mul]; with_reducible rfl) | (simp only [ki_0, ki_1, ki_2, ki_3, ki_4, ki_5, ki_6, ki_7, ki_8, ki_9, ki_10, ki_11, ki_12, ki_17, ki_20, ki_21, ki_22, ki_42, ki_50, ki_58, ki_66, ki_74, ki_140, ki_174, ki_179, ki_184, ki_189, ki_441, ix1, ix2, nI_add, pk_mul]; with_reducible rfl) | (simp only [ki_0, ki_1, ki_2, ki_3, ki_4, ki_5, ki_6, ki_7, ki_8, ki_9, ki_10, ki_11, ki_12, ki_17, ki_20, ki_21, ki_22, ki_42, ki_50, ki_58, ki_66, ki_74, ki_140, ki_174, ki_179, ki_184, ki_189, ki_441, ix1, ix2, ix3, nI_add, pk_mul]; with_reducible rfl) | (simp (disch := omega) only [upd_n, ki_0, ki_1, ki_2, ki_3, ki_4, ki_5, ki_6, ki_7, ki_8, ki_9, ki_10, ki_11, ki_12, ki_17, ki_20, ki_21, ki_22, ki_42, ki_50, ki_58, ki_66, ki_74, ki_140, ki_174, ki_179, ki_184, ki_189, ki_441, ix1, nI_add, pk_mul]; with_reducible rfl) | (simp (disch := omega) only [upd_n, ki_0, ki_1, ki_2, ki_3, ki_4, ki_5, ki_6, ki_7, ki_8, ki_9, ki_10, ki_11, ki_12, ki_17, ki_20, ki_21, ki_22, ki_42, ki_50, ki_58, ki_66, ki_74, ki_140, ki_174, ki_179, ki_184, ki_189, ki_441, ix1, ix2, nI_add, pk_mul]; with_reducible rfl) | rfl); (case hlt => first | decide | omega); (case hn => first | decide | omega); (case hN => assumption); (case hg => rfl))
        refine mT_s rfl rfl ?_
        (apply mT_getf; (case hc => rfl); (case ha => first | rfl | assumption); (case hf => first | rfl | assumption))
        refine mT_s rfl rfl ?_
        (apply mT_getf; (case hc => rfl); (case ha => first | rfl | assumption); (case hf => first | rfl | assumption))
        iterate 2 refine mT_s rfl rfl ?_
        (apply mT_putfN; (case hc => rfl); (case ha => first | rfl | assumption); (case hN => assumption); (case hg => rfl))
        refine mT_s rfl rfl ?_
        (apply mT_getf; (case hc => rfl); (case ha => first | rfl | assumption); (case hf => first | rfl | assumption))
        (apply mT_getf; (case hc => rfl); (case ha => first | rfl | assumption); (case hf => first | rfl | assumption))
        refine mT_ret rfl rfl ?_
        unfold f_tale at K
        rw [if_neg c2, if_pos ⟨a16, b16⟩, if_neg (fun z => by rw [ix1] at z; have := (nI_eq (b := 8) (by omega) (by omega)).mp z; omega), show (s 9).toNatClampNeg = k by rw [ix1, i_cl k (by omega)]] at K
        dsimp only at K
        rw [i5]
        refine K _ (upd i 5 (s 9 + 1)) (fun a z => by rw [m_up_n (show a ≠ 21 by omega), m_up_n (show a ≠ 29 by omega)]) (X.u (fun a z => by rw [m_up_n (show a ≠ 21 by omega), m_up_n (show a ≠ 29 by omega)]) rfl (rA_s (rAr_c rfl hK) (fun j hj => by simp (disch := omega) only [upd_n])) (rA_s (rAr_c rfl hV5) (fun j hj => by simp (disch := omega) only [upd_n])) (rA_s (rAr_c rfl hW) (fun j hj => by simp (disch := omega) only [upd_n])) h9 (rA_s (rAr_c rfl XM) (fun j hj => by simp (disch := omega) only [upd_n])) (rA_s (rAr_c rfl XT) (fun j hj => by simp (disch := omega) only [upd_n])) (rA_u ea rfl (by rw [upd_n _ _ (by omega), upd_s]) (fun j hj e => by simp (disch := omega) only [upd_n])) (rBk_c rfl XB) (rBk_c rfl XL) ⟨?_, ?_, ?_, ?_, ?_, ?_⟩)
        all_goals first | rfl | (simp (disch := omega) only [upd_n]; assumption)
      · have hk100 : k = 8 := by
          rw [ix2] at c34
          rcases Nat.lt_or_ge k 8 with z | z
          · exact absurd (nI_lt (b := 8) z (by omega)) c34
          · omega
        refine mT_s rfl rfl ?_
        refine mT_ret rfl rfl ?_
        unfold f_tale at K
        rw [if_neg c2, if_pos ⟨a16, b16⟩, if_pos (by rw [ix1, hk100]; rfl)] at K
        exact K h i (fun _ _ => rfl) X
  · refine mT_s rfl rfl ?_
    (apply mT_getf; (case hc => rfl); (case ha => first | rfl | assumption); (case hf => first | rfl | assumption))
    refine mT_s rfl rfl ?_
    (apply mT_putfN; (case hc => rfl); (case ha => first | rfl | assumption); (case hN => assumption); (case hg => rfl))
    refine mT_s rfl rfl ?_
    refine mT_ret rfl rfl ?_
    unfold f_tale at K
    rw [if_pos c2] at K
    dsimp only at K
    refine K _ (upd i 5 0) (fun a z => by rw [m_up_n (show a ≠ 21 by omega)]) (X.u (fun a z => by rw [m_up_n (show a ≠ 21 by omega)]) rfl (rA_s (rAr_c rfl hK) (fun j hj => by simp (disch := omega) only [upd_n])) (rA_s (rAr_c rfl hV5) (fun j hj => by simp (disch := omega) only [upd_n])) (rA_s (rAr_c rfl hW) (fun j hj => by simp (disch := omega) only [upd_n])) h9 (rA_s (rAr_c rfl XM) (fun j hj => by simp (disch := omega) only [upd_n])) (rA_s (rAr_c rfl XT) (fun j hj => by simp (disch := omega) only [upd_n])) (rA_s (rAr_c rfl XA) (fun j hj => by simp (disch := omega) only [upd_n])) (rBk_c rfl XB) (rBk_c rfl XL) ⟨?_, ?_, ?_, ?_, ?_, ?_⟩)
    all_goals first | rfl | (simp (disch := omega) only [upd_n]; assumption)

theorem x_pushP (d : Nat) (h : mH) (Q : Option Value → mH → Prop) (it : Int32) (hX : h 20 = .inr (9, xObj it)) (i : Nat → Int32) (iv : Value) (s : Nat → Int32) (hI : s_Inv s) (l : List Tok) (le mo nb : Nat) (wi lo : Nat → Nat) (X : XR 21 h i iv s l le mo nb wi lo)  (mm : Nat → Nat) (g : Nat) (hmm : ∀ j, j < 5 → mm j ≤ 20) (hs : s_at s mm g = s) (hg : g ≤ 9999) (x y : Int32) (kN : ¬ (okP s x ∧ okP s y) → Q (some (.int (-10001))) h) (kB : okP s x → okP s y → x = y → Q (some (.int (-10002))) h) (k : ∀ a b : Nat, a < 5 → b < 5 → x = nI a → y = nI b → okP s x → okP s y → a ≠ b → ∀ h2 i2, (∀ a, a ≤ 20 ∨ 31 ≤ a → h2 a = h a) → XR 21 h2 i2 iv s l le mo nb wi lo → Q (some (.int (a_push s l a (mm a) (mm b) g))) h2) : mT0 (d + 3) z_X9_push 0 (m_init z_X9_push [.ref 20, .int x, .int y]) [] h Q := by
  obtain ⟨B, XM, XT, XA, XB, XL, i0, i1, i2, i3, i4, i5⟩ := id X
  obtain ⟨hR, hN, hV, hwt, hK, hV5, hW, h9⟩ := id B
  obtain ⟨n, hn5, hn6⟩ := hI.1
  have hi0 := i0.trans hn6
  obtain ⟨fk, hk, ek⟩ := id hK
  obtain ⟨fv, hv, ev⟩ := id hV5
  obtain ⟨fm, hm, em⟩ := id XM
  obtain ⟨fw, hw, ew⟩ := id hW
  obtain ⟨ft, ht, et⟩ := id XT
  obtain ⟨fa, hfa, ea⟩ := id XA
  obtain ⟨fb, hb, eb⟩ := id XB
  obtain ⟨fl, hfl, el⟩ := id XL
  have M : rMn 21 h mm := ⟨fm, hm, fun j hj => (em j hj).trans (by rw [← s_at_m s mm g hj, hs])⟩
  have hg1 : i 1 = nI g := i1.trans (by rw [← hs]; rfl)
  iterate 3 refine mT_s rfl rfl ?_
  (apply mT_inv; (case hc => rfl); (case hd => rfl); (case hb => first | rfl | assumption); (case hg => rfl))
  refine x_refusal _ h _ it hX i iv hR s n hn5 hn6 hi0 x y (fun v => ?_) (fun v w e => ?_) (fun a b ha hb ix1 ix2 va vb hab => ?_)
  · iterate 6 refine mT_s rfl rfl ?_
    refine mT_ret rfl rfl ?_
    exact kN v
  · iterate 6 refine mT_s rfl rfl ?_
    refine mT_ret rfl rfl ?_
    exact kB v w e
  · iterate 4 refine mT_s rfl rfl ?_
    (apply mT_getf; (case hc => rfl); (case ha => first | rfl | assumption); (case hf => first | rfl | assumption))
    iterate 2 refine mT_s rfl rfl ?_
    (apply mT_getf; (case hc => rfl); (case ha => first | rfl | assumption); (case hf => first | rfl | assumption))
    (apply mT_getf; (case hc => rfl); (case ha => first | rfl | assumption); (case hf => first | rfl | assumption))
    refine mT_s rfl rfl ?_
    (apply mT_ialdK; (case hc => rfl); (case ha => first | rfl | assumption); (case hk => first | (simp only [ki_0, ki_1, ki_2, ki_3, ki_4, ki_5, ki_6, ki_7, ki_8, ki_9, ki_10, ki_11, ki_12, ki_17, ki_20, ki_21, ki_22, ki_42, ki_50, ki_58, ki_66, ki_74, ki_140, ki_174, ki_179, ki_184, ki_189, ki_441, nI_add, pk_mul]; with_reducible rfl) | (simp only [ki_0, ki_1, ki_2, ki_3, ki_4, ki_5, ki_6, ki_7, ki_8, ki_9, ki_10, ki_11, ki_12, ki_17, ki_20, ki_21, ki_22, ki_42, ki_50, ki_58, ki_66, ki_74, ki_140, ki_174, ki_179, ki_184, ki_189, ki_441, ix1, nI_add, pk_mul]; with_reducible rfl) | (simp only [ki_0, ki_1, ki_2, ki_3, ki_4, ki_5, ki_6, ki_7, ki_8, ki_9, ki_10, ki_11, ki_12, ki_17, ki_20, ki_21, ki_22, ki_42, ki_50, ki_58, ki_66, ki_74, ki_140, ki_174, ki_179, ki_184, ki_189, ki_441, ix1, ix2, nI_add, pk_mul]; with_reducible rfl) | (simp only [ki_0, ki_1, ki_2, ki_3, ki_4, ki_5, ki_6, ki_7, ki_8, ki_9, ki_10, ki_11, ki_12, ki_17, ki_20, ki_21, ki_22, ki_42, ki_50, ki_58, ki_66, ki_74, ki_140, ki_174, ki_179, ki_184, ki_189, ki_441, ix1, ix2, ix3, nI_add, pk_mul]; with_reducible rfl) | (simp (disch := omega) only [upd_n, ki_0, ki_1, ki_2, ki_3, ki_4, ki_5, ki_6, ki_7, ki_8, ki_9, ki_10, ki_11, ki_12, ki_17, ki_20, ki_21, ki_22, ki_42, ki_50, ki_58, ki_66, ki_74, ki_140, ki_174, ki_179, ki_184, ki_189, ki_441, ix1, nI_add, pk_mul]; with_reducible rfl) | (simp (disch := omega) only [upd_n, ki_0, ki_1, ki_2, ki_3, ki_4, ki_5, ki_6, ki_7, ki_8, ki_9, ki_10, ki_11, ki_12, ki_17, ki_20, ki_21, ki_22, ki_42, ki_50, ki_58, ki_66, ki_74, ki_140, ki_174, ki_179, ki_184, ki_189, ki_441, ix1, ix2, nI_add, pk_mul]; with_reducible rfl) | rfl); (case hlt => first | decide | omega); (case hn => first | decide | omega))
    refine mT_s rfl rfl ?_
    (apply mT_getf; (case hc => rfl); (case ha => first | rfl | assumption); (case hf => first | rfl | assumption))
    (apply mT_getf; (case hc => rfl); (case ha => first | rfl | assumption); (case hf => first | rfl | assumption))
    refine mT_s rfl rfl ?_
    (apply mT_ialdK; (case hc => rfl); (case ha => first | rfl | assumption); (case hk => first | (simp only [ki_0, ki_1, ki_2, ki_3, ki_4, ki_5, ki_6, ki_7, ki_8, ki_9, ki_10, ki_11, ki_12, ki_17, ki_20, ki_21, ki_22, ki_42, ki_50, ki_58, ki_66, ki_74, ki_140, ki_174, ki_179, ki_184, ki_189, ki_441, nI_add, pk_mul]; with_reducible rfl) | (simp only [ki_0, ki_1, ki_2, ki_3, ki_4, ki_5, ki_6, ki_7, ki_8, ki_9, ki_10, ki_11, ki_12, ki_17, ki_20, ki_21, ki_22, ki_42, ki_50, ki_58, ki_66, ki_74, ki_140, ki_174, ki_179, ki_184, ki_189, ki_441, ix1, nI_add, pk_mul]; with_reducible rfl) | (simp only [ki_0, ki_1, ki_2, ki_3, ki_4, ki_5, ki_6, ki_7, ki_8, ki_9, ki_10, ki_11, ki_12, ki_17, ki_20, ki_21, ki_22, ki_42, ki_50, ki_58, ki_66, ki_74, ki_140, ki_174, ki_179, ki_184, ki_189, ki_441, ix1, ix2, nI_add, pk_mul]; with_reducible rfl) | (simp only [ki_0, ki_1, ki_2, ki_3, ki_4, ki_5, ki_6, ki_7, ki_8, ki_9, ki_10, ki_11, ki_12, ki_17, ki_20, ki_21, ki_22, ki_42, ki_50, ki_58, ki_66, ki_74, ki_140, ki_174, ki_179, ki_184, ki_189, ki_441, ix1, ix2, ix3, nI_add, pk_mul]; with_reducible rfl) | (simp (disch := omega) only [upd_n, ki_0, ki_1, ki_2, ki_3, ki_4, ki_5, ki_6, ki_7, ki_8, ki_9, ki_10, ki_11, ki_12, ki_17, ki_20, ki_21, ki_22, ki_42, ki_50, ki_58, ki_66, ki_74, ki_140, ki_174, ki_179, ki_184, ki_189, ki_441, ix1, nI_add, pk_mul]; with_reducible rfl) | (simp (disch := omega) only [upd_n, ki_0, ki_1, ki_2, ki_3, ki_4, ki_5, ki_6, ki_7, ki_8, ki_9, ki_10, ki_11, ki_12, ki_17, ki_20, ki_21, ki_22, ki_42, ki_50, ki_58, ki_66, ki_74, ki_140, ki_174, ki_179, ki_184, ki_189, ki_441, ix1, ix2, nI_add, pk_mul]; with_reducible rfl) | rfl); (case hlt => first | decide | omega); (case hn => first | decide | omega))
    refine mT_s rfl rfl ?_
    (apply mT_getf; (case hc => rfl); (case ha => first | rfl | assumption); (case hf => first | rfl | assumption))
    (apply mT_getf; (case hc => rfl); (case ha => first | rfl | assumption); (case hf => first | rfl | assumption))
    (apply mT_inv; (case hc => rfl); (case hd => rfl); (case hb => first | rfl | assumption); (case hg => rfl))
    rw [ix1, em a ha, em b hb, show s (1 + a) = nI (mm a) by rw [← s_at_m s mm g ha, hs], show s (1 + b) = nI (mm b) by rw [← s_at_m s mm g hb, hs], hg1]
    refine x_pushOf_21 _ h _ i iv hR hN l le mo hV hwt s a (mm a) (mm b) g ha (by omega) hK hV5 hW h9 (fun h2 r2 => ?_)
    refine mT_ret rfl rfl ?_
    exact k a b ha hb ix1 ix2 va vb hab h2 i (fun c z => r2.1 c (by omega)) (X.q r2)

theorem x_oddsP (d : Nat) (h : mH) (Q : Option Value → mH → Prop) (it : Int32) (hX : h 20 = .inr (9, xObj it)) (i : Nat → Int32) (iv : Value) (s : Nat → Int32) (hI : s_Inv s) (l : List Tok) (le mo nb : Nat) (wi lo : Nat → Nat) (X : XR 21 h i iv s l le mo nb wi lo)  (mm : Nat → Nat) (g : Nat) (hmm : ∀ j, j < 5 → mm j ≤ 20) (hs : s_at s mm g = s) (hg : g ≤ 9999) (x y : Int32) (kN : ¬ (okP s x ∧ okP s y) → Q (some (.int (-1))) h) (kB : okP s x → okP s y → x = y → Q (some (.int (-2))) h) (k : ∀ a b : Nat, a < 5 → b < 5 → x = nI a → y = nI b → okP s x → okP s y → a ≠ b → ∀ h2 i2, (∀ a, a ≤ 20 ∨ 31 ≤ a → h2 a = h a) → XR 21 h2 i2 iv s l le mo nb wi lo → Q (some (.int (nI (a_od s l a b (mm a) (mm b) g)))) h2) : mT0 (d + 5) z_X9_odds 0 (m_init z_X9_odds [.ref 20, .int x, .int y]) [] h Q := by
  obtain ⟨B, XM, XT, XA, XB, XL, i0, i1, i2, i3, i4, i5⟩ := id X
  obtain ⟨hR, hN, hV, hwt, hK, hV5, hW, h9⟩ := id B
  obtain ⟨n, hn5, hn6⟩ := hI.1
  have hi0 := i0.trans hn6
  obtain ⟨fk, hk, ek⟩ := id hK
  obtain ⟨fv, hv, ev⟩ := id hV5
  obtain ⟨fm, hm, em⟩ := id XM
  obtain ⟨fw, hw, ew⟩ := id hW
  obtain ⟨ft, ht, et⟩ := id XT
  obtain ⟨fa, hfa, ea⟩ := id XA
  obtain ⟨fb, hb, eb⟩ := id XB
  obtain ⟨fl, hfl, el⟩ := id XL
  have M : rMn 21 h mm := ⟨fm, hm, fun j hj => (em j hj).trans (by rw [← s_at_m s mm g hj, hs])⟩
  have hg1 : i 1 = nI g := i1.trans (by rw [← hs]; rfl)
  iterate 3 refine mT_s rfl rfl ?_
  (apply mT_inv; (case hc => rfl); (case hd => rfl); (case hb => first | rfl | assumption); (case hg => rfl))
  refine x_refusal _ h _ it hX i iv hR s n hn5 hn6 hi0 x y (fun v => ?_) (fun v w e => ?_) (fun a b ha hb ix1 ix2 va vb hab => ?_)
  · iterate 5 refine mT_s rfl rfl ?_
    refine mT_ret rfl rfl ?_
    exact kN v
  · iterate 5 refine mT_s rfl rfl ?_
    refine mT_ret rfl rfl ?_
    exact kB v w e
  · iterate 4 refine mT_s rfl rfl ?_
    (apply mT_getf; (case hc => rfl); (case ha => first | rfl | assumption); (case hf => first | rfl | assumption))
    iterate 2 refine mT_s rfl rfl ?_
    (apply mT_inv; (case hc => rfl); (case hd => rfl); (case hb => first | rfl | assumption); (case hg => rfl))
    rw [ix1, ix2]
    refine x_oddsNow_21 _ h _ i iv s l le mo B mm M a b g ha hb hg1 (by omega) (fun h2 r2 => ?_)
    refine mT_ret rfl rfl ?_
    exact k a b ha hb ix1 ix2 va vb hab h2 i (fun c z => r2.1 c (by omega)) (X.q r2)
