/-! By program (wip/whole/book*.py) and hand. -/
def rBk (h : mH) (a nb : Nat) (w : Nat → Nat) : Prop := ∃ f, h a = .inl (0, 8, .inl f) ∧ ∀ k, k < nb → f k = nI (w k)
/-- a room holds the state s, its book by winners and losers -/
def XR (r : Nat) (h : mH) (i : Nat → Int32) (iv : Value) (s : Nat → Int32) (l : List Tok) (le mo nb : Nat) (wi lo : Nat → Nat) : Prop := rBs r h i iv s l le mo ∧ rAr h (r + 3) 5 1 s ∧ rAr h (r + 5) 100 74 s ∧ rAr h (r + 8) 8 66 s ∧ rBk h (r + 6) nb wi ∧ rBk h (r + 7) nb lo ∧ (i 0 = s 6 ∧ i 1 = s 0 ∧ i 2 = s 7 ∧ i 3 = s 10 ∧ i 4 = s 8 ∧ i 5 = s 9)
theorem rA_s {h : mH} {a n off : Nat} {s s2 : Nat → Int32} (r : rAr h a n off s) (hs : ∀ j, j < n → s2 (off + j) = s (off + j)) : rAr h a n off s2 := by
  obtain ⟨f, h1, h2⟩ := r
  exact ⟨f, h1, fun j hj => (h2 j hj).trans (hs j hj).symm⟩
theorem rA_u {h2 : mH} {a n off k : Nat} {s s2 f : Nat → Int32} {v : Int32} (hf : ∀ j, j < n → f j = s (off + j)) (h2a : h2 a = .inl (0, n, .inl (upd f k v))) (hv : s2 (off + k) = v) (ho : ∀ j, j < n → j ≠ k → s2 (off + j) = s (off + j)) : rAr h2 a n off s2 := by
  refine ⟨_, h2a, fun j hj => ?_⟩
  by_cases e : j = k
  · subst e
    rw [upd_s, hv]
  · rw [upd_n _ _ e, hf j hj, ho j hj e]
theorem rBk_c {h h2 : mH} {a nb : Nat} {w : Nat → Nat} (hh : h2 a = h a) (r : rBk h a nb w) : rBk h2 a nb w := by
  obtain ⟨f, h1, h2'⟩ := r
  exact ⟨f, hh.trans h1, h2'⟩
theorem XR.u {h h2 : mH} {i i2 : Nat → Int32} {iv : Value} {s s2 : Nat → Int32} {l : List Tok} {le mo nb nb2 : Nat} {wi lo wi2 lo2 : Nat → Nat} (X : XR 21 h i iv s l le mo nb wi lo) (hh : ∀ a, a ≤ 20 ∨ 31 ≤ a → h2 a = h a) (hR : h2 21 = .inr (7, rObj 21 i2 iv)) (a22 : rAr h2 22 5 12 s2) (a23 : rAr h2 23 5 17 s2) (a25 : rAr h2 25 20 22 s2) (a30 : ∃ f, h2 30 = .inl (0, 5, .inl f)) (a24 : rAr h2 24 5 1 s2) (a26 : rAr h2 26 100 74 s2) (a29 : rAr h2 29 8 66 s2) (a27 : rBk h2 27 nb2 wi2) (a28 : rBk h2 28 nb2 lo2) (hi : i2 0 = s2 6 ∧ i2 1 = s2 0 ∧ i2 2 = s2 7 ∧ i2 3 = s2 10 ∧ i2 4 = s2 8 ∧ i2 5 = s2 9) : XR 21 h2 i2 iv s2 l le mo nb2 wi2 lo2 := by
  obtain ⟨⟨b1, b2, b3, b4, b5, b6, b7, b8⟩, -⟩ := X
  refine ⟨⟨hR, ?_, rI_c (fun a ha => hh a (by omega)) b3, b4, a22, a23, a25, a30⟩, a24, a26, a29, a27, a28, hi⟩
  have : m_nx h2 = m_nx h := by unfold m_nx; rw [hh 0 (by omega)]
  rw [this]
  exact b2
theorem x_feed (d : Nat) (h : mH) (Q : Option Value → mH → Prop) (it : Int32) (hX : h 20 = .inr (9, xObj it)) (i : Nat → Int32) (iv : Value) (s : Nat → Int32) (hI : s_Inv s) (l : List Tok) (le mo nb : Nat) (wi lo : Nat → Nat) (X : XR 21 h i iv s l le mo nb wi lo)  (x : Int32) (K : ∀ h2 i2, (∀ a, a ≤ 20 ∨ 31 ≤ a → h2 a = h a) → XR 21 h2 i2 iv (f_feed s x).2 l le mo nb wi lo → Q (some (.int (f_feed s x).1)) h2) : mT0 d z_X9_feed 0 (m_init z_X9_feed [.ref 20, .int x]) [] h Q := by
  obtain ⟨B, XM, XT, XA, XB, XL, i0, i1, i2, i3, i4, i5⟩ := id X
  obtain ⟨hR, hN, hV, hwt, hK, hV5, hW, h9⟩ := id B
  obtain ⟨n, hn5, hn6⟩ := hI.1
  have hi0 := i0.trans hn6
  obtain ⟨fk, hk, ek⟩ := id hK
  obtain ⟨fv, hv, ev⟩ := id hV5
  obtain ⟨fm, hm, em⟩ := id XM
  obtain ⟨fw, hw, ew⟩ := id hW
  obtain ⟨ft, ht, et⟩ := id XT
  obtain ⟨fa, hfa, ea⟩ := id XA
  obtain ⟨fb, hb, eb⟩ := id XB
  obtain ⟨fl, hfl, el⟩ := id XL
  obtain ⟨k, hk2, ix1⟩ := hI.2.2.2.2.1
  have ix2 := i3.trans ix1
  refine mT_s rfl rfl ?_
  refine mT_if_lt rfl (fun c1 => ?_) (fun c1 => ?_)
  · refine mT_s rfl rfl ?_
    refine mT_ret rfl rfl ?_
    unfold f_feed at K
    rw [if_neg (fun z => absurd c1 (Int32.not_lt.mpr z.1))] at K
    exact K h i (fun _ _ => rfl) X
  · iterate 2 refine mT_s rfl rfl ?_
    refine mT_icmp_le rfl (fun c7 => ?_) (fun c7 => ?_)
    · refine mT_s rfl rfl ?_
      (apply mT_getf; (case hc => rfl); (case ha => first | rfl | assumption); (case hf => first | rfl | assumption))
      (apply mT_getf; (case hc => rfl); (case ha => first | rfl | assumption); (case hf => first | rfl | assumption))
      refine mT_s rfl rfl ?_
      refine mT_icmp_lt rfl (fun c22 => ?_) (fun c22 => ?_)
      · have hk100 : k < 100 := by
          rw [ix2] at c22
          exact (nI_ltI (by omega) (by omega)).mp c22
        refine mT_s rfl rfl ?_
        (apply mT_getf; (case hc => rfl); (case ha => first | rfl | assumption); (case hf => first | rfl | assumption))
        (apply mT_getf; (case hc => rfl); (case ha => first | rfl | assumption); (case hf => first | rfl | assumption))
        refine mT_s rfl rfl ?_
        (apply mT_getf; (case hc => rfl); (case ha => first | rfl | assumption); (case hf => first | rfl | assumption))
        (apply mT_getf; (case hc => rfl); (case ha => first | rfl | assumption); (case hf => first | rfl | assumption))
        refine mT_s rfl rfl ?_
        (apply mT_iastK; (case hc => rfl); (case ha => first | rfl | assumption); (case hk => first | (simp only [ki_0, ki_1, ki_2, ki_3, ki_4, ki_5, ki_6, ki_7, ki_8, ki_9, ki_10, ki_11, ki_12, ki_17, ki_20, ki_21, ki_22, ki_42, ki_50, ki_58, ki_66, ki_74, ki_140, ki_174, ki_179, ki_184, ki_189, ki_441, nI_add, pk_mul]; with_reducible rfl) | (simp only [ki_0, ki_1, ki_2, ki_3, ki_4, ki_5, ki_6, ki_7, ki_8, ki_9, ki_10, ki_11, ki_12, ki_17, ki_20, ki_21, ki_22, ki_42, ki_50, ki_58, ki_66, ki_74, ki_140, ki_174, ki_179, ki_184, ki_189, ki_441, ix1, nI_add, pk_mul]; with_reducible rfl) | (simp only [ki_0, ki_1, ki_2, ki_3, ki_4, ki_5, ki_6, ki_7, ki_8, ki_9, ki_10, ki_11, ki_12, ki_17, ki_20, ki_21, ki_22, ki_42, ki_50, ki_58, ki_66, ki_74, ki_140, ki_174, ki_179, ki_184, ki_189, ki_441, ix1, ix2, nI_add, pk_mul]; with_reducible rfl) | (simp only [ki_0, ki_1, ki_2, ki_3, ki_4, ki_5, ki_6, ki_7, ki_8, ki_9, ki_10, ki_11, ki_12, ki_17, ki_20, ki_21, ki_22, ki_42, ki_50, ki_58, ki_66, ki_74, ki_140, ki_174, ki_179, ki_184, ki_189, ki_441, ix1, ix2, ix3, nI_add, pk_mul]; with_reducible rfl) | (simp (disch := omega) only [upd_n, ki_0, ki_1, ki_2, ki_3, ki_4, ki_5, ki_6, ki_7, ki_8, ki_9, ki_10, ki_11, ki_12, ki_17, ki_20, ki_21, ki_22, ki_42, ki_50, ki_58, ki_66, ki_74, ki_140, ki_174, ki_179, ki_184, ki_189, ki_441, ix1, nI_add, pk_mul]; with_reducible rfl) | (simp (disch := omega) only [upd_n, ki_0, ki_1, ki_2, ki_3, ki_4, ki_5, ki_6, ki_7, ki_8, ki_9, ki_10, ki_11, ki_12, ki_17, ki_20, ki_21, ki_22, ki_42, ki_50, ki_58, ki_66, ki_74, ki_140, ki_174, ki_179, ki_184, ki_189, ki_441, ix1, ix2, nI_add, pk_mul]; with_reducible rfl) | rfl); (case hlt => first | decide | omega); (case hn => first | decide | omega); (case hN => assumption); (case hg => rfl))
        refine mT_s rfl rfl ?_
        (apply mT_getf; (case hc => rfl); (case ha => first | rfl | assumption); (case hf => first | rfl | assumption))
        refine mT_s rfl rfl ?_
        (apply mT_getf; (case hc => rfl); (case ha => first | rfl | assumption); (case hf => first | rfl | assumption))
        iterate 2 refine mT_s rfl rfl ?_
        (apply mT_putfN; (case hc => rfl); (case ha => first | rfl | assumption); (case hN => assumption); (case hg => rfl))
        refine mT_s rfl rfl ?_
        (apply mT_getf; (case hc => rfl); (case ha => first | rfl | assumption); (case hf => first | rfl | assumption))
        (apply mT_getf; (case hc => rfl); (case ha => first | rfl | assumption); (case hf => first | rfl | assumption))
        refine mT_ret rfl rfl ?_
        unfold f_feed at K
        rw [if_pos ⟨Int32.not_lt.mp c1, c7⟩, if_neg (fun z => by rw [ix1] at z; have := (nI_eq (b := 100) (by omega) (by omega)).mp z; omega)] at K
        rw [show (s 10).toNatClampNeg = k by rw [ix1, i_cl k (by omega)]] at K
        dsimp only at K
        rw [i3]
        refine K _ (upd i 3 (s 10 + 1)) (fun a z => by rw [m_up_n (show a ≠ 21 by omega), m_up_n (show a ≠ 26 by omega)]) (X.u (fun a z => by rw [m_up_n (show a ≠ 21 by omega), m_up_n (show a ≠ 26 by omega)]) rfl (rA_s (rAr_c rfl hK) (fun j hj => by simp (disch := omega) only [upd_n])) (rA_s (rAr_c rfl hV5) (fun j hj => by simp (disch := omega) only [upd_n])) (rA_s (rAr_c rfl hW) (fun j hj => by simp (disch := omega) only [upd_n])) h9 (rA_s (rAr_c rfl XM) (fun j hj => by simp (disch := omega) only [upd_n])) (rA_u et rfl (by rw [upd_n _ _ (by omega), upd_s]) (fun j hj e => by simp (disch := omega) only [upd_n])) (rA_s (rAr_c rfl XA) (fun j hj => by simp (disch := omega) only [upd_n])) (rBk_c rfl XB) (rBk_c rfl XL) ⟨?_, ?_, ?_, ?_, ?_, ?_⟩)
        all_goals first | rfl | (simp (disch := omega) only [upd_n]; assumption)
      · refine mT_s rfl rfl ?_
        refine mT_ret rfl rfl ?_
        have hk100 : k = 100 := by
          rw [i3, ix1] at c22
          rcases Nat.lt_or_ge k 100 with z | z
          · exact absurd (nI_lt (b := 100) z (by omega)) c22
          · omega
        unfold f_feed at K
        rw [if_pos ⟨Int32.not_lt.mp c1, c7⟩, if_pos (by rw [ix1, hk100]; rfl)] at K
        exact K h i (fun _ _ => rfl) X
    · refine mT_s rfl rfl ?_
      refine mT_ret rfl rfl ?_
      unfold f_feed at K
      rw [if_neg (fun z => c7 z.2)] at K
      exact K h i (fun _ _ => rfl) X

theorem x_of (d : Nat) (h : mH) (Q : Option Value → mH → Prop) (it : Int32) (hX : h 20 = .inr (9, xObj it)) (i : Nat → Int32) (iv : Value) (s : Nat → Int32) (hI : s_Inv s) (l : List Tok) (le mo nb : Nat) (wi lo : Nat → Nat) (X : XR 21 h i iv s l le mo nb wi lo)  (p w : Int32) (K : Q (some (.int (f_of s p w).1)) h) : mT0 (d + 1) z_X9_of 0 (m_init z_X9_of [.ref 20, .int p, .int w]) [] h Q := by
  obtain ⟨B, XM, XT, XA, XB, XL, i0, i1, i2, i3, i4, i5⟩ := id X
  obtain ⟨hR, hN, hV, hwt, hK, hV5, hW, h9⟩ := id B
  obtain ⟨n, hn5, hn6⟩ := hI.1
  have hi0 := i0.trans hn6
  obtain ⟨fk, hk, ek⟩ := id hK
  obtain ⟨fv, hv, ev⟩ := id hV5
  obtain ⟨fm, hm, em⟩ := id XM
  obtain ⟨fw, hw, ew⟩ := id hW
  obtain ⟨ft, ht, et⟩ := id XT
  obtain ⟨fa, hfa, ea⟩ := id XA
  obtain ⟨fb, hb, eb⟩ := id XB
  obtain ⟨fl, hfl, el⟩ := id XL
  iterate 2 refine mT_s rfl rfl ?_
  (apply mT_inv; (case hc => rfl); (case hd => rfl); (case hb => first | rfl | assumption); (case hg => rfl))
  refine x_isNobody _ h _ it hX i iv hR s n hn5 hn6 hi0 _ (fun v2 => ?_) (fun j2 hj2 ix1 v2 => ?_)
  · iterate 2 refine mT_s rfl rfl ?_
    refine mT_ret rfl rfl ?_
    unfold f_of at K
    rw [if_neg v2] at K
    exact K
  · iterate 2 refine mT_s rfl rfl ?_
    refine mT_tswc (v := 0) (t := 36) rfl rfl rfl (fun c11_0 => ?_) (fun c11_0 => ?_)
    · refine mT_s rfl rfl ?_
      (apply mT_getf; (case hc => rfl); (case ha => first | rfl | assumption); (case hf => first | rfl | assumption))
      (apply mT_getf; (case hc => rfl); (case ha => first | rfl | assumption); (case hf => first | rfl | assumption))
      refine mT_s rfl rfl ?_
      (apply mT_ialdK; (case hc => rfl); (case ha => first | rfl | assumption); (case hk => first | (simp only [ki_0, ki_1, ki_2, ki_3, ki_4, ki_5, ki_6, ki_7, ki_8, ki_9, ki_10, ki_11, ki_12, ki_17, ki_20, ki_21, ki_22, ki_42, ki_50, ki_58, ki_66, ki_74, ki_140, ki_174, ki_179, ki_184, ki_189, ki_441, nI_add, pk_mul]; with_reducible rfl) | (simp only [ki_0, ki_1, ki_2, ki_3, ki_4, ki_5, ki_6, ki_7, ki_8, ki_9, ki_10, ki_11, ki_12, ki_17, ki_20, ki_21, ki_22, ki_42, ki_50, ki_58, ki_66, ki_74, ki_140, ki_174, ki_179, ki_184, ki_189, ki_441, ix1, nI_add, pk_mul]; with_reducible rfl) | (simp only [ki_0, ki_1, ki_2, ki_3, ki_4, ki_5, ki_6, ki_7, ki_8, ki_9, ki_10, ki_11, ki_12, ki_17, ki_20, ki_21, ki_22, ki_42, ki_50, ki_58, ki_66, ki_74, ki_140, ki_174, ki_179, ki_184, ki_189, ki_441, ix1, ix2, nI_add, pk_mul]; with_reducible rfl) | (simp only [ki_0, ki_1, ki_2, ki_3, ki_4, ki_5, ki_6, ki_7, ki_8, ki_9, ki_10, ki_11, ki_12, ki_17, ki_20, ki_21, ki_22, ki_42, ki_50, ki_58, ki_66, ki_74, ki_140, ki_174, ki_179, ki_184, ki_189, ki_441, ix1, ix2, ix3, nI_add, pk_mul]; with_reducible rfl) | (simp (disch := omega) only [upd_n, ki_0, ki_1, ki_2, ki_3, ki_4, ki_5, ki_6, ki_7, ki_8, ki_9, ki_10, ki_11, ki_12, ki_17, ki_20, ki_21, ki_22, ki_42, ki_50, ki_58, ki_66, ki_74, ki_140, ki_174, ki_179, ki_184, ki_189, ki_441, ix1, nI_add, pk_mul]; with_reducible rfl) | (simp (disch := omega) only [upd_n, ki_0, ki_1, ki_2, ki_3, ki_4, ki_5, ki_6, ki_7, ki_8, ki_9, ki_10, ki_11, ki_12, ki_17, ki_20, ki_21, ki_22, ki_42, ki_50, ki_58, ki_66, ki_74, ki_140, ki_174, ki_179, ki_184, ki_189, ki_441, ix1, ix2, nI_add, pk_mul]; with_reducible rfl) | rfl); (case hlt => first | decide | omega); (case hn => first | decide | omega))
      refine mT_ret rfl rfl ?_
      subst c11_0
      unfold f_of at K
      rw [if_pos v2, if_pos (by decide), if_neg (by decide), ix1, i_cl j2 (by omega)] at K
      rw [ek j2 hj2]
      exact K
    refine mT_tswc (v := 1) (t := 46) rfl rfl rfl (fun c11_1 => ?_) (fun c11_1 => ?_)
    · refine mT_s rfl rfl ?_
      (apply mT_getf; (case hc => rfl); (case ha => first | rfl | assumption); (case hf => first | rfl | assumption))
      (apply mT_getf; (case hc => rfl); (case ha => first | rfl | assumption); (case hf => first | rfl | assumption))
      refine mT_s rfl rfl ?_
      (apply mT_ialdK; (case hc => rfl); (case ha => first | rfl | assumption); (case hk => first | (simp only [ki_0, ki_1, ki_2, ki_3, ki_4, ki_5, ki_6, ki_7, ki_8, ki_9, ki_10, ki_11, ki_12, ki_17, ki_20, ki_21, ki_22, ki_42, ki_50, ki_58, ki_66, ki_74, ki_140, ki_174, ki_179, ki_184, ki_189, ki_441, nI_add, pk_mul]; with_reducible rfl) | (simp only [ki_0, ki_1, ki_2, ki_3, ki_4, ki_5, ki_6, ki_7, ki_8, ki_9, ki_10, ki_11, ki_12, ki_17, ki_20, ki_21, ki_22, ki_42, ki_50, ki_58, ki_66, ki_74, ki_140, ki_174, ki_179, ki_184, ki_189, ki_441, ix1, nI_add, pk_mul]; with_reducible rfl) | (simp only [ki_0, ki_1, ki_2, ki_3, ki_4, ki_5, ki_6, ki_7, ki_8, ki_9, ki_10, ki_11, ki_12, ki_17, ki_20, ki_21, ki_22, ki_42, ki_50, ki_58, ki_66, ki_74, ki_140, ki_174, ki_179, ki_184, ki_189, ki_441, ix1, ix2, nI_add, pk_mul]; with_reducible rfl) | (simp only [ki_0, ki_1, ki_2, ki_3, ki_4, ki_5, ki_6, ki_7, ki_8, ki_9, ki_10, ki_11, ki_12, ki_17, ki_20, ki_21, ki_22, ki_42, ki_50, ki_58, ki_66, ki_74, ki_140, ki_174, ki_179, ki_184, ki_189, ki_441, ix1, ix2, ix3, nI_add, pk_mul]; with_reducible rfl) | (simp (disch := omega) only [upd_n, ki_0, ki_1, ki_2, ki_3, ki_4, ki_5, ki_6, ki_7, ki_8, ki_9, ki_10, ki_11, ki_12, ki_17, ki_20, ki_21, ki_22, ki_42, ki_50, ki_58, ki_66, ki_74, ki_140, ki_174, ki_179, ki_184, ki_189, ki_441, ix1, nI_add, pk_mul]; with_reducible rfl) | (simp (disch := omega) only [upd_n, ki_0, ki_1, ki_2, ki_3, ki_4, ki_5, ki_6, ki_7, ki_8, ki_9, ki_10, ki_11, ki_12, ki_17, ki_20, ki_21, ki_22, ki_42, ki_50, ki_58, ki_66, ki_74, ki_140, ki_174, ki_179, ki_184, ki_189, ki_441, ix1, ix2, nI_add, pk_mul]; with_reducible rfl) | rfl); (case hlt => first | decide | omega); (case hn => first | decide | omega))
      refine mT_ret rfl rfl ?_
      subst c11_1
      unfold f_of at K
      rw [if_pos v2, if_pos (by decide), if_neg (by decide), ix1, i_cl j2 (by omega)] at K
      rw [ev j2 hj2]
      exact K
    refine mT_tswc (v := 2) (t := 56) rfl rfl rfl (fun c11_2 => ?_) (fun c11_2 => ?_)
    · refine mT_s rfl rfl ?_
      (apply mT_getf; (case hc => rfl); (case ha => first | rfl | assumption); (case hf => first | rfl | assumption))
      (apply mT_getf; (case hc => rfl); (case ha => first | rfl | assumption); (case hf => first | rfl | assumption))
      refine mT_s rfl rfl ?_
      (apply mT_ialdK; (case hc => rfl); (case ha => first | rfl | assumption); (case hk => first | (simp only [ki_0, ki_1, ki_2, ki_3, ki_4, ki_5, ki_6, ki_7, ki_8, ki_9, ki_10, ki_11, ki_12, ki_17, ki_20, ki_21, ki_22, ki_42, ki_50, ki_58, ki_66, ki_74, ki_140, ki_174, ki_179, ki_184, ki_189, ki_441, nI_add, pk_mul]; with_reducible rfl) | (simp only [ki_0, ki_1, ki_2, ki_3, ki_4, ki_5, ki_6, ki_7, ki_8, ki_9, ki_10, ki_11, ki_12, ki_17, ki_20, ki_21, ki_22, ki_42, ki_50, ki_58, ki_66, ki_74, ki_140, ki_174, ki_179, ki_184, ki_189, ki_441, ix1, nI_add, pk_mul]; with_reducible rfl) | (simp only [ki_0, ki_1, ki_2, ki_3, ki_4, ki_5, ki_6, ki_7, ki_8, ki_9, ki_10, ki_11, ki_12, ki_17, ki_20, ki_21, ki_22, ki_42, ki_50, ki_58, ki_66, ki_74, ki_140, ki_174, ki_179, ki_184, ki_189, ki_441, ix1, ix2, nI_add, pk_mul]; with_reducible rfl) | (simp only [ki_0, ki_1, ki_2, ki_3, ki_4, ki_5, ki_6, ki_7, ki_8, ki_9, ki_10, ki_11, ki_12, ki_17, ki_20, ki_21, ki_22, ki_42, ki_50, ki_58, ki_66, ki_74, ki_140, ki_174, ki_179, ki_184, ki_189, ki_441, ix1, ix2, ix3, nI_add, pk_mul]; with_reducible rfl) | (simp (disch := omega) only [upd_n, ki_0, ki_1, ki_2, ki_3, ki_4, ki_5, ki_6, ki_7, ki_8, ki_9, ki_10, ki_11, ki_12, ki_17, ki_20, ki_21, ki_22, ki_42, ki_50, ki_58, ki_66, ki_74, ki_140, ki_174, ki_179, ki_184, ki_189, ki_441, ix1, nI_add, pk_mul]; with_reducible rfl) | (simp (disch := omega) only [upd_n, ki_0, ki_1, ki_2, ki_3, ki_4, ki_5, ki_6, ki_7, ki_8, ki_9, ki_10, ki_11, ki_12, ki_17, ki_20, ki_21, ki_22, ki_42, ki_50, ki_58, ki_66, ki_74, ki_140, ki_174, ki_179, ki_184, ki_189, ki_441, ix1, ix2, nI_add, pk_mul]; with_reducible rfl) | rfl); (case hlt => first | decide | omega); (case hn => first | decide | omega))
      refine mT_ret rfl rfl ?_
      subst c11_2
      unfold f_of at K
      rw [if_pos v2, if_pos (by decide), if_pos rfl, ix1, i_cl j2 (by omega)] at K
      rw [em j2 hj2]
      exact K
    refine mT_tswd rfl (by have z0 := sw_ne (v := 0) (n := 0) rfl c11_0; have z1 := sw_ne (v := 1) (n := 1) rfl c11_1; have z2 := sw_ne (v := 2) (n := 2) rfl c11_2; omega) ?_
    refine mT_s rfl rfl ?_
    refine mT_ret rfl rfl ?_
    unfold f_of at K
    rw [if_pos v2, if_neg (fun z => by
      obtain ⟨w9, hw9, e9⟩ := i_nat (n := 2) z.1 z.2 (by omega)
      have : w9 = 0 ∨ w9 = 1 ∨ w9 = 2 := by omega
      rcases this with rfl | rfl | rfl
      · exact c11_0 e9
      · exact c11_1 e9
      · exact c11_2 e9)] at K
    exact K

theorem x_men (d : Nat) (h : mH) (Q : Option Value → mH → Prop) (it : Int32) (hX : h 20 = .inr (9, xObj it)) (i : Nat → Int32) (iv : Value) (s : Nat → Int32) (hI : s_Inv s) (l : List Tok) (le mo nb : Nat) (wi lo : Nat → Nat) (X : XR 21 h i iv s l le mo nb wi lo)  (p x : Int32) (K : ∀ h2 i2, (∀ a, a ≤ 20 ∨ 31 ≤ a → h2 a = h a) → XR 21 h2 i2 iv (f_men s p x).2 l le mo nb wi lo → Q (some (.int (f_men s p x).1)) h2) : mT0 (d + 1) z_X9_men 0 (m_init z_X9_men [.ref 20, .int p, .int x]) [] h Q := by
  obtain ⟨B, XM, XT, XA, XB, XL, i0, i1, i2, i3, i4, i5⟩ := id X
  obtain ⟨hR, hN, hV, hwt, hK, hV5, hW, h9⟩ := id B
  obtain ⟨n, hn5, hn6⟩ := hI.1
  have hi0 := i0.trans hn6
  obtain ⟨fk, hk, ek⟩ := id hK
  obtain ⟨fv, hv, ev⟩ := id hV5
  obtain ⟨fm, hm, em⟩ := id XM
  obtain ⟨fw, hw, ew⟩ := id hW
  obtain ⟨ft, ht, et⟩ := id XT
  obtain ⟨fa, hfa, ea⟩ := id XA
  obtain ⟨fb, hb, eb⟩ := id XB
  obtain ⟨fl, hfl, el⟩ := id XL
  iterate 2 refine mT_s rfl rfl ?_
  (apply mT_inv; (case hc => rfl); (case hd => rfl); (case hb => first | rfl | assumption); (case hg => rfl))
  refine x_isNobody _ h _ it hX i iv hR s n hn5 hn6 hi0 _ (fun v2 => ?_) (fun j2 hj2 ix1 v2 => ?_)
  · iterate 2 refine mT_s rfl rfl ?_
    refine mT_ret rfl rfl ?_
    unfold f_men at K
    rw [if_neg v2] at K
    exact K h i (fun _ _ => rfl) X
  · iterate 2 refine mT_s rfl rfl ?_
    refine mT_c rfl rfl ?_
    refine x_isNoMen _ h _ _ (fun a11 => ?_) (fun a11 b11 => ?_)
    · iterate 2 refine mT_s rfl rfl ?_
      refine mT_ret rfl rfl ?_
      unfold f_men at K
      rw [if_pos v2, if_neg a11] at K
      exact K h i (fun _ _ => rfl) X
    · iterate 2 refine mT_s rfl rfl ?_
      (apply mT_getf; (case hc => rfl); (case ha => first | rfl | assumption); (case hf => first | rfl | assumption))
      (apply mT_getf; (case hc => rfl); (case ha => first | rfl | assumption); (case hf => first | rfl | assumption))
      refine mT_s rfl rfl ?_
      (apply mT_ialdK; (case hc => rfl); (case ha => first | rfl | assumption); (case hk => first | (simp only [ki_0, ki_1, ki_2, ki_3, ki_4, ki_5, ki_6, ki_7, ki_8, ki_9, ki_10, ki_11, ki_12, ki_17, ki_20, ki_21, ki_22, ki_42, ki_50, ki_58, ki_66, ki_74, ki_140, ki_174, ki_179, ki_184, ki_189, ki_441, nI_add, pk_mul]; with_reducible rfl) | (simp only [ki_0, ki_1, ki_2, ki_3, ki_4, ki_5, ki_6, ki_7, ki_8, ki_9, ki_10, ki_11, ki_12, ki_17, ki_20, ki_21, ki_22, ki_42, ki_50, ki_58, ki_66, ki_74, ki_140, ki_174, ki_179, ki_184, ki_189, ki_441, ix1, nI_add, pk_mul]; with_reducible rfl) | (simp only [ki_0, ki_1, ki_2, ki_3, ki_4, ki_5, ki_6, ki_7, ki_8, ki_9, ki_10, ki_11, ki_12, ki_17, ki_20, ki_21, ki_22, ki_42, ki_50, ki_58, ki_66, ki_74, ki_140, ki_174, ki_179, ki_184, ki_189, ki_441, ix1, ix2, nI_add, pk_mul]; with_reducible rfl) | (simp only [ki_0, ki_1, ki_2, ki_3, ki_4, ki_5, ki_6, ki_7, ki_8, ki_9, ki_10, ki_11, ki_12, ki_17, ki_20, ki_21, ki_22, ki_42, ki_50, ki_58, ki_66, ki_74, ki_140, ki_174, ki_179, ki_184, ki_189, ki_441, ix1, ix2, ix3, nI_add, pk_mul]; with_reducible rfl) | (simp (disch := omega) only [upd_n, ki_0, ki_1, ki_2, ki_3, ki_4, ki_5, ki_6, ki_7, ki_8, ki_9, ki_10, ki_11, ki_12, ki_17, ki_20, ki_21, ki_22, ki_42, ki_50, ki_58, ki_66, ki_74, ki_140, ki_174, ki_179, ki_184, ki_189, ki_441, ix1, nI_add, pk_mul]; with_reducible rfl) | (simp (disch := omega) only [upd_n, ki_0, ki_1, ki_2, ki_3, ki_4, ki_5, ki_6, ki_7, ki_8, ki_9, ki_10, ki_11, ki_12, ki_17, ki_20, ki_21, ki_22, ki_42, ki_50, ki_58, ki_66, ki_74, ki_140, ki_174, ki_179, ki_184, ki_189, ki_441, ix1, ix2, nI_add, pk_mul]; with_reducible rfl) | rfl); (case hlt => first | decide | omega); (case hn => first | decide | omega))
      iterate 2 refine mT_s rfl rfl ?_
      (apply mT_getf; (case hc => rfl); (case ha => first | rfl | assumption); (case hf => first | rfl | assumption))
      (apply mT_getf; (case hc => rfl); (case ha => first | rfl | assumption); (case hf => first | rfl | assumption))
      iterate 2 refine mT_s rfl rfl ?_
      (apply mT_iastK; (case hc => rfl); (case ha => first | rfl | assumption); (case hk => first | (simp only [ki_0, ki_1, ki_2, ki_3, ki_4, ki_5, ki_6, ki_7, ki_8, ki_9, ki_10, ki_11, ki_12, ki_17, ki_20, ki_21, ki_22, ki_42, ki_50, ki_58, ki_66, ki_74, ki_140, ki_174, ki_179, ki_184, ki_189, ki_441, nI_add, pk_mul]; with_reducible rfl) | (simp only [ki_0, ki_1, ki_2, ki_3, ki_4, ki_5, ki_6, ki_7, ki_8, ki_9, ki_10, ki_11, ki_12, ki_17, ki_20, ki_21, ki_22, ki_42, ki_50, ki_58, ki_66, ki_74, ki_140, ki_174, ki_179, ki_184, ki_189, ki_441, ix1, nI_add, pk_mul]; with_reducible rfl) | (simp only [ki_0, ki_1, ki_2, ki_3, ki_4, ki_5, ki_6, ki_7, ki_8, ki_9, ki_10, ki_11, ki_12, ki_17, ki_20, ki_21, ki_22, ki_42, ki_50, ki_58, ki_66, ki_74, ki_140, ki_174, ki_179, ki_184, ki_189, ki_441, ix1, ix2, nI_add, pk_mul]; with_reducible rfl) | (simp only [ki_0, ki_1, ki_2, ki_3, ki_4, ki_5, ki_6, ki_7, ki_8, ki_9, ki_10, ki_11, ki_12, ki_17, ki_20, ki_21, ki_22, ki_42, ki_50, ki_58, ki_66, ki_74, ki_140, ki_174, ki_179, ki_184, ki_189, ki_441, ix1, ix2, ix3, nI_add, pk_mul]; with_reducible rfl) | (simp (disch := omega) only [upd_n, ki_0, ki_1, ki_2, ki_3, ki_4, ki_5, ki_6, ki_7, ki_8, ki_9, ki_10, ki_11, ki_12, ki_17, ki_20, ki_21, ki_22, ki_42, ki_50, ki_58, ki_66, ki_74, ki_140, ki_174, ki_179, ki_184, ki_189, ki_441, ix1, nI_add, pk_mul]; with_reducible rfl) | (simp (disch := omega) only [upd_n, ki_0, ki_1, ki_2, ki_3, ki_4, ki_5, ki_6, ki_7, ki_8, ki_9, ki_10, ki_11, ki_12, ki_17, ki_20, ki_21, ki_22, ki_42, ki_50, ki_58, ki_66, ki_74, ki_140, ki_174, ki_179, ki_184, ki_189, ki_441, ix1, ix2, nI_add, pk_mul]; with_reducible rfl) | rfl); (case hlt => first | decide | omega); (case hn => first | decide | omega); (case hN => assumption); (case hg => rfl))
      refine mT_s rfl rfl ?_
      refine mT_ret rfl rfl ?_
      unfold f_men at K
      rw [if_pos v2, if_pos ⟨a11, b11⟩, ix1, i_cl j2 (by omega)] at K
      rw [em j2 hj2]
      refine K _ i (fun a z => by rw [m_up_n (show a ≠ 24 by omega)]) (X.u (fun a z => by rw [m_up_n (show a ≠ 24 by omega)]) hR (rA_s (rAr_c rfl hK) (fun j hj => by simp (disch := omega) only [upd_n])) (rA_s (rAr_c rfl hV5) (fun j hj => by simp (disch := omega) only [upd_n])) (rA_s (rAr_c rfl hW) (fun j hj => by simp (disch := omega) only [upd_n])) h9 (rA_u em rfl (upd_s _ _ _) (fun j hj e => by simp (disch := omega) only [upd_n])) (rA_s (rAr_c rfl XT) (fun j hj => by simp (disch := omega) only [upd_n])) (rA_s (rAr_c rfl XA) (fun j hj => by simp (disch := omega) only [upd_n])) (rBk_c rfl XB) (rBk_c rfl XL) ⟨?_, ?_, ?_, ?_, ?_, ?_⟩)
      all_goals (simp (disch := omega) only [upd_n]; assumption)

theorem x_told (d : Nat) (h : mH) (Q : Option Value → mH → Prop) (it : Int32) (hX : h 20 = .inr (9, xObj it)) (i : Nat → Int32) (iv : Value) (s : Nat → Int32) (hI : s_Inv s) (l : List Tok) (le mo nb : Nat) (wi lo : Nat → Nat) (X : XR 21 h i iv s l le mo nb wi lo)  (hGt : f_tells s 174 = nI le ∧ f_tells s 179 = nI mo) (w : Int32) (K : Q (some (.int (f_told s w))) h) : mT0 (d + 1) z_X9_told 0 (m_init z_X9_told [.ref 20, .int w]) [] h Q := by
  obtain ⟨B, XM, XT, XA, XB, XL, i0, i1, i2, i3, i4, i5⟩ := id X
  obtain ⟨hR, hN, hV, hwt, hK, hV5, hW, h9⟩ := id B
  obtain ⟨n, hn5, hn6⟩ := hI.1
  have hi0 := i0.trans hn6
  obtain ⟨fk, hk, ek⟩ := id hK
  obtain ⟨fv, hv, ev⟩ := id hV5
  obtain ⟨fm, hm, em⟩ := id XM
  obtain ⟨fw, hw, ew⟩ := id hW
  obtain ⟨ft, ht, et⟩ := id XT
  obtain ⟨fa, hfa, ea⟩ := id XA
  obtain ⟨fb, hb, eb⟩ := id XB
  obtain ⟨fl, hfl, el⟩ := id XL
  refine mT_s rfl rfl ?_
  refine mT_tswc (v := 0) (t := 28) rfl rfl rfl (fun c1_0 => ?_) (fun c1_0 => ?_)
  · refine mT_s rfl rfl ?_
    (apply mT_getf; (case hc => rfl); (case ha => first | rfl | assumption); (case hf => first | rfl | assumption))
    (apply mT_getf; (case hc => rfl); (case ha => first | rfl | assumption); (case hf => first | rfl | assumption))
    refine mT_ret rfl rfl ?_
    unfold f_told at K
    rw [if_pos c1_0] at K
    rw [i1]
    exact K
  refine mT_tswc (v := 1) (t := 36) rfl rfl rfl (fun c1_1 => ?_) (fun c1_1 => ?_)
  · refine mT_s rfl rfl ?_
    (apply mT_getf; (case hc => rfl); (case ha => first | rfl | assumption); (case hf => first | rfl | assumption))
    (apply mT_inv; (case hc => rfl); (case hd => rfl); (case hb => first | rfl | assumption); (case hg => rfl))
    refine x_less_21 _ h _ i iv hR hN l le mo hV ?_
    refine mT_ret rfl rfl ?_
    unfold f_told at K
    rw [if_neg c1_0, if_pos c1_1, hGt.1] at K
    exact K
  refine mT_tswc (v := 2) (t := 44) rfl rfl rfl (fun c1_2 => ?_) (fun c1_2 => ?_)
  · refine mT_s rfl rfl ?_
    (apply mT_getf; (case hc => rfl); (case ha => first | rfl | assumption); (case hf => first | rfl | assumption))
    (apply mT_inv; (case hc => rfl); (case hd => rfl); (case hb => first | rfl | assumption); (case hg => rfl))
    refine x_more_21 _ h _ i iv hR hN l le mo hV ?_
    refine mT_ret rfl rfl ?_
    unfold f_told at K
    rw [if_neg c1_0, if_neg c1_1, if_pos c1_2, hGt.2] at K
    exact K
  refine mT_tswd rfl (by have z0 := sw_ne (v := 0) (n := 0) rfl c1_0; have z1 := sw_ne (v := 1) (n := 1) rfl c1_1; have z2 := sw_ne (v := 2) (n := 2) rfl c1_2; omega) ?_
  refine mT_s rfl rfl ?_
  refine mT_ret rfl rfl ?_
  unfold f_told at K
  rw [if_neg c1_0, if_neg c1_1, if_neg c1_2] at K
  exact K

theorem x_count (d : Nat) (h : mH) (Q : Option Value → mH → Prop) (it : Int32) (hX : h 20 = .inr (9, xObj it)) (i : Nat → Int32) (iv : Value) (s : Nat → Int32) (hI : s_Inv s) (l : List Tok) (le mo nb : Nat) (wi lo : Nat → Nat) (X : XR 21 h i iv s l le mo nb wi lo)  (ia : Nat → Int32) (ac : Nat) (hAc : h 74 = .inr (0, [.ref 75, .int (ia 0), .int (ia 1), .int (ia 2), .int (ia 3)])) (w : Int32) (K : Q (some (.int (if w = 5 then ia 0 else if 0 ≤ w ∧ w ≤ 4 then s (6 + w.toNatClampNeg) else -1))) h) : mT0 d z_X9_count 0 (m_init z_X9_count [.ref 20, .int w]) [] h Q := by
  obtain ⟨B, XM, XT, XA, XB, XL, i0, i1, i2, i3, i4, i5⟩ := id X
  obtain ⟨hR, hN, hV, hwt, hK, hV5, hW, h9⟩ := id B
  obtain ⟨n, hn5, hn6⟩ := hI.1
  have hi0 := i0.trans hn6
  obtain ⟨fk, hk, ek⟩ := id hK
  obtain ⟨fv, hv, ev⟩ := id hV5
  obtain ⟨fm, hm, em⟩ := id XM
  obtain ⟨fw, hw, ew⟩ := id hW
  obtain ⟨ft, ht, et⟩ := id XT
  obtain ⟨fa, hfa, ea⟩ := id XA
  obtain ⟨fb, hb, eb⟩ := id XB
  obtain ⟨fl, hfl, el⟩ := id XL
  refine mT_s rfl rfl ?_
  refine mT_tswc (v := 0) (t := 40) rfl rfl rfl (fun c1_0 => ?_) (fun c1_0 => ?_)
  · refine mT_s rfl rfl ?_
    (apply mT_getf; (case hc => rfl); (case ha => first | rfl | assumption); (case hf => first | rfl | assumption))
    (apply mT_getf; (case hc => rfl); (case ha => first | rfl | assumption); (case hf => first | rfl | assumption))
    refine mT_ret rfl rfl ?_
    rw [if_neg (by rw [c1_0]; decide), if_pos (by rw [c1_0]; decide), c1_0] at K
    rw [i0]
    exact K
  refine mT_tswc (v := 1) (t := 48) rfl rfl rfl (fun c1_1 => ?_) (fun c1_1 => ?_)
  · refine mT_s rfl rfl ?_
    (apply mT_getf; (case hc => rfl); (case ha => first | rfl | assumption); (case hf => first | rfl | assumption))
    (apply mT_getf; (case hc => rfl); (case ha => first | rfl | assumption); (case hf => first | rfl | assumption))
    refine mT_ret rfl rfl ?_
    rw [if_neg (by rw [c1_1]; decide), if_pos (by rw [c1_1]; decide), c1_1] at K
    rw [i2]
    exact K
  refine mT_tswc (v := 2) (t := 56) rfl rfl rfl (fun c1_2 => ?_) (fun c1_2 => ?_)
  · refine mT_s rfl rfl ?_
    (apply mT_getf; (case hc => rfl); (case ha => first | rfl | assumption); (case hf => first | rfl | assumption))
    (apply mT_getf; (case hc => rfl); (case ha => first | rfl | assumption); (case hf => first | rfl | assumption))
    refine mT_ret rfl rfl ?_
    rw [if_neg (by rw [c1_2]; decide), if_pos (by rw [c1_2]; decide), c1_2] at K
    rw [i4]
    exact K
  refine mT_tswc (v := 3) (t := 64) rfl rfl rfl (fun c1_3 => ?_) (fun c1_3 => ?_)
  · refine mT_s rfl rfl ?_
    (apply mT_getf; (case hc => rfl); (case ha => first | rfl | assumption); (case hf => first | rfl | assumption))
    (apply mT_getf; (case hc => rfl); (case ha => first | rfl | assumption); (case hf => first | rfl | assumption))
    refine mT_ret rfl rfl ?_
    rw [if_neg (by rw [c1_3]; decide), if_pos (by rw [c1_3]; decide), c1_3] at K
    rw [i5]
    exact K
  refine mT_tswc (v := 4) (t := 72) rfl rfl rfl (fun c1_4 => ?_) (fun c1_4 => ?_)
  · refine mT_s rfl rfl ?_
    (apply mT_getf; (case hc => rfl); (case ha => first | rfl | assumption); (case hf => first | rfl | assumption))
    (apply mT_getf; (case hc => rfl); (case ha => first | rfl | assumption); (case hf => first | rfl | assumption))
    refine mT_ret rfl rfl ?_
    rw [if_neg (by rw [c1_4]; decide), if_pos (by rw [c1_4]; decide), c1_4] at K
    rw [i3]
    exact K
  refine mT_tswc (v := 5) (t := 80) rfl rfl rfl (fun c1_5 => ?_) (fun c1_5 => ?_)
  · refine mT_s rfl rfl ?_
    (apply mT_getf; (case hc => rfl); (case ha => first | rfl | assumption); (case hf => first | rfl | assumption))
    (apply mT_getf; (case hc => rfl); (case ha => first | rfl | assumption); (case hf => first | rfl | assumption))
    refine mT_ret rfl rfl ?_
    rw [if_pos c1_5] at K
    exact K
  refine mT_tswd rfl (by have z0 := sw_ne (v := 0) (n := 0) rfl c1_0; have z1 := sw_ne (v := 1) (n := 1) rfl c1_1; have z2 := sw_ne (v := 2) (n := 2) rfl c1_2; have z3 := sw_ne (v := 3) (n := 3) rfl c1_3; have z4 := sw_ne (v := 4) (n := 4) rfl c1_4; have z5 := sw_ne (v := 5) (n := 5) rfl c1_5; omega) ?_
  refine mT_s rfl rfl ?_
  refine mT_ret rfl rfl ?_
  rw [if_neg c1_5, if_neg (fun z => by
    obtain ⟨w9, hw9, e9⟩ := i_nat (n := 4) z.1 z.2 (by omega)
    have : w9 = 0 ∨ w9 = 1 ∨ w9 = 2 ∨ w9 = 3 ∨ w9 = 4 := by omega
    rcases this with rfl | rfl | rfl | rfl | rfl
    · exact c1_0 e9
    · exact c1_1 e9
    · exact c1_2 e9
    · exact c1_3 e9
    · exact c1_4 e9)] at K
  exact K
