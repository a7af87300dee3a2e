/-! By program (wip/whole/book*.py) and hand. -/
theorem x_peek (d : Nat) (h : mH) (Q : Option Value → mH → Prop) (p : Nat) (lf mf : Int32) (cd : Nat → Int32) (k0 e : Nat) (R : rRd h p lf mf cd k0 e) (g : Nat → Int32) (T : rTp h g e) (hp : p ≤ e)  (K : Q (some (.int (g p))) h) : mT0 d z_X6_peek 0 (m_init z_X6_peek [.ref 51]) [] h Q := by
  obtain ⟨hR, hC, hk0⟩ := id R
  obtain ⟨⟨tf, ht, etf⟩, hgk, he, hN⟩ := id T
  refine mT_s rfl rfl ?_
  (apply mT_getf; (case hc => rfl); (case ha => first | rfl | assumption); (case hf => first | rfl | assumption))
  refine mT_s rfl rfl ?_
  (apply mT_getf; (case hc => rfl); (case ha => first | rfl | assumption); (case hf => first | rfl | assumption))
  refine mT_icmp_ge rfl (fun c8 => ?_) (fun c8 => ?_)
  · refine mT_s rfl rfl ?_
    refine mT_ret rfl rfl ?_
    rw [hgk p ((nI_leI (by omega) (by omega)).mp c8)] at K
    exact K
  · have c8 : p < e := Nat.lt_of_not_le (fun z => c8 (nI_le z (by omega)))
    refine mT_s rfl rfl ?_
    (apply mT_getf; (case hc => rfl); (case ha => first | rfl | assumption); (case hf => first | rfl | assumption))
    refine mT_s rfl rfl ?_
    (apply mT_getf; (case hc => rfl); (case ha => first | rfl | assumption); (case hf => first | rfl | assumption))
    (apply mT_ialdK; (case hc => rfl); (case ha => first | rfl | assumption); (case hk => first | (simp only [ki_0, ki_1, ki_2, ki_3, ki_4, ki_5, ki_6, ki_7, ki_8, ki_9, ki_10, ki_11, ki_12, ki_17, ki_20, ki_21, ki_22, ki_42, ki_50, ki_58, ki_66, ki_74, ki_140, ki_174, ki_179, ki_184, ki_189, ki_441, ki_13, nI_add, pk_mul]; with_reducible rfl) | (simp only [ki_0, ki_1, ki_2, ki_3, ki_4, ki_5, ki_6, ki_7, ki_8, ki_9, ki_10, ki_11, ki_12, ki_17, ki_20, ki_21, ki_22, ki_42, ki_50, ki_58, ki_66, ki_74, ki_140, ki_174, ki_179, ki_184, ki_189, ki_441, ki_13, ix1, nI_add, pk_mul]; with_reducible rfl) | (simp only [ki_0, ki_1, ki_2, ki_3, ki_4, ki_5, ki_6, ki_7, ki_8, ki_9, ki_10, ki_11, ki_12, ki_17, ki_20, ki_21, ki_22, ki_42, ki_50, ki_58, ki_66, ki_74, ki_140, ki_174, ki_179, ki_184, ki_189, ki_441, ki_13, ix1, ix2, nI_add, pk_mul]; with_reducible rfl) | (simp only [ki_0, ki_1, ki_2, ki_3, ki_4, ki_5, ki_6, ki_7, ki_8, ki_9, ki_10, ki_11, ki_12, ki_17, ki_20, ki_21, ki_22, ki_42, ki_50, ki_58, ki_66, ki_74, ki_140, ki_174, ki_179, ki_184, ki_189, ki_441, ki_13, ix1, ix2, ix3, nI_add, pk_mul]; with_reducible rfl) | (simp (disch := omega) only [upd_n, ki_0, ki_1, ki_2, ki_3, ki_4, ki_5, ki_6, ki_7, ki_8, ki_9, ki_10, ki_11, ki_12, ki_17, ki_20, ki_21, ki_22, ki_42, ki_50, ki_58, ki_66, ki_74, ki_140, ki_174, ki_179, ki_184, ki_189, ki_441, ki_13, ix1, nI_add, pk_mul]; with_reducible rfl) | (simp (disch := omega) only [upd_n, ki_0, ki_1, ki_2, ki_3, ki_4, ki_5, ki_6, ki_7, ki_8, ki_9, ki_10, ki_11, ki_12, ki_17, ki_20, ki_21, ki_22, ki_42, ki_50, ki_58, ki_66, ki_74, ki_140, ki_174, ki_179, ki_184, ki_189, ki_441, ki_13, ix1, ix2, nI_add, pk_mul]; with_reducible rfl) | rfl); (case hlt => first | decide | omega); (case hn => first | decide | omega))
    refine mT_s rfl rfl ?_
    refine mT_ret rfl rfl ?_
    rw [← etf p c8] at K
    exact K

theorem x_sign (d : Nat) (h : mH) (Q : Option Value → mH → Prop) (p : Nat) (lf mf : Int32) (cd : Nat → Int32) (k0 e : Nat) (R : rRd h p lf mf cd k0 e) (g : Nat → Int32) (T : rTp h g e) (hp : p ≤ e)  (c : Int32) (hc : ¬ c = -1) (K1 : g p = c → p + 1 ≤ e → ∀ h2, (∀ a, a ≠ 51 → a ≠ 52 → h2 a = h a) → rRd h2 (p + 1) lf mf cd k0 e → Q (some (.int 1)) h2) (K0 : ¬ g p = c → Q (some (.int 0)) h) : mT0 (d + 1) z_X6_sign 0 (m_init z_X6_sign [.ref 51, .int c]) [] h Q := by
  obtain ⟨hR, hC, hk0⟩ := id R
  obtain ⟨⟨tf, ht, etf⟩, hgk, he, hN⟩ := id T
  refine mT_s rfl rfl ?_
  (apply mT_inv; (case hc => rfl); (case hd => rfl); (case hb => first | rfl | assumption); (case hg => rfl))
  refine x_peek _ h _ p lf mf cd k0 e R g T hp ?_
  refine mT_s rfl rfl ?_
  refine mT_icmp_eq rfl (fun c5 => ?_) (fun c5 => ?_)
  · iterate 2 refine mT_s rfl rfl ?_
    (apply mT_getf; (case hc => rfl); (case ha => first | rfl | assumption); (case hf => first | rfl | assumption))
    iterate 2 refine mT_s rfl rfl ?_
    (apply mT_putfN; (case hc => rfl); (case ha => first | rfl | assumption); (case hN => assumption); (case hg => rfl))
    refine mT_s rfl rfl ?_
    refine mT_ret rfl rfl ?_
    rw [nI_1]
    exact K1 c5 (hgk.lt c5 hc) _ (fun a x y => m_up_n x) ⟨rfl, hC, hk0⟩
  · refine mT_s rfl rfl ?_
    refine mT_ret rfl rfl ?_
    exact K0 c5

theorem x_digit (d : Nat) (h : mH) (Q : Option Value → mH → Prop)  (x : Int32) (K1 : isDig x → Q (some (.int (nI (dv x)))) h) (K0 : ¬ isDig x → Q (some (.int (-1))) h) : mT0 d z_X6_digit 0 (m_init z_X6_digit [.int x]) [] h Q := by
  iterate 2 refine mT_s rfl rfl ?_
  refine mT_icmp_lt rfl (fun c3 => ?_) (fun c3 => ?_)
  · refine mT_s rfl rfl ?_
    refine mT_ret rfl rfl ?_
    exact K0 (fun z => absurd c3 (Int32.not_lt.mpr z.1))
  · iterate 2 refine mT_s rfl rfl ?_
    refine mT_icmp_gt rfl (fun c9 => ?_) (fun c9 => ?_)
    · refine mT_s rfl rfl ?_
      refine mT_ret rfl rfl ?_
      exact K0 (fun z => absurd c9 (Int32.not_lt.mpr z.2))
    · iterate 4 refine mT_s rfl rfl ?_
      refine mT_ret rfl rfl ?_
      have hd : isDig x := ⟨Int32.not_lt.mp c3, Int32.not_lt.mp c9⟩
      have K1 := K1 hd
      rw [← (dv_lt hd).2] at K1
      exact K1

theorem x_number (d : Nat) (h : mH) (Q : Option Value → mH → Prop) (p : Nat) (lf mf : Int32) (cd : Nat → Int32) (k0 e : Nat) (R : rRd h p lf mf cd k0 e) (g : Nat → Int32) (T : rTp h g e) (hp : p ≤ e) (K1 : (pNum g p).1 = true → ∀ h2, (∀ a, a ≠ 51 → a ≠ 52 → h2 a = h a) → rRd h2 (pNum g p).2.1 lf mf cd k0 e → Q (some (.int (nI (pNum g p).2.2))) h2) (K0 : (pNum g p).1 = false → (pNum g p).2.1 = p → Q (some (.int (-1))) h) : mT0 (d + 1) z_X6_number 0 (m_init z_X6_number [.ref 51]) [] h Q := by
  obtain ⟨hR, hC, hk0⟩ := id R
  obtain ⟨⟨tf, ht, etf⟩, hgk, he, hN⟩ := id T
  refine mT_s rfl rfl ?_
  (apply mT_inv; (case hc => rfl); (case hd => rfl); (case hb => first | rfl | assumption); (case hg => rfl))
  refine x_peek _ h _ p lf mf cd k0 e R g T hp ?_
  refine mT_c rfl rfl ?_
  refine x_digit _ h _ _ (fun hd1 => ?_) (fun hd1 => ?_)
  · have b1 := dv_lt hd1
    have a1 := hgk.dig hd1
    iterate 2 refine mT_s rfl rfl ?_
    refine mT_if_ge rfl (fun _ => ?_) (fun c => absurd (nI_pos' (by omega)) c)
    iterate 2 refine mT_s rfl rfl ?_
    (apply mT_getf; (case hc => rfl); (case ha => first | rfl | assumption); (case hf => first | rfl | assumption))
    iterate 2 refine mT_s rfl rfl ?_
    (apply mT_putfN; (case hc => rfl); (case ha => first | rfl | assumption); (case hN => assumption); (case hg => rfl))
    refine mT_s rfl rfl ?_
    (apply mT_inv; (case hc => rfl); (case hd => rfl); (case hb => first | rfl | assumption); (case hg => rfl))
    rw [nI_1]
    have R2 : rRd (m_up h 51 (.inr (6, [.int (nI (p + 1)), .int lf, .int mf, .ref 52, .int (nI k0), .ref 26, .int (nI e)]))) (p + 1) lf mf cd k0 e := ⟨rfl, hC, hk0⟩
    refine x_peek _ (m_up h 51 _) _ (p + 1) lf mf cd k0 e R2 g (T.c (fun a x y => m_up_n x)) (by omega) ?_
    refine mT_c rfl rfl ?_
    refine x_digit _ _ _ _ (fun hd2 => ?_) (fun hd2 => ?_)
    · have b2 := dv_lt hd2
      have a2 := hgk.dig hd2
      iterate 2 refine mT_s rfl rfl ?_
      refine mT_if_eq rfl (fun c33 => ?_) (fun c33 => ?_)
      · have c33 := (nI_eq (b := 0) (by omega) (by omega)).mp c33
        refine mT_s rfl rfl ?_
        refine mT_ret rfl rfl ?_
        have hv : pNum g p = (true, p + 1, dv (g p)) := by unfold pNum; rw [if_pos hd1, if_neg (fun z => by omega)]
        rw [hv] at K1 K0
        exact K1 rfl _ (fun a x y => m_up_n x) R2
      · have c33 : 0 < dv (g p) := Nat.pos_of_ne_zero (fun z => c33 (congrArg nI z))
        refine mT_s rfl rfl ?_
        refine mT_if_ge rfl (fun _ => ?_) (fun c => absurd (nI_pos' (by omega)) c)
        iterate 2 refine mT_s rfl rfl ?_
        (apply mT_getf; (case hc => rfl); (case ha => first | rfl | assumption); (case hf => first | rfl | assumption))
        iterate 2 refine mT_s rfl rfl ?_
        (apply mT_putfN; (case hc => rfl); (case ha => first | rfl | assumption); (case hN => assumption); (case hg => rfl))
        iterate 5 refine mT_s rfl rfl ?_
        refine mT_ret rfl rfl ?_
        have hv : pNum g p = (true, p + 2, 10 * dv (g p) + dv (g (p + 1))) := by unfold pNum; rw [if_pos hd1, if_pos ⟨c33, hd2⟩]
        rw [hv] at K1 K0
        simp only [m_up_up]
        rw [show nI (dv (g p)) * 10 + nI (dv (g (p + 1))) = nI (10 * dv (g p) + dv (g (p + 1))) from by rw [show (10 : Int32) = nI 10 from rfl, pk_mul, nI_add]; exact congrArg nI (by omega), nI_1]
        exact K1 rfl _ (fun a x y => m_up_n x) ⟨rfl, hC, hk0⟩
    · iterate 2 refine mT_s rfl rfl ?_
      refine mT_if_eq rfl (fun c33 => ?_) (fun c33 => ?_)
      · have c33 := (nI_eq (b := 0) (by omega) (by omega)).mp c33
        refine mT_s rfl rfl ?_
        refine mT_ret rfl rfl ?_
        have hv : pNum g p = (true, p + 1, dv (g p)) := by unfold pNum; rw [if_pos hd1, if_neg (fun z => hd2 z.2)]
        rw [hv] at K1 K0
        exact K1 rfl _ (fun a x y => m_up_n x) R2
      · have c33 : 0 < dv (g p) := Nat.pos_of_ne_zero (fun z => c33 (congrArg nI z))
        iterate 3 refine mT_s rfl rfl ?_
        refine mT_ret rfl rfl ?_
        have hv : pNum g p = (true, p + 1, dv (g p)) := by unfold pNum; rw [if_pos hd1, if_neg (fun z => hd2 z.2)]
        rw [hv] at K1 K0
        exact K1 rfl _ (fun a x y => m_up_n x) R2
  · iterate 4 refine mT_s rfl rfl ?_
    refine mT_ret rfl rfl ?_
    have hv : pNum g p = (false, p, 0) := by unfold pNum; rw [if_neg hd1]
    rw [hv] at K1 K0
    exact K0 rfl rfl
theorem x_aboutOf (d : Nat) (h : mH) (Q : Option Value → mH → Prop) (x : Int32) (K1 : ∀ w, pAb x = some w → Q (some (.int (nI w))) h) (K0 : pAb x = none → Q (some (.int (-1))) h) : mT0 d z_X6_aboutOf 0 (m_init z_X6_aboutOf [.int x]) [] h Q := by
  refine mT_s rfl rfl ?_
  refine mT_tswc (v := 103) (t := 64) rfl rfl rfl (fun c1_103 => ?_) (fun c1_103 => ?_)
  · refine mT_s rfl rfl ?_
    refine mT_ret rfl rfl ?_
    exact K1 4 (by rw [c1_103]; rfl)
  refine mT_tswc (v := 104) (t := 66) rfl rfl rfl (fun c1_104 => ?_) (fun c1_104 => ?_)
  · refine mT_s rfl rfl ?_
    refine mT_ret rfl rfl ?_
    exact K0 (by rw [c1_104]; rfl)
  refine mT_tswc (v := 105) (t := 66) rfl rfl rfl (fun c1_105 => ?_) (fun c1_105 => ?_)
  · refine mT_s rfl rfl ?_
    refine mT_ret rfl rfl ?_
    exact K0 (by rw [c1_105]; rfl)
  refine mT_tswc (v := 106) (t := 66) rfl rfl rfl (fun c1_106 => ?_) (fun c1_106 => ?_)
  · refine mT_s rfl rfl ?_
    refine mT_ret rfl rfl ?_
    exact K0 (by rw [c1_106]; rfl)
  refine mT_tswc (v := 107) (t := 58) rfl rfl rfl (fun c1_107 => ?_) (fun c1_107 => ?_)
  · refine mT_s rfl rfl ?_
    refine mT_ret rfl rfl ?_
    exact K1 1 (by rw [c1_107]; rfl)
  refine mT_tswc (v := 108) (t := 66) rfl rfl rfl (fun c1_108 => ?_) (fun c1_108 => ?_)
  · refine mT_s rfl rfl ?_
    refine mT_ret rfl rfl ?_
    exact K0 (by rw [c1_108]; rfl)
  refine mT_tswc (v := 109) (t := 60) rfl rfl rfl (fun c1_109 => ?_) (fun c1_109 => ?_)
  · refine mT_s rfl rfl ?_
    refine mT_ret rfl rfl ?_
    exact K1 2 (by rw [c1_109]; rfl)
  refine mT_tswc (v := 110) (t := 66) rfl rfl rfl (fun c1_110 => ?_) (fun c1_110 => ?_)
  · refine mT_s rfl rfl ?_
    refine mT_ret rfl rfl ?_
    exact K0 (by rw [c1_110]; rfl)
  refine mT_tswc (v := 111) (t := 62) rfl rfl rfl (fun c1_111 => ?_) (fun c1_111 => ?_)
  · refine mT_s rfl rfl ?_
    refine mT_ret rfl rfl ?_
    exact K1 3 (by rw [c1_111]; rfl)
  refine mT_tswc (v := 112) (t := 56) rfl rfl rfl (fun c1_112 => ?_) (fun c1_112 => ?_)
  · refine mT_s rfl rfl ?_
    refine mT_ret rfl rfl ?_
    exact K1 0 (by rw [c1_112]; rfl)
  refine mT_tswd rfl (by have z0 := sw_ne (v := 103) (n := 103) rfl c1_103; have z1 := sw_ne (v := 104) (n := 104) rfl c1_104; have z2 := sw_ne (v := 105) (n := 105) rfl c1_105; have z3 := sw_ne (v := 106) (n := 106) rfl c1_106; have z4 := sw_ne (v := 107) (n := 107) rfl c1_107; have z5 := sw_ne (v := 108) (n := 108) rfl c1_108; have z6 := sw_ne (v := 109) (n := 109) rfl c1_109; have z7 := sw_ne (v := 110) (n := 110) rfl c1_110; have z8 := sw_ne (v := 111) (n := 111) rfl c1_111; have z9 := sw_ne (v := 112) (n := 112) rfl c1_112; omega) ?_
  refine mT_s rfl rfl ?_
  refine mT_ret rfl rfl ?_
  exact K0 (by unfold pAb; rw [if_neg c1_112, if_neg c1_107, if_neg c1_109, if_neg c1_111, if_neg c1_103])
theorem x_comparisonOf (d : Nat) (h : mH) (Q : Option Value → mH → Prop) (x : Int32) (K1 : ∀ w, pCm x = some w → Q (some (.int (nI w))) h) (K0 : pCm x = none → Q (some (.int (-1))) h) : mT0 d z_X6_comparisonOf 0 (m_init z_X6_comparisonOf [.int x]) [] h Q := by
  refine mT_s rfl rfl ?_
  refine mT_tswc (v := 60) (t := 28) rfl rfl rfl (fun c1_60 => ?_) (fun c1_60 => ?_)
  · refine mT_s rfl rfl ?_
    refine mT_ret rfl rfl ?_
    exact K1 0 (by rw [c1_60]; rfl)
  refine mT_tswc (v := 61) (t := 30) rfl rfl rfl (fun c1_61 => ?_) (fun c1_61 => ?_)
  · refine mT_s rfl rfl ?_
    refine mT_ret rfl rfl ?_
    exact K1 1 (by rw [c1_61]; rfl)
  refine mT_tswc (v := 62) (t := 32) rfl rfl rfl (fun c1_62 => ?_) (fun c1_62 => ?_)
  · refine mT_s rfl rfl ?_
    refine mT_ret rfl rfl ?_
    exact K1 2 (by rw [c1_62]; rfl)
  refine mT_tswd rfl (by have z0 := sw_ne (v := 60) (n := 60) rfl c1_60; have z1 := sw_ne (v := 61) (n := 61) rfl c1_61; have z2 := sw_ne (v := 62) (n := 62) rfl c1_62; omega) ?_
  refine mT_s rfl rfl ?_
  refine mT_ret rfl rfl ?_
  exact K0 (by unfold pCm; rw [if_neg c1_60, if_neg c1_61, if_neg c1_62])
theorem x_put (d : Nat) (h : mH) (Q : Option Value → mH → Prop) (p : Nat) (lf mf : Int32) (cd : Nat → Int32) (k0 e : Nat) (R : rRd h p lf mf cd k0 e) (hN : 87 ≤ m_nx h) (x : Int32) (hk : k0 < 100) (K : ∀ h2, (∀ a, a ≠ 51 → a ≠ 52 → h2 a = h a) → rRd h2 p lf mf (upd cd k0 x) (k0 + 1) e → Q none h2) : mT0 d z_X6_put 0 (m_init z_X6_put [.ref 51, .int x]) [] h Q := by
  obtain ⟨hR, hC, hk0⟩ := id R
  refine mT_s rfl rfl ?_
  (apply mT_getf; (case hc => rfl); (case ha => first | rfl | assumption); (case hf => first | rfl | assumption))
  refine mT_s rfl rfl ?_
  refine mT_icmp_ge rfl (fun c => absurd c (nI_ge (a := k0) (b := 100) (by omega) (by omega))) (fun _ => ?_)
  refine mT_s rfl rfl ?_
  (apply mT_getf; (case hc => rfl); (case ha => first | rfl | assumption); (case hf => first | rfl | assumption))
  refine mT_s rfl rfl ?_
  (apply mT_getf; (case hc => rfl); (case ha => first | rfl | assumption); (case hf => first | rfl | assumption))
  refine mT_s rfl rfl ?_
  (apply mT_iastK; (case hc => rfl); (case ha => first | rfl | assumption); (case hk => first | (simp only [ki_0, ki_1, ki_2, ki_3, ki_4, ki_5, ki_6, ki_7, ki_8, ki_9, ki_10, ki_11, ki_12, ki_17, ki_20, ki_21, ki_22, ki_42, ki_50, ki_58, ki_66, ki_74, ki_140, ki_174, ki_179, ki_184, ki_189, ki_441, ki_13, nI_add, pk_mul]; with_reducible rfl) | (simp only [ki_0, ki_1, ki_2, ki_3, ki_4, ki_5, ki_6, ki_7, ki_8, ki_9, ki_10, ki_11, ki_12, ki_17, ki_20, ki_21, ki_22, ki_42, ki_50, ki_58, ki_66, ki_74, ki_140, ki_174, ki_179, ki_184, ki_189, ki_441, ki_13, ix1, nI_add, pk_mul]; with_reducible rfl) | (simp only [ki_0, ki_1, ki_2, ki_3, ki_4, ki_5, ki_6, ki_7, ki_8, ki_9, ki_10, ki_11, ki_12, ki_17, ki_20, ki_21, ki_22, ki_42, ki_50, ki_58, ki_66, ki_74, ki_140, ki_174, ki_179, ki_184, ki_189, ki_441, ki_13, ix1, ix2, nI_add, pk_mul]; with_reducible rfl) | (simp only [ki_0, ki_1, ki_2, ki_3, ki_4, ki_5, ki_6, ki_7, ki_8, ki_9, ki_10, ki_11, ki_12, ki_17, ki_20, ki_21, ki_22, ki_42, ki_50, ki_58, ki_66, ki_74, ki_140, ki_174, ki_179, ki_184, ki_189, ki_441, ki_13, ix1, ix2, ix3, nI_add, pk_mul]; with_reducible rfl) | (simp (disch := omega) only [upd_n, ki_0, ki_1, ki_2, ki_3, ki_4, ki_5, ki_6, ki_7, ki_8, ki_9, ki_10, ki_11, ki_12, ki_17, ki_20, ki_21, ki_22, ki_42, ki_50, ki_58, ki_66, ki_74, ki_140, ki_174, ki_179, ki_184, ki_189, ki_441, ki_13, ix1, nI_add, pk_mul]; with_reducible rfl) | (simp (disch := omega) only [upd_n, ki_0, ki_1, ki_2, ki_3, ki_4, ki_5, ki_6, ki_7, ki_8, ki_9, ki_10, ki_11, ki_12, ki_17, ki_20, ki_21, ki_22, ki_42, ki_50, ki_58, ki_66, ki_74, ki_140, ki_174, ki_179, ki_184, ki_189, ki_441, ki_13, ix1, ix2, nI_add, pk_mul]; with_reducible rfl) | rfl); (case hlt => first | decide | omega); (case hn => first | decide | omega); (case hN => assumption); (case hg => rfl))
  iterate 2 refine mT_s rfl rfl ?_
  (apply mT_getf; (case hc => rfl); (case ha => first | rfl | assumption); (case hf => first | rfl | assumption))
  iterate 2 refine mT_s rfl rfl ?_
  (apply mT_putfN; (case hc => rfl); (case ha => first | rfl | assumption); (case hN => assumption); (case hg => rfl))
  refine mT_ret rfl rfl ?_
  rw [nI_1]
  exact K _ (fun a x y => (m_up_n x).trans (m_up_n y)) ⟨rfl, rfl, by omega⟩
theorem x_put_w (d : Nat) (h : mH) (Q : Option Value → mH → Prop) (p : Nat) (lf mf : Int32) (cd : Nat → Int32) (k0 e : Nat) (R : rRd h p lf mf cd k0 e) (hN : 87 ≤ m_nx h) (x : Int32) (K : ∀ h2 cd2 k2, (∀ a, a ≠ 51 → a ≠ 52 → h2 a = h a) → rRd h2 p lf mf cd2 k2 e → Q none h2) : mT0 d z_X6_put 0 (m_init z_X6_put [.ref 51, .int x]) [] h Q := by
  obtain ⟨hR, hC, hk0⟩ := id R
  by_cases hk : k0 < 100
  · exact x_put d h Q p lf mf cd k0 e R hN x hk (fun h2 f2 R2 => K h2 _ _ f2 R2)
  · skip
    refine mT_s rfl rfl ?_
    (apply mT_getf; (case hc => rfl); (case ha => first | rfl | assumption); (case hf => first | rfl | assumption))
    refine mT_s rfl rfl ?_
    refine mT_icmp_ge rfl (fun _ => ?_) (fun c => absurd (nI_le (a := 100) (b := k0) (by omega) (by omega)) c)
    refine mT_ret rfl rfl ?_
    exact K h cd k0 (fun _ _ _ => rfl) R
theorem x_testOf (d : Nat) (h : mH) (Q : Option Value → mH → Prop)  (w c v : Nat) (K : Q (some (.int (nI ((w * 3 + c) * 100 + v)))) h) : mT0 d z_X3_testOf 0 (m_init z_X3_testOf [.int (nI w), .int (nI c), .int (nI v)]) [] h Q := by
  iterate 9 refine mT_s rfl rfl ?_
  refine mT_ret rfl rfl ?_
  have e : (nI w * 3 + nI c) * 100 + nI v = nI ((w * 3 + c) * 100 + v) := by
    rw [show (3 : Int32) = nI 3 from rfl, show (100 : Int32) = nI 100 from rfl, pk_mul, nI_add, pk_mul, nI_add]
  rw [← e] at K
  exact K
