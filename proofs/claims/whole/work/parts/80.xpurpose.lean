/-! By program (wip/whole/book*.py) and hand. -/
theorem x_ifWon (d : Nat) (h : mH) (Q : Option Value → mH → Prop) (i : Nat → Int32) (iv : Value) (s : Nat → Int32) (l : List Tok) (le mo : Nat) (B : rBs 21 h i iv s l le mo) (hle : le ≤ 99) (hmo : mo ≤ 99) (p q : Nat) (hP : h 62 = .inr (5, [.ref 21, .int (nI p), .int (nI q)]))  (m o g left : Nat) (hm : m ≤ 20) (ho : o ≤ 20) (K : mT0 (d + 1) z_X5_best 0 (m_init z_X5_best [.ref 62, .int (nI (n_few le m)), .int (nI (n_mor mo o)), .int (nI (g + 1)), .int (nI left)]) [] h (fun v h2 => ∃ x, v = some (.long x) ∧ Q v h2)) : mT0 (d + 2) z_X5_ifWon 0 (m_init z_X5_ifWon [.ref 62, .int (nI m), .int (nI o), .int (nI g), .int (nI (left + 1))]) [] h Q := by
  obtain ⟨hR, hN, hV, hwt, hK, hV5, hW, h9⟩ := id B
  iterate 2 refine mT_s rfl rfl ?_
  (apply mT_getf; (case hc => rfl); (case ha => first | rfl | assumption); (case hf => first | rfl | assumption))
  refine mT_s rfl rfl ?_
  (apply mT_inv; (case hc => rfl); (case hd => rfl); (case hb => first | rfl | assumption); (case hg => rfl))
  refine x_menIfWon_21 _ h _ i iv hR hN l le mo hV _ m rfl (by omega) hle ?_
  refine mT_s rfl rfl ?_
  (apply mT_getf; (case hc => rfl); (case ha => first | rfl | assumption); (case hf => first | rfl | assumption))
  refine mT_s rfl rfl ?_
  (apply mT_inv; (case hc => rfl); (case hd => rfl); (case hb => first | rfl | assumption); (case hg => rfl))
  refine x_menIfLost_21 _ h _ i iv hR hN l le mo hV _ o rfl (by omega) hmo ?_
  iterate 6 refine mT_s rfl rfl ?_
  refine mT_c rfl rfl ?_
  rw [nI_1, show (1 : Int32) = nI 1 from rfl, pk_sub (by omega), show left + 1 - 1 = left by omega]
  refine mT0_mono K (fun v h2 ⟨x, hv, hQ⟩ => ?_)
  subst hv
  refine mT_ret rfl rfl ?_
  exact hQ

theorem x_ifLost (d : Nat) (h : mH) (Q : Option Value → mH → Prop) (i : Nat → Int32) (iv : Value) (s : Nat → Int32) (l : List Tok) (le mo : Nat) (B : rBs 21 h i iv s l le mo) (hle : le ≤ 99) (hmo : mo ≤ 99) (p q : Nat) (hP : h 62 = .inr (5, [.ref 21, .int (nI p), .int (nI q)]))  (m o g left : Nat) (hm : m ≤ 20) (ho : o ≤ 20) (K : mT0 (d + 1) z_X5_best 0 (m_init z_X5_best [.ref 62, .int (nI (n_mor mo m)), .int (nI (n_few le o)), .int (nI (g + 1)), .int (nI left)]) [] h (fun v h2 => ∃ x, v = some (.long x) ∧ Q v h2)) : mT0 (d + 2) z_X5_ifLost 0 (m_init z_X5_ifLost [.ref 62, .int (nI m), .int (nI o), .int (nI g), .int (nI (left + 1))]) [] h Q := by
  obtain ⟨hR, hN, hV, hwt, hK, hV5, hW, h9⟩ := id B
  iterate 2 refine mT_s rfl rfl ?_
  (apply mT_getf; (case hc => rfl); (case ha => first | rfl | assumption); (case hf => first | rfl | assumption))
  refine mT_s rfl rfl ?_
  (apply mT_inv; (case hc => rfl); (case hd => rfl); (case hb => first | rfl | assumption); (case hg => rfl))
  refine x_menIfLost_21 _ h _ i iv hR hN l le mo hV _ m rfl (by omega) hmo ?_
  refine mT_s rfl rfl ?_
  (apply mT_getf; (case hc => rfl); (case ha => first | rfl | assumption); (case hf => first | rfl | assumption))
  refine mT_s rfl rfl ?_
  (apply mT_inv; (case hc => rfl); (case hd => rfl); (case hb => first | rfl | assumption); (case hg => rfl))
  refine x_menIfWon_21 _ h _ i iv hR hN l le mo hV _ o rfl (by omega) hle ?_
  iterate 6 refine mT_s rfl rfl ?_
  refine mT_c rfl rfl ?_
  rw [nI_1, show (1 : Int32) = nI 1 from rfl, pk_sub (by omega), show left + 1 - 1 = left by omega]
  refine mT0_mono K (fun v h2 ⟨x, hv, hQ⟩ => ?_)
  subst hv
  refine mT_ret rfl rfl ?_
  exact hQ

theorem lN_max {a b : Nat} (ha : a < 2 ^ 62) (hb : b < 2 ^ 62) : (if lN b < lN a then lN a else lN b) = lN (max a b) := by
  by_cases h : b < a
  · rw [if_pos ((pk_lLT (by omega) (by omega)).mpr h), Nat.max_eq_left (by omega)]
  · rw [if_neg (fun z => h ((pk_lLT (by omega) (by omega)).mp z)), Nat.max_eq_right (by omega)]
set_option maxHeartbeats 4000000 in
theorem x_best (i : Nat → Int32) (iv : Value) (s : Nat → Int32) (l : List Tok) (le mo : Nat) (hle : le ≤ 99) (hmo : mo ≤ 99) (p q : Nat) (hp : p < 5) (hq : q < 5) : ∀ (n d : Nat) (h : mH) (m o g : Nat) (Q : Option Value → mH → Prop), n < 8 → m ≤ 20 → o ≤ 20 → g + n < 20000 → rBs 21 h i iv s l le mo → h 62 = .inr (5, [.ref 21, .int (nI p), .int (nI q)]) → (∀ h2, rQ 30 h h2 → Q (some (.long (lN (nP (a_od s l p q) (n_few le) (n_mor mo) n g m o)))) h2) → mT0 (d + 2 * n + 4) z_X5_best 0 (m_init z_X5_best [.ref 62, .int (nI m), .int (nI o), .int (nI g), .int (nI (n + 1))]) [] h Q := by
  intro n
  induction n with
  | zero =>
    intro d h m o g Q hn hm ho hg B hP K
    obtain ⟨hR, hN, -, -, -, -, -, -⟩ := id B
    have hod := Nat.le_trans (a_od_n s l p q m o g).2.2 (show 9 ≤ 10 by decide)
    refine mT_s rfl rfl ?_
    (apply mT_getf; (case hc => rfl); (case ha => first | rfl | assumption); (case hf => first | rfl | assumption))
    refine mT_s rfl rfl ?_
    (apply mT_getf; (case hc => rfl); (case ha => first | rfl | assumption); (case hf => first | rfl | assumption))
    refine mT_s rfl rfl ?_
    (apply mT_getf; (case hc => rfl); (case ha => first | rfl | assumption); (case hf => first | rfl | assumption))
    iterate 3 refine mT_s rfl rfl ?_
    (apply mT_inv; (case hc => rfl); (case hd => rfl); (case hb => first | rfl | assumption); (case hg => rfl))
    refine x_oddsOf_21 _ h _ i iv s l le mo B p q m o g hp hq (by omega) (fun h2 r2 => ?_)
    have B2 := B.c (by decide) r2.1 r2.2
    have hP2 : h2 62 = _ := (r2.1 62 (by decide)).trans hP
    obtain ⟨hR2, hN2, -, -, -, -, -, -⟩ := id B2
    iterate 3 refine mT_s rfl rfl ?_
    refine mT_icmp_gt rfl (fun c => absurd c (by decide)) (fun _ => ?_)
    iterate 2 refine mT_s rfl rfl ?_
    refine mT_ret rfl rfl ?_
    have K := K h2 r2
    rw [(od_n hod).1]
    exact K
  | succ n ih =>
    intro d h m o g Q hn hm ho hg B hP K
    obtain ⟨hR, hN, -, -, -, -, -, -⟩ := id B
    have hod := Nat.le_trans (a_od_n s l p q m o g).2.2 (show 9 ≤ 10 by decide)
    refine mT_s rfl rfl ?_
    (apply mT_getf; (case hc => rfl); (case ha => first | rfl | assumption); (case hf => first | rfl | assumption))
    refine mT_s rfl rfl ?_
    (apply mT_getf; (case hc => rfl); (case ha => first | rfl | assumption); (case hf => first | rfl | assumption))
    refine mT_s rfl rfl ?_
    (apply mT_getf; (case hc => rfl); (case ha => first | rfl | assumption); (case hf => first | rfl | assumption))
    iterate 3 refine mT_s rfl rfl ?_
    (apply mT_inv; (case hc => rfl); (case hd => rfl); (case hb => first | rfl | assumption); (case hg => rfl))
    refine x_oddsOf_21 _ h _ i iv s l le mo B p q m o g hp hq (by omega) (fun h2 r2 => ?_)
    have B2 := B.c (by decide) r2.1 r2.2
    have hP2 : h2 62 = _ := (r2.1 62 (by decide)).trans hP
    obtain ⟨hR2, hN2, -, -, -, -, -, -⟩ := id B2
    iterate 3 refine mT_s rfl rfl ?_
    refine mT_icmp_gt rfl (fun _ => ?_) (fun c => absurd (show nI 1 < nI (n + 1 + 1) from nI_lt (by omega) (by omega)) c)
    iterate 5 refine mT_s rfl rfl ?_
    refine mT_c rfl rfl ?_
    refine x_ifWon _ h2 _ i iv s l le mo B2 hle hmo p q hP2 m o g (n + 1) hm ho ?_
    refine ih d h2 (n_few le m) (n_mor mo o) (g + 1) _ (by omega) (n_few_le hm) n_mor_le (by omega) B2 hP2 (fun h3 r3 => ⟨_, rfl, ?_⟩)
    have B3 := B2.c (by decide) r3.1 r3.2
    have hP3 : h3 62 = _ := (r3.1 62 (by decide)).trans hP2
    obtain ⟨hR3, hN3, -, -, -, -, -, -⟩ := id B3
    iterate 6 refine mT_s rfl rfl ?_
    refine mT_c rfl rfl ?_
    refine x_ifLost _ h3 _ i iv s l le mo B3 hle hmo p q hP3 m o g (n + 1) hm ho ?_
    refine ih d h3 (n_mor mo m) (n_few le o) (g + 1) _ (by omega) n_mor_le (n_few_le ho) (by omega) B3 hP3 (fun h4 r4 => ⟨_, rfl, ?_⟩)
    iterate 16 refine mT_s rfl rfl ?_
    refine mT_ret rfl rfl ?_
    have b1 := nP_le (fw := n_few le) (mr := n_mor mo) (fun m o g => (a_od_n s l p q m o g).2.2) n (g + 1) (n_few le m) (n_mor mo o)
    have b2 := nP_le (fw := n_few le) (mr := n_mor mo) (fun m o g => (a_od_n s l p q m o g).2.2) n (g + 1) (n_mor mo m) (n_few le o)
    have b3 : 10 ^ n ≤ 10 ^ 7 := Nat.pow_le_pow_right (by decide) (by omega)
    have b4 := mix_le hod b1 b2
    rw [(od_n hod).1, (od_n hod).2]
    simp only [show (10 : Int64) = lN 10 from rfl, lN_mul, lN_add]
    rw [lN_max (by omega) (by omega)]
    exact K h4 ((r2.tr r3).tr r4)