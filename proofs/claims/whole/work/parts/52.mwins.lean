/-! By program (wip/whole/book*.py) and hand. -/
theorem sL_rest {f : Nat → Int64} {n : Nat} : ∀ {m : Nat}, n ≤ m → (∀ j, n ≤ j → j < m → f j = 0) → sL f m = sL f n
  | 0, h, _ => by rw [show n = 0 by omega]
  | m + 1, h, hz => by
    by_cases e : n = m + 1
    · rw [e]
    · rw [sL_S f m, hz m (by omega) (by omega), Int64.add_zero, sL_rest (show n ≤ m by omega) (fun j h1 h2 => hz j h1 (by omega))]
def sE (od : Nat → Nat → Nat → Nat) (fw mr : Nat → Nat) (st : Nat → Nat → Nat → Nat → Option Int) (A : Nat → Int64) (gn k : Nat) : Int64 := sL (fun k => A k * dk (fun w m o => iL (eG od fw mr st rw_no 0 gn w m o)) k) k
theorem gJ_plain {od : Nat → Nat → Nat → Nat} {fw mr : Nat → Nat} {g m0 n0 n : Nat} {A : Nat → Int64} {A2 : Nat → Nat} {pd : Int64} {st : Nat → Nat → Nat → Nat → Option Int} (h : gJ od fw mr false g m0 n0 n n A A2 pd) (hst : ∀ n w m o, st (n + 1) w m o = none) : sE od fw mr st A (g + n) 5733 = iL (eG od fw mr st rw_no n g 0 m0 n0) := by
  have := h.2.2.2.1 (fun j w m o => iL (eG od fw mr st rw_no (n - j) (g + j) w m o)) (fun i hi w m o _ _ => by
    show iL (eG od fw mr st rw_no (n - i) (g + i) w m o) = tO od fw mr false (g + i) (fun w m o => iL (eG od fw mr st rw_no (n - (i + 1)) (g + (i + 1)) w m o)) w m o
    rw [show n - i = (n - (i + 1)) + 1 by omega]
    exact tO_eG (hst _ _ _ _))
  rw [Nat.sub_self] at this
  exact this
theorem gJ_ends {od : Nat → Nat → Nat → Nat} {fw mr : Nat → Nat} {g m0 n0 n : Nat} {A : Nat → Int64} {A2 : Nat → Nat} {pd : Int64} (h : gJ od fw mr true g m0 n0 n n A A2 pd) : sE od fw mr st_ends A (g + n) 5733 = iL (eG od fw mr st_ends rw_no n g 0 m0 n0) := by
  have := h.2.2.2.1 (fun j w m o => iL (eG od fw mr st_ends rw_no (n - j) (g + j) w m o)) (fun i hi w m o _ _ => by
    show iL (eG od fw mr st_ends rw_no (n - i) (g + i) w m o) = tO od fw mr true (g + i) (fun w m o => iL (eG od fw mr st_ends rw_no (n - (i + 1)) (g + (i + 1)) w m o)) w m o
    rw [show n - i = (n - (i + 1)) + 1 by omega]
    exact tO_ends)
  rw [Nat.sub_self] at this
  exact this
theorem gJ_stakes {od : Nat → Nat → Nat → Nat} {fw mr : Nat → Nat} {g m0 n0 n : Nat} {A : Nat → Int64} {A2 : Nat → Nat} {pd : Int64} (h : gJ od fw mr false g m0 n0 n n A A2 pd) : pd = iL (eG od fw mr st_no (rw_st od) n g 0 m0 n0) := by
  have := h.2.2.2.2 (fun j w m o => iL (eG od fw mr st_no (rw_st od) (n - j) (g + j) w m o)) (fun i hi w m o _ _ => by
    show iL (eG od fw mr st_no (rw_st od) (n - i) (g + i) w m o) = iL ((10 ^ (n - 1 - i) : Nat) : Int) * tP od false (g + i) w m o + tO od fw mr false (g + i) (fun w m o => iL (eG od fw mr st_no (rw_st od) (n - (i + 1)) (g + (i + 1)) w m o)) w m o
    rw [show n - i = (n - (i + 1)) + 1 by omega, show n - 1 - i = n - (i + 1) by omega]
    exact tO_stakes)
  rw [Nat.sub_self, sL_zero (fun k hk => by
    show A k * iL 0 = 0
    rw [iL_0, Int64.mul_zero]), Int64.add_zero] at this
  rw [show iL ((10 ^ 0 : Nat) : Int) = 1 from rfl, Int64.mul_one] at this
  exact this
section
variable {s : Nat → Int32} {l : List Tok} {le mo a b g n W : Nat} {m0 n0 : Nat}
theorem b_wins (hm : m0 ≤ 20) (hn : n0 ≤ 20) (h12 : n ≤ 12) : (eG (a_od s l a b) (n_few le) (n_mor mo) (st_wins W) rw_no n g 0 m0 n0).natAbs < 2 ^ 62 := by
  have := eG_bound (od := a_od s l a b) (fw := n_few le) (mr := n_mor mo) (st := st_wins W) (rw := rw_no) (B := 1) (R := 0) (fun m o g => (a_od_n s l a b m o g).2.2) (fun m h => n_few_le h) (fun m => n_mor_le) (fun n w m o v _ h => by
    cases n with
    | zero =>
      have : (if w = W then (1 : Int) else 0) = v := Option.some.inj h
      rw [← this]
      split <;> decide
    | succ n => cases h) (fun n g m o _ _ => Nat.zero_le _) n g 0 m0 n0 hm hn
  have h2 : 10 ^ n ≤ 10 ^ 12 := Nat.pow_le_pow_right (by decide) h12
  omega
theorem b_mean (hm : m0 ≤ 20) (hn : n0 ≤ 20) (h12 : n ≤ 12) : (eG (a_od s l a b) (n_few le) (n_mor mo) st_mean rw_no n g 0 m0 n0).natAbs < 2 ^ 62 := by
  have := eG_bound (od := a_od s l a b) (fw := n_few le) (mr := n_mor mo) (st := st_mean) (rw := rw_no) (B := 20) (R := 0) (fun m o g => (a_od_n s l a b m o g).2.2) (fun m h => n_few_le h) (fun m => n_mor_le) (fun n w m o v hm h => by
    cases n with
    | zero =>
      have : (m : Int) = v := Option.some.inj h
      rw [← this, Int.natAbs_natCast]
      omega
    | succ n => cases h) (fun n g m o _ _ => Nat.zero_le _) n g 0 m0 n0 hm hn
  have h2 : 10 ^ n ≤ 10 ^ 12 := Nat.pow_le_pow_right (by decide) h12
  omega
theorem b_ends (hm : m0 ≤ 20) (hn : n0 ≤ 20) (h12 : n ≤ 12) : (eG (a_od s l a b) (n_few le) (n_mor mo) st_ends rw_no n g 0 m0 n0).natAbs < 2 ^ 62 := by
  have := eG_bound (od := a_od s l a b) (fw := n_few le) (mr := n_mor mo) (st := st_ends) (rw := rw_no) (B := 1) (R := 0) (fun m o g => (a_od_n s l a b m o g).2.2) (fun m h => n_few_le h) (fun m => n_mor_le) (fun n w m o v _ h => by
    unfold st_ends at h
    split at h
    · rw [← Option.some.inj h, Int.natAbs_natCast]
      omega
    · cases h) (fun n g m o _ _ => Nat.zero_le _) n g 0 m0 n0 hm hn
  have h2 : 10 ^ n ≤ 10 ^ 12 := Nat.pow_le_pow_right (by decide) h12
  omega
theorem b_stakes (hm : m0 ≤ 20) (hn : n0 ≤ 20) (h10 : n ≤ 10) : (eG (a_od s l a b) (n_few le) (n_mor mo) st_no (rw_st (a_od s l a b)) n g 0 m0 n0).natAbs < 2 ^ 62 := by
  have := eG_bound (od := a_od s l a b) (fw := n_few le) (mr := n_mor mo) (st := st_no) (rw := rw_st (a_od s l a b)) (B := 0) (R := 400) (fun m o g => (a_od_n s l a b m o g).2.2) (fun m h => n_few_le h) (fun m => n_mor_le) (fun n w m o v _ h => by cases h) (fun n g m o hm ho => by
    unfold rw_st
    rw [Int.natAbs_mul, Int.natAbs_natCast, Nat.mul_comm]
    refine Nat.mul_le_mul_right _ ?_
    have h9 := (a_od_n s l a b m o g).2.2
    generalize a_od s l a b m o g = e at h9 ⊢
    have h1 : (e : Int) * o ≤ 9 * 20 := by
      have := Nat.mul_le_mul h9 ho
      rw [← Int.natCast_mul]
      omega
    have h2 : (0 : Int) ≤ (e : Int) * o := by rw [← Int.natCast_mul]; omega
    have h3 : (10 - e : Int) * m = (((10 - e) * m : Nat) : Int) := by rw [Int.natCast_mul, Int.ofNat_sub (by omega)]; rfl
    have h4 := Nat.mul_le_mul (show 10 - e ≤ 10 by omega) hm
    rw [h3]
    omega) n g 0 m0 n0 hm hn
  have h2 : 10 ^ n ≤ 10 ^ 10 := Nat.pow_le_pow_right (by decide) h10
  have h3 : (0 + n * 400) * 10 ^ n ≤ 4000 * 10 ^ 10 := Nat.mul_le_mul (by omega) h2
  omega
end
theorem e_wins_L (d : Nat) (h : mH) (i : Nat → Int32) (o t : Nat) (pd bw : Int64) (Q : Option Value → mH → Prop) (hM : h 76 = .inr (10, mObj i o t pd bw)) (A : Nat → Int64) (hA : h o = .inl (1, 5733, .inr (.inl A))) (s : Nat → Int32) (l : List Tok) (le mo a b gn : Nat) (v1 v2 v3 v4 : Int32) (W : Nat) (hW : W ≤ 12) (K : mT0 d z_X10_wins 95 [some (.ref 76), some (.int v1), some (.int v2), some (.int v3), some (.int (nI W)), some (.int v4), some (.long (sE (a_od s l a b) (n_few le) (n_mor mo) (st_wins W) A gn 5733)), none, some (.int (nI (441 * W + 441)))] [] h Q) : ∀ (r k : Nat) , k + r = 441 * W + 441 → 441 * W ≤ k → mT0 d z_X10_wins 62 [some (.ref 76), some (.int v1), some (.int v2), some (.int v3), some (.int (nI W)), some (.int v4), some (.long (sE (a_od s l a b) (n_few le) (n_mor mo) (st_wins W) A gn k)), none, some (.int (nI (k)))] [] h Q := by
  intro r
  induction r with
  | zero =>
    intro k  hk hi
    iterate 6 refine mT_s rfl rfl ?_
    rw [show (441 : Int32) * nI W + 441 = nI (441 * W + 441) from by rw [show (441 : Int32) = nI 441 from rfl, pk_mul, nI_add]]
    refine mT_icmp_ge rfl (fun _ => ?_) (fun c => absurd (nI_le (a := 441 * W + 441) (b := k) (by omega) (by omega)) c)
    obtain rfl : k = 441 * W + 441 := by omega
    rw [show (sE (a_od s l a b) (n_few le) (n_mor mo) (st_wins W) A gn (441 * W + 441)) = (sE (a_od s l a b) (n_few le) (n_mor mo) (st_wins W) A gn 5733) from (sL_rest (by omega) (fun j h1 h2 => by
      show A j * iL (if j / 441 = W then 1 else 0) = 0
      rw [if_neg (by omega), iL_0, Int64.mul_zero])).symm]
    exact K
  | succ r ih =>
    intro k  hk hi
    iterate 6 refine mT_s rfl rfl ?_
    rw [show (441 : Int32) * nI W + 441 = nI (441 * W + 441) from by rw [show (441 : Int32) = nI 441 from rfl, pk_mul, nI_add]]
    refine mT_icmp_ge rfl (fun c => absurd c (nI_ge (a := k) (b := 441 * W + 441) (by omega) (by omega))) (fun _ => ?_)
    iterate 2 refine mT_s rfl rfl ?_
    (apply mT_getf; (case hc => rfl); (case ha => first | rfl | assumption); (case hf => first | rfl | assumption))
    refine mT_s rfl rfl ?_
    (apply mT_laldK; (case hc => rfl); (case ha => first | rfl | assumption); (case hk => first | (simp only [ki_0, ki_1, ki_2, ki_3, ki_4, ki_5, ki_6, ki_7, ki_8, ki_9, ki_10, ki_11, ki_12, ki_17, ki_20, ki_21, ki_22, ki_42, ki_50, ki_58, ki_66, ki_74, ki_140, ki_174, ki_179, ki_184, ki_189, ki_441, nI_add, pk_mul]; with_reducible rfl) | (simp only [ki_0, ki_1, ki_2, ki_3, ki_4, ki_5, ki_6, ki_7, ki_8, ki_9, ki_10, ki_11, ki_12, ki_17, ki_20, ki_21, ki_22, ki_42, ki_50, ki_58, ki_66, ki_74, ki_140, ki_174, ki_179, ki_184, ki_189, ki_441, ix1, nI_add, pk_mul]; with_reducible rfl) | (simp only [ki_0, ki_1, ki_2, ki_3, ki_4, ki_5, ki_6, ki_7, ki_8, ki_9, ki_10, ki_11, ki_12, ki_17, ki_20, ki_21, ki_22, ki_42, ki_50, ki_58, ki_66, ki_74, ki_140, ki_174, ki_179, ki_184, ki_189, ki_441, ix1, ix2, nI_add, pk_mul]; with_reducible rfl) | (simp only [ki_0, ki_1, ki_2, ki_3, ki_4, ki_5, ki_6, ki_7, ki_8, ki_9, ki_10, ki_11, ki_12, ki_17, ki_20, ki_21, ki_22, ki_42, ki_50, ki_58, ki_66, ki_74, ki_140, ki_174, ki_179, ki_184, ki_189, ki_441, ix1, ix2, ix3, nI_add, pk_mul]; with_reducible rfl) | (simp (disch := omega) only [upd_n, ki_0, ki_1, ki_2, ki_3, ki_4, ki_5, ki_6, ki_7, ki_8, ki_9, ki_10, ki_11, ki_12, ki_17, ki_20, ki_21, ki_22, ki_42, ki_50, ki_58, ki_66, ki_74, ki_140, ki_174, ki_179, ki_184, ki_189, ki_441, ix1, nI_add, pk_mul]; with_reducible rfl) | (simp (disch := omega) only [upd_n, ki_0, ki_1, ki_2, ki_3, ki_4, ki_5, ki_6, ki_7, ki_8, ki_9, ki_10, ki_11, ki_12, ki_17, ki_20, ki_21, ki_22, ki_42, ki_50, ki_58, ki_66, ki_74, ki_140, ki_174, ki_179, ki_184, ki_189, ki_441, ix1, ix2, nI_add, pk_mul]; with_reducible rfl) | rfl); (case hlt => first | decide | omega); (case hn => decide))
    iterate 4 refine mT_s rfl rfl ?_
    rw [show (sE (a_od s l a b) (n_few le) (n_mor mo) (st_wins W) A gn k) + A k = (sE (a_od s l a b) (n_few le) (n_mor mo) (st_wins W) A gn (k + 1)) from by
      show _ = sL _ (k + 1)
      rw [sL_S _ k, show dk (fun w m o => iL (eG (a_od s l a b) (n_few le) (n_mor mo) (st_wins W) rw_no 0 gn w m o)) k = 1 from by
        show iL (if k / 441 = W then 1 else 0) = 1
        rw [if_pos (by omega)]
        rfl, Int64.mul_one]
      rfl, nI_1]
    exact ih (k + 1) (by omega) (by omega)
theorem e_wins (d : Nat) (h : mH) (s i : Nat → Int32) (o t : Nat) (pd bw : Int64) (Q : Option Value → mH → Prop) (hM : h 76 = .inr (10, mObj i o t pd bw)) (h77 : h 77 = .inl (0, 889, .inl s)) (hN : 87 ≤ m_nx h) (hI : s_Inv s) {l : List Tok} {le mo : Nat} (hG : sG s l le mo) (mm : Nat → Nat) (g : Nat) (hmm : ∀ j, j < 5 → mm j ≤ 20) (hs : s_at s mm g = s) (hg : g ≤ 9999) (h80 : ∃ f, h 80 = .inl (0, 5, .inl f)) (h81 : ∃ g, h 81 = .inl (2, 64, .inl g)) (h79 : ∃ f, h 79 = .inl (0, 6, .inl f)) (hot : hOT o t) (hA : ∃ A : Nat → Int64, h o = .inl (1, 5733, .inr (.inl A))) (hC : ∃ C : Nat → Int64, h t = .inl (1, 5733, .inr (.inl C)))  (x y n w part : Int32) (kN : ¬ (okP s x ∧ okP s y ∧ x ≠ y ∧ (0 ≤ n ∧ n ≤ 12) ∧ (0 ≤ w ∧ w ≤ n) ∧ (0 ≤ part ∧ part ≤ 1)) → Q (some (.long (-9223372036854775808))) h) (k : ∀ a b : Nat, a < 5 → b < 5 → x = nI a → y = nI b → okP s x → okP s y → a ≠ b → ∀ m W : Nat, m ≤ 12 → n = nI m → W ≤ m → w = nI W → (0 ≤ part ∧ part ≤ 1) → ∀ h2 o2 t2 pd2, rX [76, 77, 79, 80, 81, 82, 83] h h2 → hOT o2 t2 → h2 76 = .inr (10, mObj i o2 t2 pd2 bw) → h2 77 = .inl (0, 889, .inl s) → (∃ f, h2 79 = .inl (0, 6, .inl f)) → (∃ A : Nat → Int64, h2 o2 = .inl (1, 5733, .inr (.inl A))) → (∃ C : Nat → Int64, h2 t2 = .inl (1, 5733, .inr (.inl C))) → Q (some (.long (v_low (eG (a_od s l a b) (n_few le) (n_mor mo) (st_wins W) rw_no m g 0 (mm a) (mm b)) (10 ^ m) part))) h2) : mT0 (d + 6) z_X10_wins 0 (m_init z_X10_wins [.ref 76, .int x, .int y, .int n, .int w, .int part]) [] h Q := by
  iterate 3 refine mT_s rfl rfl ?_
  (apply mT_inv; (case hc => rfl); (case hd => rfl); (case hb => first | rfl | assumption); (case hg => rfl))
  refine e_areTwo _ h s i o t pd bw _ hM h77 hN hI x y (fun two => ?_) (fun j2 j10 hj2 hj10 e2 e10 v2 v10 hne => ?_)
  · skip
    iterate 2 refine mT_s rfl rfl ?_
    refine mT_ret rfl rfl ?_
    exact kN (fun z => two ⟨z.1, z.2.1, z.2.2.1⟩)
  · iterate 4 refine mT_s rfl rfl ?_
    refine mT_c rfl rfl ?_
    refine e_in _ _ _ _ _ _ (fun a13 b13 => ?_) (fun a13 => ?_)
    · iterate 4 refine mT_s rfl rfl ?_
      refine mT_c rfl rfl ?_
      refine e_in _ _ _ _ _ _ (fun a23 b23 => ?_) (fun a23 => ?_)
      · iterate 4 refine mT_s rfl rfl ?_
        refine mT_c rfl rfl ?_
        refine e_in _ _ _ _ _ _ (fun a33 b33 => ?_) (fun a33 => ?_)
        · iterate 6 refine mT_s rfl rfl ?_
          (apply mT_inv; (case hc => rfl); (case hd => rfl); (case hb => first | rfl | assumption); (case hg => rfl))
          obtain ⟨m, hm, hnn⟩ : ∃ m : Nat, m ≤ 12 ∧ n = nI m := i_nat (n := 12) a13 b13 (by omega)
          have b23n : w ≤ nI m := by rw [← hnn]; exact b23
          obtain ⟨W, hWm, hww⟩ : ∃ W : Nat, W ≤ m ∧ w = nI W := i_nat (n := m) a23 b23n (by omega)
          rw [hww]
          rw [e2, e10, hnn]
          refine e_gamesOn s i bw _ mm g hg hG j2 j10 hj2 hj10 hne 0 false (fun z => absurd z (by decide)) (fun z => absurd rfl z) m (by omega) _ h o t pd hot hM (by rw [hs]; exact h77) hmm h79 hN h80 h81 hA hC (fun h5 o5 t5 A5 A25 pd5 hr5 hot5 hM5 h775 h795 hA5 hC5 hJ5 => ?_)
          rw [hs] at h775
          have b0 : 10 ^ m ≤ 10 ^ 12 := Nat.pow_le_pow_right (by decide) (by omega)
          iterate 6 refine mT_s rfl rfl ?_
          have hz0 : sE (a_od s l j2 j10) (n_few le) (n_mor mo) (st_wins W) A5 (g + m) (441 * W) = 0 := sL_zero (fun j hj => by
            show A5 j * iL (if j / 441 = W then 1 else 0) = 0
            rw [if_neg (by omega), iL_0, Int64.mul_zero])
          rw [show (441 : Int32) * nI W = nI (441 * W) from by rw [show (441 : Int32) = nI 441 from rfl, pk_mul]]
          have z9 := e_wins_L (d + 6) h5 i o5 t5 pd5 bw Q hM5 A5 hA5 s l le mo j2 j10 (g + m) (nI j2) (nI j10) (nI m) part W (by omega) ?_ 441 (441 * W) (by omega) (Nat.le_refl _)
          · rw [hz0] at z9
            exact z9
          rw [gJ_plain hJ5 (fun _ _ _ _ => rfl)]
          iterate 2 refine mT_s rfl rfl ?_
          refine mT_c rfl rfl ?_
          refine e_tens _ _ _ m (by omega) ?_
          refine mT_s rfl rfl ?_
          refine mT_c rfl rfl ?_
          refine e_lowest _ _ _ (eG (a_od s l j2 j10) (n_few le) (n_mor mo) (st_wins W) rw_no m g 0 (mm j2) (mm j10)) (b_wins (hmm j2 hj2) (hmm j10 hj10) (by omega)) _ part (Nat.pow_pos (by decide)) (by omega) ?_
          refine mT_ret rfl rfl ?_
          exact k j2 j10 hj2 hj10 e2 e10 v2 v10 hne m W hm hnn hWm hww ⟨a33, b33⟩ h5 o5 t5 pd5 hr5 hot5 hM5 h775 h795 ⟨_, hA5⟩ hC5
        · iterate 2 refine mT_s rfl rfl ?_
          refine mT_ret rfl rfl ?_
          exact kN (fun z => a33 z.2.2.2.2.2)
      · iterate 2 refine mT_s rfl rfl ?_
        refine mT_ret rfl rfl ?_
        exact kN (fun z => a23 z.2.2.2.2.1)
    · iterate 2 refine mT_s rfl rfl ?_
      refine mT_ret rfl rfl ?_
      exact kN (fun z => a13 z.2.2.2.1)
