/-! By program (wip/whole/book*.py) and hand. -/
theorem c_wins (L : Nat) (xs : Nat → Int32) (B U : Nat) (it : Int32) (s s2 tr : Nat → Int32) (c9 : Nat) (l : List Tok) (le mo nb : Nat) (bA bB : Nat → Nat) (bW : Nat → Bool) (h : mH) (W : WP L xs B U it s s2 tr c9 l le mo nb bA bB bW h) (x y n w part : Int32) : ∃ (ans : Int64) (M : mH → Prop), (∀ h2, M h2 → CM L xs h2 ∧ ∃ fs, h2 76 = .inr (10, fs)) ∧ (∀ (d : Nat) (Q : Option Value → mH → Prop), (∀ h2, M h2 → Q (some (.long ans)) h2) → mT0 (d + 30) z_X9_wins 0 (m_init z_X9_wins [.ref 20, .int x, .int y, .int n, .int w, .int part]) [] h Q) ∧ ∀ h2, M h2 → ∀ (d : Nat) (Q : Option Value → mH → Prop), (∀ h3, WW L xs (B + 2) (U + 103) h3 → Q (some (.long ans)) h3) → mT0 (d + 30) z_X10_wins 0 (m_init z_X10_wins [.ref 76, .int x, .int y, .int n, .int w, .int part]) [] h2 Q := by
  obtain ⟨c60, hS, ⟨i, iv, X⟩, hC, hM, hCM, hB, hU⟩ := id W
  obtain ⟨hI, hG, hBk, ⟨nt, ta, hT⟩, ⟨n6, mm, g, hn6, hn5, hmm, hm1, hs, hg⟩, hsK, hkd, h11⟩ := id hS
  have hX := hC.1
  have hle := hG.2.2.1.2
  have hmo := hG.2.2.2.2
  have hl140 := hG.1.2.1
  have hbk := hS.b
  have hnb8 := hBk.1
  have hnb := hBk.2.1
  have hPu := hC.c62
  have h72 := hC.c72
  have h73 := hC.c73
  have hSh := hC.2.2.2.1
  have hDu := hC.2.2.2.2.2.1
  have hOr := hC.2.2.2.2.2.2.2.1
  refine ⟨aI (okP s x ∧ okP s y ∧ x ≠ y ∧ (0 ≤ n ∧ n ≤ 12) ∧ (0 ≤ w ∧ w ≤ n) ∧ (0 ≤ part ∧ part ≤ 1)) ((v_low (eG (a_od s l (x.toNatClampNeg) (y.toNatClampNeg)) (n_few le) (n_mor mo) (st_wins w.toNatClampNeg) rw_no n.toNatClampNeg g 0 (mm (x.toNatClampNeg)) (mm (y.toNatClampNeg))) (10 ^ n.toNatClampNeg) part)) ((-9223372036854775808)), WP L xs B U it s s2 tr c9 l le mo nb bA bB bW, fun h2 W2 => ⟨W2.2.2.2.2.2.1, W2.2.2.2.2.1.r⟩, fun d Q K => ?_, fun h2 W2 d Q K => ?_⟩
  · skip
    refine mT0_d (e := d + 22 + 8) (by omega) ?_
    refine x_winsP (d + 22) h Q it hX i iv s hI l le mo nb _ _ X hle hmo mm g hmm hs hg hDu n6 hn6 hn5 hm1 x y n w part (fun v => ?_) (fun a b ha hb ix1 ix2 va vb hab m W9 hm hnn hW hww hpt h3 f3 D3 X3 => ?_)
    · have K9 := K h W
      rw [aI_n v] at K9
      exact K9
    · have hcond : okP s x ∧ okP s y ∧ x ≠ y ∧ (0 ≤ n ∧ n ≤ 12) ∧ (0 ≤ w ∧ w ≤ n) ∧ (0 ≤ part ∧ part ≤ 1) := ⟨va, vb, (fun z => hab (by rw [ix1, ix2] at z; exact (nI_eq (by omega) (by omega)).mp z)), ⟨by rw [hnn]; exact nI_le (a := 0) (by omega) (by omega), by rw [hnn]; exact nI_le (b := 12) (by omega) (by omega)⟩, ⟨by rw [hww]; exact nI_le (a := 0) (by omega) (by omega), by rw [hww, hnn]; exact nI_le hW (by omega)⟩, hpt⟩
      subst ix1 ix2 hnn hww
      have K9 := K h3 (W.x (fun a z => f3 a (by omega) (by omega)) ⟨_, _, X3⟩ (hC.f53 hCM f3 D3))
      rw [aI_p hcond, i_cl a (by omega), i_cl b (by omega), i_cl m (by omega), i_cl W9 (by omega)] at K9
      exact K9
  · skip
    obtain ⟨-, -, -, hC2, hM2, hCM2, -, -⟩ := id W2
    obtain ⟨ir, o, t, pd, bw, h76, h77, h78, hir4, h79, h80, h81, hot, hA, hCC, h84, h85, h86, hir20⟩ := hM2
    have hN := hCM2.2.1
    refine mT0_d (e := d + 24 + 6) (by omega) ?_
    refine e_wins (d + 24) h2 s ir o t pd bw Q h76 h77 hN hI hG mm g hmm hs hg h80 h81 h79 hot hA hCC x y n w part (fun v => ?_) (fun a b ha hb ix1 ix2 va vb hab m W9 hm hnn hW hww hpt h3 o3 t3 pd3 r3 hot3 h763 h773 h793 hA3 hC3 => ?_)
    · have K9 := K h2 (show WW L xs (B + 2) (U + 103) h2 from ⟨_, _, _, _, _, _, _, _, _, _, _, _, W2.1, W2.2.1, W2.2.2.1, W2.2.2.2.1, W2.2.2.2.2.1, W2.2.2.2.2.2.1, by have := W2.2.2.2.2.2.2.1; omega, by have := W2.2.2.2.2.2.2.2; omega⟩)
      rw [aI_n v] at K9
      exact K9
    · have hcond : okP s x ∧ okP s y ∧ x ≠ y ∧ (0 ≤ n ∧ n ≤ 12) ∧ (0 ≤ w ∧ w ≤ n) ∧ (0 ≤ part ∧ part ≤ 1) := ⟨va, vb, (fun z => hab (by rw [ix1, ix2] at z; exact (nI_eq (by omega) (by omega)).mp z)), ⟨by rw [hnn]; exact nI_le (a := 0) (by omega) (by omega), by rw [hnn]; exact nI_le (b := 12) (by omega) (by omega)⟩, ⟨by rw [hww]; exact nI_le (a := 0) (by omega) (by omega), by rw [hww, hnn]; exact nI_le hW (by omega)⟩, hpt⟩
      subst ix1 ix2 hnn hww
      have K9 := K h3 (W2.e (r3.mono (by decide)).fe (MX.g (r3.mono (by decide)) h78 h86 h763 h773 hir4 hir20 h793 hot3 hA3 hC3 (ex_c h84 (r3.1 84 (by decide))) (ex_c h85 (r3.1 85 (by decide)))))
      rw [aI_p hcond, i_cl a (by omega), i_cl b (by omega), i_cl m (by omega), i_cl W9 (by omega)] at K9
      exact K9
theorem c_mean (L : Nat) (xs : Nat → Int32) (B U : Nat) (it : Int32) (s s2 tr : Nat → Int32) (c9 : Nat) (l : List Tok) (le mo nb : Nat) (bA bB : Nat → Nat) (bW : Nat → Bool) (h : mH) (W : WP L xs B U it s s2 tr c9 l le mo nb bA bB bW h) (x y n part : Int32) : ∃ (ans : Int64) (M : mH → Prop), (∀ h2, M h2 → CM L xs h2 ∧ ∃ fs, h2 76 = .inr (10, fs)) ∧ (∀ (d : Nat) (Q : Option Value → mH → Prop), (∀ h2, M h2 → Q (some (.long ans)) h2) → mT0 (d + 30) z_X9_mean 0 (m_init z_X9_mean [.ref 20, .int x, .int y, .int n, .int part]) [] h Q) ∧ ∀ h2, M h2 → ∀ (d : Nat) (Q : Option Value → mH → Prop), (∀ h3, WW L xs (B + 2) (U + 103) h3 → Q (some (.long ans)) h3) → mT0 (d + 30) z_X10_mean 0 (m_init z_X10_mean [.ref 76, .int x, .int y, .int n, .int part]) [] h2 Q := by
  obtain ⟨c60, hS, ⟨i, iv, X⟩, hC, hM, hCM, hB, hU⟩ := id W
  obtain ⟨hI, hG, hBk, ⟨nt, ta, hT⟩, ⟨n6, mm, g, hn6, hn5, hmm, hm1, hs, hg⟩, hsK, hkd, h11⟩ := id hS
  have hX := hC.1
  have hle := hG.2.2.1.2
  have hmo := hG.2.2.2.2
  have hl140 := hG.1.2.1
  have hbk := hS.b
  have hnb8 := hBk.1
  have hnb := hBk.2.1
  have hPu := hC.c62
  have h72 := hC.c72
  have h73 := hC.c73
  have hSh := hC.2.2.2.1
  have hDu := hC.2.2.2.2.2.1
  have hOr := hC.2.2.2.2.2.2.2.1
  refine ⟨aI (okP s x ∧ okP s y ∧ x ≠ y ∧ (0 ≤ n ∧ n ≤ 12) ∧ (0 ≤ part ∧ part ≤ 1)) ((v_low (eG (a_od s l (x.toNatClampNeg) (y.toNatClampNeg)) (n_few le) (n_mor mo) st_mean rw_no n.toNatClampNeg g 0 (mm (x.toNatClampNeg)) (mm (y.toNatClampNeg))) (10 ^ n.toNatClampNeg) part)) ((-9223372036854775808)), WP L xs B U it s s2 tr c9 l le mo nb bA bB bW, fun h2 W2 => ⟨W2.2.2.2.2.2.1, W2.2.2.2.2.1.r⟩, fun d Q K => ?_, fun h2 W2 d Q K => ?_⟩
  · skip
    refine mT0_d (e := d + 22 + 8) (by omega) ?_
    refine x_meanP (d + 22) h Q it hX i iv s hI l le mo nb _ _ X hle hmo mm g hmm hs hg hDu n6 hn6 hn5 hm1 x y n part (fun v => ?_) (fun a b ha hb ix1 ix2 va vb hab m hm hnn hpt h3 f3 D3 X3 => ?_)
    · have K9 := K h W
      rw [aI_n v] at K9
      exact K9
    · have hcond : okP s x ∧ okP s y ∧ x ≠ y ∧ (0 ≤ n ∧ n ≤ 12) ∧ (0 ≤ part ∧ part ≤ 1) := ⟨va, vb, (fun z => hab (by rw [ix1, ix2] at z; exact (nI_eq (by omega) (by omega)).mp z)), ⟨by rw [hnn]; exact nI_le (a := 0) (by omega) (by omega), by rw [hnn]; exact nI_le (b := 12) (by omega) (by omega)⟩, hpt⟩
      subst ix1 ix2 hnn
      have K9 := K h3 (W.x (fun a z => f3 a (by omega) (by omega)) ⟨_, _, X3⟩ (hC.f53 hCM f3 D3))
      rw [aI_p hcond, i_cl a (by omega), i_cl b (by omega), i_cl m (by omega)] at K9
      exact K9
  · skip
    obtain ⟨-, -, -, hC2, hM2, hCM2, -, -⟩ := id W2
    obtain ⟨ir, o, t, pd, bw, h76, h77, h78, hir4, h79, h80, h81, hot, hA, hCC, h84, h85, h86, hir20⟩ := hM2
    have hN := hCM2.2.1
    refine mT0_d (e := d + 24 + 6) (by omega) ?_
    refine e_mean (d + 24) h2 s ir o t pd bw Q h76 h77 hN hI hG mm g hmm hs hg h80 h81 h79 hot hA hCC x y n part (fun v => ?_) (fun a b ha hb ix1 ix2 va vb hab m hm hnn hpt h3 o3 t3 pd3 r3 hot3 h763 h773 h793 hA3 hC3 => ?_)
    · have K9 := K h2 (show WW L xs (B + 2) (U + 103) h2 from ⟨_, _, _, _, _, _, _, _, _, _, _, _, W2.1, W2.2.1, W2.2.2.1, W2.2.2.2.1, W2.2.2.2.2.1, W2.2.2.2.2.2.1, by have := W2.2.2.2.2.2.2.1; omega, by have := W2.2.2.2.2.2.2.2; omega⟩)
      rw [aI_n v] at K9
      exact K9
    · have hcond : okP s x ∧ okP s y ∧ x ≠ y ∧ (0 ≤ n ∧ n ≤ 12) ∧ (0 ≤ part ∧ part ≤ 1) := ⟨va, vb, (fun z => hab (by rw [ix1, ix2] at z; exact (nI_eq (by omega) (by omega)).mp z)), ⟨by rw [hnn]; exact nI_le (a := 0) (by omega) (by omega), by rw [hnn]; exact nI_le (b := 12) (by omega) (by omega)⟩, hpt⟩
      subst ix1 ix2 hnn
      have K9 := K h3 (W2.e (r3.mono (by decide)).fe (MX.g (r3.mono (by decide)) h78 h86 h763 h773 hir4 hir20 h793 hot3 hA3 hC3 (ex_c h84 (r3.1 84 (by decide))) (ex_c h85 (r3.1 85 (by decide)))))
      rw [aI_p hcond, i_cl a (by omega), i_cl b (by omega), i_cl m (by omega)] at K9
      exact K9
theorem c_ends (L : Nat) (xs : Nat → Int32) (B U : Nat) (it : Int32) (s s2 tr : Nat → Int32) (c9 : Nat) (l : List Tok) (le mo nb : Nat) (bA bB : Nat → Nat) (bW : Nat → Bool) (h : mH) (W : WP L xs B U it s s2 tr c9 l le mo nb bA bB bW h) (x y n part : Int32) : ∃ (ans : Int64) (M : mH → Prop), (∀ h2, M h2 → CM L xs h2 ∧ ∃ fs, h2 76 = .inr (10, fs)) ∧ (∀ (d : Nat) (Q : Option Value → mH → Prop), (∀ h2, M h2 → Q (some (.long ans)) h2) → mT0 (d + 30) z_X9_ends 0 (m_init z_X9_ends [.ref 20, .int x, .int y, .int n, .int part]) [] h Q) ∧ ∀ h2, M h2 → ∀ (d : Nat) (Q : Option Value → mH → Prop), (∀ h3, WW L xs (B + 2) (U + 103) h3 → Q (some (.long ans)) h3) → mT0 (d + 30) z_X10_ends 0 (m_init z_X10_ends [.ref 76, .int x, .int y, .int n, .int part]) [] h2 Q := by
  obtain ⟨c60, hS, ⟨i, iv, X⟩, hC, hM, hCM, hB, hU⟩ := id W
  obtain ⟨hI, hG, hBk, ⟨nt, ta, hT⟩, ⟨n6, mm, g, hn6, hn5, hmm, hm1, hs, hg⟩, hsK, hkd, h11⟩ := id hS
  have hX := hC.1
  have hle := hG.2.2.1.2
  have hmo := hG.2.2.2.2
  have hl140 := hG.1.2.1
  have hbk := hS.b
  have hnb8 := hBk.1
  have hnb := hBk.2.1
  have hPu := hC.c62
  have h72 := hC.c72
  have h73 := hC.c73
  have hSh := hC.2.2.2.1
  have hDu := hC.2.2.2.2.2.1
  have hOr := hC.2.2.2.2.2.2.2.1
  refine ⟨aI (okP s x ∧ okP s y ∧ x ≠ y ∧ (0 ≤ n ∧ n ≤ 12) ∧ (0 ≤ part ∧ part ≤ 1)) ((v_low (eG (a_od s l (x.toNatClampNeg) (y.toNatClampNeg)) (n_few le) (n_mor mo) st_ends rw_no n.toNatClampNeg g 0 (mm (x.toNatClampNeg)) (mm (y.toNatClampNeg))) (10 ^ n.toNatClampNeg) part)) ((-9223372036854775808)), WP L xs B U it s s2 tr c9 l le mo nb bA bB bW, fun h2 W2 => ⟨W2.2.2.2.2.2.1, W2.2.2.2.2.1.r⟩, fun d Q K => ?_, fun h2 W2 d Q K => ?_⟩
  · skip
    refine mT0_d (e := d + 22 + 8) (by omega) ?_
    refine x_endsP (d + 22) h Q it hX i iv s hI l le mo nb _ _ X hle hmo mm g hmm hs hg hDu n6 hn6 hn5 hm1 x y n part (fun v => ?_) (fun a b ha hb ix1 ix2 va vb hab m hm hnn hpt h3 f3 D3 X3 => ?_)
    · have K9 := K h W
      rw [aI_n v] at K9
      exact K9
    · have hcond : okP s x ∧ okP s y ∧ x ≠ y ∧ (0 ≤ n ∧ n ≤ 12) ∧ (0 ≤ part ∧ part ≤ 1) := ⟨va, vb, (fun z => hab (by rw [ix1, ix2] at z; exact (nI_eq (by omega) (by omega)).mp z)), ⟨by rw [hnn]; exact nI_le (a := 0) (by omega) (by omega), by rw [hnn]; exact nI_le (b := 12) (by omega) (by omega)⟩, hpt⟩
      subst ix1 ix2 hnn
      have K9 := K h3 (W.x (fun a z => f3 a (by omega) (by omega)) ⟨_, _, X3⟩ (hC.f53 hCM f3 D3))
      rw [aI_p hcond, i_cl a (by omega), i_cl b (by omega), i_cl m (by omega)] at K9
      exact K9
  · skip
    obtain ⟨-, -, -, hC2, hM2, hCM2, -, -⟩ := id W2
    obtain ⟨ir, o, t, pd, bw, h76, h77, h78, hir4, h79, h80, h81, hot, hA, hCC, h84, h85, h86, hir20⟩ := hM2
    have hN := hCM2.2.1
    refine mT0_d (e := d + 24 + 6) (by omega) ?_
    refine e_ends (d + 24) h2 s ir o t pd bw Q h76 h77 hN hI hG mm g hmm hs hg h80 h81 h79 hot hA hCC x y n part (fun v => ?_) (fun a b ha hb ix1 ix2 va vb hab m hm hnn hpt h3 o3 t3 pd3 r3 hot3 h763 h773 h793 hA3 hC3 => ?_)
    · have K9 := K h2 (show WW L xs (B + 2) (U + 103) h2 from ⟨_, _, _, _, _, _, _, _, _, _, _, _, W2.1, W2.2.1, W2.2.2.1, W2.2.2.2.1, W2.2.2.2.2.1, W2.2.2.2.2.2.1, by have := W2.2.2.2.2.2.2.1; omega, by have := W2.2.2.2.2.2.2.2; omega⟩)
      rw [aI_n v] at K9
      exact K9
    · have hcond : okP s x ∧ okP s y ∧ x ≠ y ∧ (0 ≤ n ∧ n ≤ 12) ∧ (0 ≤ part ∧ part ≤ 1) := ⟨va, vb, (fun z => hab (by rw [ix1, ix2] at z; exact (nI_eq (by omega) (by omega)).mp z)), ⟨by rw [hnn]; exact nI_le (a := 0) (by omega) (by omega), by rw [hnn]; exact nI_le (b := 12) (by omega) (by omega)⟩, hpt⟩
      subst ix1 ix2 hnn
      have K9 := K h3 (W2.e (r3.mono (by decide)).fe (MX.g (r3.mono (by decide)) h78 h86 h763 h773 hir4 hir20 h793 hot3 hA3 hC3 (ex_c h84 (r3.1 84 (by decide))) (ex_c h85 (r3.1 85 (by decide)))))
      rw [aI_p hcond, i_cl a (by omega), i_cl b (by omega), i_cl m (by omega)] at K9
      exact K9
theorem c_stakes (L : Nat) (xs : Nat → Int32) (B U : Nat) (it : Int32) (s s2 tr : Nat → Int32) (c9 : Nat) (l : List Tok) (le mo nb : Nat) (bA bB : Nat → Nat) (bW : Nat → Bool) (h : mH) (W : WP L xs B U it s s2 tr c9 l le mo nb bA bB bW h) (x y n part : Int32) : ∃ (ans : Int64) (M : mH → Prop), (∀ h2, M h2 → CM L xs h2 ∧ ∃ fs, h2 76 = .inr (10, fs)) ∧ (∀ (d : Nat) (Q : Option Value → mH → Prop), (∀ h2, M h2 → Q (some (.long ans)) h2) → mT0 (d + 30) z_X9_stakes 0 (m_init z_X9_stakes [.ref 20, .int x, .int y, .int n, .int part]) [] h Q) ∧ ∀ h2, M h2 → ∀ (d : Nat) (Q : Option Value → mH → Prop), (∀ h3, WW L xs (B + 2) (U + 103) h3 → Q (some (.long ans)) h3) → mT0 (d + 30) z_X10_stakes 0 (m_init z_X10_stakes [.ref 76, .int x, .int y, .int n, .int part]) [] h2 Q := by
  obtain ⟨c60, hS, ⟨i, iv, X⟩, hC, hM, hCM, hB, hU⟩ := id W
  obtain ⟨hI, hG, hBk, ⟨nt, ta, hT⟩, ⟨n6, mm, g, hn6, hn5, hmm, hm1, hs, hg⟩, hsK, hkd, h11⟩ := id hS
  have hX := hC.1
  have hle := hG.2.2.1.2
  have hmo := hG.2.2.2.2
  have hl140 := hG.1.2.1
  have hbk := hS.b
  have hnb8 := hBk.1
  have hnb := hBk.2.1
  have hPu := hC.c62
  have h72 := hC.c72
  have h73 := hC.c73
  have hSh := hC.2.2.2.1
  have hDu := hC.2.2.2.2.2.1
  have hOr := hC.2.2.2.2.2.2.2.1
  refine ⟨aI (okP s x ∧ okP s y ∧ x ≠ y ∧ (0 ≤ n ∧ n ≤ 10) ∧ (0 ≤ part ∧ part ≤ 1)) ((v_low (eG (a_od s l (x.toNatClampNeg) (y.toNatClampNeg)) (n_few le) (n_mor mo) st_no (rw_st (a_od s l (x.toNatClampNeg) (y.toNatClampNeg))) n.toNatClampNeg g 0 (mm (x.toNatClampNeg)) (mm (y.toNatClampNeg))) (10 ^ n.toNatClampNeg) part)) ((-9223372036854775808)), WP L xs B U it s s2 tr c9 l le mo nb bA bB bW, fun h2 W2 => ⟨W2.2.2.2.2.2.1, W2.2.2.2.2.1.r⟩, fun d Q K => ?_, fun h2 W2 d Q K => ?_⟩
  · skip
    refine mT0_d (e := d + 22 + 8) (by omega) ?_
    refine x_stakesP (d + 22) h Q it hX i iv s hI l le mo nb _ _ X hle hmo mm g hmm hs hg hDu n6 hn6 hn5 hm1 x y n part (fun v => ?_) (fun a b ha hb ix1 ix2 va vb hab m hm hnn hpt h3 f3 D3 X3 => ?_)
    · have K9 := K h W
      rw [aI_n v] at K9
      exact K9
    · have hcond : okP s x ∧ okP s y ∧ x ≠ y ∧ (0 ≤ n ∧ n ≤ 10) ∧ (0 ≤ part ∧ part ≤ 1) := ⟨va, vb, (fun z => hab (by rw [ix1, ix2] at z; exact (nI_eq (by omega) (by omega)).mp z)), ⟨by rw [hnn]; exact nI_le (a := 0) (by omega) (by omega), by rw [hnn]; exact nI_le (b := 10) (by omega) (by omega)⟩, hpt⟩
      subst ix1 ix2 hnn
      have K9 := K h3 (W.x (fun a z => f3 a (by omega) (by omega)) ⟨_, _, X3⟩ (hC.f53 hCM f3 D3))
      rw [aI_p hcond, i_cl a (by omega), i_cl b (by omega), i_cl m (by omega)] at K9
      exact K9
  · skip
    obtain ⟨-, -, -, hC2, hM2, hCM2, -, -⟩ := id W2
    obtain ⟨ir, o, t, pd, bw, h76, h77, h78, hir4, h79, h80, h81, hot, hA, hCC, h84, h85, h86, hir20⟩ := hM2
    have hN := hCM2.2.1
    refine mT0_d (e := d + 24 + 6) (by omega) ?_
    refine e_stakes (d + 24) h2 s ir o t pd bw Q h76 h77 hN hI hG mm g hmm hs hg h80 h81 h79 hot hA hCC x y n part (fun v => ?_) (fun a b ha hb ix1 ix2 va vb hab m hm hnn hpt h3 o3 t3 pd3 r3 hot3 h763 h773 h793 hA3 hC3 => ?_)
    · have K9 := K h2 (show WW L xs (B + 2) (U + 103) h2 from ⟨_, _, _, _, _, _, _, _, _, _, _, _, W2.1, W2.2.1, W2.2.2.1, W2.2.2.2.1, W2.2.2.2.2.1, W2.2.2.2.2.2.1, by have := W2.2.2.2.2.2.2.1; omega, by have := W2.2.2.2.2.2.2.2; omega⟩)
      rw [aI_n v] at K9
      exact K9
    · have hcond : okP s x ∧ okP s y ∧ x ≠ y ∧ (0 ≤ n ∧ n ≤ 10) ∧ (0 ≤ part ∧ part ≤ 1) := ⟨va, vb, (fun z => hab (by rw [ix1, ix2] at z; exact (nI_eq (by omega) (by omega)).mp z)), ⟨by rw [hnn]; exact nI_le (a := 0) (by omega) (by omega), by rw [hnn]; exact nI_le (b := 10) (by omega) (by omega)⟩, hpt⟩
      subst ix1 ix2 hnn
      have K9 := K h3 (W2.e (r3.mono (by decide)).fe (MX.g (r3.mono (by decide)) h78 h86 h763 h773 hir4 hir20 h793 hot3 hA3 hC3 (ex_c h84 (r3.1 84 (by decide))) (ex_c h85 (r3.1 85 (by decide)))))
      rw [aI_p hcond, i_cl a (by omega), i_cl b (by omega), i_cl m (by omega)] at K9
      exact K9
theorem c_series (L : Nat) (xs : Nat → Int32) (B U : Nat) (it : Int32) (s s2 tr : Nat → Int32) (c9 : Nat) (l : List Tok) (le mo nb : Nat) (bA bB : Nat → Nat) (bW : Nat → Bool) (h : mH) (W : WP L xs B U it s s2 tr c9 l le mo nb bA bB bW h) (x y n part : Int32) : ∃ (ans : Int64) (M : mH → Prop), (∀ h2, M h2 → CM L xs h2 ∧ ∃ fs, h2 76 = .inr (10, fs)) ∧ (∀ (d : Nat) (Q : Option Value → mH → Prop), (∀ h2, M h2 → Q (some (.long ans)) h2) → mT0 (d + 30) z_X9_series 0 (m_init z_X9_series [.ref 20, .int x, .int y, .int n, .int part]) [] h Q) ∧ ∀ h2, M h2 → ∀ (d : Nat) (Q : Option Value → mH → Prop), (∀ h3, WW L xs (B + 2) (U + 103) h3 → Q (some (.long ans)) h3) → mT0 (d + 30) z_X10_series 0 (m_init z_X10_series [.ref 76, .int x, .int y, .int n, .int part]) [] h2 Q := by
  obtain ⟨c60, hS, ⟨i, iv, X⟩, hC, hM, hCM, hB, hU⟩ := id W
  obtain ⟨hI, hG, hBk, ⟨nt, ta, hT⟩, ⟨n6, mm, g, hn6, hn5, hmm, hm1, hs, hg⟩, hsK, hkd, h11⟩ := id hS
  have hX := hC.1
  have hle := hG.2.2.1.2
  have hmo := hG.2.2.2.2
  have hl140 := hG.1.2.1
  have hbk := hS.b
  have hnb8 := hBk.1
  have hnb := hBk.2.1
  have hPu := hC.c62
  have h72 := hC.c72
  have h73 := hC.c73
  have hSh := hC.2.2.2.1
  have hDu := hC.2.2.2.2.2.1
  have hOr := hC.2.2.2.2.2.2.2.1
  refine ⟨aI (okP s x ∧ okP s y ∧ x ≠ y ∧ (1 ≤ n ∧ n ≤ 5) ∧ (0 ≤ part ∧ part ≤ 1)) ((v_low (eG (a_od s l (x.toNatClampNeg) (y.toNatClampNeg)) (n_few le) (n_mor mo) (st_first n.toNatClampNeg) rw_no (2 * n.toNatClampNeg - 1) g 0 (mm (x.toNatClampNeg)) (mm (y.toNatClampNeg))) (10 ^ (2 * n.toNatClampNeg - 1)) part)) ((-9223372036854775808)), WP L xs B U it s s2 tr c9 l le mo nb bA bB bW, fun h2 W2 => ⟨W2.2.2.2.2.2.1, W2.2.2.2.2.1.r⟩, fun d Q K => ?_, fun h2 W2 d Q K => ?_⟩
  · skip
    refine mT0_d (e := d + 22 + 8) (by omega) ?_
    refine x_seriesP (d + 22) h Q it hX i iv s hI l le mo nb _ _ X hle hmo mm g hmm hs hg hDu n6 hn6 hn5 hm1 x y n part (fun v => ?_) (fun a b ha hb ix1 ix2 va vb hab m hmA hm hnn hpt h3 f3 D3 X3 => ?_)
    · have K9 := K h W
      rw [aI_n v] at K9
      exact K9
    · have hcond : okP s x ∧ okP s y ∧ x ≠ y ∧ (1 ≤ n ∧ n ≤ 5) ∧ (0 ≤ part ∧ part ≤ 1) := ⟨va, vb, (fun z => hab (by rw [ix1, ix2] at z; exact (nI_eq (by omega) (by omega)).mp z)), ⟨by rw [hnn]; exact nI_le (a := 1) (by omega) (by omega), by rw [hnn]; exact nI_le (b := 5) (by omega) (by omega)⟩, hpt⟩
      subst ix1 ix2 hnn
      have K9 := K h3 (W.x (fun a z => f3 a (by omega) (by omega)) ⟨_, _, X3⟩ (hC.f53 hCM f3 D3))
      rw [aI_p hcond, i_cl a (by omega), i_cl b (by omega), i_cl m (by omega)] at K9
      exact K9
  · skip
    obtain ⟨-, -, -, hC2, hM2, hCM2, -, -⟩ := id W2
    obtain ⟨ir, o, t, pd, bw, h76, h77, h78, hir4, h79, h80, h81, hot, hA, hCC, h84, h85, h86, hir20⟩ := hM2
    have hN := hCM2.2.1
    refine mT0_d (e := d + 17 + 13) (by omega) ?_
    refine e_series (d + 17) h2 s ir o t pd bw Q h76 h77 hN hI hG mm g hmm hs hg h80 h81 x y n part (fun v => ?_) (fun a b ha hb ix1 ix2 va vb hab m hmA hm hnn hpt h3 r3 h773 => ?_)
    · have K9 := K h2 (show WW L xs (B + 2) (U + 103) h2 from ⟨_, _, _, _, _, _, _, _, _, _, _, _, W2.1, W2.2.1, W2.2.2.1, W2.2.2.2.1, W2.2.2.2.2.1, W2.2.2.2.2.2.1, by have := W2.2.2.2.2.2.2.1; omega, by have := W2.2.2.2.2.2.2.2; omega⟩)
      rw [aI_n v] at K9
      exact K9
    · have hcond : okP s x ∧ okP s y ∧ x ≠ y ∧ (1 ≤ n ∧ n ≤ 5) ∧ (0 ≤ part ∧ part ≤ 1) := ⟨va, vb, (fun z => hab (by rw [ix1, ix2] at z; exact (nI_eq (by omega) (by omega)).mp z)), ⟨by rw [hnn]; exact nI_le (a := 1) (by omega) (by omega), by rw [hnn]; exact nI_le (b := 5) (by omega) (by omega)⟩, hpt⟩
      subst ix1 ix2 hnn
      have K9 := K h3 (W2.e (r3.mono (by decide)).fe (MX.g (r3.mono (by decide)) h78 h86 ((r3.1 76 (by decide)).trans h76) h773 hir4 hir20 (ex_c h79 (r3.1 79 (by decide))) hot (ex_c hA (r3.1 o (by rcases hot with ⟨rfl, rfl⟩ | ⟨rfl, rfl⟩ <;> decide))) (ex_c hCC (r3.1 t (by rcases hot with ⟨rfl, rfl⟩ | ⟨rfl, rfl⟩ <;> decide))) (ex_c h84 (r3.1 84 (by decide))) (ex_c h85 (r3.1 85 (by decide)))))
      rw [aI_p hcond, i_cl a (by omega), i_cl b (by omega), i_cl m (by omega)] at K9
      exact K9
theorem c_purpose (L : Nat) (xs : Nat → Int32) (B U : Nat) (it : Int32) (s s2 tr : Nat → Int32) (c9 : Nat) (l : List Tok) (le mo nb : Nat) (bA bB : Nat → Nat) (bW : Nat → Bool) (h : mH) (W : WP L xs B U it s s2 tr c9 l le mo nb bA bB bW h) (x y n part : Int32) : ∃ (ans : Int64) (M : mH → Prop), (∀ h2, M h2 → CM L xs h2 ∧ ∃ fs, h2 76 = .inr (10, fs)) ∧ (∀ (d : Nat) (Q : Option Value → mH → Prop), (∀ h2, M h2 → Q (some (.long ans)) h2) → mT0 (d + 30) z_X9_purpose 0 (m_init z_X9_purpose [.ref 20, .int x, .int y, .int n, .int part]) [] h Q) ∧ ∀ h2, M h2 → ∀ (d : Nat) (Q : Option Value → mH → Prop), (∀ h3, WW L xs (B + 2) (U + 103) h3 → Q (some (.long ans)) h3) → mT0 (d + 30) z_X10_purpose 0 (m_init z_X10_purpose [.ref 76, .int x, .int y, .int n, .int part]) [] h2 Q := by
  obtain ⟨c60, hS, ⟨i, iv, X⟩, hC, hM, hCM, hB, hU⟩ := id W
  obtain ⟨hI, hG, hBk, ⟨nt, ta, hT⟩, ⟨n6, mm, g, hn6, hn5, hmm, hm1, hs, hg⟩, hsK, hkd, h11⟩ := id hS
  have hX := hC.1
  have hle := hG.2.2.1.2
  have hmo := hG.2.2.2.2
  have hl140 := hG.1.2.1
  have hbk := hS.b
  have hnb8 := hBk.1
  have hnb := hBk.2.1
  have hPu := hC.c62
  have h72 := hC.c72
  have h73 := hC.c73
  have hSh := hC.2.2.2.1
  have hDu := hC.2.2.2.2.2.1
  have hOr := hC.2.2.2.2.2.2.2.1
  refine ⟨aI (okP s x ∧ okP s y ∧ x ≠ y ∧ (1 ≤ n ∧ n ≤ 8) ∧ (0 ≤ part ∧ part ≤ 1)) ((v_low (nP (a_od s l (x.toNatClampNeg) (y.toNatClampNeg)) (n_few le) (n_mor mo) (n.toNatClampNeg - 1) g (mm (x.toNatClampNeg)) (mm (y.toNatClampNeg))) (10 ^ n.toNatClampNeg) part)) ((-9223372036854775808)), WP L xs B U it s s2 tr c9 l le mo nb bA bB bW, fun h2 W2 => ⟨W2.2.2.2.2.2.1, W2.2.2.2.2.1.r⟩, fun d Q K => ?_, fun h2 W2 d Q K => ?_⟩
  · skip
    refine mT0_d (e := d + 9 + 21) (by omega) ?_
    refine x_purposeP (d + 9) h Q it hX i iv s hI l le mo nb _ _ X hle hmo hPu mm g hmm hs hg x y n part (fun v => ?_) (fun a b ha hb ix1 ix2 va vb hab m hm hnn hpt h3 f3 h303 h623 X3 => ?_)
    · have K9 := K h W
      rw [aI_n v] at K9
      exact K9
    · have hcond : okP s x ∧ okP s y ∧ x ≠ y ∧ (1 ≤ n ∧ n ≤ 8) ∧ (0 ≤ part ∧ part ≤ 1) := ⟨va, vb, (fun z => hab (by rw [ix1, ix2] at z; exact (nI_eq (by omega) (by omega)).mp z)), ⟨by rw [hnn]; exact nI_le (a := 1) (by omega) (by omega), by rw [hnn]; exact nI_le (b := 8) (by omega) (by omega)⟩, hpt⟩
      subst ix1 ix2 hnn
      have K9 := K h3 (W.x (fun a z => f3 a (by omega) (by omega)) ⟨_, _, X3⟩ (hC.f62 hCM f3 h623))
      rw [aI_p hcond, i_cl a (by omega), i_cl b (by omega), i_cl (m + 1) (by omega), Nat.add_sub_cancel] at K9
      exact K9
  · skip
    obtain ⟨-, -, -, hC2, hM2, hCM2, -, -⟩ := id W2
    obtain ⟨ir, o, t, pd, bw, h76, h77, h78, hir4, h79, h80, h81, hot, hA, hCC, h84, h85, h86, hir20⟩ := hM2
    have hN := hCM2.2.1
    refine mT0_d (e := d + 19 + 11) (by omega) ?_
    refine e_purpose (d + 19) h2 s ir o t pd bw Q h76 h77 hN hI hG mm g hmm hs hg h80 h81 x y n part (fun v => ?_) (fun a b ha hb ix1 ix2 va vb hab m hm hnn hpt h3 i3 r3 h773 h763 hi3 => ?_)
    · have K9 := K h2 (show WW L xs (B + 2) (U + 103) h2 from ⟨_, _, _, _, _, _, _, _, _, _, _, _, W2.1, W2.2.1, W2.2.2.1, W2.2.2.2.1, W2.2.2.2.2.1, W2.2.2.2.2.2.1, by have := W2.2.2.2.2.2.2.1; omega, by have := W2.2.2.2.2.2.2.2; omega⟩)
      rw [aI_n v] at K9
      exact K9
    · have hcond : okP s x ∧ okP s y ∧ x ≠ y ∧ (1 ≤ n ∧ n ≤ 8) ∧ (0 ≤ part ∧ part ≤ 1) := ⟨va, vb, (fun z => hab (by rw [ix1, ix2] at z; exact (nI_eq (by omega) (by omega)).mp z)), ⟨by rw [hnn]; exact nI_le (a := 1) (by omega) (by omega), by rw [hnn]; exact nI_le (b := 8) (by omega) (by omega)⟩, hpt⟩
      subst ix1 ix2 hnn
      have K9 := K h3 (W2.e (r3.mono (by decide)).fe (MX.g (r3.mono (by decide)) h78 h86 h763 h773 (by rw [hi3 4 (by decide)]; exact hir4) ((hi3 20 (by decide)).trans hir20) (ex_c h79 (r3.1 79 (by decide))) hot (ex_c hA (r3.1 o (by rcases hot with ⟨rfl, rfl⟩ | ⟨rfl, rfl⟩ <;> decide))) (ex_c hCC (r3.1 t (by rcases hot with ⟨rfl, rfl⟩ | ⟨rfl, rfl⟩ <;> decide))) (ex_c h84 (r3.1 84 (by decide))) (ex_c h85 (r3.1 85 (by decide)))))
      rw [aI_p hcond, i_cl a (by omega), i_cl b (by omega), i_cl (m + 1) (by omega), Nat.add_sub_cancel] at K9
      exact K9
theorem c_loses (L : Nat) (xs : Nat → Int32) (B U : Nat) (it : Int32) (s s2 tr : Nat → Int32) (c9 : Nat) (l : List Tok) (le mo nb : Nat) (bA bB : Nat → Nat) (bW : Nat → Bool) (h : mH) (W : WP L xs B U it s s2 tr c9 l le mo nb bA bB bW h) (x y n : Int32) : ∃ (ans : Int32) (M : mH → Prop), (∀ h2, M h2 → CM L xs h2 ∧ ∃ fs, h2 76 = .inr (10, fs)) ∧ (∀ (d : Nat) (Q : Option Value → mH → Prop), (∀ h2, M h2 → Q (some (.int ans)) h2) → mT0 (d + 30) z_X9_loses 0 (m_init z_X9_loses [.ref 20, .int x, .int y, .int n]) [] h Q) ∧ ∀ h2, M h2 → ∀ (d : Nat) (Q : Option Value → mH → Prop), (∀ h3, WW L xs (B + 2) (U + 103) h3 → Q (some (.int ans)) h3) → mT0 (d + 30) z_X10_loses 0 (m_init z_X10_loses [.ref 76, .int x, .int y, .int n]) [] h2 Q := by
  obtain ⟨c60, hS, ⟨i, iv, X⟩, hC, hM, hCM, hB, hU⟩ := id W
  obtain ⟨hI, hG, hBk, ⟨nt, ta, hT⟩, ⟨n6, mm, g, hn6, hn5, hmm, hm1, hs, hg⟩, hsK, hkd, h11⟩ := id hS
  have hX := hC.1
  have hle := hG.2.2.1.2
  have hmo := hG.2.2.2.2
  have hl140 := hG.1.2.1
  have hbk := hS.b
  have hnb8 := hBk.1
  have hnb := hBk.2.1
  have hPu := hC.c62
  have h72 := hC.c72
  have h73 := hC.c73
  have hSh := hC.2.2.2.1
  have hDu := hC.2.2.2.2.2.1
  have hOr := hC.2.2.2.2.2.2.2.1
  refine ⟨aI (¬ (okP s x ∧ okP s y)) ((-1)) (aI (x = y ∨ ¬ (1 ≤ n ∧ n ≤ 8)) ((-2)) ((bI (nPl (a_od s l (x.toNatClampNeg) (y.toNatClampNeg)) (n_few le) (n_mor mo) (n.toNatClampNeg - 1) g (mm (x.toNatClampNeg)) (mm (y.toNatClampNeg)))))), WP L xs B U it s s2 tr c9 l le mo nb bA bB bW, fun h2 W2 => ⟨W2.2.2.2.2.2.1, W2.2.2.2.2.1.r⟩, fun d Q K => ?_, fun h2 W2 d Q K => ?_⟩
  · skip
    refine mT0_d (e := d + 9 + 21) (by omega) ?_
    refine x_losesP (d + 9) h Q it hX i iv s hI l le mo nb _ _ X hle hmo hPu mm g hmm hs hg x y n (fun v => ?_) (fun va vb e => ?_) (fun a b ha hb ix1 ix2 va vb hab m hm hnn h3 f3 h303 h623 X3 => ?_)
    · have K9 := K h W
      rw [aI_p v] at K9
      exact K9
    · have K9 := K h W
      rw [aI_n (fun z => z ⟨va, vb⟩), aI_p e] at K9
      exact K9
    · have hbd : 1 ≤ n ∧ n ≤ 8 := ⟨by rw [hnn]; exact nI_le (a := 1) (by omega) (by omega), by rw [hnn]; exact nI_le (b := 8) (by omega) (by omega)⟩
      have hne : ¬ (x = y ∨ ¬ (1 ≤ n ∧ n ≤ 8)) := fun z => z.elim (fun z => hab (by rw [ix1, ix2] at z; exact (nI_eq (by omega) (by omega)).mp z)) (fun z => z hbd)
      subst ix1 ix2 hnn
      have K9 := K h3 (W.x (fun a z => f3 a (by omega) (by omega)) ⟨_, _, X3⟩ (hC.f62 hCM f3 h623))
      rw [aI_n (fun z => z ⟨va, vb⟩), aI_n hne, i_cl a (by omega), i_cl b (by omega), i_cl (m + 1) (by omega), Nat.add_sub_cancel] at K9
      exact K9
  · skip
    obtain ⟨-, -, -, hC2, hM2, hCM2, -, -⟩ := id W2
    obtain ⟨ir, o, t, pd, bw, h76, h77, h78, hir4, h79, h80, h81, hot, hA, hCC, h84, h85, h86, hir20⟩ := hM2
    have hN := hCM2.2.1
    refine mT0_d (e := d + 19 + 11) (by omega) ?_
    refine e_loses (d + 19) h2 s ir o t pd bw Q h76 h77 hN hI hG mm g hmm hs hg h80 h81 x y n (fun v => ?_) (fun va vb e => ?_) (fun a b ha hb ix1 ix2 va vb hab m hm hnn h3 i3 r3 h773 h763 hi3 => ?_)
    · have K9 := K h2 (show WW L xs (B + 2) (U + 103) h2 from ⟨_, _, _, _, _, _, _, _, _, _, _, _, W2.1, W2.2.1, W2.2.2.1, W2.2.2.2.1, W2.2.2.2.2.1, W2.2.2.2.2.2.1, by have := W2.2.2.2.2.2.2.1; omega, by have := W2.2.2.2.2.2.2.2; omega⟩)
      rw [aI_p v] at K9
      exact K9
    · have K9 := K h2 (show WW L xs (B + 2) (U + 103) h2 from ⟨_, _, _, _, _, _, _, _, _, _, _, _, W2.1, W2.2.1, W2.2.2.1, W2.2.2.2.1, W2.2.2.2.2.1, W2.2.2.2.2.2.1, by have := W2.2.2.2.2.2.2.1; omega, by have := W2.2.2.2.2.2.2.2; omega⟩)
      rw [aI_n (fun z => z ⟨va, vb⟩), aI_p e] at K9
      exact K9
    · have hbd : 1 ≤ n ∧ n ≤ 8 := ⟨by rw [hnn]; exact nI_le (a := 1) (by omega) (by omega), by rw [hnn]; exact nI_le (b := 8) (by omega) (by omega)⟩
      have hne : ¬ (x = y ∨ ¬ (1 ≤ n ∧ n ≤ 8)) := fun z => z.elim (fun z => hab (by rw [ix1, ix2] at z; exact (nI_eq (by omega) (by omega)).mp z)) (fun z => z hbd)
      subst ix1 ix2 hnn
      have K9 := K h3 (W2.e (r3.mono (by decide)).fe (MX.g (r3.mono (by decide)) h78 h86 h763 h773 (by rw [hi3 4 (by decide)]; exact hir4) ((hi3 20 (by decide)).trans hir20) (ex_c h79 (r3.1 79 (by decide))) hot (ex_c hA (r3.1 o (by rcases hot with ⟨rfl, rfl⟩ | ⟨rfl, rfl⟩ <;> decide))) (ex_c hCC (r3.1 t (by rcases hot with ⟨rfl, rfl⟩ | ⟨rfl, rfl⟩ <;> decide))) (ex_c h84 (r3.1 84 (by decide))) (ex_c h85 (r3.1 85 (by decide)))))
      rw [aI_n (fun z => z ⟨va, vb⟩), aI_n hne, i_cl a (by omega), i_cl b (by omega), i_cl (m + 1) (by omega), Nat.add_sub_cancel] at K9
      exact K9
theorem c_order (L : Nat) (xs : Nat → Int32) (B U : Nat) (it : Int32) (s s2 tr : Nat → Int32) (c9 : Nat) (l : List Tok) (le mo nb : Nat) (bA bB : Nat → Nat) (bW : Nat → Bool) (h : mH) (W : WP L xs B U it s s2 tr c9 l le mo nb bA bB bW h) (x y w : Int32) : ∃ (ans : Int32) (M : mH → Prop), (∀ h2, M h2 → CM L xs h2 ∧ ∃ fs, h2 76 = .inr (10, fs)) ∧ (∀ (d : Nat) (Q : Option Value → mH → Prop), (∀ h2, M h2 → Q (some (.int ans)) h2) → mT0 (d + 30) z_X9_order 0 (m_init z_X9_order [.ref 20, .int x, .int y, .int w]) [] h Q) ∧ ∀ h2, M h2 → ∀ (d : Nat) (Q : Option Value → mH → Prop), (∀ h3, WW L xs (B + 2) (U + 103) h3 → Q (some (.int ans)) h3) → mT0 (d + 30) z_X10_order 0 (m_init z_X10_order [.ref 76, .int x, .int y, .int w]) [] h2 Q := by
  obtain ⟨c60, hS, ⟨i, iv, X⟩, hC, hM, hCM, hB, hU⟩ := id W
  obtain ⟨hI, hG, hBk, ⟨nt, ta, hT⟩, ⟨n6, mm, g, hn6, hn5, hmm, hm1, hs, hg⟩, hsK, hkd, h11⟩ := id hS
  have hX := hC.1
  have hle := hG.2.2.1.2
  have hmo := hG.2.2.2.2
  have hl140 := hG.1.2.1
  have hbk := hS.b
  have hnb8 := hBk.1
  have hnb := hBk.2.1
  have hPu := hC.c62
  have h72 := hC.c72
  have h73 := hC.c73
  have hSh := hC.2.2.2.1
  have hDu := hC.2.2.2.2.2.1
  have hOr := hC.2.2.2.2.2.2.2.1
  refine ⟨aI (¬ (okP s x ∧ 0 ≤ w ∧ w ≤ 3)) ((-1)) (aI (¬ okSet n6 x.toNatClampNeg y) ((-2)) ((if w.toNatClampNeg < nPop y.toNatClampNeg then nI ((v_best s l le mo x.toNatClampNeg n6 mm g y.toNatClampNeg).2.getD w.toNatClampNeg 0) else -5))), WP L xs B U it s s2 tr c9 l le mo nb bA bB bW, fun h2 W2 => ⟨W2.2.2.2.2.2.1, W2.2.2.2.2.1.r⟩, fun d Q K => ?_, fun h2 W2 d Q K => ?_⟩
  · skip
    refine mT0_d (e := d + 19 + 11) (by omega) ?_
    refine x_orderP2 (d + 19) h Q it hX i iv s hI l le mo nb _ _ X hle hmo mm g hmm hs hg hOr n6 hn6 hn5 hm1 x y w (fun v => ?_) (fun p hp ix1 vp vw hset => ?_) (fun p left j hp ix1 hl hy hlp hj hw h3 f3 S3 X3 => ?_)
    · have K9 := K h W
      rw [aI_p v] at K9
      exact K9
    · subst ix1
      have K9 := K h W
      rw [aI_n (fun z => z ⟨vp, vw⟩), i_cl p (by omega), aI_p hset] at K9
      exact K9
    · have vp : okP s x := okP_of hn6 hn5 hp ix1
      have vw : 0 ≤ w ∧ w ≤ 3 := ⟨by rw [hw]; exact nI_le (a := 0) (by omega) (by omega), by rw [hw]; exact nI_le (b := 3) (by omega) (by omega)⟩
      have h32 : left < 32 := Nat.lt_of_lt_of_le hl (Nat.pow_le_pow_right (n := 2) (by decide) hn5)
      have hset : okSet n6 p y := ⟨left, hl, hy, hlp⟩
      subst ix1 hy hw
      have K9 := K h3 (W.x (fun a z => f3 a (by omega) (by omega)) ⟨_, _, X3⟩ (hC.f63 hCM f3 S3))
      rw [aI_n (fun z => z ⟨vp, vw⟩), i_cl p (by omega), aI_n (fun z => z hset), i_cl left (by omega), i_cl j (by omega)] at K9
      exact K9
  · skip
    obtain ⟨-, -, -, hC2, hM2, hCM2, -, -⟩ := id W2
    obtain ⟨ir, o, t, pd, bw, h76, h77, h78, hir4, h79, h80, h81, hot, hA, hCC, h84, h85, h86, hir20⟩ := hM2
    have hN := hCM2.2.1
    refine mT0_d (e := d + 14 + 16) (by omega) ?_
    refine e_order2 (d + 14) h2 s ir o t pd bw Q h76 h77 hN hI hG mm g hmm hs hg h80 h81 n6 hn5 hn6 h84 h85 x y w (fun v => ?_) (fun p hp ix1 vp vw hset => ?_) (fun p left j hp ix1 hl hy hlp hj hw h3 bw3 boF3 r3 h773 h763 h843 h853 => ?_)
    · have K9 := K h2 (show WW L xs (B + 2) (U + 103) h2 from ⟨_, _, _, _, _, _, _, _, _, _, _, _, W2.1, W2.2.1, W2.2.2.1, W2.2.2.2.1, W2.2.2.2.2.1, W2.2.2.2.2.2.1, by have := W2.2.2.2.2.2.2.1; omega, by have := W2.2.2.2.2.2.2.2; omega⟩)
      rw [aI_p v] at K9
      exact K9
    · subst ix1
      have K9 := K h2 (show WW L xs (B + 2) (U + 103) h2 from ⟨_, _, _, _, _, _, _, _, _, _, _, _, W2.1, W2.2.1, W2.2.2.1, W2.2.2.2.1, W2.2.2.2.2.1, W2.2.2.2.2.2.1, by have := W2.2.2.2.2.2.2.1; omega, by have := W2.2.2.2.2.2.2.2; omega⟩)
      rw [aI_n (fun z => z ⟨vp, vw⟩), i_cl p (by omega), aI_p hset] at K9
      exact K9
    · have vp : okP s x := okP_of hn6 hn5 hp ix1
      have vw : 0 ≤ w ∧ w ≤ 3 := ⟨by rw [hw]; exact nI_le (a := 0) (by omega) (by omega), by rw [hw]; exact nI_le (b := 3) (by omega) (by omega)⟩
      have h32 : left < 32 := Nat.lt_of_lt_of_le hl (Nat.pow_le_pow_right (n := 2) (by decide) hn5)
      have hset : okSet n6 p y := ⟨left, hl, hy, hlp⟩
      subst ix1 hy hw
      have K9 := K h3 (W2.e (r3.mono (by decide)).fe (MX.g (r3.mono (by decide)) h78 h86 h763 h773 hir4 hir20 (ex_c h79 (r3.1 79 (by decide))) hot (ex_c hA (r3.1 o (by rcases hot with ⟨rfl, rfl⟩ | ⟨rfl, rfl⟩ <;> decide))) (ex_c hCC (r3.1 t (by rcases hot with ⟨rfl, rfl⟩ | ⟨rfl, rfl⟩ <;> decide))) h843 ⟨_, h853⟩))
      rw [aI_n (fun z => z ⟨vp, vw⟩), i_cl p (by omega), aI_n (fun z => z hset), i_cl left (by omega), i_cl j (by omega)] at K9
      exact K9
theorem c_orderMean (L : Nat) (xs : Nat → Int32) (B U : Nat) (it : Int32) (s s2 tr : Nat → Int32) (c9 : Nat) (l : List Tok) (le mo nb : Nat) (bA bB : Nat → Nat) (bW : Nat → Bool) (h : mH) (W : WP L xs B U it s s2 tr c9 l le mo nb bA bB bW h) (x y part : Int32) : ∃ (ans : Int64) (M : mH → Prop), (∀ h2, M h2 → CM L xs h2 ∧ ∃ fs, h2 76 = .inr (10, fs)) ∧ (∀ (d : Nat) (Q : Option Value → mH → Prop), (∀ h2, M h2 → Q (some (.long ans)) h2) → mT0 (d + 30) z_X9_orderMean 0 (m_init z_X9_orderMean [.ref 20, .int x, .int y, .int part]) [] h Q) ∧ ∀ h2, M h2 → ∀ (d : Nat) (Q : Option Value → mH → Prop), (∀ h3, WW L xs (B + 2) (U + 103) h3 → Q (some (.long ans)) h3) → mT0 (d + 30) z_X10_orderMean 0 (m_init z_X10_orderMean [.ref 76, .int x, .int y, .int part]) [] h2 Q := by
  obtain ⟨c60, hS, ⟨i, iv, X⟩, hC, hM, hCM, hB, hU⟩ := id W
  obtain ⟨hI, hG, hBk, ⟨nt, ta, hT⟩, ⟨n6, mm, g, hn6, hn5, hmm, hm1, hs, hg⟩, hsK, hkd, h11⟩ := id hS
  have hX := hC.1
  have hle := hG.2.2.1.2
  have hmo := hG.2.2.2.2
  have hl140 := hG.1.2.1
  have hbk := hS.b
  have hnb8 := hBk.1
  have hnb := hBk.2.1
  have hPu := hC.c62
  have h72 := hC.c72
  have h73 := hC.c73
  have hSh := hC.2.2.2.1
  have hDu := hC.2.2.2.2.2.1
  have hOr := hC.2.2.2.2.2.2.2.1
  refine ⟨aI ((∃ p : Nat, p < n6 ∧ x = nI p ∧ okSet n6 p y) ∧ (0 ≤ part ∧ part ≤ 1)) ((v_low (v_best s l le mo x.toNatClampNeg n6 mm g y.toNatClampNeg).1 (10 ^ nPop y.toNatClampNeg) part)) ((-9223372036854775808)), WP L xs B U it s s2 tr c9 l le mo nb bA bB bW, fun h2 W2 => ⟨W2.2.2.2.2.2.1, W2.2.2.2.2.1.r⟩, fun d Q K => ?_, fun h2 W2 d Q K => ?_⟩
  · skip
    refine mT0_d (e := d + 19 + 11) (by omega) ?_
    refine x_orderMeanP (d + 19) h Q it hX i iv s hI l le mo nb _ _ X hle hmo mm g hmm hs hg hOr n6 hn6 hn5 hm1 x y part (fun v => ?_) (fun p left hp ix1 hl hy hlp hpt h3 f3 S3 X3 => ?_)
    · have K9 := K h W
      rw [aI_n v] at K9
      exact K9
    · have h32 : left < 32 := Nat.lt_of_lt_of_le hl (Nat.pow_le_pow_right (n := 2) (by decide) hn5)
      have hcond : (∃ p : Nat, p < n6 ∧ x = nI p ∧ okSet n6 p y) ∧ (0 ≤ part ∧ part ≤ 1) := ⟨⟨p, hp, ix1, ⟨left, hl, hy, hlp⟩⟩, hpt⟩
      subst ix1 hy
      have K9 := K h3 (W.x (fun a z => f3 a (by omega) (by omega)) ⟨_, _, X3⟩ (hC.f63 hCM f3 S3))
      rw [aI_p hcond, i_cl p (by omega), i_cl left (by omega)] at K9
      exact K9
  · skip
    obtain ⟨-, -, -, hC2, hM2, hCM2, -, -⟩ := id W2
    obtain ⟨ir, o, t, pd, bw, h76, h77, h78, hir4, h79, h80, h81, hot, hA, hCC, h84, h85, h86, hir20⟩ := hM2
    have hN := hCM2.2.1
    refine mT0_d (e := d + 14 + 16) (by omega) ?_
    refine e_orderMean (d + 14) h2 s ir o t pd bw Q h76 h77 hN hI hG mm g hmm hs hg h80 h81 n6 hn5 hn6 h84 h85 x y part (fun v => ?_) (fun p left hp ix1 hl hy hlp hpt h3 bw3 boF3 r3 h773 h763 h843 h853 => ?_)
    · have K9 := K h2 (show WW L xs (B + 2) (U + 103) h2 from ⟨_, _, _, _, _, _, _, _, _, _, _, _, W2.1, W2.2.1, W2.2.2.1, W2.2.2.2.1, W2.2.2.2.2.1, W2.2.2.2.2.2.1, by have := W2.2.2.2.2.2.2.1; omega, by have := W2.2.2.2.2.2.2.2; omega⟩)
      rw [aI_n v] at K9
      exact K9
    · have h32 : left < 32 := Nat.lt_of_lt_of_le hl (Nat.pow_le_pow_right (n := 2) (by decide) hn5)
      have hcond : (∃ p : Nat, p < n6 ∧ x = nI p ∧ okSet n6 p y) ∧ (0 ≤ part ∧ part ≤ 1) := ⟨⟨p, hp, ix1, ⟨left, hl, hy, hlp⟩⟩, hpt⟩
      subst ix1 hy
      have K9 := K h3 (W2.e (r3.mono (by decide)).fe (MX.g (r3.mono (by decide)) h78 h86 h763 h773 hir4 hir20 (ex_c h79 (r3.1 79 (by decide))) hot (ex_c hA (r3.1 o (by rcases hot with ⟨rfl, rfl⟩ | ⟨rfl, rfl⟩ <;> decide))) (ex_c hCC (r3.1 t (by rcases hot with ⟨rfl, rfl⟩ | ⟨rfl, rfl⟩ <;> decide))) h843 ⟨_, h853⟩))
      rw [aI_p hcond, i_cl p (by omega), i_cl left (by omega)] at K9
      exact K9
theorem c_table (L : Nat) (xs : Nat → Int32) (B U : Nat) (it : Int32) (s s2 tr : Nat → Int32) (c9 : Nat) (l : List Tok) (le mo nb : Nat) (bA bB : Nat → Nat) (bW : Nat → Bool) (h : mH) (W : WP L xs B U it s s2 tr c9 l le mo nb bA bB bW h) (x y part : Int32) : ∃ (ans : Int64) (M : mH → Prop), (∀ h2, M h2 → CM L xs h2 ∧ ∃ fs, h2 76 = .inr (10, fs)) ∧ (∀ (d : Nat) (Q : Option Value → mH → Prop), (∀ h2, M h2 → Q (some (.long ans)) h2) → mT0 (d + 30) z_X9_table 0 (m_init z_X9_table [.ref 20, .int x, .int y, .int part]) [] h Q) ∧ ∀ h2, M h2 → ∀ (d : Nat) (Q : Option Value → mH → Prop), (∀ h3, WW L xs (B + 2) (U + 103) h3 → Q (some (.long ans)) h3) → mT0 (d + 30) z_X10_table 0 (m_init z_X10_table [.ref 76, .int x, .int y, .int part]) [] h2 Q := by
  obtain ⟨c60, hS, ⟨i, iv, X⟩, hC, hM, hCM, hB, hU⟩ := id W
  obtain ⟨hI, hG, hBk, ⟨nt, ta, hT⟩, ⟨n6, mm, g, hn6, hn5, hmm, hm1, hs, hg⟩, hsK, hkd, h11⟩ := id hS
  have hX := hC.1
  have hle := hG.2.2.1.2
  have hmo := hG.2.2.2.2
  have hl140 := hG.1.2.1
  have hbk := hS.b
  have hnb8 := hBk.1
  have hnb := hBk.2.1
  have hPu := hC.c62
  have h72 := hC.c72
  have h73 := hC.c73
  have hSh := hC.2.2.2.1
  have hDu := hC.2.2.2.2.2.1
  have hOr := hC.2.2.2.2.2.2.2.1
  refine ⟨aI (okP s x ∧ (1 ≤ y ∧ y ≤ 8) ∧ (0 ≤ part ∧ part ≤ 1) ∧ 2 ≤ n6) ((v_low (nT (a_od s l) le mo x.toNatClampNeg (y.toNatClampNeg - 1) mm g 0 1 (t_row n6)) (10 ^ y.toNatClampNeg) part)) ((-9223372036854775808)), WP L xs B U it s s2 tr c9 l le mo nb bA bB bW, fun h2 W2 => ⟨W2.2.2.2.2.2.1, W2.2.2.2.2.1.r⟩, fun d Q K => ?_, fun h2 W2 d Q K => ?_⟩
  · skip
    refine mT0_d (e := d + 9 + 21) (by omega) ?_
    refine x_tableP (d + 9) h Q it hX i iv s hI l le mo nb _ _ X hle hmo hl140 hnb h72 h73 hSh mm g hmm hs hg n6 hn6 hn5 (fun p hp => hsK p (by omega)) x y part (fun v => ?_) (fun p m hp ix1 hm hnn hpt h2n h3 f3 S3 y3 z3 X3 => ?_)
    · have K9 := K h W
      rw [aI_n v] at K9
      exact K9
    · have hcond : okP s x ∧ (1 ≤ y ∧ y ≤ 8) ∧ (0 ≤ part ∧ part ≤ 1) ∧ 2 ≤ n6 := ⟨okP_of hn6 hn5 hp ix1, ⟨by rw [hnn]; exact nI_le (a := 1) (by omega) (by omega), by rw [hnn]; exact nI_le (b := 8) (by omega) (by omega)⟩, hpt, h2n⟩
      subst ix1 hnn
      have K9 := K h3 (W.x (fun a z => f3 a (by omega)) ⟨_, _, X3⟩ (hC.f73 hCM f3 S3 y3 z3))
      rw [aI_p hcond, i_cl p (by omega), i_cl (m + 1) (by omega), Nat.add_sub_cancel] at K9
      exact K9
  · skip
    obtain ⟨-, -, -, hC2, hM2, hCM2, -, -⟩ := id W2
    obtain ⟨ir, o, t, pd, bw, h76, h77, h78, hir4, h79, h80, h81, hot, hA, hCC, h84, h85, h86, hir20⟩ := hM2
    have hN := hCM2.2.1
    refine mT0_d (e := d + 10 + 20) (by omega) ?_
    refine e_table (d + 10) h2 s ir o t pd bw Q h76 h77 hN hI hG mm g hmm hs hg h80 h81 n6 hn5 hn6 x y part (fun v => ?_) (fun p m hp ix1 hm hnn hpt h2n h3 r3 h773 => ?_)
    · have K9 := K h2 (show WW L xs (B + 2) (U + 103) h2 from ⟨_, _, _, _, _, _, _, _, _, _, _, _, W2.1, W2.2.1, W2.2.2.1, W2.2.2.2.1, W2.2.2.2.2.1, W2.2.2.2.2.2.1, by have := W2.2.2.2.2.2.2.1; omega, by have := W2.2.2.2.2.2.2.2; omega⟩)
      rw [aI_n v] at K9
      exact K9
    · have hcond : okP s x ∧ (1 ≤ y ∧ y ≤ 8) ∧ (0 ≤ part ∧ part ≤ 1) ∧ 2 ≤ n6 := ⟨okP_of hn6 hn5 hp ix1, ⟨by rw [hnn]; exact nI_le (a := 1) (by omega) (by omega), by rw [hnn]; exact nI_le (b := 8) (by omega) (by omega)⟩, hpt, h2n⟩
      subst ix1 hnn
      have K9 := K h3 (W2.e (r3.mono (by decide)).fe (MX.g (r3.mono (by decide)) h78 h86 ((r3.1 76 (by decide)).trans h76) h773 hir4 hir20 (ex_c h79 (r3.1 79 (by decide))) hot (ex_c hA (r3.1 o (by rcases hot with ⟨rfl, rfl⟩ | ⟨rfl, rfl⟩ <;> decide))) (ex_c hCC (r3.1 t (by rcases hot with ⟨rfl, rfl⟩ | ⟨rfl, rfl⟩ <;> decide))) (ex_c h84 (r3.1 84 (by decide))) (ex_c h85 (r3.1 85 (by decide)))))
      rw [aI_p hcond, i_cl p (by omega), i_cl (m + 1) (by omega), Nat.add_sub_cancel] at K9
      exact K9
theorem c_likely (L : Nat) (xs : Nat → Int32) (B U : Nat) (it : Int32) (s s2 tr : Nat → Int32) (c9 : Nat) (l : List Tok) (le mo nb : Nat) (bA bB : Nat → Nat) (bW : Nat → Bool) (h : mH) (W : WP L xs B U it s s2 tr c9 l le mo nb bA bB bW h) (x : Int32) : ∃ (ans : Int32) (M : mH → Prop), (∀ h2, M h2 → CM L xs h2 ∧ ∃ fs, h2 76 = .inr (10, fs)) ∧ (∀ (d : Nat) (Q : Option Value → mH → Prop), (∀ h2, M h2 → Q (some (.int ans)) h2) → mT0 (d + 30) z_X9_likely 0 (m_init z_X9_likely [.ref 20, .int x]) [] h Q) ∧ ∀ h2, M h2 → ∀ (d : Nat) (Q : Option Value → mH → Prop), (∀ h3, WW L xs (B + 2) (U + 103) h3 → Q (some (.int ans)) h3) → mT0 (d + 30) z_X10_likely 0 (m_init z_X10_likely [.ref 76, .int x]) [] h2 Q := by
  obtain ⟨c60, hS, ⟨i, iv, X⟩, hC, hM, hCM, hB, hU⟩ := id W
  obtain ⟨hI, hG, hBk, ⟨nt, ta, hT⟩, ⟨n6, mm, g, hn6, hn5, hmm, hm1, hs, hg⟩, hsK, hkd, h11⟩ := id hS
  have hX := hC.1
  have hle := hG.2.2.1.2
  have hmo := hG.2.2.2.2
  have hl140 := hG.1.2.1
  have hbk := hS.b
  have hnb8 := hBk.1
  have hnb := hBk.2.1
  have hPu := hC.c62
  have h72 := hC.c72
  have h73 := hC.c73
  have hSh := hC.2.2.2.1
  have hDu := hC.2.2.2.2.2.1
  have hOr := hC.2.2.2.2.2.2.2.1
  refine ⟨aI (okP s x) ((nI (nLi (fun v => nC (b_od (upd s (17 + x.toNatClampNeg) (nI v)) l le mo bA bB bW mm g) bW nb 0 1) 10 0 0 (-1)))) ((-1)), WP L xs B U it s s2 tr c9 l le mo nb bA bB bW, fun h2 W2 => ⟨W2.2.2.2.2.2.1, W2.2.2.2.2.1.r⟩, fun d Q K => ?_, fun h2 W2 d Q K => ?_⟩
  · skip
    refine mT0_d (e := d + 24 + 6) (by omega) ?_
    refine x_likelyP (d + 24) h Q it hX i iv s hI l le mo nb bA bB bW X hle hmo hbk hnb hnb8 hSh mm g hmm hs hg hl140 hsK x (fun v => ?_) (fun p hp ix1 vp h3 f3 S3 X3 => ?_)
    · have K9 := K h W
      rw [aI_n v] at K9
      exact K9
    · subst ix1
      have K9 := K h3 (W.x (fun a z => f3 a (by omega)) ⟨_, _, X3⟩ (hC.f41 hCM f3 S3))
      rw [aI_p vp, i_cl p (by omega)] at K9
      exact K9
  · skip
    obtain ⟨-, -, -, hC2, hM2, hCM2, -, -⟩ := id W2
    obtain ⟨ir, o, t, pd, bw, h76, h77, h78, hir4, h79, h80, h81, hot, hA, hCC, h84, h85, h86, hir20⟩ := hM2
    have hN := hCM2.2.1
    refine mT0_d (e := d + 26 + 4) (by omega) ?_
    refine e_likely (d + 26) h2 s ir o t pd bw Q h76 h77 hN hI hG mm g hmm hs hg h80 h81 hBk h79 x (fun v => ?_) (fun p hp ix1 vp h3 r3 h773 h793 => ?_)
    · have K9 := K h2 (show WW L xs (B + 2) (U + 103) h2 from ⟨_, _, _, _, _, _, _, _, _, _, _, _, W2.1, W2.2.1, W2.2.2.1, W2.2.2.2.1, W2.2.2.2.2.1, W2.2.2.2.2.2.1, by have := W2.2.2.2.2.2.2.1; omega, by have := W2.2.2.2.2.2.2.2; omega⟩)
      rw [aI_n v] at K9
      exact K9
    · subst ix1
      have K9 := K h3 (W2.e (r3.mono (by decide)).fe (MX.g (r3.mono (by decide)) h78 h86 ((r3.1 76 (by decide)).trans h76) h773 hir4 hir20 h793 hot (ex_c hA (r3.1 o (by rcases hot with ⟨rfl, rfl⟩ | ⟨rfl, rfl⟩ <;> decide))) (ex_c hCC (r3.1 t (by rcases hot with ⟨rfl, rfl⟩ | ⟨rfl, rfl⟩ <;> decide))) (ex_c h84 (r3.1 84 (by decide))) (ex_c h85 (r3.1 85 (by decide)))))
      rw [aI_p vp, i_cl p (by omega)] at K9
      exact K9
theorem c_says (L : Nat) (xs : Nat → Int32) (B U : Nat) (it : Int32) (s s2 tr : Nat → Int32) (c9 : Nat) (l : List Tok) (le mo nb : Nat) (bA bB : Nat → Nat) (bW : Nat → Bool) (h : mH) (W : WP L xs B U it s s2 tr c9 l le mo nb bA bB bW h) (x : Int32) : ∃ (ans : Int32) (M : mH → Prop), (∀ h2, M h2 → CM L xs h2 ∧ ∃ fs, h2 76 = .inr (10, fs)) ∧ (∀ (d : Nat) (Q : Option Value → mH → Prop), (∀ h2, M h2 → Q (some (.int ans)) h2) → mT0 (d + 30) z_X9_says 0 (m_init z_X9_says [.ref 20, .int x]) [] h Q) ∧ ∀ h2, M h2 → ∀ (d : Nat) (Q : Option Value → mH → Prop), (∀ h3, WW L xs (B + 2) (U + 103) h3 → Q (some (.int ans)) h3) → mT0 (d + 30) z_X10_says 0 (m_init z_X10_says [.ref 76, .int x]) [] h2 Q := by
  obtain ⟨c60, hS, ⟨i, iv, X⟩, hC, hM, hCM, hB, hU⟩ := id W
  obtain ⟨hI, hG, hBk, ⟨nt, ta, hT⟩, ⟨n6, mm, g, hn6, hn5, hmm, hm1, hs, hg⟩, hsK, hkd, h11⟩ := id hS
  have hX := hC.1
  have hle := hG.2.2.1.2
  have hmo := hG.2.2.2.2
  have hl140 := hG.1.2.1
  have hbk := hS.b
  have hnb8 := hBk.1
  have hnb := hBk.2.1
  have hPu := hC.c62
  have h72 := hC.c72
  have h73 := hC.c73
  have hSh := hC.2.2.2.1
  have hDu := hC.2.2.2.2.2.1
  have hOr := hC.2.2.2.2.2.2.2.1
  refine ⟨aI (okP s x) ((nI ((nBk le mo bA bB bW mm nb) x.toNatClampNeg))) ((-1)), WP L xs B U it s s2 tr c9 l le mo nb bA bB bW, fun h2 W2 => ⟨W2.2.2.2.2.2.1, W2.2.2.2.2.1.r⟩, fun d Q K => ?_, fun h2 W2 d Q K => ?_⟩
  · skip
    refine mT0_d (e := d + 26 + 4) (by omega) ?_
    refine x_saysP (d + 26) h Q it hX i iv s hI l le mo nb bA bB bW X hle hmo hbk hnb hnb8 hSh mm g hmm hs hg x (fun v => ?_) (fun p hp ix1 vp h3 f3 S3 X3 => ?_)
    · have K9 := K h W
      rw [aI_n v] at K9
      exact K9
    · subst ix1
      have K9 := K h3 (W.x (fun a z => f3 a (by omega)) ⟨_, _, X3⟩ (hC.f41 hCM f3 S3))
      rw [aI_p vp, i_cl p (by omega)] at K9
      exact K9
  · skip
    obtain ⟨-, -, -, hC2, hM2, hCM2, -, -⟩ := id W2
    obtain ⟨ir, o, t, pd, bw, h76, h77, h78, hir4, h79, h80, h81, hot, hA, hCC, h84, h85, h86, hir20⟩ := hM2
    have hN := hCM2.2.1
    refine mT0_d (e := d + 25 + 5) (by omega) ?_
    refine e_says (d + 25) h2 s ir o t pd bw Q h76 h77 hN hI hG mm g hmm hs hg h80 h81 hBk h79 x (fun v => ?_) (fun p hp ix1 vp h3 r3 h773 h793 => ?_)
    · have K9 := K h2 (show WW L xs (B + 2) (U + 103) h2 from ⟨_, _, _, _, _, _, _, _, _, _, _, _, W2.1, W2.2.1, W2.2.2.1, W2.2.2.2.1, W2.2.2.2.2.1, W2.2.2.2.2.2.1, by have := W2.2.2.2.2.2.2.1; omega, by have := W2.2.2.2.2.2.2.2; omega⟩)
      rw [aI_n v] at K9
      exact K9
    · subst ix1
      have K9 := K h3 (W2.e (r3.mono (by decide)).fe (MX.g (r3.mono (by decide)) h78 h86 ((r3.1 76 (by decide)).trans h76) h773 hir4 hir20 h793 hot (ex_c hA (r3.1 o (by rcases hot with ⟨rfl, rfl⟩ | ⟨rfl, rfl⟩ <;> decide))) (ex_c hCC (r3.1 t (by rcases hot with ⟨rfl, rfl⟩ | ⟨rfl, rfl⟩ <;> decide))) (ex_c h84 (r3.1 84 (by decide))) (ex_c h85 (r3.1 85 (by decide)))))
      rw [aI_p vp, i_cl p (by omega)] at K9
      exact K9
theorem c_looked (L : Nat) (xs : Nat → Int32) (B U : Nat) (it : Int32) (s s2 tr : Nat → Int32) (c9 : Nat) (l : List Tok) (le mo nb : Nat) (bA bB : Nat → Nat) (bW : Nat → Bool) (h : mH) (W : WP L xs B U it s s2 tr c9 l le mo nb bA bB bW h) : ∃ (ans : Int32) (M : mH → Prop), (∀ h2, M h2 → CM L xs h2 ∧ ∃ fs, h2 76 = .inr (10, fs)) ∧ (∀ (d : Nat) (Q : Option Value → mH → Prop), (∀ h2, M h2 → Q (some (.int ans)) h2) → mT0 (d + 30) z_X9_looked 0 (m_init z_X9_looked [.ref 20]) [] h Q) ∧ ∀ h2, M h2 → ∀ (d : Nat) (Q : Option Value → mH → Prop), (∀ h3, WW L xs (B + 2) (U + 103) h3 → Q (some (.int ans)) h3) → mT0 (d + 30) z_X10_looked 0 (m_init z_X10_looked [.ref 76]) [] h2 Q := by
  obtain ⟨c60, hS, ⟨i, iv, X⟩, hC, hM, hCM, hB, hU⟩ := id W
  obtain ⟨hI, hG, hBk, ⟨nt, ta, hT⟩, ⟨n6, mm, g, hn6, hn5, hmm, hm1, hs, hg⟩, hsK, hkd, h11⟩ := id hS
  have hX := hC.1
  have hle := hG.2.2.1.2
  have hmo := hG.2.2.2.2
  have hl140 := hG.1.2.1
  have hbk := hS.b
  have hnb8 := hBk.1
  have hnb := hBk.2.1
  have hPu := hC.c62
  have h72 := hC.c72
  have h73 := hC.c73
  have hSh := hC.2.2.2.1
  have hDu := hC.2.2.2.2.2.1
  have hOr := hC.2.2.2.2.2.2.2.1
  refine ⟨aI (0 < n6) ((nLook nb (nBk le mo bA bB bW mm) ta nt 0)) ((-3)), WP L xs B U it s s2 tr c9 l le mo nb bA bB bW, fun h2 W2 => ⟨W2.2.2.2.2.2.1, W2.2.2.2.2.1.r⟩, fun d Q K => ?_, fun h2 W2 d Q K => ?_⟩
  · skip
    refine mT0_d (e := d + 26 + 4) (by omega) ?_
    refine x_lookedP (d + 26) h Q it hX i iv s hI l le mo nb bA bB bW X hle hmo hbk hnb hnb8 hSh mm g hmm hs hg hT n6 hn6 hn5 (fun v => ?_) (fun v h3 f3 S3 X3 => ?_)
    · have K9 := K h W
      rw [aI_n (by omega)] at K9
      exact K9
    · have K9 := K h3 (W.x (fun a z => f3 a (by omega)) ⟨_, _, X3⟩ (hC.f41 hCM f3 S3))
      rw [aI_p v] at K9
      exact K9
  · skip
    obtain ⟨-, -, -, hC2, hM2, hCM2, -, -⟩ := id W2
    obtain ⟨ir, o, t, pd, bw, h76, h77, h78, hir4, h79, h80, h81, hot, hA, hCC, h84, h85, h86, hir20⟩ := hM2
    have hN := hCM2.2.1
    refine mT0_d (e := d + 25 + 5) (by omega) ?_
    refine e_looked (d + 25) h2 s ir o t pd bw Q h76 h77 hN hI hG mm g hmm hs hg h80 h81 hBk hT h79 n6 hn5 hn6 (fun v => ?_) (fun v h3 r3 h773 h793 => ?_)
    · have K9 := K h2 (show WW L xs (B + 2) (U + 103) h2 from ⟨_, _, _, _, _, _, _, _, _, _, _, _, W2.1, W2.2.1, W2.2.2.1, W2.2.2.2.1, W2.2.2.2.2.1, W2.2.2.2.2.2.1, by have := W2.2.2.2.2.2.2.1; omega, by have := W2.2.2.2.2.2.2.2; omega⟩)
      rw [aI_n (by omega)] at K9
      exact K9
    · have K9 := K h3 (W2.e (r3.mono (by decide)).fe (MX.g (r3.mono (by decide)) h78 h86 ((r3.1 76 (by decide)).trans h76) h773 hir4 hir20 h793 hot (ex_c hA (r3.1 o (by rcases hot with ⟨rfl, rfl⟩ | ⟨rfl, rfl⟩ <;> decide))) (ex_c hCC (r3.1 t (by rcases hot with ⟨rfl, rfl⟩ | ⟨rfl, rfl⟩ <;> decide))) (ex_c h84 (r3.1 84 (by decide))) (ex_c h85 (r3.1 85 (by decide)))))
      rw [aI_p v] at K9
      exact K9