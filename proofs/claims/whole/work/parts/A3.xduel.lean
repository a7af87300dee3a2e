/-! By program (wip/whole/book*.py) and hand. -/
set_option maxHeartbeats 1000000 in
theorem x_sp_L54 (d : Nat) (Q : Option Value → mH → Prop) (cnt : Bool) (p1 q1 g pl : Nat) (sz : Nat) (P lb : Nat → Nat) (W Wb : Nat → Int64) (h0 : mH) (hN0 : 87 ≤ m_nx h0) (D0 : rDu h0 54 58 p1 q1 g pl cnt) (C0 : cCl h0 54 sz P lb W) (p e u v M G : Nat) (hp : p < 400) (he : e ≤ 10) (hu : u < 400) (hv : v < 400) (hM : M ≤ 11) (hG : ∀ w, w ≤ M → w ≤ G ∧ cond cnt (w + 1) 0 ≤ G) (x2 x3 : Option Value) (K : ∀ h2 sz2 P2 lb2 W3, (∀ c, c < 58 ∨ 61 < c → h2 c = h0 c) → cCl h2 58 sz2 P2 lb2 W3 → (∀ φ : Nat → Nat → Nat → Int64, FW W3 φ = FW Wb φ + sL (fun w => W (p * 13 + w) * (lN e * φ (cond cnt (w + 1) 0) (u / 20 + 1) (u % 20 + 1) + lN (10 - e) * φ w (v / 20 + 1) (v % 20 + 1))) (M + 1)) → cS W3 G → Q none h2) : ∀ (r k : Nat) (h : mH) (sz2 : Nat) (P2 lb2 : Nat → Nat) (W2 : Nat → Int64) (x9 x10 : Option Value), k + r = M + 1 → (∀ c, c < 58 ∨ 61 < c → h c = h0 c) → cCl h 58 sz2 P2 lb2 W2 → (∀ φ : Nat → Nat → Nat → Int64, FW W2 φ = FW Wb φ + sL (fun w => W (p * 13 + w) * (lN e * φ (cond cnt (w + 1) 0) (u / 20 + 1) (u % 20 + 1) + lN (10 - e) * φ w (v / 20 + 1) (v % 20 + 1))) k) → cS W2 G → mT0 (d + 1) z_X2_spreads 100 [some (.ref 53), some (.int (nI p)), x2, x3, some (.int (nI e)), some (.int (nI u)), some (.int (nI v)), some (.int (nI M)), some (.int (nI k)), x9, x10] [] h Q := by
  intro r
  induction r with
  | zero =>
    intro k h sz2 P2 lb2 W2 x9 x10 hk fh C2 hF hS
    have hD : h 53 = _ := (fh 53 (by decide)).trans D0
    have hN : 87 ≤ m_nx h := nx_eq (fh 0 (by decide)) hN0
    have C1 := C0.c (h2 := h) (fun c z1 z2 => fh c (by omega))
    have hC1 := C1.1
    have hC2 := C2.1
    iterate 2 refine mT_s rfl rfl ?_
    refine mT_icmp_gt rfl (fun _ => ?_) (fun c => absurd (nI_lt (by omega) (by omega)) c)
    refine mT_ret rfl rfl ?_
    obtain rfl : k = M + 1 := by omega
    exact K h sz2 P2 lb2 W2 fh C2 hF hS
  | succ r ih =>
    intro k h sz2 P2 lb2 W2 x9 x10 hk fh C2 hF hS
    have hD : h 53 = _ := (fh 53 (by decide)).trans D0
    have hN : 87 ≤ m_nx h := nx_eq (fh 0 (by decide)) hN0
    have C1 := C0.c (h2 := h) (fun c z1 z2 => fh c (by omega))
    have hC1 := C1.1
    have hC2 := C2.1
    iterate 2 refine mT_s rfl rfl ?_
    refine mT_icmp_gt rfl (fun c => absurd ((nI_ltI (by omega) (by omega)).mp c) (by omega)) (fun _ => ?_)
    refine mT_s rfl rfl ?_
    (apply mT_getf; (case hc => rfl); (case ha => first | rfl | assumption); (case hf => first | rfl | assumption))
    iterate 2 refine mT_s rfl rfl ?_
    (apply mT_inv; (case hc => rfl); (case hd => rfl); (case hb => first | rfl | assumption); (case hg => rfl))
    refine x_part_54 _ h _ sz P lb W hN C1 p k hp (by omega) ?_
    iterate 4 refine mT_s rfl rfl ?_
    refine mT_if_eq rfl (fun c123 => ?_) (fun c123 => ?_)
    · iterate 2 refine mT_s rfl rfl ?_
      rw [nI_1]
      refine ih (k + 1) h sz2 P2 lb2 W2 _ _ (by omega) fh C2 (fun φ => ?_) hS
      rw [hF φ, sL_S _ k, show W (p * 13 + k) = 0 from (lg_cmp_eq _ _).mp c123, Int64.zero_mul, Int64.add_zero]
    · refine mT_s rfl rfl ?_
      (apply mT_getf; (case hc => rfl); (case ha => first | rfl | assumption); (case hf => first | rfl | assumption))
      iterate 2 refine mT_s rfl rfl ?_
      (apply mT_getf; (case hc => rfl); (case ha => first | rfl | assumption); (case hf => first | rfl | assumption))
      refine mT_if_eq rfl (fun c136 => ?_) (fun c136 => ?_)
      · have hcf : cnt = false := by
          cases cnt
          · rfl
          · exact absurd c136 (by decide)
        subst hcf
        iterate 5 refine mT_s rfl rfl ?_
        (apply mT_inv; (case hc => rfl); (case hd => rfl); (case hb => first | rfl | assumption); (case hg => rfl))
        rw [(od_n he).1]
        refine x_add_58 _ h _ sz2 P2 lb2 W2 hN C2 u 0 hu (by decide) _ (fun h3 sz3 P3 lb3 f3 C3 => ?_)
        have hN3 : 87 ≤ m_nx h3 := nx_eq (f3 0 (by decide)) hN
        have hD3 : h3 53 = _ := (f3 53 (by decide)).trans hD
        have hC3 := C3.1
        refine mT_s rfl rfl ?_
        (apply mT_getf; (case hc => rfl); (case ha => first | rfl | assumption); (case hf => first | rfl | assumption))
        iterate 8 refine mT_s rfl rfl ?_
        (apply mT_inv; (case hc => rfl); (case hd => rfl); (case hb => first | rfl | assumption); (case hg => rfl))
        rw [(od_n he).2]
        refine x_add_58 _ h3 _ sz3 P3 lb3 _ hN3 C3 v k hv (by omega) _ (fun h4 sz4 P4 lb4 f4 C4 => ?_)
        iterate 2 refine mT_s rfl rfl ?_
        rw [nI_1]
        have hG1 := hG k (by omega)
        refine ih (k + 1) h4 sz4 P4 lb4 _ _ _ (by omega) (fun c z => (f4 c z).trans ((f3 c z).trans (fh c z))) C4 (fun φ => ?_) (cS_upd (cS_upd hS hG1.2 (by decide)) hG1.1 (by omega))
        rw [FW_upd _ φ _ hv (show k < 13 by omega), FW_upd W2 φ _ hu (show 0 < 13 by omega), hF φ, sL_S _ k]
        dsimp only [cond]
        grind
      · have hcf : cnt = true := by
          cases cnt
          · exact absurd rfl c136
          · rfl
        subst hcf
        iterate 8 refine mT_s rfl rfl ?_
        (apply mT_inv; (case hc => rfl); (case hd => rfl); (case hb => first | rfl | assumption); (case hg => rfl))
        rw [(od_n he).1, nI_1]
        refine x_add_58 _ h _ sz2 P2 lb2 W2 hN C2 u (k + 1) hu (by omega) _ (fun h3 sz3 P3 lb3 f3 C3 => ?_)
        have hN3 : 87 ≤ m_nx h3 := nx_eq (f3 0 (by decide)) hN
        have hD3 : h3 53 = _ := (f3 53 (by decide)).trans hD
        have hC3 := C3.1
        refine mT_s rfl rfl ?_
        (apply mT_getf; (case hc => rfl); (case ha => first | rfl | assumption); (case hf => first | rfl | assumption))
        iterate 8 refine mT_s rfl rfl ?_
        (apply mT_inv; (case hc => rfl); (case hd => rfl); (case hb => first | rfl | assumption); (case hg => rfl))
        rw [(od_n he).2]
        refine x_add_58 _ h3 _ sz3 P3 lb3 _ hN3 C3 v k hv (by omega) _ (fun h4 sz4 P4 lb4 f4 C4 => ?_)
        iterate 2 refine mT_s rfl rfl ?_
        rw [nI_1]
        have hG1 := hG k (by omega)
        refine ih (k + 1) h4 sz4 P4 lb4 _ _ _ (by omega) (fun c z => (f4 c z).trans ((f3 c z).trans (fh c z))) C4 (fun φ => ?_) (cS_upd (cS_upd hS hG1.2 (by show k + 1 < 13; omega)) hG1.1 (by omega))
        rw [FW_upd _ φ _ hv (show k < 13 by omega), FW_upd W2 φ _ hu (show (k + 1) < 13 by omega), hF φ, sL_S _ k]
        dsimp only [cond]
        grind
theorem x_spreads_54 (d : Nat) (h : mH) (Q : Option Value → mH → Prop) (i : Nat → Int32) (iv : Value) (s : Nat → Int32) (l : List Tok) (le mo : Nat) (hle : le ≤ 99) (hmo : mo ≤ 99) (B : rBs 21 h i iv s l le mo) (p q g pl : Nat) (hp : p < 5) (hq : q < 5) (hg : g < 20000) (hpl : pl ≤ 11) (cnt : Bool) (sz : Nat) (P lb : Nat → Nat) (W : Nat → Int64) (D0 : rDu h 54 58 p q g pl cnt) (C0 : cCl h 54 sz P lb W) (sz2 : Nat) (P2 lb2 : Nat → Nat) (W2 : Nat → Int64) (C2 : cCl h 58 sz2 P2 lb2 W2) (hS : cS W2 (cond cnt (pl + 1) 0))  (pp : Nat) (hpp : pp < 400) (K : ∀ h2 sz3 P3 lb3 W3, (∀ c, c ≠ 30 → c < 58 ∨ 61 < c → h2 c = h c) → (∃ f, h2 30 = .inl (0, 5, .inl f)) → cCl h2 58 sz3 P3 lb3 W3 → (∀ φ : Nat → Nat → Nat → Int64, FW W3 φ = FW W2 φ + sL (fun w => W (pp * 13 + w) * (tC cnt (a_od s l p q) (n_few le) (n_mor mo) g φ) w (pp / 20 + 1) (pp % 20 + 1)) (cond cnt pl 0 + 1)) → cS W3 (cond cnt (pl + 1) 0) → Q none h2) : mT0 (d + 5) z_X2_spreads 0 (m_init z_X2_spreads [.ref 53, .int (nI pp)]) [] h Q := by
  obtain ⟨hR, hN, -, hwt, -, -, -, -⟩ := id B
  have hD : h 53 = _ := D0
  refine mT_s rfl rfl ?_
  refine mT_c rfl rfl ?_
  refine x_cMenOne _ _ _ pp hpp ?_
  iterate 2 refine mT_s rfl rfl ?_
  refine mT_c rfl rfl ?_
  refine x_cMenOther _ _ _ pp hpp ?_
  iterate 2 refine mT_s rfl rfl ?_
  (apply mT_getf; (case hc => rfl); (case ha => first | rfl | assumption); (case hf => first | rfl | assumption))
  refine mT_s rfl rfl ?_
  (apply mT_getf; (case hc => rfl); (case ha => first | rfl | assumption); (case hf => first | rfl | assumption))
  refine mT_s rfl rfl ?_
  (apply mT_getf; (case hc => rfl); (case ha => first | rfl | assumption); (case hf => first | rfl | assumption))
  iterate 3 refine mT_s rfl rfl ?_
  (apply mT_getf; (case hc => rfl); (case ha => first | rfl | assumption); (case hf => first | rfl | assumption))
  (apply mT_inv; (case hc => rfl); (case hd => rfl); (case hb => first | rfl | assumption); (case hg => rfl))
  refine x_oddsOf_21 _ h _ i iv s l le mo B p q (pp / 20 + 1) (pp % 20 + 1) g hp hq (by omega) (fun h2 r2 => ?_)
  have hod := (a_od_n s l p q (pp / 20 + 1) (pp % 20 + 1) g).2.2
  have hm1 : 1 ≤ pp / 20 + 1 ∧ pp / 20 + 1 ≤ 20 := by omega
  have ho1 : 1 ≤ pp % 20 + 1 ∧ pp % 20 + 1 ≤ 20 := by omega
  have B2 := B.c (by decide) r2.1 r2.2
  obtain ⟨hR2, hN2, hV2, -, -, -, -, -⟩ := id B2
  have D2 : h2 53 = _ := (r2.1 53 (by decide)).trans D0
  have hu := pq_ok (m := n_few le (pp / 20 + 1)) (o := n_mor mo (pp % 20 + 1)) ⟨n_few_pos _ _, n_few_le hm1.2⟩ ⟨n_mor_pos ho1.1, n_mor_le⟩
  have hv := pq_ok (m := n_mor mo (pp / 20 + 1)) (o := n_few le (pp % 20 + 1)) ⟨n_mor_pos hm1.1, n_mor_le⟩ ⟨n_few_pos _ _, n_few_le ho1.2⟩
  iterate 2 refine mT_s rfl rfl ?_
  (apply mT_getf; (case hc => rfl); (case ha => first | rfl | assumption); (case hf => first | rfl | assumption))
  refine mT_s rfl rfl ?_
  (apply mT_inv; (case hc => rfl); (case hd => rfl); (case hb => first | rfl | assumption); (case hg => rfl))
  refine x_menIfWon_21 _ h2 _ i iv hR2 hN2 l le mo hV2 _ (pp / 20 + 1) rfl (by omega) hle ?_
  refine mT_s rfl rfl ?_
  (apply mT_getf; (case hc => rfl); (case ha => first | rfl | assumption); (case hf => first | rfl | assumption))
  refine mT_s rfl rfl ?_
  (apply mT_inv; (case hc => rfl); (case hd => rfl); (case hb => first | rfl | assumption); (case hg => rfl))
  refine x_menIfLost_21 _ h2 _ i iv hR2 hN2 l le mo hV2 _ (pp % 20 + 1) rfl (by omega) hmo ?_
  refine mT_c rfl rfl ?_
  refine x_pairOf _ _ _ (n_few le (pp / 20 + 1)) (n_mor mo (pp % 20 + 1)) ⟨n_few_pos _ _, n_few_le hm1.2⟩ ⟨n_mor_pos ho1.1, n_mor_le⟩ ?_
  iterate 2 refine mT_s rfl rfl ?_
  (apply mT_getf; (case hc => rfl); (case ha => first | rfl | assumption); (case hf => first | rfl | assumption))
  refine mT_s rfl rfl ?_
  (apply mT_inv; (case hc => rfl); (case hd => rfl); (case hb => first | rfl | assumption); (case hg => rfl))
  refine x_menIfLost_21 _ h2 _ i iv hR2 hN2 l le mo hV2 _ (pp / 20 + 1) rfl (by omega) hmo ?_
  refine mT_s rfl rfl ?_
  (apply mT_getf; (case hc => rfl); (case ha => first | rfl | assumption); (case hf => first | rfl | assumption))
  refine mT_s rfl rfl ?_
  (apply mT_inv; (case hc => rfl); (case hd => rfl); (case hb => first | rfl | assumption); (case hg => rfl))
  refine x_menIfWon_21 _ h2 _ i iv hR2 hN2 l le mo hV2 _ (pp % 20 + 1) rfl (by omega) hle ?_
  refine mT_c rfl rfl ?_
  refine x_pairOf _ _ _ (n_mor mo (pp / 20 + 1)) (n_few le (pp % 20 + 1)) ⟨n_mor_pos hm1.1, n_mor_le⟩ ⟨n_few_pos _ _, n_few_le ho1.2⟩ ?_
  iterate 2 refine mT_s rfl rfl ?_
  (apply mT_getf; (case hc => rfl); (case ha => first | rfl | assumption); (case hf => first | rfl | assumption))
  refine mT_if_eq rfl (fun c79 => ?_) (fun c79 => ?_)
  · have hcf : cnt = false := by
      cases cnt
      · rfl
      · exact absurd c79 (by decide)
    subst hcf
    iterate 4 refine mT_s rfl rfl ?_
    refine x_sp_L54 (d + 4) Q false p q g pl sz P lb W W2 h2 hN2 D2 (C0.c (fun c z1 z2 => r2.1 c (by omega))) pp (a_od s l p q (pp / 20 + 1) (pp % 20 + 1) g) (pq (n_few le (pp / 20 + 1)) (n_mor mo (pp % 20 + 1))) (pq (n_mor mo (pp / 20 + 1)) (n_few le (pp % 20 + 1))) 0 0 hpp (by omega) hu.1 hv.1 (by omega) (fun w hw => ⟨hw, Nat.le_refl _⟩) _ _ (fun h3 sz3 P3 lb3 W3 f3 C3 hF3 hS3 => ?_) (0 + 1) 0 h2 sz2 P2 lb2 W2 _ _ (by omega) (fun c z => rfl) (C2.c (fun c z1 z2 => r2.1 c (by omega))) (fun φ => (Int64.add_zero _).symm) hS
    refine K h3 sz3 P3 lb3 W3 (fun c z1 z2 => (f3 c z2).trans (r2.1 c z1)) (by rw [f3 30 (by decide)]; exact r2.2) C3 (fun φ => ?_) hS3
    have := hF3 φ
    rw [hu.2.1, hu.2.2, hv.2.1, hv.2.2] at this
    exact this
  · have hcf : cnt = true := by
      cases cnt
      · exact absurd rfl c79
      · rfl
    subst hcf
    refine mT_s rfl rfl ?_
    (apply mT_getf; (case hc => rfl); (case ha => first | rfl | assumption); (case hf => first | rfl | assumption))
    iterate 6 refine mT_s rfl rfl ?_
    rw [min_11 hpl]
    refine x_sp_L54 (d + 4) Q true p q g pl sz P lb W W2 h2 hN2 D2 (C0.c (fun c z1 z2 => r2.1 c (by omega))) pp (a_od s l p q (pp / 20 + 1) (pp % 20 + 1) g) (pq (n_few le (pp / 20 + 1)) (n_mor mo (pp % 20 + 1))) (pq (n_mor mo (pp / 20 + 1)) (n_few le (pp % 20 + 1))) pl (pl + 1) hpp (by omega) hu.1 hv.1 (by omega) (fun w hw => ⟨by omega, by show w + 1 ≤ pl + 1; omega⟩) _ _ (fun h3 sz3 P3 lb3 W3 f3 C3 hF3 hS3 => ?_) (pl + 1) 0 h2 sz2 P2 lb2 W2 _ _ (by omega) (fun c z => rfl) (C2.c (fun c z1 z2 => r2.1 c (by omega))) (fun φ => (Int64.add_zero _).symm) hS
    refine K h3 sz3 P3 lb3 W3 (fun c z1 z2 => (f3 c z2).trans (r2.1 c z1)) (by rw [f3 30 (by decide)]; exact r2.2) C3 (fun φ => ?_) hS3
    have := hF3 φ
    rw [hu.2.1, hu.2.2, hv.2.1, hv.2.2] at this
    exact this

theorem x_go_L54 (d : Nat) (Q : Option Value → mH → Prop) (i : Nat → Int32) (iv : Value) (s : Nat → Int32) (l : List Tok) (le mo : Nat) (hle : le ≤ 99) (hmo : mo ≤ 99) (p q g pl : Nat) (hp : p < 5) (hq : q < 5) (hg : g < 20000) (hpl : pl ≤ 11) (cnt : Bool) (sz : Nat) (P lb : Nat → Nat) (W : Nat → Int64) (h0 : mH) (B0 : rBs 21 h0 i iv s l le mo) (D0 : rDu h0 54 58 p q g pl cnt) (C0 : cCl h0 54 sz P lb W) (K : ∀ h2 sz2 P2 lb2 W2, (∀ c, c ≠ 30 → c < 58 ∨ 61 < c → h2 c = h0 c) → (∃ f, h2 30 = .inl (0, 5, .inl f)) → cCl h2 58 sz2 P2 lb2 W2 → (∀ φ : Nat → Nat → Nat → Int64, FW W2 φ = sL (fun j => sL (fun w => W (P j * 13 + w) * (tC cnt (a_od s l p q) (n_few le) (n_mor mo) g φ) w (P j / 20 + 1) (P j % 20 + 1)) (cond cnt pl 0 + 1)) sz) → cS W2 (cond cnt (pl + 1) 0) → mT0 (d + 6) z_X2_goesOn 32 [some (.ref 53), some (.int (nI sz))] [] h2 Q) : ∀ (r k : Nat) (h : mH) (sz2 : Nat) (P2 lb2 : Nat → Nat) (W2 : Nat → Int64), k + r = sz → (∀ c, c ≠ 30 → c < 58 ∨ 61 < c → h c = h0 c) → (∃ f, h 30 = .inl (0, 5, .inl f)) → cCl h 58 sz2 P2 lb2 W2 → (∀ φ : Nat → Nat → Nat → Int64, FW W2 φ = sL (fun j => sL (fun w => W (P j * 13 + w) * (tC cnt (a_od s l p q) (n_few le) (n_mor mo) g φ) w (P j / 20 + 1) (P j % 20 + 1)) (cond cnt pl 0 + 1)) k) → cS W2 (cond cnt (pl + 1) 0) → mT0 (d + 6) z_X2_goesOn 2 [some (.ref 53), some (.int (nI k))] [] h Q := by
  intro r
  induction r with
  | zero =>
    intro k h sz2 P2 lb2 W2 hk fh h9 C2 hF hS
    have B := B0.d5 (h2 := h) (fun c z1 z2 => fh c z1 (by omega)) h9
    obtain ⟨hR, hN, -, -, -, -, -, -⟩ := id B
    have hD : h 53 = _ := (fh 53 (by decide) (by decide)).trans D0
    have C1 := C0.c (h2 := h) (fun c z1 z2 => fh c (by omega) (by omega))
    obtain ⟨hC1, ⟨pf, hpf, ep⟩, -, -, hI⟩ := id C1
    have hC1 : h 54 = .inr (1, [.ref 55, .int (nI sz), .ref 56, .ref 57]) := hC1
    have hpf : h 55 = _ := hpf
    have hszle := hI.le
    iterate 2 refine mT_s rfl rfl ?_
    (apply mT_getf; (case hc => rfl); (case ha => first | rfl | assumption); (case hf => first | rfl | assumption))
    (apply mT_getf; (case hc => rfl); (case ha => first | rfl | assumption); (case hf => first | rfl | assumption))
    refine mT_icmp_ge rfl (fun _ => ?_) (fun c => absurd (nI_le (a := sz) (b := k) (by omega) (by omega)) c)
    obtain rfl : k = sz := by omega
    exact K h sz2 P2 lb2 W2 fh h9 C2 hF hS
  | succ r ih =>
    intro k h sz2 P2 lb2 W2 hk fh h9 C2 hF hS
    have B := B0.d5 (h2 := h) (fun c z1 z2 => fh c z1 (by omega)) h9
    obtain ⟨hR, hN, -, -, -, -, -, -⟩ := id B
    have hD : h 53 = _ := (fh 53 (by decide) (by decide)).trans D0
    have C1 := C0.c (h2 := h) (fun c z1 z2 => fh c (by omega) (by omega))
    obtain ⟨hC1, ⟨pf, hpf, ep⟩, -, -, hI⟩ := id C1
    have hC1 : h 54 = .inr (1, [.ref 55, .int (nI sz), .ref 56, .ref 57]) := hC1
    have hpf : h 55 = _ := hpf
    have hszle := hI.le
    iterate 2 refine mT_s rfl rfl ?_
    (apply mT_getf; (case hc => rfl); (case ha => first | rfl | assumption); (case hf => first | rfl | assumption))
    (apply mT_getf; (case hc => rfl); (case ha => first | rfl | assumption); (case hf => first | rfl | assumption))
    have ix1 := ep k (by omega)
    refine mT_icmp_ge rfl (fun c => absurd c (nI_ge (a := k) (b := sz) (by omega) (by omega))) (fun _ => ?_)
    iterate 2 refine mT_s rfl rfl ?_
    (apply mT_getf; (case hc => rfl); (case ha => first | rfl | assumption); (case hf => first | rfl | assumption))
    (apply mT_getf; (case hc => rfl); (case ha => first | rfl | assumption); (case hf => first | rfl | assumption))
    refine mT_s rfl rfl ?_
    (apply mT_ialdK; (case hc => rfl); (case ha => first | rfl | assumption); (case hk => first | (simp only [ki_0, ki_1, ki_2, ki_3, ki_4, ki_5, ki_6, ki_7, ki_8, ki_9, ki_10, ki_11, ki_12, ki_17, ki_20, ki_21, ki_22, ki_42, ki_50, ki_58, ki_66, ki_74, ki_140, ki_174, ki_179, ki_184, ki_189, ki_441, ki_13, nI_add, pk_mul]; with_reducible rfl) | (simp only [ki_0, ki_1, ki_2, ki_3, ki_4, ki_5, ki_6, ki_7, ki_8, ki_9, ki_10, ki_11, ki_12, ki_17, ki_20, ki_21, ki_22, ki_42, ki_50, ki_58, ki_66, ki_74, ki_140, ki_174, ki_179, ki_184, ki_189, ki_441, ki_13, ix1, nI_add, pk_mul]; with_reducible rfl) | (simp only [ki_0, ki_1, ki_2, ki_3, ki_4, ki_5, ki_6, ki_7, ki_8, ki_9, ki_10, ki_11, ki_12, ki_17, ki_20, ki_21, ki_22, ki_42, ki_50, ki_58, ki_66, ki_74, ki_140, ki_174, ki_179, ki_184, ki_189, ki_441, ki_13, ix1, ix2, nI_add, pk_mul]; with_reducible rfl) | (simp only [ki_0, ki_1, ki_2, ki_3, ki_4, ki_5, ki_6, ki_7, ki_8, ki_9, ki_10, ki_11, ki_12, ki_17, ki_20, ki_21, ki_22, ki_42, ki_50, ki_58, ki_66, ki_74, ki_140, ki_174, ki_179, ki_184, ki_189, ki_441, ki_13, ix1, ix2, ix3, nI_add, pk_mul]; with_reducible rfl) | (simp (disch := omega) only [upd_n, ki_0, ki_1, ki_2, ki_3, ki_4, ki_5, ki_6, ki_7, ki_8, ki_9, ki_10, ki_11, ki_12, ki_17, ki_20, ki_21, ki_22, ki_42, ki_50, ki_58, ki_66, ki_74, ki_140, ki_174, ki_179, ki_184, ki_189, ki_441, ki_13, ix1, nI_add, pk_mul]; with_reducible rfl) | (simp (disch := omega) only [upd_n, ki_0, ki_1, ki_2, ki_3, ki_4, ki_5, ki_6, ki_7, ki_8, ki_9, ki_10, ki_11, ki_12, ki_17, ki_20, ki_21, ki_22, ki_42, ki_50, ki_58, ki_66, ki_74, ki_140, ki_174, ki_179, ki_184, ki_189, ki_441, ki_13, ix1, ix2, nI_add, pk_mul]; with_reducible rfl) | rfl); (case hlt => first | decide | omega); (case hn => first | decide | omega))
    (apply mT_inv; (case hc => rfl); (case hd => rfl); (case hb => first | rfl | assumption); (case hg => rfl))
    rw [ix1]
    have hPk := (hI.2.2.1 k (by omega)).1
    refine x_spreads_54 d h _ i iv s l le mo hle hmo B p q g pl hp hq hg hpl cnt sz P lb W hD C1 sz2 P2 lb2 W2 C2 hS (P k) hPk (fun h3 sz3 P3 lb3 W3 f3 h93 C3 hF3 hS3 => ?_)
    iterate 2 refine mT_s rfl rfl ?_
    rw [nI_1]
    exact ih (k + 1) h3 sz3 P3 lb3 W3 (by omega) (fun c z1 z2 => (f3 c z1 z2).trans (fh c z1 z2)) h93 C3 (fun φ => by rw [hF3 φ, hF φ, sL_S _ k]) hS3
set_option maxHeartbeats 1000000 in
theorem x_goesOn_54 (d : Nat) (Q : Option Value → mH → Prop) (i : Nat → Int32) (iv : Value) (s : Nat → Int32) (l : List Tok) (le mo : Nat) (hle : le ≤ 99) (hmo : mo ≤ 99) (p q g pl : Nat) (hp : p < 5) (hq : q < 5) (hg : g < 20000) (hpl : pl ≤ 11) (cnt : Bool) (sz : Nat) (P lb : Nat → Nat) (W : Nat → Int64) (h0 : mH) (B0 : rBs 21 h0 i iv s l le mo) (D0 : rDu h0 54 58 p q g pl cnt) (C0 : cCl h0 54 sz P lb W) (hS0 : cS W (cond cnt pl 0)) (Z0 : cZ h0 58) (K : ∀ h2 sz2 P2 lb2 W2, (∀ c, c ≠ 30 → c < 53 ∨ 61 < c → h2 c = h0 c) → (∃ f, h2 30 = .inl (0, 5, .inl f)) → rDu h2 58 54 p q (g + 1) (pl + 1) cnt → cCl h2 58 sz2 P2 lb2 W2 → cZ h2 54 → (∀ φ : Nat → Nat → Nat → Int64, FW W2 φ = FW W (tC cnt (a_od s l p q) (n_few le) (n_mor mo) g φ)) → cS W2 (cond cnt (pl + 1) 0) → Q none h2) : mT0 (d + 6) z_X2_goesOn 0 (m_init z_X2_goesOn [.ref 53]) [] h0 Q := by
  obtain ⟨hR0, hN0, -, -, -, -, -, h90⟩ := id B0
  obtain ⟨Pz, lbz, Wz, Cz, hz⟩ := Z0
  iterate 2 refine mT_s rfl rfl ?_
  refine x_go_L54 d Q i iv s l le mo hle hmo p q g pl hp hq hg hpl cnt sz P lb W h0 B0 D0 C0 (fun h2 sz2 P2 lb2 W2 f2 h92 C2 hF2 hS2 => ?_) sz 0 h0 0 Pz lbz Wz (by omega) (fun _ _ _ => rfl) h90 Cz (fun φ => FW_z hz) (fun k hk hn => absurd (hz k hk) hn)
  have hD2 : h2 53 = _ := (f2 53 (by decide) (by decide)).trans D0
  have hN2 : 87 ≤ m_nx h2 := nx_eq (f2 0 (by decide) (by decide)) hN0
  have C12 := C0.c (h2 := h2) (fun c z1 z2 => f2 c (by omega) (by omega))
  have hI0 := C0.2.2.2.2
  have hC12 : h2 54 = .inr (1, [.ref 55, .int (nI sz), .ref 56, .ref 57]) := C12.1
  refine mT_s rfl rfl ?_
  (apply mT_getf; (case hc => rfl); (case ha => first | rfl | assumption); (case hf => first | rfl | assumption))
  (apply mT_inv; (case hc => rfl); (case hd => rfl); (case hb => first | rfl | assumption); (case hg => rfl))
  refine x_clear_54 _ h2 _ sz P lb W hN2 C12 (fun h3 f3 Z3 => ?_)
  have hD3 : h3 53 = _ := (f3 53 (by decide)).trans hD2
  have hN3 : 87 ≤ m_nx h3 := nx_eq (f3 0 (by decide)) hN2
  refine mT_s rfl rfl ?_
  (apply mT_getf; (case hc => rfl); (case ha => first | rfl | assumption); (case hf => first | rfl | assumption))
  iterate 3 refine mT_s rfl rfl ?_
  (apply mT_getf; (case hc => rfl); (case ha => first | rfl | assumption); (case hf => first | rfl | assumption))
  (apply mT_putfN; (case hc => rfl); (case ha => first | rfl | assumption); (case hN => assumption); (case hg => rfl))
  iterate 2 refine mT_s rfl rfl ?_
  (apply mT_putfN; (case hc => rfl); (case ha => first | rfl | assumption); (case hN => assumption); (case hg => rfl))
  iterate 2 refine mT_s rfl rfl ?_
  (apply mT_getf; (case hc => rfl); (case ha => first | rfl | assumption); (case hf => first | rfl | assumption))
  iterate 2 refine mT_s rfl rfl ?_
  (apply mT_putfN; (case hc => rfl); (case ha => first | rfl | assumption); (case hN => assumption); (case hg => rfl))
  iterate 2 refine mT_s rfl rfl ?_
  (apply mT_getf; (case hc => rfl); (case ha => first | rfl | assumption); (case hf => first | rfl | assumption))
  iterate 2 refine mT_s rfl rfl ?_
  (apply mT_putfN; (case hc => rfl); (case ha => first | rfl | assumption); (case hN => assumption); (case hg => rfl))
  refine mT_ret rfl rfl ?_
  simp only [m_up_up]
  rw [nI_1, nI_1]
  have ne : ∀ c, c ≠ 53 → c < 54 ∨ 57 < c → (m_up h3 53 (.inr (2, [.ref 58, .ref 54, .ref 21, .int (nI p), .int (nI q), .int (nI (g + 1)), .int (nI (pl + 1)), .int (bI cnt)]))) c = h2 c := fun c z1 z2 => (m_up_n z1).trans (f3 c z2)
  refine K _ sz2 P2 lb2 W2 (fun c z1 z2 => (ne c (by omega) (by omega)).trans (f2 c z1 (by omega))) (by
    obtain ⟨f, hf⟩ := h92
    exact ⟨f, (ne 30 (by decide) (by decide)).trans hf⟩) rfl (C2.c (fun c z1 z2 => ne c (by omega) (by omega))) (Z3.c (fun c z1 z2 => m_up_n (show c ≠ 53 by omega))) (fun φ => ?_) hS2
  rw [hF2 φ]
  exact FW_list hI0 hS0 (by cases cnt <;> simp only [cond] <;> omega) _
theorem x_begins_54 (d : Nat) (h : mH) (Q : Option Value → mH → Prop) (i : Nat → Int32) (iv : Value) (s : Nat → Int32) (l : List Tok) (le mo : Nat) (hle : le ≤ 99) (hmo : mo ≤ 99) (B : rBs 21 h i iv s l le mo) (mm : Nat → Nat) (M : rMn 21 h mm) (p q g : Nat) (hp : p < 5) (hq : q < 5) (hi1 : i 1 = nI g) (hmp : 1 ≤ mm p ∧ mm p ≤ 20) (hmq : 1 ≤ mm q ∧ mm q ≤ 20) (cnt : Bool) (sz : Nat) (P lb : Nat → Nat) (W : Nat → Int64) (D0 : ∃ (v : Value) (x1 x2 x3 x4 x5 : Int32), h 53 = .inr (2, [.ref 54, .ref 58, v, .int x1, .int x2, .int x3, .int x4, .int x5])) (C0 : cCl h 54 sz P lb W) (Z0 : cZ h 58)  (K : ∀ h2 sz2 P2 lb2 W2, (∀ c, c < 53 ∨ 61 < c → h2 c = h c) → rDu h2 54 58 p q g 0 cnt → cCl h2 54 sz2 P2 lb2 W2 → cZ h2 58 → (∀ φ : Nat → Nat → Nat → Int64, FW W2 φ = φ 0 (mm p) (mm q)) → cS W2 0 → Q none h2) : mT0 (d + 2) z_X2_begins 0 (m_init z_X2_begins [.ref 53, .ref 21, .int (nI p), .int (nI q), .int (bI cnt)]) [] h Q := by
  obtain ⟨hR, hN, -, -, -, -, -, -⟩ := id B
  obtain ⟨fm, hm, em⟩ := id M
  obtain ⟨v0, x1, x2, x3, x4, x5, D0⟩ := D0
  have hC0 := C0.1
  iterate 2 refine mT_s rfl rfl ?_
  (apply mT_putfN; (case hc => rfl); (case ha => first | rfl | assumption); (case hN => assumption); (case hg => rfl))
  iterate 2 refine mT_s rfl rfl ?_
  (apply mT_putfN; (case hc => rfl); (case ha => first | rfl | assumption); (case hN => assumption); (case hg => rfl))
  iterate 2 refine mT_s rfl rfl ?_
  (apply mT_putfN; (case hc => rfl); (case ha => first | rfl | assumption); (case hN => assumption); (case hg => rfl))
  iterate 2 refine mT_s rfl rfl ?_
  (apply mT_getf; (case hc => rfl); (case ha => first | rfl | assumption); (case hf => first | rfl | assumption))
  (apply mT_putfN; (case hc => rfl); (case ha => first | rfl | assumption); (case hN => assumption); (case hg => rfl))
  iterate 2 refine mT_s rfl rfl ?_
  (apply mT_putfN; (case hc => rfl); (case ha => first | rfl | assumption); (case hN => assumption); (case hg => rfl))
  iterate 2 refine mT_s rfl rfl ?_
  (apply mT_putfN; (case hc => rfl); (case ha => first | rfl | assumption); (case hN => assumption); (case hg => cases cnt <;> rfl))
  refine mT_s rfl rfl ?_
  (apply mT_getf; (case hc => rfl); (case ha => first | rfl | assumption); (case hf => first | rfl | assumption))
  (apply mT_inv; (case hc => rfl); (case hd => rfl); (case hb => first | rfl | assumption); (case hg => rfl))
  simp only [m_up_up]
  rw [hi1]
  refine x_clear_54 _ (m_up h 53 _) _ sz P lb W hN (C0.c (fun c z1 z2 => m_up_n (show c ≠ 53 by omega))) (fun h2 f2 Z2 => ?_)
  obtain ⟨P2, lb2, W2, C2, hz2⟩ := Z2
  have hD2 : h2 53 = .inr (2, [.ref 54, .ref 58, .ref 21, .int (nI p), .int (nI q), .int (nI g), .int 0, .int (bI cnt)]) := f2 53 (by decide)
  have hR2 : h2 21 = _ := (f2 21 (by decide)).trans hR
  have hm2 : h2 24 = _ := (f2 24 (by decide)).trans hm
  have hN2 : 87 ≤ m_nx h2 := nx_eq ((f2 0 (by decide)).trans rfl) hN
  have hpq := pq_ok hmp hmq
  have hC2 := C2.1
  refine mT_s rfl rfl ?_
  (apply mT_getf; (case hc => rfl); (case ha => first | rfl | assumption); (case hf => first | rfl | assumption))
  refine mT_s rfl rfl ?_
  (apply mT_getf; (case hc => rfl); (case ha => first | rfl | assumption); (case hf => first | rfl | assumption))
  refine mT_s rfl rfl ?_
  (apply mT_ialdK; (case hc => rfl); (case ha => first | rfl | assumption); (case hk => first | (simp only [ki_0, ki_1, ki_2, ki_3, ki_4, ki_5, ki_6, ki_7, ki_8, ki_9, ki_10, ki_11, ki_12, ki_17, ki_20, ki_21, ki_22, ki_42, ki_50, ki_58, ki_66, ki_74, ki_140, ki_174, ki_179, ki_184, ki_189, ki_441, ki_13, nI_add, pk_mul]; with_reducible rfl) | (simp only [ki_0, ki_1, ki_2, ki_3, ki_4, ki_5, ki_6, ki_7, ki_8, ki_9, ki_10, ki_11, ki_12, ki_17, ki_20, ki_21, ki_22, ki_42, ki_50, ki_58, ki_66, ki_74, ki_140, ki_174, ki_179, ki_184, ki_189, ki_441, ki_13, ix1, nI_add, pk_mul]; with_reducible rfl) | (simp only [ki_0, ki_1, ki_2, ki_3, ki_4, ki_5, ki_6, ki_7, ki_8, ki_9, ki_10, ki_11, ki_12, ki_17, ki_20, ki_21, ki_22, ki_42, ki_50, ki_58, ki_66, ki_74, ki_140, ki_174, ki_179, ki_184, ki_189, ki_441, ki_13, ix1, ix2, nI_add, pk_mul]; with_reducible rfl) | (simp only [ki_0, ki_1, ki_2, ki_3, ki_4, ki_5, ki_6, ki_7, ki_8, ki_9, ki_10, ki_11, ki_12, ki_17, ki_20, ki_21, ki_22, ki_42, ki_50, ki_58, ki_66, ki_74, ki_140, ki_174, ki_179, ki_184, ki_189, ki_441, ki_13, ix1, ix2, ix3, nI_add, pk_mul]; with_reducible rfl) | (simp (disch := omega) only [upd_n, ki_0, ki_1, ki_2, ki_3, ki_4, ki_5, ki_6, ki_7, ki_8, ki_9, ki_10, ki_11, ki_12, ki_17, ki_20, ki_21, ki_22, ki_42, ki_50, ki_58, ki_66, ki_74, ki_140, ki_174, ki_179, ki_184, ki_189, ki_441, ki_13, ix1, nI_add, pk_mul]; with_reducible rfl) | (simp (disch := omega) only [upd_n, ki_0, ki_1, ki_2, ki_3, ki_4, ki_5, ki_6, ki_7, ki_8, ki_9, ki_10, ki_11, ki_12, ki_17, ki_20, ki_21, ki_22, ki_42, ki_50, ki_58, ki_66, ki_74, ki_140, ki_174, ki_179, ki_184, ki_189, ki_441, ki_13, ix1, ix2, nI_add, pk_mul]; with_reducible rfl) | rfl); (case hlt => first | decide | omega); (case hn => first | decide | omega))
  refine mT_s rfl rfl ?_
  (apply mT_getf; (case hc => rfl); (case ha => first | rfl | assumption); (case hf => first | rfl | assumption))
  refine mT_s rfl rfl ?_
  (apply mT_ialdK; (case hc => rfl); (case ha => first | rfl | assumption); (case hk => first | (simp only [ki_0, ki_1, ki_2, ki_3, ki_4, ki_5, ki_6, ki_7, ki_8, ki_9, ki_10, ki_11, ki_12, ki_17, ki_20, ki_21, ki_22, ki_42, ki_50, ki_58, ki_66, ki_74, ki_140, ki_174, ki_179, ki_184, ki_189, ki_441, ki_13, nI_add, pk_mul]; with_reducible rfl) | (simp only [ki_0, ki_1, ki_2, ki_3, ki_4, ki_5, ki_6, ki_7, ki_8, ki_9, ki_10, ki_11, ki_12, ki_17, ki_20, ki_21, ki_22, ki_42, ki_50, ki_58, ki_66, ki_74, ki_140, ki_174, ki_179, ki_184, ki_189, ki_441, ki_13, ix1, nI_add, pk_mul]; with_reducible rfl) | (simp only [ki_0, ki_1, ki_2, ki_3, ki_4, ki_5, ki_6, ki_7, ki_8, ki_9, ki_10, ki_11, ki_12, ki_17, ki_20, ki_21, ki_22, ki_42, ki_50, ki_58, ki_66, ki_74, ki_140, ki_174, ki_179, ki_184, ki_189, ki_441, ki_13, ix1, ix2, nI_add, pk_mul]; with_reducible rfl) | (simp only [ki_0, ki_1, ki_2, ki_3, ki_4, ki_5, ki_6, ki_7, ki_8, ki_9, ki_10, ki_11, ki_12, ki_17, ki_20, ki_21, ki_22, ki_42, ki_50, ki_58, ki_66, ki_74, ki_140, ki_174, ki_179, ki_184, ki_189, ki_441, ki_13, ix1, ix2, ix3, nI_add, pk_mul]; with_reducible rfl) | (simp (disch := omega) only [upd_n, ki_0, ki_1, ki_2, ki_3, ki_4, ki_5, ki_6, ki_7, ki_8, ki_9, ki_10, ki_11, ki_12, ki_17, ki_20, ki_21, ki_22, ki_42, ki_50, ki_58, ki_66, ki_74, ki_140, ki_174, ki_179, ki_184, ki_189, ki_441, ki_13, ix1, nI_add, pk_mul]; with_reducible rfl) | (simp (disch := omega) only [upd_n, ki_0, ki_1, ki_2, ki_3, ki_4, ki_5, ki_6, ki_7, ki_8, ki_9, ki_10, ki_11, ki_12, ki_17, ki_20, ki_21, ki_22, ki_42, ki_50, ki_58, ki_66, ki_74, ki_140, ki_174, ki_179, ki_184, ki_189, ki_441, ki_13, ix1, ix2, nI_add, pk_mul]; with_reducible rfl) | rfl); (case hlt => first | decide | omega); (case hn => first | decide | omega))
  refine mT_c rfl rfl ?_
  rw [em p hp, em q hq]
  refine x_pairOf _ _ _ (mm p) (mm q) hmp hmq ?_
  iterate 2 refine mT_s rfl rfl ?_
  (apply mT_inv; (case hc => rfl); (case hd => rfl); (case hb => first | rfl | assumption); (case hg => rfl))
  refine x_add_54 _ h2 _ 0 P2 lb2 W2 hN2 C2 (pq (mm p) (mm q)) 0 hpq.1 (by decide) 1 (fun h3 sz3 P3 lb3 f3 C3 => ?_)
  refine mT_ret rfl rfl ?_
  refine K h3 sz3 P3 lb3 _ (fun c z => (f3 c (by omega)).trans ((f2 c (by omega)).trans (m_up_n (show c ≠ 53 by omega)))) ((f3 53 (by decide)).trans hD2) C3 (Z0.c (fun c z1 z2 => (f3 c (by omega)).trans ((f2 c (by omega)).trans (m_up_n (show c ≠ 53 by omega))))) (fun φ => ?_) (cS_upd (fun k hk hn => absurd (hz2 k hk) hn) (Nat.le_refl _) (by decide))
  rw [FW_upd W2 φ 1 hpq.1 (by decide), FW_z hz2, hpq.2.1, hpq.2.2, Int64.zero_add, Int64.one_mul]

set_option maxHeartbeats 1000000 in
theorem x_sp_L58 (d : Nat) (Q : Option Value → mH → Prop) (cnt : Bool) (p1 q1 g pl : Nat) (sz : Nat) (P lb : Nat → Nat) (W Wb : Nat → Int64) (h0 : mH) (hN0 : 87 ≤ m_nx h0) (D0 : rDu h0 58 54 p1 q1 g pl cnt) (C0 : cCl h0 58 sz P lb W) (p e u v M G : Nat) (hp : p < 400) (he : e ≤ 10) (hu : u < 400) (hv : v < 400) (hM : M ≤ 11) (hG : ∀ w, w ≤ M → w ≤ G ∧ cond cnt (w + 1) 0 ≤ G) (x2 x3 : Option Value) (K : ∀ h2 sz2 P2 lb2 W3, (∀ c, c < 54 ∨ 57 < c → h2 c = h0 c) → cCl h2 54 sz2 P2 lb2 W3 → (∀ φ : Nat → Nat → Nat → Int64, FW W3 φ = FW Wb φ + sL (fun w => W (p * 13 + w) * (lN e * φ (cond cnt (w + 1) 0) (u / 20 + 1) (u % 20 + 1) + lN (10 - e) * φ w (v / 20 + 1) (v % 20 + 1))) (M + 1)) → cS W3 G → Q none h2) : ∀ (r k : Nat) (h : mH) (sz2 : Nat) (P2 lb2 : Nat → Nat) (W2 : Nat → Int64) (x9 x10 : Option Value), k + r = M + 1 → (∀ c, c < 54 ∨ 57 < c → h c = h0 c) → cCl h 54 sz2 P2 lb2 W2 → (∀ φ : Nat → Nat → Nat → Int64, FW W2 φ = FW Wb φ + sL (fun w => W (p * 13 + w) * (lN e * φ (cond cnt (w + 1) 0) (u / 20 + 1) (u % 20 + 1) + lN (10 - e) * φ w (v / 20 + 1) (v % 20 + 1))) k) → cS W2 G → mT0 (d + 1) z_X2_spreads 100 [some (.ref 53), some (.int (nI p)), x2, x3, some (.int (nI e)), some (.int (nI u)), some (.int (nI v)), some (.int (nI M)), some (.int (nI k)), x9, x10] [] h Q := by
  intro r
  induction r with
  | zero =>
    intro k h sz2 P2 lb2 W2 x9 x10 hk fh C2 hF hS
    have hD : h 53 = _ := (fh 53 (by decide)).trans D0
    have hN : 87 ≤ m_nx h := nx_eq (fh 0 (by decide)) hN0
    have C1 := C0.c (h2 := h) (fun c z1 z2 => fh c (by omega))
    have hC1 := C1.1
    have hC2 := C2.1
    iterate 2 refine mT_s rfl rfl ?_
    refine mT_icmp_gt rfl (fun _ => ?_) (fun c => absurd (nI_lt (by omega) (by omega)) c)
    refine mT_ret rfl rfl ?_
    obtain rfl : k = M + 1 := by omega
    exact K h sz2 P2 lb2 W2 fh C2 hF hS
  | succ r ih =>
    intro k h sz2 P2 lb2 W2 x9 x10 hk fh C2 hF hS
    have hD : h 53 = _ := (fh 53 (by decide)).trans D0
    have hN : 87 ≤ m_nx h := nx_eq (fh 0 (by decide)) hN0
    have C1 := C0.c (h2 := h) (fun c z1 z2 => fh c (by omega))
    have hC1 := C1.1
    have hC2 := C2.1
    iterate 2 refine mT_s rfl rfl ?_
    refine mT_icmp_gt rfl (fun c => absurd ((nI_ltI (by omega) (by omega)).mp c) (by omega)) (fun _ => ?_)
    refine mT_s rfl rfl ?_
    (apply mT_getf; (case hc => rfl); (case ha => first | rfl | assumption); (case hf => first | rfl | assumption))
    iterate 2 refine mT_s rfl rfl ?_
    (apply mT_inv; (case hc => rfl); (case hd => rfl); (case hb => first | rfl | assumption); (case hg => rfl))
    refine x_part_58 _ h _ sz P lb W hN C1 p k hp (by omega) ?_
    iterate 4 refine mT_s rfl rfl ?_
    refine mT_if_eq rfl (fun c123 => ?_) (fun c123 => ?_)
    · iterate 2 refine mT_s rfl rfl ?_
      rw [nI_1]
      refine ih (k + 1) h sz2 P2 lb2 W2 _ _ (by omega) fh C2 (fun φ => ?_) hS
      rw [hF φ, sL_S _ k, show W (p * 13 + k) = 0 from (lg_cmp_eq _ _).mp c123, Int64.zero_mul, Int64.add_zero]
    · refine mT_s rfl rfl ?_
      (apply mT_getf; (case hc => rfl); (case ha => first | rfl | assumption); (case hf => first | rfl | assumption))
      iterate 2 refine mT_s rfl rfl ?_
      (apply mT_getf; (case hc => rfl); (case ha => first | rfl | assumption); (case hf => first | rfl | assumption))
      refine mT_if_eq rfl (fun c136 => ?_) (fun c136 => ?_)
      · have hcf : cnt = false := by
          cases cnt
          · rfl
          · exact absurd c136 (by decide)
        subst hcf
        iterate 5 refine mT_s rfl rfl ?_
        (apply mT_inv; (case hc => rfl); (case hd => rfl); (case hb => first | rfl | assumption); (case hg => rfl))
        rw [(od_n he).1]
        refine x_add_54 _ h _ sz2 P2 lb2 W2 hN C2 u 0 hu (by decide) _ (fun h3 sz3 P3 lb3 f3 C3 => ?_)
        have hN3 : 87 ≤ m_nx h3 := nx_eq (f3 0 (by decide)) hN
        have hD3 : h3 53 = _ := (f3 53 (by decide)).trans hD
        have hC3 := C3.1
        refine mT_s rfl rfl ?_
        (apply mT_getf; (case hc => rfl); (case ha => first | rfl | assumption); (case hf => first | rfl | assumption))
        iterate 8 refine mT_s rfl rfl ?_
        (apply mT_inv; (case hc => rfl); (case hd => rfl); (case hb => first | rfl | assumption); (case hg => rfl))
        rw [(od_n he).2]
        refine x_add_54 _ h3 _ sz3 P3 lb3 _ hN3 C3 v k hv (by omega) _ (fun h4 sz4 P4 lb4 f4 C4 => ?_)
        iterate 2 refine mT_s rfl rfl ?_
        rw [nI_1]
        have hG1 := hG k (by omega)
        refine ih (k + 1) h4 sz4 P4 lb4 _ _ _ (by omega) (fun c z => (f4 c z).trans ((f3 c z).trans (fh c z))) C4 (fun φ => ?_) (cS_upd (cS_upd hS hG1.2 (by decide)) hG1.1 (by omega))
        rw [FW_upd _ φ _ hv (show k < 13 by omega), FW_upd W2 φ _ hu (show 0 < 13 by omega), hF φ, sL_S _ k]
        dsimp only [cond]
        grind
      · have hcf : cnt = true := by
          cases cnt
          · exact absurd rfl c136
          · rfl
        subst hcf
        iterate 8 refine mT_s rfl rfl ?_
        (apply mT_inv; (case hc => rfl); (case hd => rfl); (case hb => first | rfl | assumption); (case hg => rfl))
        rw [(od_n he).1, nI_1]
        refine x_add_54 _ h _ sz2 P2 lb2 W2 hN C2 u (k + 1) hu (by omega) _ (fun h3 sz3 P3 lb3 f3 C3 => ?_)
        have hN3 : 87 ≤ m_nx h3 := nx_eq (f3 0 (by decide)) hN
        have hD3 : h3 53 = _ := (f3 53 (by decide)).trans hD
        have hC3 := C3.1
        refine mT_s rfl rfl ?_
        (apply mT_getf; (case hc => rfl); (case ha => first | rfl | assumption); (case hf => first | rfl | assumption))
        iterate 8 refine mT_s rfl rfl ?_
        (apply mT_inv; (case hc => rfl); (case hd => rfl); (case hb => first | rfl | assumption); (case hg => rfl))
        rw [(od_n he).2]
        refine x_add_54 _ h3 _ sz3 P3 lb3 _ hN3 C3 v k hv (by omega) _ (fun h4 sz4 P4 lb4 f4 C4 => ?_)
        iterate 2 refine mT_s rfl rfl ?_
        rw [nI_1]
        have hG1 := hG k (by omega)
        refine ih (k + 1) h4 sz4 P4 lb4 _ _ _ (by omega) (fun c z => (f4 c z).trans ((f3 c z).trans (fh c z))) C4 (fun φ => ?_) (cS_upd (cS_upd hS hG1.2 (by show k + 1 < 13; omega)) hG1.1 (by omega))
        rw [FW_upd _ φ _ hv (show k < 13 by omega), FW_upd W2 φ _ hu (show (k + 1) < 13 by omega), hF φ, sL_S _ k]
        dsimp only [cond]
        grind
theorem x_spreads_58 (d : Nat) (h : mH) (Q : Option Value → mH → Prop) (i : Nat → Int32) (iv : Value) (s : Nat → Int32) (l : List Tok) (le mo : Nat) (hle : le ≤ 99) (hmo : mo ≤ 99) (B : rBs 21 h i iv s l le mo) (p q g pl : Nat) (hp : p < 5) (hq : q < 5) (hg : g < 20000) (hpl : pl ≤ 11) (cnt : Bool) (sz : Nat) (P lb : Nat → Nat) (W : Nat → Int64) (D0 : rDu h 58 54 p q g pl cnt) (C0 : cCl h 58 sz P lb W) (sz2 : Nat) (P2 lb2 : Nat → Nat) (W2 : Nat → Int64) (C2 : cCl h 54 sz2 P2 lb2 W2) (hS : cS W2 (cond cnt (pl + 1) 0))  (pp : Nat) (hpp : pp < 400) (K : ∀ h2 sz3 P3 lb3 W3, (∀ c, c ≠ 30 → c < 54 ∨ 57 < c → h2 c = h c) → (∃ f, h2 30 = .inl (0, 5, .inl f)) → cCl h2 54 sz3 P3 lb3 W3 → (∀ φ : Nat → Nat → Nat → Int64, FW W3 φ = FW W2 φ + sL (fun w => W (pp * 13 + w) * (tC cnt (a_od s l p q) (n_few le) (n_mor mo) g φ) w (pp / 20 + 1) (pp % 20 + 1)) (cond cnt pl 0 + 1)) → cS W3 (cond cnt (pl + 1) 0) → Q none h2) : mT0 (d + 5) z_X2_spreads 0 (m_init z_X2_spreads [.ref 53, .int (nI pp)]) [] h Q := by
  obtain ⟨hR, hN, -, hwt, -, -, -, -⟩ := id B
  have hD : h 53 = _ := D0
  refine mT_s rfl rfl ?_
  refine mT_c rfl rfl ?_
  refine x_cMenOne _ _ _ pp hpp ?_
  iterate 2 refine mT_s rfl rfl ?_
  refine mT_c rfl rfl ?_
  refine x_cMenOther _ _ _ pp hpp ?_
  iterate 2 refine mT_s rfl rfl ?_
  (apply mT_getf; (case hc => rfl); (case ha => first | rfl | assumption); (case hf => first | rfl | assumption))
  refine mT_s rfl rfl ?_
  (apply mT_getf; (case hc => rfl); (case ha => first | rfl | assumption); (case hf => first | rfl | assumption))
  refine mT_s rfl rfl ?_
  (apply mT_getf; (case hc => rfl); (case ha => first | rfl | assumption); (case hf => first | rfl | assumption))
  iterate 3 refine mT_s rfl rfl ?_
  (apply mT_getf; (case hc => rfl); (case ha => first | rfl | assumption); (case hf => first | rfl | assumption))
  (apply mT_inv; (case hc => rfl); (case hd => rfl); (case hb => first | rfl | assumption); (case hg => rfl))
  refine x_oddsOf_21 _ h _ i iv s l le mo B p q (pp / 20 + 1) (pp % 20 + 1) g hp hq (by omega) (fun h2 r2 => ?_)
  have hod := (a_od_n s l p q (pp / 20 + 1) (pp % 20 + 1) g).2.2
  have hm1 : 1 ≤ pp / 20 + 1 ∧ pp / 20 + 1 ≤ 20 := by omega
  have ho1 : 1 ≤ pp % 20 + 1 ∧ pp % 20 + 1 ≤ 20 := by omega
  have B2 := B.c (by decide) r2.1 r2.2
  obtain ⟨hR2, hN2, hV2, -, -, -, -, -⟩ := id B2
  have D2 : h2 53 = _ := (r2.1 53 (by decide)).trans D0
  have hu := pq_ok (m := n_few le (pp / 20 + 1)) (o := n_mor mo (pp % 20 + 1)) ⟨n_few_pos _ _, n_few_le hm1.2⟩ ⟨n_mor_pos ho1.1, n_mor_le⟩
  have hv := pq_ok (m := n_mor mo (pp / 20 + 1)) (o := n_few le (pp % 20 + 1)) ⟨n_mor_pos hm1.1, n_mor_le⟩ ⟨n_few_pos _ _, n_few_le ho1.2⟩
  iterate 2 refine mT_s rfl rfl ?_
  (apply mT_getf; (case hc => rfl); (case ha => first | rfl | assumption); (case hf => first | rfl | assumption))
  refine mT_s rfl rfl ?_
  (apply mT_inv; (case hc => rfl); (case hd => rfl); (case hb => first | rfl | assumption); (case hg => rfl))
  refine x_menIfWon_21 _ h2 _ i iv hR2 hN2 l le mo hV2 _ (pp / 20 + 1) rfl (by omega) hle ?_
  refine mT_s rfl rfl ?_
  (apply mT_getf; (case hc => rfl); (case ha => first | rfl | assumption); (case hf => first | rfl | assumption))
  refine mT_s rfl rfl ?_
  (apply mT_inv; (case hc => rfl); (case hd => rfl); (case hb => first | rfl | assumption); (case hg => rfl))
  refine x_menIfLost_21 _ h2 _ i iv hR2 hN2 l le mo hV2 _ (pp % 20 + 1) rfl (by omega) hmo ?_
  refine mT_c rfl rfl ?_
  refine x_pairOf _ _ _ (n_few le (pp / 20 + 1)) (n_mor mo (pp % 20 + 1)) ⟨n_few_pos _ _, n_few_le hm1.2⟩ ⟨n_mor_pos ho1.1, n_mor_le⟩ ?_
  iterate 2 refine mT_s rfl rfl ?_
  (apply mT_getf; (case hc => rfl); (case ha => first | rfl | assumption); (case hf => first | rfl | assumption))
  refine mT_s rfl rfl ?_
  (apply mT_inv; (case hc => rfl); (case hd => rfl); (case hb => first | rfl | assumption); (case hg => rfl))
  refine x_menIfLost_21 _ h2 _ i iv hR2 hN2 l le mo hV2 _ (pp / 20 + 1) rfl (by omega) hmo ?_
  refine mT_s rfl rfl ?_
  (apply mT_getf; (case hc => rfl); (case ha => first | rfl | assumption); (case hf => first | rfl | assumption))
  refine mT_s rfl rfl ?_
  (apply mT_inv; (case hc => rfl); (case hd => rfl); (case hb => first | rfl | assumption); (case hg => rfl))
  refine x_menIfWon_21 _ h2 _ i iv hR2 hN2 l le mo hV2 _ (pp % 20 + 1) rfl (by omega) hle ?_
  refine mT_c rfl rfl ?_
  refine x_pairOf _ _ _ (n_mor mo (pp / 20 + 1)) (n_few le (pp % 20 + 1)) ⟨n_mor_pos hm1.1, n_mor_le⟩ ⟨n_few_pos _ _, n_few_le ho1.2⟩ ?_
  iterate 2 refine mT_s rfl rfl ?_
  (apply mT_getf; (case hc => rfl); (case ha => first | rfl | assumption); (case hf => first | rfl | assumption))
  refine mT_if_eq rfl (fun c79 => ?_) (fun c79 => ?_)
  · have hcf : cnt = false := by
      cases cnt
      · rfl
      · exact absurd c79 (by decide)
    subst hcf
    iterate 4 refine mT_s rfl rfl ?_
    refine x_sp_L58 (d + 4) Q false p q g pl sz P lb W W2 h2 hN2 D2 (C0.c (fun c z1 z2 => r2.1 c (by omega))) pp (a_od s l p q (pp / 20 + 1) (pp % 20 + 1) g) (pq (n_few le (pp / 20 + 1)) (n_mor mo (pp % 20 + 1))) (pq (n_mor mo (pp / 20 + 1)) (n_few le (pp % 20 + 1))) 0 0 hpp (by omega) hu.1 hv.1 (by omega) (fun w hw => ⟨hw, Nat.le_refl _⟩) _ _ (fun h3 sz3 P3 lb3 W3 f3 C3 hF3 hS3 => ?_) (0 + 1) 0 h2 sz2 P2 lb2 W2 _ _ (by omega) (fun c z => rfl) (C2.c (fun c z1 z2 => r2.1 c (by omega))) (fun φ => (Int64.add_zero _).symm) hS
    refine K h3 sz3 P3 lb3 W3 (fun c z1 z2 => (f3 c z2).trans (r2.1 c z1)) (by rw [f3 30 (by decide)]; exact r2.2) C3 (fun φ => ?_) hS3
    have := hF3 φ
    rw [hu.2.1, hu.2.2, hv.2.1, hv.2.2] at this
    exact this
  · have hcf : cnt = true := by
      cases cnt
      · exact absurd rfl c79
      · rfl
    subst hcf
    refine mT_s rfl rfl ?_
    (apply mT_getf; (case hc => rfl); (case ha => first | rfl | assumption); (case hf => first | rfl | assumption))
    iterate 6 refine mT_s rfl rfl ?_
    rw [min_11 hpl]
    refine x_sp_L58 (d + 4) Q true p q g pl sz P lb W W2 h2 hN2 D2 (C0.c (fun c z1 z2 => r2.1 c (by omega))) pp (a_od s l p q (pp / 20 + 1) (pp % 20 + 1) g) (pq (n_few le (pp / 20 + 1)) (n_mor mo (pp % 20 + 1))) (pq (n_mor mo (pp / 20 + 1)) (n_few le (pp % 20 + 1))) pl (pl + 1) hpp (by omega) hu.1 hv.1 (by omega) (fun w hw => ⟨by omega, by show w + 1 ≤ pl + 1; omega⟩) _ _ (fun h3 sz3 P3 lb3 W3 f3 C3 hF3 hS3 => ?_) (pl + 1) 0 h2 sz2 P2 lb2 W2 _ _ (by omega) (fun c z => rfl) (C2.c (fun c z1 z2 => r2.1 c (by omega))) (fun φ => (Int64.add_zero _).symm) hS
    refine K h3 sz3 P3 lb3 W3 (fun c z1 z2 => (f3 c z2).trans (r2.1 c z1)) (by rw [f3 30 (by decide)]; exact r2.2) C3 (fun φ => ?_) hS3
    have := hF3 φ
    rw [hu.2.1, hu.2.2, hv.2.1, hv.2.2] at this
    exact this

theorem x_go_L58 (d : Nat) (Q : Option Value → mH → Prop) (i : Nat → Int32) (iv : Value) (s : Nat → Int32) (l : List Tok) (le mo : Nat) (hle : le ≤ 99) (hmo : mo ≤ 99) (p q g pl : Nat) (hp : p < 5) (hq : q < 5) (hg : g < 20000) (hpl : pl ≤ 11) (cnt : Bool) (sz : Nat) (P lb : Nat → Nat) (W : Nat → Int64) (h0 : mH) (B0 : rBs 21 h0 i iv s l le mo) (D0 : rDu h0 58 54 p q g pl cnt) (C0 : cCl h0 58 sz P lb W) (K : ∀ h2 sz2 P2 lb2 W2, (∀ c, c ≠ 30 → c < 54 ∨ 57 < c → h2 c = h0 c) → (∃ f, h2 30 = .inl (0, 5, .inl f)) → cCl h2 54 sz2 P2 lb2 W2 → (∀ φ : Nat → Nat → Nat → Int64, FW W2 φ = sL (fun j => sL (fun w => W (P j * 13 + w) * (tC cnt (a_od s l p q) (n_few le) (n_mor mo) g φ) w (P j / 20 + 1) (P j % 20 + 1)) (cond cnt pl 0 + 1)) sz) → cS W2 (cond cnt (pl + 1) 0) → mT0 (d + 6) z_X2_goesOn 32 [some (.ref 53), some (.int (nI sz))] [] h2 Q) : ∀ (r k : Nat) (h : mH) (sz2 : Nat) (P2 lb2 : Nat → Nat) (W2 : Nat → Int64), k + r = sz → (∀ c, c ≠ 30 → c < 54 ∨ 57 < c → h c = h0 c) → (∃ f, h 30 = .inl (0, 5, .inl f)) → cCl h 54 sz2 P2 lb2 W2 → (∀ φ : Nat → Nat → Nat → Int64, FW W2 φ = sL (fun j => sL (fun w => W (P j * 13 + w) * (tC cnt (a_od s l p q) (n_few le) (n_mor mo) g φ) w (P j / 20 + 1) (P j % 20 + 1)) (cond cnt pl 0 + 1)) k) → cS W2 (cond cnt (pl + 1) 0) → mT0 (d + 6) z_X2_goesOn 2 [some (.ref 53), some (.int (nI k))] [] h Q := by
  intro r
  induction r with
  | zero =>
    intro k h sz2 P2 lb2 W2 hk fh h9 C2 hF hS
    have B := B0.d5 (h2 := h) (fun c z1 z2 => fh c z1 (by omega)) h9
    obtain ⟨hR, hN, -, -, -, -, -, -⟩ := id B
    have hD : h 53 = _ := (fh 53 (by decide) (by decide)).trans D0
    have C1 := C0.c (h2 := h) (fun c z1 z2 => fh c (by omega) (by omega))
    obtain ⟨hC1, ⟨pf, hpf, ep⟩, -, -, hI⟩ := id C1
    have hC1 : h 58 = .inr (1, [.ref 59, .int (nI sz), .ref 60, .ref 61]) := hC1
    have hpf : h 59 = _ := hpf
    have hszle := hI.le
    iterate 2 refine mT_s rfl rfl ?_
    (apply mT_getf; (case hc => rfl); (case ha => first | rfl | assumption); (case hf => first | rfl | assumption))
    (apply mT_getf; (case hc => rfl); (case ha => first | rfl | assumption); (case hf => first | rfl | assumption))
    refine mT_icmp_ge rfl (fun _ => ?_) (fun c => absurd (nI_le (a := sz) (b := k) (by omega) (by omega)) c)
    obtain rfl : k = sz := by omega
    exact K h sz2 P2 lb2 W2 fh h9 C2 hF hS
  | succ r ih =>
    intro k h sz2 P2 lb2 W2 hk fh h9 C2 hF hS
    have B := B0.d5 (h2 := h) (fun c z1 z2 => fh c z1 (by omega)) h9
    obtain ⟨hR, hN, -, -, -, -, -, -⟩ := id B
    have hD : h 53 = _ := (fh 53 (by decide) (by decide)).trans D0
    have C1 := C0.c (h2 := h) (fun c z1 z2 => fh c (by omega) (by omega))
    obtain ⟨hC1, ⟨pf, hpf, ep⟩, -, -, hI⟩ := id C1
    have hC1 : h 58 = .inr (1, [.ref 59, .int (nI sz), .ref 60, .ref 61]) := hC1
    have hpf : h 59 = _ := hpf
    have hszle := hI.le
    iterate 2 refine mT_s rfl rfl ?_
    (apply mT_getf; (case hc => rfl); (case ha => first | rfl | assumption); (case hf => first | rfl | assumption))
    (apply mT_getf; (case hc => rfl); (case ha => first | rfl | assumption); (case hf => first | rfl | assumption))
    have ix1 := ep k (by omega)
    refine mT_icmp_ge rfl (fun c => absurd c (nI_ge (a := k) (b := sz) (by omega) (by omega))) (fun _ => ?_)
    iterate 2 refine mT_s rfl rfl ?_
    (apply mT_getf; (case hc => rfl); (case ha => first | rfl | assumption); (case hf => first | rfl | assumption))
    (apply mT_getf; (case hc => rfl); (case ha => first | rfl | assumption); (case hf => first | rfl | assumption))
    refine mT_s rfl rfl ?_
    (apply mT_ialdK; (case hc => rfl); (case ha => first | rfl | assumption); (case hk => first | (simp only [ki_0, ki_1, ki_2, ki_3, ki_4, ki_5, ki_6, ki_7, ki_8, ki_9, ki_10, ki_11, ki_12, ki_17, ki_20, ki_21, ki_22, ki_42, ki_50, ki_58, ki_66, ki_74, ki_140, ki_174, ki_179, ki_184, ki_189, ki_441, ki_13, nI_add, pk_mul]; with_reducible rfl) | (simp only [ki_0, ki_1, ki_2, ki_3, ki_4, ki_5, ki_6, ki_7, ki_8, ki_9, ki_10, ki_11, ki_12, ki_17, ki_20, ki_21, ki_22, ki_42, ki_50, ki_58, ki_66, ki_74, ki_140, ki_174, ki_179, ki_184, ki_189, ki_441, ki_13, ix1, nI_add, pk_mul]; with_reducible rfl) | (simp only [ki_0, ki_1, ki_2, ki_3, ki_4, ki_5, ki_6, ki_7, ki_8, ki_9, ki_10, ki_11, ki_12, ki_17, ki_20, ki_21, ki_22, ki_42, ki_50, ki_58, ki_66, ki_74, ki_140, ki_174, ki_179, ki_184, ki_189, ki_441, ki_13, ix1, ix2, nI_add, pk_mul]; with_reducible rfl) | (simp only [ki_0, ki_1, ki_2, ki_3, ki_4, ki_5, ki_6, ki_7, ki_8, ki_9, ki_10, ki_11, ki_12, ki_17, ki_20, ki_21, ki_22, ki_42, ki_50, ki_58, ki_66, ki_74, ki_140, ki_174, ki_179, ki_184, ki_189, ki_441, ki_13, ix1, ix2, ix3, nI_add, pk_mul]; with_reducible rfl) | (simp (disch := omega) only [upd_n, ki_0, ki_1, ki_2, ki_3, ki_4, ki_5, ki_6, ki_7, ki_8, ki_9, ki_10, ki_11, ki_12, ki_17, ki_20, ki_21, ki_22, ki_42, ki_50, ki_58, ki_66, ki_74, ki_140, ki_174, ki_179, ki_184, ki_189, ki_441, ki_13, ix1, nI_add, pk_mul]; with_reducible rfl) | (simp (disch := omega) only [upd_n, ki_0, ki_1, ki_2, ki_3, ki_4, ki_5, ki_6, ki_7, ki_8, ki_9, ki_10, ki_11, ki_12, ki_17, ki_20, ki_21, ki_22, ki_42, ki_50, ki_58, ki_66, ki_74, ki_140, ki_174, ki_179, ki_184, ki_189, ki_441, ki_13, ix1, ix2, nI_add, pk_mul]; with_reducible rfl) | rfl); (case hlt => first | decide | omega); (case hn => first | decide | omega))
    (apply mT_inv; (case hc => rfl); (case hd => rfl); (case hb => first | rfl | assumption); (case hg => rfl))
    rw [ix1]
    have hPk := (hI.2.2.1 k (by omega)).1
    refine x_spreads_58 d h _ i iv s l le mo hle hmo B p q g pl hp hq hg hpl cnt sz P lb W hD C1 sz2 P2 lb2 W2 C2 hS (P k) hPk (fun h3 sz3 P3 lb3 W3 f3 h93 C3 hF3 hS3 => ?_)
    iterate 2 refine mT_s rfl rfl ?_
    rw [nI_1]
    exact ih (k + 1) h3 sz3 P3 lb3 W3 (by omega) (fun c z1 z2 => (f3 c z1 z2).trans (fh c z1 z2)) h93 C3 (fun φ => by rw [hF3 φ, hF φ, sL_S _ k]) hS3
set_option maxHeartbeats 1000000 in
theorem x_goesOn_58 (d : Nat) (Q : Option Value → mH → Prop) (i : Nat → Int32) (iv : Value) (s : Nat → Int32) (l : List Tok) (le mo : Nat) (hle : le ≤ 99) (hmo : mo ≤ 99) (p q g pl : Nat) (hp : p < 5) (hq : q < 5) (hg : g < 20000) (hpl : pl ≤ 11) (cnt : Bool) (sz : Nat) (P lb : Nat → Nat) (W : Nat → Int64) (h0 : mH) (B0 : rBs 21 h0 i iv s l le mo) (D0 : rDu h0 58 54 p q g pl cnt) (C0 : cCl h0 58 sz P lb W) (hS0 : cS W (cond cnt pl 0)) (Z0 : cZ h0 54) (K : ∀ h2 sz2 P2 lb2 W2, (∀ c, c ≠ 30 → c < 53 ∨ 61 < c → h2 c = h0 c) → (∃ f, h2 30 = .inl (0, 5, .inl f)) → rDu h2 54 58 p q (g + 1) (pl + 1) cnt → cCl h2 54 sz2 P2 lb2 W2 → cZ h2 58 → (∀ φ : Nat → Nat → Nat → Int64, FW W2 φ = FW W (tC cnt (a_od s l p q) (n_few le) (n_mor mo) g φ)) → cS W2 (cond cnt (pl + 1) 0) → Q none h2) : mT0 (d + 6) z_X2_goesOn 0 (m_init z_X2_goesOn [.ref 53]) [] h0 Q := by
  obtain ⟨hR0, hN0, -, -, -, -, -, h90⟩ := id B0
  obtain ⟨Pz, lbz, Wz, Cz, hz⟩ := Z0
  iterate 2 refine mT_s rfl rfl ?_
  refine x_go_L58 d Q i iv s l le mo hle hmo p q g pl hp hq hg hpl cnt sz P lb W h0 B0 D0 C0 (fun h2 sz2 P2 lb2 W2 f2 h92 C2 hF2 hS2 => ?_) sz 0 h0 0 Pz lbz Wz (by omega) (fun _ _ _ => rfl) h90 Cz (fun φ => FW_z hz) (fun k hk hn => absurd (hz k hk) hn)
  have hD2 : h2 53 = _ := (f2 53 (by decide) (by decide)).trans D0
  have hN2 : 87 ≤ m_nx h2 := nx_eq (f2 0 (by decide) (by decide)) hN0
  have C12 := C0.c (h2 := h2) (fun c z1 z2 => f2 c (by omega) (by omega))
  have hI0 := C0.2.2.2.2
  have hC12 : h2 58 = .inr (1, [.ref 59, .int (nI sz), .ref 60, .ref 61]) := C12.1
  refine mT_s rfl rfl ?_
  (apply mT_getf; (case hc => rfl); (case ha => first | rfl | assumption); (case hf => first | rfl | assumption))
  (apply mT_inv; (case hc => rfl); (case hd => rfl); (case hb => first | rfl | assumption); (case hg => rfl))
  refine x_clear_58 _ h2 _ sz P lb W hN2 C12 (fun h3 f3 Z3 => ?_)
  have hD3 : h3 53 = _ := (f3 53 (by decide)).trans hD2
  have hN3 : 87 ≤ m_nx h3 := nx_eq (f3 0 (by decide)) hN2
  refine mT_s rfl rfl ?_
  (apply mT_getf; (case hc => rfl); (case ha => first | rfl | assumption); (case hf => first | rfl | assumption))
  iterate 3 refine mT_s rfl rfl ?_
  (apply mT_getf; (case hc => rfl); (case ha => first | rfl | assumption); (case hf => first | rfl | assumption))
  (apply mT_putfN; (case hc => rfl); (case ha => first | rfl | assumption); (case hN => assumption); (case hg => rfl))
  iterate 2 refine mT_s rfl rfl ?_
  (apply mT_putfN; (case hc => rfl); (case ha => first | rfl | assumption); (case hN => assumption); (case hg => rfl))
  iterate 2 refine mT_s rfl rfl ?_
  (apply mT_getf; (case hc => rfl); (case ha => first | rfl | assumption); (case hf => first | rfl | assumption))
  iterate 2 refine mT_s rfl rfl ?_
  (apply mT_putfN; (case hc => rfl); (case ha => first | rfl | assumption); (case hN => assumption); (case hg => rfl))
  iterate 2 refine mT_s rfl rfl ?_
  (apply mT_getf; (case hc => rfl); (case ha => first | rfl | assumption); (case hf => first | rfl | assumption))
  iterate 2 refine mT_s rfl rfl ?_
  (apply mT_putfN; (case hc => rfl); (case ha => first | rfl | assumption); (case hN => assumption); (case hg => rfl))
  refine mT_ret rfl rfl ?_
  simp only [m_up_up]
  rw [nI_1, nI_1]
  have ne : ∀ c, c ≠ 53 → c < 58 ∨ 61 < c → (m_up h3 53 (.inr (2, [.ref 54, .ref 58, .ref 21, .int (nI p), .int (nI q), .int (nI (g + 1)), .int (nI (pl + 1)), .int (bI cnt)]))) c = h2 c := fun c z1 z2 => (m_up_n z1).trans (f3 c z2)
  refine K _ sz2 P2 lb2 W2 (fun c z1 z2 => (ne c (by omega) (by omega)).trans (f2 c z1 (by omega))) (by
    obtain ⟨f, hf⟩ := h92
    exact ⟨f, (ne 30 (by decide) (by decide)).trans hf⟩) rfl (C2.c (fun c z1 z2 => ne c (by omega) (by omega))) (Z3.c (fun c z1 z2 => m_up_n (show c ≠ 53 by omega))) (fun φ => ?_) hS2
  rw [hF2 φ]
  exact FW_list hI0 hS0 (by cases cnt <;> simp only [cond] <;> omega) _
theorem x_begins_58 (d : Nat) (h : mH) (Q : Option Value → mH → Prop) (i : Nat → Int32) (iv : Value) (s : Nat → Int32) (l : List Tok) (le mo : Nat) (hle : le ≤ 99) (hmo : mo ≤ 99) (B : rBs 21 h i iv s l le mo) (mm : Nat → Nat) (M : rMn 21 h mm) (p q g : Nat) (hp : p < 5) (hq : q < 5) (hi1 : i 1 = nI g) (hmp : 1 ≤ mm p ∧ mm p ≤ 20) (hmq : 1 ≤ mm q ∧ mm q ≤ 20) (cnt : Bool) (sz : Nat) (P lb : Nat → Nat) (W : Nat → Int64) (D0 : ∃ (v : Value) (x1 x2 x3 x4 x5 : Int32), h 53 = .inr (2, [.ref 58, .ref 54, v, .int x1, .int x2, .int x3, .int x4, .int x5])) (C0 : cCl h 58 sz P lb W) (Z0 : cZ h 54)  (K : ∀ h2 sz2 P2 lb2 W2, (∀ c, c < 53 ∨ 61 < c → h2 c = h c) → rDu h2 58 54 p q g 0 cnt → cCl h2 58 sz2 P2 lb2 W2 → cZ h2 54 → (∀ φ : Nat → Nat → Nat → Int64, FW W2 φ = φ 0 (mm p) (mm q)) → cS W2 0 → Q none h2) : mT0 (d + 2) z_X2_begins 0 (m_init z_X2_begins [.ref 53, .ref 21, .int (nI p), .int (nI q), .int (bI cnt)]) [] h Q := by
  obtain ⟨hR, hN, -, -, -, -, -, -⟩ := id B
  obtain ⟨fm, hm, em⟩ := id M
  obtain ⟨v0, x1, x2, x3, x4, x5, D0⟩ := D0
  have hC0 := C0.1
  iterate 2 refine mT_s rfl rfl ?_
  (apply mT_putfN; (case hc => rfl); (case ha => first | rfl | assumption); (case hN => assumption); (case hg => rfl))
  iterate 2 refine mT_s rfl rfl ?_
  (apply mT_putfN; (case hc => rfl); (case ha => first | rfl | assumption); (case hN => assumption); (case hg => rfl))
  iterate 2 refine mT_s rfl rfl ?_
  (apply mT_putfN; (case hc => rfl); (case ha => first | rfl | assumption); (case hN => assumption); (case hg => rfl))
  iterate 2 refine mT_s rfl rfl ?_
  (apply mT_getf; (case hc => rfl); (case ha => first | rfl | assumption); (case hf => first | rfl | assumption))
  (apply mT_putfN; (case hc => rfl); (case ha => first | rfl | assumption); (case hN => assumption); (case hg => rfl))
  iterate 2 refine mT_s rfl rfl ?_
  (apply mT_putfN; (case hc => rfl); (case ha => first | rfl | assumption); (case hN => assumption); (case hg => rfl))
  iterate 2 refine mT_s rfl rfl ?_
  (apply mT_putfN; (case hc => rfl); (case ha => first | rfl | assumption); (case hN => assumption); (case hg => cases cnt <;> rfl))
  refine mT_s rfl rfl ?_
  (apply mT_getf; (case hc => rfl); (case ha => first | rfl | assumption); (case hf => first | rfl | assumption))
  (apply mT_inv; (case hc => rfl); (case hd => rfl); (case hb => first | rfl | assumption); (case hg => rfl))
  simp only [m_up_up]
  rw [hi1]
  refine x_clear_58 _ (m_up h 53 _) _ sz P lb W hN (C0.c (fun c z1 z2 => m_up_n (show c ≠ 53 by omega))) (fun h2 f2 Z2 => ?_)
  obtain ⟨P2, lb2, W2, C2, hz2⟩ := Z2
  have hD2 : h2 53 = .inr (2, [.ref 58, .ref 54, .ref 21, .int (nI p), .int (nI q), .int (nI g), .int 0, .int (bI cnt)]) := f2 53 (by decide)
  have hR2 : h2 21 = _ := (f2 21 (by decide)).trans hR
  have hm2 : h2 24 = _ := (f2 24 (by decide)).trans hm
  have hN2 : 87 ≤ m_nx h2 := nx_eq ((f2 0 (by decide)).trans rfl) hN
  have hpq := pq_ok hmp hmq
  have hC2 := C2.1
  refine mT_s rfl rfl ?_
  (apply mT_getf; (case hc => rfl); (case ha => first | rfl | assumption); (case hf => first | rfl | assumption))
  refine mT_s rfl rfl ?_
  (apply mT_getf; (case hc => rfl); (case ha => first | rfl | assumption); (case hf => first | rfl | assumption))
  refine mT_s rfl rfl ?_
  (apply mT_ialdK; (case hc => rfl); (case ha => first | rfl | assumption); (case hk => first | (simp only [ki_0, ki_1, ki_2, ki_3, ki_4, ki_5, ki_6, ki_7, ki_8, ki_9, ki_10, ki_11, ki_12, ki_17, ki_20, ki_21, ki_22, ki_42, ki_50, ki_58, ki_66, ki_74, ki_140, ki_174, ki_179, ki_184, ki_189, ki_441, ki_13, nI_add, pk_mul]; with_reducible rfl) | (simp only [ki_0, ki_1, ki_2, ki_3, ki_4, ki_5, ki_6, ki_7, ki_8, ki_9, ki_10, ki_11, ki_12, ki_17, ki_20, ki_21, ki_22, ki_42, ki_50, ki_58, ki_66, ki_74, ki_140, ki_174, ki_179, ki_184, ki_189, ki_441, ki_13, ix1, nI_add, pk_mul]; with_reducible rfl) | (simp only [ki_0, ki_1, ki_2, ki_3, ki_4, ki_5, ki_6, ki_7, ki_8, ki_9, ki_10, ki_11, ki_12, ki_17, ki_20, ki_21, ki_22, ki_42, ki_50, ki_58, ki_66, ki_74, ki_140, ki_174, ki_179, ki_184, ki_189, ki_441, ki_13, ix1, ix2, nI_add, pk_mul]; with_reducible rfl) | (simp only [ki_0, ki_1, ki_2, ki_3, ki_4, ki_5, ki_6, ki_7, ki_8, ki_9, ki_10, ki_11, ki_12, ki_17, ki_20, ki_21, ki_22, ki_42, ki_50, ki_58, ki_66, ki_74, ki_140, ki_174, ki_179, ki_184, ki_189, ki_441, ki_13, ix1, ix2, ix3, nI_add, pk_mul]; with_reducible rfl) | (simp (disch := omega) only [upd_n, ki_0, ki_1, ki_2, ki_3, ki_4, ki_5, ki_6, ki_7, ki_8, ki_9, ki_10, ki_11, ki_12, ki_17, ki_20, ki_21, ki_22, ki_42, ki_50, ki_58, ki_66, ki_74, ki_140, ki_174, ki_179, ki_184, ki_189, ki_441, ki_13, ix1, nI_add, pk_mul]; with_reducible rfl) | (simp (disch := omega) only [upd_n, ki_0, ki_1, ki_2, ki_3, ki_4, ki_5, ki_6, ki_7, ki_8, ki_9, ki_10, ki_11, ki_12, ki_17, ki_20, ki_21, ki_22, ki_42, ki_50, ki_58, ki_66, ki_74, ki_140, ki_174, ki_179, ki_184, ki_189, ki_441, ki_13, ix1, ix2, nI_add, pk_mul]; with_reducible rfl) | rfl); (case hlt => first | decide | omega); (case hn => first | decide | omega))
  refine mT_s rfl rfl ?_
  (apply mT_getf; (case hc => rfl); (case ha => first | rfl | assumption); (case hf => first | rfl | assumption))
  refine mT_s rfl rfl ?_
  (apply mT_ialdK; (case hc => rfl); (case ha => first | rfl | assumption); (case hk => first | (simp only [ki_0, ki_1, ki_2, ki_3, ki_4, ki_5, ki_6, ki_7, ki_8, ki_9, ki_10, ki_11, ki_12, ki_17, ki_20, ki_21, ki_22, ki_42, ki_50, ki_58, ki_66, ki_74, ki_140, ki_174, ki_179, ki_184, ki_189, ki_441, ki_13, nI_add, pk_mul]; with_reducible rfl) | (simp only [ki_0, ki_1, ki_2, ki_3, ki_4, ki_5, ki_6, ki_7, ki_8, ki_9, ki_10, ki_11, ki_12, ki_17, ki_20, ki_21, ki_22, ki_42, ki_50, ki_58, ki_66, ki_74, ki_140, ki_174, ki_179, ki_184, ki_189, ki_441, ki_13, ix1, nI_add, pk_mul]; with_reducible rfl) | (simp only [ki_0, ki_1, ki_2, ki_3, ki_4, ki_5, ki_6, ki_7, ki_8, ki_9, ki_10, ki_11, ki_12, ki_17, ki_20, ki_21, ki_22, ki_42, ki_50, ki_58, ki_66, ki_74, ki_140, ki_174, ki_179, ki_184, ki_189, ki_441, ki_13, ix1, ix2, nI_add, pk_mul]; with_reducible rfl) | (simp only [ki_0, ki_1, ki_2, ki_3, ki_4, ki_5, ki_6, ki_7, ki_8, ki_9, ki_10, ki_11, ki_12, ki_17, ki_20, ki_21, ki_22, ki_42, ki_50, ki_58, ki_66, ki_74, ki_140, ki_174, ki_179, ki_184, ki_189, ki_441, ki_13, ix1, ix2, ix3, nI_add, pk_mul]; with_reducible rfl) | (simp (disch := omega) only [upd_n, ki_0, ki_1, ki_2, ki_3, ki_4, ki_5, ki_6, ki_7, ki_8, ki_9, ki_10, ki_11, ki_12, ki_17, ki_20, ki_21, ki_22, ki_42, ki_50, ki_58, ki_66, ki_74, ki_140, ki_174, ki_179, ki_184, ki_189, ki_441, ki_13, ix1, nI_add, pk_mul]; with_reducible rfl) | (simp (disch := omega) only [upd_n, ki_0, ki_1, ki_2, ki_3, ki_4, ki_5, ki_6, ki_7, ki_8, ki_9, ki_10, ki_11, ki_12, ki_17, ki_20, ki_21, ki_22, ki_42, ki_50, ki_58, ki_66, ki_74, ki_140, ki_174, ki_179, ki_184, ki_189, ki_441, ki_13, ix1, ix2, nI_add, pk_mul]; with_reducible rfl) | rfl); (case hlt => first | decide | omega); (case hn => first | decide | omega))
  refine mT_c rfl rfl ?_
  rw [em p hp, em q hq]
  refine x_pairOf _ _ _ (mm p) (mm q) hmp hmq ?_
  iterate 2 refine mT_s rfl rfl ?_
  (apply mT_inv; (case hc => rfl); (case hd => rfl); (case hb => first | rfl | assumption); (case hg => rfl))
  refine x_add_58 _ h2 _ 0 P2 lb2 W2 hN2 C2 (pq (mm p) (mm q)) 0 hpq.1 (by decide) 1 (fun h3 sz3 P3 lb3 f3 C3 => ?_)
  refine mT_ret rfl rfl ?_
  refine K h3 sz3 P3 lb3 _ (fun c z => (f3 c (by omega)).trans ((f2 c (by omega)).trans (m_up_n (show c ≠ 53 by omega)))) ((f3 53 (by decide)).trans hD2) C3 (Z0.c (fun c z1 z2 => (f3 c (by omega)).trans ((f2 c (by omega)).trans (m_up_n (show c ≠ 53 by omega))))) (fun φ => ?_) (cS_upd (fun k hk hn => absurd (hz2 k hk) hn) (Nat.le_refl _) (by decide))
  rw [FW_upd W2 φ 1 hpq.1 (by decide), FW_z hz2, hpq.2.1, hpq.2.2, Int64.zero_add, Int64.one_mul]
