/-! By program (wip/whole/book*.py) and hand. -/
theorem ch_cond {s : Nat → Int32} {l : List Tok} {le mo nb : Nat} {bA bB : Nat → Nat} {bW : Nat → Bool} {mm : Nat → Nat} (hwt : w_toks 0 l) (hl : l.length ≤ 140) (hbk : ∀ k, k < nb → bA k < 5 ∧ bB k < 5 ∧ bA k ≠ bB k) (hK : ∀ j, j < 5 → sK s j) (hmm : ∀ j, j < 5 → mm j ≤ 20) (g k : Nat) (hk : k < nb) : a_od s l (b_w bA bB bW k) (b_w bB bA bW k) (nBk le mo bA bB bW mm k (b_w bA bB bW k)) (nBk le mo bA bB bW mm k (b_w bB bA bW k)) (g + k) = cond (bW k) (b_od s l le mo bA bB bW mm g k) (10 - b_od s l le mo bA bB bW mm g k) := by
  have H := nBk_le (le := le) (mo := mo) (bW := bW) (fun k hk => ⟨(hbk k hk).1, (hbk k hk).2.1⟩) hmm k (by omega)
  obtain ⟨h1, h2, -⟩ := hbk k hk
  unfold b_od b_w
  cases bW k
  · exact od_sym hwt hl (hK _ h1) (hK _ h2) (H _ h1) (H _ h2)
  · rfl
theorem sK_v {s : Nat → Int32} (hK : ∀ j, j < 5 → sK s j) {p v : Nat} (hp : p < 5) (hv : v ≤ 9) : ∀ j, j < 5 → sK (upd s (17 + p) (nI v)) j := by
  intro j hj
  obtain ⟨h1, h2⟩ := hK j hj
  refine ⟨?_, fun k hk => ?_⟩
  · by_cases e : j = p
    · subst e; rw [upd_s]; exact sm_n hv
    · rw [upd_n _ _ (by omega)]; exact h1
  · rw [upd_n _ _ (by omega)]; exact h2 k hk
theorem rBs.c9 {h h2 : mH} {i : Nat → Int32} {iv : Value} {s : Nat → Int32} {l : List Tok} {le mo : Nat} (b : rBs 41 h i iv s l le mo) (hh : ∀ a, a ≠ 43 → h2 a = h a) {s2 : Nat → Int32} (h43 : rAr h2 43 5 17 s2) (hs2 : ∀ j, j < 17 ∨ 22 ≤ j → s2 j = s j) : rBs 41 h2 i iv s2 l le mo := by
  obtain ⟨b1, b2, b3, b4, b5, b6, b7, b8⟩ := b
  refine ⟨(hh _ (by decide)).trans b1, ?_, rI_c (fun a ha => hh a (by omega)) b3, b4, rA_s (rAr_c (hh _ (by decide)) b5) (fun j hj => hs2 _ (by omega)), h43, rA_s (rAr_c (hh _ (by decide)) b7) (fun j hj => hs2 _ (by omega)), by rw [hh _ (by decide)]; exact b8⟩
  have : m_nx h2 = m_nx h := by unfold m_nx; rw [hh 0 (by decide)]
  rw [this]
  exact b2
theorem nLi_0 {ch : Nat → Nat} (h : 1 ≤ ch 0) : nLi ch 10 0 0 ((0 : Nat) : Int) = nLi ch 10 0 0 (-1) := by
  show (if ((0 : Nat) : Int) < (ch 0 : Int) then _ else _) = (if (-1 : Int) < (ch 0 : Int) then _ else _)
  rw [if_pos (by omega), if_pos (by omega)]
theorem x_lk_L (d : Nat) (Q : Option Value → mH → Prop) (it : Int32) (iv : Value) (s : Nat → Int32) (l : List Tok) (le mo : Nat) (hle : le ≤ 99) (hmo : mo ≤ 99) {nb : Nat} {bA bB : Nat → Nat} {bW : Nat → Bool} (hbk : ∀ k, k < nb → bA k < 5 ∧ bB k < 5 ∧ bA k ≠ bB k) (hnb : nb ≤ 8) (mm : Nat → Nat) (hmm : ∀ j, j < 5 → mm j ≤ 20) (g : Nat) (hg : g ≤ 9999) (hwt : w_toks 0 l) (hl : l.length ≤ 140) (hK : ∀ j, j < 5 → sK s j) (p best M v C : Nat) (h0 : mH) (hX0 : h0 20 = .inr (9, xObj it)) (j0 : Nat → Int32) (hR0 : h0 21 = .inr (7, rObj 21 j0 iv)) (hj4 : j0 4 = nI nb) (hb47 : rBk h0 47 nb (b_w bA bB bW)) (hb48 : rBk h0 48 nb (b_w bB bA bW)) (K : ∀ h2 i2, (∀ c, c ≠ 41 → c ≠ 44 → c ≠ 50 → h2 c = h0 c) → rBs 41 h2 i2 iv s l le mo → rMn 41 h2 (nBk le mo bA bB bW mm nb) → mT0 (d + 6) z_X9_likely 94 [some (.ref 20), some (.int (nI p)), some (.int (nI best)), some (.long (lN M)), none, some (.int (nI v)), some (.long (lN C)), none, some (.int (nI nb))] [] h2 Q) : ∀ (r k : Nat) (h : mH) (i : Nat → Int32) (all : Nat), k + r = nb → (∀ c, c ≠ 41 → c ≠ 44 → c ≠ 50 → h c = h0 c) → rBs 41 h i iv s l le mo → rMn 41 h (nBk le mo bA bB bW mm k) → i 1 = nI (g + k) → nC (b_od s l le mo bA bB bW mm g) bW r k all = C →  mT0 (d + 6) z_X9_likely 52 [some (.ref 20), some (.int (nI p)), some (.int (nI best)), some (.long (lN M)), none, some (.int (nI v)), some (.long (lN all)), none, some (.int (nI k))] [] h Q := by
  intro r
  induction r with
  | zero =>
    intro k h i all hk fh B M9 hi1 hC
    obtain rfl : k = nb := by omega
    have hX : h 20 = _ := (fh 20 (by decide) (by decide) (by decide)).trans hX0
    have hR1 : h 21 = _ := (fh 21 (by decide) (by decide) (by decide)).trans hR0
    obtain ⟨hR, hN, -, -, -, -, -, -⟩ := id B
    iterate 2 refine mT_s rfl rfl ?_
    (apply mT_getf; (case hc => rfl); (case ha => first | rfl | assumption); (case hf => first | rfl | assumption))
    (apply mT_getf; (case hc => rfl); (case ha => first | rfl | assumption); (case hf => first | rfl | assumption))
    rw [hj4]
    refine mT_icmp_ge rfl (fun _ => ?_) (fun c => absurd (nI_le (by omega) (by omega)) c)
    obtain rfl : all = C := hC
    exact K h i fh B M9
  | succ r ih =>
    intro k h i all hk fh B M9 hi1 hC
    have hX : h 20 = _ := (fh 20 (by decide) (by decide) (by decide)).trans hX0
    have hR1 : h 21 = _ := (fh 21 (by decide) (by decide) (by decide)).trans hR0
    obtain ⟨hR, hN, -, -, -, -, -, -⟩ := id B
    iterate 2 refine mT_s rfl rfl ?_
    (apply mT_getf; (case hc => rfl); (case ha => first | rfl | assumption); (case hf => first | rfl | assumption))
    (apply mT_getf; (case hc => rfl); (case ha => first | rfl | assumption); (case hf => first | rfl | assumption))
    rw [hj4]
    refine mT_icmp_ge rfl (fun c => absurd c (nI_ge (by omega) (by omega))) (fun _ => ?_)
    iterate 2 refine mT_s rfl rfl ?_
    (apply mT_getf; (case hc => rfl); (case ha => first | rfl | assumption); (case hf => first | rfl | assumption))
    refine mT_s rfl rfl ?_
    (apply mT_inv; (case hc => rfl); (case hd => rfl); (case hb => first | rfl | assumption); (case hg => rfl))
    refine x_chanceOfBook _ h _ i iv s l le mo B hbk (rBk_c (fh 47 (by decide) (by decide) (by decide)) hb47) (rBk_c (fh 48 (by decide) (by decide) (by decide)) hb48) hnb (nBk le mo bA bB bW mm k) M9 (g + k) hi1 (by omega) k (by omega) (fun h2 r2 => ?_)
    rw [ch_cond hwt hl hbk hK hmm g k (by omega)]
    have hod := (a_od_n s l (bA k) (bB k) (nBk le mo bA bB bW mm k (bA k)) (nBk le mo bA bB bW mm k (bB k)) (g + k)).2.2
    have hodc : cond (bW k) ((b_od s l le mo bA bB bW mm g) k) (10 - (b_od s l le mo bA bB bW mm g) k) ≤ 10 := by
      have : (b_od s l le mo bA bB bW mm g) k ≤ 9 := hod
      cases bW k
      · exact Nat.sub_le _ _
      · exact Nat.le_trans this (by decide)
    have B := B.c (by decide) r2.1 r2.2
    have M9 := M9.c (r2.1 44 (by decide))
    have fh : ∀ c, c ≠ 41 → c ≠ 44 → c ≠ 50 → h2 c = h0 c := fun c x y z => (r2.1 c z).trans (fh c x y z)
    have hX : h2 20 = _ := (r2.1 20 (by decide)).trans hX
    have hR1 : h2 21 = _ := (r2.1 21 (by decide)).trans hR1
    have hN : 87 ≤ m_nx h2 := B.2.1
    have hR : h2 41 = _ := B.1
    iterate 4 refine mT_s rfl rfl ?_
    (apply mT_getf; (case hc => rfl); (case ha => first | rfl | assumption); (case hf => first | rfl | assumption))
    refine mT_s rfl rfl ?_
    (apply mT_inv; (case hc => rfl); (case hd => rfl); (case hb => first | rfl | assumption); (case hg => rfl))
    rw [(od_n hodc).1]
    refine x_gameOfBook _ h2 _ i iv s l le mo B hle hmo hbk (rBk_c (fh 47 (by decide) (by decide) (by decide)) hb47) (rBk_c (fh 48 (by decide) (by decide) (by decide)) hb48) hnb (nBk le mo bA bB bW mm k) M9 (nBk_le (fun k hk => ⟨(hbk k hk).1, (hbk k hk).2.1⟩) hmm k (by omega)) (g + k) hi1 k (by omega) (fun h3 f3 B3 M3 => ?_)
    iterate 2 refine mT_s rfl rfl ?_
    rw [nI_1, lN_mul]
    exact ih (k + 1) h3 _ _ (by omega) (fun c x y z => (f3 c x y).trans (fh c x y z)) B3 M3 (upd_s _ _ _) hC
theorem x_lk_O (d : Nat) (Q : Option Value → mH → Prop) (it : Int32) (i : Nat → Int32) (iv : Value) (s : Nat → Int32) (l : List Tok) (le mo : Nat) (hle : le ≤ 99) (hmo : mo ≤ 99) {nb : Nat} {bA bB : Nat → Nat} {bW : Nat → Bool} (hbk : ∀ k, k < nb → bA k < 5 ∧ bB k < 5 ∧ bA k ≠ bB k) (hnb : nb ≤ 8) (hnb8 : s 8 = nI nb) (mm : Nat → Nat) (hmm : ∀ j, j < 5 → mm j ≤ 20) (g : Nat) (hs : s_at s mm g = s) (hg : g ≤ 9999) (hl : l.length ≤ 140) (hsK : ∀ j, j < 5 → sK s j) (p : Nat) (hp : p < 5)  : ∀ (r v : Nat) (h : mH) (best M : Nat) (x6 x7 x8 : Option Value), v + r = 10 → best ≤ 10 → M ≤ 43046721 → h 20 = .inr (9, xObj it) → XR 21 h i iv s l le mo nb (b_w bA bB bW) (b_w bB bA bW) → rSh 41 h → (∀ h2, (∀ c, c < 41 ∨ 50 < c → h2 c = h c) → rSh 41 h2 → XR 21 h2 i iv s l le mo nb (b_w bA bB bW) (b_w bB bA bW) → Q (some (.int (nI (nLi (fun v => nC (b_od (upd s (17 + p) (nI v)) l le mo bA bB bW mm g) bW nb 0 1) r v best (M : Int))))) h2) → mT0 (d + 6) z_X9_likely 17 [some (.ref 20), some (.int (nI p)), some (.int (nI best)), some (.long (lN M)), none, some (.int (nI v)), x6, x7, x8] [] h Q := by
  intro r
  induction r with
  | zero =>
    intro v h best M x6 x7 x8 hv hbe hMb hX X S41 K
    obtain ⟨B, XM, XT, XA, XB, XL, i0, i1, i2, i3, i4, i5⟩ := id X
    obtain ⟨hR, hN, hV, hwt, hK, hV5, hW, h9⟩ := id B
    have hg1 : i 1 = nI g := i1.trans (by rw [← hs]; rfl)
    obtain ⟨t41, tv41, tR41⟩ := id S41.1
    iterate 2 refine mT_s rfl rfl ?_
    refine mT_icmp_gt rfl (fun _ => ?_) (fun c => absurd (show nI 9 < nI v from nI_lt (by omega) (by omega)) c)
    refine mT_s rfl rfl ?_
    refine mT_ret rfl rfl ?_
    exact K h (fun _ _ => rfl) S41 X
  | succ r ih =>
    intro v h best M x6 x7 x8 hv hbe hMb hX X S41 K
    obtain ⟨B, XM, XT, XA, XB, XL, i0, i1, i2, i3, i4, i5⟩ := id X
    obtain ⟨hR, hN, hV, hwt, hK, hV5, hW, h9⟩ := id B
    have hg1 : i 1 = nI g := i1.trans (by rw [← hs]; rfl)
    obtain ⟨t41, tv41, tR41⟩ := id S41.1
    iterate 2 refine mT_s rfl rfl ?_
    refine mT_icmp_gt rfl (fun c => absurd ((nI_ltI (a := 9) (b := v) (by omega) (by omega)).mp c) (by omega)) (fun _ => ?_)
    refine mT_s rfl rfl ?_
    (apply mT_getf; (case hc => rfl); (case ha => first | rfl | assumption); (case hf => first | rfl | assumption))
    refine mT_s rfl rfl ?_
    (apply mT_getf; (case hc => rfl); (case ha => first | rfl | assumption); (case hf => first | rfl | assumption))
    (apply mT_inv; (case hc => rfl); (case hd => rfl); (case hb => first | rfl | assumption); (case hg => rfl))
    refine x_becomes_41_21 _ h _ i iv s l le mo nb hnb _ _ X S41 (fun h2 i2 f2 X2 => ?_)
    obtain ⟨B2, XM2, -, -, XB2, XL2, j0, j1, -, -, -, -⟩ := id X2
    obtain ⟨fm2, hm2, em2⟩ := id XM2
    obtain ⟨fv2, hv2, ev2⟩ := id B2.2.2.2.2.2.1
    have M2 : rMn 41 h2 mm := ⟨fm2, hm2, fun j hj => (em2 j hj).trans (by rw [← s_at_m s mm g hj, hs])⟩
    have hX2 : h2 20 = _ := (f2 20 (by decide)).trans hX
    have hR21 : h2 21 = _ := (f2 21 (by decide)).trans hR
    have hN2 := B2.2.1
    have hR41 : h2 41 = _ := B2.1
    have hg41 : i2 1 = nI (g + 0) := j1.trans (by rw [← hs]; rfl)
    refine mT_s rfl rfl ?_
    (apply mT_getf; (case hc => rfl); (case ha => first | rfl | assumption); (case hf => first | rfl | assumption))
    (apply mT_getf; (case hc => rfl); (case ha => first | rfl | assumption); (case hf => first | rfl | assumption))
    iterate 2 refine mT_s rfl rfl ?_
    (apply mT_iastK; (case hc => rfl); (case ha => first | rfl | assumption); (case hk => first | (simp only [ki_0, ki_1, ki_2, ki_3, ki_4, ki_5, ki_6, ki_7, ki_8, ki_9, ki_10, ki_11, ki_12, ki_17, ki_20, ki_21, ki_22, ki_42, ki_50, ki_58, ki_66, ki_74, ki_140, ki_174, ki_179, ki_184, ki_189, ki_441, nI_add, pk_mul]; with_reducible rfl) | (simp only [ki_0, ki_1, ki_2, ki_3, ki_4, ki_5, ki_6, ki_7, ki_8, ki_9, ki_10, ki_11, ki_12, ki_17, ki_20, ki_21, ki_22, ki_42, ki_50, ki_58, ki_66, ki_74, ki_140, ki_174, ki_179, ki_184, ki_189, ki_441, ix1, nI_add, pk_mul]; with_reducible rfl) | (simp only [ki_0, ki_1, ki_2, ki_3, ki_4, ki_5, ki_6, ki_7, ki_8, ki_9, ki_10, ki_11, ki_12, ki_17, ki_20, ki_21, ki_22, ki_42, ki_50, ki_58, ki_66, ki_74, ki_140, ki_174, ki_179, ki_184, ki_189, ki_441, ix1, ix2, nI_add, pk_mul]; with_reducible rfl) | (simp only [ki_0, ki_1, ki_2, ki_3, ki_4, ki_5, ki_6, ki_7, ki_8, ki_9, ki_10, ki_11, ki_12, ki_17, ki_20, ki_21, ki_22, ki_42, ki_50, ki_58, ki_66, ki_74, ki_140, ki_174, ki_179, ki_184, ki_189, ki_441, ix1, ix2, ix3, nI_add, pk_mul]; with_reducible rfl) | (simp (disch := omega) only [upd_n, ki_0, ki_1, ki_2, ki_3, ki_4, ki_5, ki_6, ki_7, ki_8, ki_9, ki_10, ki_11, ki_12, ki_17, ki_20, ki_21, ki_22, ki_42, ki_50, ki_58, ki_66, ki_74, ki_140, ki_174, ki_179, ki_184, ki_189, ki_441, ix1, nI_add, pk_mul]; with_reducible rfl) | (simp (disch := omega) only [upd_n, ki_0, ki_1, ki_2, ki_3, ki_4, ki_5, ki_6, ki_7, ki_8, ki_9, ki_10, ki_11, ki_12, ki_17, ki_20, ki_21, ki_22, ki_42, ki_50, ki_58, ki_66, ki_74, ki_140, ki_174, ki_179, ki_184, ki_189, ki_441, ix1, ix2, nI_add, pk_mul]; with_reducible rfl) | rfl); (case hlt => first | decide | omega); (case hn => first | decide | omega); (case hN => assumption); (case hg => rfl))
    iterate 4 refine mT_s rfl rfl ?_
    have hodm : ∀ k, 1 ≤ b_od (upd s (17 + p) (nI v)) l le mo bA bB bW mm g k ∧ b_od (upd s (17 + p) (nI v)) l le mo bA bB bW mm g k ≤ 9 := fun k => (a_od_n _ l _ _ _ _ _).2
    have hch := nC_le (bW := bW) hodm nb 0 1 (Nat.le_refl 1)
    have h98 : 9 ^ nb ≤ 9 ^ 8 := Nat.pow_le_pow_right (by decide) hnb
    have B3 : rBs 41 (m_up h2 43 (.inl (0, 5, .inl (upd fv2 p (nI v))))) i2 iv (upd s (17 + p) (nI v)) l le mo := B2.c9 (fun a ha => m_up_n ha) ⟨_, rfl, fun j hj => by
      by_cases e : j = p
      · subst e; rw [upd_s, upd_s]
      · rw [upd_n _ _ e, upd_n _ _ (by omega)]; exact ev2 j hj⟩ (fun j hj => upd_n _ _ (by omega))
    refine x_lk_L d Q it iv (upd s (17 + p) (nI v)) l le mo hle hmo hbk hnb mm hmm g hg hwt hl (sK_v hsK hp (by omega)) p best M v _ (m_up h2 43 _) hX2 i hR21 (i4.trans hnb8) XB2 XL2 (fun h3 i3 f3 B4 M4 => ?_) nb 0 (m_up h2 43 _) i2 1 (by omega) (fun _ _ _ _ => rfl) B3 M2 hg41 rfl
    generalize hC : nC (b_od (upd s (17 + p) (nI v)) l le mo bA bB bW mm g) bW nb 0 1 = C at hch
    have hf : ∀ c, c < 41 ∨ 50 < c → h3 c = h c := fun c z => (f3 c (by omega) (by omega) (by omega)).trans ((m_up_n (show c ≠ 43 by omega)).trans (f2 c z))
    have X3 := X.c5 (h2 := h3) (fun c z1 z2 => hf c (by omega)) (by rw [hf 30 (by decide)]; exact h9)
    have S3 := rSh_of B4 M4 X2 ((f3 46 (by decide) (by decide) (by decide)).trans rfl) ((f3 47 (by decide) (by decide) (by decide)).trans rfl) ((f3 48 (by decide) (by decide) (by decide)).trans rfl) ((f3 49 (by decide) (by decide) (by decide)).trans rfl)
    have hX3 : h3 20 = _ := (hf 20 (by decide)).trans hX
    unfold nLi at K
    rw [hC] at K
    iterate 3 refine mT_s rfl rfl ?_
    refine mT_if_le rfl (fun c98 => ?_) (fun c98 => ?_)
    · have c98 : ¬ ((M : Nat) : Int) < (C : Int) := fun z => by
        have := (pk_lLE (by omega) (by omega)).mp ((lg_cmp_le _ _).mp c98)
        omega
      iterate 2 refine mT_s rfl rfl ?_
      rw [if_neg c98] at K
      rw [nI_1]
      exact ih (v + 1) h3 best M _ _ _ (by omega) (by omega) (by omega) hX3 X3 S3 (fun h5 f5 S5 X5 => K h5 (fun c z => (f5 c z).trans (hf c z)) S5 X5)
    · have c98 : ((M : Nat) : Int) < (C : Int) := Int.not_le.mp (fun z => c98 ((lg_cmp_le _ _).mpr ((pk_lLE (by omega) (by omega)).mpr (by omega))))
      iterate 6 refine mT_s rfl rfl ?_
      rw [if_pos c98] at K
      rw [nI_1]
      exact ih (v + 1) h3 v C _ _ _ (by omega) (by omega) (by omega) hX3 X3 S3 (fun h5 f5 S5 X5 => K h5 (fun c z => (f5 c z).trans (hf c z)) S5 X5)
theorem x_likelyP (d : Nat) (h : mH) (Q : Option Value → mH → Prop) (it : Int32) (hX : h 20 = .inr (9, xObj it)) (i : Nat → Int32) (iv : Value) (s : Nat → Int32) (hI : s_Inv s) (l : List Tok) (le mo nb : Nat) (bA bB : Nat → Nat) (bW : Nat → Bool) (X : XR 21 h i iv s l le mo nb (b_w bA bB bW) (b_w bB bA bW))  (hle : le ≤ 99) (hmo : mo ≤ 99) (hbk : ∀ k, k < nb → bA k < 5 ∧ bB k < 5 ∧ bA k ≠ bB k) (hnb : nb ≤ 8) (hnb8 : s 8 = nI nb) (hM41 : rSh 41 h) (mm : Nat → Nat) (g : Nat) (hmm : ∀ j, j < 5 → mm j ≤ 20) (hs : s_at s mm g = s) (hg : g ≤ 9999) (hl : l.length ≤ 140) (hsK : ∀ j, j < 5 → sK s j) (x : Int32) (kN : ¬ okP s x → Q (some (.int (-1))) h) (k : ∀ p : Nat, p < 5 → x = nI p → okP s x → ∀ h2, (∀ c, c < 41 ∨ 50 < c → h2 c = h c) → rSh 41 h2 → XR 21 h2 i iv s l le mo nb (b_w bA bB bW) (b_w bB bA bW) → Q (some (.int (nI (nLi (fun v => nC (b_od (upd s (17 + p) (nI v)) l le mo bA bB bW mm g) bW nb 0 1) 10 0 0 (-1))))) h2) : mT0 (d + 6) z_X9_likely 0 (m_init z_X9_likely [.ref 20, .int x]) [] h Q := by
  obtain ⟨B, XM, XT, XA, XB, XL, i0, i1, i2, i3, i4, i5⟩ := id X
  obtain ⟨hR, hN, hV, hwt, hK, hV5, hW, h9⟩ := id B
  obtain ⟨n9, hn5, hn6⟩ := hI.1
  have hi0 := i0.trans hn6
  obtain ⟨fk, hk, ek⟩ := id hK
  obtain ⟨fv, hv, ev⟩ := id hV5
  obtain ⟨fm, hm, em⟩ := id XM
  obtain ⟨fw, hw, ew⟩ := id hW
  obtain ⟨ft, ht, et⟩ := id XT
  obtain ⟨fa, hfa, ea⟩ := id XA
  obtain ⟨fb, hb, eb⟩ := id XB
  obtain ⟨fl, hfl, el⟩ := id XL
  have M : rMn 21 h mm := ⟨fm, hm, fun j hj => (em j hj).trans (by rw [← s_at_m s mm g hj, hs])⟩
  have hg1 : i 1 = nI g := i1.trans (by rw [← hs]; rfl)
  iterate 2 refine mT_s rfl rfl ?_
  (apply mT_inv; (case hc => rfl); (case hd => rfl); (case hb => first | rfl | assumption); (case hg => rfl))
  refine x_isNobody _ h _ it hX i iv hR s n9 hn5 hn6 hi0 _ (fun v2 => ?_) (fun p hp ix1 v2 => ?_)
  · iterate 2 refine mT_s rfl rfl ?_
    refine mT_ret rfl rfl ?_
    exact kN v2
  · iterate 7 refine mT_s rfl rfl ?_
    subst ix1
    have hodm : ∀ k, 1 ≤ b_od (upd s (17 + p) (nI 0)) l le mo bA bB bW mm g k ∧ b_od (upd s (17 + p) (nI 0)) l le mo bA bB bW mm g k ≤ 9 := fun k => (a_od_n _ l _ _ _ _ _).2
    have hch := (nC_le (bW := bW) hodm nb 0 1 (Nat.le_refl 1)).1
    refine x_lk_O d Q it i iv s l le mo hle hmo hbk hnb hnb8 mm hmm g hs hg hl hsK p hp 10 0 h 0 0 _ _ _ (by omega) (by omega) (by omega) hX X hM41 (fun h2 f2 S2 X2 => ?_)
    rw [nLi_0 hch]
    exact k p hp rfl v2 h2 f2 S2 X2
