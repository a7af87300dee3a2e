/-! By program (wip/whole/book*.py) and hand. -/
theorem x_lookedP (d : Nat) (h : mH) (Q : Option Value → mH → Prop) (it : Int32) (hX : h 20 = .inr (9, xObj it)) (i : Nat → Int32) (iv : Value) (s : Nat → Int32) (hI : s_Inv s) (l : List Tok) (le mo nb : Nat) (bA bB : Nat → Nat) (bW : Nat → Bool) (X : XR 21 h i iv s l le mo nb (b_w bA bB bW) (b_w bB bA bW))  (hle : le ≤ 99) (hmo : mo ≤ 99) (hbk : ∀ k, k < nb → bA k < 5 ∧ bB k < 5 ∧ bA k ≠ bB k) (hnb : nb ≤ 8) (hnb8 : s 8 = nI nb) (hM41 : rSh 41 h) (mm : Nat → Nat) (g : Nat) (hmm : ∀ j, j < 5 → mm j ≤ 20) (hs : s_at s mm g = s) (hg : g ≤ 9999) {nt : Nat} {ta : Nat → Nat} (hT : sTa s nt ta) (n : Nat) (hn : s 6 = nI n) (hn55 : n ≤ 5) (kN : n = 0 → Q (some (.int (-3))) h) (k : 0 < n → ∀ h2, (∀ c, c < 41 ∨ 50 < c → h2 c = h c) → rSh 41 h2 → XR 21 h2 i iv s l le mo nb (b_w bA bB bW) (b_w bB bA bW) → Q (some (.int (nLook nb (nBk le mo bA bB bW mm) ta nt 0))) h2) : mT0 (d + 4) z_X9_looked 0 (m_init z_X9_looked [.ref 20]) [] h Q := by
  obtain ⟨B, XM, XT, XA, XB, XL, i0, i1, i2, i3, i4, i5⟩ := id X
  obtain ⟨hR, hN, hV, hwt, hK, hV5, hW, h9⟩ := id B
  obtain ⟨n9, hn5, hn6⟩ := hI.1
  have hi0 := i0.trans hn6
  obtain ⟨fk, hk, ek⟩ := id hK
  obtain ⟨fv, hv, ev⟩ := id hV5
  obtain ⟨fm, hm, em⟩ := id XM
  obtain ⟨fw, hw, ew⟩ := id hW
  obtain ⟨ft, ht, et⟩ := id XT
  obtain ⟨fa, hfa, ea⟩ := id XA
  obtain ⟨fb, hb, eb⟩ := id XB
  obtain ⟨fl, hfl, el⟩ := id XL
  have M : rMn 21 h mm := ⟨fm, hm, fun j hj => (em j hj).trans (by rw [← s_at_m s mm g hj, hs])⟩
  have hg1 : i 1 = nI g := i1.trans (by rw [← hs]; rfl)
  obtain rfl : n = n9 := (nI_eq (by omega) (by omega)).mp (hn.symm.trans hn6)
  obtain ⟨t41, tv41, tR41⟩ := hM41.1
  refine mT_s rfl rfl ?_
  (apply mT_getf; (case hc => rfl); (case ha => first | rfl | assumption); (case hf => first | rfl | assumption))
  (apply mT_getf; (case hc => rfl); (case ha => first | rfl | assumption); (case hf => first | rfl | assumption))
  refine mT_if_ne rfl (fun c7 => ?_) (fun c7 => ?_)
  · have c7 : 0 < n := by
      rw [hi0] at c7
      rcases Nat.eq_zero_or_pos n with z | z
      · subst z; exact absurd rfl c7
      · exact z
    refine mT_s rfl rfl ?_
    (apply mT_getf; (case hc => rfl); (case ha => first | rfl | assumption); (case hf => first | rfl | assumption))
    refine mT_s rfl rfl ?_
    (apply mT_getf; (case hc => rfl); (case ha => first | rfl | assumption); (case hf => first | rfl | assumption))
    (apply mT_inv; (case hc => rfl); (case hd => rfl); (case hb => first | rfl | assumption); (case hg => rfl))
    refine x_becomes_41_21 _ h _ i iv s l le mo nb hnb _ _ X hM41 (fun h2 i2 f2 X2 => ?_)
    obtain ⟨B2, XM2, -, -, XB2, XL2, j0, j1, -, -, -, -⟩ := id X2
    obtain ⟨fm2, hm2, em2⟩ := id XM2
    have M2 : rMn 41 h2 mm := ⟨fm2, hm2, fun j hj => (em2 j hj).trans (by rw [← s_at_m s mm g hj, hs])⟩
    have hX2 : h2 20 = _ := (f2 20 (by decide)).trans hX
    have hR21 : h2 21 = _ := (f2 21 (by decide)).trans hR
    have hN2 := B2.2.1
    have hg41 : i2 1 = nI (g + 0) := j1.trans (by rw [← hs]; rfl)
    iterate 2 refine mT_s rfl rfl ?_
    exact x_looked_L d Q it iv s l le mo hle hmo hbk hnb mm hmm g hT h2 hX2 i hR21 (i4.trans hnb8) XB2 XL2 (i5.trans hT.1) (rAr_c (f2 29 (by decide)) XA) nt 0 h2 i2 (by omega) (fun _ _ _ => rfl) B2 M2 hg41 (fun h3 i3 m3 f3 B3 M3 => by
      have fh : ∀ c, c < 41 ∨ 50 < c → h3 c = h c := fun c z => (f3 c (by omega) (by omega)).trans (f2 c z)
      have X3 := X.c5 (h2 := h3) (fun c z1 z2 => fh c (by omega)) (by rw [fh 30 (by decide)]; exact h9)
      have S3 := rSh_of B3 M3 X2 (f3 46 (by decide) (by decide)) (f3 47 (by decide) (by decide)) (f3 48 (by decide) (by decide)) (f3 49 (by decide) (by decide))
      exact k c7 h3 fh S3 X3)
  · rw [hi0] at c7
    have c7 := (nI_eq (b := 0) (by omega) (by omega)).mp c7
    refine mT_s rfl rfl ?_
    refine mT_ret rfl rfl ?_
    exact kN c7

theorem XR.cu {r : Nat} {h h2 : mH} {i : Nat → Int32} {iv : Value} {s : Nat → Int32} {l : List Tok} {le mo nb : Nat} {wi lo : Nat → Nat} (X : XR r h i iv s l le mo nb wi lo) (hr : 20 < r ∧ r + 9 < 87) (hh : ∀ a, a ≠ 20 → h2 a = h a) : XR r h2 i iv s l le mo nb wi lo := by
  obtain ⟨⟨b1, b2, b3, b4, b5, b6, b7, b8⟩, XM, XT, XA, XB, XL, hi⟩ := X
  refine ⟨⟨(hh _ (by omega)).trans b1, ?_, rI_c (fun a ha => hh a (by omega)) b3, b4, rAr_c (hh _ (by omega)) b5, rAr_c (hh _ (by omega)) b6, rAr_c (hh _ (by omega)) b7, by rw [hh _ (by omega)]; exact b8⟩, rAr_c (hh _ (by omega)) XM, rAr_c (hh _ (by omega)) XT, rAr_c (hh _ (by omega)) XA, rBk_c (hh _ (by omega)) XB, rBk_c (hh _ (by omega)) XL, hi⟩
  have : m_nx h2 = m_nx h := by unfold m_nx; rw [hh 0 (by omega)]
  rw [this]
  exact b2
theorem x_imageP (d : Nat) (h : mH) (Q : Option Value → mH → Prop) (it : Int32) (hX : h 20 = .inr (9, xObj it)) (i : Nat → Int32) (iv : Value) (s : Nat → Int32) (hI : s_Inv s) (l : List Tok) (le mo nb : Nat) (wi lo : Nat → Nat) (X : XR 21 h i iv s l le mo nb wi lo)  (hnb : nb ≤ 8) (hS31 : rSh 31 h) (K : ∀ h2 i2, (∀ a, a < 31 ∨ 40 < a → a ≠ 20 → h2 a = h a) → h2 20 = .inr (9, xObj 1) → XR 31 h2 i2 iv s l le mo nb wi lo → XR 21 h2 i iv s l le mo nb wi lo → Q (some (.int (s 6))) h2) : mT0 (d + 1) z_X9_image 0 (m_init z_X9_image [.ref 20]) [] h Q := by
  obtain ⟨B, XM, XT, XA, XB, XL, i0, i1, i2, i3, i4, i5⟩ := id X
  obtain ⟨hR, hN, hV, hwt, hK, hV5, hW, h9⟩ := id B
  obtain ⟨n, hn5, hn6⟩ := hI.1
  have hi0 := i0.trans hn6
  obtain ⟨fk, hk, ek⟩ := id hK
  obtain ⟨fv, hv, ev⟩ := id hV5
  obtain ⟨fm, hm, em⟩ := id XM
  obtain ⟨fw, hw, ew⟩ := id hW
  obtain ⟨ft, ht, et⟩ := id XT
  obtain ⟨fa, hfa, ea⟩ := id XA
  obtain ⟨fb, hb, eb⟩ := id XB
  obtain ⟨fl, hfl, el⟩ := id XL
  obtain ⟨t31, tv31, tR31⟩ := hS31.1
  refine mT_s rfl rfl ?_
  (apply mT_getf; (case hc => rfl); (case ha => first | rfl | assumption); (case hf => first | rfl | assumption))
  refine mT_s rfl rfl ?_
  (apply mT_getf; (case hc => rfl); (case ha => first | rfl | assumption); (case hf => first | rfl | assumption))
  (apply mT_inv; (case hc => rfl); (case hd => rfl); (case hb => first | rfl | assumption); (case hg => rfl))
  refine x_becomes_31_21 _ h _ i iv s l le mo nb hnb wi lo X hS31 (fun h2 i2 f2 X2 => ?_)
  have hX2 : h2 20 = _ := (f2 20 (by decide)).trans hX
  have hN2 := X2.1.2.1
  have hR21 : h2 21 = _ := (f2 21 (by decide)).trans hR
  iterate 2 refine mT_s rfl rfl ?_
  (apply mT_putfN; (case hc => rfl); (case ha => first | rfl | assumption); (case hN => assumption); (case hg => rfl))
  refine mT_s rfl rfl ?_
  (apply mT_getf; (case hc => rfl); (case ha => first | rfl | assumption); (case hf => first | rfl | assumption))
  (apply mT_getf; (case hc => rfl); (case ha => first | rfl | assumption); (case hf => first | rfl | assumption))
  refine mT_ret rfl rfl ?_
  rw [i0]
  exact K _ i2 (fun a z1 z2 => (m_up_n z2).trans (f2 a z1)) rfl (X2.cu (by decide) (fun a z => m_up_n z)) ((X.c5 (fun c z1 z2 => f2 c (by omega)) (by rw [f2 30 (by decide)]; exact h9)).cu (by decide) (fun a z => m_up_n z))

theorem x_undoP (d : Nat) (h : mH) (Q : Option Value → mH → Prop) (it : Int32) (hX : h 20 = .inr (9, xObj it)) (i : Nat → Int32) (iv : Value) (s : Nat → Int32) (hI : s_Inv s) (l : List Tok) (le mo nb : Nat) (wi lo : Nat → Nat) (X : XR 21 h i iv s l le mo nb wi lo)  (j : Nat → Int32) (iv2 : Value) (s2 : Nat → Int32) (l2 : List Tok) (le2 mo2 nb2 : Nat) (hnb2 : nb2 ≤ 8) (wi2 lo2 : Nat → Nat) (hIm : ¬ it = 0 → XR 31 h j iv2 s2 l2 le2 mo2 nb2 wi2 lo2) (hS21 : rSh 21 h) (k0 : it = 0 → Q (some (.int (-3))) h) (K : ¬ it = 0 → ∀ h2 i2, (∀ a, a < 21 ∨ 30 < a → h2 a = h a) → XR 21 h2 i2 iv2 s2 l2 le2 mo2 nb2 wi2 lo2 → Q (some (.int (s2 6))) h2) : mT0 (d + 1) z_X9_undo 0 (m_init z_X9_undo [.ref 20]) [] h Q := by
  obtain ⟨B, XM, XT, XA, XB, XL, i0, i1, i2, i3, i4, i5⟩ := id X
  obtain ⟨hR, hN, hV, hwt, hK, hV5, hW, h9⟩ := id B
  obtain ⟨n, hn5, hn6⟩ := hI.1
  have hi0 := i0.trans hn6
  obtain ⟨fk, hk, ek⟩ := id hK
  obtain ⟨fv, hv, ev⟩ := id hV5
  obtain ⟨fm, hm, em⟩ := id XM
  obtain ⟨fw, hw, ew⟩ := id hW
  obtain ⟨ft, ht, et⟩ := id XT
  obtain ⟨fa, hfa, ea⟩ := id XA
  obtain ⟨fb, hb, eb⟩ := id XB
  obtain ⟨fl, hfl, el⟩ := id XL
  refine mT_s rfl rfl ?_
  (apply mT_getf; (case hc => rfl); (case ha => first | rfl | assumption); (case hf => first | rfl | assumption))
  refine mT_if_ne rfl (fun c4 => ?_) (fun c4 => ?_)
  · refine mT_s rfl rfl ?_
    (apply mT_getf; (case hc => rfl); (case ha => first | rfl | assumption); (case hf => first | rfl | assumption))
    refine mT_s rfl rfl ?_
    (apply mT_getf; (case hc => rfl); (case ha => first | rfl | assumption); (case hf => first | rfl | assumption))
    (apply mT_inv; (case hc => rfl); (case hd => rfl); (case hb => first | rfl | assumption); (case hg => rfl))
    refine x_becomes_21_31 _ h _ j iv2 s2 l2 le2 mo2 nb2 hnb2 wi2 lo2 (hIm c4) hS21 (fun h2 i2 f2 X2 => ?_)
    have hX2 : h2 20 = _ := (f2 20 (by decide)).trans hX
    obtain ⟨hR2, hN2, -, -, -, -, -, -⟩ := id X2.1
    refine mT_s rfl rfl ?_
    (apply mT_getf; (case hc => rfl); (case ha => first | rfl | assumption); (case hf => first | rfl | assumption))
    (apply mT_getf; (case hc => rfl); (case ha => first | rfl | assumption); (case hf => first | rfl | assumption))
    refine mT_ret rfl rfl ?_
    rw [X2.2.2.2.2.2.2.1]
    exact K c4 h2 i2 f2 X2
  · refine mT_s rfl rfl ?_
    refine mT_ret rfl rfl ?_
    exact k0 c4
