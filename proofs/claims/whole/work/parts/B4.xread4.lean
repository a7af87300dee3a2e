/-! By program (wip/whole/book*.py) and hand. -/
theorem pSpk_4 {g f : Nat → Int32} {k q : Nat} : pSpk g f 4 k q = if (pSpk g f 3 k q).1 = true then (if g (pSpk g f 3 k q).2 = f (k + 3) then (true, (pSpk g f 3 k q).2 + 1) else (false, (pSpk g f 3 k q).2)) else (false, (pSpk g f 3 k q).2) := by
  by_cases h1 : g q = f k
  · by_cases h2 : g (q + 1) = f (k + 1)
    · by_cases h3 : g (q + 1 + 1) = f (k + 1 + 1)
      · simp only [pSpk, if_pos h1, if_pos h2, if_pos h3]
        rfl
      · simp only [pSpk, if_pos h1, if_pos h2, if_neg h3]
        rfl
    · simp only [pSpk, if_pos h1, if_neg h2]
      rfl
  · simp only [pSpk, if_neg h1]
    rfl
/-- behind a word's letters and a blank -/
def pY (g : Nat → Int32) (q : Nat) : Bool × Nat := if g q = 32 then (true, q + 1) else (false, q)
def pMU (g : Nat → Int32) (Y : Bool × Nat) (b : Bool) : pR := if Y.1 = true then (if (pNum g Y.2).1 = true then (if g (pNum g Y.2).2.1 = 32 then ((pSo (pF g 5) g ((pNum g Y.2).2.1 + 1)).1, (pSo (pF g 5) g ((pNum g Y.2).2.1 + 1)).2.1, (pSo (pF g 5) g ((pNum g Y.2).2.1 + 1)).2.2 ++ [.inr (.inr (b, (pNum g Y.2).2.2))]) else (false, (pNum g Y.2).2.1, [])) else (false, (pNum g Y.2).2.1, [])) else (false, Y.2, [])
def pTE (g : Nat → Int32) (Y : Bool × Nat) : Bool × Nat × Nat := if Y.1 = true then pNum g Y.2 else (false, Y.2, 0)
theorem pMuch_y {g f : Nat → Int32} {n p : Nat} {b : Bool} : pMuch g f n p b = pMU g (pSpk g f n 0 p) b := rfl
theorem pTell_y {g f : Nat → Int32} {n p : Nat} : pTell g f n p = pTE g (pSpk g f n 0 p) := rfl
theorem pSpk_y {g f : Nat → Int32} {k q : Nat} (hf : f (k + 3) = 32) (h : (pSpk g f 3 k q).1 = true) : pSpk g f 4 k q = pY g (pSpk g f 3 k q).2 := by
  rw [pSpk_4, if_pos h, hf]
  rfl
theorem pSpk_n {g f : Nat → Int32} {k q : Nat} (h : (pSpk g f 3 k q).1 = false) : pSpk g f 4 k q = (false, (pSpk g f 3 k q).2) := by
  rw [pSpk_4, if_neg (fun z => absurd (h.symm.trans z) (by decide))]
theorem pCl_d {g : Nat → Int32} {p : Nat} (h : g p = 100) : pCl g p = ((pMU g (pSpk g fDuck 4 1 (p + 1)) true).1, (pMU g (pSpk g fDuck 4 1 (p + 1)) true).2.1, (pMU g (pSpk g fDuck 4 1 (p + 1)) true).2.2, 0, 0) := by
  have e : pSpk g fDuck 5 0 p = pSpk g fDuck 4 1 (p + 1) := by
    show (if g p = fDuck 0 then pSpk g fDuck 4 1 (p + 1) else (false, p)) = _
    rw [if_pos (h.trans (by rfl))]
  unfold pCl
  rw [if_pos h, pMuch_y, e]
theorem pCl_m {g : Nat → Int32} {p : Nat} (h : g p = 109) : pCl g p = ((pTE g (pSpk g fMore 4 1 (p + 1))).1, (pTE g (pSpk g fMore 4 1 (p + 1))).2.1, [], 2, (pTE g (pSpk g fMore 4 1 (p + 1))).2.2) := by
  have e : pSpk g fMore 5 0 p = pSpk g fMore 4 1 (p + 1) := by
    show (if g p = fMore 0 then pSpk g fMore 4 1 (p + 1) else (false, p)) = _
    rw [if_pos (h.trans (by rfl))]
  unfold pCl
  rw [if_neg (by rw [h]; decide), if_neg (by rw [h]; decide), if_pos h, pTell_y, e]
theorem pCl_l {g : Nat → Int32} {p : Nat} (h : g p = 108) (h2 : g (p + 1) = 105) : pCl g p = ((pMU g (pSpk g fIft 4 0 (p + 1)) false).1, (pMU g (pSpk g fIft 4 0 (p + 1)) false).2.1, (pMU g (pSpk g fIft 4 0 (p + 1)) false).2.2, 0, 0) := by
  unfold pCl
  rw [if_neg (by rw [h]; decide), if_pos h, if_pos h2]
  rfl
theorem pCl_e {g : Nat → Int32} {p : Nat} (h : g p = 108) (h2 : ¬ g (p + 1) = 105) : pCl g p = ((pTE g (pSpk g fEss 4 0 (p + 1))).1, (pTE g (pSpk g fEss 4 0 (p + 1))).2.1, [], 1, (pTE g (pSpk g fEss 4 0 (p + 1))).2.2) := by
  unfold pCl
  rw [if_neg (by rw [h]; decide), if_pos h, if_neg h2]
  rfl
theorem pCl_n {g : Nat → Int32} {p : Nat} (h1 : ¬ g p = 100) (h2 : ¬ g p = 109) (h3 : ¬ g p = 108) : pCl g p = (false, p, [], 0, 0) := by
  unfold pCl
  rw [if_neg h1, if_neg h3, if_neg h2]
theorem x_signs (d : Nat) (h : mH) (Q : Option Value → mH → Prop) (p : Nat) (lf mf : Int32) (cd : Nat → Int32) (k0 e : Nat) (R : rRd h p lf mf cd k0 e) (g : Nat → Int32) (T : rTp h g e) (hp : p ≤ e) (c1 c2 c3 : Int32) (d1 : ¬ c1 = -1) (d2 : ¬ c2 = -1) (d3 : ¬ c3 = -1) (f : Nat → Int32) (k : Nat) (hc1 : f k = c1) (hc2 : f (k + 1) = c2) (hc3 : f (k + 1 + 1) = c3) (K : ∀ h2, (∀ a, a ≠ 51 → a ≠ 52 → h2 a = h a) → rRd h2 (pSpk g f 3 k p).2 lf mf cd k0 e → Q (some (.int (bI (pSpk g f 3 k p).1))) h2) : mT0 (d + 2) z_X6_signs 0 (m_init z_X6_signs [.ref 51, .int c1, .int c2, .int c3]) [] h Q := by
  obtain ⟨hR, hC, hk0⟩ := id R
  obtain ⟨⟨tf, ht, etf⟩, hgk, he, hN⟩ := id T
  iterate 2 refine mT_s rfl rfl ?_
  (apply mT_inv; (case hc => rfl); (case hd => rfl); (case hb => first | rfl | assumption); (case hg => rfl))
  refine x_sign _ h _ (p) lf mf cd k0 e R g T hp c1 (by assumption) (fun hg1 hp1 h1 f1 R1 => ?_) (fun hg1 => ?_)
  · have hR1 := R1.1
    iterate 3 refine mT_s rfl rfl ?_
    (apply mT_inv; (case hc => rfl); (case hd => rfl); (case hb => first | rfl | assumption); (case hg => rfl))
    refine x_sign _ h1 _ (p + 1) lf mf cd k0 e R1 g (T.c f1) hp1 c2 (by assumption) (fun hg2 hp2 h2 f2 R2 => ?_) (fun hg2 => ?_)
    · have hR2 := R2.1
      iterate 3 refine mT_s rfl rfl ?_
      (apply mT_inv; (case hc => rfl); (case hd => rfl); (case hb => first | rfl | assumption); (case hg => rfl))
      refine x_sign _ h2 _ (p + 1 + 1) lf mf cd k0 e R2 g ((T.c f1).c f2) hp2 c3 (by assumption) (fun hg3 hp3 h3 f3 R3 => ?_) (fun hg3 => ?_)
      · have hR3 := R3.1
        iterate 3 refine mT_s rfl rfl ?_
        refine mT_ret rfl rfl ?_
        have hv : pSpk g f 3 k p = (true, p + 1 + 1 + 1) := by simp only [pSpk, hc1, hc2, hc3, if_pos hg1, if_pos hg2, if_pos hg3]
        rw [hv] at K
        exact K h3 (fun a x y => (f3 a x y).trans ((f2 a x y).trans (f1 a x y))) R3
      · iterate 2 refine mT_s rfl rfl ?_
        refine mT_ret rfl rfl ?_
        have hv : pSpk g f 3 k p = (false, p + 1 + 1) := by simp only [pSpk, hc1, hc2, hc3, if_pos hg1, if_pos hg2, if_neg hg3]
        rw [hv] at K
        exact K h2 (fun a x y => (f2 a x y).trans (f1 a x y)) R2
    · iterate 2 refine mT_s rfl rfl ?_
      refine mT_ret rfl rfl ?_
      have hv : pSpk g f 3 k p = (false, p + 1) := by simp only [pSpk, hc1, hc2, hc3, if_pos hg1, if_neg hg2]
      rw [hv] at K
      exact K h1 f1 R1
  · iterate 2 refine mT_s rfl rfl ?_
    refine mT_ret rfl rfl ?_
    have hv : pSpk g f 3 k p = (false, p) := by simp only [pSpk, hc1, hc2, hc3, if_neg hg1]
    rw [hv] at K
    exact K h (fun _ _ _ => rfl) R
theorem x_word (d : Nat) (h : mH) (Q : Option Value → mH → Prop) (p : Nat) (lf mf : Int32) (cd : Nat → Int32) (k0 e : Nat) (R : rRd h p lf mf cd k0 e) (g : Nat → Int32) (T : rTp h g e) (hp : p ≤ e) (KD : g p = 100 → (pSpk g fDuck 3 1 (p + 1)).1 = true → ∀ h2, (∀ a, a ≠ 51 → a ≠ 52 → h2 a = h a) → rRd h2 (pSpk g fDuck 3 1 (p + 1)).2 lf mf cd k0 e → Q (some (.int 1)) h2) (KM : g p = 109 → (pSpk g fMore 3 1 (p + 1)).1 = true → ∀ h2, (∀ a, a ≠ 51 → a ≠ 52 → h2 a = h a) → rRd h2 (pSpk g fMore 3 1 (p + 1)).2 lf mf cd k0 e → Q (some (.int 3)) h2) (KL : g p = 108 → g (p + 1) = 105 → (pSpk g fIft 3 0 (p + 1)).1 = true → ∀ h2, (∀ a, a ≠ 51 → a ≠ 52 → h2 a = h a) → rRd h2 (pSpk g fIft 3 0 (p + 1)).2 lf mf cd k0 e → Q (some (.int 0)) h2) (KE : g p = 108 → ¬ g (p + 1) = 105 → (pSpk g fEss 3 0 (p + 1)).1 = true → ∀ h2, (∀ a, a ≠ 51 → a ≠ 52 → h2 a = h a) → rRd h2 (pSpk g fEss 3 0 (p + 1)).2 lf mf cd k0 e → Q (some (.int 2)) h2) (KN : ∀ h2 q, (∀ a, a ≠ 51 → a ≠ 52 → h2 a = h a) → rRd h2 q lf mf cd k0 e → (pCl g p).1 = false → (pCl g p).2.1 = q → Q (some (.int (-1))) h2) : mT0 (d + 3) z_X6_word 0 (m_init z_X6_word [.ref 51]) [] h Q := by
  obtain ⟨hR, hC, hk0⟩ := id R
  obtain ⟨⟨tf, ht, etf⟩, hgk, he, hN⟩ := id T
  iterate 2 refine mT_s rfl rfl ?_
  (apply mT_inv; (case hc => rfl); (case hd => rfl); (case hb => first | rfl | assumption); (case hg => rfl))
  refine x_sign _ h _ p lf mf cd k0 e R g T hp 100 (by decide) (fun hg100 hp1 h1 f1 R1 => ?_) (fun hg100 => ?_)
  · have hR1 := R1.1
    iterate 5 refine mT_s rfl rfl ?_
    (apply mT_inv; (case hc => rfl); (case hd => rfl); (case hb => first | rfl | assumption); (case hg => rfl))
    refine x_signs _ h1 _ (p + 1) lf mf cd k0 e R1 g (T.c f1) hp1 117 99 107 (by decide) (by decide) (by decide) fDuck 1 rfl rfl rfl (fun h2 f2 R2 => ?_)
    rcases hs3 : (pSpk g fDuck 3 1 (p + 1)).1 with _ | _
    · iterate 2 refine mT_s rfl rfl ?_
      refine mT_ret rfl rfl ?_
      have hv : (pCl g p).1 = false ∧ (pCl g p).2.1 = (pSpk g fDuck 3 1 (p + 1)).2 := by rw [pCl_d hg100, pSpk_n hs3]; exact ⟨rfl, rfl⟩
      exact KN h2 _ (fun a x y => (f2 a x y).trans (f1 a x y)) R2 hv.1 hv.2
    · iterate 3 refine mT_s rfl rfl ?_
      refine mT_ret rfl rfl ?_
      exact KD hg100 hs3 h2 (fun a x y => (f2 a x y).trans (f1 a x y)) R2
  · iterate 3 refine mT_s rfl rfl ?_
    (apply mT_inv; (case hc => rfl); (case hd => rfl); (case hb => first | rfl | assumption); (case hg => rfl))
    refine x_sign _ h _ p lf mf cd k0 e R g T hp 109 (by decide) (fun hg109 hp1 h1 f1 R1 => ?_) (fun hg109 => ?_)
    · have hR1 := R1.1
      iterate 5 refine mT_s rfl rfl ?_
      (apply mT_inv; (case hc => rfl); (case hd => rfl); (case hb => first | rfl | assumption); (case hg => rfl))
      refine x_signs _ h1 _ (p + 1) lf mf cd k0 e R1 g (T.c f1) hp1 111 114 101 (by decide) (by decide) (by decide) fMore 1 rfl rfl rfl (fun h2 f2 R2 => ?_)
      rcases hs3 : (pSpk g fMore 3 1 (p + 1)).1 with _ | _
      · iterate 2 refine mT_s rfl rfl ?_
        refine mT_ret rfl rfl ?_
        have hv : (pCl g p).1 = false ∧ (pCl g p).2.1 = (pSpk g fMore 3 1 (p + 1)).2 := by rw [pCl_m hg109, pSpk_n hs3]; exact ⟨rfl, rfl⟩
        exact KN h2 _ (fun a x y => (f2 a x y).trans (f1 a x y)) R2 hv.1 hv.2
      · iterate 3 refine mT_s rfl rfl ?_
        refine mT_ret rfl rfl ?_
        exact KM hg109 hs3 h2 (fun a x y => (f2 a x y).trans (f1 a x y)) R2
    · iterate 3 refine mT_s rfl rfl ?_
      (apply mT_inv; (case hc => rfl); (case hd => rfl); (case hb => first | rfl | assumption); (case hg => rfl))
      refine x_sign _ h _ p lf mf cd k0 e R g T hp 108 (by decide) (fun hg108 hp1 h1 f1 R1 => ?_) (fun hg108 => ?_)
      · have hR1 := R1.1
        iterate 2 refine mT_s rfl rfl ?_
        (apply mT_inv; (case hc => rfl); (case hd => rfl); (case hb => first | rfl | assumption); (case hg => rfl))
        refine x_peek _ h1 _ (p + 1) lf mf cd k0 e R1 g (T.c f1) hp1 ?_
        refine mT_s rfl rfl ?_
        refine mT_icmp_ne rfl (fun c73 => ?_) (fun c73 => ?_)
        · iterate 4 refine mT_s rfl rfl ?_
          (apply mT_inv; (case hc => rfl); (case hd => rfl); (case hb => first | rfl | assumption); (case hg => rfl))
          refine x_signs _ h1 _ (p + 1) lf mf cd k0 e R1 g (T.c f1) hp1 101 115 115 (by decide) (by decide) (by decide) fEss 0 rfl rfl rfl (fun h2 f2 R2 => ?_)
          rcases hs3 : (pSpk g fEss 3 0 (p + 1)).1 with _ | _
          · iterate 2 refine mT_s rfl rfl ?_
            refine mT_ret rfl rfl ?_
            have hv : (pCl g p).1 = false ∧ (pCl g p).2.1 = (pSpk g fEss 3 0 (p + 1)).2 := by rw [pCl_e hg108 c73, pSpk_n hs3]; exact ⟨rfl, rfl⟩
            exact KN h2 _ (fun a x y => (f2 a x y).trans (f1 a x y)) R2 hv.1 hv.2
          · iterate 3 refine mT_s rfl rfl ?_
            refine mT_ret rfl rfl ?_
            exact KE hg108 c73 hs3 h2 (fun a x y => (f2 a x y).trans (f1 a x y)) R2
        · iterate 4 refine mT_s rfl rfl ?_
          (apply mT_inv; (case hc => rfl); (case hd => rfl); (case hb => first | rfl | assumption); (case hg => rfl))
          refine x_signs _ h1 _ (p + 1) lf mf cd k0 e R1 g (T.c f1) hp1 105 102 116 (by decide) (by decide) (by decide) fIft 0 rfl rfl rfl (fun h2 f2 R2 => ?_)
          rcases hs3 : (pSpk g fIft 3 0 (p + 1)).1 with _ | _
          · iterate 2 refine mT_s rfl rfl ?_
            refine mT_ret rfl rfl ?_
            have hv : (pCl g p).1 = false ∧ (pCl g p).2.1 = (pSpk g fIft 3 0 (p + 1)).2 := by rw [pCl_l hg108 c73, pSpk_n hs3]; exact ⟨rfl, rfl⟩
            exact KN h2 _ (fun a x y => (f2 a x y).trans (f1 a x y)) R2 hv.1 hv.2
          · iterate 3 refine mT_s rfl rfl ?_
            refine mT_ret rfl rfl ?_
            exact KL hg108 c73 hs3 h2 (fun a x y => (f2 a x y).trans (f1 a x y)) R2
      · iterate 2 refine mT_s rfl rfl ?_
        refine mT_ret rfl rfl ?_
        have hv := pCl_n hg100 hg109 hg108
        exact KN h p (fun _ _ _ => rfl) R (by rw [hv]) (by rw [hv])
theorem x_clM0 (d : Nat) (h : mH) (Q : Option Value → mH → Prop) (q : Nat) (lf mf : Int32) (cd : Nat → Int32) (k0 e : Nat) (R : rRd h q lf mf cd k0 e) (g : Nat → Int32) (T : rTp h g e) (hq : q ≤ e) (hkq : k0 ≤ q) (K : ∀ h2 cd2 k2, (∀ a, a ≠ 51 → a ≠ 52 → h2 a = h a) → rRd h2 (pMU g (pY g q) false).2.1 lf mf cd2 k2 e → ((pMU g (pY g q) false).1 = true → cN k0 cd cd2 k2 (pMU g (pY g q) false).2.2 ∧ k2 ≤ (pMU g (pY g q) false).2.1) → Q (some (.int (bI (pMU g (pY g q) false).1))) h2) : mT0 (d + 22) z_X6_clause 5 [some (.ref 51), some (.int 0), none] [] h Q := by
  obtain ⟨hR, hC, hk0⟩ := id R
  obtain ⟨⟨tf, ht, etf⟩, hgk, he, hN⟩ := id T
  iterate 4 refine mT_s rfl rfl ?_
  (apply mT_inv; (case hc => rfl); (case hd => rfl); (case hb => first | rfl | assumption); (case hg => rfl))
  refine x_sign _ h _ q lf mf cd k0 e R g T hq 32 (by decide) (fun hg1 hp1 h1 f1 R1 => ?_) (fun hg1 => ?_)
  · have hR1 := R1.1
    have hN1 : 87 ≤ m_nx h1 := nx_eq (f1 0 (by decide) (by decide)) hN
    have hnk := pNum_ok (p := q + 1) hgk
    iterate 2 refine mT_s rfl rfl ?_
    (apply mT_inv; (case hc => rfl); (case hd => rfl); (case hb => first | rfl | assumption); (case hg => rfl))
    refine x_number _ h1 _ (q + 1) lf mf cd k0 e R1 g (T.c f1) hp1 (fun hok h2 f2 R2 => ?_) (fun hok hpos => ?_)
    · have hR2 := R2.1
      have hN2 : 87 ≤ m_nx h2 := nx_eq (f2 0 (by decide) (by decide)) hN1
      have hpe := hnk.2.1 hp1
      have hpl := hnk.2.2.2 hok
      iterate 2 refine mT_s rfl rfl ?_
      refine mT_if_ge rfl (fun _ => ?_) (fun c => absurd (nI_pos' (by omega)) c)
      iterate 8 refine mT_s rfl rfl ?_
      (apply mT_inv; (case hc => rfl); (case hd => rfl); (case hb => first | rfl | assumption); (case hg => rfl))
      refine x_sign _ h2 _ _ lf mf cd k0 e R2 g ((T.c f1).c f2) hpe 32 (by decide) (fun hg3 hp3 h3 f3 R3 => ?_) (fun hg3 => ?_)
      · have hR3 := R3.1
        have hN3 : 87 ≤ m_nx h3 := nx_eq (f3 0 (by decide) (by decide)) hN2
        iterate 3 refine mT_s rfl rfl ?_
        (apply mT_inv; (case hc => rfl); (case hd => rfl); (case hb => first | rfl | assumption); (case hg => rfl))
        have hso : oSp z_X6_either (d + 3 * 5 + 6) (5 - 5) e g (pSo (pF g 5) g) := x_either_sp (d + 3 * 5 + 4) (5 - 5) e g (pEv (pF g 5) g) (x_both_sp (d + 3 * 5 + 3) (5 - 5) e g (pF g 5) (x_one e g 5 (by decide) d) (pF_ok hgk 5) (pF_n g 5)) (pEv_ok hgk (pF_ok hgk 5)) (pEv_n (pF_n g 5))
        refine hso h3 ((pNum g (q + 1)).2.1 + 1) k0 lf mf cd _ R3 (((T.c f1).c f2).c f3) hp3 (by omega) (fun h4 cd4 k4 f4 R4 hN4 => ?_)
        have hN4' : 87 ≤ m_nx h4 := nx_eq (f4 0 (by decide) (by decide)) hN3
        have hR4 := R4.1
        have fh4 : ∀ a, a ≠ 51 → a ≠ 52 → h4 a = h a := fun a x y => (f4 a x y).trans ((f3 a x y).trans ((f2 a x y).trans (f1 a x y)))
        have hFk := pSo_ok hgk (pF_ok hgk 5) ((pNum g (q + 1)).2.1 + 1)
        have hpe4 := hFk.2.1 hp3
        rcases hb4 : (pSo (pF g 5) g ((pNum g (q + 1)).2.1 + 1)).1 with _ | _
        · iterate 2 refine mT_s rfl rfl ?_
          refine mT_ret rfl rfl ?_
          have hv : pMU g (pY g q) false = ((pSo (pF g 5) g ((pNum g (q + 1)).2.1 + 1)).1, (pSo (pF g 5) g ((pNum g (q + 1)).2.1 + 1)).2.1, (pSo (pF g 5) g ((pNum g (q + 1)).2.1 + 1)).2.2 ++ [.inr (.inr (false, (pNum g (q + 1)).2.2))]) := by unfold pMU pY; rw [if_pos hg1, if_pos (show (true, q + 1).1 = true from rfl), if_pos (show (pNum g (true, q + 1).2).1 = true from hok), if_pos (show g (pNum g (true, q + 1).2).2.1 = 32 from hg3)]
          rw [hv] at K
          rw [hb4] at K
          exact K h4 cd4 k4 fh4 R4 (fun z => absurd (show false = true from z) (by decide))
        · iterate 3 refine mT_s rfl rfl ?_
          (apply mT_inv; (case hc => rfl); (case hd => rfl); (case hb => first | rfl | assumption); (case hg => rfl))
          have hcn4 := hN4 hb4
          have hF3 := hFk.2.2 hb4
          have hFl : (cTs (pSo (pF g 5) g ((pNum g (q + 1)).2.1 + 1)).2.2).length = (pSo (pF g 5) g ((pNum g (q + 1)).2.1 + 1)).2.2.length := pSo_n (pF_n g 5) _ hb4
          have hk4 := hcn4.1
          have hk49 : k4 + 2 ≤ (pSo (pF g 5) g ((pNum g (q + 1)).2.1 + 1)).2.1 := by omega
          refine x_put _ h4 _ _ lf mf cd4 k4 e R4 hN4' _ (by omega) (fun h5 f5 R5 => ?_)
          have hR5 := R5.1
          have hN5 : 87 ≤ m_nx h5 := nx_eq (f5 0 (by decide) (by decide)) hN4'
          iterate 5 refine mT_s rfl rfl ?_
          (apply mT_inv; (case hc => rfl); (case hd => rfl); (case hb => first | rfl | assumption); (case hg => rfl))
          refine x_put _ h5 _ _ lf mf _ (k4 + 1) e R5 hN5 _ (by omega) (fun h6 f6 R6 => ?_)
          refine mT_s rfl rfl ?_
          refine mT_ret rfl rfl ?_
          have hv : pMU g (pY g q) false = ((pSo (pF g 5) g ((pNum g (q + 1)).2.1 + 1)).1, (pSo (pF g 5) g ((pNum g (q + 1)).2.1 + 1)).2.1, (pSo (pF g 5) g ((pNum g (q + 1)).2.1 + 1)).2.2 ++ [.inr (.inr (false, (pNum g (q + 1)).2.2))]) := by unfold pMU pY; rw [if_pos hg1, if_pos (show (true, q + 1).1 = true from rfl), if_pos (show (pNum g (true, q + 1).2).1 = true from hok), if_pos (show g (pNum g (true, q + 1).2).2.1 = 32 from hg3)]
          rw [hv] at K
          rw [hb4] at K
          exact K h6 _ _ (fun a x y => (f6 a x y).trans ((f5 a x y).trans (fh4 a x y))) R6 (fun _ => ⟨hcn4.tr (cN_2 rfl), hk49⟩)
      · iterate 2 refine mT_s rfl rfl ?_
        refine mT_ret rfl rfl ?_
        have hv : pMU g (pY g q) false = (false, (pNum g (q + 1)).2.1, []) := by unfold pMU pY; rw [if_pos hg1, if_pos (show (true, q + 1).1 = true from rfl), if_pos (show (pNum g (true, q + 1).2).1 = true from hok), if_neg (show ¬ g (pNum g (true, q + 1).2).2.1 = 32 from hg3)]
        rw [hv] at K
        exact K h2 cd k0 (fun a x y => (f2 a x y).trans (f1 a x y)) R2 (fun z => absurd (show false = true from z) (by decide))
    · iterate 4 refine mT_s rfl rfl ?_
      refine mT_ret rfl rfl ?_
      have hv : pMU g (pY g q) false = (false, (pNum g (q + 1)).2.1, []) := by unfold pMU pY; rw [if_pos hg1, if_pos (show (true, q + 1).1 = true from rfl), if_neg (fun z => absurd (hok.symm.trans z) (by decide))]
      rw [hv] at K
      exact K h1 cd k0 f1 (by show rRd _ (pNum g (q + 1)).2.1 _ _ _ _ _; rw [hpos]; exact R1) (fun z => absurd (show false = true from z) (by decide))
  · iterate 2 refine mT_s rfl rfl ?_
    refine mT_ret rfl rfl ?_
    have hv : pMU g (pY g q) false = (false, q, []) := by unfold pMU pY; rw [if_neg hg1, if_neg (fun z => absurd (show false = true from z) (by decide))]
    rw [hv] at K
    exact K h cd k0 (fun _ _ _ => rfl) R (fun z => absurd (show false = true from z) (by decide))
theorem x_clM1 (d : Nat) (h : mH) (Q : Option Value → mH → Prop) (q : Nat) (lf mf : Int32) (cd : Nat → Int32) (k0 e : Nat) (R : rRd h q lf mf cd k0 e) (g : Nat → Int32) (T : rTp h g e) (hq : q ≤ e) (hkq : k0 ≤ q) (K : ∀ h2 cd2 k2, (∀ a, a ≠ 51 → a ≠ 52 → h2 a = h a) → rRd h2 (pMU g (pY g q) true).2.1 lf mf cd2 k2 e → ((pMU g (pY g q) true).1 = true → cN k0 cd cd2 k2 (pMU g (pY g q) true).2.2 ∧ k2 ≤ (pMU g (pY g q) true).2.1) → Q (some (.int (bI (pMU g (pY g q) true).1))) h2) : mT0 (d + 22) z_X6_clause 5 [some (.ref 51), some (.int 1), none] [] h Q := by
  obtain ⟨hR, hC, hk0⟩ := id R
  obtain ⟨⟨tf, ht, etf⟩, hgk, he, hN⟩ := id T
  iterate 4 refine mT_s rfl rfl ?_
  (apply mT_inv; (case hc => rfl); (case hd => rfl); (case hb => first | rfl | assumption); (case hg => rfl))
  refine x_sign _ h _ q lf mf cd k0 e R g T hq 32 (by decide) (fun hg1 hp1 h1 f1 R1 => ?_) (fun hg1 => ?_)
  · have hR1 := R1.1
    have hN1 : 87 ≤ m_nx h1 := nx_eq (f1 0 (by decide) (by decide)) hN
    have hnk := pNum_ok (p := q + 1) hgk
    iterate 2 refine mT_s rfl rfl ?_
    (apply mT_inv; (case hc => rfl); (case hd => rfl); (case hb => first | rfl | assumption); (case hg => rfl))
    refine x_number _ h1 _ (q + 1) lf mf cd k0 e R1 g (T.c f1) hp1 (fun hok h2 f2 R2 => ?_) (fun hok hpos => ?_)
    · have hR2 := R2.1
      have hN2 : 87 ≤ m_nx h2 := nx_eq (f2 0 (by decide) (by decide)) hN1
      have hpe := hnk.2.1 hp1
      have hpl := hnk.2.2.2 hok
      iterate 2 refine mT_s rfl rfl ?_
      refine mT_if_ge rfl (fun _ => ?_) (fun c => absurd (nI_pos' (by omega)) c)
      iterate 8 refine mT_s rfl rfl ?_
      (apply mT_inv; (case hc => rfl); (case hd => rfl); (case hb => first | rfl | assumption); (case hg => rfl))
      refine x_sign _ h2 _ _ lf mf cd k0 e R2 g ((T.c f1).c f2) hpe 32 (by decide) (fun hg3 hp3 h3 f3 R3 => ?_) (fun hg3 => ?_)
      · have hR3 := R3.1
        have hN3 : 87 ≤ m_nx h3 := nx_eq (f3 0 (by decide) (by decide)) hN2
        iterate 3 refine mT_s rfl rfl ?_
        (apply mT_inv; (case hc => rfl); (case hd => rfl); (case hb => first | rfl | assumption); (case hg => rfl))
        have hso : oSp z_X6_either (d + 3 * 5 + 6) (5 - 5) e g (pSo (pF g 5) g) := x_either_sp (d + 3 * 5 + 4) (5 - 5) e g (pEv (pF g 5) g) (x_both_sp (d + 3 * 5 + 3) (5 - 5) e g (pF g 5) (x_one e g 5 (by decide) d) (pF_ok hgk 5) (pF_n g 5)) (pEv_ok hgk (pF_ok hgk 5)) (pEv_n (pF_n g 5))
        refine hso h3 ((pNum g (q + 1)).2.1 + 1) k0 lf mf cd _ R3 (((T.c f1).c f2).c f3) hp3 (by omega) (fun h4 cd4 k4 f4 R4 hN4 => ?_)
        have hN4' : 87 ≤ m_nx h4 := nx_eq (f4 0 (by decide) (by decide)) hN3
        have hR4 := R4.1
        have fh4 : ∀ a, a ≠ 51 → a ≠ 52 → h4 a = h a := fun a x y => (f4 a x y).trans ((f3 a x y).trans ((f2 a x y).trans (f1 a x y)))
        have hFk := pSo_ok hgk (pF_ok hgk 5) ((pNum g (q + 1)).2.1 + 1)
        have hpe4 := hFk.2.1 hp3
        rcases hb4 : (pSo (pF g 5) g ((pNum g (q + 1)).2.1 + 1)).1 with _ | _
        · iterate 2 refine mT_s rfl rfl ?_
          refine mT_ret rfl rfl ?_
          have hv : pMU g (pY g q) true = ((pSo (pF g 5) g ((pNum g (q + 1)).2.1 + 1)).1, (pSo (pF g 5) g ((pNum g (q + 1)).2.1 + 1)).2.1, (pSo (pF g 5) g ((pNum g (q + 1)).2.1 + 1)).2.2 ++ [.inr (.inr (true, (pNum g (q + 1)).2.2))]) := by unfold pMU pY; rw [if_pos hg1, if_pos (show (true, q + 1).1 = true from rfl), if_pos (show (pNum g (true, q + 1).2).1 = true from hok), if_pos (show g (pNum g (true, q + 1).2).2.1 = 32 from hg3)]
          rw [hv] at K
          rw [hb4] at K
          exact K h4 cd4 k4 fh4 R4 (fun z => absurd (show false = true from z) (by decide))
        · iterate 3 refine mT_s rfl rfl ?_
          (apply mT_inv; (case hc => rfl); (case hd => rfl); (case hb => first | rfl | assumption); (case hg => rfl))
          have hcn4 := hN4 hb4
          have hF3 := hFk.2.2 hb4
          have hFl : (cTs (pSo (pF g 5) g ((pNum g (q + 1)).2.1 + 1)).2.2).length = (pSo (pF g 5) g ((pNum g (q + 1)).2.1 + 1)).2.2.length := pSo_n (pF_n g 5) _ hb4
          have hk4 := hcn4.1
          have hk49 : k4 + 2 ≤ (pSo (pF g 5) g ((pNum g (q + 1)).2.1 + 1)).2.1 := by omega
          refine x_put _ h4 _ _ lf mf cd4 k4 e R4 hN4' _ (by omega) (fun h5 f5 R5 => ?_)
          have hR5 := R5.1
          have hN5 : 87 ≤ m_nx h5 := nx_eq (f5 0 (by decide) (by decide)) hN4'
          iterate 5 refine mT_s rfl rfl ?_
          (apply mT_inv; (case hc => rfl); (case hd => rfl); (case hb => first | rfl | assumption); (case hg => rfl))
          refine x_put _ h5 _ _ lf mf _ (k4 + 1) e R5 hN5 _ (by omega) (fun h6 f6 R6 => ?_)
          refine mT_s rfl rfl ?_
          refine mT_ret rfl rfl ?_
          have hv : pMU g (pY g q) true = ((pSo (pF g 5) g ((pNum g (q + 1)).2.1 + 1)).1, (pSo (pF g 5) g ((pNum g (q + 1)).2.1 + 1)).2.1, (pSo (pF g 5) g ((pNum g (q + 1)).2.1 + 1)).2.2 ++ [.inr (.inr (true, (pNum g (q + 1)).2.2))]) := by unfold pMU pY; rw [if_pos hg1, if_pos (show (true, q + 1).1 = true from rfl), if_pos (show (pNum g (true, q + 1).2).1 = true from hok), if_pos (show g (pNum g (true, q + 1).2).2.1 = 32 from hg3)]
          rw [hv] at K
          rw [hb4] at K
          exact K h6 _ _ (fun a x y => (f6 a x y).trans ((f5 a x y).trans (fh4 a x y))) R6 (fun _ => ⟨hcn4.tr (cN_2 rfl), hk49⟩)
      · iterate 2 refine mT_s rfl rfl ?_
        refine mT_ret rfl rfl ?_
        have hv : pMU g (pY g q) true = (false, (pNum g (q + 1)).2.1, []) := by unfold pMU pY; rw [if_pos hg1, if_pos (show (true, q + 1).1 = true from rfl), if_pos (show (pNum g (true, q + 1).2).1 = true from hok), if_neg (show ¬ g (pNum g (true, q + 1).2).2.1 = 32 from hg3)]
        rw [hv] at K
        exact K h2 cd k0 (fun a x y => (f2 a x y).trans (f1 a x y)) R2 (fun z => absurd (show false = true from z) (by decide))
    · iterate 4 refine mT_s rfl rfl ?_
      refine mT_ret rfl rfl ?_
      have hv : pMU g (pY g q) true = (false, (pNum g (q + 1)).2.1, []) := by unfold pMU pY; rw [if_pos hg1, if_pos (show (true, q + 1).1 = true from rfl), if_neg (fun z => absurd (hok.symm.trans z) (by decide))]
      rw [hv] at K
      exact K h1 cd k0 f1 (by show rRd _ (pNum g (q + 1)).2.1 _ _ _ _ _; rw [hpos]; exact R1) (fun z => absurd (show false = true from z) (by decide))
  · iterate 2 refine mT_s rfl rfl ?_
    refine mT_ret rfl rfl ?_
    have hv : pMU g (pY g q) true = (false, q, []) := by unfold pMU pY; rw [if_neg hg1, if_neg (fun z => absurd (show false = true from z) (by decide))]
    rw [hv] at K
    exact K h cd k0 (fun _ _ _ => rfl) R (fun z => absurd (show false = true from z) (by decide))
theorem x_clT2 (d : Nat) (h : mH) (Q : Option Value → mH → Prop) (q : Nat) (lf mf : Int32) (cd : Nat → Int32) (k0 e : Nat) (R : rRd h q lf mf cd k0 e) (g : Nat → Int32) (T : rTp h g e) (hq : q ≤ e) (hkq : k0 ≤ q) (K : ∀ h2 lf2 mf2, (∀ a, a ≠ 51 → a ≠ 52 → h2 a = h a) → rRd h2 (pTE g (pY g q)).2.1 lf2 mf2 cd k0 e → ((pTE g (pY g q)).1 = true → lf2 = nI (pTE g (pY g q)).2.2 ∧ mf2 = mf) → Q (some (.int (bI (pTE g (pY g q)).1))) h2) : mT0 (d + 22) z_X6_clause 5 [some (.ref 51), some (.int 2), none] [] h Q := by
  obtain ⟨hR, hC, hk0⟩ := id R
  obtain ⟨⟨tf, ht, etf⟩, hgk, he, hN⟩ := id T
  iterate 4 refine mT_s rfl rfl ?_
  (apply mT_inv; (case hc => rfl); (case hd => rfl); (case hb => first | rfl | assumption); (case hg => rfl))
  refine x_sign _ h _ q lf mf cd k0 e R g T hq 32 (by decide) (fun hg1 hp1 h1 f1 R1 => ?_) (fun hg1 => ?_)
  · have hR1 := R1.1
    have hN1 : 87 ≤ m_nx h1 := nx_eq (f1 0 (by decide) (by decide)) hN
    have hnk := pNum_ok (p := q + 1) hgk
    iterate 2 refine mT_s rfl rfl ?_
    (apply mT_inv; (case hc => rfl); (case hd => rfl); (case hb => first | rfl | assumption); (case hg => rfl))
    refine x_number _ h1 _ (q + 1) lf mf cd k0 e R1 g (T.c f1) hp1 (fun hok h2 f2 R2 => ?_) (fun hok hpos => ?_)
    · have hR2 := R2.1
      have hN2 : 87 ≤ m_nx h2 := nx_eq (f2 0 (by decide) (by decide)) hN1
      iterate 2 refine mT_s rfl rfl ?_
      refine mT_if_ge rfl (fun _ => ?_) (fun c => absurd (nI_pos' (by have := hnk.2.2.1; omega)) c)
      iterate 5 refine mT_s rfl rfl ?_
      (apply mT_putfN; (case hc => rfl); (case ha => first | rfl | assumption); (case hN => assumption); (case hg => rfl))
      refine mT_s rfl rfl ?_
      refine mT_ret rfl rfl ?_
      have hv : pTE g (pY g q) = pNum g (q + 1) := by unfold pTE pY; rw [if_pos hg1, if_pos (show (true, q + 1).1 = true from rfl)]
      rw [hv] at K
      rw [hok] at K
      exact K _ _ mf (fun a x y => (m_up_n x).trans ((f2 a x y).trans (f1 a x y))) ⟨rfl, R2.2.1, R2.2.2⟩ (fun _ => ⟨rfl, rfl⟩)
    · iterate 4 refine mT_s rfl rfl ?_
      refine mT_ret rfl rfl ?_
      have hv : pTE g (pY g q) = pNum g (q + 1) := by unfold pTE pY; rw [if_pos hg1, if_pos (show (true, q + 1).1 = true from rfl)]
      rw [hv] at K
      rw [hok] at K
      exact K h1 lf mf f1 (by rw [hpos]; exact R1) (fun z => absurd z (by decide))
  · iterate 2 refine mT_s rfl rfl ?_
    refine mT_ret rfl rfl ?_
    have hv : pTE g (pY g q) = (false, q, 0) := by unfold pTE pY; rw [if_neg hg1, if_neg (fun z => absurd (show false = true from z) (by decide))]
    rw [hv] at K
    exact K h lf mf (fun _ _ _ => rfl) R (fun z => absurd (show false = true from z) (by decide))
theorem x_clT3 (d : Nat) (h : mH) (Q : Option Value → mH → Prop) (q : Nat) (lf mf : Int32) (cd : Nat → Int32) (k0 e : Nat) (R : rRd h q lf mf cd k0 e) (g : Nat → Int32) (T : rTp h g e) (hq : q ≤ e) (hkq : k0 ≤ q) (K : ∀ h2 lf2 mf2, (∀ a, a ≠ 51 → a ≠ 52 → h2 a = h a) → rRd h2 (pTE g (pY g q)).2.1 lf2 mf2 cd k0 e → ((pTE g (pY g q)).1 = true → lf2 = lf ∧ mf2 = nI (pTE g (pY g q)).2.2) → Q (some (.int (bI (pTE g (pY g q)).1))) h2) : mT0 (d + 22) z_X6_clause 5 [some (.ref 51), some (.int 3), none] [] h Q := by
  obtain ⟨hR, hC, hk0⟩ := id R
  obtain ⟨⟨tf, ht, etf⟩, hgk, he, hN⟩ := id T
  iterate 4 refine mT_s rfl rfl ?_
  (apply mT_inv; (case hc => rfl); (case hd => rfl); (case hb => first | rfl | assumption); (case hg => rfl))
  refine x_sign _ h _ q lf mf cd k0 e R g T hq 32 (by decide) (fun hg1 hp1 h1 f1 R1 => ?_) (fun hg1 => ?_)
  · have hR1 := R1.1
    have hN1 : 87 ≤ m_nx h1 := nx_eq (f1 0 (by decide) (by decide)) hN
    have hnk := pNum_ok (p := q + 1) hgk
    iterate 2 refine mT_s rfl rfl ?_
    (apply mT_inv; (case hc => rfl); (case hd => rfl); (case hb => first | rfl | assumption); (case hg => rfl))
    refine x_number _ h1 _ (q + 1) lf mf cd k0 e R1 g (T.c f1) hp1 (fun hok h2 f2 R2 => ?_) (fun hok hpos => ?_)
    · have hR2 := R2.1
      have hN2 : 87 ≤ m_nx h2 := nx_eq (f2 0 (by decide) (by decide)) hN1
      iterate 2 refine mT_s rfl rfl ?_
      refine mT_if_ge rfl (fun _ => ?_) (fun c => absurd (nI_pos' (by have := hnk.2.2.1; omega)) c)
      iterate 8 refine mT_s rfl rfl ?_
      (apply mT_putfN; (case hc => rfl); (case ha => first | rfl | assumption); (case hN => assumption); (case hg => rfl))
      refine mT_s rfl rfl ?_
      refine mT_ret rfl rfl ?_
      have hv : pTE g (pY g q) = pNum g (q + 1) := by unfold pTE pY; rw [if_pos hg1, if_pos (show (true, q + 1).1 = true from rfl)]
      rw [hv] at K
      rw [hok] at K
      exact K _ lf _ (fun a x y => (m_up_n x).trans ((f2 a x y).trans (f1 a x y))) ⟨rfl, R2.2.1, R2.2.2⟩ (fun _ => ⟨rfl, rfl⟩)
    · iterate 4 refine mT_s rfl rfl ?_
      refine mT_ret rfl rfl ?_
      have hv : pTE g (pY g q) = pNum g (q + 1) := by unfold pTE pY; rw [if_pos hg1, if_pos (show (true, q + 1).1 = true from rfl)]
      rw [hv] at K
      rw [hok] at K
      exact K h1 lf mf f1 (by rw [hpos]; exact R1) (fun z => absurd z (by decide))
  · iterate 2 refine mT_s rfl rfl ?_
    refine mT_ret rfl rfl ?_
    have hv : pTE g (pY g q) = (false, q, 0) := by unfold pTE pY; rw [if_neg hg1, if_neg (fun z => absurd (show false = true from z) (by decide))]
    rw [hv] at K
    exact K h lf mf (fun _ _ _ => rfl) R (fun z => absurd (show false = true from z) (by decide))