/-! By program (wip/whole/book*.py) and hand. -/
theorem e_spells (d : Nat) (s : Nat → Int32) (o t : Nat) (pd bw : Int64) (Q : Option Value → mH → Prop) (e : Nat) (t1 b n : Nat) (f : Nat → Int32) (h20 : Nat.ble (b + 1) 20 = true) (t20 : Nat.ble 1 t1 = true) (hn : n < 100) (hf : ∀ j, j < n → ∃ c : Nat, c < 128 ∧ f j = nI c) (t76 : t1 ≠ 76) (t77 : t1 ≠ 77)  (h : mH) (i : Nat → Int32) (p : Nat) (hc : rC h i s o t pd bw e p false) (ht : h t1 = .inr (11, [.ref b, .int 0])) (hb : h b = .inl (4, n, .inl f)) (g : Nat → Int32) (hg : sg s e = g) (K : ∀ h2 i2, rZ h i o t pd bw h2 i2 s (pSpk g f n 0 p).2 (!(pSpk g f n 0 p).1) → Q none h2) : mT0 (d + 4) z_X10_spells 0 (m_init z_X10_spells [.ref 76, .ref t1]) [] h Q := by
  subst hg
  iterate 2 refine mT_s rfl rfl ?_
  exact e_spells_L d s o t pd bw Q e t1 b n f h20 t20 hn hf t76 t77 n 0 h i p (by omega) hc ht hb K
set_option maxHeartbeats 4000000 in
theorem e_much (d : Nat) (s : Nat → Int32) (o t : Nat) (pd bw : Int64) (Q : Option Value → mH → Prop) (e : Nat) (act : Nat) (ha : act < 5) (g : Nat → Int32) (hgk : gOk g e) (L : Nat) (xs : Nat → Int32) (h : mH) (i : Nat → Int32) (p : Nat) (hc : rC h i s o t pd bw e p false) (hst : hS L xs h) (hi5 : i 5 = nI act) (hg : sg s e = g) (t1 b n : Nat) (f : Nat → Int32) (h20 : Nat.ble (b + 1) 20 = true) (t20 : Nat.ble 1 t1 = true) (hn : n < 100) (hf : ∀ j, j < n → ∃ c : Nat, c < 128 ∧ f j = nI c) (t76 : t1 ≠ 76) (t77 : t1 ≠ 77) (ht : h t1 = .inr (11, [.ref b, .int 0])) (hb : h b = .inl (4, n, .inl f))  (k0 : Nat) (hi9 : i 9 = nI 0) (hk : s (184 + act) = nI k0) (hk0 : k0 ≤ p) (b9 : Bool) (x : Int32) (hx : x = cond b9 (-200) (-10)) (K : ∀ h2 i2 s2, rZ h i o t pd bw h2 i2 s2 (pMuch g f n p b9).2.1 (!(pMuch g f n p b9).1) → tw act s s2 → ((pMuch g f n p b9).1 = true → tk act k0 s s2 (pMuch g f n p b9).2.2) → Q none h2) : mT0 (d + 24) z_X10_much 0 (m_init z_X10_much [.ref 76, .int x, .ref t1]) [] h Q := by
  obtain ⟨hM, h77, hN, ix1, h7, h8, he, hpe⟩ := id hc
  iterate 2 refine mT_s rfl rfl ?_
  (apply mT_inv; (case hc => rfl); (case hd => rfl); (case hb => first | rfl | assumption); (case hg => rfl))
  refine e_spells _ s o t pd bw _ e t1 b n f h20 t20 hn hf t76 t77 h i p hc ht hb g hg (fun h1 i1 z1 => ?_)
  have hA := pSpk_ok (g := g) (f := f) hgk (r := n) (k := 0) (p := p) (fun j hj => by obtain ⟨c, hc9, hfc⟩ := hf j (by omega); rw [hfc]; exact nI_nm (by omega))
  have hA2 : (pSpk g f n 0 p).2 ≤ e := hA.2.1 hpe
  have hc1 := z1.c hc hA2
  obtain ⟨hM1, h771, hN1, -, -, -, -, -⟩ := id hc1
  rcases hA1 : (pSpk g f n 0 p).1 with _ | _
  · rw [hA1] at hc1 z1
    refine mT_s rfl rfl ?_
    (apply mT_inv; (case hc => rfl); (case hd => rfl); (case hb => first | rfl | assumption); (case hg => rfl))
    refine e_figures_w _ _ s _ o t pd bw _ e _ hc1 (fun h2 i2 z2 => ?_)
    have hc2 := z2.c hc1 hA2
    obtain ⟨hM2, h772, hN2, -, -, -, -, -⟩ := id hc2
    iterate 3 refine mT_s rfl rfl ?_
    (apply mT_inv; (case hc => rfl); (case hd => rfl); (case hb => first | rfl | assumption); (case hg => rfl))
    refine e_must_w _ _ s _ o t pd bw _ e _ _ hc2 (fun h3 i3 z3 => ?_)
    have hc3 := z3.c hc2 hA2
    obtain ⟨hM3, h773, hN3, -, -, -, -, -⟩ := id hc3
    refine mT_s rfl rfl ?_
    (apply mT_inv; (case hc => rfl); (case hd => rfl); (case hb => first | rfl | assumption); (case hg => rfl))
    refine e_some_w _ e o t pd bw (e_every_w _ e o t pd bw (e_factor_w _ e o t pd bw)) _ s _ _ _ hc3 ?_
    iterate 4 refine mT_s rfl rfl ?_
    (apply mT_inv; (case hc => rfl); (case hd => rfl); (case hb => first | rfl | assumption); (case hg => rfl))
    refine e_emits_w _ _ _ _ _ _ _ _ _ _ _ _ hc3 ?_
    refine mT_ret rfl rfl ?_
    have hv : pMuch g f n p b9 = (false, (pSpk g f n 0 p).2, []) := by unfold pMuch; rw [if_neg (fun z => absurd (hA1.symm.trans z) (by decide))]
    rw [hv] at K
    exact K _ _ _ ((z1.tr z2).tr z3) tw.rfl' (fun z => absurd (show false = true from z) (by decide))
  · rw [hA1] at hc1 z1
    refine mT_s rfl rfl ?_
    (apply mT_inv; (case hc => rfl); (case hd => rfl); (case hb => first | rfl | assumption); (case hg => rfl))
    refine e_figures _ _ s _ o t pd bw _ e _ hc1 (fun h2 i2 z2 => ?_)
    have hBn := pNum_ok (g := g) (p := (pSpk g f n 0 p).2) hgk
    rw [hg] at z2
    rw [hg]
    have hB2 : (pNum g (pSpk g f n 0 p).2).2.1 ≤ e := hBn.2.1 hA2
    have hc2 := z2.c hc1 hB2
    obtain ⟨hM2, h772, hN2, -, -, -, -, -⟩ := id hc2
    rcases hB1 : (pNum g (pSpk g f n 0 p).2).1 with _ | _
    · rw [hB1] at hc2 z2
      iterate 3 refine mT_s rfl rfl ?_
      (apply mT_inv; (case hc => rfl); (case hd => rfl); (case hb => first | rfl | assumption); (case hg => rfl))
      refine e_must_w _ _ s _ o t pd bw _ e _ _ hc2 (fun h3 i3 z3 => ?_)
      have hc3 := z3.c hc2 hB2
      obtain ⟨hM3, h773, hN3, -, -, -, -, -⟩ := id hc3
      refine mT_s rfl rfl ?_
      (apply mT_inv; (case hc => rfl); (case hd => rfl); (case hb => first | rfl | assumption); (case hg => rfl))
      refine e_some_w _ e o t pd bw (e_every_w _ e o t pd bw (e_factor_w _ e o t pd bw)) _ s _ _ _ hc3 ?_
      iterate 4 refine mT_s rfl rfl ?_
      (apply mT_inv; (case hc => rfl); (case hd => rfl); (case hb => first | rfl | assumption); (case hg => rfl))
      refine e_emits_w _ _ _ _ _ _ _ _ _ _ _ _ hc3 ?_
      refine mT_ret rfl rfl ?_
      have hv : pMuch g f n p b9 = (false, (pNum g (pSpk g f n 0 p).2).2.1, []) := by unfold pMuch; rw [if_pos hA1, if_neg (fun z => absurd (hB1.symm.trans z) (by decide))]
      rw [hv] at K
      exact K _ _ _ ((z1.tr z2).tr z3) tw.rfl' (fun z => absurd (show false = true from z) (by decide))
    · rw [hB1] at hc2 z2
      iterate 3 refine mT_s rfl rfl ?_
      (apply mT_inv; (case hc => rfl); (case hd => rfl); (case hb => first | rfl | assumption); (case hg => rfl))
      refine e_must _ _ s _ o t pd bw _ e _ _ hc2 (fun hm h3 i3 z3 => ?_) (fun hm h3 i3 z3 => ?_)
      · rw [hg] at hm
        have hp3 : (pNum g (pSpk g f n 0 p).2).2.1 + 1 ≤ e := hgk.lt hm (by decide)
        have hc3 := z3.c hc2 hp3
        obtain ⟨hM3, h773, hN3, -, -, -, -, -⟩ := id hc3
        refine mT_s rfl rfl ?_
        (apply mT_inv; (case hc => rfl); (case hd => rfl); (case hb => first | rfl | assumption); (case hg => rfl))
        have hso := e_some (d + 3 * 5 + 6) act e 0 ha g L xs o t pd bw (pEv (pF g 5) g) (pEv_ok hgk (pF_ok hgk 5)) (e_every (d + 3 * 5 + 5) act e 0 ha g L xs o t pd bw (pF g 5) (pF_ok hgk 5) (e_factor act e ha g hgk L xs o t pd bw 5 (by decide) d))
        refine hso _ s _ ((pNum g (pSpk g f n 0 p).2).2.1 + 1) k0 _ hc3 (hst.z ((z1.tr z2).tr z3)) (((z1.tr z2).tr z3).f5.trans hi5) (((z1.tr z2).tr z3).f9.trans hi9) hk (by omega) hg (fun h4 i4 s4 z4 tw4 tk4 => ?_)
        have hq : pOk e ((pNum g (pSpk g f n 0 p).2).2.1 + 1) (pSo (pF g 5) g ((pNum g (pSpk g f n 0 p).2).2.1 + 1)) := pSo_ok hgk (pF_ok hgk 5) ((pNum g (pSpk g f n 0 p).2).2.1 + 1)
        change rZ _ _ _ _ _ _ h4 i4 s4 (pSo (pF g 5) g ((pNum g (pSpk g f n 0 p).2).2.1 + 1)).2.1 (!(pSo (pF g 5) g ((pNum g (pSpk g f n 0 p).2).2.1 + 1)).1) at z4
        change (pSo (pF g 5) g ((pNum g (pSpk g f n 0 p).2).2.1 + 1)).1 = true → tk act k0 s s4 (pSo (pF g 5) g ((pNum g (pSpk g f n 0 p).2).2.1 + 1)).2.2 at tk4
        have hc4 := z4.c hc3 (hq.2.1 hp3)
        obtain ⟨hM4, h774, hN4, -, -, h84, -, -⟩ := id hc4
        have hq3 := hq.2.2
        have hqe : (pSo (pF g 5) g ((pNum g (pSpk g f n 0 p).2).2.1 + 1)).2.1 ≤ 100 := Nat.le_trans (hq.2.1 hp3) he
        rcases hC1 : (pSo (pF g 5) g ((pNum g (pSpk g f n 0 p).2).2.1 + 1)).1 with _ | _
        · rw [hC1] at hc4 z4
          iterate 4 refine mT_s rfl rfl ?_
          (apply mT_inv; (case hc => rfl); (case hd => rfl); (case hb => first | rfl | assumption); (case hg => rfl))
          refine e_emits_w _ _ _ _ _ _ _ _ _ _ _ _ hc4 ?_
          refine mT_ret rfl rfl ?_
          have hv : pMuch g f n p b9 = ((pSo (pF g 5) g ((pNum g (pSpk g f n 0 p).2).2.1 + 1)).1, (pSo (pF g 5) g ((pNum g (pSpk g f n 0 p).2).2.1 + 1)).2.1, (pSo (pF g 5) g ((pNum g (pSpk g f n 0 p).2).2.1 + 1)).2.2 ++ [.inr (.inr (b9, (pNum g (pSpk g f n 0 p).2).2.2))]) := by unfold pMuch; rw [if_pos hA1, if_pos hB1, if_pos hm]
          rw [hv] at K
          exact K _ _ _ (by show rZ _ _ _ _ _ _ _ _ _ (pSo (pF g 5) g ((pNum g (pSpk g f n 0 p).2).2.1 + 1)).2.1 (!(pSo (pF g 5) g ((pNum g (pSpk g f n 0 p).2).2.1 + 1)).1); rw [hC1]; exact ((z1.tr z2).tr z3).tr z4) tw4 (fun z => absurd (hC1.symm.trans z) (by decide))
        · rw [hC1] at hc4 z4 h84
          have htk4 := tk4 hC1
          have hq3 := hq3 hC1
          iterate 4 refine mT_s rfl rfl ?_
          (apply mT_inv; (case hc => rfl); (case hd => rfl); (case hb => first | rfl | assumption); (case hg => rfl))
          rw [hx, show (cond b9 (-200) (-10) : Int32) - nI (pNum g (pSpk g f n 0 p).2).2.2 = rT (.inr (.inr (b9, (pNum g (pSpk g f n 0 p).2).2.2))) from by cases b9 <;> rfl]
          refine e_emits _ h4 s4 i4 o t pd bw _ e _ _ hc4 act (k0 + (pSo (pF g 5) g ((pNum g (pSpk g f n 0 p).2).2.1 + 1)).2.2.length) ha ((((z1.tr z2).tr z3).tr z4).f5.trans hi5) htk4.2.2.1 (by omega) ?_
          refine mT_ret rfl rfl ?_
          have hv : pMuch g f n p b9 = ((pSo (pF g 5) g ((pNum g (pSpk g f n 0 p).2).2.1 + 1)).1, (pSo (pF g 5) g ((pNum g (pSpk g f n 0 p).2).2.1 + 1)).2.1, (pSo (pF g 5) g ((pNum g (pSpk g f n 0 p).2).2.1 + 1)).2.2 ++ [.inr (.inr (b9, (pNum g (pSpk g f n 0 p).2).2.2))]) := by unfold pMuch; rw [if_pos hA1, if_pos hB1, if_pos hm]
          rw [hv] at K
          have z5 : rZ h4 i4 o t pd bw (m_up h4 77 (.inl (0, 889, .inl (upd (upd s4 (189 + 140 * act + (k0 + (pSo (pF g 5) g ((pNum g (pSpk g f n 0 p).2).2.1 + 1)).2.2.length)) (rT (.inr (.inr (b9, (pNum g (pSpk g f n 0 p).2).2.2))))) (184 + act) (nI (k0 + (pSo (pF g 5) g ((pNum g (pSpk g f n 0 p).2).2.1 + 1)).2.2.length + 1)))))) i4 (upd (upd s4 (189 + 140 * act + (k0 + (pSo (pF g 5) g ((pNum g (pSpk g f n 0 p).2).2.1 + 1)).2.2.length)) (rT (.inr (.inr (b9, (pNum g (pSpk g f n 0 p).2).2.2))))) (184 + act) (nI (k0 + (pSo (pF g 5) g ((pNum g (pSpk g f n 0 p).2).2.1 + 1)).2.2.length + 1))) (pSo (pF g 5) g ((pNum g (pSpk g f n 0 p).2).2.1 + 1)).2.1 false := ⟨fun a x y => m_up_n y, hM4, rfl, hc4.2.2.2.1, h84, fun j x y => rfl⟩
          have t5 := tk.one (s := s4) (k0 := k0 + (pSo (pF g 5) g ((pNum g (pSpk g f n 0 p).2).2.1 + 1)).2.2.length) ha (by omega) (x := .inr (.inr (b9, (pNum g (pSpk g f n 0 p).2).2.2))) rfl
          exact K _ _ _ (by show rZ _ _ _ _ _ _ _ _ _ (pSo (pF g 5) g ((pNum g (pSpk g f n 0 p).2).2.1 + 1)).2.1 (!(pSo (pF g 5) g ((pNum g (pSpk g f n 0 p).2).2.1 + 1)).1); rw [hC1]; exact (((z1.tr z2).tr z3).tr z4).tr z5) (tw4.tr t5.1) (fun _ => htk4.tr t5)
      · rw [hg] at hm
        have hc3 := z3.c hc2 hB2
        obtain ⟨hM3, h773, hN3, -, -, -, -, -⟩ := id hc3
        refine mT_s rfl rfl ?_
        (apply mT_inv; (case hc => rfl); (case hd => rfl); (case hb => first | rfl | assumption); (case hg => rfl))
        refine e_some_w _ e o t pd bw (e_every_w _ e o t pd bw (e_factor_w _ e o t pd bw)) _ s _ _ _ hc3 ?_
        iterate 4 refine mT_s rfl rfl ?_
        (apply mT_inv; (case hc => rfl); (case hd => rfl); (case hb => first | rfl | assumption); (case hg => rfl))
        refine e_emits_w _ _ _ _ _ _ _ _ _ _ _ _ hc3 ?_
        refine mT_ret rfl rfl ?_
        have hv : pMuch g f n p b9 = (false, (pNum g (pSpk g f n 0 p).2).2.1, []) := by unfold pMuch; rw [if_pos hA1, if_pos hB1, if_neg hm]
        rw [hv] at K
        exact K _ _ _ ((z1.tr z2).tr z3) tw.rfl' (fun z => absurd (show false = true from z) (by decide))
theorem e_tellsHere (d : Nat) (s : Nat → Int32) (o t : Nat) (pd bw : Int64) (Q : Option Value → mH → Prop) (e : Nat) (act : Nat) (ha : act < 5) (g : Nat → Int32) (hgk : gOk g e) (L : Nat) (xs : Nat → Int32) (h : mH) (i : Nat → Int32) (p : Nat) (hc : rC h i s o t pd bw e p false) (hst : hS L xs h) (hi5 : i 5 = nI act) (hg : sg s e = g) (t1 b n : Nat) (f : Nat → Int32) (h20 : Nat.ble (b + 1) 20 = true) (t20 : Nat.ble 1 t1 = true) (hn : n < 100) (hf : ∀ j, j < n → ∃ c : Nat, c < 128 ∧ f j = nI c) (t76 : t1 ≠ 76) (t77 : t1 ≠ 77) (ht : h t1 = .inr (11, [.ref b, .int 0])) (hb : h b = .inl (4, n, .inl f))  (wh : Nat) (hwh : wh < 185) (K1 : (pTell g f n p).1 = false → ∀ h2 i2, rZ h i o t pd bw h2 i2 s (pTell g f n p).2.1 true → Q none h2) (K2 : (pTell g f n p).1 = true → ∀ h2 i2, rZ h i o t pd bw h2 i2 (upd s (wh + act) (nI (pTell g f n p).2.2)) (pTell g f n p).2.1 false → Q none h2) : mT0 (d + 24) z_X10_tellsHere 0 (m_init z_X10_tellsHere [.ref 76, .int (nI wh), .ref t1]) [] h Q := by
  obtain ⟨hM, h77, hN, ix1, h7, h8, he, hpe⟩ := id hc
  iterate 2 refine mT_s rfl rfl ?_
  (apply mT_inv; (case hc => rfl); (case hd => rfl); (case hb => first | rfl | assumption); (case hg => rfl))
  refine e_spells _ s o t pd bw _ e t1 b n f h20 t20 hn hf t76 t77 h i p hc ht hb g hg (fun h1 i1 z1 => ?_)
  have hA := pSpk_ok (g := g) (f := f) hgk (r := n) (k := 0) (p := p) (fun j hj => by obtain ⟨c, hc9, hfc⟩ := hf j (by omega); rw [hfc]; exact nI_nm (by omega))
  have hA2 : (pSpk g f n 0 p).2 ≤ e := hA.2.1 hpe
  have hc1 := z1.c hc hA2
  obtain ⟨hM1, h771, hN1, -, -, -, -, -⟩ := id hc1
  rcases hA1 : (pSpk g f n 0 p).1 with _ | _
  · rw [hA1] at hc1 z1
    refine mT_s rfl rfl ?_
    (apply mT_inv; (case hc => rfl); (case hd => rfl); (case hb => first | rfl | assumption); (case hg => rfl))
    refine e_figures_w _ _ s _ o t pd bw _ e _ hc1 (fun h2 i2 z2 => ?_)
    have hc2 := z2.c hc1 hA2
    obtain ⟨hM2, h772, hN2, -, -, -, -, -⟩ := id hc2
    iterate 2 refine mT_s rfl rfl ?_
    (apply mT_getf; (case hc => rfl); (case ha => first | rfl | assumption); (case hf => first | rfl | assumption))
    have h82 := hc2.2.2.2.2.2.1
    refine mT_if_ne rfl (fun _ => ?_) (fun c => absurd (h82.symm.trans c) (by decide))
    refine mT_ret rfl rfl ?_
    have hv : pTell g f n p = (false, (pSpk g f n 0 p).2, 0) := by unfold pTell; rw [if_neg (fun z => absurd (hA1.symm.trans z) (by decide))]
    rw [hv] at K1
    exact K1 rfl _ _ (z1.tr z2)
  · rw [hA1] at hc1 z1
    refine mT_s rfl rfl ?_
    (apply mT_inv; (case hc => rfl); (case hd => rfl); (case hb => first | rfl | assumption); (case hg => rfl))
    refine e_figures _ _ s _ o t pd bw _ e _ hc1 (fun h2 i2 z2 => ?_)
    have hBn := pNum_ok (g := g) (p := (pSpk g f n 0 p).2) hgk
    rw [hg] at z2
    rw [hg]
    have hB2 : (pNum g (pSpk g f n 0 p).2).2.1 ≤ e := hBn.2.1 hA2
    have hc2 := z2.c hc1 hB2
    obtain ⟨hM2, h772, hN2, -, -, -, -, -⟩ := id hc2
    rcases hB1 : (pNum g (pSpk g f n 0 p).2).1 with _ | _
    · rw [hB1] at hc2 z2
      iterate 2 refine mT_s rfl rfl ?_
      (apply mT_getf; (case hc => rfl); (case ha => first | rfl | assumption); (case hf => first | rfl | assumption))
      have h82 := hc2.2.2.2.2.2.1
      refine mT_if_ne rfl (fun _ => ?_) (fun c => absurd (h82.symm.trans c) (by decide))
      refine mT_ret rfl rfl ?_
      have hv : pTell g f n p = (pNum g (pSpk g f n 0 p).2) := by unfold pTell; rw [if_pos hA1]
      rw [hv] at K1
      exact K1 hB1 _ _ (z1.tr z2)
    · rw [hB1] at hc2 z2
      iterate 2 refine mT_s rfl rfl ?_
      (apply mT_getf; (case hc => rfl); (case ha => first | rfl | assumption); (case hf => first | rfl | assumption))
      have h82 := hc2.2.2.2.2.2.1
      refine mT_if_ne rfl (fun c => absurd h82 c) (fun _ => ?_)
      refine mT_s rfl rfl ?_
      (apply mT_getf; (case hc => rfl); (case ha => first | rfl | assumption); (case hf => first | rfl | assumption))
      iterate 2 refine mT_s rfl rfl ?_
      (apply mT_getf; (case hc => rfl); (case ha => first | rfl | assumption); (case hf => first | rfl | assumption))
      iterate 2 refine mT_s rfl rfl ?_
      have ix1 := (z1.tr z2).f5.trans hi5
      (apply mT_iastK; (case hc => rfl); (case ha => first | rfl | assumption); (case hk => first | (simp only [ki_0, ki_1, ki_2, ki_3, ki_4, ki_5, ki_6, ki_7, ki_8, ki_9, ki_10, ki_11, ki_12, ki_17, ki_20, ki_21, ki_22, ki_42, ki_50, ki_58, ki_66, ki_74, ki_140, ki_174, ki_179, ki_184, ki_189, ki_441, nI_add, pk_mul]; with_reducible rfl) | (simp only [ki_0, ki_1, ki_2, ki_3, ki_4, ki_5, ki_6, ki_7, ki_8, ki_9, ki_10, ki_11, ki_12, ki_17, ki_20, ki_21, ki_22, ki_42, ki_50, ki_58, ki_66, ki_74, ki_140, ki_174, ki_179, ki_184, ki_189, ki_441, ix1, nI_add, pk_mul]; with_reducible rfl) | (simp only [ki_0, ki_1, ki_2, ki_3, ki_4, ki_5, ki_6, ki_7, ki_8, ki_9, ki_10, ki_11, ki_12, ki_17, ki_20, ki_21, ki_22, ki_42, ki_50, ki_58, ki_66, ki_74, ki_140, ki_174, ki_179, ki_184, ki_189, ki_441, ix1, ix2, nI_add, pk_mul]; with_reducible rfl) | (simp only [ki_0, ki_1, ki_2, ki_3, ki_4, ki_5, ki_6, ki_7, ki_8, ki_9, ki_10, ki_11, ki_12, ki_17, ki_20, ki_21, ki_22, ki_42, ki_50, ki_58, ki_66, ki_74, ki_140, ki_174, ki_179, ki_184, ki_189, ki_441, ix1, ix2, ix3, nI_add, pk_mul]; with_reducible rfl) | (simp (disch := omega) only [upd_n, ki_0, ki_1, ki_2, ki_3, ki_4, ki_5, ki_6, ki_7, ki_8, ki_9, ki_10, ki_11, ki_12, ki_17, ki_20, ki_21, ki_22, ki_42, ki_50, ki_58, ki_66, ki_74, ki_140, ki_174, ki_179, ki_184, ki_189, ki_441, ix1, nI_add, pk_mul]; with_reducible rfl) | (simp (disch := omega) only [upd_n, ki_0, ki_1, ki_2, ki_3, ki_4, ki_5, ki_6, ki_7, ki_8, ki_9, ki_10, ki_11, ki_12, ki_17, ki_20, ki_21, ki_22, ki_42, ki_50, ki_58, ki_66, ki_74, ki_140, ki_174, ki_179, ki_184, ki_189, ki_441, ix1, ix2, nI_add, pk_mul]; with_reducible rfl) | rfl); (case hlt => first | decide | omega); (case hn => decide); (case hN => assumption); (case hg => rfl))
      refine mT_ret rfl rfl ?_
      have hv : pTell g f n p = (pNum g (pSpk g f n 0 p).2) := by unfold pTell; rw [if_pos hA1]
      rw [hv] at K2
      exact K2 hB1 _ _ ((z1.tr z2).tr ⟨fun a x y => m_up_n y, hM2, rfl, hc2.2.2.2.1, hc2.2.2.2.2.2.1, fun j x y => rfl⟩)