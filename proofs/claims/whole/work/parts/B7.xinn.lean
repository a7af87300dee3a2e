/-! By program (wip/whole/book*.py) and hand. -/
theorem mT_inviV {d y pc nx z n b j : Nat} {w : Value} {ls : mL} {r st : List Value} {h : mH} {Q : Option Value → mH → Prop} (hc : m_cd y pc = some (.invokespecial j, nx, [z, n], w)) (hd : st.drop n = .ref b :: r) (h20 : 20 ≤ b) (hg : (Nat.ble (m_cat r) 8 && Nat.ble (m_cat (.ref b :: (st.take n).reverse)) (m_max z)) = true) (K : mT0 d z 0 (m_init z (.ref b :: (st.take n).reverse)) [] h (fun v h' => mT0 (d + 1) y nx ls (v.toList ++ r) h' Q)) : mT0 (d + 1) y pc ls st h Q := by
  refine mT_c hc ?_ K
  simp only [m_st1, m_invi, hd, Nat.ble_eq_true_of_le h20, cond_true, m_call, hg]
theorem XR.u9 {h h2 : mH} {i i2 : Nat → Int32} {iv : Value} {s : Nat → Int32} {l : List Tok} {le mo nb : Nat} {wi lo : Nat → Nat} (X : XR 21 h i iv s l le mo nb wi lo) (hi2 : i2 = upd i 3 0) (hh : ∀ a, a ≠ 21 → a ≠ 51 → a ≠ 52 → h2 a = h a) (hR : h2 21 = .inr (7, rObj 21 i2 iv)) : XR 21 h2 i2 iv (upd s 10 0) l le mo nb wi lo := by
  obtain ⟨B, XM, XT, XA, XB, XL, i0, i1, i2', i3, i4, i5⟩ := X
  obtain ⟨-, hN, hV, hwt, hK, hV5, hW, h9⟩ := B
  subst hi2
  refine ⟨⟨hR, nx_eq (hh 0 (by decide) (by decide) (by decide)) hN, rI_c (fun a ha => hh a (by omega) (by omega) (by omega)) hV, hwt, rA_s (rAr_c (hh 22 (by decide) (by decide) (by decide)) hK) (fun j hj => upd_n _ _ (by omega)), rA_s (rAr_c (hh 23 (by decide) (by decide) (by decide)) hV5) (fun j hj => upd_n _ _ (by omega)), rA_s (rAr_c (hh 25 (by decide) (by decide) (by decide)) hW) (fun j hj => upd_n _ _ (by omega)), by rw [hh 30 (by decide) (by decide) (by decide)]; exact h9⟩, rA_s (rAr_c (hh 24 (by decide) (by decide) (by decide)) XM) (fun j hj => upd_n _ _ (by omega)), rA_s (rAr_c (hh 26 (by decide) (by decide) (by decide)) XT) (fun j hj => upd_n _ _ (by omega)), rA_s (rAr_c (hh 29 (by decide) (by decide) (by decide)) XA) (fun j hj => upd_n _ _ (by omega)), rBk_c (hh 27 (by decide) (by decide) (by decide)) XB, rBk_c (hh 28 (by decide) (by decide) (by decide)) XL, ?_⟩
  simp (disch := omega) only [upd_n, upd_s]
  exact ⟨i0, i1, i2', trivial, i4, i5⟩
theorem x_innP (d : Nat) (h : mH) (Q : Option Value → mH → Prop) (it : Int32) (hX : h 20 = .inr (9, xObj it)) (i : Nat → Int32) (iv : Value) (s : Nat → Int32) (hI : s_Inv s) (l : List Tok) (le mo nb : Nat) (wi lo : Nat → Nat) (X : XR 21 h i iv s l le mo nb wi lo)  (hRd : rRdS h) (act e : Nat) (ha : act ≤ 5) (ix7 : s 7 = nI act) (he10 : s 10 = nI e) (he : e ≤ 100) (k5 : act = 5 → Q (some (.int (-4))) h) (kOk : act < 5 → ((pInn (sg s e)).1 = true ∧ (pInn (sg s e)).2.1 = e) → ∀ h2 i2 N, (∀ a, a ≠ 0 → a ≠ 1 → a ≠ 21 → a ≠ 51 → a ≠ 52 → a ≠ m_nx h → a ≠ m_nx h + 1 → h2 a = h a) → N = m_nx h → (∀ s2 : Nat → Int32, s2 7 = nI (act + 1) → s2 10 = 0 → (∀ j, j < 174 → j ≠ 7 → j ≠ 10 → j ≠ 11 → s2 j = s j) → w_toks 0 (pInn (sg s e)).2.2.1 → XR 21 h2 i2 (.ref N) s2 (pInn (sg s e)).2.2.1 (pInn (sg s e)).2.2.2.1 (pInn (sg s e)).2.2.2.2 nb wi lo) → rRdS h2 → m_nx h2 = m_nx h + 2 → m_us h2 ≤ m_us h + 103 → Q (some (.int (nI act))) h2) (kNo : act < 5 → ¬ ((pInn (sg s e)).1 = true ∧ (pInn (sg s e)).2.1 = e) → ∀ h2 i2, (∀ a, a ≠ 21 → a ≠ 51 → a ≠ 52 → h2 a = h a) → XR 21 h2 i2 iv (upd s 10 0) l le mo nb wi lo → rRdS h2 → Q (some (.int (-10 - nI (pInn (sg s e)).2.1))) h2) : mT0 (d + 24) z_X9_inn 0 (m_init z_X9_inn [.ref 20]) [] h Q := by
  obtain ⟨B, XM, XT, XA, XB, XL, i0, i1, i2, i3, i4, i5⟩ := id X
  obtain ⟨hR, hN, hV, hwt, hK, hV5, hW, h9⟩ := id B
  obtain ⟨n9, hn5, hn6⟩ := hI.1
  have hi0 := i0.trans hn6
  obtain ⟨fk, hk, ek⟩ := id hK
  obtain ⟨fv, hv, ev⟩ := id hV5
  obtain ⟨fm, hm, em⟩ := id XM
  obtain ⟨fw, hw, ew⟩ := id hW
  obtain ⟨ft, ht, et⟩ := id XT
  obtain ⟨fa, hfa, ea⟩ := id XA
  obtain ⟨fb, hb, eb⟩ := id XB
  obtain ⟨fl, hfl, el⟩ := id XL
  obtain ⟨⟨_, _, _, _, _, _, hR51⟩, -⟩ := id hRd
  refine mT_s rfl rfl ?_
  (apply mT_getf; (case hc => rfl); (case ha => first | rfl | assumption); (case hf => first | rfl | assumption))
  (apply mT_getf; (case hc => rfl); (case ha => first | rfl | assumption); (case hf => first | rfl | assumption))
  refine mT_s rfl rfl ?_
  refine mT_icmp_lt rfl (fun c8 => ?_) (fun c8 => ?_)
  · have hact : act < 5 := by rw [i2.trans ix7] at c8; exact (nI_ltI (b := 5) (by omega) (by decide)).mp c8
    refine mT_s rfl rfl ?_
    (apply mT_getf; (case hc => rfl); (case ha => first | rfl | assumption); (case hf => first | rfl | assumption))
    refine mT_s rfl rfl ?_
    (apply mT_getf; (case hc => rfl); (case ha => first | rfl | assumption); (case hf => first | rfl | assumption))
    (apply mT_getf; (case hc => rfl); (case ha => first | rfl | assumption); (case hf => first | rfl | assumption))
    refine mT_s rfl rfl ?_
    (apply mT_getf; (case hc => rfl); (case ha => first | rfl | assumption); (case hf => first | rfl | assumption))
    (apply mT_getf; (case hc => rfl); (case ha => first | rfl | assumption); (case hf => first | rfl | assumption))
    (apply mT_inv; (case hc => rfl); (case hd => rfl); (case hb => first | rfl | assumption); (case hg => rfl))
    have T : rTp h (sg s e) e := ⟨⟨ft, ht, fun p hp => (et p (by omega)).trans (by unfold sg; rw [if_pos hp])⟩, sg_ok s e, he, hN⟩
    rw [i3.trans he10]
    refine x_reads _ h _ hRd e (sg s e) T (fun h2 cd0 cd2 k2 lf2 mf2 f2 R2 hok => ?_)
    have hR2 : h2 21 = _ := (f2 21 (by decide) (by decide)).trans hR
    have hX2 : h2 20 = _ := (f2 20 (by decide) (by decide)).trans hX
    have hN2 : 87 ≤ m_nx h2 := nx_eq (f2 0 (by decide) (by decide)) hN
    have hR5 := R2.1
    rcases Classical.em ((pInn (sg s e)).1 = true ∧ (pInn (sg s e)).2.1 = e) with ho | ho
    · rw [if_pos ho]
      iterate 2 refine mT_s rfl rfl ?_
      (apply mT_getf; (case hc => rfl); (case ha => first | rfl | assumption); (case hf => first | rfl | assumption))
      refine mT_s rfl rfl ?_
      (apply mT_putfN; (case hc => rfl); (case ha => first | rfl | assumption); (case hN => assumption); (case hg => rfl))
      iterate 3 refine mT_s rfl rfl ?_
      (apply mT_getf; (case hc => rfl); (case ha => first | rfl | assumption); (case hf => first | rfl | assumption))
      show mT0 _ _ _ _ _ (m_up h2 21 (.inr (7, rObj 21 (upd i 3 0) iv))) Q
      have h20 : 20 ≤ m_nx (m_up h2 21 (.inr (7, rObj 21 (upd i 3 0) iv))) := by
        have : 87 ≤ m_nx (m_up h2 21 (.inr (7, rObj 21 (upd i 3 0) iv))) := hN2
        omega
      refine mT_newoV rfl rfl h20 (fun h3 f3 hO3 n3 u3 => ?_)
      have hNe : m_nx (m_up h2 21 (.inr (7, rObj 21 (upd i 3 0) iv))) = m_nx h := nx_of ((m_up_n (show 0 ≠ 21 by decide)).trans (f2 0 (by decide) (by decide)))
      have hUe : m_us (m_up h2 21 (.inr (7, rObj 21 (upd i 3 0) iv))) = m_us h := us_of ((m_up_n (show 1 ≠ 21 by decide)).trans (f2 1 (by decide) (by decide)))
      obtain ⟨N, hNN⟩ : ∃ N, N = m_nx h := ⟨_, rfl⟩
      rw [hNe, ← hNN] at f3 hO3 n3 ⊢
      rw [hUe] at u3
      have hN87 : 87 ≤ N := by rw [hNN]; exact hN
      have hX3 : h3 20 = _ := (f3 20 (by decide) (by decide) (by omega)).trans ((m_up_n (show 20 ≠ 21 by decide)).trans hX2)
      have hR3 : h3 21 = .inr (7, rObj 21 (upd i 3 0) iv) := (f3 21 (by decide) (by decide) (by omega)).trans rfl
      have R3 : rRd h3 (pInn (sg s e)).2.1 lf2 mf2 cd2 k2 e := ⟨(f3 51 (by decide) (by decide) (by omega)).trans ((m_up_n (show 51 ≠ 21 by decide)).trans R2.1), (f3 52 (by decide) (by decide) (by omega)).trans ((m_up_n (show 52 ≠ 21 by decide)).trans R2.2.1), R2.2.2⟩
      iterate 2 refine mT_s rfl rfl ?_
      (apply mT_getf; (case hc => rfl); (case ha => first | rfl | assumption); (case hf => first | rfl | assumption))
      refine mT_inviV rfl rfl (by omega) rfl ?_
      refine x_innInit _ h3 _ N _ lf2 mf2 cd2 k2 e R3 hN87 n3 hO3 (fun h4 code f4 hO4 hA4 hcd n4 u4 => ?_)
      have hX4 : h4 20 = _ := (f4 20 (by decide) (by decide) (by omega) (by omega)).trans hX3
      have hR4 : h4 21 = .inr (7, rObj 21 (upd i 3 0) iv) := (f4 21 (by decide) (by decide) (by omega) (by omega)).trans hR3
      have hN4 : 87 ≤ m_nx h4 := by rw [n4]; omega
      (apply mT_putfN; (case hc => rfl); (case ha => first | rfl | assumption); (case hN => assumption); (case hg => rfl))
      refine mT_s rfl rfl ?_
      (apply mT_getf; (case hc => rfl); (case ha => first | rfl | assumption); (case hf => first | rfl | assumption))
      refine mT_s rfl rfl ?_
      (apply mT_getf; (case hc => rfl); (case ha => first | rfl | assumption); (case hf => first | rfl | assumption))
      iterate 2 refine mT_s rfl rfl ?_
      (apply mT_putfN; (case hc => rfl); (case ha => first | rfl | assumption); (case hN => assumption); (case hg => rfl))
      refine mT_s rfl rfl ?_
      (apply mT_getf; (case hc => rfl); (case ha => first | rfl | assumption); (case hf => first | rfl | assumption))
      (apply mT_getf; (case hc => rfl); (case ha => first | rfl | assumption); (case hf => first | rfl | assumption))
      iterate 2 refine mT_s rfl rfl ?_
      refine mT_ret rfl rfl ?_
      simp only [m_up_up]
      rw [show upd i 3 0 2 = nI act from (upd_n _ _ (by decide)).trans (i2.trans ix7), nI_1, show nI (act + 1) - 1 = nI act from nI_pred act]
      show Q _ (m_up h4 21 (.inr (7, rObj 21 (upd (upd i 3 0) 2 (nI (act + 1))) (.ref N))))
      obtain ⟨hcn, hlf, hmf⟩ := hok ho
      have fr : ∀ a, a ≠ 0 → a ≠ 1 → a ≠ 21 → a ≠ 51 → a ≠ 52 → a ≠ N → a ≠ N + 1 → (m_up h4 21 (.inr (7, rObj 21 (upd (upd i 3 0) 2 (nI (act + 1))) (.ref N)))) a = h a := fun a a0 a1 a2 a3 a4 a5 a6 => (m_up_n a2).trans ((f4 a a0 a1 a5 a6).trans ((f3 a a0 a1 a5).trans ((m_up_n a2).trans (f2 a a3 a4))))
      have o := fun a (z : a < 87) (a0 : a ≠ 0) (a1 : a ≠ 1) (a2 : a ≠ 21) (a3 : a ≠ 51) (a4 : a ≠ 52) => fr a a0 a1 a2 a3 a4 (by omega) (by omega)
      have hkl : k2 = (cTs (pInn (sg s e)).2.2.1).length := by have := hcn.1; omega
      refine kOk hact ho _ (upd (upd i 3 0) 2 (nI (act + 1))) N (fun a a0 a1 a2 a3 a4 a5 a6 => fr a a0 a1 a2 a3 a4 (by omega) (by omega)) hNN (fun s2 s7 s10 sj hwt2 => ?_) ⟨⟨_, _, _, _, _, _, ((m_up_n (show 51 ≠ 21 by decide)).trans ((f4 51 (by decide) (by decide) (by omega) (by omega)).trans R3.1))⟩, ⟨_, ((m_up_n (show 52 ≠ 21 by decide)).trans ((f4 52 (by decide) (by decide) (by omega) (by omega)).trans R3.2.1))⟩⟩ (by show m_nx h4 = _; rw [n4]; omega) (by
        show m_us h4 ≤ _
        have := R2.2.2
        rw [u4, u3]
        show m_us h + 3 + k2 ≤ _
        omega)
      refine ⟨⟨rfl, hN4, Or.inr ⟨N, code, rfl, hN87, ?_, ?_, cA_c (fun j _ h2 => hcd j (by omega)) hcn.2.1, by rw [← hkl]; exact R2.2.2⟩, hwt2, rA_s (rAr_c (o 22 (by decide) (by decide) (by decide) (by decide) (by decide) (by decide)) hK) (fun j hj => sj _ (by omega) (by omega) (by omega) (by omega)), rA_s (rAr_c (o 23 (by decide) (by decide) (by decide) (by decide) (by decide) (by decide)) hV5) (fun j hj => sj _ (by omega) (by omega) (by omega) (by omega)), rA_s (rAr_c (o 25 (by decide) (by decide) (by decide) (by decide) (by decide) (by decide)) hW) (fun j hj => sj _ (by omega) (by omega) (by omega) (by omega)), by rw [o 30 (by decide) (by decide) (by decide) (by decide) (by decide) (by decide)]; exact h9⟩, rA_s (rAr_c (o 24 (by decide) (by decide) (by decide) (by decide) (by decide) (by decide)) XM) (fun j hj => sj _ (by omega) (by omega) (by omega) (by omega)), rA_s (rAr_c (o 26 (by decide) (by decide) (by decide) (by decide) (by decide) (by decide)) XT) (fun j hj => sj _ (by omega) (by omega) (by omega) (by omega)), rA_s (rAr_c (o 29 (by decide) (by decide) (by decide) (by decide) (by decide) (by decide)) XA) (fun j hj => sj _ (by omega) (by omega) (by omega) (by omega)), rBk_c (o 27 (by decide) (by decide) (by decide) (by decide) (by decide) (by decide)) XB, rBk_c (o 28 (by decide) (by decide) (by decide) (by decide) (by decide) (by decide)) XL, ?_⟩
      · rw [m_up_n (show N ≠ 21 by omega), hO4, hlf, hmf]
      · rw [m_up_n (show N + 1 ≠ 21 by omega), hA4, hkl]
      · simp (disch := omega) only [upd_n, upd_s]
        exact ⟨i0.trans (sj 6 (by decide) (by decide) (by decide) (by decide)).symm, i1.trans (sj 0 (by decide) (by decide) (by decide) (by decide)).symm, s7.symm, s10.symm, i4.trans (sj 8 (by decide) (by decide) (by decide) (by decide)).symm, i5.trans (sj 9 (by decide) (by decide) (by decide) (by decide)).symm⟩
    · rw [if_neg ho]
      iterate 2 refine mT_s rfl rfl ?_
      (apply mT_getf; (case hc => rfl); (case ha => first | rfl | assumption); (case hf => first | rfl | assumption))
      refine mT_s rfl rfl ?_
      (apply mT_putfN; (case hc => rfl); (case ha => first | rfl | assumption); (case hN => assumption); (case hg => rfl))
      iterate 4 refine mT_s rfl rfl ?_
      (apply mT_getf; (case hc => rfl); (case ha => first | rfl | assumption); (case hf => first | rfl | assumption))
      (apply mT_getf; (case hc => rfl); (case ha => first | rfl | assumption); (case hf => first | rfl | assumption))
      refine mT_s rfl rfl ?_
      refine mT_ret rfl rfl ?_
      have hR59 := R2.1
      refine kNo hact ho _ (upd i 3 0) (fun a a2 a3 a4 => (m_up_n a2).trans (f2 a a3 a4)) (X.u9 rfl (fun a a2 a3 a4 => (m_up_n a2).trans (f2 a a3 a4)) rfl) ⟨⟨_, _, _, _, _, _, ((m_up_n (show 51 ≠ 21 by decide)).trans R2.1)⟩, ⟨_, ((m_up_n (show 52 ≠ 21 by decide)).trans R2.2.1)⟩⟩
  · refine mT_s rfl rfl ?_
    refine mT_ret rfl rfl ?_
    exact k5 (by rw [i2.trans ix7] at c8; have := Nat.le_of_not_lt (fun z => c8 (nI_lt (b := 5) z (by decide))); omega)
