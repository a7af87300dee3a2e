/-! By program (wip/whole/book*.py) and hand. -/
theorem rC.u8 {h : mH} {i s : Nat → Int32} {o t : Nat} {pd bw : Int64} {e p : Nat} {w : Bool} (hc : rC h i s o t pd bw e p w) (w2 : Bool) : rC (m_up h 76 (.inr (10, mObj (upd i 8 (bI w2)) o t pd bw))) (upd i 8 (bI w2)) s o t pd bw e p w2 ∧ rZ h i o t pd bw (m_up h 76 (.inr (10, mObj (upd i 8 (bI w2)) o t pd bw))) (upd i 8 (bI w2)) s p w2 := by
  obtain ⟨hM, h77, hN, ix1, h7, h8, he, hpe⟩ := hc
  exact ⟨⟨rfl, h77, hN, by rw [upd_n _ _ (by decide)]; exact ix1, by rw [upd_n _ _ (by decide)]; exact h7, upd_s _ _ _, he, hpe⟩, ⟨fun a x y => m_up_n x, rfl, h77, by rw [upd_n _ _ (by decide)]; exact ix1, upd_s _ _ _, fun j x y => upd_n _ _ y⟩⟩
theorem nI_nm {k : Nat} (h : k < 1000) : ¬ nI k = -1 := fun z => by
  have := nI_pos (n := k) (by omega)
  rw [z] at this
  exact this (by decide)
theorem tok_t (w c v : Nat) : nI w + 8 * nI c + 32 * nI v = rT (.inl (w, c, v)) := by
  show _ = nI (w + 8 * c + 32 * v)
  rw [show (8 : Int32) = nI 8 from rfl, show (32 : Int32) = nI 32 from rfl, pk_mul, pk_mul, nI_add, nI_add]
theorem e_test (d act e opn : Nat) (ha : act < 5) (g : Nat → Int32) (L : Nat) (xs : Nat → Int32) (o t : Nat) (pd bw : Int64)  (x2 x3 x4 : Option Value) (c0 : Int32) (h : mH) (s i : Nat → Int32) (p k0 : Nat) (Q : Option Value → mH → Prop) (hc : rC h i s o t pd bw e p false) (hst : hS L xs h) (hi5 : i 5 = nI act) (hk : s (184 + act) = nI k0) (hk0 : k0 ≤ p) (hg : sg s e = g) (K : ∀ h2 i2 s2, rZ h i o t pd bw h2 i2 s2 (pTest g p).2.1 (!(pTest g p).1) → tw act s s2 → ((pTest g p).1 = true → tk act k0 s s2 (pTest g p).2.2) → Q none h2) : mT0 (d + 6) z_X10_factor 112 [some (.ref 76), some (.int c0), x2, x3, x4] [] h Q := by
  obtain ⟨hM, h77, hN, ix1, h7, h8, he, hpe⟩ := id hc
  iterate 2 refine mT_s rfl rfl ?_
  (apply mT_inv; (case hc => rfl); (case hd => rfl); (case hb => first | rfl | assumption); (case hg => rfl))
  refine e_ab _ h s i o t pd bw _ e p L xs hst hc (fun w hw h3 i3 z3 => ?_) (fun hw => ?_)
  · have hab := (pAb_some hw).1
    have hp1 : p + 1 ≤ e := (sg_ok s e).lt rfl (pAb_some hw).2
    have hc3 := z3.c hc hp1
    have hst3 := hst.z z3
    obtain ⟨hM3, h773, hN3, -, -, h83, -, -⟩ := id hc3
    iterate 4 refine mT_s rfl rfl ?_
    refine mT_icmp_ne rfl (fun _ => ?_) (fun c => absurd c (nI_nm (by omega)))
    refine mT_s rfl rfl ?_
    (apply mT_putfN; (case hc => rfl); (case ha => first | rfl | assumption); (case hN => assumption); (case hg => rfl))
    refine mT_s rfl rfl ?_
    (apply mT_getf; (case hc => rfl); (case ha => first | rfl | assumption); (case hf => first | rfl | assumption))
    refine mT_if_eq rfl (fun _ => ?_) (fun c => absurd rfl c)
    iterate 2 refine mT_s rfl rfl ?_
    (apply mT_inv; (case hc => rfl); (case hd => rfl); (case hb => first | rfl | assumption); (case hg => rfl))
    refine e_cm _ _ s _ o t pd bw _ e _ L xs (hst3.z (hc3.u8 false).2) (hc3.u8 false).1 (fun c hw2 h4 i4 z4 => ?_) (fun hw2 => ?_)
    · have hp2 : p + 1 + 1 ≤ e := (sg_ok s e).lt rfl (pCm_some hw2).2
      have hc4 := z4.c (hc3.u8 false).1 hp2
      obtain ⟨hM4, h774, hN4, -, -, h84, -, -⟩ := id hc4
      have hcm := (pCm_some hw2).1
      iterate 3 refine mT_s rfl rfl ?_
      (apply mT_getf; (case hc => rfl); (case ha => first | rfl | assumption); (case hf => first | rfl | assumption))
      refine mT_if_ne rfl (fun c => absurd h84 c) (fun _ => ?_)
      iterate 2 refine mT_s rfl rfl ?_
      refine mT_icmp_ne rfl (fun _ => ?_) (fun c => absurd c (nI_nm (by omega)))
      refine mT_s rfl rfl ?_
      (apply mT_putfN; (case hc => rfl); (case ha => first | rfl | assumption); (case hN => assumption); (case hg => rfl))
      refine mT_s rfl rfl ?_
      (apply mT_inv; (case hc => rfl); (case hd => rfl); (case hb => first | rfl | assumption); (case hg => rfl))
      have hp9 : pTest (sg s e) p = ((pNum (sg s e) (p + 2)).1, (pNum (sg s e) (p + 2)).2.1, [.inl (w, c, (pNum (sg s e) (p + 2)).2.2)]) := by unfold pTest; rw [hw]; show (match pCm (sg s e (p + 1)) with | none => _ | some c => _) = _; rw [hw2]
      rw [hg] at hp9
      rw [hp9] at K
      refine e_figures _ _ s _ o t pd bw _ e _ (hc4.u8 false).1 (fun h5 i5 z5 => ?_)
      have hn9 := pNum_ok (p := p + 1 + 1) (sg_ok s e)
      have hc5 := z5.c (hc4.u8 false).1 (hn9.2.1 hp2)
      obtain ⟨hM5, h775, hN5, -, -, h85, -, -⟩ := id hc5
      rw [hg] at hc5 z5 hn9 h85
      rw [hg]
      have hpn : (pNum g (p + 1 + 1)).2.1 ≤ 100 := Nat.le_trans (hn9.2.1 hp2) he
      rcases hok5 : (pNum g (p + 1 + 1)).1 with _ | _
      · rw [hok5] at hc5 z5
        iterate 11 refine mT_s rfl rfl ?_
        (apply mT_inv; (case hc => rfl); (case hd => rfl); (case hb => first | rfl | assumption); (case hg => rfl))
        rw [tok_t]
        first
          | refine e_emits_w _ _ _ _ _ _ _ _ _ _ _ _ hc5 ?_
          | refine e_emits _ h5 s i5 o t pd bw _ e _ _ hc5 act k0 ha ((z3.tr (hc3.u8 false).2 |>.tr z4 |>.tr (hc4.u8 false).2 |>.tr z5).f5.trans hi5) hk (by omega) ?_
        refine mT_ret rfl rfl ?_
        exact K _ _ _ (by show rZ _ _ _ _ _ _ _ _ _ (pNum g (p + 1 + 1)).2.1 (!(pNum g (p + 1 + 1)).1); rw [hok5]; exact (z3.tr (hc3.u8 false).2 |>.tr z4 |>.tr (hc4.u8 false).2 |>.tr z5)) tw.rfl' (fun z => absurd (hok5.symm.trans z) (by decide))
      · rw [hok5] at hc5 z5 h85
        iterate 11 refine mT_s rfl rfl ?_
        (apply mT_inv; (case hc => rfl); (case hd => rfl); (case hb => first | rfl | assumption); (case hg => rfl))
        rw [tok_t]
        first
          | refine e_emits_w _ _ _ _ _ _ _ _ _ _ _ _ hc5 ?_
          | refine e_emits _ h5 s i5 o t pd bw _ e _ _ hc5 act k0 ha ((z3.tr (hc3.u8 false).2 |>.tr z4 |>.tr (hc4.u8 false).2 |>.tr z5).f5.trans hi5) hk (by omega) ?_
        refine mT_ret rfl rfl ?_
        have t9 := tk.one (s := s) (k0 := k0) ha (by omega) (x := .inl (w, c, (pNum g (p + 1 + 1)).2.2)) rfl
        exact K _ i5 _ (by show rZ _ _ _ _ _ _ _ _ _ (pNum g (p + 1 + 1)).2.1 (!(pNum g (p + 1 + 1)).1); rw [hok5]; exact (z3.tr (hc3.u8 false).2 |>.tr z4 |>.tr (hc4.u8 false).2 |>.tr z5).tr ⟨fun a x y => m_up_n y, hM5, rfl, hc5.2.2.2.1, h85, fun j x y => rfl⟩) t9.1 (fun _ => t9)
    · iterate 3 refine mT_s rfl rfl ?_
      (apply mT_getf; (case hc => rfl); (case ha => first | rfl | assumption); (case hf => first | rfl | assumption))
      refine mT_if_ne rfl (fun c => absurd rfl c) (fun _ => ?_)
      iterate 5 refine mT_s rfl rfl ?_
      (apply mT_putfN; (case hc => rfl); (case ha => first | rfl | assumption); (case hN => assumption); (case hg => rfl))
      refine mT_s rfl rfl ?_
      (apply mT_inv; (case hc => rfl); (case hd => rfl); (case hb => first | rfl | assumption); (case hg => rfl))
      have hp9 : pTest (sg s e) p = (false, p + 1, []) := by unfold pTest; rw [hw]; show (match pCm (sg s e (p + 1)) with | none => _ | some c => _) = _; rw [hw2]
      rw [hg] at hp9
      rw [hp9] at K
      refine e_figures_w _ _ s _ o t pd bw _ e _ ((hc3.u8 false).1.u8 true).1 (fun h5 i5 z5 => ?_)
      have hc5 := z5.c ((hc3.u8 false).1.u8 true).1 hp1
      obtain ⟨hM5, h775, hN5, -, -, -, -, -⟩ := id hc5
      iterate 11 refine mT_s rfl rfl ?_
      (apply mT_inv; (case hc => rfl); (case hd => rfl); (case hb => first | rfl | assumption); (case hg => rfl))
      refine e_emits_w _ _ _ _ _ _ _ _ _ _ _ _ hc5 ?_
      refine mT_ret rfl rfl ?_
      exact K _ _ _ (z3.tr (hc3.u8 false).2 |>.tr ((hc3.u8 false).1.u8 true).2 |>.tr z5) tw.rfl' (fun z => absurd (show false = true from z) (by decide))
  · iterate 7 refine mT_s rfl rfl ?_
    (apply mT_putfN; (case hc => rfl); (case ha => first | rfl | assumption); (case hN => assumption); (case hg => rfl))
    refine mT_s rfl rfl ?_
    (apply mT_getf; (case hc => rfl); (case ha => first | rfl | assumption); (case hf => first | rfl | assumption))
    refine mT_if_eq rfl (fun c => absurd c (by decide)) (fun _ => ?_)
    iterate 5 refine mT_s rfl rfl ?_
    (apply mT_getf; (case hc => rfl); (case ha => first | rfl | assumption); (case hf => first | rfl | assumption))
    refine mT_if_ne rfl (fun _ => ?_) (fun c => absurd c (by decide))
    iterate 2 refine mT_s rfl rfl ?_
    (apply mT_putfN; (case hc => rfl); (case ha => first | rfl | assumption); (case hN => assumption); (case hg => rfl))
    refine mT_s rfl rfl ?_
    (apply mT_inv; (case hc => rfl); (case hd => rfl); (case hb => first | rfl | assumption); (case hg => rfl))
    have hp9 : pTest (sg s e) p = (false, p, []) := by unfold pTest; rw [hw]
    rw [hg] at hp9
    rw [hp9] at K
    have K9 := K
    refine e_figures_w _ _ s _ o t pd bw _ e p ((hc.u8 true).1.u8 true).1 (fun h4 i4 z4 => ?_)
    have hc4 := z4.c ((hc.u8 true).1.u8 true).1 hpe
    obtain ⟨hM4, h774, hN4, -, -, -, -, -⟩ := id hc4
    iterate 11 refine mT_s rfl rfl ?_
    (apply mT_inv; (case hc => rfl); (case hd => rfl); (case hb => first | rfl | assumption); (case hg => rfl))
    refine e_emits_w _ _ _ _ _ _ _ _ _ _ _ _ hc4 ?_
    refine mT_ret rfl rfl ?_
    exact K9 _ _ _ ((hc.u8 true).2.tr ((hc.u8 true).1.u8 true |>.2) |>.tr z4) tw.rfl' (fun z => absurd (show false = true from z) (by decide))
theorem pF_test {g : Nat → Int32} {lf p : Nat} (h1 : ¬ g p = 33) (h2 : ¬ g p = 40) : pF g lf p = pTest g p := by
  cases lf with
  | zero => unfold pF; rw [if_neg (fun z => z.elim h1 h2)]
  | succ lf => unfold pF; rw [if_neg h1, if_neg h2]
/-- open one more -/
theorem rC.u9 {h : mH} {i s : Nat → Int32} {o t : Nat} {pd bw : Int64} {e p : Nat} {w : Bool} (hc : rC h i s o t pd bw e p w) (x : Int32) : rC (m_up h 76 (.inr (10, mObj (upd i 9 x) o t pd bw))) (upd i 9 x) s o t pd bw e p w := by
  obtain ⟨hM, h77, hN, ix1, h7, h8, he, hpe⟩ := hc
  exact ⟨rfl, h77, hN, by rw [upd_n _ _ (by decide)]; exact ix1, by rw [upd_n _ _ (by decide)]; exact h7, by rw [upd_n _ _ (by decide)]; exact h8, he, hpe⟩
/-- what is read between is read with one more open -/
theorem rZ.u9 {h h2 : mH} {i i2 s2 : Nat → Int32} {o t : Nat} {pd bw : Int64} {p : Nat} {w : Bool} {i1 : Nat → Int32} {h1 : mH} (hi : ∀ j, j ≠ 6 → j ≠ 8 → j ≠ 9 → i1 j = i j) (hh : ∀ a, a ≠ 76 → a ≠ 77 → h1 a = h a) (z : rZ h1 i1 o t pd bw h2 i2 s2 p w) {x : Int32} (hx : x = i 9) : rZ h i o t pd bw (m_up h2 76 (.inr (10, mObj (upd i2 9 x) o t pd bw))) (upd i2 9 x) s2 p w :=
  ⟨fun a x y => (m_up_n x).trans ((z.1 a x y).trans (hh a x y)), rfl, z.2.2.1, by rw [upd_n _ _ (by decide)]; exact z.2.2.2.1, by rw [upd_n _ _ (by decide)]; exact z.2.2.2.2.1, fun j x1 y1 => by
    by_cases e : j = 9
    · subst e; rw [upd_s, hx]
    · rw [upd_n _ _ e]; exact (z.2.2.2.2.2 j x1 y1).trans (hi j x1 y1 e)⟩
set_option maxHeartbeats 4000000 in
theorem e_factor (act e : Nat) (ha : act < 5) (g : Nat → Int32) (hgk : gOk g e) (L : Nat) (xs : Nat → Int32) (o t : Nat) (pd bw : Int64) : ∀ lf, lf ≤ 5 → ∀ d, fSp z_X10_factor (d + 3 * lf + 6) act e (5 - lf) g L xs o t pd bw (pF g lf) := by
  intro lf
  induction lf with
  | zero =>
    intro _ d h s i p k0 Q hc hst hi5 hi9 hk hk0 hg K
    obtain ⟨hM, h77, hN, ix1, h7, h8, he, hpe⟩ := id hc
    refine mT_s rfl rfl ?_
    (apply mT_getf; (case hc => rfl); (case ha => first | rfl | assumption); (case hf => first | rfl | assumption))
    refine mT_if_eq rfl (fun _ => ?_) (fun c => absurd h8 c)
    refine mT_s rfl rfl ?_
    (apply mT_inv; (case hc => rfl); (case hd => rfl); (case hb => first | rfl | assumption); (case hg => rfl))
    refine e_here _ _ s _ o t pd bw _ e _ _ hc ?_
    rw [hg]
    iterate 3 refine mT_s rfl rfl ?_
    refine mT_icmp_eq rfl (fun c16 => ?_) (fun c16 => ?_)
    · have hp9 : pF g 0 p = (false, p, []) := by unfold pF; rw [if_pos (by first | exact Or.inl c16 | exact Or.inr c22)]
      rw [hp9] at K
      have hcI : rC (m_up h 76 (.inr (10, mObj (upd (upd (upd i 8 1) 9 (i 9 + 1)) 6 (i 6 + 0)) o t pd bw))) (upd (upd (upd i 8 1) 9 (i 9 + 1)) 6 (i 6 + 0)) s o t pd bw e p true := ⟨rfl, h77, hN, by rw [upd_s, ix1]; exact nI_add p 0, by rw [upd_n _ _ (by decide), upd_n _ _ (by decide), upd_n _ _ (by decide)]; exact h7, by rw [upd_n _ _ (by decide), upd_n _ _ (by decide)]; exact upd_s _ _ _, he, hpe⟩
      have hiI : ∀ j, j ≠ 6 → j ≠ 8 → j ≠ 9 → (upd (upd (upd i 8 1) 9 (i 9 + 1)) 6 (i 6 + 0)) j = i j := fun j x y z => by rw [upd_n _ _ x, upd_n _ _ z, upd_n _ _ y]
      iterate 2 refine mT_s rfl rfl ?_
      (apply mT_getf; (case hc => rfl); (case ha => first | rfl | assumption); (case hf => first | rfl | assumption))
      refine mT_s rfl rfl ?_
      rw [hi9]
      refine mT_icmp_ne rfl (fun c => absurd rfl c) (fun _ => ?_)
      iterate 2 refine mT_s rfl rfl ?_
      (apply mT_putfN; (case hc => rfl); (case ha => first | rfl | assumption); (case hN => assumption); (case hg => rfl))
      iterate 2 refine mT_s rfl rfl ?_
      (apply mT_getf; (case hc => rfl); (case ha => first | rfl | assumption); (case hf => first | rfl | assumption))
      iterate 2 refine mT_s rfl rfl ?_
      (apply mT_putfN; (case hc => rfl); (case ha => first | rfl | assumption); (case hN => assumption); (case hg => rfl))
      iterate 2 refine mT_s rfl rfl ?_
      (apply mT_getf; (case hc => rfl); (case ha => first | rfl | assumption); (case hf => first | rfl | assumption))
      refine mT_s rfl rfl ?_
      (apply mT_getf; (case hc => rfl); (case ha => first | rfl | assumption); (case hf => first | rfl | assumption))
      refine mT_if_eq rfl (fun c => absurd c (by decide)) (fun _ => ?_)
      iterate 3 refine mT_s rfl rfl ?_
      (apply mT_putfN; (case hc => rfl); (case ha => first | rfl | assumption); (case hN => assumption); (case hg => rfl))
      iterate 2 refine mT_s rfl rfl ?_
      refine mT_icmp_ne rfl (fun c76 => ?_) (fun c76 => ?_)
      · refine mT_s rfl rfl ?_
        (apply mT_inv; (case hc => rfl); (case hd => rfl); (case hb => first | rfl | assumption); (case hg => rfl))
        simp only [m_up_up]
        refine e_some_w _ e o t pd bw (e_every_w _ e o t pd bw (e_factor_w _ e o t pd bw)) _ s _ _ _ hcI ?_
        iterate 2 refine mT_s rfl rfl ?_
        (apply mT_inv; (case hc => rfl); (case hd => rfl); (case hb => first | rfl | assumption); (case hg => rfl))
        refine e_must_w _ _ s _ o t pd bw _ e _ _ hcI (fun h5 i5 z5 => ?_)
        obtain ⟨hM5, h775, hN5, -, -, -, -, -⟩ := id (z5.c hcI hpe)
        iterate 2 refine mT_s rfl rfl ?_
        (apply mT_getf; (case hc => rfl); (case ha => first | rfl | assumption); (case hf => first | rfl | assumption))
        iterate 2 refine mT_s rfl rfl ?_
        (apply mT_putfN; (case hc => rfl); (case ha => first | rfl | assumption); (case hN => assumption); (case hg => rfl))
        refine mT_ret rfl rfl ?_
        exact K _ _ _ (rZ.u9 hiI (fun a x y => m_up_n x) z5 (by rw [z5.f9, show (upd (upd (upd i 8 1) 9 (i 9 + 1)) 6 (i 6 + 0)) 9 = i 9 + 1 by rw [upd_n _ _ (by decide), upd_s], hi9, nI_1]; exact nI_pred _)) tw.rfl' (fun z => absurd (show false = true from z) (by decide))
      · refine mT_s rfl rfl ?_
        (apply mT_inv; (case hc => rfl); (case hd => rfl); (case hb => first | rfl | assumption); (case hg => rfl))
        simp only [m_up_up]
        refine e_factor_w _ e o t pd bw _ s _ _ _ hcI ?_
        iterate 2 refine mT_s rfl rfl ?_
        (apply mT_inv; (case hc => rfl); (case hd => rfl); (case hb => first | rfl | assumption); (case hg => rfl))
        refine e_emits_w _ _ _ _ _ _ _ _ _ _ _ _ hcI ?_
        iterate 3 refine mT_s rfl rfl ?_
        (apply mT_getf; (case hc => rfl); (case ha => first | rfl | assumption); (case hf => first | rfl | assumption))
        iterate 2 refine mT_s rfl rfl ?_
        (apply mT_putfN; (case hc => rfl); (case ha => first | rfl | assumption); (case hN => assumption); (case hg => rfl))
        refine mT_ret rfl rfl ?_
        exact K _ _ _ (rZ.u9 hiI (fun a x y => m_up_n x) hcI.z (by rw [hi9, nI_1]; exact nI_pred _)) tw.rfl' (fun z => absurd (show false = true from z) (by decide))
    · iterate 2 refine mT_s rfl rfl ?_
      refine mT_icmp_ne rfl (fun c22 => ?_) (fun c22 => ?_)
      · refine mT0_d (e := d + 3 * 0 + 6) rfl ?_
        exact e_test (d + 3 * 0) act e 0 ha g L xs o t pd bw _ _ _ _ h s i p k0 Q hc hst hi5 hk hk0 hg (by rw [pF_test c16 c22] at K; exact K)
      · have hp9 : pF g 0 p = (false, p, []) := by unfold pF; rw [if_pos (by first | exact Or.inl c16 | exact Or.inr c22)]
        rw [hp9] at K
        have hcI : rC (m_up h 76 (.inr (10, mObj (upd (upd (upd i 8 1) 9 (i 9 + 1)) 6 (i 6 + 0)) o t pd bw))) (upd (upd (upd i 8 1) 9 (i 9 + 1)) 6 (i 6 + 0)) s o t pd bw e p true := ⟨rfl, h77, hN, by rw [upd_s, ix1]; exact nI_add p 0, by rw [upd_n _ _ (by decide), upd_n _ _ (by decide), upd_n _ _ (by decide)]; exact h7, by rw [upd_n _ _ (by decide), upd_n _ _ (by decide)]; exact upd_s _ _ _, he, hpe⟩
        have hiI : ∀ j, j ≠ 6 → j ≠ 8 → j ≠ 9 → (upd (upd (upd i 8 1) 9 (i 9 + 1)) 6 (i 6 + 0)) j = i j := fun j x y z => by rw [upd_n _ _ x, upd_n _ _ z, upd_n _ _ y]
        iterate 2 refine mT_s rfl rfl ?_
        (apply mT_getf; (case hc => rfl); (case ha => first | rfl | assumption); (case hf => first | rfl | assumption))
        refine mT_s rfl rfl ?_
        rw [hi9]
        refine mT_icmp_ne rfl (fun c => absurd rfl c) (fun _ => ?_)
        iterate 2 refine mT_s rfl rfl ?_
        (apply mT_putfN; (case hc => rfl); (case ha => first | rfl | assumption); (case hN => assumption); (case hg => rfl))
        iterate 2 refine mT_s rfl rfl ?_
        (apply mT_getf; (case hc => rfl); (case ha => first | rfl | assumption); (case hf => first | rfl | assumption))
        iterate 2 refine mT_s rfl rfl ?_
        (apply mT_putfN; (case hc => rfl); (case ha => first | rfl | assumption); (case hN => assumption); (case hg => rfl))
        iterate 2 refine mT_s rfl rfl ?_
        (apply mT_getf; (case hc => rfl); (case ha => first | rfl | assumption); (case hf => first | rfl | assumption))
        refine mT_s rfl rfl ?_
        (apply mT_getf; (case hc => rfl); (case ha => first | rfl | assumption); (case hf => first | rfl | assumption))
        refine mT_if_eq rfl (fun c => absurd c (by decide)) (fun _ => ?_)
        iterate 3 refine mT_s rfl rfl ?_
        (apply mT_putfN; (case hc => rfl); (case ha => first | rfl | assumption); (case hN => assumption); (case hg => rfl))
        iterate 2 refine mT_s rfl rfl ?_
        refine mT_icmp_ne rfl (fun c76 => ?_) (fun c76 => ?_)
        · refine mT_s rfl rfl ?_
          (apply mT_inv; (case hc => rfl); (case hd => rfl); (case hb => first | rfl | assumption); (case hg => rfl))
          simp only [m_up_up]
          refine e_some_w _ e o t pd bw (e_every_w _ e o t pd bw (e_factor_w _ e o t pd bw)) _ s _ _ _ hcI ?_
          iterate 2 refine mT_s rfl rfl ?_
          (apply mT_inv; (case hc => rfl); (case hd => rfl); (case hb => first | rfl | assumption); (case hg => rfl))
          refine e_must_w _ _ s _ o t pd bw _ e _ _ hcI (fun h5 i5 z5 => ?_)
          obtain ⟨hM5, h775, hN5, -, -, -, -, -⟩ := id (z5.c hcI hpe)
          iterate 2 refine mT_s rfl rfl ?_
          (apply mT_getf; (case hc => rfl); (case ha => first | rfl | assumption); (case hf => first | rfl | assumption))
          iterate 2 refine mT_s rfl rfl ?_
          (apply mT_putfN; (case hc => rfl); (case ha => first | rfl | assumption); (case hN => assumption); (case hg => rfl))
          refine mT_ret rfl rfl ?_
          exact K _ _ _ (rZ.u9 hiI (fun a x y => m_up_n x) z5 (by rw [z5.f9, show (upd (upd (upd i 8 1) 9 (i 9 + 1)) 6 (i 6 + 0)) 9 = i 9 + 1 by rw [upd_n _ _ (by decide), upd_s], hi9, nI_1]; exact nI_pred _)) tw.rfl' (fun z => absurd (show false = true from z) (by decide))
        · refine mT_s rfl rfl ?_
          (apply mT_inv; (case hc => rfl); (case hd => rfl); (case hb => first | rfl | assumption); (case hg => rfl))
          simp only [m_up_up]
          refine e_factor_w _ e o t pd bw _ s _ _ _ hcI ?_
          iterate 2 refine mT_s rfl rfl ?_
          (apply mT_inv; (case hc => rfl); (case hd => rfl); (case hb => first | rfl | assumption); (case hg => rfl))
          refine e_emits_w _ _ _ _ _ _ _ _ _ _ _ _ hcI ?_
          iterate 3 refine mT_s rfl rfl ?_
          (apply mT_getf; (case hc => rfl); (case ha => first | rfl | assumption); (case hf => first | rfl | assumption))
          iterate 2 refine mT_s rfl rfl ?_
          (apply mT_putfN; (case hc => rfl); (case ha => first | rfl | assumption); (case hN => assumption); (case hg => rfl))
          refine mT_ret rfl rfl ?_
          exact K _ _ _ (rZ.u9 hiI (fun a x y => m_up_n x) hcI.z (by rw [hi9, nI_1]; exact nI_pred _)) tw.rfl' (fun z => absurd (show false = true from z) (by decide))
  | succ lf ih =>
    intro hlf d h s i p k0 Q hc hst hi5 hi9 hk hk0 hg K
    obtain ⟨hM, h77, hN, ix1, h7, h8, he, hpe⟩ := id hc
    refine mT_s rfl rfl ?_
    (apply mT_getf; (case hc => rfl); (case ha => first | rfl | assumption); (case hf => first | rfl | assumption))
    refine mT_if_eq rfl (fun _ => ?_) (fun c => absurd h8 c)
    refine mT_s rfl rfl ?_
    (apply mT_inv; (case hc => rfl); (case hd => rfl); (case hb => first | rfl | assumption); (case hg => rfl))
    refine e_here _ _ s _ o t pd bw _ e _ _ hc ?_
    rw [hg]
    iterate 3 refine mT_s rfl rfl ?_
    refine mT_icmp_eq rfl (fun c16 => ?_) (fun c16 => ?_)
    · have hp9 : pF g (lf + 1) p = ((pF g lf (p + 1)).1, (pF g lf (p + 1)).2.1, (pF g lf (p + 1)).2.2 ++ [.inr (.inl 0)]) := by rw [pF, if_pos c16]
      rw [hp9] at K
      have hpe1 : p + 1 ≤ e := hgk.lt c16 (by decide)
      have hcI : rC (m_up h 76 (.inr (10, mObj (upd (upd (upd i 8 0) 9 (i 9 + 1)) 6 (i 6 + 1)) o t pd bw))) (upd (upd (upd i 8 0) 9 (i 9 + 1)) 6 (i 6 + 1)) s o t pd bw e (p + 1) false := ⟨rfl, h77, hN, by rw [upd_s, ix1]; exact nI_add p 1, by rw [upd_n _ _ (by decide), upd_n _ _ (by decide), upd_n _ _ (by decide)]; exact h7, by rw [upd_n _ _ (by decide), upd_n _ _ (by decide)]; exact upd_s _ _ _, he, hpe1⟩
      have hiI : ∀ j, j ≠ 6 → j ≠ 8 → j ≠ 9 → (upd (upd (upd i 8 0) 9 (i 9 + 1)) 6 (i 6 + 1)) j = i j := fun j x y z => by rw [upd_n _ _ x, upd_n _ _ z, upd_n _ _ y]
      have hstI : hS L xs (m_up h 76 (.inr (10, mObj (upd (upd (upd i 8 0) 9 (i 9 + 1)) 6 (i 6 + 1)) o t pd bw))) := fun a h1 h2 => (m_up_n (by omega)).trans (hst a h1 h2)
      have hi5I : (upd (upd (upd i 8 0) 9 (i 9 + 1)) 6 (i 6 + 1)) 5 = nI act := (hiI 5 (by decide) (by decide) (by decide)).trans hi5
      have hi9I : (upd (upd (upd i 8 0) 9 (i 9 + 1)) 6 (i 6 + 1)) 9 = nI (5 - lf) := by
        rw [upd_n _ _ (by decide), upd_s, hi9, nI_1]
        exact congrArg nI (by omega)
      iterate 2 refine mT_s rfl rfl ?_
      (apply mT_getf; (case hc => rfl); (case ha => first | rfl | assumption); (case hf => first | rfl | assumption))
      refine mT_s rfl rfl ?_
      rw [hi9]
      refine mT_icmp_ne rfl (fun _ => ?_) (fun c => absurd ((nI_eq (b := 5) (by omega) (by omega)).mp c) (by omega))
      refine mT_s rfl rfl ?_
      (apply mT_putfN; (case hc => rfl); (case ha => first | rfl | assumption); (case hN => assumption); (case hg => rfl))
      iterate 2 refine mT_s rfl rfl ?_
      (apply mT_getf; (case hc => rfl); (case ha => first | rfl | assumption); (case hf => first | rfl | assumption))
      iterate 2 refine mT_s rfl rfl ?_
      (apply mT_putfN; (case hc => rfl); (case ha => first | rfl | assumption); (case hN => assumption); (case hg => rfl))
      iterate 2 refine mT_s rfl rfl ?_
      (apply mT_getf; (case hc => rfl); (case ha => first | rfl | assumption); (case hf => first | rfl | assumption))
      refine mT_s rfl rfl ?_
      (apply mT_getf; (case hc => rfl); (case ha => first | rfl | assumption); (case hf => first | rfl | assumption))
      refine mT_if_eq rfl (fun _ => ?_) (fun c => absurd rfl c)
      iterate 2 refine mT_s rfl rfl ?_
      (apply mT_putfN; (case hc => rfl); (case ha => first | rfl | assumption); (case hN => assumption); (case hg => rfl))
      iterate 2 refine mT_s rfl rfl ?_
      refine mT_icmp_ne rfl (fun c => absurd c16 c) (fun _ => ?_)
      refine mT_s rfl rfl ?_
      (apply mT_inv; (case hc => rfl); (case hd => rfl); (case hb => first | rfl | assumption); (case hg => rfl))
      simp only [m_up_up]
      refine mT0_d (e := d + 2 + 3 * lf + 6) (by omega) ?_
      refine ih (by omega) (d + 2) (m_up h 76 _) s _ (p + 1) k0 _ hcI hstI hi5I hi9I hk (by omega) hg (fun h3 i3 s3 z3 tw3 tk3 => ?_)
      have hq := pF_ok hgk lf (p + 1)
      have hc3 := z3.c hcI (hq.2.1 hpe1)
      obtain ⟨hM3, h773, hN3, -, -, h83, -, -⟩ := id hc3
      have hq3 := hq.2.2
      have hke : (pF g lf (p + 1)).2.1 ≤ 100 := Nat.le_trans (hq.2.1 hpe1) he
      rcases hok3 : (pF g lf (p + 1)).1 with _ | _
      · rw [hok3] at hc3 z3 h83
        iterate 2 refine mT_s rfl rfl ?_
        (apply mT_inv; (case hc => rfl); (case hd => rfl); (case hb => first | rfl | assumption); (case hg => rfl))
        first
          | refine e_emits_w _ _ _ _ _ _ _ _ _ _ _ _ hc3 ?_
          | refine e_emits _ h3 s3 i3 o t pd bw _ e _ _ hc3 act (k0 + (pF g lf (p + 1)).2.2.length) ha (z3.f5.trans hi5I) htk3.2.2.1 (by omega) ?_
        iterate 3 refine mT_s rfl rfl ?_
        (apply mT_getf; (case hc => rfl); (case ha => first | rfl | assumption); (case hf => first | rfl | assumption))
        iterate 2 refine mT_s rfl rfl ?_
        (apply mT_putfN; (case hc => rfl); (case ha => first | rfl | assumption); (case hN => assumption); (case hg => rfl))
        refine mT_ret rfl rfl ?_
        exact K _ _ _ (by show rZ _ _ _ _ _ _ _ _ _ (pF g lf (p + 1)).2.1 (!(pF g lf (p + 1)).1); rw [hok3]; exact rZ.u9 hiI (fun a x y => m_up_n x) z3 (by rw [z3.f9, show (upd (upd (upd i 8 0) 9 (i 9 + 1)) 6 (i 6 + 1)) 9 = i 9 + 1 by rw [upd_n _ _ (by decide), upd_s], hi9, nI_1]; exact nI_pred _)) tw3 (fun z => absurd (hok3.symm.trans z) (by decide))
      · rw [hok3] at hc3 z3 h83
        have hq3 := hq3 hok3
        have htk3 := tk3 hok3
        iterate 2 refine mT_s rfl rfl ?_
        (apply mT_inv; (case hc => rfl); (case hd => rfl); (case hb => first | rfl | assumption); (case hg => rfl))
        first
          | refine e_emits_w _ _ _ _ _ _ _ _ _ _ _ _ hc3 ?_
          | refine e_emits _ h3 s3 i3 o t pd bw _ e _ _ hc3 act (k0 + (pF g lf (p + 1)).2.2.length) ha (z3.f5.trans hi5I) htk3.2.2.1 (by omega) ?_
        iterate 3 refine mT_s rfl rfl ?_
        (apply mT_getf; (case hc => rfl); (case ha => first | rfl | assumption); (case hf => first | rfl | assumption))
        iterate 2 refine mT_s rfl rfl ?_
        (apply mT_putfN; (case hc => rfl); (case ha => first | rfl | assumption); (case hN => assumption); (case hg => rfl))
        refine mT_ret rfl rfl ?_
        have z5 : rZ h3 i3 o t pd bw (m_up h3 77 (.inl (0, 889, .inl (upd (upd s3 (189 + 140 * act + (k0 + (pF g lf (p + 1)).2.2.length)) (-1)) (184 + act) (nI (k0 + (pF g lf (p + 1)).2.2.length + 1)))))) i3 (upd (upd s3 (189 + 140 * act + (k0 + (pF g lf (p + 1)).2.2.length)) (-1)) (184 + act) (nI (k0 + (pF g lf (p + 1)).2.2.length + 1))) (pF g lf (p + 1)).2.1 false := ⟨fun a x y => m_up_n y, hM3, rfl, hc3.2.2.2.1, h83, fun j x y => rfl⟩
        have t5 := tk.one (s := s3) (k0 := k0 + (pF g lf (p + 1)).2.2.length) ha (by omega) (v := (-1)) (x := .inr (.inl 0)) rfl
        exact K _ _ _ (by show rZ _ _ _ _ _ _ _ _ _ (pF g lf (p + 1)).2.1 (!(pF g lf (p + 1)).1); rw [hok3]; exact rZ.u9 hiI (fun a x y => m_up_n x) (z3.tr z5) (by rw [z3.f9, show (upd (upd (upd i 8 0) 9 (i 9 + 1)) 6 (i 6 + 1)) 9 = i 9 + 1 by rw [upd_n _ _ (by decide), upd_s], hi9, nI_1]; exact nI_pred _)) (tw3.tr t5.1) (fun _ => htk3.tr t5)
    · iterate 2 refine mT_s rfl rfl ?_
      refine mT_icmp_ne rfl (fun c22 => ?_) (fun c22 => ?_)
      · refine mT0_d (e := d + 3 * (lf + 1) + 6) rfl ?_
        exact e_test (d + 3 * (lf + 1)) act e 0 ha g L xs o t pd bw _ _ _ _ h s i p k0 Q hc hst hi5 hk hk0 hg (by rw [pF_test c16 c22] at K; exact K)
      · have hpe1 : p + 1 ≤ e := hgk.lt c22 (by decide)
        have hcI : rC (m_up h 76 (.inr (10, mObj (upd (upd (upd i 8 0) 9 (i 9 + 1)) 6 (i 6 + 1)) o t pd bw))) (upd (upd (upd i 8 0) 9 (i 9 + 1)) 6 (i 6 + 1)) s o t pd bw e (p + 1) false := ⟨rfl, h77, hN, by rw [upd_s, ix1]; exact nI_add p 1, by rw [upd_n _ _ (by decide), upd_n _ _ (by decide), upd_n _ _ (by decide)]; exact h7, by rw [upd_n _ _ (by decide), upd_n _ _ (by decide)]; exact upd_s _ _ _, he, hpe1⟩
        have hiI : ∀ j, j ≠ 6 → j ≠ 8 → j ≠ 9 → (upd (upd (upd i 8 0) 9 (i 9 + 1)) 6 (i 6 + 1)) j = i j := fun j x y z => by rw [upd_n _ _ x, upd_n _ _ z, upd_n _ _ y]
        have hstI : hS L xs (m_up h 76 (.inr (10, mObj (upd (upd (upd i 8 0) 9 (i 9 + 1)) 6 (i 6 + 1)) o t pd bw))) := fun a h1 h2 => (m_up_n (by omega)).trans (hst a h1 h2)
        have hi5I : (upd (upd (upd i 8 0) 9 (i 9 + 1)) 6 (i 6 + 1)) 5 = nI act := (hiI 5 (by decide) (by decide) (by decide)).trans hi5
        have hi9I : (upd (upd (upd i 8 0) 9 (i 9 + 1)) 6 (i 6 + 1)) 9 = nI (5 - lf) := by
          rw [upd_n _ _ (by decide), upd_s, hi9, nI_1]
          exact congrArg nI (by omega)
        iterate 2 refine mT_s rfl rfl ?_
        (apply mT_getf; (case hc => rfl); (case ha => first | rfl | assumption); (case hf => first | rfl | assumption))
        refine mT_s rfl rfl ?_
        rw [hi9]
        refine mT_icmp_ne rfl (fun _ => ?_) (fun c => absurd ((nI_eq (b := 5) (by omega) (by omega)).mp c) (by omega))
        refine mT_s rfl rfl ?_
        (apply mT_putfN; (case hc => rfl); (case ha => first | rfl | assumption); (case hN => assumption); (case hg => rfl))
        iterate 2 refine mT_s rfl rfl ?_
        (apply mT_getf; (case hc => rfl); (case ha => first | rfl | assumption); (case hf => first | rfl | assumption))
        iterate 2 refine mT_s rfl rfl ?_
        (apply mT_putfN; (case hc => rfl); (case ha => first | rfl | assumption); (case hN => assumption); (case hg => rfl))
        iterate 2 refine mT_s rfl rfl ?_
        (apply mT_getf; (case hc => rfl); (case ha => first | rfl | assumption); (case hf => first | rfl | assumption))
        refine mT_s rfl rfl ?_
        (apply mT_getf; (case hc => rfl); (case ha => first | rfl | assumption); (case hf => first | rfl | assumption))
        refine mT_if_eq rfl (fun _ => ?_) (fun c => absurd rfl c)
        iterate 2 refine mT_s rfl rfl ?_
        (apply mT_putfN; (case hc => rfl); (case ha => first | rfl | assumption); (case hN => assumption); (case hg => rfl))
        iterate 2 refine mT_s rfl rfl ?_
        refine mT_icmp_ne rfl (fun _ => ?_) (fun c => absurd c c16)
        refine mT_s rfl rfl ?_
        (apply mT_inv; (case hc => rfl); (case hd => rfl); (case hb => first | rfl | assumption); (case hg => rfl))
        simp only [m_up_up]
        refine mT0_d (e := d + 3 * lf + 6 + 2) (by omega) ?_
        have hso := e_some (d + 3 * lf + 6) act e (5 - lf) ha g L xs o t pd bw (pEv (pF g lf) g) (pEv_ok hgk (pF_ok hgk lf)) (e_every (d + 3 * lf + 5) act e (5 - lf) ha g L xs o t pd bw (pF g lf) (pF_ok hgk lf) (ih (by omega) d))
        refine hso (m_up h 76 _) s _ (p + 1) k0 _ hcI hstI hi5I hi9I hk (by omega) hg (fun h3 i3 s3 z3 tw3 tk3 => ?_)
        have hq : pOk e (p + 1) (pSo (pF g lf) g (p + 1)) := pSo_ok hgk (pF_ok hgk lf) (p + 1)
        change rZ _ _ _ _ _ _ h3 i3 s3 (pSo (pF g lf) g (p + 1)).2.1 (!(pSo (pF g lf) g (p + 1)).1) at z3
        change (pSo (pF g lf) g (p + 1)).1 = true → tk act k0 s s3 (pSo (pF g lf) g (p + 1)).2.2 at tk3
        have hc3 := z3.c hcI (hq.2.1 hpe1)
        obtain ⟨hM3, h773, hN3, -, -, h83, -, -⟩ := id hc3
        rcases hok3 : (pSo (pF g lf) g (p + 1)).1 with _ | _
        · rw [hok3] at hc3 z3 h83
          iterate 2 refine mT_s rfl rfl ?_
          (apply mT_inv; (case hc => rfl); (case hd => rfl); (case hb => first | rfl | assumption); (case hg => rfl))
          refine e_must_w _ _ s3 _ o t pd bw _ e _ _ hc3 (fun h5 i5 z5 => ?_)
          obtain ⟨hM5, h775, hN5, -, -, -, -, -⟩ := id (z5.c hc3 (hq.2.1 hpe1))
          iterate 2 refine mT_s rfl rfl ?_
          (apply mT_getf; (case hc => rfl); (case ha => first | rfl | assumption); (case hf => first | rfl | assumption))
          iterate 2 refine mT_s rfl rfl ?_
          (apply mT_putfN; (case hc => rfl); (case ha => first | rfl | assumption); (case hN => assumption); (case hg => rfl))
          refine mT_ret rfl rfl ?_
          have hp9 : pF g (lf + 1) p = (false, (pSo (pF g lf) g (p + 1)).2.1, (pSo (pF g lf) g (p + 1)).2.2) := by rw [pF, if_neg c16, if_pos c22, if_neg (fun z => absurd (hok3.symm.trans z.1) (by decide))]
          rw [hp9] at K
          exact K _ _ _ (rZ.u9 hiI (fun a x y => m_up_n x) (z3.tr z5) (by rw [(z3.tr z5).f9, show (upd (upd (upd i 8 0) 9 (i 9 + 1)) 6 (i 6 + 1)) 9 = i 9 + 1 by rw [upd_n _ _ (by decide), upd_s], hi9, nI_1]; exact nI_pred _)) tw3 (fun z => absurd (show false = true from z) (by decide))
        · rw [hok3] at hc3 z3 h83
          iterate 2 refine mT_s rfl rfl ?_
          (apply mT_inv; (case hc => rfl); (case hd => rfl); (case hb => first | rfl | assumption); (case hg => rfl))
          refine e_must _ _ s3 _ o t pd bw _ e _ _ hc3 (fun hm5 h5 i5 z5 => ?_) (fun hm5 h5 i5 z5 => ?_)
          · rw [(tw3.sgeq he).trans hg] at hm5
            have hp2 : (pSo (pF g lf) g (p + 1)).2.1 + 1 ≤ e := hgk.lt hm5 (by decide)
            obtain ⟨hM5, h775, hN5, -, -, -, -, -⟩ := id (z5.c hc3 hp2)
            iterate 2 refine mT_s rfl rfl ?_
            (apply mT_getf; (case hc => rfl); (case ha => first | rfl | assumption); (case hf => first | rfl | assumption))
            iterate 2 refine mT_s rfl rfl ?_
            (apply mT_putfN; (case hc => rfl); (case ha => first | rfl | assumption); (case hN => assumption); (case hg => rfl))
            refine mT_ret rfl rfl ?_
            have hp9 : pF g (lf + 1) p = (true, (pSo (pF g lf) g (p + 1)).2.1 + 1, (pSo (pF g lf) g (p + 1)).2.2) := by rw [pF, if_neg c16, if_pos c22, if_pos ⟨hok3, hm5⟩]
            rw [hp9] at K
            exact K _ _ _ (rZ.u9 hiI (fun a x y => m_up_n x) (z3.tr z5) (by rw [(z3.tr z5).f9, show (upd (upd (upd i 8 0) 9 (i 9 + 1)) 6 (i 6 + 1)) 9 = i 9 + 1 by rw [upd_n _ _ (by decide), upd_s], hi9, nI_1]; exact nI_pred _)) tw3 (fun _ => tk3 hok3)
          · rw [(tw3.sgeq he).trans hg] at hm5
            obtain ⟨hM5, h775, hN5, -, -, -, -, -⟩ := id (z5.c hc3 (hq.2.1 hpe1))
            iterate 2 refine mT_s rfl rfl ?_
            (apply mT_getf; (case hc => rfl); (case ha => first | rfl | assumption); (case hf => first | rfl | assumption))
            iterate 2 refine mT_s rfl rfl ?_
            (apply mT_putfN; (case hc => rfl); (case ha => first | rfl | assumption); (case hN => assumption); (case hg => rfl))
            refine mT_ret rfl rfl ?_
            have hp9 : pF g (lf + 1) p = (false, (pSo (pF g lf) g (p + 1)).2.1, (pSo (pF g lf) g (p + 1)).2.2) := by rw [pF, if_neg c16, if_pos c22, if_neg (fun z => hm5 z.2)]
            rw [hp9] at K
            exact K _ _ _ (rZ.u9 hiI (fun a x y => m_up_n x) (z3.tr z5) (by rw [(z3.tr z5).f9, show (upd (upd (upd i 8 0) 9 (i 9 + 1)) 6 (i 6 + 1)) 9 = i 9 + 1 by rw [upd_n _ _ (by decide), upd_s], hi9, nI_1]; exact nI_pred _)) tw3 (fun z => absurd (show false = true from z) (by decide))