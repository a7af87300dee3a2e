/-! By program (wip/whole/book*.py) and hand. -/
theorem pN_0 {g : Nat → Int32} {p : Nat} (h : ¬ isDig (g p)) : pNum g p = (false, p, 0) := if_neg h
theorem pN_1 {g : Nat → Int32} {p : Nat} (h : isDig (g p)) (h2 : ¬ (0 < dv (g p) ∧ isDig (g (p + 1)))) : pNum g p = (true, p + 1, dv (g p)) := by
  unfold pNum
  rw [if_pos h, if_neg h2]
theorem pN_2 {g : Nat → Int32} {p : Nat} (h : isDig (g p)) (h2 : 0 < dv (g p) ∧ isDig (g (p + 1))) : pNum g p = (true, p + 2, 10 * dv (g p) + dv (g (p + 1))) := by
  unfold pNum
  rw [if_pos h, if_pos h2]
theorem e_figures (d : Nat) (h : mH) (s i : Nat → Int32) (o t : Nat) (pd bw : Int64) (Q : Option Value → mH → Prop) (e p : Nat)  (hc : rC h i s o t pd bw e p false) (K : ∀ h2 i2, rZ h i o t pd bw h2 i2 s (pNum (sg s e) p).2.1 (!(pNum (sg s e) p).1) → Q (some (.int (nI (pNum (sg s e) p).2.2))) h2) : mT0 (d + 1) z_X10_figures 0 (m_init z_X10_figures [.ref 76]) [] h Q := by
  obtain ⟨hM, h77, hN, ix1, h7, h8, he, hpe⟩ := id hc

  iterate 2 refine mT_s rfl rfl ?_
  (apply mT_getf; (case hc => rfl); (case ha => first | rfl | assumption); (case hf => first | rfl | assumption))
  refine mT_if_ne rfl (fun c => absurd h8 c) (fun _ => ?_)
  refine mT_s rfl rfl ?_
  (apply mT_inv; (case hc => rfl); (case hd => rfl); (case hb => first | rfl | assumption); (case hg => rfl))
  (first | refine e_here _ _ s _ o t pd bw _ e _ _ hc ?_ | refine e_here _ _ s _ o t pd bw _ e _ _ hc1 ?_ | refine e_here _ _ s _ o t pd bw _ e _ _ hc2 ?_)
  iterate 2 refine mT_s rfl rfl ?_
  refine mT_c rfl rfl ?_
  refine e_in _ _ _ _ _ _ (fun a16 b16 => ?_) (fun a16 => ?_)
  · have hd : isDig (sg s e p) := ⟨a16, b16⟩
    have hd9 := dv_lt hd
    have ev : (10 : Int32) * 0 + sg s e p - 48 = nI (dv (sg s e p)) := by rw [show (10 : Int32) * 0 = 0 from rfl, Int32.zero_add, hd9.2]
    have hc1 : rC (m_up h 76 (.inr (10, mObj (upd i 8 0) o t pd bw))) (upd i 8 0) s o t pd bw e p false := ⟨rfl, h77, hN, by rw [upd_n _ _ (by decide)]; exact ix1, by rw [upd_n _ _ (by decide)]; exact h7, upd_s _ _ _, he, hpe⟩
    have hc2 : rC (m_up h 76 (.inr (10, mObj (upd (upd i 8 0) 6 (i 6 + 1)) o t pd bw))) (upd (upd i 8 0) 6 (i 6 + 1)) s o t pd bw e (p + 1) false := ⟨rfl, h77, hN, by rw [upd_s, ix1, nI_1], by rw [upd_n _ _ (by decide), upd_n _ _ (by decide)]; exact h7, by rw [upd_n _ _ (by decide)]; exact upd_s _ _ _, he, (sg_ok s e).dig hd⟩
    iterate 2 refine mT_s rfl rfl ?_
    (apply mT_putfN; (case hc => rfl); (case ha => first | rfl | assumption); (case hN => assumption); (case hg => rfl))
    iterate 8 refine mT_s rfl rfl ?_
    (apply mT_getf; (case hc => rfl); (case ha => first | rfl | assumption); (case hf => first | rfl | assumption))
    refine mT_if_ne rfl (fun c => absurd rfl c) (fun _ => ?_)
    refine mT_s rfl rfl ?_
    (apply mT_inv; (case hc => rfl); (case hd => rfl); (case hb => first | rfl | assumption); (case hg => rfl))
    (first | refine e_here _ _ s _ o t pd bw _ e _ _ hc ?_ | refine e_here _ _ s _ o t pd bw _ e _ _ hc1 ?_ | refine e_here _ _ s _ o t pd bw _ e _ _ hc2 ?_)
    iterate 2 refine mT_s rfl rfl ?_
    refine mT_c rfl rfl ?_
    refine e_in _ _ _ _ _ _ (fun a54 b54 => ?_) (fun a54 => ?_)
    · iterate 7 refine mT_s rfl rfl ?_
      (apply mT_inv; (case hc => rfl); (case hd => rfl); (case hb => first | rfl | assumption); (case hg => rfl))
      (first | refine e_here _ _ s _ o t pd bw _ e _ _ hc ?_ | refine e_here _ _ s _ o t pd bw _ e _ _ hc1 ?_ | refine e_here _ _ s _ o t pd bw _ e _ _ hc2 ?_)
      iterate 6 refine mT_s rfl rfl ?_
      (apply mT_getf; (case hc => rfl); (case ha => first | rfl | assumption); (case hf => first | rfl | assumption))
      iterate 2 refine mT_s rfl rfl ?_
      (apply mT_putfN; (case hc => rfl); (case ha => first | rfl | assumption); (case hN => assumption); (case hg => rfl))
      iterate 6 refine mT_s rfl rfl ?_
      (apply mT_getf; (case hc => rfl); (case ha => first | rfl | assumption); (case hf => first | rfl | assumption))
      refine mT_if_ne rfl (fun c => absurd rfl c) (fun _ => ?_)
      refine mT_s rfl rfl ?_
      (apply mT_inv; (case hc => rfl); (case hd => rfl); (case hb => first | rfl | assumption); (case hg => rfl))
      (first | refine e_here _ _ s _ o t pd bw _ e _ _ hc ?_ | refine e_here _ _ s _ o t pd bw _ e _ _ hc1 ?_ | refine e_here _ _ s _ o t pd bw _ e _ _ hc2 ?_)
      iterate 2 refine mT_s rfl rfl ?_
      refine mT_c rfl rfl ?_
      refine e_in _ _ _ _ _ _ (fun a54 b54 => ?_) (fun a54 => ?_)
      · iterate 4 refine mT_s rfl rfl ?_
        refine mT_if_le rfl (fun c65 => ?_) (fun c65 => ?_)
        · rw [ev] at c65
          have c65 : ¬ 0 < dv (sg s e p) := fun z => absurd (nI_lt (a := 0) (b := dv (sg s e p)) z (by omega)) (Int32.not_lt.mpr c65)
          refine mT_s rfl rfl ?_
          refine mT_ret rfl rfl ?_
          simp only [m_up_up]
          rw [ev]
          have K := K (m_up h 76 (.inr (10, mObj (upd (upd i 8 0) 6 (i 6 + 1)) o t pd bw))) (upd (upd i 8 0) 6 (i 6 + 1)) (by rw [pN_1 hd (fun z => c65 z.1)]; exact ⟨fun a x y => by simp only [m_up_n x], rfl, h77, by simp only [upd_s, ix1, nI_1], by rw [upd_n _ _ (by decide)]; exact upd_s _ _ _, fun j x y => by simp only [upd_n _ _ x, upd_n _ _ y]⟩)
          rw [pN_1 hd (fun z => c65 z.1)] at K
          exact K
        · rw [ev] at c65
          have c65 : 0 < dv (sg s e p) := by
            rcases Nat.eq_zero_or_pos (dv (sg s e p)) with z | z
            · rw [z] at c65; exact absurd (by decide) c65
            · exact z
          iterate 4 refine mT_s rfl rfl ?_
          (apply mT_inv; (case hc => rfl); (case hd => rfl); (case hb => first | rfl | assumption); (case hg => rfl))
          (first | refine e_here _ _ s _ o t pd bw _ e _ _ hc ?_ | refine e_here _ _ s _ o t pd bw _ e _ _ hc1 ?_ | refine e_here _ _ s _ o t pd bw _ e _ _ hc2 ?_)
          iterate 6 refine mT_s rfl rfl ?_
          (apply mT_getf; (case hc => rfl); (case ha => first | rfl | assumption); (case hf => first | rfl | assumption))
          iterate 2 refine mT_s rfl rfl ?_
          (apply mT_putfN; (case hc => rfl); (case ha => first | rfl | assumption); (case hN => assumption); (case hg => rfl))
          iterate 6 refine mT_s rfl rfl ?_
          refine mT_ret rfl rfl ?_
          simp only [m_up_up]
          have hd2 : isDig (sg s e (p + 1)) := ⟨a54, b54⟩
          have hd92 := dv_lt hd2
          have ev2 : (10 : Int32) * (10 * 0 + sg s e p - 48) + sg s e (p + 1) - 48 = nI (10 * dv (sg s e p) + dv (sg s e (p + 1))) := by
            rw [ev, Int32.sub_eq_add_neg, Int32.add_assoc, ← Int32.sub_eq_add_neg, hd92.2, show (10 : Int32) = nI 10 from rfl, pk_mul, nI_add]
          rw [ev2]
          have K := K (m_up h 76 (.inr (10, mObj (upd (upd i 8 0) 6 (i 6 + 1 + 1)) o t pd bw))) (upd (upd i 8 0) 6 (i 6 + 1 + 1)) (by rw [pN_2 hd ⟨c65, hd2⟩]; exact ⟨fun a x y => by simp only [m_up_n x], rfl, h77, by rw [upd_s, ix1, nI_1, nI_1], by rw [upd_n _ _ (by decide)]; exact upd_s _ _ _, fun j x y => by simp only [upd_n _ _ x, upd_n _ _ y]⟩)
          rw [pN_2 hd ⟨c65, hd2⟩] at K
          exact K
      · iterate 2 refine mT_s rfl rfl ?_
        refine mT_ret rfl rfl ?_
        simp only [m_up_up]
        rw [ev]
        have K := K (m_up h 76 (.inr (10, mObj (upd (upd i 8 0) 6 (i 6 + 1)) o t pd bw))) (upd (upd i 8 0) 6 (i 6 + 1)) (by rw [pN_1 hd (fun z => a54 z.2)]; exact ⟨fun a x y => by simp only [m_up_n x], rfl, h77, by simp only [upd_s, ix1, nI_1], by rw [upd_n _ _ (by decide)]; exact upd_s _ _ _, fun j x y => by simp only [upd_n _ _ x, upd_n _ _ y]⟩)
        rw [pN_1 hd (fun z => a54 z.2)] at K
        exact K
    · iterate 2 refine mT_s rfl rfl ?_
      refine mT_ret rfl rfl ?_
      exact absurd hd a54
  · iterate 3 refine mT_s rfl rfl ?_
    (apply mT_putfN; (case hc => rfl); (case ha => first | rfl | assumption); (case hN => assumption); (case hg => rfl))
    iterate 8 refine mT_s rfl rfl ?_
    (apply mT_getf; (case hc => rfl); (case ha => first | rfl | assumption); (case hf => first | rfl | assumption))
    refine mT_if_ne rfl (fun _ => ?_) (fun c => absurd c (by decide))
    refine mT_s rfl rfl ?_
    refine mT_ret rfl rfl ?_
    have K := K (m_up h 76 (.inr (10, mObj (upd i 8 1) o t pd bw))) (upd i 8 1) (by rw [pN_0 a16]; exact ⟨fun a x y => m_up_n x, rfl, h77, by rw [upd_n _ _ (by decide)]; exact ix1, upd_s _ _ _, fun j x y => upd_n _ _ y⟩)
    rw [pN_0 a16] at K
    exact K

theorem e_figures_w (d : Nat) (h : mH) (s i : Nat → Int32) (o t : Nat) (pd bw : Int64) (Q : Option Value → mH → Prop) (e p : Nat)  (hc : rC h i s o t pd bw e p true) (K : ∀ h2 i2, rZ h i o t pd bw h2 i2 s p true → Q (some (.int 0)) h2) : mT0 (d + 1) z_X10_figures 0 (m_init z_X10_figures [.ref 76]) [] h Q := by
  obtain ⟨hM, h77, hN, ix1, h7, h8, he, hpe⟩ := id hc

  iterate 2 refine mT_s rfl rfl ?_
  (apply mT_getf; (case hc => rfl); (case ha => first | rfl | assumption); (case hf => first | rfl | assumption))
  refine mT_if_ne rfl (fun _ => ?_) (fun c => absurd (h8.symm.trans c) (by decide))
  iterate 2 refine mT_s rfl rfl ?_
  (apply mT_putfN; (case hc => rfl); (case ha => first | rfl | assumption); (case hN => assumption); (case hg => rfl))
  iterate 8 refine mT_s rfl rfl ?_
  (apply mT_getf; (case hc => rfl); (case ha => first | rfl | assumption); (case hf => first | rfl | assumption))
  refine mT_if_ne rfl (fun _ => ?_) (fun c => absurd c (by decide))
  refine mT_s rfl rfl ?_
  refine mT_ret rfl rfl ?_
  exact K _ (upd i 8 1) ⟨fun a x y => m_up_n x, rfl, h77, by rw [upd_n _ _ (by decide)]; exact ix1, upd_s _ _ _, fun j x y => upd_n _ _ y⟩

theorem e_among_L (d : Nat) (h : mH) (s i : Nat → Int32) (o t : Nat) (pd bw : Int64) (Q : Option Value → mH → Prop) (e p : Nat) (t1 b n : Nat) (f : Nat → Int32) (ht : h t1 = .inr (11, [.ref b, .int 0])) (hb : h b = .inl (4, n, .inl f)) (h20 : Nat.ble (b + 1) 20 = true) (t20 : Nat.ble 1 t1 = true) (hn : n < 100) (hf : ∀ j, j < n → ∃ c : Nat, c < 128 ∧ f j = nI c) (hc : rC h i s o t pd bw e p false) (kS : ∀ j, j < n → sg s e p = f j → (∀ m, m < j → ¬ sg s e p = f m) → ∀ h2 i2, rZ h i o t pd bw h2 i2 s (p + 1) false → Q (some (.int (nI j))) h2) (kN : (∀ j, j < n → ¬ sg s e p = f j) → Q (some (.int (-1))) h)  : ∀ (r k : Nat) , k + r = n → (∀ j, j < k → ¬ sg s e p = f j) → mT0 (d + 4) z_X10_among 2 [some (.ref 76), some (.ref t1), some (.int (nI k))] [] h Q := by
  intro r
  induction r with
  | zero =>
    intro k  hk hi
    iterate 2 refine mT_s rfl rfl ?_
    (apply mT_inv; (case hc => rfl); (case hd => rfl); (case hb => first | rfl | assumption); (case hg => rfl))
    obtain ⟨hM, h77, hN, ix1, h7, h8, he, hpe⟩ := id hc
    refine e_length _ h _ t1 b n f ht hb h20 t20 hn ?_
    refine mT_icmp_ge rfl (fun _ => ?_) (fun c => absurd (nI_le (a := n) (b := k) (by omega) (by omega)) c)
    refine mT_s rfl rfl ?_
    refine mT_ret rfl rfl ?_
    exact kN (fun j hj => hi j (by omega))
  | succ r ih =>
    intro k  hk hi
    iterate 2 refine mT_s rfl rfl ?_
    (apply mT_inv; (case hc => rfl); (case hd => rfl); (case hb => first | rfl | assumption); (case hg => rfl))
    obtain ⟨hM, h77, hN, ix1, h7, h8, he, hpe⟩ := id hc
    refine e_length _ h _ t1 b n f ht hb h20 t20 hn ?_
    refine mT_icmp_ge rfl (fun c => absurd c (nI_ge (a := k) (b := n) (by omega) (by omega))) (fun _ => ?_)
    refine mT_s rfl rfl ?_
    (apply mT_inv; (case hc => rfl); (case hd => rfl); (case hb => first | rfl | assumption); (case hg => rfl))
    refine e_here _ _ s _ o t pd bw _ e _ _ hc ?_
    iterate 2 refine mT_s rfl rfl ?_
    (apply mT_inv; (case hc => rfl); (case hd => rfl); (case hb => first | rfl | assumption); (case hg => rfl))
    obtain ⟨c, hc9, hfc⟩ := hf k (by omega)
    refine e_charAt _ h _ t1 b n f ht hb h20 t20 k (by omega) hn c hc9 hfc ?_
    refine mT_icmp_ne rfl (fun c19 => ?_) (fun c19 => ?_)
    · iterate 2 refine mT_s rfl rfl ?_
      rw [nI_1]
      refine ih (k + 1) (by omega) (fun j hj => ?_)
      rcases Nat.lt_or_ge j k with z | z
      · exact hi j z
      · rw [show j = k by omega, hfc]; exact c19
    · iterate 2 refine mT_s rfl rfl ?_
      (apply mT_getf; (case hc => rfl); (case ha => first | rfl | assumption); (case hf => first | rfl | assumption))
      iterate 2 refine mT_s rfl rfl ?_
      (apply mT_putfN; (case hc => rfl); (case ha => first | rfl | assumption); (case hN => assumption); (case hg => rfl))
      refine mT_s rfl rfl ?_
      refine mT_ret rfl rfl ?_
      exact kS k (by omega) (by rw [hfc]; exact c19) hi _ (upd i 6 (i 6 + 1)) ⟨fun a x y => m_up_n x, rfl, h77, by rw [upd_s, ix1, nI_1], by rw [upd_n _ _ (by decide)]; exact h8, fun j x y => upd_n _ _ x⟩