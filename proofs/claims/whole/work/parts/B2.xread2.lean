/-! By program (wip/whole/book*.py) and hand. -/
theorem x_tst (d : Nat) (h : mH) (Q : Option Value → mH → Prop) (p : Nat) (lf mf : Int32) (cd : Nat → Int32) (k0 e : Nat) (R : rRd h p lf mf cd k0 e) (g : Nat → Int32) (T : rTp h g e) (hp : p ≤ e) (hkp : k0 ≤ p) (op x3 : Option Value) (K : ∀ h2 cd2 k2, (∀ a, a ≠ 51 → a ≠ 52 → h2 a = h a) → rRd h2 (pTest g p).2.1 lf mf cd2 k2 e → ((pTest g p).1 = true → cN k0 cd cd2 k2 (pTest g p).2.2) → Q (some (.int (bI (pTest g p).1))) h2) : mT0 (d + 2) z_X6_one 94 [some (.ref 51), op, some (.int (g p)), x3, none, none, none] [] h Q := by
  obtain ⟨hR, hC, hk0⟩ := id R
  obtain ⟨⟨tf, ht, etf⟩, hgk, he, hN⟩ := id T
  refine mT_s rfl rfl ?_
  refine mT_c rfl rfl ?_
  refine x_aboutOf _ h _ _ (fun w hw => ?_) (fun hw => ?_)
  · have hab := pAb_some hw
    have hp1 : p + 1 ≤ e := hgk.lt rfl hab.2
    iterate 2 refine mT_s rfl rfl ?_
    refine mT_if_ge rfl (fun _ => ?_) (fun c => absurd (nI_pos' (by omega)) c)
    iterate 2 refine mT_s rfl rfl ?_
    (apply mT_getf; (case hc => rfl); (case ha => first | rfl | assumption); (case hf => first | rfl | assumption))
    iterate 2 refine mT_s rfl rfl ?_
    (apply mT_putfN; (case hc => rfl); (case ha => first | rfl | assumption); (case hN => assumption); (case hg => rfl))
    refine mT_s rfl rfl ?_
    (apply mT_inv; (case hc => rfl); (case hd => rfl); (case hb => first | rfl | assumption); (case hg => rfl))
    rw [nI_1]
    have R2 : rRd (m_up h 51 (.inr (6, [.int (nI (p + 1)), .int lf, .int mf, .ref 52, .int (nI k0), .ref 26, .int (nI e)]))) (p + 1) lf mf cd k0 e := ⟨rfl, hC, hk0⟩
    have T2 : rTp (m_up h 51 (.inr (6, [.int (nI (p + 1)), .int lf, .int mf, .ref 52, .int (nI k0), .ref 26, .int (nI e)]))) g e := T.c (fun a x y => m_up_n x)
    refine x_peek _ (m_up h 51 _) _ (p + 1) lf mf cd k0 e R2 g T2 hp1 ?_
    refine mT_c rfl rfl ?_
    refine x_comparisonOf _ _ _ _ (fun c hw2 => ?_) (fun hw2 => ?_)
    · have hcm := pCm_some hw2
      have hp2 : p + 1 + 1 ≤ e := hgk.lt rfl hcm.2
      iterate 2 refine mT_s rfl rfl ?_
      refine mT_if_ge rfl (fun _ => ?_) (fun c => absurd (nI_pos' (by omega)) c)
      iterate 2 refine mT_s rfl rfl ?_
      (apply mT_getf; (case hc => rfl); (case ha => first | rfl | assumption); (case hf => first | rfl | assumption))
      iterate 2 refine mT_s rfl rfl ?_
      (apply mT_putfN; (case hc => rfl); (case ha => first | rfl | assumption); (case hN => assumption); (case hg => rfl))
      refine mT_s rfl rfl ?_
      (apply mT_inv; (case hc => rfl); (case hd => rfl); (case hb => first | rfl | assumption); (case hg => rfl))
      simp only [m_up_up]
      rw [nI_1]
      have R3 : rRd (m_up h 51 (.inr (6, [.int (nI (p + 1 + 1)), .int lf, .int mf, .ref 52, .int (nI k0), .ref 26, .int (nI e)]))) (p + 1 + 1) lf mf cd k0 e := ⟨rfl, hC, hk0⟩
      have T3 : rTp (m_up h 51 (.inr (6, [.int (nI (p + 1 + 1)), .int lf, .int mf, .ref 52, .int (nI k0), .ref 26, .int (nI e)]))) g e := T.c (fun a x y => m_up_n x)
      have hnk := pNum_ok (p := p + 1 + 1) hgk
      refine x_number _ (m_up h 51 _) _ (p + 1 + 1) lf mf cd k0 e R3 g T3 hp2 (fun hok h4 f4 R4 => ?_) (fun hok hpos => ?_)
      · have hN4 : 87 ≤ m_nx h4 := nx_eq ((f4 0 (by decide) (by decide)).trans rfl) hN
        have hpe := hnk.2.1 hp2
        have hpl := hnk.2.2.2 hok
        have hR4 := R4.1
        iterate 2 refine mT_s rfl rfl ?_
        refine mT_if_ge rfl (fun _ => ?_) (fun c => absurd (nI_pos' (by omega)) c)
        iterate 4 refine mT_s rfl rfl ?_
        refine mT_c rfl rfl ?_
        refine x_testOf _ _ _ w c (pNum g (p + 1 + 1)).2.2 ?_
        (apply mT_inv; (case hc => rfl); (case hd => rfl); (case hb => first | rfl | assumption); (case hg => rfl))
        refine x_put _ h4 _ _ lf mf cd k0 e R4 hN4 _ (by omega) (fun h5 f5 R5 => ?_)
        refine mT_s rfl rfl ?_
        refine mT_ret rfl rfl ?_
        have hv : pTest g p = ((pNum g (p + 1 + 1)).1, (pNum g (p + 1 + 1)).2.1, [.inl (w, c, (pNum g (p + 1 + 1)).2.2)]) := by
          unfold pTest
          rw [hw]
          show (match pCm (g (p + 1)) with | none => _ | some c => _) = _
          rw [hw2]
        rw [hv] at K
        rw [hok] at K
        exact K h5 _ _ (fun a x y => (f5 a x y).trans ((f4 a x y).trans (m_up_n x))) R5 (fun _ => cN_1 rfl)
      · iterate 4 refine mT_s rfl rfl ?_
        refine mT_ret rfl rfl ?_
        have hv : pTest g p = ((pNum g (p + 1 + 1)).1, (pNum g (p + 1 + 1)).2.1, [.inl (w, c, (pNum g (p + 1 + 1)).2.2)]) := by
          unfold pTest
          rw [hw]
          show (match pCm (g (p + 1)) with | none => _ | some c => _) = _
          rw [hw2]
        rw [hv] at K
        rw [hok] at K
        exact K _ cd k0 (fun a x y => m_up_n x) (by show rRd _ (pNum g (p + 1 + 1)).2.1 _ _ _ _ _; rw [hpos]; exact R3) (fun z => absurd (show false = true from z) (by decide))
    · iterate 4 refine mT_s rfl rfl ?_
      refine mT_ret rfl rfl ?_
      have hv : pTest g p = (false, p + 1, []) := by
        unfold pTest
        rw [hw]
        show (match pCm (g (p + 1)) with | none => _ | some c => _) = _
        rw [hw2]
      rw [hv] at K
      exact K _ cd k0 (fun a x y => m_up_n x) R2 (fun z => absurd (show false = true from z) (by decide))
  · iterate 4 refine mT_s rfl rfl ?_
    refine mT_ret rfl rfl ?_
    have hv : pTest g p = (false, p, []) := by
      unfold pTest
      rw [hw]
    rw [hv] at K
    exact K h cd k0 (fun _ _ _ => rfl) R (fun z => absurd (show false = true from z) (by decide))
theorem x_bothL (d op : Nat) (Q : Option Value → mH → Prop) (p : Nat) (lf mf : Int32) (cd : Nat → Int32) (k0 e : Nat) (hkp : k0 ≤ p) (g : Nat → Int32) (h0 : mH) (T0 : rTp h0 g e) (F : Nat → pR) (hF : oSp z_X6_one (d + 1) op e g F) (hFo : ∀ p, pOk e p (F p)) (hFn : ∀ p, pN (F p)) : (∀ (m n i : Nat) (h : mH) (r : pR) (cd2 : Nat → Int32) (k2 : Nat), i + m = 100 → pOk e p r → pN r → r.2.1 ≤ e → rRd h r.2.1 lf mf cd2 k2 e → (∀ a, a ≠ 51 → a ≠ 52 → h a = h0 a) → (r.1 = true → e < r.2.1 + m ∧ e < r.2.1 + n ∧ cN k0 cd cd2 k2 r.2.2) → (∀ h2 cd3 k3, (∀ a, a ≠ 51 → a ≠ 52 → h2 a = h0 a) → rRd h2 (pLoop F g 38 1 n r).2.1 lf mf cd3 k3 e → ((pLoop F g 38 1 n r).1 = true → cN k0 cd cd3 k3 (pLoop F g 38 1 n r).2.2) → Q (some (.int (bI (pLoop F g 38 1 n r).1))) h2) → mT0 (d + 2) z_X6_both 8 [some (.ref 51), some (.int (nI op)), some (.int (bI r.1)), some (.int (nI i))] [] h Q) := by
  intro m
  induction m with
  | zero =>
    intro n i h r cd2 k2 him hok hpn hpe R fh hg9 K
    obtain ⟨hgk, he, hN0⟩ := T0.2
    have hN : 87 ≤ m_nx h := nx_eq (fh 0 (by decide) (by decide)) hN0
    obtain ⟨b, pos, tk⟩ := r
    cases b with
    | true =>
      have h1 := (hg9 rfl).1
      have h1 : e < pos + 0 := h1
      have h2 : pos ≤ e := hpe
      omega
    | false =>
      iterate 2 refine mT_s rfl rfl ?_
      obtain rfl : i = 100 := by omega
      refine mT_icmp_ge rfl (fun _ => ?_) (fun c => absurd (show (100 : Int32) ≤ nI 100 by decide) c)
      refine mT_s rfl rfl ?_
      refine mT_ret rfl rfl ?_
      rw [pLoop_stop (show ¬ ((false, pos, tk).1 = true ∧ g (false, pos, tk).2.1 = 38) from fun z => absurd (show false = true from z.1) (by decide))] at K
      exact K h cd2 k2 fh R (fun z => absurd (show false = true from z) (by decide))
  | succ m ih =>
    intro n i h r cd2 k2 him hok hpn hpe R fh hg9 K
    obtain ⟨hgk, he, hN0⟩ := T0.2
    have hN : 87 ≤ m_nx h := nx_eq (fh 0 (by decide) (by decide)) hN0
    obtain ⟨b, pos, tk⟩ := r
    have hpe : pos ≤ e := hpe
    obtain ⟨hR, hC, hk29⟩ := id R
    cases b with
    | false =>
      iterate 2 refine mT_s rfl rfl ?_
      refine mT_icmp_ge rfl (fun c => absurd c (nI_ge (a := i) (b := 100) (by omega) (by omega))) (fun _ => ?_)
      refine mT_s rfl rfl ?_
      refine mT_if_eq rfl (fun _ => ?_) (fun c => absurd rfl c)
      refine mT_s rfl rfl ?_
      refine mT_ret rfl rfl ?_
      rw [pLoop_stop (show ¬ ((false, pos, tk).1 = true ∧ g (false, pos, tk).2.1 = 38) from fun z => absurd (show false = true from z.1) (by decide))] at K
      exact K h cd2 k2 fh R (fun z => absurd (show false = true from z) (by decide))
    | true =>
      iterate 2 refine mT_s rfl rfl ?_
      refine mT_icmp_ge rfl (fun c => absurd c (nI_ge (a := i) (b := 100) (by omega) (by omega))) (fun _ => ?_)
      refine mT_s rfl rfl ?_
      refine mT_if_eq rfl (fun c => absurd (show (1 : Int32) = 0 from c) (by decide)) (fun _ => ?_)
      iterate 2 refine mT_s rfl rfl ?_
      (apply mT_inv; (case hc => rfl); (case hd => rfl); (case hb => first | rfl | assumption); (case hg => rfl))
      obtain ⟨hm1, hn1, hcn⟩ := hg9 rfl
      have hm1 : e < pos + (m + 1) := hm1
      have hn1 : e < pos + n := hn1
      refine x_sign _ h _ pos lf mf cd2 k2 e R g (T0.c fh) hpe 38 (by decide) (fun hgc hp1 h3 f3 R3 => ?_) (fun hgc => ?_)
      · have hR3 := R3.1
        iterate 3 refine mT_s rfl rfl ?_
        refine mT_c rfl rfl ?_
        obtain ⟨n, rfl⟩ : ∃ n9, n = n9 + 1 := ⟨n - 1, by omega⟩
        rw [pLoop_go (show (true, pos, tk).1 = true ∧ g (true, pos, tk).2.1 = 38 from ⟨rfl, hgc⟩)] at K
        have hlen : (cTs tk).length + p ≤ pos := by
          have h1 := (hok.2.2 rfl).2
          have h2 : (cTs tk).length = tk.length := hpn rfl
          have h1 : tk.length + p ≤ pos := h1
          omega
        have hk2 : k2 ≤ pos := by have := hcn.1; have : k2 = k0 + (cTs tk).length := this; omega
        have hpos1 := hok.1
        refine hF h3 (pos + 1) k2 lf mf cd2 _ R3 ((T0.c fh).c f3) hp1 (by omega) (fun h4 cd4 k4 f4 R4 hN4 => ?_)
        have hN5 : 87 ≤ m_nx h4 := nx_eq ((f4 0 (by decide) (by decide)).trans (f3 0 (by decide) (by decide))) hN
        have hR4 := R4.1
        have hFk := hFo (pos + 1)
        have fh4 : ∀ a, a ≠ 51 → a ≠ 52 → h4 a = h0 a := fun a x y => (f4 a x y).trans ((f3 a x y).trans (fh a x y))
        have hpe4 := hFk.2.1 hp1
        dsimp only at K
        rcases hb4 : (F (pos + 1)).1 with _ | _
        · iterate 3 refine mT_s rfl rfl ?_
          (apply mT_inv; (case hc => rfl); (case hd => rfl); (case hb => first | rfl | assumption); (case hg => rfl))
          refine x_put_w _ h4 _ _ lf mf cd4 k4 e R4 hN5 _ (fun h5 cd5 k5 f5 R5 => ?_)
          iterate 2 refine mT_s rfl rfl ?_
          rw [nI_1]
          have K9 := K
          rw [hb4] at K9
          exact ih n (i + 1) h5 (false, (F (pos + 1)).2.1, tk ++ (F (pos + 1)).2.2 ++ [.inr (.inl 1)]) _ _ (by omega) ⟨by show p ≤ (F (pos + 1)).2.1; have := hFk.1; omega, fun _ => hpe4, fun z => absurd (show false = true from z) (by decide)⟩ (fun z => absurd (show false = true from z) (by decide)) hpe4 R5 (fun a x y => (f5 a x y).trans (fh4 a x y)) (fun z => absurd (show false = true from z) (by decide)) K9
        · iterate 3 refine mT_s rfl rfl ?_
          (apply mT_inv; (case hc => rfl); (case hd => rfl); (case hb => first | rfl | assumption); (case hg => rfl))
          have hcn4 := hN4 hb4
          have hF3 := hFk.2.2 hb4
          have hFl : (cTs (F (pos + 1)).2.2).length = (F (pos + 1)).2.2.length := hFn _ hb4
          have hk4 : k4 + 1 ≤ (F (pos + 1)).2.1 := by
            have h1 := hcn4.1
            have h2 := hcn.1
            have h2 : k2 = k0 + (cTs tk).length := h2
            omega
          refine x_put _ h4 _ _ lf mf cd4 k4 e R4 hN5 _ (by omega) (fun h5 f5 R5 => ?_)
          iterate 2 refine mT_s rfl rfl ?_
          rw [nI_1]
          have K9 := K
          rw [hb4] at K9
          exact ih n (i + 1) h5 (true, (F (pos + 1)).2.1, tk ++ (F (pos + 1)).2.2 ++ [.inr (.inl 1)]) _ _ (by omega) ⟨by show p ≤ (F (pos + 1)).2.1; omega, fun _ => hpe4, fun _ => by
            have h1 := (hok.2.2 rfl).2
            have h1 : tk.length + p ≤ pos := h1
            show p + 1 ≤ (F (pos + 1)).2.1 ∧ (tk ++ (F (pos + 1)).2.2 ++ [Sum.inr (Sum.inl 1)]).length + p ≤ (F (pos + 1)).2.1
            rw [List.length_append, List.length_append, List.length_singleton]
            omega⟩ (fun _ => tN_app (tN_app (hpn rfl) (hFn _ hb4)) (tN_1 rfl)) hpe4 R5 (fun a x y => (f5 a x y).trans (fh4 a x y)) (fun z => ⟨by show e < (F (pos + 1)).2.1 + m; omega, by show e < (F (pos + 1)).2.1 + n; omega, (hcn.tr hcn4).tr (cN_1 rfl)⟩) K9
      · iterate 2 refine mT_s rfl rfl ?_
        refine mT_ret rfl rfl ?_
        rw [pLoop_stop (show ¬ ((true, pos, tk).1 = true ∧ g (true, pos, tk).2.1 = 38) from fun z => hgc z.2)] at K
        exact K h cd2 k2 fh R (fun _ => hcn)
theorem x_both_sp (d op e : Nat) (g : Nat → Int32) (F : Nat → pR) (hF : oSp z_X6_one (d + 1) op e g F) (hFo : ∀ p, pOk e p (F p)) (hFn : ∀ p, pN (F p)) : oSp z_X6_both (d + 2) op e g (fun p => (pLoop F g 38 1 101 (F p))) := by
  intro h p k0 lf mf cd Q R T hp hkp K
  obtain ⟨hR, hC, hk29⟩ := id R
  iterate 2 refine mT_s rfl rfl ?_
  refine mT_c rfl rfl ?_
  refine hF h p k0 lf mf cd _ R T hp hkp (fun h2 cd2 k2 f2 R2 hN2 => ?_)
  have hFk := hFo p
  obtain ⟨hgk, he, hN⟩ := T.2
  iterate 3 refine mT_s rfl rfl ?_
  exact x_bothL d op Q p lf mf cd k0 e hkp g h T F hF hFo hFn 100 101 0 h2 (F p) cd2 k2 (by omega) hFk (hFn p) (hFk.2.1 hp) R2 f2 (fun z => by
    have h1 := (hFk.2.2 z).1
    exact ⟨by omega, by omega, hN2 z⟩) K
theorem x_eitherL (d op : Nat) (Q : Option Value → mH → Prop) (p : Nat) (lf mf : Int32) (cd : Nat → Int32) (k0 e : Nat) (hkp : k0 ≤ p) (g : Nat → Int32) (h0 : mH) (T0 : rTp h0 g e) (F : Nat → pR) (hF : oSp z_X6_both (d + 1) op e g F) (hFo : ∀ p, pOk e p (F p)) (hFn : ∀ p, pN (F p)) : (∀ (m n i : Nat) (h : mH) (r : pR) (cd2 : Nat → Int32) (k2 : Nat), i + m = 100 → pOk e p r → pN r → r.2.1 ≤ e → rRd h r.2.1 lf mf cd2 k2 e → (∀ a, a ≠ 51 → a ≠ 52 → h a = h0 a) → (r.1 = true → e < r.2.1 + m ∧ e < r.2.1 + n ∧ cN k0 cd cd2 k2 r.2.2) → (∀ h2 cd3 k3, (∀ a, a ≠ 51 → a ≠ 52 → h2 a = h0 a) → rRd h2 (pLoop F g 124 2 n r).2.1 lf mf cd3 k3 e → ((pLoop F g 124 2 n r).1 = true → cN k0 cd cd3 k3 (pLoop F g 124 2 n r).2.2) → Q (some (.int (bI (pLoop F g 124 2 n r).1))) h2) → mT0 (d + 2) z_X6_either 8 [some (.ref 51), some (.int (nI op)), some (.int (bI r.1)), some (.int (nI i))] [] h Q) := by
  intro m
  induction m with
  | zero =>
    intro n i h r cd2 k2 him hok hpn hpe R fh hg9 K
    obtain ⟨hgk, he, hN0⟩ := T0.2
    have hN : 87 ≤ m_nx h := nx_eq (fh 0 (by decide) (by decide)) hN0
    obtain ⟨b, pos, tk⟩ := r
    cases b with
    | true =>
      have h1 := (hg9 rfl).1
      have h1 : e < pos + 0 := h1
      have h2 : pos ≤ e := hpe
      omega
    | false =>
      iterate 2 refine mT_s rfl rfl ?_
      obtain rfl : i = 100 := by omega
      refine mT_icmp_ge rfl (fun _ => ?_) (fun c => absurd (show (100 : Int32) ≤ nI 100 by decide) c)
      refine mT_s rfl rfl ?_
      refine mT_ret rfl rfl ?_
      rw [pLoop_stop (show ¬ ((false, pos, tk).1 = true ∧ g (false, pos, tk).2.1 = 124) from fun z => absurd (show false = true from z.1) (by decide))] at K
      exact K h cd2 k2 fh R (fun z => absurd (show false = true from z) (by decide))
  | succ m ih =>
    intro n i h r cd2 k2 him hok hpn hpe R fh hg9 K
    obtain ⟨hgk, he, hN0⟩ := T0.2
    have hN : 87 ≤ m_nx h := nx_eq (fh 0 (by decide) (by decide)) hN0
    obtain ⟨b, pos, tk⟩ := r
    have hpe : pos ≤ e := hpe
    obtain ⟨hR, hC, hk29⟩ := id R
    cases b with
    | false =>
      iterate 2 refine mT_s rfl rfl ?_
      refine mT_icmp_ge rfl (fun c => absurd c (nI_ge (a := i) (b := 100) (by omega) (by omega))) (fun _ => ?_)
      refine mT_s rfl rfl ?_
      refine mT_if_eq rfl (fun _ => ?_) (fun c => absurd rfl c)
      refine mT_s rfl rfl ?_
      refine mT_ret rfl rfl ?_
      rw [pLoop_stop (show ¬ ((false, pos, tk).1 = true ∧ g (false, pos, tk).2.1 = 124) from fun z => absurd (show false = true from z.1) (by decide))] at K
      exact K h cd2 k2 fh R (fun z => absurd (show false = true from z) (by decide))
    | true =>
      iterate 2 refine mT_s rfl rfl ?_
      refine mT_icmp_ge rfl (fun c => absurd c (nI_ge (a := i) (b := 100) (by omega) (by omega))) (fun _ => ?_)
      refine mT_s rfl rfl ?_
      refine mT_if_eq rfl (fun c => absurd (show (1 : Int32) = 0 from c) (by decide)) (fun _ => ?_)
      iterate 2 refine mT_s rfl rfl ?_
      (apply mT_inv; (case hc => rfl); (case hd => rfl); (case hb => first | rfl | assumption); (case hg => rfl))
      obtain ⟨hm1, hn1, hcn⟩ := hg9 rfl
      have hm1 : e < pos + (m + 1) := hm1
      have hn1 : e < pos + n := hn1
      refine x_sign _ h _ pos lf mf cd2 k2 e R g (T0.c fh) hpe 124 (by decide) (fun hgc hp1 h3 f3 R3 => ?_) (fun hgc => ?_)
      · have hR3 := R3.1
        iterate 3 refine mT_s rfl rfl ?_
        (apply mT_inv; (case hc => rfl); (case hd => rfl); (case hb => first | rfl | assumption); (case hg => rfl))
        obtain ⟨n, rfl⟩ : ∃ n9, n = n9 + 1 := ⟨n - 1, by omega⟩
        rw [pLoop_go (show (true, pos, tk).1 = true ∧ g (true, pos, tk).2.1 = 124 from ⟨rfl, hgc⟩)] at K
        have hlen : (cTs tk).length + p ≤ pos := by
          have h1 := (hok.2.2 rfl).2
          have h2 : (cTs tk).length = tk.length := hpn rfl
          have h1 : tk.length + p ≤ pos := h1
          omega
        have hk2 : k2 ≤ pos := by have := hcn.1; have : k2 = k0 + (cTs tk).length := this; omega
        have hpos1 := hok.1
        refine hF h3 (pos + 1) k2 lf mf cd2 _ R3 ((T0.c fh).c f3) hp1 (by omega) (fun h4 cd4 k4 f4 R4 hN4 => ?_)
        have hN5 : 87 ≤ m_nx h4 := nx_eq ((f4 0 (by decide) (by decide)).trans (f3 0 (by decide) (by decide))) hN
        have hR4 := R4.1
        have hFk := hFo (pos + 1)
        have fh4 : ∀ a, a ≠ 51 → a ≠ 52 → h4 a = h0 a := fun a x y => (f4 a x y).trans ((f3 a x y).trans (fh a x y))
        have hpe4 := hFk.2.1 hp1
        dsimp only at K
        rcases hb4 : (F (pos + 1)).1 with _ | _
        · iterate 3 refine mT_s rfl rfl ?_
          (apply mT_inv; (case hc => rfl); (case hd => rfl); (case hb => first | rfl | assumption); (case hg => rfl))
          refine x_put_w _ h4 _ _ lf mf cd4 k4 e R4 hN5 _ (fun h5 cd5 k5 f5 R5 => ?_)
          iterate 2 refine mT_s rfl rfl ?_
          rw [nI_1]
          have K9 := K
          rw [hb4] at K9
          exact ih n (i + 1) h5 (false, (F (pos + 1)).2.1, tk ++ (F (pos + 1)).2.2 ++ [.inr (.inl 2)]) _ _ (by omega) ⟨by show p ≤ (F (pos + 1)).2.1; have := hFk.1; omega, fun _ => hpe4, fun z => absurd (show false = true from z) (by decide)⟩ (fun z => absurd (show false = true from z) (by decide)) hpe4 R5 (fun a x y => (f5 a x y).trans (fh4 a x y)) (fun z => absurd (show false = true from z) (by decide)) K9
        · iterate 3 refine mT_s rfl rfl ?_
          (apply mT_inv; (case hc => rfl); (case hd => rfl); (case hb => first | rfl | assumption); (case hg => rfl))
          have hcn4 := hN4 hb4
          have hF3 := hFk.2.2 hb4
          have hFl : (cTs (F (pos + 1)).2.2).length = (F (pos + 1)).2.2.length := hFn _ hb4
          have hk4 : k4 + 1 ≤ (F (pos + 1)).2.1 := by
            have h1 := hcn4.1
            have h2 := hcn.1
            have h2 : k2 = k0 + (cTs tk).length := h2
            omega
          refine x_put _ h4 _ _ lf mf cd4 k4 e R4 hN5 _ (by omega) (fun h5 f5 R5 => ?_)
          iterate 2 refine mT_s rfl rfl ?_
          rw [nI_1]
          have K9 := K
          rw [hb4] at K9
          exact ih n (i + 1) h5 (true, (F (pos + 1)).2.1, tk ++ (F (pos + 1)).2.2 ++ [.inr (.inl 2)]) _ _ (by omega) ⟨by show p ≤ (F (pos + 1)).2.1; omega, fun _ => hpe4, fun _ => by
            have h1 := (hok.2.2 rfl).2
            have h1 : tk.length + p ≤ pos := h1
            show p + 1 ≤ (F (pos + 1)).2.1 ∧ (tk ++ (F (pos + 1)).2.2 ++ [Sum.inr (Sum.inl 2)]).length + p ≤ (F (pos + 1)).2.1
            rw [List.length_append, List.length_append, List.length_singleton]
            omega⟩ (fun _ => tN_app (tN_app (hpn rfl) (hFn _ hb4)) (tN_1 rfl)) hpe4 R5 (fun a x y => (f5 a x y).trans (fh4 a x y)) (fun z => ⟨by show e < (F (pos + 1)).2.1 + m; omega, by show e < (F (pos + 1)).2.1 + n; omega, (hcn.tr hcn4).tr (cN_1 rfl)⟩) K9
      · iterate 2 refine mT_s rfl rfl ?_
        refine mT_ret rfl rfl ?_
        rw [pLoop_stop (show ¬ ((true, pos, tk).1 = true ∧ g (true, pos, tk).2.1 = 124) from fun z => hgc z.2)] at K
        exact K h cd2 k2 fh R (fun _ => hcn)
theorem x_either_sp (d op e : Nat) (g : Nat → Int32) (F : Nat → pR) (hF : oSp z_X6_both (d + 1) op e g F) (hFo : ∀ p, pOk e p (F p)) (hFn : ∀ p, pN (F p)) : oSp z_X6_either (d + 2) op e g (fun p => (pLoop F g 124 2 101 (F p))) := by
  intro h p k0 lf mf cd Q R T hp hkp K
  obtain ⟨hR, hC, hk29⟩ := id R
  iterate 2 refine mT_s rfl rfl ?_
  (apply mT_inv; (case hc => rfl); (case hd => rfl); (case hb => first | rfl | assumption); (case hg => rfl))
  refine hF h p k0 lf mf cd _ R T hp hkp (fun h2 cd2 k2 f2 R2 hN2 => ?_)
  have hFk := hFo p
  obtain ⟨hgk, he, hN⟩ := T.2
  iterate 3 refine mT_s rfl rfl ?_
  exact x_eitherL d op Q p lf mf cd k0 e hkp g h T F hF hFo hFn 100 101 0 h2 (F p) cd2 k2 (by omega) hFk (hFn p) (hFk.2.1 hp) R2 f2 (fun z => by
    have h1 := (hFk.2.2 z).1
    exact ⟨by omega, by omega, hN2 z⟩) K