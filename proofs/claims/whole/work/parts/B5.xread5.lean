/-! By program (wip/whole/book*.py) and hand. -/
theorem pTE_ge {g : Nat → Int32} {e q : Nat} (h : gOk g e) : q ≤ (pTE g (pY g q)).2.1 := by
  unfold pTE pY
  by_cases h1 : g q = 32
  · rw [if_pos h1, if_pos (show (true, q + 1).1 = true from rfl)]
    exact Nat.le_trans (Nat.le_succ q) (pNum_ok (p := q + 1) h).1
  · rw [if_neg h1, if_neg (fun z => absurd (show false = true from z) (by decide))]
    exact Nat.le_refl _
theorem pIn_stop {g : Nat → Int32} {n : Nat} {st : cR} (h : ¬ (st.1 = true ∧ g st.2.1 = 59)) : pIn g n st = st := by
  cases n with
  | zero => rfl
  | succ n => rw [pIn, if_neg h]
theorem pIn_go {g : Nat → Int32} {n : Nat} {st : cR} (h : st.1 = true ∧ g st.2.1 = 59) : pIn g (n + 1) st = pIn g n (pJ g st (st.2.1 + 1)) := by
  rw [pIn, if_pos h]
theorem x_clause (d : Nat) (h : mH) (Q : Option Value → mH → Prop) (p : Nat) (lf mf : Int32) (cd : Nat → Int32) (k0 e : Nat) (R : rRd h p lf mf cd k0 e) (g : Nat → Int32) (T : rTp h g e) (hp : p ≤ e) (hkp : k0 ≤ p) (K : ∀ h2 cd2 k2 lf2 mf2, (∀ a, a ≠ 51 → a ≠ 52 → h2 a = h a) → rRd h2 (pCl g p).2.1 lf2 mf2 cd2 k2 e → ((pCl g p).1 = true → cN k0 cd cd2 k2 (pCl g p).2.2.1 ∧ k2 ≤ (pCl g p).2.1 ∧ lf2 = (if (pCl g p).2.2.2.1 = 1 then nI (pCl g p).2.2.2.2 else lf) ∧ mf2 = (if (pCl g p).2.2.2.1 = 2 then nI (pCl g p).2.2.2.2 else mf)) → Q (some (.int (bI (pCl g p).1))) h2) : mT0 (d + 22) z_X6_clause 0 (m_init z_X6_clause [.ref 51]) [] h Q := by
  obtain ⟨hR, hC, hk0⟩ := id R
  obtain ⟨⟨tf, ht, etf⟩, hgk, he, hN⟩ := id T
  refine mT_s rfl rfl ?_
  (apply mT_inv; (case hc => rfl); (case hd => rfl); (case hb => first | rfl | assumption); (case hg => rfl))
  refine x_word _ h _ p lf mf cd k0 e R g T hp (fun hg hs h2 f2 R2 => ?_) (fun hg hs h2 f2 R2 => ?_) (fun hg hg2 hs h2 f2 R2 => ?_) (fun hg hg2 hs h2 f2 R2 => ?_) (fun h2 q f2 R2 hn1 hn2 => ?_)
  · refine mT_s rfl rfl ?_
    have hv := pCl_d hg
    rw [pSpk_y rfl hs] at hv
    rw [hv] at K
    have hso := pSpk_ok (g := g) (f := fDuck) hgk (r := 3) (k := 1) (p := p + 1) (by decide)
    have hq := hso.2.1 (hgk.lt hg (by decide))
    exact x_clM1 d h2 Q _ lf mf cd k0 e R2 g (T.c f2) hq (by omega) (fun h3 cd3 k3 f3 R3 hN3 => K h3 cd3 k3 lf mf (fun a x y => (f3 a x y).trans (f2 a x y)) R3 (fun z => ⟨(hN3 z).1, (hN3 z).2, (if_neg (show ¬ (0 : Nat) = 1 by decide)).symm, (if_neg (show ¬ (0 : Nat) = 2 by decide)).symm⟩))
  · refine mT_s rfl rfl ?_
    have hv := pCl_m hg
    rw [pSpk_y rfl hs] at hv
    rw [hv] at K
    have hso := pSpk_ok (g := g) (f := fMore) hgk (r := 3) (k := 1) (p := p + 1) (by decide)
    have hq := hso.2.1 (hgk.lt hg (by decide))
    exact x_clT3 d h2 Q _ lf mf cd k0 e R2 g (T.c f2) hq (by omega) (fun h3 lf3 mf3 f3 R3 hN3 => K h3 cd k0 lf3 mf3 (fun a x y => (f3 a x y).trans (f2 a x y)) R3 (fun z => ⟨cN.rfl', Nat.le_trans (by omega) (pTE_ge hgk (q := (pSpk g fMore 3 1 (p + 1)).2)), (hN3 z).1.trans (if_neg (show ¬ (2 : Nat) = 1 by decide)).symm, (hN3 z).2.trans (if_pos rfl).symm⟩))
  · refine mT_s rfl rfl ?_
    have hv := pCl_l hg hg2
    rw [pSpk_y rfl hs] at hv
    rw [hv] at K
    have hso := pSpk_ok (g := g) (f := fIft) hgk (r := 3) (k := 0) (p := p + 1) (by decide)
    have hq := hso.2.1 (hgk.lt hg (by decide))
    exact x_clM0 d h2 Q _ lf mf cd k0 e R2 g (T.c f2) hq (by omega) (fun h3 cd3 k3 f3 R3 hN3 => K h3 cd3 k3 lf mf (fun a x y => (f3 a x y).trans (f2 a x y)) R3 (fun z => ⟨(hN3 z).1, (hN3 z).2, (if_neg (show ¬ (0 : Nat) = 1 by decide)).symm, (if_neg (show ¬ (0 : Nat) = 2 by decide)).symm⟩))
  · refine mT_s rfl rfl ?_
    have hv := pCl_e hg hg2
    rw [pSpk_y rfl hs] at hv
    rw [hv] at K
    have hso := pSpk_ok (g := g) (f := fEss) hgk (r := 3) (k := 0) (p := p + 1) (by decide)
    have hq := hso.2.1 (hgk.lt hg (by decide))
    exact x_clT2 d h2 Q _ lf mf cd k0 e R2 g (T.c f2) hq (by omega) (fun h3 lf3 mf3 f3 R3 hN3 => K h3 cd k0 lf3 mf3 (fun a x y => (f3 a x y).trans (f2 a x y)) R3 (fun z => ⟨cN.rfl', Nat.le_trans (by omega) (pTE_ge hgk (q := (pSpk g fEss 3 0 (p + 1)).2)), (hN3 z).1.trans (if_pos rfl).symm, (hN3 z).2.trans (if_neg (show ¬ (1 : Nat) = 2 by decide)).symm⟩))
  · refine mT_s rfl rfl ?_
    iterate 3 refine mT_s rfl rfl ?_
    refine mT_ret rfl rfl ?_
    rw [hn1, hn2] at K
    exact K h2 cd k0 lf mf f2 R2 (fun z => absurd z (by decide))
theorem x_rd_L (d : Nat) (Q : Option Value → mH → Prop) (cd0 : Nat → Int32) (e : Nat) (g : Nat → Int32) (h0 : mH) (T0 : rTp h0 g e) : ∀ (n c : Nat) (h : mH) (st : cR) (p : Nat) (cd : Nat → Int32) (k : Nat), c + n = 10 → 1 ≤ c → st.1 = true → rRd h p (nI st.2.2.2.1) (nI st.2.2.2.2) cd k e → (∀ a, a ≠ 51 → a ≠ 52 → h a = h0 a) → p ≤ e → k ≤ p → cN 0 cd0 cd k st.2.2.1 → (∀ h2 cd2 k2 lf2 mf2, (∀ a, a ≠ 51 → a ≠ 52 → h2 a = h0 a) → rRd h2 (pIn g n (pJ g st p)).2.1 lf2 mf2 cd2 k2 e → ((pIn g n (pJ g st p)).1 = true ∧ (pIn g n (pJ g st p)).2.1 = e → cN 0 cd0 cd2 k2 (pIn g n (pJ g st p)).2.2.1 ∧ lf2 = nI (pIn g n (pJ g st p)).2.2.2.1 ∧ mf2 = nI (pIn g n (pJ g st p)).2.2.2.2) → Q (some (.int (if (pIn g n (pJ g st p)).1 = true ∧ (pIn g n (pJ g st p)).2.1 = e then 1 else 0))) h2) → mT0 (d + 23) z_X6_reads 37 [some (.ref 51), some (.ref 26), some (.int (nI e)), some (.int (nI c))] [] h Q := by
  intro n
  induction n with
  | zero =>
    intro c h st p cd k hcn hc1 hst R fh hp hkp hcN K
    obtain ⟨hR, hC, hk0⟩ := id R
    have T : rTp h g e := T0.c fh
    obtain ⟨⟨tf, ht, etf⟩, hgk, he, hN⟩ := id T
    iterate 2 refine mT_s rfl rfl ?_
    refine mT_icmp_gt rfl (fun z => absurd ((nI_ltI (a := 10) (by omega) (by omega)).mp z) (by omega)) (fun _ => ?_)
    refine mT_s rfl rfl ?_
    (apply mT_inv; (case hc => rfl); (case hd => rfl); (case hb => first | rfl | assumption); (case hg => rfl))
    refine x_clause d h _ p _ _ cd k e R g T hp hkp (fun h2 cd2 k2 lf2 mf2 f2 R2 hok => ?_)
    have hcl := pCl_ok (p := p) hgk
    have hpe := hcl.2.1 hp
    have hR2 := R2.1
    have hN2 : 87 ≤ m_nx h2 := nx_eq (f2 0 (by decide) (by decide)) hN
    have fh2 : ∀ a, a ≠ 51 → a ≠ 52 → h2 a = h0 a := fun a x y => (f2 a x y).trans (fh a x y)
    rcases hb : (pCl g p).1 with _ | _
    · iterate 2 refine mT_s rfl rfl ?_
      refine mT_ret rfl rfl ?_
      rw [pIn_stop (show ¬ ((pJ g st p).1 = true ∧ g (pJ g st p).2.1 = 59) from fun z => absurd (hb.symm.trans z.1) (by decide))] at K
      have hf : ¬ ((pJ g st p).1 = true ∧ (pJ g st p).2.1 = e) := fun z => absurd (hb.symm.trans z.1) (by decide)
      rw [if_neg hf] at K
      exact K h2 cd2 k2 lf2 mf2 fh2 R2 (fun z => absurd z hf)
    · obtain ⟨o1, o2, o3, o4⟩ := hok hb
      have o3' : lf2 = nI (if (pCl g p).2.2.2.1 = 1 then (pCl g p).2.2.2.2 else st.2.2.2.1) := by rw [o3]; split <;> rfl
      have o4' : mf2 = nI (if (pCl g p).2.2.2.1 = 2 then (pCl g p).2.2.2.2 else st.2.2.2.2) := by rw [o4]; split <;> rfl
      have oN : cN 0 cd0 cd2 k2 (pJ g st p).2.2.1 := hcN.tr o1
      iterate 2 refine mT_s rfl rfl ?_
      (apply mT_getf; (case hc => rfl); (case ha => first | rfl | assumption); (case hf => first | rfl | assumption))
      refine mT_s rfl rfl ?_
      (apply mT_getf; (case hc => rfl); (case ha => first | rfl | assumption); (case hf => first | rfl | assumption))
      refine mT_icmp_ne rfl (fun c60 => ?_) (fun c60 => ?_)
      · have c60 : ¬ (pCl g p).2.1 = e := fun z => c60 (congrArg nI z)
        iterate 2 refine mT_s rfl rfl ?_
        refine mT_icmp_eq rfl (fun _ => ?_) (fun z => absurd (by rw [show c = 10 by omega]; rfl) z)
        refine mT_s rfl rfl ?_
        refine mT_ret rfl rfl ?_
        have K : (∀ h2 cd2 k2 lf2 mf2, (∀ a, a ≠ 51 → a ≠ 52 → h2 a = h0 a) → rRd h2 (pJ g st p).2.1 lf2 mf2 cd2 k2 e → ((pJ g st p).1 = true ∧ (pJ g st p).2.1 = e → cN 0 cd0 cd2 k2 (pJ g st p).2.2.1 ∧ lf2 = nI (pJ g st p).2.2.2.1 ∧ mf2 = nI (pJ g st p).2.2.2.2) → Q (some (.int (if (pJ g st p).1 = true ∧ (pJ g st p).2.1 = e then 1 else 0))) h2) := K
        have hf : ¬ ((pJ g st p).1 = true ∧ (pJ g st p).2.1 = e) := fun z => c60 z.2
        rw [if_neg hf] at K
        exact K h2 cd2 k2 lf2 mf2 fh2 R2 (fun z => absurd z hf)
      · have c60 : (pCl g p).2.1 = e := (nI_eq (by omega) (by omega)).mp c60
        refine mT_s rfl rfl ?_
        refine mT_ret rfl rfl ?_
        rw [pIn_stop (show ¬ ((pJ g st p).1 = true ∧ g (pJ g st p).2.1 = 59) from fun z => absurd (z.2.symm.trans (by show g (pCl g p).2.1 = -1; exact hgk _ (by omega))) (by decide))] at K
        have hf : ((pJ g st p).1 = true ∧ (pJ g st p).2.1 = e) := ⟨hb, c60⟩
        rw [if_pos hf] at K
        exact K h2 cd2 k2 lf2 mf2 fh2 R2 (fun _ => ⟨oN, o3', o4'⟩)
  | succ n ih =>
    intro c h st p cd k hcn hc1 hst R fh hp hkp hcN K
    obtain ⟨hR, hC, hk0⟩ := id R
    have T : rTp h g e := T0.c fh
    obtain ⟨⟨tf, ht, etf⟩, hgk, he, hN⟩ := id T
    iterate 2 refine mT_s rfl rfl ?_
    refine mT_icmp_gt rfl (fun z => absurd ((nI_ltI (a := 10) (by omega) (by omega)).mp z) (by omega)) (fun _ => ?_)
    refine mT_s rfl rfl ?_
    (apply mT_inv; (case hc => rfl); (case hd => rfl); (case hb => first | rfl | assumption); (case hg => rfl))
    refine x_clause d h _ p _ _ cd k e R g T hp hkp (fun h2 cd2 k2 lf2 mf2 f2 R2 hok => ?_)
    have hcl := pCl_ok (p := p) hgk
    have hpe := hcl.2.1 hp
    have hR2 := R2.1
    have hN2 : 87 ≤ m_nx h2 := nx_eq (f2 0 (by decide) (by decide)) hN
    have fh2 : ∀ a, a ≠ 51 → a ≠ 52 → h2 a = h0 a := fun a x y => (f2 a x y).trans (fh a x y)
    rcases hb : (pCl g p).1 with _ | _
    · iterate 2 refine mT_s rfl rfl ?_
      refine mT_ret rfl rfl ?_
      rw [pIn_stop (show ¬ ((pJ g st p).1 = true ∧ g (pJ g st p).2.1 = 59) from fun z => absurd (hb.symm.trans z.1) (by decide))] at K
      have hf : ¬ ((pJ g st p).1 = true ∧ (pJ g st p).2.1 = e) := fun z => absurd (hb.symm.trans z.1) (by decide)
      rw [if_neg hf] at K
      exact K h2 cd2 k2 lf2 mf2 fh2 R2 (fun z => absurd z hf)
    · obtain ⟨o1, o2, o3, o4⟩ := hok hb
      have o3' : lf2 = nI (if (pCl g p).2.2.2.1 = 1 then (pCl g p).2.2.2.2 else st.2.2.2.1) := by rw [o3]; split <;> rfl
      have o4' : mf2 = nI (if (pCl g p).2.2.2.1 = 2 then (pCl g p).2.2.2.2 else st.2.2.2.2) := by rw [o4]; split <;> rfl
      have oN : cN 0 cd0 cd2 k2 (pJ g st p).2.2.1 := hcN.tr o1
      iterate 2 refine mT_s rfl rfl ?_
      (apply mT_getf; (case hc => rfl); (case ha => first | rfl | assumption); (case hf => first | rfl | assumption))
      refine mT_s rfl rfl ?_
      (apply mT_getf; (case hc => rfl); (case ha => first | rfl | assumption); (case hf => first | rfl | assumption))
      refine mT_icmp_ne rfl (fun c60 => ?_) (fun c60 => ?_)
      · have c60 : ¬ (pCl g p).2.1 = e := fun z => c60 (congrArg nI z)
        iterate 2 refine mT_s rfl rfl ?_
        refine mT_icmp_eq rfl (fun z => absurd ((nI_eq (b := 10) (by omega) (by omega)).mp z) (by omega)) (fun _ => ?_)
        iterate 2 refine mT_s rfl rfl ?_
        (apply mT_inv; (case hc => rfl); (case hd => rfl); (case hb => first | rfl | assumption); (case hg => rfl))
        refine x_sign _ h2 _ _ lf2 mf2 cd2 k2 e R2 g (T0.c fh2) hpe 59 (by decide) (fun hg9 hp9 h3 f3 R3 => ?_) (fun hg9 => ?_)
        · iterate 3 refine mT_s rfl rfl ?_
          rw [nI_1]
          rw [pIn_go (show (pJ g st p).1 = true ∧ g (pJ g st p).2.1 = 59 from ⟨hb, hg9⟩)] at K
          refine ih (c + 1) h3 (pJ g st p) _ cd2 k2 (by omega) (by omega) hb (by rw [← show lf2 = nI (pJ g st p).2.2.2.1 from o3', ← show mf2 = nI (pJ g st p).2.2.2.2 from o4']; exact R3) (fun a x y => (f3 a x y).trans (fh2 a x y)) hp9 (Nat.le_succ_of_le o2) oN K
        · iterate 2 refine mT_s rfl rfl ?_
          refine mT_ret rfl rfl ?_
          rw [pIn_stop (show ¬ ((pJ g st p).1 = true ∧ g (pJ g st p).2.1 = 59) from fun z => hg9 z.2)] at K
          have hf : ¬ ((pJ g st p).1 = true ∧ (pJ g st p).2.1 = e) := fun z => c60 z.2
          rw [if_neg hf] at K
          exact K h2 cd2 k2 lf2 mf2 fh2 R2 (fun z => absurd z hf)
      · have c60 : (pCl g p).2.1 = e := (nI_eq (by omega) (by omega)).mp c60
        refine mT_s rfl rfl ?_
        refine mT_ret rfl rfl ?_
        rw [pIn_stop (show ¬ ((pJ g st p).1 = true ∧ g (pJ g st p).2.1 = 59) from fun z => absurd (z.2.symm.trans (by show g (pCl g p).2.1 = -1; exact hgk _ (by omega))) (by decide))] at K
        have hf : ((pJ g st p).1 = true ∧ (pJ g st p).2.1 = e) := ⟨hb, c60⟩
        rw [if_pos hf] at K
        exact K h2 cd2 k2 lf2 mf2 fh2 R2 (fun _ => ⟨oN, o3', o4'⟩)
/-- the reader, as it lies between calls -/
def rRdS (h : mH) : Prop := (∃ (a b c f z : Int32) (v : Value), h 51 = .inr (6, [.int a, .int b, .int c, .ref 52, .int f, v, .int z])) ∧ ∃ cd, h 52 = .inl (0, 100, .inl cd)
theorem x_reads (d : Nat) (h : mH) (Q : Option Value → mH → Prop) (S : rRdS h) (e : Nat) (g : Nat → Int32) (T : rTp h g e) (K : ∀ h2 cd0 cd2 k2 lf2 mf2, (∀ a, a ≠ 51 → a ≠ 52 → h2 a = h a) → rRd h2 (pInn g).2.1 lf2 mf2 cd2 k2 e → ((pInn g).1 = true ∧ (pInn g).2.1 = e → cN 0 cd0 cd2 k2 (pInn g).2.2.1 ∧ lf2 = nI (pInn g).2.2.2.1 ∧ mf2 = nI (pInn g).2.2.2.2) → Q (some (.int (if (pInn g).1 = true ∧ (pInn g).2.1 = e then 1 else 0))) h2) : mT0 (d + 23) z_X6_reads 0 (m_init z_X6_reads [.ref 51, .ref 26, .int (nI e)]) [] h Q := by
  obtain ⟨⟨a1, b1, c1, f1, z1, v1, hR⟩, cd, hC⟩ := S
  obtain ⟨⟨tf, ht, etf⟩, hgk, he, hN⟩ := id T
  iterate 2 refine mT_s rfl rfl ?_
  (apply mT_putfN; (case hc => rfl); (case ha => first | rfl | assumption); (case hN => assumption); (case hg => rfl))
  iterate 3 refine mT_s rfl rfl ?_
  (apply mT_alen; (case hc => rfl); (case ha => first | rfl | assumption))
  refine mT_s rfl rfl ?_
  (apply mT_putfN; (case hc => rfl); (case ha => first | rfl | assumption); (case hN => assumption); (case hg => rfl))
  iterate 2 refine mT_s rfl rfl ?_
  (apply mT_putfN; (case hc => rfl); (case ha => first | rfl | assumption); (case hN => assumption); (case hg => rfl))
  iterate 2 refine mT_s rfl rfl ?_
  (apply mT_putfN; (case hc => rfl); (case ha => first | rfl | assumption); (case hN => assumption); (case hg => rfl))
  iterate 2 refine mT_s rfl rfl ?_
  (apply mT_putfN; (case hc => rfl); (case ha => first | rfl | assumption); (case hN => assumption); (case hg => rfl))
  iterate 2 refine mT_s rfl rfl ?_
  (apply mT_putfN; (case hc => rfl); (case ha => first | rfl | assumption); (case hN => assumption); (case hg => rfl))
  iterate 2 refine mT_s rfl rfl ?_
  simp only [m_up_up]
  rw [show (if nI 100 < nI e then nI 100 else nI e) = nI e from if_neg (fun z => absurd ((nI_ltI (by omega) (by omega)).mp z) (by omega))]
  have T2 : rTp (m_up h 51 (.inr (6, [.int 0, .int 1, .int 1, .ref 52, .int 0, .ref 26, .int (nI e)]))) g e := T.c (fun a x y => m_up_n x)
  refine x_rd_L d Q cd e g _ T2 9 1 _ (true, 0, [], 1, 1) 0 cd 0 (by omega) (by omega) rfl ⟨rfl, hC, by omega⟩ (fun _ _ _ => rfl) (Nat.zero_le _) (Nat.le_refl _) cN.rfl' (fun h2 cd2 k2 lf2 mf2 f2 R2 hok => K h2 cd cd2 k2 lf2 mf2 (fun a x y => (f2 a x y).trans (m_up_n x)) R2 hok)