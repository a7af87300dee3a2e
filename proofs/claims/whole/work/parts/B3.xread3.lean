/-! By program (wip/whole/book*.py) and hand. -/
set_option maxHeartbeats 2000000 in
theorem x_one (e : Nat) (g : Nat → Int32) : ∀ lv, lv ≤ 5 → ∀ d, oSp z_X6_one (d + 3 * lv + 4) (5 - lv) e g (pF g lv) := by
  intro lv
  induction lv with
  | zero =>
    intro _ d h p k0 lf mf cd Q R T hp hkp K
    obtain ⟨hR, hC, hk0⟩ := id R
    obtain ⟨⟨tf, ht, etf⟩, hgk, he, hN⟩ := id T
    refine mT_s rfl rfl ?_
    (apply mT_inv; (case hc => rfl); (case hd => rfl); (case hb => first | rfl | assumption); (case hg => rfl))
    refine x_peek _ h _ p lf mf cd k0 e R g T hp ?_
    iterate 3 refine mT_s rfl rfl ?_
    refine mT_icmp_eq rfl (fun c8 => ?_) (fun c8 => ?_)
    · skip
      iterate 7 refine mT_s rfl rfl ?_
      refine mT_icmp_lt rfl (fun c => absurd c (by decide)) (fun _ => ?_)
      refine mT_s rfl rfl ?_
      refine mT_ret rfl rfl ?_
      have hv : pF g 0 p = (false, p, []) := by rw [pF, if_pos (Or.inl c8)]
      rw [hv] at K
      exact K h cd k0 (fun _ _ _ => rfl) R (fun z => absurd (show false = true from z) (by decide))
    · skip
      iterate 2 refine mT_s rfl rfl ?_
      refine mT_icmp_ne rfl (fun c14 => ?_) (fun c14 => ?_)
      · skip
        iterate 6 refine mT_s rfl rfl ?_
        (apply mT_inv; (case hc => rfl); (case hd => rfl); (case hb => first | rfl | assumption); (case hg => rfl))
        refine x_sign _ h _ p lf mf cd k0 e R g T hp 40 (by decide) (fun hgc => absurd hgc c14) (fun _ => ?_)
        iterate 3 refine mT_s rfl rfl ?_
        (apply mT_inv; (case hc => rfl); (case hd => rfl); (case hb => first | rfl | assumption); (case hg => rfl))
        refine x_sign _ h _ p lf mf cd k0 e R g T hp 33 (by decide) (fun hgc => absurd hgc c8) (fun _ => ?_)
        refine mT_s rfl rfl ?_
        rw [pF_test c8 c14] at K
        exact x_tst (d + 3 * 0 + 2) h Q p lf mf cd k0 e R g T hp hkp _ _ K
      · skip
        iterate 7 refine mT_s rfl rfl ?_
        refine mT_icmp_lt rfl (fun c => absurd c (by decide)) (fun _ => ?_)
        refine mT_s rfl rfl ?_
        refine mT_ret rfl rfl ?_
        have hv : pF g 0 p = (false, p, []) := by rw [pF, if_pos (Or.inr c14)]
        rw [hv] at K
        exact K h cd k0 (fun _ _ _ => rfl) R (fun z => absurd (show false = true from z) (by decide))
  | succ lv ih =>
    intro hlv d h p k0 lf mf cd Q R T hp hkp K
    obtain ⟨hR, hC, hk0⟩ := id R
    obtain ⟨⟨tf, ht, etf⟩, hgk, he, hN⟩ := id T
    refine mT_s rfl rfl ?_
    (apply mT_inv; (case hc => rfl); (case hd => rfl); (case hb => first | rfl | assumption); (case hg => rfl))
    refine x_peek _ h _ p lf mf cd k0 e R g T hp ?_
    iterate 3 refine mT_s rfl rfl ?_
    refine mT_icmp_eq rfl (fun c8 => ?_) (fun c8 => ?_)
    · skip
      iterate 7 refine mT_s rfl rfl ?_
      refine mT_icmp_lt rfl (fun _ => ?_) (fun c => absurd (nI_lt (a := 5 - (lv + 1)) (b := 5) (by omega) (by omega)) c)
      iterate 2 refine mT_s rfl rfl ?_
      (apply mT_inv; (case hc => rfl); (case hd => rfl); (case hb => first | rfl | assumption); (case hg => rfl))
      refine x_sign _ h _ p lf mf cd k0 e R g T hp 40 (by decide) (fun hgc => absurd (c8.symm.trans hgc) (by decide)) (fun _ => ?_)
      iterate 3 refine mT_s rfl rfl ?_
      (apply mT_inv; (case hc => rfl); (case hd => rfl); (case hb => first | rfl | assumption); (case hg => rfl))
      refine x_sign _ h _ p lf mf cd k0 e R g T hp 33 (by decide) (fun hgc hp1 h3 f3 R3 => ?_) (fun hgc => absurd c8 hgc)
      have hR3 := R3.1
      have hN3 : 87 ≤ m_nx h3 := nx_eq (f3 0 (by decide) (by decide)) hN
      iterate 5 refine mT_s rfl rfl ?_
      refine mT_c rfl rfl ?_
      rw [nI_1, show 5 - (lv + 1) + 1 = 5 - lv by omega]
      refine mT0_d (e := d + 2 + 3 * lv + 4) (by omega) ?_
      refine ih (by omega) (d + 2) h3 (p + 1) k0 lf mf cd _ R3 (T.c f3) hp1 (by omega) (fun h4 cd4 k4 f4 R4 hN4 => ?_)
      have hN4' : 87 ≤ m_nx h4 := nx_eq (f4 0 (by decide) (by decide)) hN3
      have hR4 := R4.1
      have fh4 : ∀ a, a ≠ 51 → a ≠ 52 → h4 a = h a := fun a x y => (f4 a x y).trans (f3 a x y)
      have hFk := pF_ok hgk lv (p + 1)
      have hpe4 := hFk.2.1 hp1
      rcases hb4 : (pF g lv (p + 1)).1 with _ | _
      · iterate 3 refine mT_s rfl rfl ?_
        (apply mT_inv; (case hc => rfl); (case hd => rfl); (case hb => first | rfl | assumption); (case hg => rfl))
        refine x_put_w _ h4 _ _ lf mf cd4 k4 e R4 hN4' _ (fun h5 cd5 k5 f5 R5 => ?_)
        refine mT_s rfl rfl ?_
        refine mT_ret rfl rfl ?_
        have hv : pF g (lv + 1) p = ((pF g lv (p + 1)).1, (pF g lv (p + 1)).2.1, (pF g lv (p + 1)).2.2 ++ [.inr (.inl 0)]) := by rw [pF, if_pos c8]
        rw [hv, hb4] at K
        exact K h5 cd5 k5 (fun a x y => (f5 a x y).trans (fh4 a x y)) R5 (fun z => absurd (show false = true from z) (by decide))
      · iterate 3 refine mT_s rfl rfl ?_
        (apply mT_inv; (case hc => rfl); (case hd => rfl); (case hb => first | rfl | assumption); (case hg => rfl))
        have hcn4 := hN4 hb4
        have hF3 := hFk.2.2 hb4
        have hFl : (cTs (pF g lv (p + 1)).2.2).length = (pF g lv (p + 1)).2.2.length := pF_n g lv _ hb4
        have hk4 := hcn4.1
        refine x_put _ h4 _ _ lf mf cd4 k4 e R4 hN4' _ (by omega) (fun h5 f5 R5 => ?_)
        refine mT_s rfl rfl ?_
        refine mT_ret rfl rfl ?_
        have hv : pF g (lv + 1) p = ((pF g lv (p + 1)).1, (pF g lv (p + 1)).2.1, (pF g lv (p + 1)).2.2 ++ [.inr (.inl 0)]) := by rw [pF, if_pos c8]
        rw [hv, hb4] at K
        exact K h5 _ _ (fun a x y => (f5 a x y).trans (fh4 a x y)) R5 (fun _ => hcn4.tr (cN_1 rfl))
    · skip
      iterate 2 refine mT_s rfl rfl ?_
      refine mT_icmp_ne rfl (fun c14 => ?_) (fun c14 => ?_)
      · skip
        iterate 6 refine mT_s rfl rfl ?_
        (apply mT_inv; (case hc => rfl); (case hd => rfl); (case hb => first | rfl | assumption); (case hg => rfl))
        refine x_sign _ h _ p lf mf cd k0 e R g T hp 40 (by decide) (fun hgc => absurd hgc c14) (fun _ => ?_)
        iterate 3 refine mT_s rfl rfl ?_
        (apply mT_inv; (case hc => rfl); (case hd => rfl); (case hb => first | rfl | assumption); (case hg => rfl))
        refine x_sign _ h _ p lf mf cd k0 e R g T hp 33 (by decide) (fun hgc => absurd hgc c8) (fun _ => ?_)
        refine mT_s rfl rfl ?_
        rw [pF_test c8 c14] at K
        exact x_tst (d + 3 * (lv + 1) + 2) h Q p lf mf cd k0 e R g T hp hkp _ _ K
      · skip
        iterate 7 refine mT_s rfl rfl ?_
        refine mT_icmp_lt rfl (fun _ => ?_) (fun c => absurd (nI_lt (a := 5 - (lv + 1)) (b := 5) (by omega) (by omega)) c)
        iterate 2 refine mT_s rfl rfl ?_
        (apply mT_inv; (case hc => rfl); (case hd => rfl); (case hb => first | rfl | assumption); (case hg => rfl))
        refine x_sign _ h _ p lf mf cd k0 e R g T hp 40 (by decide) (fun hgc hp1 h3 f3 R3 => ?_) (fun hgc => absurd c14 hgc)
        have hR3 := R3.1
        have hN3 : 87 ≤ m_nx h3 := nx_eq (f3 0 (by decide) (by decide)) hN
        iterate 5 refine mT_s rfl rfl ?_
        (apply mT_inv; (case hc => rfl); (case hd => rfl); (case hb => first | rfl | assumption); (case hg => rfl))
        rw [nI_1, show 5 - (lv + 1) + 1 = 5 - lv by omega]
        have hso : oSp z_X6_either (d + 3 * lv + 6) (5 - lv) e g (pSo (pF g lv) g) := x_either_sp (d + 3 * lv + 4) (5 - lv) e g (pEv (pF g lv) g) (x_both_sp (d + 3 * lv + 3) (5 - lv) e g (pF g lv) (ih (by omega) d) (pF_ok hgk lv) (pF_n g lv)) (pEv_ok hgk (pF_ok hgk lv)) (pEv_n (pF_n g lv))
        refine mT0_d (e := d + 3 * lv + 6) (by omega) ?_
        refine hso h3 (p + 1) k0 lf mf cd _ R3 (T.c f3) hp1 (by omega) (fun h4 cd4 k4 f4 R4 hN4 => ?_)
        have hN4' : 87 ≤ m_nx h4 := nx_eq (f4 0 (by decide) (by decide)) hN3
        have hR4 := R4.1
        have fh4 : ∀ a, a ≠ 51 → a ≠ 52 → h4 a = h a := fun a x y => (f4 a x y).trans (f3 a x y)
        have hFk := pSo_ok hgk (pF_ok hgk lv) (p + 1)
        have hpe4 := hFk.2.1 hp1
        rcases hb4 : (pSo (pF g lv) g (p + 1)).1 with _ | _
        · iterate 2 refine mT_s rfl rfl ?_
          refine mT_ret rfl rfl ?_
          have hv : pF g (lv + 1) p = (false, (pSo (pF g lv) g (p + 1)).2.1, (pSo (pF g lv) g (p + 1)).2.2) := by rw [pF, if_neg c8, if_pos c14, if_neg (fun z => absurd (hb4.symm.trans z.1) (by decide))]
          rw [hv] at K
          exact K h4 cd4 k4 fh4 R4 (fun z => absurd (show false = true from z) (by decide))
        · iterate 3 refine mT_s rfl rfl ?_
          (apply mT_inv; (case hc => rfl); (case hd => rfl); (case hb => first | rfl | assumption); (case hg => rfl))
          refine x_sign _ h4 _ (pSo (pF g lv) g (p + 1)).2.1 lf mf cd4 k4 e R4 g ((T.c f3).c f4) hpe4 41 (by decide) (fun hgc hp1 h5 f5 R5 => ?_) (fun hgc => ?_)
          · have hR5 := R5.1
            iterate 3 refine mT_s rfl rfl ?_
            refine mT_ret rfl rfl ?_
            have hv : pF g (lv + 1) p = (true, (pSo (pF g lv) g (p + 1)).2.1 + 1, (pSo (pF g lv) g (p + 1)).2.2) := by rw [pF, if_neg c8, if_pos c14, if_pos ⟨hb4, hgc⟩]
            rw [hv] at K
            exact K h5 cd4 k4 (fun a x y => (f5 a x y).trans (fh4 a x y)) R5 (fun _ => hN4 hb4)
          · iterate 2 refine mT_s rfl rfl ?_
            refine mT_ret rfl rfl ?_
            have hv : pF g (lv + 1) p = (false, (pSo (pF g lv) g (p + 1)).2.1, (pSo (pF g lv) g (p + 1)).2.2) := by rw [pF, if_neg c8, if_pos c14, if_neg (fun z => hgc z.2)]
            rw [hv] at K
            exact K h4 cd4 k4 fh4 R4 (fun z => absurd (show false = true from z) (by decide))