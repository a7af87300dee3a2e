/-! By program (wip/whole/book*.py) and hand. -/
/-- a clause: right or not, how far, the steps, 1 for less and 2 for more, how many -/
abbrev cR : Type := Bool × Nat × List Tok × Nat × Nat
def fIft : Nat → Int32 := k_tab (k_byt.getD 2 [])
def fEss : Nat → Int32 := k_tab (k_byt.getD 3 [])
def fDuck : Nat → Int32 := k_tab (k_byt.getD 4 [])
def fMore : Nat → Int32 := k_tab (k_byt.getD 5 [])
def pCl (g : Nat → Int32) (p : Nat) : cR :=
  if g p = 100 then ((pMuch g fDuck 5 p true).1, (pMuch g fDuck 5 p true).2.1, (pMuch g fDuck 5 p true).2.2, 0, 0)
  else if g p = 108 then (if g (p + 1) = 105 then ((pMuch g fIft 4 (p + 1) false).1, (pMuch g fIft 4 (p + 1) false).2.1, (pMuch g fIft 4 (p + 1) false).2.2, 0, 0)
    else ((pTell g fEss 4 (p + 1)).1, (pTell g fEss 4 (p + 1)).2.1, [], 1, (pTell g fEss 4 (p + 1)).2.2))
  else if g p = 109 then ((pTell g fMore 5 p).1, (pTell g fMore 5 p).2.1, [], 2, (pTell g fMore 5 p).2.2)
  else (false, p, [], 0, 0)
def u_c (act kd v : Nat) (s : Nat → Int32) : Nat → Int32 := if kd = 1 then upd s (174 + act) (nI v) else if kd = 2 then upd s (179 + act) (nI v) else s
/-- where in the rows an inn may write -/
def tx (act : Nat) (s s2 : Nat → Int32) : Prop := ∀ j, j ≠ 174 + act → j ≠ 179 + act → j ≠ 184 + act → ¬ (189 + 140 * act ≤ j ∧ j < 329 + 140 * act) → s2 j = s j
theorem tw.tx {act : Nat} {s s2 : Nat → Int32} (h : tw act s s2) : tx act s s2 := fun j _ _ h3 h4 => h j h3 h4
theorem tx.tr {act : Nat} {s s2 s3 : Nat → Int32} (a : tx act s s2) (b : tx act s2 s3) : tx act s s3 := fun j h1 h2 h3 h4 => (b j h1 h2 h3 h4).trans (a j h1 h2 h3 h4)
theorem u_c_x (act kd v : Nat) (s : Nat → Int32) : tx act s (u_c act kd v s) := by
  intro j h1 h2 _ _
  unfold u_c
  repeat' split
  · exact upd_n _ _ h1
  · exact upd_n _ _ h2
  · rfl
theorem tx.sgeq {act : Nat} {s s2 : Nat → Int32} (a : tx act s s2) {e : Nat} (he : e ≤ 100) : sg s2 e = sg s e := by
  funext p
  unfold sg
  split
  · exact a _ (by omega) (by omega) (by omega) (by omega)
  · rfl
theorem pMuch_ok {g f : Nat → Int32} {e n p : Nat} {b : Bool} (h : gOk g e) (hf : ∀ j, j < n → ¬ f j = -1) : pOk e p (pMuch g f n p b) ∧ ((pMuch g f n p b).1 = true → ∀ rest, w_toks 0 rest → w_toks 0 ((pMuch g f n p b).2.2 ++ rest)) := by
  have hA := pSpk_ok h (r := n) (k := 0) (p := p) (fun j hj => hf j (by omega))
  have hB := pNum_ok (p := (pSpk g f n 0 p).2) h
  have hC := pSo_ok h (pF_ok h 5) ((pNum g (pSpk g f n 0 p).2).2.1 + 1)
  have hW := pSo_w (g := g) (pF_w h 5) ((pNum g (pSpk g f n 0 p).2).2.1 + 1)
  unfold pMuch
  by_cases h1 : (pSpk g f n 0 p).1 = true
  · rw [if_pos h1]
    by_cases h2 : (pNum g (pSpk g f n 0 p).2).1 = true
    · rw [if_pos h2]
      by_cases h3 : g (pNum g (pSpk g f n 0 p).2).2.1 = 32
      · rw [if_pos h3]
        have a1 := h.lt h3 (by decide)
        obtain ⟨c1, c2, c3⟩ := hC
        have b4 := hB.2.2.2 h2
        refine ⟨⟨?_, fun _ => c2 (by omega), fun w => ?_⟩, fun w rest hr => ?_⟩
        · show p ≤ (pSo (pF g 5) g ((pNum g (pSpk g f n 0 p).2).2.1 + 1)).2.1
          omega
        · have := c3 w
          show p + 1 ≤ (pSo (pF g 5) g ((pNum g (pSpk g f n 0 p).2).2.1 + 1)).2.1 ∧ ((pSo (pF g 5) g ((pNum g (pSpk g f n 0 p).2).2.1 + 1)).2.2 ++ [Sum.inr (Sum.inr (b, (pNum g (pSpk g f n 0 p).2).2.2))]).length + p ≤ (pSo (pF g 5) g ((pNum g (pSpk g f n 0 p).2).2.1 + 1)).2.1
          rw [List.length_append, List.length_singleton]
          omega
        · show w_toks 0 ((pSo (pF g 5) g ((pNum g (pSpk g f n 0 p).2).2.1 + 1)).2.2 ++ [Sum.inr (Sum.inr (b, (pNum g (pSpk g f n 0 p).2).2.2))] ++ rest)
          rw [List.append_assoc]
          exact hW w 0 _ (by omega) ⟨rfl, hB.2.2.1, hr⟩
      · rw [if_neg h3]
        exact ⟨⟨by show p ≤ (pNum g (pSpk g f n 0 p).2).2.1; omega, fun z => hB.2.1 (hA.2.1 z), fun z => absurd (show false = true from z) (by decide)⟩, fun z => absurd (show false = true from z) (by decide)⟩
    · rw [if_neg h2]
      exact ⟨⟨by show p ≤ (pNum g (pSpk g f n 0 p).2).2.1; omega, fun z => hB.2.1 (hA.2.1 z), fun z => absurd (show false = true from z) (by decide)⟩, fun z => absurd (show false = true from z) (by decide)⟩
  · rw [if_neg h1]
    exact ⟨⟨hA.1, hA.2.1, fun z => absurd (show false = true from z) (by decide)⟩, fun z => absurd (show false = true from z) (by decide)⟩
theorem pTell_ok {g f : Nat → Int32} {e n p : Nat} (h : gOk g e) (hf : ∀ j, j < n → ¬ f j = -1) : p ≤ (pTell g f n p).2.1 ∧ (p ≤ e → (pTell g f n p).2.1 ≤ e) ∧ (pTell g f n p).2.2 < 100 ∧ ((pTell g f n p).1 = true → p + 1 ≤ (pTell g f n p).2.1) := by
  have hA := pSpk_ok h (r := n) (k := 0) (p := p) (fun j hj => hf j (by omega))
  have hB := pNum_ok (p := (pSpk g f n 0 p).2) h
  unfold pTell
  by_cases h1 : (pSpk g f n 0 p).1 = true
  · rw [if_pos h1]
    exact ⟨by omega, fun z => hB.2.1 (hA.2.1 z), hB.2.2.1, fun z => by have := hB.2.2.2 z; omega⟩
  · rw [if_neg h1]
    exact ⟨hA.1, hA.2.1, by show 0 < 100; decide, fun z => absurd (show false = true from z) (by decide)⟩
theorem f_1 : (∀ j, j < 4 → ¬ fIft j = -1) ∧ (∀ j, j < 4 → ¬ fEss j = -1) ∧ (∀ j, j < 5 → ¬ fDuck j = -1) ∧ (∀ j, j < 5 → ¬ fMore j = -1) := by decide
theorem f_2 : (∀ j, j < 4 → ∃ c : Nat, c < 128 ∧ fIft j = nI c) ∧ (∀ j, j < 4 → ∃ c : Nat, c < 128 ∧ fEss j = nI c) ∧ (∀ j, j < 5 → ∃ c : Nat, c < 128 ∧ fDuck j = nI c) ∧ (∀ j, j < 5 → ∃ c : Nat, c < 128 ∧ fMore j = nI c) := by
  refine ⟨fun j hj => ?_, fun j hj => ?_, fun j hj => ?_, fun j hj => ?_⟩
  · match j, hj with
    | 0, _ => exact ⟨105, by decide, rfl⟩
    | 1, _ => exact ⟨102, by decide, rfl⟩
    | 2, _ => exact ⟨116, by decide, rfl⟩
    | 3, _ => exact ⟨32, by decide, rfl⟩
  · match j, hj with
    | 0, _ => exact ⟨101, by decide, rfl⟩
    | 1, _ => exact ⟨115, by decide, rfl⟩
    | 2, _ => exact ⟨115, by decide, rfl⟩
    | 3, _ => exact ⟨32, by decide, rfl⟩
  · match j, hj with
    | 0, _ => exact ⟨100, by decide, rfl⟩
    | 1, _ => exact ⟨117, by decide, rfl⟩
    | 2, _ => exact ⟨99, by decide, rfl⟩
    | 3, _ => exact ⟨107, by decide, rfl⟩
    | 4, _ => exact ⟨32, by decide, rfl⟩
  · match j, hj with
    | 0, _ => exact ⟨109, by decide, rfl⟩
    | 1, _ => exact ⟨111, by decide, rfl⟩
    | 2, _ => exact ⟨114, by decide, rfl⟩
    | 3, _ => exact ⟨101, by decide, rfl⟩
    | 4, _ => exact ⟨32, by decide, rfl⟩
/-- of a clause: how far, how many steps, well made -/
theorem pCl_ok {g : Nat → Int32} {e p : Nat} (h : gOk g e) : p ≤ (pCl g p).2.1 ∧ (p ≤ e → (pCl g p).2.1 ≤ e) ∧ ((pCl g p).1 = true → p + 1 ≤ (pCl g p).2.1 ∧ (pCl g p).2.2.1.length + p ≤ (pCl g p).2.1 ∧ ∀ rest, w_toks 0 rest → w_toks 0 ((pCl g p).2.2.1 ++ rest)) ∧ (pCl g p).2.2.2.2 < 100 := by
  unfold pCl
  by_cases h1 : g p = 100
  · rw [if_pos h1]
    obtain ⟨⟨a, b, c⟩, w⟩ := pMuch_ok (p := p) (b := true) h f_1.2.2.1
    exact ⟨a, b, fun z => ⟨(c z).1, (c z).2, w z⟩, by show 0 < 100; decide⟩
  · rw [if_neg h1]
    by_cases h2 : g p = 108
    · rw [if_pos h2]
      have a1 := h.lt h2 (by decide)
      by_cases h3 : g (p + 1) = 105
      · rw [if_pos h3]
        obtain ⟨⟨a, b, c⟩, w⟩ := pMuch_ok (p := p + 1) (b := false) h f_1.1
        exact ⟨by show p ≤ (pMuch g fIft 4 (p + 1) false).2.1; omega, fun _ => b (by omega), fun z => ⟨by have := (c z).1; show p + 1 ≤ (pMuch g fIft 4 (p + 1) false).2.1; omega, by have := (c z).2; show (pMuch g fIft 4 (p + 1) false).2.2.length + p ≤ (pMuch g fIft 4 (p + 1) false).2.1; omega, w z⟩, by show 0 < 100; decide⟩
      · rw [if_neg h3]
        obtain ⟨a, b, c, w⟩ := pTell_ok (p := p + 1) h f_1.2.1
        exact ⟨by show p ≤ (pTell g fEss 4 (p + 1)).2.1; omega, fun _ => b (by omega), fun z => ⟨by have := w z; show p + 1 ≤ (pTell g fEss 4 (p + 1)).2.1; omega, by show 0 + p ≤ (pTell g fEss 4 (p + 1)).2.1; omega, fun _ hr => hr⟩, c⟩
    · rw [if_neg h2]
      by_cases h3 : g p = 109
      · rw [if_pos h3]
        obtain ⟨a, b, c, w⟩ := pTell_ok (p := p) h f_1.2.2.2
        exact ⟨a, b, fun z => ⟨w z, by show 0 + p ≤ (pTell g fMore 5 p).2.1; omega, fun _ hr => hr⟩, c⟩
      · rw [if_neg h3]
        exact ⟨Nat.le_refl _, fun z => z, fun z => absurd (show false = true from z) (by decide), by show 0 < 100; decide⟩
theorem e_clauseOfL (d : Nat) (s : Nat → Int32) (o t : Nat) (pd bw : Int64) (Q : Option Value → mH → Prop) (e : Nat) (act : Nat) (ha : act < 5) (g : Nat → Int32) (hgk : gOk g e) (L : Nat) (xs : Nat → Int32) (h : mH) (i : Nat → Int32) (p : Nat) (hc : rC h i s o t pd bw e p false) (hst : hS L xs h) (hi5 : i 5 = nI act) (hg : sg s e = g) (k0 : Nat) (hi9 : i 9 = nI 0) (hk : s (184 + act) = nI k0) (hk0 : k0 ≤ p)  (h108 : g p = 108) (K : ∀ h2 i2 s2, rZ h i o t pd bw h2 i2 s2 (pCl g p).2.1 (!(pCl g p).1) → tx act s s2 → ((pCl g p).1 = true → tk act k0 (u_c act (pCl g p).2.2.2.1 (pCl g p).2.2.2.2 s) s2 (pCl g p).2.2.1) → Q none h2) : mT0 (d + 25) z_X10_clauseOfL 0 (m_init z_X10_clauseOfL [.ref 76]) [] h Q := by
  obtain ⟨hM, h77, hN, ix1, h7, h8, he, hpe⟩ := id hc
  iterate 2 refine mT_s rfl rfl ?_
  (apply mT_inv; (case hc => rfl); (case hd => rfl); (case hb => first | rfl | assumption); (case hg => rfl))
  refine e_must _ h s i o t pd bw _ e p _ hc (fun _ h1 i1 z1 => ?_) (fun hm => absurd (hg ▸ h108) hm)
  have hp1 : p + 1 ≤ e := hgk.lt h108 (by decide)
  have hc1 := z1.c hc hp1
  obtain ⟨hM1, h771, hN1, -, -, -, -, -⟩ := id hc1
  refine mT_s rfl rfl ?_
  (apply mT_inv; (case hc => rfl); (case hd => rfl); (case hb => first | rfl | assumption); (case hg => rfl))
  refine e_here _ _ s _ o t pd bw _ e _ _ hc1 ?_
  rw [hg]
  refine mT_s rfl rfl ?_
  refine mT_icmp_ne rfl (fun c12 => ?_) (fun c12 => ?_)
  · iterate 3 refine mT_s rfl rfl ?_
    (apply mT_inv; (case hc => rfl); (case hd => rfl); (case hb => first | rfl | assumption); (case hg => rfl))
    refine e_tellsHere _ s o t pd bw _ e act ha g hgk L xs h1 i1 (p + 1) hc1 (hst.z z1) (z1.f5.trans hi5) hg 10 16 4 fEss rfl rfl (by decide) f_2.2.1 (by decide) (by decide) ((hst.z z1) 10 (by decide) (by decide)) ((hst.z z1) 16 (by decide) (by decide)) 174 (by decide) (fun hT1 h3 i3 z3 => ?_) (fun hT1 h3 i3 z3 => ?_)
    · have hT2 := hT1
      refine mT_ret rfl rfl ?_
      have hv : pCl g p = ((pTell g fEss 4 (p + 1)).1, (pTell g fEss 4 (p + 1)).2.1, [], 1, (pTell g fEss 4 (p + 1)).2.2) := by unfold pCl; rw [if_neg (fun z => absurd (h108.symm.trans z) (by decide)), if_pos h108, if_neg c12]
      rw [hv] at K
      exact K _ _ _ (by show rZ _ _ _ _ _ _ _ _ _ (pTell g fEss 4 (p + 1)).2.1 (!(pTell g fEss 4 (p + 1)).1); rw [hT1]; exact (z1.tr z3)) (fun _ _ _ _ _ => rfl) (fun z => absurd (hT1.symm.trans z) (by decide))
    · have hT2 := hT1
      refine mT_ret rfl rfl ?_
      have hv : pCl g p = ((pTell g fEss 4 (p + 1)).1, (pTell g fEss 4 (p + 1)).2.1, [], 1, (pTell g fEss 4 (p + 1)).2.2) := by unfold pCl; rw [if_neg (fun z => absurd (h108.symm.trans z) (by decide)), if_pos h108, if_neg c12]
      rw [hv] at K
      exact K _ _ _ (by show rZ _ _ _ _ _ _ _ _ _ (pTell g fEss 4 (p + 1)).2.1 (!(pTell g fEss 4 (p + 1)).1); rw [hT1]; exact (z1.tr z3)) (u_c_x act 1 _ s) (fun _ => tk.nil (by show upd s _ _ _ = _; rw [upd_n _ _ (by omega)]; exact hk))
  · iterate 3 refine mT_s rfl rfl ?_
    (apply mT_inv; (case hc => rfl); (case hd => rfl); (case hb => first | rfl | assumption); (case hg => rfl))
    refine e_much _ s o t pd bw _ e act ha g hgk L xs h1 i1 (p + 1) hc1 (hst.z z1) (z1.f5.trans hi5) hg 9 15 4 fIft rfl rfl (by decide) f_2.1 (by decide) (by decide) ((hst.z z1) 9 (by decide) (by decide)) ((hst.z z1) 15 (by decide) (by decide)) k0 (z1.f9.trans hi9) hk (by omega) false _ rfl (fun h3 i3 s3 z3 tw3 tk3 => ?_)
    refine mT_s rfl rfl ?_
    refine mT_ret rfl rfl ?_
    have hv : pCl g p = ((pMuch g fIft 4 (p + 1) false).1, (pMuch g fIft 4 (p + 1) false).2.1, (pMuch g fIft 4 (p + 1) false).2.2, 0, 0) := by unfold pCl; rw [if_neg (fun z => absurd (h108.symm.trans z) (by decide)), if_pos h108, if_pos c12]
    rw [hv] at K
    exact K _ _ _ (z1.tr z3) tw3.tx tk3
theorem e_clauseHere (d : Nat) (s : Nat → Int32) (o t : Nat) (pd bw : Int64) (Q : Option Value → mH → Prop) (e : Nat) (act : Nat) (ha : act < 5) (g : Nat → Int32) (hgk : gOk g e) (L : Nat) (xs : Nat → Int32) (h : mH) (i : Nat → Int32) (p : Nat) (hc : rC h i s o t pd bw e p false) (hst : hS L xs h) (hi5 : i 5 = nI act) (hg : sg s e = g) (k0 : Nat) (hi9 : i 9 = nI 0) (hk : s (184 + act) = nI k0) (hk0 : k0 ≤ p)  (K : ∀ h2 i2 s2, rZ h i o t pd bw h2 i2 s2 (pCl g p).2.1 (!(pCl g p).1) → tx act s s2 → ((pCl g p).1 = true → tk act k0 (u_c act (pCl g p).2.2.2.1 (pCl g p).2.2.2.2 s) s2 (pCl g p).2.2.1) → Q none h2) : mT0 (d + 26) z_X10_clauseHere 0 (m_init z_X10_clauseHere [.ref 76]) [] h Q := by
  obtain ⟨hM, h77, hN, ix1, h7, h8, he, hpe⟩ := id hc
  refine mT_s rfl rfl ?_
  (apply mT_inv; (case hc => rfl); (case hd => rfl); (case hb => first | rfl | assumption); (case hg => rfl))
  refine e_here _ _ s _ o t pd bw _ e _ _ hc ?_
  rw [hg]
  refine mT_lswc (v := 100) (t := 47) rfl (by decide) (fun c4_100 => ?_) (fun c4_100 => ?_)
  · iterate 3 refine mT_s rfl rfl ?_
    (apply mT_inv; (case hc => rfl); (case hd => rfl); (case hb => first | rfl | assumption); (case hg => rfl))
    refine e_much _ s o t pd bw _ e act ha g hgk L xs h i (p) hc hst hi5 hg 11 17 5 fDuck rfl rfl (by decide) f_2.2.2.1 (by decide) (by decide) (hst 11 (by decide) (by decide)) (hst 17 (by decide) (by decide)) k0 hi9 hk (by omega) true _ rfl (fun h3 i3 s3 z3 tw3 tk3 => ?_)
    refine mT_s rfl rfl ?_
    refine mT_ret rfl rfl ?_
    have hv : pCl g p = ((pMuch g fDuck 5 p true).1, (pMuch g fDuck 5 p true).2.1, (pMuch g fDuck 5 p true).2.2, 0, 0) := by unfold pCl; rw [if_pos c4_100]
    rw [hv] at K
    exact K _ _ _ z3 tw3.tx tk3
  refine mT_lswc (v := 108) (t := 40) rfl (by decide) (fun c4_108 => ?_) (fun c4_108 => ?_)
  · refine mT_s rfl rfl ?_
    (apply mT_inv; (case hc => rfl); (case hd => rfl); (case hb => first | rfl | assumption); (case hg => rfl))
    refine e_clauseOfL _ s o t pd bw _ e act ha g hgk L xs h i p hc hst hi5 hg k0 hi9 hk hk0 c4_108 (fun h3 i3 s3 z3 t3 k3 => ?_)
    refine mT_s rfl rfl ?_
    refine mT_ret rfl rfl ?_
    exact K _ _ _ z3 t3 k3
  refine mT_lswc (v := 109) (t := 59) rfl (by decide) (fun c4_109 => ?_) (fun c4_109 => ?_)
  · iterate 3 refine mT_s rfl rfl ?_
    (apply mT_inv; (case hc => rfl); (case hd => rfl); (case hb => first | rfl | assumption); (case hg => rfl))
    refine e_tellsHere _ s o t pd bw _ e act ha g hgk L xs h i (p) hc hst hi5 hg 12 18 5 fMore rfl rfl (by decide) f_2.2.2.2 (by decide) (by decide) (hst 12 (by decide) (by decide)) (hst 18 (by decide) (by decide)) 179 (by decide) (fun hT1 h3 i3 z3 => ?_) (fun hT1 h3 i3 z3 => ?_)
    · have hT2 := hT1
      refine mT_s rfl rfl ?_
      refine mT_ret rfl rfl ?_
      have hv : pCl g p = ((pTell g fMore 5 p).1, (pTell g fMore 5 p).2.1, [], 2, (pTell g fMore 5 p).2.2) := by unfold pCl; rw [if_neg c4_100, if_neg c4_108, if_pos c4_109]
      rw [hv] at K
      exact K _ _ _ (by show rZ _ _ _ _ _ _ _ _ _ (pTell g fMore 5 p).2.1 (!(pTell g fMore 5 p).1); rw [hT1]; exact z3) (fun _ _ _ _ _ => rfl) (fun z => absurd (hT1.symm.trans z) (by decide))
    · have hT2 := hT1
      refine mT_s rfl rfl ?_
      refine mT_ret rfl rfl ?_
      have hv : pCl g p = ((pTell g fMore 5 p).1, (pTell g fMore 5 p).2.1, [], 2, (pTell g fMore 5 p).2.2) := by unfold pCl; rw [if_neg c4_100, if_neg c4_108, if_pos c4_109]
      rw [hv] at K
      exact K _ _ _ (by show rZ _ _ _ _ _ _ _ _ _ (pTell g fMore 5 p).2.1 (!(pTell g fMore 5 p).1); rw [hT1]; exact z3) (u_c_x act 2 _ s) (fun _ => tk.nil (by show upd s _ _ _ = _; rw [upd_n _ _ (by omega)]; exact hk))
  refine mT_lswd (t := 71) rfl (by show (4 : Int) + Op.lookupswitch.offset [(100, 43), (108, 36), (109, 55)] 67 _ = _; rw [Op.lookupswitch.offset_cons, if_neg (sw_ne (v := 100) (n := 100) rfl c4_100), Op.lookupswitch.offset_cons, if_neg (sw_ne (v := 108) (n := 108) rfl c4_108), Op.lookupswitch.offset_cons, if_neg (sw_ne (v := 109) (n := 109) rfl c4_109)]; rfl) ?_
  iterate 2 refine mT_s rfl rfl ?_
  (apply mT_putfN; (case hc => rfl); (case ha => first | rfl | assumption); (case hN => assumption); (case hg => rfl))
  refine mT_ret rfl rfl ?_
  have hv : pCl g p = (false, p, [], 0, 0) := by unfold pCl; rw [if_neg c4_100, if_neg c4_108, if_neg c4_109]
  rw [hv] at K
  exact K _ _ _ (hc.u8 true).2 (fun _ _ _ _ _ => rfl) (fun z => absurd (show false = true from z) (by decide))
/-- the whole of an inn -/
def pJ (g : Nat → Int32) (st : cR) (p : Nat) : cR := ((pCl g p).1, (pCl g p).2.1, st.2.2.1 ++ (pCl g p).2.2.1, if (pCl g p).2.2.2.1 = 1 then (pCl g p).2.2.2.2 else st.2.2.2.1, if (pCl g p).2.2.2.1 = 2 then (pCl g p).2.2.2.2 else st.2.2.2.2)
def pIn (g : Nat → Int32) : Nat → cR → cR
  | 0, st => st
  | n + 1, st => if st.1 = true ∧ g st.2.1 = 59 then pIn g n (pJ g st (st.2.1 + 1)) else st
def pInn (g : Nat → Int32) : cR := pIn g 9 (pJ g (true, 0, [], 1, 1) 0)
/-- what the cells hold behind some clauses -/
def iS (act : Nat) (s0 s2 : Nat → Int32) (st : cR) : Prop := tx act s0 s2 ∧ (st.1 = true → s2 (184 + act) = nI st.2.2.1.length ∧ t_C s2 (189 + 140 * act) st.2.2.1 ∧ s2 (174 + act) = nI st.2.2.2.1 ∧ s2 (179 + act) = nI st.2.2.2.2 ∧ st.2.2.1.length ≤ st.2.1 ∧ w_toks 0 st.2.2.1 ∧ st.2.2.2.1 < 100 ∧ st.2.2.2.2 < 100)
theorem w_toks_0 : ∀ {l m : List Tok}, (∀ rest, w_toks 0 rest → w_toks 0 (l ++ rest)) → (∀ rest, w_toks 0 rest → w_toks 0 (m ++ rest)) → ∀ rest, w_toks 0 rest → w_toks 0 (l ++ m ++ rest) := by
  intro l m h1 h2 rest hr
  rw [List.append_assoc]
  exact h1 _ (h2 _ hr)
def iS2 (act : Nat) (s0 s2 : Nat → Int32) (st : cR) : Prop := tx act s0 s2 ∧ (st.1 = true → s2 (184 + act) = nI st.2.2.1.length ∧ t_C s2 (189 + 140 * act) st.2.2.1 ∧ s2 (174 + act) = nI st.2.2.2.1 ∧ s2 (179 + act) = nI st.2.2.2.2 ∧ st.2.2.1.length ≤ st.2.1 ∧ (∀ rest, w_toks 0 rest → w_toks 0 (st.2.2.1 ++ rest)) ∧ st.2.2.2.1 < 100 ∧ st.2.2.2.2 < 100)
theorem iS2.step {act : Nat} (ha : act < 5) {g : Nat → Int32} {e : Nat} (hgk : gOk g e) {s0 s s2 : Nat → Int32} {st : cR} {p : Nat} (h : iS2 act s0 s st) (ho : st.1 = true) (hp : st.2.1 ≤ p) (hx : tx act s s2) (hk : (pCl g p).1 = true → tk act st.2.2.1.length (u_c act (pCl g p).2.2.2.1 (pCl g p).2.2.2.2 s) s2 (pCl g p).2.2.1) : iS2 act s0 s2 (pJ g st p) := by
  obtain ⟨h0, h1⟩ := h
  obtain ⟨a1, a2, a3, a4, a5, a6, a7, a8⟩ := h1 ho
  obtain ⟨b1, b2, b3, b4⟩ := pCl_ok (p := p) hgk
  refine ⟨h0.tr hx, fun z => ?_⟩
  obtain ⟨k1, k2, k3, k4⟩ := hk z
  obtain ⟨c1, c2, c3⟩ := b3 z
  have hu1 : ∀ j, j ≠ 174 + act → j ≠ 179 + act → u_c act (pCl g p).2.2.2.1 (pCl g p).2.2.2.2 s j = s j := fun j x y => by
    unfold u_c
    repeat' split
    · exact upd_n _ _ x
    · exact upd_n _ _ y
    · rfl
  have hcell : ∀ j, j < 184 → s2 j = u_c act (pCl g p).2.2.2.1 (pCl g p).2.2.2.2 s j := fun j hj => k1 j (by omega) (by omega)
  refine ⟨?_, ?_, ?_, ?_, ?_, w_toks_0 a6 c3, ?_, ?_⟩
  · show s2 (184 + act) = nI (st.2.2.1 ++ (pCl g p).2.2.1).length
    rw [k3, List.length_append]
  · show t_C s2 (189 + 140 * act) (st.2.2.1 ++ (pCl g p).2.2.1)
    exact t_C_app (t_C_same (fun j x y => (k2 j x y).trans (hu1 j (by omega) (by omega))) a2) k4
  · show s2 (174 + act) = nI (if _ then _ else _)
    rw [hcell _ (by omega)]
    unfold u_c
    split
    · exact upd_s _ _ _
    · split
      · rw [upd_n _ _ (by omega)]; exact a3
      · exact a3
  · show s2 (179 + act) = nI (if _ then _ else _)
    rw [hcell _ (by omega)]
    unfold u_c
    by_cases e1 : (pCl g p).2.2.2.1 = 1
    · rw [if_pos e1, if_neg (by omega), upd_n _ _ (by omega)]; exact a4
    · rw [if_neg e1]
      split
      · exact upd_s _ _ _
      · exact a4
  · show (st.2.2.1 ++ (pCl g p).2.2.1).length ≤ (pCl g p).2.1
    rw [List.length_append]
    omega
  · show (if _ then _ else _) < 100
    split
    · exact b4
    · exact a7
  · show (if _ then _ else _) < 100
    split
    · exact b4
    · exact a8
theorem e_inn_L (d : Nat) (o t : Nat) (pd bw : Int64) (Q : Option Value → mH → Prop) (e : Nat) (act : Nat) (ha : act < 5) (g : Nat → Int32) (hgk : gOk g e) (L : Nat) (xs : Nat → Int32) (s0 : Nat → Int32)  : ∀ (r n : Nat) (h : mH) (i s : Nat → Int32) (st : cR), n + r = 10 → rC h i s o t pd bw e st.2.1 (!st.1) → hS L xs h → i 5 = nI act → i 9 = nI 0 → sg s e = g → iS2 act s0 s st → (∀ h2 i2 s2 x, rZ h i o t pd bw h2 i2 s2 (pIn g r st).2.1 (!(pIn g r st).1) → iS2 act s0 s2 (pIn g r st) → (pIn g r st).2.1 ≤ e → mT0 (d + 27) z_X10_inn 149 [some (.ref 76), x] [] h2 Q) → mT0 (d + 27) z_X10_inn 107 [some (.ref 76), some (.int (nI n))] [] h Q := by
  intro r
  induction r with
  | zero =>
    intro n h i s st hn hc hst hi5 hi9 hg hS2 K
    obtain ⟨hM, h77, hN, ix1, h7, h8, he, hpe⟩ := id hc
    refine mT_s rfl rfl ?_
    (apply mT_getf; (case hc => rfl); (case ha => first | rfl | assumption); (case hf => first | rfl | assumption))
    refine mT_if_ne rfl (fun c111 => ?_) (fun c111 => ?_)
    · exact K h i s _ hc.z hS2 hpe
    · iterate 2 refine mT_s rfl rfl ?_
      refine mT_icmp_ge rfl (fun _ => ?_) (fun c => absurd (nI_le (a := 10) (b := n) (by omega) (by omega)) c)
      exact K h i s _ hc.z hS2 hpe
  | succ r ih =>
    intro n h i s st hn hc hst hi5 hi9 hg hS2 K
    obtain ⟨hM, h77, hN, ix1, h7, h8, he, hpe⟩ := id hc
    cases hw : st.1 with
    | false =>
      rw [hw] at h8
      have e9 : pIn g (r + 1) st = st := by rw [pIn, if_neg (fun z => absurd (hw.symm.trans z.1) (by decide))]
      rw [e9] at K
      refine mT_s rfl rfl ?_
      (apply mT_getf; (case hc => rfl); (case ha => first | rfl | assumption); (case hf => first | rfl | assumption))
      refine mT_if_ne rfl (fun _ => ?_) (fun c => absurd (h8.symm.trans c) (by decide))
      exact K h i s _ hc.z hS2 hpe
    | true =>
      rw [hw] at h8 hc
      refine mT_s rfl rfl ?_
      (apply mT_getf; (case hc => rfl); (case ha => first | rfl | assumption); (case hf => first | rfl | assumption))
      refine mT_if_ne rfl (fun c => absurd h8 c) (fun _ => ?_)
      iterate 2 refine mT_s rfl rfl ?_
      refine mT_icmp_ge rfl (fun c => absurd c (nI_ge (a := n) (b := 10) (by omega) (by omega))) (fun _ => ?_)
      refine mT_s rfl rfl ?_
      (apply mT_inv; (case hc => rfl); (case hd => rfl); (case hb => first | rfl | assumption); (case hg => rfl))
      refine e_here _ _ s _ o t pd bw _ e _ _ hc ?_
      rw [hg]
      refine mT_s rfl rfl ?_
      refine mT_icmp_ne rfl (fun c126 => ?_) (fun c126 => ?_)
      · have e9 : pIn g (r + 1) st = st := by rw [pIn, if_neg (fun z => c126 z.2)]
        rw [e9] at K
        exact K h i s _ (by rw [hw]; exact hc.z) hS2 hpe
      · iterate 2 refine mT_s rfl rfl ?_
        (apply mT_getf; (case hc => rfl); (case ha => first | rfl | assumption); (case hf => first | rfl | assumption))
        iterate 2 refine mT_s rfl rfl ?_
        (apply mT_putfN; (case hc => rfl); (case ha => first | rfl | assumption); (case hN => assumption); (case hg => rfl))
        refine mT_s rfl rfl ?_
        (apply mT_inv; (case hc => rfl); (case hd => rfl); (case hb => first | rfl | assumption); (case hg => rfl))
        have e9 : pIn g (r + 1) st = pIn g r (pJ g st (st.2.1 + 1)) := by rw [pIn, if_pos ⟨hw, c126⟩]
        rw [e9] at K
        have hpe2 : st.2.1 + 1 ≤ e := hgk.lt c126 (by decide)
        have hz : rZ h i o t pd bw (m_up h 76 (.inr (10, mObj (upd i 6 (i 6 + 1)) o t pd bw))) (upd i 6 (i 6 + 1)) s (st.2.1 + 1) false := ⟨fun a x y => m_up_n x, rfl, h77, by rw [upd_s, ix1, nI_1], by rw [upd_n _ _ (by decide)]; exact h8, fun j x y => upd_n _ _ x⟩
        have hi := (hS2.2 hw)
        refine e_clauseHere _ s o t pd bw _ e act ha g hgk L xs (m_up h 76 _) _ (st.2.1 + 1) (hz.c hc hpe2) (hst.z hz) (hz.f5.trans hi5) hg st.2.2.1.length (hz.f9.trans hi9) hi.1 (by omega) (fun h3 i3 s3 z3 t3 k3 => ?_)
        have hq := pCl_ok (p := st.2.1 + 1) hgk
        have hc3 := z3.c (hz.c hc hpe2) (hq.2.1 hpe2)
        iterate 2 refine mT_s rfl rfl ?_
        rw [nI_1]
        exact ih (n + 1) h3 i3 s3 (pJ g st (st.2.1 + 1)) (by omega) hc3 ((hst.z hz).z z3) ((z3.f5.trans hz.f5).trans hi5) ((z3.f9.trans hz.f9).trans hi9) ((t3.sgeq he).trans hg) (hS2.step ha hgk hw (Nat.le_succ _) t3 k3) (fun h4 i4 s4 x z4 => K h4 i4 s4 x ((hz.tr z3).tr z4))