/-! By program (wip/whole/book*.py) and hand. -/
theorem x_purposeP (d : Nat) (h : mH) (Q : Option Value → mH → Prop) (it : Int32) (hX : h 20 = .inr (9, xObj it)) (i : Nat → Int32) (iv : Value) (s : Nat → Int32) (hI : s_Inv s) (l : List Tok) (le mo nb : Nat) (wi lo : Nat → Nat) (X : XR 21 h i iv s l le mo nb wi lo)  (hle : le ≤ 99) (hmo : mo ≤ 99) (hP : ∃ v1 : Value, ∃ v2 v3 : Int32, h 62 = .inr (5, [v1, .int v2, .int v3])) (mm : Nat → Nat) (g : Nat) (hmm : ∀ j, j < 5 → mm j ≤ 20) (hs : s_at s mm g = s) (hg : g ≤ 9999) (x y n part : Int32) (kN : ¬ (okP s x ∧ okP s y ∧ x ≠ y ∧ (1 ≤ n ∧ n ≤ 8) ∧ (0 ≤ part ∧ part ≤ 1)) → Q (some (.long (-9223372036854775808))) h) (k : ∀ a b : Nat, a < 5 → b < 5 → x = nI a → y = nI b → okP s x → okP s y → a ≠ b → ∀ m : Nat, m < 8 → n = nI (m + 1) → (0 ≤ part ∧ part ≤ 1) → ∀ h2, (∀ a, a ≠ 30 → a ≠ 62 → h2 a = h a) → (∃ f, h2 30 = .inl (0, 5, .inl f)) → (∃ v1 : Value, ∃ v2 v3 : Int32, h2 62 = .inr (5, [v1, .int v2, .int v3])) → XR 21 h2 i iv s l le mo nb wi lo → Q (some (.long (v_low (nP (a_od s l a b) (n_few le) (n_mor mo) m g (mm a) (mm b)) (10 ^ (m + 1)) part))) h2) : mT0 (d + 21) z_X9_purpose 0 (m_init z_X9_purpose [.ref 20, .int x, .int y, .int n, .int part]) [] h Q := by
  obtain ⟨B, XM, XT, XA, XB, XL, i0, i1, i2, i3, i4, i5⟩ := id X
  obtain ⟨hR, hN, hV, hwt, hK, hV5, hW, h9⟩ := id B
  obtain ⟨n9, hn5, hn6⟩ := hI.1
  have hi0 := i0.trans hn6
  obtain ⟨fk, hk, ek⟩ := id hK
  obtain ⟨fv, hv, ev⟩ := id hV5
  obtain ⟨fm, hm, em⟩ := id XM
  obtain ⟨fw, hw, ew⟩ := id hW
  obtain ⟨ft, ht, et⟩ := id XT
  obtain ⟨fa, hfa, ea⟩ := id XA
  obtain ⟨fb, hb, eb⟩ := id XB
  obtain ⟨fl, hfl, el⟩ := id XL
  have M : rMn 21 h mm := ⟨fm, hm, fun j hj => (em j hj).trans (by rw [← s_at_m s mm g hj, hs])⟩
  have hg1 : i 1 = nI g := i1.trans (by rw [← hs]; rfl)
  obtain ⟨v1, v2, v3, hP⟩ := hP
  iterate 3 refine mT_s rfl rfl ?_
  (apply mT_inv; (case hc => rfl); (case hd => rfl); (case hb => first | rfl | assumption); (case hg => rfl))
  refine x_refusal _ h _ it hX i iv hR s n9 hn5 hn6 hi0 x y (fun v => ?_) (fun v w e => ?_) (fun a b ha hb ix1 ix2 va vb hab => ?_)
  · iterate 2 refine mT_s rfl rfl ?_
    refine mT_ret rfl rfl ?_
    exact kN (fun z => v ⟨z.1, z.2.1⟩)
  · iterate 2 refine mT_s rfl rfl ?_
    refine mT_ret rfl rfl ?_
    exact kN (fun z => z.2.2.1 e)
  · iterate 3 refine mT_s rfl rfl ?_
    refine mT_icmp_lt rfl (fun c11 => ?_) (fun c11 => ?_)
    · refine mT_s rfl rfl ?_
      refine mT_ret rfl rfl ?_
      exact kN (fun z => absurd c11 (Int32.not_lt.mpr z.2.2.2.1.1))
    · iterate 2 refine mT_s rfl rfl ?_
      refine mT_icmp_gt rfl (fun c17 => ?_) (fun c17 => ?_)
      · refine mT_s rfl rfl ?_
        refine mT_ret rfl rfl ?_
        exact kN (fun z => absurd c17 (Int32.not_lt.mpr z.2.2.2.1.2))
      · refine mT_s rfl rfl ?_
        refine mT_c rfl rfl ?_
        refine x_isNoPart _ h _ _ (fun a22 => ?_) (fun a22 => ?_)
        · iterate 2 refine mT_s rfl rfl ?_
          refine mT_ret rfl rfl ?_
          exact kN (fun z => a22 z.2.2.2.2)
        · iterate 2 refine mT_s rfl rfl ?_
          (apply mT_getf; (case hc => rfl); (case ha => first | rfl | assumption); (case hf => first | rfl | assumption))
          refine mT_s rfl rfl ?_
          (apply mT_getf; (case hc => rfl); (case ha => first | rfl | assumption); (case hf => first | rfl | assumption))
          iterate 3 refine mT_s rfl rfl ?_
          (apply mT_inv; (case hc => rfl); (case hd => rfl); (case hb => first | rfl | assumption); (case hg => rfl))
          obtain ⟨m, hm, hnn⟩ : ∃ m : Nat, m < 8 ∧ n = nI (m + 1) := by
            obtain ⟨z, hz, rfl⟩ := i_nat (n := 8) (Int32.le_trans (by decide) (Int32.not_lt.mp c11)) (Int32.not_lt.mp c17) (by omega)
            rcases z with _ | z
            · exact absurd (Int32.not_lt.mp c11) (by decide)
            · exact ⟨z, by omega, rfl⟩
          rw [ix1, ix2, hnn]
          refine x_atBest _ h _ i iv s l le mo B hle hmo ⟨v1, v2, v3, hP⟩ mm M hmm g hg1 hg a b ha hb hab m hm (fun h2 r2 h30 h62 => ?_)
          have X2 := X.c5 (fun c z1 z2 => r2 c z1 (by omega)) h30
          have hX2 : h2 20 = _ := (r2 20 (by decide) (by decide)).trans hX
          have b0 : 10 ^ m ≤ 10 ^ 7 := Nat.pow_le_pow_right (by decide) (by omega)
          have b1 := nP_le (fw := n_few le) (mr := n_mor mo) (fun m o g => (a_od_n s l a b m o g).2.2) m g (mm a) (mm b)
          refine mT_s rfl rfl ?_
          refine mT_c rfl rfl ?_
          refine x_pow _ _ _ (m + 1) (by omega) ?_
          refine mT_s rfl rfl ?_
          refine mT_c rfl rfl ?_
          refine x_partOf _ _ _ (((nP (a_od s l a b) (n_few le) (n_mor mo) m g (mm a) (mm b)) : Nat) : Int) (by rw [Int.natAbs_natCast]; omega) _ part (Nat.pow_pos (by decide)) (by rw [Nat.pow_succ]; omega) ?_
          refine mT_ret rfl rfl ?_
          exact k a b ha hb ix1 ix2 va vb hab m hm hnn a22 h2 r2 h30 h62 X2

theorem x_losesP (d : Nat) (h : mH) (Q : Option Value → mH → Prop) (it : Int32) (hX : h 20 = .inr (9, xObj it)) (i : Nat → Int32) (iv : Value) (s : Nat → Int32) (hI : s_Inv s) (l : List Tok) (le mo nb : Nat) (wi lo : Nat → Nat) (X : XR 21 h i iv s l le mo nb wi lo)  (hle : le ≤ 99) (hmo : mo ≤ 99) (hP : ∃ v1 : Value, ∃ v2 v3 : Int32, h 62 = .inr (5, [v1, .int v2, .int v3])) (mm : Nat → Nat) (g : Nat) (hmm : ∀ j, j < 5 → mm j ≤ 20) (hs : s_at s mm g = s) (hg : g ≤ 9999) (x y n : Int32) (kN : ¬ (okP s x ∧ okP s y) → Q (some (.int (-1))) h) (kB : okP s x → okP s y → (x = y ∨ ¬ (1 ≤ n ∧ n ≤ 8)) → Q (some (.int (-2))) h) (k : ∀ a b : Nat, a < 5 → b < 5 → x = nI a → y = nI b → okP s x → okP s y → a ≠ b → ∀ m : Nat, m < 8 → n = nI (m + 1) → ∀ h2, (∀ a, a ≠ 30 → a ≠ 62 → h2 a = h a) → (∃ f, h2 30 = .inl (0, 5, .inl f)) → (∃ v1 : Value, ∃ v2 v3 : Int32, h2 62 = .inr (5, [v1, .int v2, .int v3])) → XR 21 h2 i iv s l le mo nb wi lo → Q (some (.int (bI (nPl (a_od s l a b) (n_few le) (n_mor mo) m g (mm a) (mm b))))) h2) : mT0 (d + 21) z_X9_loses 0 (m_init z_X9_loses [.ref 20, .int x, .int y, .int n]) [] h Q := by
  obtain ⟨B, XM, XT, XA, XB, XL, i0, i1, i2, i3, i4, i5⟩ := id X
  obtain ⟨hR, hN, hV, hwt, hK, hV5, hW, h9⟩ := id B
  obtain ⟨n9, hn5, hn6⟩ := hI.1
  have hi0 := i0.trans hn6
  obtain ⟨fk, hk, ek⟩ := id hK
  obtain ⟨fv, hv, ev⟩ := id hV5
  obtain ⟨fm, hm, em⟩ := id XM
  obtain ⟨fw, hw, ew⟩ := id hW
  obtain ⟨ft, ht, et⟩ := id XT
  obtain ⟨fa, hfa, ea⟩ := id XA
  obtain ⟨fb, hb, eb⟩ := id XB
  obtain ⟨fl, hfl, el⟩ := id XL
  have M : rMn 21 h mm := ⟨fm, hm, fun j hj => (em j hj).trans (by rw [← s_at_m s mm g hj, hs])⟩
  have hg1 : i 1 = nI g := i1.trans (by rw [← hs]; rfl)
  obtain ⟨v1, v2, v3, hP⟩ := hP
  iterate 3 refine mT_s rfl rfl ?_
  (apply mT_inv; (case hc => rfl); (case hd => rfl); (case hb => first | rfl | assumption); (case hg => rfl))
  refine x_refusal _ h _ it hX i iv hR s n9 hn5 hn6 hi0 x y (fun v => ?_) (fun v w e => ?_) (fun a b ha hb ix1 ix2 va vb hab => ?_)
  · iterate 4 refine mT_s rfl rfl ?_
    refine mT_ret rfl rfl ?_
    exact kN v
  · iterate 4 refine mT_s rfl rfl ?_
    refine mT_ret rfl rfl ?_
    exact kB v w (Or.inl e)
  · iterate 5 refine mT_s rfl rfl ?_
    refine mT_icmp_lt rfl (fun c18 => ?_) (fun c18 => ?_)
    · refine mT_s rfl rfl ?_
      refine mT_ret rfl rfl ?_
      exact kB va vb (Or.inr (fun z => absurd c18 (Int32.not_lt.mpr z.1)))
    · iterate 2 refine mT_s rfl rfl ?_
      refine mT_icmp_le rfl (fun c24 => ?_) (fun c24 => ?_)
      · refine mT_s rfl rfl ?_
        (apply mT_getf; (case hc => rfl); (case ha => first | rfl | assumption); (case hf => first | rfl | assumption))
        refine mT_s rfl rfl ?_
        (apply mT_getf; (case hc => rfl); (case ha => first | rfl | assumption); (case hf => first | rfl | assumption))
        iterate 3 refine mT_s rfl rfl ?_
        (apply mT_inv; (case hc => rfl); (case hd => rfl); (case hb => first | rfl | assumption); (case hg => rfl))
        obtain ⟨m, hm, hnn⟩ : ∃ m : Nat, m < 8 ∧ n = nI (m + 1) := by
          obtain ⟨z, hz, rfl⟩ := i_nat (n := 8) (Int32.le_trans (by decide) (Int32.not_lt.mp c18)) c24 (by omega)
          rcases z with _ | z
          · exact absurd (Int32.not_lt.mp c18) (by decide)
          · exact ⟨z, by omega, rfl⟩
        rw [ix1, ix2, hnn]
        refine x_losesFirst _ h _ i iv s l le mo B hle hmo ⟨v1, v2, v3, hP⟩ mm M hmm g hg1 hg a b ha hb hab m hm (fun h2 r2 h30 h62 => ?_)
        have X2 := X.c5 (fun c z1 z2 => r2 c z1 (by omega)) h30
        have K9 := k a b ha hb ix1 ix2 va vb hab m hm hnn h2 r2 h30 h62 X2
        refine mT_if_eq rfl (fun c44 => ?_) (fun c44 => ?_)
        · refine mT_s rfl rfl ?_
          refine mT_ret rfl rfl ?_
          rw [bI_0 c44] at K9
          exact K9
        · iterate 2 refine mT_s rfl rfl ?_
          refine mT_ret rfl rfl ?_
          rw [bI_1 c44] at K9
          exact K9
      · refine mT_s rfl rfl ?_
        refine mT_ret rfl rfl ?_
        exact kB va vb (Or.inr (fun z => c24 z.2))
