/-! By program (wip/whole/book*.py) and hand. -/
theorem rAr.e {h : mH} {a n off : Nat} {x : Nat → Int32} (r : rAr h a n off x) : ∃ f, h a = .inl (0, n, .inl f) := by
  obtain ⟨f, e, -⟩ := r
  exact ⟨f, e⟩
theorem rBk.e {h : mH} {a nb : Nat} {w : Nat → Nat} (r : rBk h a nb w) : ∃ f, h a = .inl (0, 8, .inl f) := by
  obtain ⟨f, e, -⟩ := r
  exact ⟨f, e⟩
theorem rSh_of {r : Nat} {h h0 : mH} {i i0 : Nat → Int32} {iv iv0 : Value} {s s0 : Nat → Int32} {l l0 : List Tok} {le mo le0 mo0 nb : Nat} {wi lo mm : Nat → Nat} (B : rBs r h i iv s l le mo) (M : rMn r h mm) (X : XR r h0 i0 iv0 s0 l0 le0 mo0 nb wi lo) (h5 : h (r + 5) = h0 (r + 5)) (h6 : h (r + 6) = h0 (r + 6)) (h7 : h (r + 7) = h0 (r + 7)) (h8 : h (r + 8) = h0 (r + 8)) : rSh r h := by
  obtain ⟨b1, b2, b3, b4, b5, b6, b7, b8⟩ := B
  obtain ⟨-, XM, XT, XA, XB, XL, -⟩ := X
  obtain ⟨fm, hm, -⟩ := M
  exact ⟨⟨_, _, b1⟩, b5.e, b6.e, ⟨fm, hm⟩, b7.e, by rw [h5]; exact XT.e, by rw [h6]; exact XB.e, by rw [h7]; exact XL.e, by rw [h8]; exact XA.e, b8⟩
theorem x_tableP (d : Nat) (h : mH) (Q : Option Value → mH → Prop) (it : Int32) (hX : h 20 = .inr (9, xObj it)) (i : Nat → Int32) (iv : Value) (s : Nat → Int32) (hI : s_Inv s) (l : List Tok) (le mo nb : Nat) (wi lo : Nat → Nat) (X : XR 21 h i iv s l le mo nb wi lo)  (hle : le ≤ 99) (hmo : mo ≤ 99) (hl140 : l.length ≤ 140) (hnb : nb ≤ 8) (hS72 : ∃ v1 : Value, ∃ v2 v3 : Int32, h 72 = .inr (8, [.ref 73, v1, .int v2, .int v3])) (hW73 : ∃ wf, h 73 = .inl (0, 13, .inl wf)) (hM41 : rSh 41 h) (mm : Nat → Nat) (g : Nat) (hmm : ∀ j, j < 5 → mm j ≤ 20) (hs : s_at s mm g = s) (hg : g ≤ 9999) (n : Nat) (hn : s 6 = nI n) (hn55 : n ≤ 5) (hsK : ∀ p, p < n → sK s p) (x y part : Int32) (kN : ¬ (okP s x ∧ (1 ≤ y ∧ y ≤ 8) ∧ (0 ≤ part ∧ part ≤ 1) ∧ 2 ≤ n) → Q (some (.long (-9223372036854775808))) h) (k : ∀ p m : Nat, p < n → x = nI p → m < 8 → y = nI (m + 1) → (0 ≤ part ∧ part ≤ 1) → 2 ≤ n → ∀ h2, (∀ c, c < 41 ∨ (50 < c ∧ c ≠ 72 ∧ c ≠ 73) → h2 c = h c) → rSh 41 h2 → (∃ v1 : Value, ∃ v2 v3 : Int32, h2 72 = .inr (8, [.ref 73, v1, .int v2, .int v3])) → (∃ wf, h2 73 = .inl (0, 13, .inl wf)) → XR 21 h2 i iv s l le mo nb wi lo → Q (some (.long (v_low (nT (a_od s l) le mo p m mm g 0 1 (t_row n)) (10 ^ (m + 1)) part))) h2) : mT0 (d + 21) z_X9_table 0 (m_init z_X9_table [.ref 20, .int x, .int y, .int part]) [] h Q := by
  obtain ⟨B, XM, XT, XA, XB, XL, i0, i1, i2, i3, i4, i5⟩ := id X
  obtain ⟨hR, hN, hV, hwt, hK, hV5, hW, h9⟩ := id B
  obtain ⟨n9, hn5, hn6⟩ := hI.1
  have hi0 := i0.trans hn6
  obtain ⟨fk, hk, ek⟩ := id hK
  obtain ⟨fv, hv, ev⟩ := id hV5
  obtain ⟨fm, hm, em⟩ := id XM
  obtain ⟨fw, hw, ew⟩ := id hW
  obtain ⟨ft, ht, et⟩ := id XT
  obtain ⟨fa, hfa, ea⟩ := id XA
  obtain ⟨fb, hb, eb⟩ := id XB
  obtain ⟨fl, hfl, el⟩ := id XL
  have M : rMn 21 h mm := ⟨fm, hm, fun j hj => (em j hj).trans (by rw [← s_at_m s mm g hj, hs])⟩
  have hg1 : i 1 = nI g := i1.trans (by rw [← hs]; rfl)
  obtain rfl : n = n9 := (nI_eq (by omega) (by omega)).mp (hn.symm.trans hn6)
  obtain ⟨t41, tv41, tR41⟩ := hM41.1
  iterate 2 refine mT_s rfl rfl ?_
  (apply mT_inv; (case hc => rfl); (case hd => rfl); (case hb => first | rfl | assumption); (case hg => rfl))
  refine x_isNobody _ h _ it hX i iv hR s n hn5 hn6 hi0 _ (fun v2 => ?_) (fun a2 ha2 ix1 v2 => ?_)
  · iterate 2 refine mT_s rfl rfl ?_
    refine mT_ret rfl rfl ?_
    exact kN (fun z => v2 z.1)
  · iterate 3 refine mT_s rfl rfl ?_
    refine mT_icmp_lt rfl (fun c10 => ?_) (fun c10 => ?_)
    · refine mT_s rfl rfl ?_
      refine mT_ret rfl rfl ?_
      exact kN (fun z => absurd c10 (Int32.not_lt.mpr z.2.1.1))
    · iterate 2 refine mT_s rfl rfl ?_
      refine mT_icmp_gt rfl (fun c16 => ?_) (fun c16 => ?_)
      · refine mT_s rfl rfl ?_
        refine mT_ret rfl rfl ?_
        exact kN (fun z => absurd c16 (Int32.not_lt.mpr z.2.1.2))
      · refine mT_s rfl rfl ?_
        refine mT_c rfl rfl ?_
        refine x_isNoPart _ h _ _ (fun a20 => ?_) (fun a20 => ?_)
        · iterate 2 refine mT_s rfl rfl ?_
          refine mT_ret rfl rfl ?_
          exact kN (fun z => a20 z.2.2.1)
        · iterate 2 refine mT_s rfl rfl ?_
          (apply mT_getf; (case hc => rfl); (case ha => first | rfl | assumption); (case hf => first | rfl | assumption))
          (apply mT_getf; (case hc => rfl); (case ha => first | rfl | assumption); (case hf => first | rfl | assumption))
          refine mT_s rfl rfl ?_
          refine mT_icmp_ge rfl (fun c34 => ?_) (fun c34 => ?_)
          · refine mT_s rfl rfl ?_
            (apply mT_getf; (case hc => rfl); (case ha => first | rfl | assumption); (case hf => first | rfl | assumption))
            refine mT_s rfl rfl ?_
            (apply mT_getf; (case hc => rfl); (case ha => first | rfl | assumption); (case hf => first | rfl | assumption))
            (apply mT_inv; (case hc => rfl); (case hd => rfl); (case hb => first | rfl | assumption); (case hg => rfl))
            have hn2 : 2 ≤ n := by
              rw [hi0] at c34
              exact (nI_leI (a := 2) (by omega) (by omega)).mp c34
            obtain ⟨m, hm, hnn⟩ : ∃ m : Nat, m < 8 ∧ y = nI (m + 1) := by
              obtain ⟨z, hz, rfl⟩ := i_nat (n := 8) (Int32.le_trans (by decide) (Int32.not_lt.mp c10)) (Int32.not_lt.mp c16) (by omega)
              rcases z with _ | z
              · exact absurd (Int32.not_lt.mp c10) (by decide)
              · exact ⟨z, by omega, rfl⟩
            refine x_becomes_41_21 _ h _ i iv s l le mo nb hnb wi lo X hM41 (fun h2 i2 f2 X2 => ?_)
            obtain ⟨B2, XM2, -, -, -, -, j0, j1, -, -, -, -⟩ := id X2
            obtain ⟨fm2, hm2, em2⟩ := id XM2
            have M2 : rMn 41 h2 mm := ⟨fm2, hm2, fun j hj => (em2 j hj).trans (by rw [← s_at_m s mm g hj, hs])⟩
            have hX2 : h2 20 = _ := (f2 20 (by decide)).trans hX
            obtain ⟨w1, w2, w3, hS72⟩ := hS72
            have hS2 : h2 72 = _ := (f2 72 (by decide)).trans hS72
            have hN2 := B2.2.1
            refine mT_s rfl rfl ?_
            (apply mT_getf; (case hc => rfl); (case ha => first | rfl | assumption); (case hf => first | rfl | assumption))
            refine mT_s rfl rfl ?_
            (apply mT_getf; (case hc => rfl); (case ha => first | rfl | assumption); (case hf => first | rfl | assumption))
            iterate 2 refine mT_s rfl rfl ?_
            (apply mT_inv; (case hc => rfl); (case hd => rfl); (case hb => first | rfl | assumption); (case hg => rfl))
            rw [ix1, hnn]
            refine x_wonByS _ h2 _ i2 iv s l le mo B2 hle hmo hl140 ⟨_, _, _, hS2⟩ (by rw [f2 73 (by decide)]; exact hW73) n hn2 hn5 (j0.trans hn6) mm M2 hmm g (j1.trans (by rw [← hs]; rfl)) hg hsK a2 m ha2 hm (fun h3 f3 B3 M3 hw3 hs3 => ?_)
            have fh : ∀ c, c < 41 ∨ (50 < c ∧ c ≠ 72 ∧ c ≠ 73) → h3 c = h c := fun c z => (f3 c (by omega) (by omega) (by omega) (by omega) (by omega)).trans (f2 c (by omega))
            have X3 := X.c5 (h2 := h3) (fun c z1 z2 => fh c (by omega)) (by rw [fh 30 (by decide)]; exact h9)
            have S3 := rSh_of B3 M3 X2 (f3 46 (by decide) (by decide) (by decide) (by decide) (by decide)) (f3 47 (by decide) (by decide) (by decide) (by decide) (by decide)) (f3 48 (by decide) (by decide) (by decide) (by decide) (by decide)) (f3 49 (by decide) (by decide) (by decide) (by decide) (by decide))
            have b0 : 10 ^ m ≤ 10 ^ 7 := Nat.pow_le_pow_right (by decide) (by omega)
            have b1 := nT_le (le := le) (mo := mo) (who := a2) (fun p q m o g => (a_od_n s l p q m o g).2.2) m mm g 0 1 (t_row n)
            refine mT_s rfl rfl ?_
            refine mT_c rfl rfl ?_
            refine x_pow _ _ _ (m + 1) (by omega) ?_
            refine mT_s rfl rfl ?_
            refine mT_c rfl rfl ?_
            refine x_partOf _ _ _ (((nT (a_od s l) le mo a2 m mm g 0 1 (t_row n)) : Nat) : Int) (by rw [Int.natAbs_natCast]; omega) _ part (Nat.pow_pos (by decide)) (by rw [Nat.pow_succ]; omega) ?_
            refine mT_ret rfl rfl ?_
            exact k a2 m (okP_n hn6 (by omega) ha2 ix1 v2) ix1 hm hnn a20 hn2 h3 fh S3 hs3 hw3 X3
          · refine mT_s rfl rfl ?_
            refine mT_ret rfl rfl ?_
            exact kN (fun z => c34 (by rw [hi0]; exact nI_le (a := 2) z.2.2.2 (by omega)))
