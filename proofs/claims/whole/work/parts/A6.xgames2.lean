/-! By program (wip/whole/book*.py) and hand. -/
theorem x_winsP (d : Nat) (h : mH) (Q : Option Value → mH → Prop) (it : Int32) (hX : h 20 = .inr (9, xObj it)) (i : Nat → Int32) (iv : Value) (s : Nat → Int32) (hI : s_Inv s) (l : List Tok) (le mo nb : Nat) (wi lo : Nat → Nat) (X : XR 21 h i iv s l le mo nb wi lo)  (hle : le ≤ 99) (hmo : mo ≤ 99) (mm : Nat → Nat) (g : Nat) (hmm : ∀ j, j < 5 → mm j ≤ 20) (hs : s_at s mm g = s) (hg : g ≤ 9999) (hDu : rDuS h) (n5 : Nat) (hn : s 6 = nI n5) (hn55 : n5 ≤ 5) (hm1 : ∀ j, j < n5 → 1 ≤ mm j) (x y n w part : Int32) (kN : ¬ (okP s x ∧ okP s y ∧ x ≠ y ∧ (0 ≤ n ∧ n ≤ 12) ∧ (0 ≤ w ∧ w ≤ n) ∧ (0 ≤ part ∧ part ≤ 1)) → Q (some (.long (-9223372036854775808))) h) (k : ∀ a b : Nat, a < 5 → b < 5 → x = nI a → y = nI b → okP s x → okP s y → a ≠ b → ∀ m W : Nat, m ≤ 12 → n = nI m → W ≤ m → w = nI W → (0 ≤ part ∧ part ≤ 1) → ∀ h2, (∀ c, c ≠ 30 → c < 53 ∨ 61 < c → h2 c = h c) → rDuS h2 → XR 21 h2 i iv s l le mo nb wi lo → Q (some (.long (v_low (eG (a_od s l a b) (n_few le) (n_mor mo) (st_wins W) rw_no m g 0 (mm a) (mm b)) (10 ^ m) part))) h2) : mT0 (d + 8) z_X9_wins 0 (m_init z_X9_wins [.ref 20, .int x, .int y, .int n, .int w, .int part]) [] h Q := by
  obtain ⟨B, XM, XT, XA, XB, XL, i0, i1, i2, i3, i4, i5⟩ := id X
  obtain ⟨hR, hN, hV, hwt, hK, hV5, hW, h9⟩ := id B
  obtain ⟨fk, hk, ek⟩ := id hK
  obtain ⟨fv, hv, ev⟩ := id hV5
  obtain ⟨fm, hm, em⟩ := id XM
  obtain ⟨fw, hw, ew⟩ := id hW
  obtain ⟨ft, ht, et⟩ := id XT
  obtain ⟨fa, hfa, ea⟩ := id XA
  obtain ⟨fb, hb, eb⟩ := id XB
  obtain ⟨fl, hfl, el⟩ := id XL
  obtain ⟨fs530, hD530⟩ := hDu.sh
  have hn5 := hn55
  have hn6 := hn
  have hi0 := i0.trans hn6
  have M : rMn 21 h mm := ⟨fm, hm, fun j hj => (em j hj).trans (by rw [← s_at_m s mm g hj, hs])⟩
  have hg1 : i 1 = nI g := i1.trans (by rw [← hs]; rfl)
  iterate 3 refine mT_s rfl rfl ?_
  (apply mT_inv; (case hc => rfl); (case hd => rfl); (case hb => first | rfl | assumption); (case hg => rfl))
  refine x_refusal _ h _ it hX i iv hR s n5 hn5 hn6 hi0 x y (fun v => ?_) (fun v w e => ?_) (fun a b ha hb ix1 ix2 va vb hab => ?_)
  · iterate 2 refine mT_s rfl rfl ?_
    refine mT_ret rfl rfl ?_
    exact kN (fun z => v ⟨z.1, z.2.1⟩)
  · iterate 2 refine mT_s rfl rfl ?_
    refine mT_ret rfl rfl ?_
    exact kN (fun z => z.2.2.1 e)
  · iterate 2 refine mT_s rfl rfl ?_
    refine mT_if_lt rfl (fun c10 => ?_) (fun c10 => ?_)
    · refine mT_s rfl rfl ?_
      refine mT_ret rfl rfl ?_
      exact kN (fun z => absurd c10 (Int32.not_lt.mpr z.2.2.2.1.1))
    · iterate 2 refine mT_s rfl rfl ?_
      refine mT_icmp_gt rfl (fun c16 => ?_) (fun c16 => ?_)
      · refine mT_s rfl rfl ?_
        refine mT_ret rfl rfl ?_
        exact kN (fun z => absurd c16 (Int32.not_lt.mpr z.2.2.2.1.2))
      · refine mT_s rfl rfl ?_
        refine mT_if_lt rfl (fun c21 => ?_) (fun c21 => ?_)
        · refine mT_s rfl rfl ?_
          refine mT_ret rfl rfl ?_
          exact kN (fun z => absurd c21 (Int32.not_lt.mpr z.2.2.2.2.1.1))
        · iterate 2 refine mT_s rfl rfl ?_
          refine mT_icmp_gt rfl (fun c27 => ?_) (fun c27 => ?_)
          · refine mT_s rfl rfl ?_
            refine mT_ret rfl rfl ?_
            exact kN (fun z => absurd c27 (Int32.not_lt.mpr z.2.2.2.2.1.2))
          · refine mT_s rfl rfl ?_
            refine mT_c rfl rfl ?_
            refine x_isNoPart _ h _ _ (fun a32 => ?_) (fun a32 => ?_)
            · iterate 2 refine mT_s rfl rfl ?_
              refine mT_ret rfl rfl ?_
              exact kN (fun z => a32 z.2.2.2.2.2)
            · iterate 2 refine mT_s rfl rfl ?_
              (apply mT_getf; (case hc => rfl); (case ha => first | rfl | assumption); (case hf => first | rfl | assumption))
              refine mT_s rfl rfl ?_
              (apply mT_getf; (case hc => rfl); (case ha => first | rfl | assumption); (case hf => first | rfl | assumption))
              iterate 3 refine mT_s rfl rfl ?_
              (apply mT_inv; (case hc => rfl); (case hd => rfl); (case hb => first | rfl | assumption); (case hg => rfl))
              obtain ⟨m, hm, hnn⟩ := i_nat (n := 12) (Int32.not_lt.mp c10) (Int32.not_lt.mp c16) (by omega)
              have hm12 : m ≤ 12 := by omega
              have c27 := Int32.not_lt.mp c27
              rw [hnn] at c27
              obtain ⟨w0, hwm, hww⟩ := i_nat (n := m) (Int32.not_lt.mp c21) c27 (by omega)
              rw [ix1, ix2]
              have hpa := hm1 a (okP_n hn6 (by omega) ha ix1 va)
              have hpb := hm1 b (okP_n hn6 (by omega) hb ix2 vb)
              refine y_begins _ h _ i iv s l le mo hle hmo B mm M a b g ha hb hg1 ⟨hpa, hmm a ha⟩ ⟨hpb, hmm b hb⟩ true hDu (fun h1 W1 f1 D1 hF1 hS1 => ?_)
              have hX1 : h1 20 = _ := (f1 20 (by decide)).trans hX
              have hN1 : 87 ≤ m_nx h1 := nx_eq (f1 0 (by decide)) hN
              have B1 := B.d5 (h2 := h1) (fun c z1 z2 => f1 c (by omega)) (by rw [f1 30 (by decide)]; exact h9)
              have h91 := B1.2.2.2.2.2.2.2
              obtain ⟨fs531, hD531⟩ := D1.sh
              have hodb : ∀ m o g, a_od s l a b m o g ≤ 9 := fun m o g => (a_od_n s l a b m o g).2.2
              iterate 2 refine mT_s rfl rfl ?_
              rw [hnn, hww]
              refine x_wi_L _ Q it i iv s l le mo hle hmo a b g m ha hb hg h1 hX1 B1 (iL (eG (a_od s l a b) (n_few le) (n_mor mo) (st_wins w0) rw_no m g 0 (mm a) (mm b))) hm12 w0 part (fun h2 W2 f2 h92 D2 hF2 => ?_) m 0 h1 W1 (by omega) (fun _ _ _ => rfl) h91 D1 ?_ hS1
              obtain ⟨fs532, hD532⟩ := D2.sh
              have fh2 : ∀ c, c ≠ 30 → c < 53 ∨ 61 < c → h2 c = h c := fun c z1 z2 => (f2 c z1 z2).trans (f1 c z2)
              have hX2 : h2 20 = _ := (fh2 20 (by decide) (by decide)).trans hX
              have hN2 : 87 ≤ m_nx h2 := nx_eq (fh2 0 (by decide) (by decide)) hN
              have X2 : XR 21 h2 i iv s l le mo nb wi lo := X.c5 (fun c z1 z2 => fh2 c z1 (by omega)) h92
              have b12 : 10 ^ m ≤ 10 ^ 12 := Nat.pow_le_pow_right (by decide) hm12
              refine mT_s rfl rfl ?_
              (apply mT_getf; (case hc => rfl); (case ha => first | rfl | assumption); (case hf => first | rfl | assumption))
              refine mT_s rfl rfl ?_
              (apply mT_inv; (case hc => rfl); (case hd => rfl); (case hb => first | rfl | assumption); (case hg => rfl))
              refine y_takesWon _ _ a b (g + m) m true W2 h2 hN2 D2 w0 (by omega) (fun h3 S W3 f3 D3 hV3 hn3 hZ3 => ?_)
              have fh3 : ∀ c, c ≠ 30 → c < 53 ∨ 61 < c → h3 c = h c := fun c z1 z2 => (f3 c (by omega)).trans (fh2 c z1 z2)
              have h93 : ∃ f, h3 30 = .inl (0, 5, .inl f) := by rw [f3 30 (by decide)]; exact h92
              have X3 : XR 21 h3 i iv s l le mo nb wi lo := X.c5 (fun c z1 z2 => fh3 c z1 (by omega)) h93
              have hq1 := hV3 (fun w m9 o => iL (eG (a_od s l a b) (n_few le) (n_mor mo) (st_wins w0) rw_no (m - m) (g + m) w m9 o)) 1 (fun m9 o => by
                show iL (eG _ _ _ _ _ (m - m) _ w0 m9 o) = _
                rw [Nat.sub_self, eG_some (show st_wins w0 0 w0 m9 o = some _ from rfl), if_pos rfl]
                rfl)
              rw [hF2, FW_none (fun j hj hn => by
                unfold dc
                show iL (eG _ _ _ _ _ (m - m) _ (j % 13) _ _) = 0
                rw [Nat.sub_self, eG_some (show st_wins w0 0 (j % 13) _ _ = some _ from rfl), if_neg (fun z => hn (hZ3 j hj z))]
                rfl), Int64.mul_one, Int64.add_zero] at hq1
              rw [hq1]
              refine mT_s rfl rfl ?_
              refine mT_c rfl rfl ?_
              refine x_pow _ _ _ m (by omega) ?_
              refine mT_s rfl rfl ?_
              refine mT_c rfl rfl ?_
              refine x_partOf _ _ _ (eG (a_od s l a b) (n_few le) (n_mor mo) (st_wins w0) rw_no m g 0 (mm a) (mm b)) (b_wins (hmm a ha) (hmm b hb) hm12) _ part (Nat.pow_pos (by decide)) (by omega) ?_
              refine mT_ret rfl rfl ?_
              exact k a b ha hb ix1 ix2 va vb hab m w0 hm hnn hwm hww a32 h3 fh3 D3.idle X3
              rw [hF1]
              show iL (eG _ _ _ _ _ (m - 0) (g + 0) 0 (mm a) (mm b)) = _
              rfl

theorem x_meanP (d : Nat) (h : mH) (Q : Option Value → mH → Prop) (it : Int32) (hX : h 20 = .inr (9, xObj it)) (i : Nat → Int32) (iv : Value) (s : Nat → Int32) (hI : s_Inv s) (l : List Tok) (le mo nb : Nat) (wi lo : Nat → Nat) (X : XR 21 h i iv s l le mo nb wi lo)  (hle : le ≤ 99) (hmo : mo ≤ 99) (mm : Nat → Nat) (g : Nat) (hmm : ∀ j, j < 5 → mm j ≤ 20) (hs : s_at s mm g = s) (hg : g ≤ 9999) (hDu : rDuS h) (n5 : Nat) (hn : s 6 = nI n5) (hn55 : n5 ≤ 5) (hm1 : ∀ j, j < n5 → 1 ≤ mm j) (x y n part : Int32) (kN : ¬ (okP s x ∧ okP s y ∧ x ≠ y ∧ (0 ≤ n ∧ n ≤ 12) ∧ (0 ≤ part ∧ part ≤ 1)) → Q (some (.long (-9223372036854775808))) h) (k : ∀ a b : Nat, a < 5 → b < 5 → x = nI a → y = nI b → okP s x → okP s y → a ≠ b → ∀ m : Nat, m ≤ 12 → n = nI m → (0 ≤ part ∧ part ≤ 1) → ∀ h2, (∀ c, c ≠ 30 → c < 53 ∨ 61 < c → h2 c = h c) → rDuS h2 → XR 21 h2 i iv s l le mo nb wi lo → Q (some (.long (v_low (eG (a_od s l a b) (n_few le) (n_mor mo) st_mean rw_no m g 0 (mm a) (mm b)) (10 ^ m) part))) h2) : mT0 (d + 8) z_X9_mean 0 (m_init z_X9_mean [.ref 20, .int x, .int y, .int n, .int part]) [] h Q := by
  obtain ⟨B, XM, XT, XA, XB, XL, i0, i1, i2, i3, i4, i5⟩ := id X
  obtain ⟨hR, hN, hV, hwt, hK, hV5, hW, h9⟩ := id B
  obtain ⟨fk, hk, ek⟩ := id hK
  obtain ⟨fv, hv, ev⟩ := id hV5
  obtain ⟨fm, hm, em⟩ := id XM
  obtain ⟨fw, hw, ew⟩ := id hW
  obtain ⟨ft, ht, et⟩ := id XT
  obtain ⟨fa, hfa, ea⟩ := id XA
  obtain ⟨fb, hb, eb⟩ := id XB
  obtain ⟨fl, hfl, el⟩ := id XL
  obtain ⟨fs530, hD530⟩ := hDu.sh
  have hn5 := hn55
  have hn6 := hn
  have hi0 := i0.trans hn6
  have M : rMn 21 h mm := ⟨fm, hm, fun j hj => (em j hj).trans (by rw [← s_at_m s mm g hj, hs])⟩
  have hg1 : i 1 = nI g := i1.trans (by rw [← hs]; rfl)
  iterate 3 refine mT_s rfl rfl ?_
  (apply mT_inv; (case hc => rfl); (case hd => rfl); (case hb => first | rfl | assumption); (case hg => rfl))
  refine x_refusal _ h _ it hX i iv hR s n5 hn5 hn6 hi0 x y (fun v => ?_) (fun v w e => ?_) (fun a b ha hb ix1 ix2 va vb hab => ?_)
  · iterate 2 refine mT_s rfl rfl ?_
    refine mT_ret rfl rfl ?_
    exact kN (fun z => v ⟨z.1, z.2.1⟩)
  · iterate 2 refine mT_s rfl rfl ?_
    refine mT_ret rfl rfl ?_
    exact kN (fun z => z.2.2.1 e)
  · iterate 2 refine mT_s rfl rfl ?_
    refine mT_if_lt rfl (fun c10 => ?_) (fun c10 => ?_)
    · refine mT_s rfl rfl ?_
      refine mT_ret rfl rfl ?_
      exact kN (fun z => absurd c10 (Int32.not_lt.mpr z.2.2.2.1.1))
    · iterate 2 refine mT_s rfl rfl ?_
      refine mT_icmp_gt rfl (fun c16 => ?_) (fun c16 => ?_)
      · refine mT_s rfl rfl ?_
        refine mT_ret rfl rfl ?_
        exact kN (fun z => absurd c16 (Int32.not_lt.mpr z.2.2.2.1.2))
      · refine mT_s rfl rfl ?_
        refine mT_c rfl rfl ?_
        refine x_isNoPart _ h _ _ (fun a21 => ?_) (fun a21 => ?_)
        · iterate 2 refine mT_s rfl rfl ?_
          refine mT_ret rfl rfl ?_
          exact kN (fun z => a21 z.2.2.2.2)
        · iterate 2 refine mT_s rfl rfl ?_
          (apply mT_getf; (case hc => rfl); (case ha => first | rfl | assumption); (case hf => first | rfl | assumption))
          refine mT_s rfl rfl ?_
          (apply mT_getf; (case hc => rfl); (case ha => first | rfl | assumption); (case hf => first | rfl | assumption))
          iterate 3 refine mT_s rfl rfl ?_
          (apply mT_inv; (case hc => rfl); (case hd => rfl); (case hb => first | rfl | assumption); (case hg => rfl))
          obtain ⟨m, hm, hnn⟩ := i_nat (n := 12) (Int32.not_lt.mp c10) (Int32.not_lt.mp c16) (by omega)
          have hm12 : m ≤ 12 := by omega
          rw [ix1, ix2]
          have hpa := hm1 a (okP_n hn6 (by omega) ha ix1 va)
          have hpb := hm1 b (okP_n hn6 (by omega) hb ix2 vb)
          refine y_begins _ h _ i iv s l le mo hle hmo B mm M a b g ha hb hg1 ⟨hpa, hmm a ha⟩ ⟨hpb, hmm b hb⟩ false hDu (fun h1 W1 f1 D1 hF1 hS1 => ?_)
          have hX1 : h1 20 = _ := (f1 20 (by decide)).trans hX
          have hN1 : 87 ≤ m_nx h1 := nx_eq (f1 0 (by decide)) hN
          have B1 := B.d5 (h2 := h1) (fun c z1 z2 => f1 c (by omega)) (by rw [f1 30 (by decide)]; exact h9)
          have h91 := B1.2.2.2.2.2.2.2
          obtain ⟨fs531, hD531⟩ := D1.sh
          have hodb : ∀ m o g, a_od s l a b m o g ≤ 9 := fun m o g => (a_od_n s l a b m o g).2.2
          iterate 2 refine mT_s rfl rfl ?_
          rw [hnn]
          refine x_me_L _ Q it i iv s l le mo hle hmo a b g m ha hb hg h1 hX1 B1 (iL (eG (a_od s l a b) (n_few le) (n_mor mo) st_mean rw_no m g 0 (mm a) (mm b))) hm12 part (fun h2 W2 f2 h92 D2 hF2 hS2 => ?_) m 0 h1 W1 (by omega) (fun _ _ _ => rfl) h91 D1 ?_ hS1
          obtain ⟨fs532, hD532⟩ := D2.sh
          have fh2 : ∀ c, c ≠ 30 → c < 53 ∨ 61 < c → h2 c = h c := fun c z1 z2 => (f2 c z1 z2).trans (f1 c z2)
          have hX2 : h2 20 = _ := (fh2 20 (by decide) (by decide)).trans hX
          have hN2 : 87 ≤ m_nx h2 := nx_eq (fh2 0 (by decide) (by decide)) hN
          have X2 : XR 21 h2 i iv s l le mo nb wi lo := X.c5 (fun c z1 z2 => fh2 c z1 (by omega)) h92
          have b12 : 10 ^ m ≤ 10 ^ 12 := Nat.pow_le_pow_right (by decide) hm12
          refine mT_s rfl rfl ?_
          (apply mT_getf; (case hc => rfl); (case ha => first | rfl | assumption); (case hf => first | rfl | assumption))
          (apply mT_inv; (case hc => rfl); (case hd => rfl); (case hb => first | rfl | assumption); (case hg => rfl))
          refine y_menOfOne _ _ a b (g + m) m false W2 h2 hN2 D2 hS2 ?_
          have hq1 : FW W2 (fun _ m9 _ => lN m9) = iL (eG (a_od s l a b) (n_few le) (n_mor mo) st_mean rw_no m g 0 (mm a) (mm b)) := by
            rw [← hF2]
            refine congrArg (FW W2) ?_
            funext w m9 o
            show _ = iL (eG _ _ _ _ _ (m - m) _ 0 m9 o)
            rw [Nat.sub_self, eG_some (show st_mean 0 0 m9 o = some _ from rfl)]
            rfl
          rw [hq1]
          refine mT_s rfl rfl ?_
          refine mT_c rfl rfl ?_
          refine x_pow _ _ _ m (by omega) ?_
          refine mT_s rfl rfl ?_
          refine mT_c rfl rfl ?_
          refine x_partOf _ _ _ (eG (a_od s l a b) (n_few le) (n_mor mo) st_mean rw_no m g 0 (mm a) (mm b)) (b_mean (hmm a ha) (hmm b hb) hm12) _ part (Nat.pow_pos (by decide)) (by omega) ?_
          refine mT_ret rfl rfl ?_
          exact k a b ha hb ix1 ix2 va vb hab m hm hnn a21 h2 fh2 D2.idle X2
          rw [hF1]
          show iL (eG _ _ _ _ _ (m - 0) (g + 0) 0 (mm a) (mm b)) = _
          rfl

theorem x_seriesP (d : Nat) (h : mH) (Q : Option Value → mH → Prop) (it : Int32) (hX : h 20 = .inr (9, xObj it)) (i : Nat → Int32) (iv : Value) (s : Nat → Int32) (hI : s_Inv s) (l : List Tok) (le mo nb : Nat) (wi lo : Nat → Nat) (X : XR 21 h i iv s l le mo nb wi lo)  (hle : le ≤ 99) (hmo : mo ≤ 99) (mm : Nat → Nat) (g : Nat) (hmm : ∀ j, j < 5 → mm j ≤ 20) (hs : s_at s mm g = s) (hg : g ≤ 9999) (hDu : rDuS h) (n5 : Nat) (hn : s 6 = nI n5) (hn55 : n5 ≤ 5) (hm1 : ∀ j, j < n5 → 1 ≤ mm j) (x y n part : Int32) (kN : ¬ (okP s x ∧ okP s y ∧ x ≠ y ∧ (1 ≤ n ∧ n ≤ 5) ∧ (0 ≤ part ∧ part ≤ 1)) → Q (some (.long (-9223372036854775808))) h) (k : ∀ a b : Nat, a < 5 → b < 5 → x = nI a → y = nI b → okP s x → okP s y → a ≠ b → ∀ m : Nat, 1 ≤ m → m ≤ 5 → n = nI m → (0 ≤ part ∧ part ≤ 1) → ∀ h2, (∀ c, c ≠ 30 → c < 53 ∨ 61 < c → h2 c = h c) → rDuS h2 → XR 21 h2 i iv s l le mo nb wi lo → Q (some (.long (v_low (eG (a_od s l a b) (n_few le) (n_mor mo) (st_first m) rw_no (2 * m - 1) g 0 (mm a) (mm b)) (10 ^ (2 * m - 1)) part))) h2) : mT0 (d + 8) z_X9_series 0 (m_init z_X9_series [.ref 20, .int x, .int y, .int n, .int part]) [] h Q := by
  obtain ⟨B, XM, XT, XA, XB, XL, i0, i1, i2, i3, i4, i5⟩ := id X
  obtain ⟨hR, hN, hV, hwt, hK, hV5, hW, h9⟩ := id B
  obtain ⟨fk, hk, ek⟩ := id hK
  obtain ⟨fv, hv, ev⟩ := id hV5
  obtain ⟨fm, hm, em⟩ := id XM
  obtain ⟨fw, hw, ew⟩ := id hW
  obtain ⟨ft, ht, et⟩ := id XT
  obtain ⟨fa, hfa, ea⟩ := id XA
  obtain ⟨fb, hb, eb⟩ := id XB
  obtain ⟨fl, hfl, el⟩ := id XL
  obtain ⟨fs530, hD530⟩ := hDu.sh
  have hn5 := hn55
  have hn6 := hn
  have hi0 := i0.trans hn6
  have M : rMn 21 h mm := ⟨fm, hm, fun j hj => (em j hj).trans (by rw [← s_at_m s mm g hj, hs])⟩
  have hg1 : i 1 = nI g := i1.trans (by rw [← hs]; rfl)
  iterate 3 refine mT_s rfl rfl ?_
  (apply mT_inv; (case hc => rfl); (case hd => rfl); (case hb => first | rfl | assumption); (case hg => rfl))
  refine x_refusal _ h _ it hX i iv hR s n5 hn5 hn6 hi0 x y (fun v => ?_) (fun v w e => ?_) (fun a b ha hb ix1 ix2 va vb hab => ?_)
  · iterate 2 refine mT_s rfl rfl ?_
    refine mT_ret rfl rfl ?_
    exact kN (fun z => v ⟨z.1, z.2.1⟩)
  · iterate 2 refine mT_s rfl rfl ?_
    refine mT_ret rfl rfl ?_
    exact kN (fun z => z.2.2.1 e)
  · iterate 3 refine mT_s rfl rfl ?_
    refine mT_icmp_lt rfl (fun c11 => ?_) (fun c11 => ?_)
    · refine mT_s rfl rfl ?_
      refine mT_ret rfl rfl ?_
      exact kN (fun z => absurd c11 (Int32.not_lt.mpr z.2.2.2.1.1))
    · iterate 2 refine mT_s rfl rfl ?_
      refine mT_icmp_gt rfl (fun c16 => ?_) (fun c16 => ?_)
      · refine mT_s rfl rfl ?_
        refine mT_ret rfl rfl ?_
        exact kN (fun z => absurd c16 (Int32.not_lt.mpr z.2.2.2.1.2))
      · refine mT_s rfl rfl ?_
        refine mT_c rfl rfl ?_
        refine x_isNoPart _ h _ _ (fun a21 => ?_) (fun a21 => ?_)
        · iterate 2 refine mT_s rfl rfl ?_
          refine mT_ret rfl rfl ?_
          exact kN (fun z => a21 z.2.2.2.2)
        · iterate 10 refine mT_s rfl rfl ?_
          (apply mT_getf; (case hc => rfl); (case ha => first | rfl | assumption); (case hf => first | rfl | assumption))
          refine mT_s rfl rfl ?_
          (apply mT_getf; (case hc => rfl); (case ha => first | rfl | assumption); (case hf => first | rfl | assumption))
          iterate 3 refine mT_s rfl rfl ?_
          (apply mT_inv; (case hc => rfl); (case hd => rfl); (case hb => first | rfl | assumption); (case hg => rfl))
          obtain ⟨w0, hw5, hnn⟩ := i_nat (n := 5) (Int32.le_trans (by decide) (Int32.not_lt.mp c11)) (Int32.not_lt.mp c16) (by omega)
          have hw1 : 1 ≤ w0 := by
            rw [hnn] at c11
            exact (nI_leI (a := 1) (by omega) (by omega)).mp (Int32.not_lt.mp c11)
          rw [ix1, ix2]
          have hpa := hm1 a (okP_n hn6 (by omega) ha ix1 va)
          have hpb := hm1 b (okP_n hn6 (by omega) hb ix2 vb)
          refine y_begins _ h _ i iv s l le mo hle hmo B mm M a b g ha hb hg1 ⟨hpa, hmm a ha⟩ ⟨hpb, hmm b hb⟩ true hDu (fun h1 W1 f1 D1 hF1 hS1 => ?_)
          have hX1 : h1 20 = _ := (f1 20 (by decide)).trans hX
          have hN1 : 87 ≤ m_nx h1 := nx_eq (f1 0 (by decide)) hN
          have B1 := B.d5 (h2 := h1) (fun c z1 z2 => f1 c (by omega)) (by rw [f1 30 (by decide)]; exact h9)
          have h91 := B1.2.2.2.2.2.2.2
          obtain ⟨fs531, hD531⟩ := D1.sh
          have hodb : ∀ m o g, a_od s l a b m o g ≤ 9 := fun m o g => (a_od_n s l a b m o g).2.2
          iterate 2 refine mT_s rfl rfl ?_
          rw [hnn, show (2 : Int32) * nI w0 - 1 = nI (2 * w0 - 1) from by rw [show (2 : Int32) = nI 2 from rfl, pk_mul, show (1 : Int32) = nI 1 from rfl, pk_sub (by omega)]]
          refine x_se_L _ Q it i iv s l le mo hle hmo a b g (2 * w0 - 1) ha hb hg h1 hX1 B1 (iL (eG (a_od s l a b) (n_few le) (n_mor mo) (st_first w0) rw_no (2 * w0 - 1) g 0 (mm a) (mm b))) (by omega) w0 (by omega) part (fun h2 W2 E2 f2 h92 D2 hF2 hZ2 => ?_) (2 * w0 - 1) 0 h1 W1 0 (by omega) (fun _ _ _ => rfl) h91 D1 ?_ hS1 (fun j hj hn z => by have := hS1 j hj hn; omega)
          obtain ⟨fs532, hD532⟩ := D2.sh
          have fh2 : ∀ c, c ≠ 30 → c < 53 ∨ 61 < c → h2 c = h c := fun c z1 z2 => (f2 c z1 z2).trans (f1 c z2)
          have hX2 : h2 20 = _ := (fh2 20 (by decide) (by decide)).trans hX
          have hN2 : 87 ≤ m_nx h2 := nx_eq (fh2 0 (by decide) (by decide)) hN
          have X2 : XR 21 h2 i iv s l le mo nb wi lo := X.c5 (fun c z1 z2 => fh2 c z1 (by omega)) h92
          have b12 : 10 ^ (2 * w0 - 1) ≤ 10 ^ 12 := Nat.pow_le_pow_right (by decide) (by omega)
          iterate 2 refine mT_s rfl rfl ?_
          refine mT_c rfl rfl ?_
          have hq1 : E2 = iL (eG (a_od s l a b) (n_few le) (n_mor mo) (st_first w0) rw_no (2 * w0 - 1) g 0 (mm a) (mm b)) := by
            rw [← hF2, Nat.sub_self, FW_none (fun j hj hn => by
              unfold dc
              show iL ((st_first w0 0 (j % 13) _ _).getD 0) = 0
              rw [show st_first w0 0 (j % 13) (j / 13 / 20 + 1) (j / 13 % 20 + 1) = none from if_neg (hZ2 j hj hn)]
              rfl), Int64.add_zero]
            exact (Int64.mul_one _).symm
          rw [hq1]
          refine x_pow _ _ _ (2 * w0 - 1) (by omega) ?_
          refine mT_s rfl rfl ?_
          refine mT_c rfl rfl ?_
          obtain ⟨v9, hv9, hv10⟩ := eG_first_le (fw := n_few le) (mr := n_mor mo) (k := w0) hodb (n := 2 * w0 - 1) (g := g) (w := 0) (m := mm a) (o := mm b)
          refine x_partOf _ _ _ (eG (a_od s l a b) (n_few le) (n_mor mo) (st_first w0) rw_no (2 * w0 - 1) g 0 (mm a) (mm b)) (by rw [hv9, Int.natAbs_natCast]; omega) _ part (Nat.pow_pos (by decide)) (by omega) ?_
          refine mT_ret rfl rfl ?_
          exact k a b ha hb ix1 ix2 va vb hab w0 hw1 hw5 hnn a21 h2 fh2 D2.idle X2
          rw [hF1, Int64.zero_mul, Int64.zero_add]
          show iL (eG _ _ _ _ _ (2 * w0 - 1 - 0) (g + 0) 0 (mm a) (mm b)) = _
          rfl

theorem x_endsP (d : Nat) (h : mH) (Q : Option Value → mH → Prop) (it : Int32) (hX : h 20 = .inr (9, xObj it)) (i : Nat → Int32) (iv : Value) (s : Nat → Int32) (hI : s_Inv s) (l : List Tok) (le mo nb : Nat) (wi lo : Nat → Nat) (X : XR 21 h i iv s l le mo nb wi lo)  (hle : le ≤ 99) (hmo : mo ≤ 99) (mm : Nat → Nat) (g : Nat) (hmm : ∀ j, j < 5 → mm j ≤ 20) (hs : s_at s mm g = s) (hg : g ≤ 9999) (hDu : rDuS h) (n5 : Nat) (hn : s 6 = nI n5) (hn55 : n5 ≤ 5) (hm1 : ∀ j, j < n5 → 1 ≤ mm j) (x y n part : Int32) (kN : ¬ (okP s x ∧ okP s y ∧ x ≠ y ∧ (0 ≤ n ∧ n ≤ 12) ∧ (0 ≤ part ∧ part ≤ 1)) → Q (some (.long (-9223372036854775808))) h) (k : ∀ a b : Nat, a < 5 → b < 5 → x = nI a → y = nI b → okP s x → okP s y → a ≠ b → ∀ m : Nat, m ≤ 12 → n = nI m → (0 ≤ part ∧ part ≤ 1) → ∀ h2, (∀ c, c ≠ 30 → c < 53 ∨ 61 < c → h2 c = h c) → rDuS h2 → XR 21 h2 i iv s l le mo nb wi lo → Q (some (.long (v_low (eG (a_od s l a b) (n_few le) (n_mor mo) st_ends rw_no m g 0 (mm a) (mm b)) (10 ^ m) part))) h2) : mT0 (d + 8) z_X9_ends 0 (m_init z_X9_ends [.ref 20, .int x, .int y, .int n, .int part]) [] h Q := by
  obtain ⟨B, XM, XT, XA, XB, XL, i0, i1, i2, i3, i4, i5⟩ := id X
  obtain ⟨hR, hN, hV, hwt, hK, hV5, hW, h9⟩ := id B
  obtain ⟨fk, hk, ek⟩ := id hK
  obtain ⟨fv, hv, ev⟩ := id hV5
  obtain ⟨fm, hm, em⟩ := id XM
  obtain ⟨fw, hw, ew⟩ := id hW
  obtain ⟨ft, ht, et⟩ := id XT
  obtain ⟨fa, hfa, ea⟩ := id XA
  obtain ⟨fb, hb, eb⟩ := id XB
  obtain ⟨fl, hfl, el⟩ := id XL
  obtain ⟨fs530, hD530⟩ := hDu.sh
  have hn5 := hn55
  have hn6 := hn
  have hi0 := i0.trans hn6
  have M : rMn 21 h mm := ⟨fm, hm, fun j hj => (em j hj).trans (by rw [← s_at_m s mm g hj, hs])⟩
  have hg1 : i 1 = nI g := i1.trans (by rw [← hs]; rfl)
  iterate 3 refine mT_s rfl rfl ?_
  (apply mT_inv; (case hc => rfl); (case hd => rfl); (case hb => first | rfl | assumption); (case hg => rfl))
  refine x_refusal _ h _ it hX i iv hR s n5 hn5 hn6 hi0 x y (fun v => ?_) (fun v w e => ?_) (fun a b ha hb ix1 ix2 va vb hab => ?_)
  · iterate 2 refine mT_s rfl rfl ?_
    refine mT_ret rfl rfl ?_
    exact kN (fun z => v ⟨z.1, z.2.1⟩)
  · iterate 2 refine mT_s rfl rfl ?_
    refine mT_ret rfl rfl ?_
    exact kN (fun z => z.2.2.1 e)
  · iterate 2 refine mT_s rfl rfl ?_
    refine mT_if_lt rfl (fun c10 => ?_) (fun c10 => ?_)
    · refine mT_s rfl rfl ?_
      refine mT_ret rfl rfl ?_
      exact kN (fun z => absurd c10 (Int32.not_lt.mpr z.2.2.2.1.1))
    · iterate 2 refine mT_s rfl rfl ?_
      refine mT_icmp_gt rfl (fun c16 => ?_) (fun c16 => ?_)
      · refine mT_s rfl rfl ?_
        refine mT_ret rfl rfl ?_
        exact kN (fun z => absurd c16 (Int32.not_lt.mpr z.2.2.2.1.2))
      · refine mT_s rfl rfl ?_
        refine mT_c rfl rfl ?_
        refine x_isNoPart _ h _ _ (fun a21 => ?_) (fun a21 => ?_)
        · iterate 2 refine mT_s rfl rfl ?_
          refine mT_ret rfl rfl ?_
          exact kN (fun z => a21 z.2.2.2.2)
        · iterate 2 refine mT_s rfl rfl ?_
          (apply mT_getf; (case hc => rfl); (case ha => first | rfl | assumption); (case hf => first | rfl | assumption))
          refine mT_s rfl rfl ?_
          (apply mT_getf; (case hc => rfl); (case ha => first | rfl | assumption); (case hf => first | rfl | assumption))
          iterate 3 refine mT_s rfl rfl ?_
          (apply mT_inv; (case hc => rfl); (case hd => rfl); (case hb => first | rfl | assumption); (case hg => rfl))
          obtain ⟨m, hm, hnn⟩ := i_nat (n := 12) (Int32.not_lt.mp c10) (Int32.not_lt.mp c16) (by omega)
          have hm12 : m ≤ 12 := by omega
          rw [ix1, ix2]
          have hpa := hm1 a (okP_n hn6 (by omega) ha ix1 va)
          have hpb := hm1 b (okP_n hn6 (by omega) hb ix2 vb)
          refine y_begins _ h _ i iv s l le mo hle hmo B mm M a b g ha hb hg1 ⟨hpa, hmm a ha⟩ ⟨hpb, hmm b hb⟩ false hDu (fun h1 W1 f1 D1 hF1 hS1 => ?_)
          have hX1 : h1 20 = _ := (f1 20 (by decide)).trans hX
          have hN1 : 87 ≤ m_nx h1 := nx_eq (f1 0 (by decide)) hN
          have B1 := B.d5 (h2 := h1) (fun c z1 z2 => f1 c (by omega)) (by rw [f1 30 (by decide)]; exact h9)
          have h91 := B1.2.2.2.2.2.2.2
          obtain ⟨fs531, hD531⟩ := D1.sh
          have hodb : ∀ m o g, a_od s l a b m o g ≤ 9 := fun m o g => (a_od_n s l a b m o g).2.2
          refine mT_s rfl rfl ?_
          (apply mT_getf; (case hc => rfl); (case ha => first | rfl | assumption); (case hf => first | rfl | assumption))
          (apply mT_inv; (case hc => rfl); (case hd => rfl); (case hb => first | rfl | assumption); (case hg => rfl))
          refine y_takesEnded _ _ a b g 0 false W1 h1 hN1 D1 (fun h0 S0 W0 f0 D0 hV0 hn0 hZ0 => ?_)
          have hX0 : h0 20 = _ := (f0 20 (by decide)).trans hX1
          have B0 := B1.d5 (h2 := h0) (fun c z1 z2 => f0 c (by omega)) (by rw [f0 30 (by decide)]; exact h91)
          have h90 := B0.2.2.2.2.2.2.2
          have hN0 : 87 ≤ m_nx h0 := nx_eq (f0 0 (by decide)) hN1
          iterate 3 refine mT_s rfl rfl ?_
          rw [hnn]
          refine x_en_L _ Q it i iv s l le mo hle hmo a b g m ha hb hg h0 hX0 B0 (iL (eG (a_od s l a b) (n_few le) (n_mor mo) st_ends rw_no m g 0 (mm a) (mm b))) hm12 part (fun h2 W2 E2 f2 h92 D2 hF2 hS2 hZ2 => ?_) m 0 h0 W0 S0 (by omega) (fun _ _ _ => rfl) h90 D0 ?_ (fun j hj hn => hS1 j hj (hn0 j hj hn)) (fun j hj hn z => hn (hZ0 j hj ⟨by have := hS1 j hj (hn0 j hj hn); omega, z⟩))
          obtain ⟨fs532, hD532⟩ := D2.sh
          have fh2 : ∀ c, c ≠ 30 → c < 53 ∨ 61 < c → h2 c = h c := fun c z1 z2 => (f2 c z1 z2).trans ((f0 c (by omega)).trans (f1 c z2))
          have hX2 : h2 20 = _ := (fh2 20 (by decide) (by decide)).trans hX
          have hN2 : 87 ≤ m_nx h2 := nx_eq (fh2 0 (by decide) (by decide)) hN
          have X2 : XR 21 h2 i iv s l le mo nb wi lo := X.c5 (fun c z1 z2 => fh2 c z1 (by omega)) h92
          have b12 : 10 ^ m ≤ 10 ^ 12 := Nat.pow_le_pow_right (by decide) hm12
          iterate 2 refine mT_s rfl rfl ?_
          refine mT_c rfl rfl ?_
          have hq1 : E2 = iL (eG (a_od s l a b) (n_few le) (n_mor mo) st_ends rw_no m g 0 (mm a) (mm b)) := by
            rw [← hF2, Nat.sub_self, FW_none (fun j hj hn => by
              unfold dc
              show iL ((st_ends 0 0 (j / 13 / 20 + 1) (j / 13 % 20 + 1)).getD 0) = 0
              rw [show st_ends 0 0 (j / 13 / 20 + 1) (j / 13 % 20 + 1) = none from if_neg (hZ2 j hj hn)]
              rfl), Int64.add_zero]
            exact (Int64.mul_one _).symm
          rw [hq1]
          refine x_pow _ _ _ m (by omega) ?_
          refine mT_s rfl rfl ?_
          refine mT_c rfl rfl ?_
          refine x_partOf _ _ _ (eG (a_od s l a b) (n_few le) (n_mor mo) st_ends rw_no m g 0 (mm a) (mm b)) (b_ends (hmm a ha) (hmm b hb) hm12) _ part (Nat.pow_pos (by decide)) (by omega) ?_
          refine mT_ret rfl rfl ?_
          exact k a b ha hb ix1 ix2 va vb hab m hm hnn a21 h2 fh2 D2.idle X2
          have hq0 := hV0 (fun _ m9 o => iL (eG (a_od s l a b) (n_few le) (n_mor mo) st_ends rw_no m g 0 m9 o)) (lN (10 ^ m)) (fun o => by
            show iL (eG _ _ _ _ _ m g 0 1 o) = _
            rw [eG_some (show st_ends m 0 1 o = some _ from if_pos rfl)]
            rfl)
          rw [hF1] at hq0
          exact hq0

theorem x_stakesP (d : Nat) (h : mH) (Q : Option Value → mH → Prop) (it : Int32) (hX : h 20 = .inr (9, xObj it)) (i : Nat → Int32) (iv : Value) (s : Nat → Int32) (hI : s_Inv s) (l : List Tok) (le mo nb : Nat) (wi lo : Nat → Nat) (X : XR 21 h i iv s l le mo nb wi lo)  (hle : le ≤ 99) (hmo : mo ≤ 99) (mm : Nat → Nat) (g : Nat) (hmm : ∀ j, j < 5 → mm j ≤ 20) (hs : s_at s mm g = s) (hg : g ≤ 9999) (hDu : rDuS h) (n5 : Nat) (hn : s 6 = nI n5) (hn55 : n5 ≤ 5) (hm1 : ∀ j, j < n5 → 1 ≤ mm j) (x y n part : Int32) (kN : ¬ (okP s x ∧ okP s y ∧ x ≠ y ∧ (0 ≤ n ∧ n ≤ 10) ∧ (0 ≤ part ∧ part ≤ 1)) → Q (some (.long (-9223372036854775808))) h) (k : ∀ a b : Nat, a < 5 → b < 5 → x = nI a → y = nI b → okP s x → okP s y → a ≠ b → ∀ m : Nat, m ≤ 10 → n = nI m → (0 ≤ part ∧ part ≤ 1) → ∀ h2, (∀ c, c ≠ 30 → c < 53 ∨ 61 < c → h2 c = h c) → rDuS h2 → XR 21 h2 i iv s l le mo nb wi lo → Q (some (.long (v_low (eG (a_od s l a b) (n_few le) (n_mor mo) st_no (rw_st (a_od s l a b)) m g 0 (mm a) (mm b)) (10 ^ m) part))) h2) : mT0 (d + 8) z_X9_stakes 0 (m_init z_X9_stakes [.ref 20, .int x, .int y, .int n, .int part]) [] h Q := by
  obtain ⟨B, XM, XT, XA, XB, XL, i0, i1, i2, i3, i4, i5⟩ := id X
  obtain ⟨hR, hN, hV, hwt, hK, hV5, hW, h9⟩ := id B
  obtain ⟨fk, hk, ek⟩ := id hK
  obtain ⟨fv, hv, ev⟩ := id hV5
  obtain ⟨fm, hm, em⟩ := id XM
  obtain ⟨fw, hw, ew⟩ := id hW
  obtain ⟨ft, ht, et⟩ := id XT
  obtain ⟨fa, hfa, ea⟩ := id XA
  obtain ⟨fb, hb, eb⟩ := id XB
  obtain ⟨fl, hfl, el⟩ := id XL
  obtain ⟨fs530, hD530⟩ := hDu.sh
  have hn5 := hn55
  have hn6 := hn
  have hi0 := i0.trans hn6
  have M : rMn 21 h mm := ⟨fm, hm, fun j hj => (em j hj).trans (by rw [← s_at_m s mm g hj, hs])⟩
  have hg1 : i 1 = nI g := i1.trans (by rw [← hs]; rfl)
  iterate 3 refine mT_s rfl rfl ?_
  (apply mT_inv; (case hc => rfl); (case hd => rfl); (case hb => first | rfl | assumption); (case hg => rfl))
  refine x_refusal _ h _ it hX i iv hR s n5 hn5 hn6 hi0 x y (fun v => ?_) (fun v w e => ?_) (fun a b ha hb ix1 ix2 va vb hab => ?_)
  · iterate 2 refine mT_s rfl rfl ?_
    refine mT_ret rfl rfl ?_
    exact kN (fun z => v ⟨z.1, z.2.1⟩)
  · iterate 2 refine mT_s rfl rfl ?_
    refine mT_ret rfl rfl ?_
    exact kN (fun z => z.2.2.1 e)
  · iterate 2 refine mT_s rfl rfl ?_
    refine mT_if_lt rfl (fun c10 => ?_) (fun c10 => ?_)
    · refine mT_s rfl rfl ?_
      refine mT_ret rfl rfl ?_
      exact kN (fun z => absurd c10 (Int32.not_lt.mpr z.2.2.2.1.1))
    · iterate 2 refine mT_s rfl rfl ?_
      refine mT_icmp_gt rfl (fun c16 => ?_) (fun c16 => ?_)
      · refine mT_s rfl rfl ?_
        refine mT_ret rfl rfl ?_
        exact kN (fun z => absurd c16 (Int32.not_lt.mpr z.2.2.2.1.2))
      · refine mT_s rfl rfl ?_
        refine mT_c rfl rfl ?_
        refine x_isNoPart _ h _ _ (fun a21 => ?_) (fun a21 => ?_)
        · iterate 2 refine mT_s rfl rfl ?_
          refine mT_ret rfl rfl ?_
          exact kN (fun z => a21 z.2.2.2.2)
        · iterate 2 refine mT_s rfl rfl ?_
          (apply mT_getf; (case hc => rfl); (case ha => first | rfl | assumption); (case hf => first | rfl | assumption))
          refine mT_s rfl rfl ?_
          (apply mT_getf; (case hc => rfl); (case ha => first | rfl | assumption); (case hf => first | rfl | assumption))
          iterate 3 refine mT_s rfl rfl ?_
          (apply mT_inv; (case hc => rfl); (case hd => rfl); (case hb => first | rfl | assumption); (case hg => rfl))
          obtain ⟨m, hm, hnn⟩ := i_nat (n := 10) (Int32.not_lt.mp c10) (Int32.not_lt.mp c16) (by omega)
          have hm12 : m ≤ 12 := by omega
          rw [ix1, ix2]
          have hpa := hm1 a (okP_n hn6 (by omega) ha ix1 va)
          have hpb := hm1 b (okP_n hn6 (by omega) hb ix2 vb)
          refine y_begins _ h _ i iv s l le mo hle hmo B mm M a b g ha hb hg1 ⟨hpa, hmm a ha⟩ ⟨hpb, hmm b hb⟩ false hDu (fun h1 W1 f1 D1 hF1 hS1 => ?_)
          have hX1 : h1 20 = _ := (f1 20 (by decide)).trans hX
          have hN1 : 87 ≤ m_nx h1 := nx_eq (f1 0 (by decide)) hN
          have B1 := B.d5 (h2 := h1) (fun c z1 z2 => f1 c (by omega)) (by rw [f1 30 (by decide)]; exact h9)
          have h91 := B1.2.2.2.2.2.2.2
          obtain ⟨fs531, hD531⟩ := D1.sh
          have hodb : ∀ m o g, a_od s l a b m o g ≤ 9 := fun m o g => (a_od_n s l a b m o g).2.2
          iterate 4 refine mT_s rfl rfl ?_
          rw [hnn]
          refine x_st_L _ Q it i iv s l le mo hle hmo a b g m ha hb hg h1 hX1 B1 (iL (eG (a_od s l a b) (n_few le) (n_mor mo) st_no (rw_st (a_od s l a b)) m g 0 (mm a) (mm b))) hm12 part (fun h2 W2 E2 f2 h92 D2 hF2 => ?_) m 0 h1 W1 0 (by omega) (fun _ _ _ => rfl) h91 D1 ?_ hS1
          obtain ⟨fs532, hD532⟩ := D2.sh
          have fh2 : ∀ c, c ≠ 30 → c < 53 ∨ 61 < c → h2 c = h c := fun c z1 z2 => (f2 c z1 z2).trans (f1 c z2)
          have hX2 : h2 20 = _ := (fh2 20 (by decide) (by decide)).trans hX
          have hN2 : 87 ≤ m_nx h2 := nx_eq (fh2 0 (by decide) (by decide)) hN
          have X2 : XR 21 h2 i iv s l le mo nb wi lo := X.c5 (fun c z1 z2 => fh2 c z1 (by omega)) h92
          have b12 : 10 ^ m ≤ 10 ^ 12 := Nat.pow_le_pow_right (by decide) hm12
          iterate 2 refine mT_s rfl rfl ?_
          refine mT_c rfl rfl ?_
          have hq1 : E2 = iL (eG (a_od s l a b) (n_few le) (n_mor mo) st_no (rw_st (a_od s l a b)) m g 0 (mm a) (mm b)) := by
            rw [← hF2, Nat.sub_self, FW_none (fun j hj hn => by
              unfold dc
              rfl), Int64.add_zero]
            exact (Int64.mul_one _).symm
          rw [hq1]
          refine x_pow _ _ _ m (by omega) ?_
          refine mT_s rfl rfl ?_
          refine mT_c rfl rfl ?_
          refine x_partOf _ _ _ (eG (a_od s l a b) (n_few le) (n_mor mo) st_no (rw_st (a_od s l a b)) m g 0 (mm a) (mm b)) (b_stakes (hmm a ha) (hmm b hb) hm) _ part (Nat.pow_pos (by decide)) (by omega) ?_
          refine mT_ret rfl rfl ?_
          exact k a b ha hb ix1 ix2 va vb hab m hm hnn a21 h2 fh2 D2.idle X2
          rw [hF1, Int64.zero_mul, Int64.zero_add]
          show iL (eG _ _ _ _ _ (m - 0) (g + 0) 0 (mm a) (mm b)) = _
          rfl
