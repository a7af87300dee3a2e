/-! By program (wip/whole/book*.py) and hand. -/
theorem mT0_d {d e y pc : Nat} {ls : mL} {st : List Value} {h : mH} {Q : Option Value → mH → Prop} (he : d = e) (k : mT0 e y pc ls st h Q) : mT0 d y pc ls st h Q := by
  rw [he]
  exact k
theorem rX.back {c : List Nat} {h h2 : mH} {e : mE} {k : Nat} (a : rX c h h2) (ha : h k = e) (hk : k ∉ c) : h2 k = e := (a.1 k hk).trans ha
theorem e_areTwo (d : Nat) (h : mH) (s i : Nat → Int32) (o t : Nat) (pd bw : Int64) (Q : Option Value → mH → Prop) (hM : h 76 = .inr (10, mObj i o t pd bw)) (h77 : h 77 = .inl (0, 889, .inl s)) (hN : 87 ≤ m_nx h) (hI : s_Inv s)  (x y : Int32) (k0 : ¬ (okP s x ∧ okP s y ∧ x ≠ y) → Q (some (.int 0)) h) (k : ∀ a b : Nat, a < 5 → b < 5 → x = nI a → y = nI b → okP s x → okP s y → a ≠ b → Q (some (.int 1)) h) : mT0 (d + 2) z_X10_areTwo 0 (m_init z_X10_areTwo [.ref 76, .int x, .int y]) [] h Q := by
  iterate 2 refine mT_s rfl rfl ?_
  (apply mT_inv; (case hc => rfl); (case hd => rfl); (case hb => first | rfl | assumption); (case hg => rfl))
  refine e_isPlayer _ _ _ _ _ _ _ _ _ hM h77 hN hI _ (fun j2 hj2 e2 v2 => ?_) (fun v2 => ?_)
  · skip
    iterate 3 refine mT_s rfl rfl ?_
    (apply mT_inv; (case hc => rfl); (case hd => rfl); (case hb => first | rfl | assumption); (case hg => rfl))
    refine e_isPlayer _ _ _ _ _ _ _ _ _ hM h77 hN hI _ (fun j10 hj10 e10 v10 => ?_) (fun v10 => ?_)
    · skip
      iterate 3 refine mT_s rfl rfl ?_
      refine mT_icmp_eq rfl (fun c18 => ?_) (fun c18 => ?_)
      · refine mT_s rfl rfl ?_
        refine mT_ret rfl rfl ?_
        exact k0 (fun z => z.2.2 c18)
      · iterate 2 refine mT_s rfl rfl ?_
        refine mT_ret rfl rfl ?_
        exact k j2 j10 hj2 hj10 e2 e10 v2 v10 (fun z => c18 (by rw [e2, e10, z]))
    · iterate 2 refine mT_s rfl rfl ?_
      refine mT_ret rfl rfl ?_
      exact k0 (fun z => v10 z.2.1)
  · iterate 2 refine mT_s rfl rfl ?_
    refine mT_ret rfl rfl ?_
    exact k0 (fun z => v2 z.1)

theorem e_push (d : Nat) (h : mH) (s i : Nat → Int32) (o t : Nat) (pd bw : Int64) (Q : Option Value → mH → Prop) (hM : h 76 = .inr (10, mObj i o t pd bw)) (h77 : h 77 = .inl (0, 889, .inl s)) (hN : 87 ≤ m_nx h) (hI : s_Inv s) {l : List Tok} {le mo : Nat} (hG : sG s l le mo) (mm : Nat → Nat) (g : Nat) (hmm : ∀ j, j < 5 → mm j ≤ 20) (hs : s_at s mm g = s) (hg : g ≤ 9999) (h80 : ∃ f, h 80 = .inl (0, 5, .inl f)) (h81 : ∃ g, h 81 = .inl (2, 64, .inl g))  (x y : Int32) (kN : ¬ (okP s x ∧ okP s y) → Q (some (.int (-10001))) h) (kB : okP s x → okP s y → x = y → Q (some (.int (-10002))) h) (k : ∀ a b : Nat, a < 5 → b < 5 → x = nI a → y = nI b → okP s x → okP s y → a ≠ b → ∀ h2, rX [77, 80, 81] h h2 → h2 77 = .inl (0, 889, .inl s) → Q (some (.int (a_push s l a (mm a) (mm b) g))) h2) : mT0 (d + 2) z_X10_push 0 (m_init z_X10_push [.ref 76, .int x, .int y]) [] h Q := by
  iterate 2 refine mT_s rfl rfl ?_
  (apply mT_inv; (case hc => rfl); (case hd => rfl); (case hb => first | rfl | assumption); (case hg => rfl))
  refine e_isPlayer _ _ _ _ _ _ _ _ _ hM h77 hN hI _ (fun j2 hj2 e2 v2 => ?_) (fun v2 => ?_)
  · skip
    iterate 3 refine mT_s rfl rfl ?_
    (apply mT_inv; (case hc => rfl); (case hd => rfl); (case hb => first | rfl | assumption); (case hg => rfl))
    refine e_isPlayer _ _ _ _ _ _ _ _ _ hM h77 hN hI _ (fun j10 hj10 e10 v10 => ?_) (fun v10 => ?_)
    · skip
      iterate 3 refine mT_s rfl rfl ?_
      refine mT_icmp_ne rfl (fun c22 => ?_) (fun c22 => ?_)
      · iterate 3 refine mT_s rfl rfl ?_
        (apply mT_inv; (case hc => rfl); (case hd => rfl); (case hb => first | rfl | assumption); (case hg => rfl))
        rw [e2, e10]
        refine e_pushOf _ h s i o t pd bw _ hM h77 hN j2 j10 hj2 hj10 l hG.1 h80 h81 (mm j2) (mm j10) g (by rw [← s_at_m s mm g hj2, hs]) (by rw [← s_at_m s mm g hj10, hs]) (by rw [← hs]; rfl) (by omega) (fun h5 hr5 => ?_)
        refine mT_ret rfl rfl ?_
        exact k j2 j10 hj2 hj10 e2 e10 v2 v10 (fun z => c22 (by rw [e2, e10, z])) h5 hr5.rX (hr5.rX.tr (rX.rfl' hr5.2.1 hr5.2.2) |> fun _ => (hr5.1 77 (by decide) (by decide)).trans h77)
      · iterate 2 refine mT_s rfl rfl ?_
        refine mT_ret rfl rfl ?_
        exact kB v2 v10 c22
    · iterate 2 refine mT_s rfl rfl ?_
      refine mT_ret rfl rfl ?_
      exact kN (fun z => v10 z.2)
  · iterate 2 refine mT_s rfl rfl ?_
    refine mT_ret rfl rfl ?_
    exact kN (fun z => v2 z.1)

theorem e_odds (d : Nat) (h : mH) (s i : Nat → Int32) (o t : Nat) (pd bw : Int64) (Q : Option Value → mH → Prop) (hM : h 76 = .inr (10, mObj i o t pd bw)) (h77 : h 77 = .inl (0, 889, .inl s)) (hN : 87 ≤ m_nx h) (hI : s_Inv s) {l : List Tok} {le mo : Nat} (hG : sG s l le mo) (mm : Nat → Nat) (g : Nat) (hmm : ∀ j, j < 5 → mm j ≤ 20) (hs : s_at s mm g = s) (hg : g ≤ 9999) (h80 : ∃ f, h 80 = .inl (0, 5, .inl f)) (h81 : ∃ g, h 81 = .inl (2, 64, .inl g))  (x y : Int32) (kN : ¬ (okP s x ∧ okP s y) → Q (some (.int (-1))) h) (kB : okP s x → okP s y → x = y → Q (some (.int (-2))) h) (k : ∀ a b : Nat, a < 5 → b < 5 → x = nI a → y = nI b → okP s x → okP s y → a ≠ b → ∀ h2, rX [77, 80, 81] h h2 → h2 77 = .inl (0, 889, .inl s) → Q (some (.int (nI (a_od s l a b (mm a) (mm b) g)))) h2) : mT0 (d + 3) z_X10_odds 0 (m_init z_X10_odds [.ref 76, .int x, .int y]) [] h Q := by
  iterate 2 refine mT_s rfl rfl ?_
  (apply mT_inv; (case hc => rfl); (case hd => rfl); (case hb => first | rfl | assumption); (case hg => rfl))
  refine e_isPlayer _ _ _ _ _ _ _ _ _ hM h77 hN hI _ (fun j2 hj2 e2 v2 => ?_) (fun v2 => ?_)
  · skip
    iterate 3 refine mT_s rfl rfl ?_
    (apply mT_inv; (case hc => rfl); (case hd => rfl); (case hb => first | rfl | assumption); (case hg => rfl))
    refine e_isPlayer _ _ _ _ _ _ _ _ _ hM h77 hN hI _ (fun j10 hj10 e10 v10 => ?_) (fun v10 => ?_)
    · skip
      iterate 3 refine mT_s rfl rfl ?_
      refine mT_icmp_ne rfl (fun c20 => ?_) (fun c20 => ?_)
      · iterate 3 refine mT_s rfl rfl ?_
        (apply mT_inv; (case hc => rfl); (case hd => rfl); (case hb => first | rfl | assumption); (case hg => rfl))
        rw [e2, e10]
        refine e_odds_at _ h s i o t pd bw _ mm g hM (by rw [hs]; exact h77) hN hG j2 j10 hj2 hj10 (by omega) h80 h81 (fun h5 hr5 h775 => ?_)
        rw [hs] at h775
        refine mT_ret rfl rfl ?_
        exact k j2 j10 hj2 hj10 e2 e10 v2 v10 (fun z => c20 (by rw [e2, e10, z])) h5 hr5 h775
      · iterate 2 refine mT_s rfl rfl ?_
        refine mT_ret rfl rfl ?_
        exact kB v2 v10 c20
    · iterate 2 refine mT_s rfl rfl ?_
      refine mT_ret rfl rfl ?_
      exact kN (fun z => v10 z.2)
  · iterate 2 refine mT_s rfl rfl ?_
    refine mT_ret rfl rfl ?_
    exact kN (fun z => v2 z.1)

theorem e_purpose (d : Nat) (h : mH) (s i : Nat → Int32) (o t : Nat) (pd bw : Int64) (Q : Option Value → mH → Prop) (hM : h 76 = .inr (10, mObj i o t pd bw)) (h77 : h 77 = .inl (0, 889, .inl s)) (hN : 87 ≤ m_nx h) (hI : s_Inv s) {l : List Tok} {le mo : Nat} (hG : sG s l le mo) (mm : Nat → Nat) (g : Nat) (hmm : ∀ j, j < 5 → mm j ≤ 20) (hs : s_at s mm g = s) (hg : g ≤ 9999) (h80 : ∃ f, h 80 = .inl (0, 5, .inl f)) (h81 : ∃ g, h 81 = .inl (2, 64, .inl g))  (x y n part : Int32) (kN : ¬ (okP s x ∧ okP s y ∧ x ≠ y ∧ (1 ≤ n ∧ n ≤ 8) ∧ (0 ≤ part ∧ part ≤ 1)) → Q (some (.long (-9223372036854775808))) h) (k : ∀ a b : Nat, a < 5 → b < 5 → x = nI a → y = nI b → okP s x → okP s y → a ≠ b → ∀ m : Nat, m < 8 → n = nI (m + 1) → (0 ≤ part ∧ part ≤ 1) → ∀ h2 i2, rX [76, 77, 80, 81] h h2 → h2 77 = .inl (0, 889, .inl s) → h2 76 = .inr (10, mObj i2 o t pd bw) → (∀ j, j ≠ 15 → i2 j = i j) → Q (some (.long (v_low (nP (a_od s l a b) (n_few le) (n_mor mo) m g (mm a) (mm b)) (10 ^ (m + 1)) part))) h2) : mT0 (d + 11) z_X10_purpose 0 (m_init z_X10_purpose [.ref 76, .int x, .int y, .int n, .int part]) [] h Q := by
  iterate 3 refine mT_s rfl rfl ?_
  (apply mT_inv; (case hc => rfl); (case hd => rfl); (case hb => first | rfl | assumption); (case hg => rfl))
  refine e_areTwo _ h s i o t pd bw _ hM h77 hN hI x y (fun two => ?_) (fun j2 j10 hj2 hj10 e2 e10 v2 v10 hne => ?_)
  · skip
    iterate 2 refine mT_s rfl rfl ?_
    refine mT_ret rfl rfl ?_
    exact kN (fun z => two ⟨z.1, z.2.1, z.2.2.1⟩)
  · iterate 4 refine mT_s rfl rfl ?_
    refine mT_c rfl rfl ?_
    refine e_in _ _ _ _ _ _ (fun a13 b13 => ?_) (fun a13 => ?_)
    · iterate 4 refine mT_s rfl rfl ?_
      refine mT_c rfl rfl ?_
      refine e_in _ _ _ _ _ _ (fun a23 b23 => ?_) (fun a23 => ?_)
      · iterate 5 refine mT_s rfl rfl ?_
        (apply mT_inv; (case hc => rfl); (case hd => rfl); (case hb => first | rfl | assumption); (case hg => rfl))
        obtain ⟨m, hm, hnn⟩ : ∃ m : Nat, m < 8 ∧ n = nI (m + 1) := by
          obtain ⟨z, hz, rfl⟩ := i_nat (n := 8) (Int32.le_trans (by decide) a13) b13 (by omega)
          rcases z with _ | z
          · exact absurd a13 (by decide)
          · exact ⟨z, by omega, rfl⟩
        rw [e2, e10, hnn]
        refine mT0_d (e := d + (7 - m) + m + 3) (by omega) ?_
        refine e_bestFor s o t bw hG j2 j10 hj2 hj10 hne _ m h i pd _ mm g hmm (by omega) hm hM (by rw [hs]; exact h77) hN h80 h81 (fun h5 hr5 h775 h765 => ?_)
        rw [hs] at h775
        have b0 : 10 ^ m ≤ 10 ^ 7 := Nat.pow_le_pow_right (by decide) (by omega)
        have b1 := nP_le (fw := n_few le) (mr := n_mor mo) (fun m o g => (a_od_n s l j2 j10 m o g).2.2) m g (mm j2) (mm j10)
        have hlow : ((nP (a_od s l j2 j10) (n_few le) (n_mor mo) m g (mm j2) (mm j10) : Nat) : Int).natAbs < 2 ^ 62 := by rw [Int.natAbs_natCast]; omega
        have hlow2 : 10 ^ (m + 1) < 2 ^ 62 := by rw [Nat.pow_succ]; omega
        refine mT_s rfl rfl ?_
        refine mT_c rfl rfl ?_
        refine e_tens _ _ _ (m + 1) (by omega) ?_
        refine mT_s rfl rfl ?_
        refine mT_c rfl rfl ?_
        refine e_lowest _ _ _ ((nP (a_od s l j2 j10) (n_few le) (n_mor mo) m g (mm j2) (mm j10) : Nat) : Int) hlow _ part (Nat.pow_pos (by decide)) hlow2 ?_
        refine mT_ret rfl rfl ?_
        exact k j2 j10 hj2 hj10 e2 e10 v2 v10 hne m hm hnn ⟨a23, b23⟩ h5 _ hr5 h775 h765 (fun j hj => upd_n i _ hj)
      · iterate 2 refine mT_s rfl rfl ?_
        refine mT_ret rfl rfl ?_
        exact kN (fun z => a23 z.2.2.2.2)
    · iterate 2 refine mT_s rfl rfl ?_
      refine mT_ret rfl rfl ?_
      exact kN (fun z => a13 z.2.2.2.1)

theorem bI_0 {b : Bool} (h : bI b = 0) : b = false := by
  cases b with
  | false => rfl
  | true => exact absurd h (by decide)
theorem bI_1 {b : Bool} (h : ¬ bI b = 0) : b = true := by
  cases b with
  | false => exact absurd rfl h
  | true => rfl
theorem e_loses (d : Nat) (h : mH) (s i : Nat → Int32) (o t : Nat) (pd bw : Int64) (Q : Option Value → mH → Prop) (hM : h 76 = .inr (10, mObj i o t pd bw)) (h77 : h 77 = .inl (0, 889, .inl s)) (hN : 87 ≤ m_nx h) (hI : s_Inv s) {l : List Tok} {le mo : Nat} (hG : sG s l le mo) (mm : Nat → Nat) (g : Nat) (hmm : ∀ j, j < 5 → mm j ≤ 20) (hs : s_at s mm g = s) (hg : g ≤ 9999) (h80 : ∃ f, h 80 = .inl (0, 5, .inl f)) (h81 : ∃ g, h 81 = .inl (2, 64, .inl g))  (x y n : Int32) (kN : ¬ (okP s x ∧ okP s y) → Q (some (.int (-1))) h) (kB : okP s x → okP s y → (x = y ∨ ¬ (1 ≤ n ∧ n ≤ 8)) → Q (some (.int (-2))) h) (k : ∀ a b : Nat, a < 5 → b < 5 → x = nI a → y = nI b → okP s x → okP s y → a ≠ b → ∀ m : Nat, m < 8 → n = nI (m + 1) → ∀ h2 i2, rX [76, 77, 80, 81] h h2 → h2 77 = .inl (0, 889, .inl s) → h2 76 = .inr (10, mObj i2 o t pd bw) → (∀ j, j ≠ 15 → i2 j = i j) → Q (some (.int (bI (nPl (a_od s l a b) (n_few le) (n_mor mo) m g (mm a) (mm b))))) h2) : mT0 (d + 11) z_X10_loses 0 (m_init z_X10_loses [.ref 76, .int x, .int y, .int n]) [] h Q := by
  iterate 2 refine mT_s rfl rfl ?_
  (apply mT_inv; (case hc => rfl); (case hd => rfl); (case hb => first | rfl | assumption); (case hg => rfl))
  refine e_isPlayer _ _ _ _ _ _ _ _ _ hM h77 hN hI _ (fun j2 hj2 e2 v2 => ?_) (fun v2 => ?_)
  · skip
    iterate 3 refine mT_s rfl rfl ?_
    (apply mT_inv; (case hc => rfl); (case hd => rfl); (case hb => first | rfl | assumption); (case hg => rfl))
    refine e_isPlayer _ _ _ _ _ _ _ _ _ hM h77 hN hI _ (fun j10 hj10 e10 v10 => ?_) (fun v10 => ?_)
    · skip
      iterate 3 refine mT_s rfl rfl ?_
      refine mT_icmp_eq rfl (fun c20 => ?_) (fun c20 => ?_)
      · refine mT_s rfl rfl ?_
        refine mT_ret rfl rfl ?_
        exact kB v2 v10 (Or.inl c20)
      · iterate 3 refine mT_s rfl rfl ?_
        refine mT_c rfl rfl ?_
        refine e_in _ _ _ _ _ _ (fun a27 b27 => ?_) (fun a27 => ?_)
        · iterate 5 refine mT_s rfl rfl ?_
          (apply mT_inv; (case hc => rfl); (case hd => rfl); (case hb => first | rfl | assumption); (case hg => rfl))
          obtain ⟨m, hm, hnn⟩ : ∃ m : Nat, m < 8 ∧ n = nI (m + 1) := by
            obtain ⟨z, hz, rfl⟩ := i_nat (n := 8) (Int32.le_trans (by decide) a27) b27 (by omega)
            rcases z with _ | z
            · exact absurd a27 (by decide)
            · exact ⟨z, by omega, rfl⟩
          rw [e2, e10, hnn]
          refine mT0_d (e := d + (7 - m) + m + 3) (by omega) ?_
          refine e_bestFor s o t bw hG j2 j10 hj2 hj10 (fun z => c20 (by rw [e2, e10, z])) _ m h i pd _ mm g hmm (by omega) hm hM (by rw [hs]; exact h77) hN h80 h81 (fun h5 hr5 h775 h765 => ?_)
          rw [hs] at h775
          iterate 2 refine mT_s rfl rfl ?_
          (apply mT_getf; (case hc => rfl); (case ha => first | rfl | assumption); (case hf => first | rfl | assumption))
          refine mT_if_eq rfl (fun c48 => ?_) (fun c48 => ?_)
          · refine mT_s rfl rfl ?_
            refine mT_ret rfl rfl ?_
            have c48 := bI_0 c48
            have k := k j2 j10 hj2 hj10 e2 e10 v2 v10 (fun z => c20 (by rw [e2, e10, z])) m hm hnn h5 _ hr5 h775 h765 (fun j hj => upd_n i _ hj)
            rw [c48] at k
            exact k
          · iterate 2 refine mT_s rfl rfl ?_
            refine mT_ret rfl rfl ?_
            have c48 := bI_1 c48
            have k := k j2 j10 hj2 hj10 e2 e10 v2 v10 (fun z => c20 (by rw [e2, e10, z])) m hm hnn h5 _ hr5 h775 h765 (fun j hj => upd_n i _ hj)
            rw [c48] at k
            exact k
        · iterate 2 refine mT_s rfl rfl ?_
          refine mT_ret rfl rfl ?_
          exact kB v2 v10 (Or.inr (fun z => a27 z))
    · iterate 2 refine mT_s rfl rfl ?_
      refine mT_ret rfl rfl ?_
      exact kN (fun z => v10 z.2)
  · iterate 2 refine mT_s rfl rfl ?_
    refine mT_ret rfl rfl ?_
    exact kN (fun z => v2 z.1)

theorem eG_first_le {od : Nat → Nat → Nat → Nat} {fw mr : Nat → Nat} {k : Nat} (hod : ∀ m o g, od m o g ≤ 9) : ∀ {n g w m o : Nat}, ∃ v : Nat, eG od fw mr (st_first k) rw_no n g w m o = (v : Int) ∧ v ≤ 10 ^ n
  | 0, g, w, m, o => by
    by_cases h : w = k
    · exact ⟨10 ^ 0, eG_some (by unfold st_first; rw [if_pos h]), Nat.le_refl _⟩
    · refine ⟨0, ?_, by decide⟩
      show (st_first k 0 w m o).getD 0 = _
      unfold st_first
      rw [if_neg h]
      rfl
  | n + 1, g, w, m, o => by
    by_cases h : w = k
    · exact ⟨10 ^ (n + 1), eG_some (by unfold st_first; rw [if_pos h]), Nat.le_refl _⟩
    · obtain ⟨a, ha, hb⟩ := eG_first_le (k := k) (fw := fw) (mr := mr) hod (n := n) (g := g + 1) (w := w + 1) (m := fw m) (o := mr o)
      obtain ⟨c, hc, he⟩ := eG_first_le (k := k) (fw := fw) (mr := mr) hod (n := n) (g := g + 1) (w := w) (m := mr m) (o := fw o)
      have h1 := hod m o g
      refine ⟨od m o g * a + (10 - od m o g) * c, ?_, ?_⟩
      · rw [eG_none (by unfold st_first; rw [if_neg h]), ha, hc]
        show 0 + _ + _ = _
        rw [Int.zero_add, Int.natCast_add, Int.natCast_mul, Int.natCast_mul, Int.ofNat_sub (by omega)]
        rfl
      · rw [Nat.pow_succ, Nat.mul_comm (10 ^ n) 10]
        exact mix_le (by omega) hb he
theorem e_series (d : Nat) (h : mH) (s i : Nat → Int32) (o t : Nat) (pd bw : Int64) (Q : Option Value → mH → Prop) (hM : h 76 = .inr (10, mObj i o t pd bw)) (h77 : h 77 = .inl (0, 889, .inl s)) (hN : 87 ≤ m_nx h) (hI : s_Inv s) {l : List Tok} {le mo : Nat} (hG : sG s l le mo) (mm : Nat → Nat) (g : Nat) (hmm : ∀ j, j < 5 → mm j ≤ 20) (hs : s_at s mm g = s) (hg : g ≤ 9999) (h80 : ∃ f, h 80 = .inl (0, 5, .inl f)) (h81 : ∃ g, h 81 = .inl (2, 64, .inl g))  (x y n part : Int32) (kN : ¬ (okP s x ∧ okP s y ∧ x ≠ y ∧ (1 ≤ n ∧ n ≤ 5) ∧ (0 ≤ part ∧ part ≤ 1)) → Q (some (.long (-9223372036854775808))) h) (k : ∀ a b : Nat, a < 5 → b < 5 → x = nI a → y = nI b → okP s x → okP s y → a ≠ b → ∀ m : Nat, 1 ≤ m → m ≤ 5 → n = nI m → (0 ≤ part ∧ part ≤ 1) → ∀ h2, rX [77, 80, 81] h h2 → h2 77 = .inl (0, 889, .inl s) → Q (some (.long (v_low (eG (a_od s l a b) (n_few le) (n_mor mo) (st_first m) rw_no (2 * m - 1) g 0 (mm a) (mm b)) (10 ^ (2 * m - 1)) part))) h2) : mT0 (d + 13) z_X10_series 0 (m_init z_X10_series [.ref 76, .int x, .int y, .int n, .int part]) [] h Q := by
  iterate 3 refine mT_s rfl rfl ?_
  (apply mT_inv; (case hc => rfl); (case hd => rfl); (case hb => first | rfl | assumption); (case hg => rfl))
  refine e_areTwo _ h s i o t pd bw _ hM h77 hN hI x y (fun two => ?_) (fun j2 j10 hj2 hj10 e2 e10 v2 v10 hne => ?_)
  · skip
    iterate 2 refine mT_s rfl rfl ?_
    refine mT_ret rfl rfl ?_
    exact kN (fun z => two ⟨z.1, z.2.1, z.2.2.1⟩)
  · iterate 4 refine mT_s rfl rfl ?_
    refine mT_c rfl rfl ?_
    refine e_in _ _ _ _ _ _ (fun a12 b12 => ?_) (fun a12 => ?_)
    · iterate 4 refine mT_s rfl rfl ?_
      refine mT_c rfl rfl ?_
      refine e_in _ _ _ _ _ _ (fun a22 b22 => ?_) (fun a22 => ?_)
      · iterate 7 refine mT_s rfl rfl ?_
        (apply mT_inv; (case hc => rfl); (case hd => rfl); (case hb => first | rfl | assumption); (case hg => rfl))
        obtain ⟨m, hm, hnn⟩ : ∃ m : Nat, m ≤ 5 ∧ n = nI m := i_nat (n := 5) (Int32.le_trans (by decide) a12) b12 (by omega)
        have hm1 : 1 ≤ m := by
          rcases Nat.eq_zero_or_pos m with z | z
          · subst z; rw [hnn] at a12; exact absurd a12 (by decide)
          · exact z
        rw [e2, e10, hnn]
        refine mT0_d (e := d + (9 - (2 * m - 1)) + (2 * m - 1) + 3) (by omega) ?_
        refine e_firsts s o t bw hG j2 j10 hj2 hj10 hne m (by omega) _ (2 * m - 1) 0 0 h i pd _ mm g hmm (by omega) (by omega) (by omega) (by omega) hM (by rw [hs]; exact h77) hN h80 h81 (fun h5 hr5 h775 => ?_)
        rw [hs] at h775
        have b0 : 10 ^ (2 * m - 1) ≤ 10 ^ 9 := Nat.pow_le_pow_right (by decide) (by omega)
        obtain ⟨v, hv, hv2⟩ := eG_first_le (k := m) (fw := n_few le) (mr := n_mor mo) (fun m o g => (a_od_n s l j2 j10 m o g).2.2) (n := 2 * m - 1) (g := g) (w := 0) (m := mm j2) (o := mm j10)
        iterate 5 refine mT_s rfl rfl ?_
        refine mT_c rfl rfl ?_
        rw [show (2 : Int32) * nI m - 1 = nI (2 * m - 1) from by rw [show (2 : Int32) = nI 2 from rfl, show (1 : Int32) = nI 1 from rfl, pk_mul, pk_sub (by omega)]]
        refine e_tens _ _ _ (2 * m - 1) (by omega) ?_
        refine mT_s rfl rfl ?_
        refine mT_c rfl rfl ?_
        refine e_lowest _ _ _ (eG (a_od s l j2 j10) (n_few le) (n_mor mo) (st_first m) rw_no (2 * m - 1) g 0 (mm j2) (mm j10)) (by rw [hv, Int.natAbs_natCast]; omega) _ part (Nat.pow_pos (by decide)) (by omega) ?_
        refine mT_ret rfl rfl ?_
        exact k j2 j10 hj2 hj10 e2 e10 v2 v10 hne m hm1 hm hnn ⟨a22, b22⟩ h5 hr5 h775
      · iterate 2 refine mT_s rfl rfl ?_
        refine mT_ret rfl rfl ?_
        exact kN (fun z => a22 z.2.2.2.2)
    · iterate 2 refine mT_s rfl rfl ?_
      refine mT_ret rfl rfl ?_
      exact kN (fun z => a12 z.2.2.2.1)
