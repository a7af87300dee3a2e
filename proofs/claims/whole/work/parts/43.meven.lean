/-! By program (wip/whole/book*.py) and hand. -/
def nOff (k : Nat) : Nat := if 5 ≤ k then k - 5 else 5 - k
/-- the first men at which the odds are nearest to 5 -/
def nE (od : Nat → Nat) : Nat → Nat → Nat → Nat → Nat
  | 0, _, b, _ => b
  | r + 1, k, b, le => if nOff (od k) < le then nE od r (k + 1) k (nOff (od k)) else nE od r (k + 1) b le
theorem s_at_up (s : Nat → Int32) (mm : Nat → Nat) (g x : Nat) {p : Nat} (hp : p < 5) (y : Nat) : upd (s_at s (updM mm p x) g) (1 + p) (nI y) = s_at s (updM mm p y) g := by
  rw [s_at_um s _ _ _ hp, updM_u]
theorem rX.mid {h h2 : mH} {c : mE} (a : rX [77, 80, 81] (m_up h 77 c) h2) : rX [77, 80, 81] h h2 :=
  ⟨fun k hk => (a.1 k hk).trans (m_up_n (fun z => hk (by rw [z]; decide))), a.2⟩
set_option maxHeartbeats 4000000 in
theorem e_even_L (s i : Nat → Int32) (o t : Nat) (pd bw : Int64) {l : List Tok} {le mo : Nat} (hG : sG s l le mo) (p q : Nat) (hp : p < 5) (hq : q < 5) (hpq : p ≠ q) (mm : Nat → Nat) (g : Nat) (hg : g < 20000) (Q : Option Value → mH → Prop) (d : Nat) : ∀ (r k : Nat) (h : mH) (best least : Nat) (x7 : Option Value), k + r = 21 → 1 ≤ k → best ≤ 30 → least ≤ 100 → h 76 = .inr (10, mObj i o t pd bw) → (∃ m0, h 77 = .inl (0, 889, .inl (s_at s (updM mm p m0) g))) → 87 ≤ m_nx h → (∃ f, h 80 = .inl (0, 5, .inl f)) → (∃ g, h 81 = .inl (2, 64, .inl g)) → (∀ h2, rX [77, 80, 81] h h2 → h2 77 = .inl (0, 889, .inl (s_at s mm g)) → Q (some (.int (nI (nE (fun m => a_od s l p q m (mm q) g) r k best least)))) h2) → mT0 (d + 3) z_X10_even 45 [some (.ref 76), some (.int (nI p)), some (.int (nI q)), some (.int (nI (mm p))), some (.int (nI best)), some (.int (nI least)), some (.int (nI k)), x7] [] h Q := by
  intro r
  induction r with
  | zero =>
    intro k h best least x7 hk hk1 hbe hle hM ⟨m0, h77⟩ hN h80 h81 K
    iterate 2 refine mT_s rfl rfl ?_
    refine mT_icmp_gt rfl (fun _ => ?_) (fun c => absurd (show nI 20 < nI k from nI_lt (by omega) (by omega)) c)
    refine mT_s rfl rfl ?_
    (apply mT_getf; (case hc => rfl); (case ha => first | rfl | assumption); (case hf => first | rfl | assumption))
    iterate 4 refine mT_s rfl rfl ?_
    (apply mT_iastK; (case hc => rfl); (case ha => first | rfl | assumption); (case hk => first | (simp only [ki_0, ki_1, ki_2, ki_3, ki_4, ki_5, ki_6, ki_7, ki_8, ki_9, ki_10, ki_11, ki_12, ki_17, ki_20, ki_21, ki_22, ki_42, ki_50, ki_58, ki_66, ki_74, ki_140, ki_174, ki_179, ki_184, ki_189, ki_441, nI_add, pk_mul]; with_reducible rfl) | (simp only [ki_0, ki_1, ki_2, ki_3, ki_4, ki_5, ki_6, ki_7, ki_8, ki_9, ki_10, ki_11, ki_12, ki_17, ki_20, ki_21, ki_22, ki_42, ki_50, ki_58, ki_66, ki_74, ki_140, ki_174, ki_179, ki_184, ki_189, ki_441, ix1, nI_add, pk_mul]; with_reducible rfl) | (simp only [ki_0, ki_1, ki_2, ki_3, ki_4, ki_5, ki_6, ki_7, ki_8, ki_9, ki_10, ki_11, ki_12, ki_17, ki_20, ki_21, ki_22, ki_42, ki_50, ki_58, ki_66, ki_74, ki_140, ki_174, ki_179, ki_184, ki_189, ki_441, ix1, ix2, nI_add, pk_mul]; with_reducible rfl) | (simp only [ki_0, ki_1, ki_2, ki_3, ki_4, ki_5, ki_6, ki_7, ki_8, ki_9, ki_10, ki_11, ki_12, ki_17, ki_20, ki_21, ki_22, ki_42, ki_50, ki_58, ki_66, ki_74, ki_140, ki_174, ki_179, ki_184, ki_189, ki_441, ix1, ix2, ix3, nI_add, pk_mul]; with_reducible rfl) | (simp (disch := omega) only [upd_n, ki_0, ki_1, ki_2, ki_3, ki_4, ki_5, ki_6, ki_7, ki_8, ki_9, ki_10, ki_11, ki_12, ki_17, ki_20, ki_21, ki_22, ki_42, ki_50, ki_58, ki_66, ki_74, ki_140, ki_174, ki_179, ki_184, ki_189, ki_441, ix1, nI_add, pk_mul]; with_reducible rfl) | (simp (disch := omega) only [upd_n, ki_0, ki_1, ki_2, ki_3, ki_4, ki_5, ki_6, ki_7, ki_8, ki_9, ki_10, ki_11, ki_12, ki_17, ki_20, ki_21, ki_22, ki_42, ki_50, ki_58, ki_66, ki_74, ki_140, ki_174, ki_179, ki_184, ki_189, ki_441, ix1, ix2, nI_add, pk_mul]; with_reducible rfl) | rfl); (case hlt => first | decide | omega); (case hn => decide); (case hN => assumption); (case hg => rfl))
    refine mT_s rfl rfl ?_
    refine mT_ret rfl rfl ?_
    rw [s_at_up s mm g m0 hp, updM_id mm rfl]
    exact K (m_up h 77 (.inl (0, 889, .inl (s_at s mm g)))) ((rX.rfl' h80 h81).up (by decide) (by decide) (by decide)) rfl
  | succ r ih =>
    intro k h best least x7 hk hk1 hbe hle hM ⟨m0, h77⟩ hN h80 h81 K
    by_cases h5 : 5 ≤ a_od s l p q k (mm q) g
    · skip
      iterate 2 refine mT_s rfl rfl ?_
      refine mT_icmp_gt rfl (fun c => absurd c (Int32.not_lt.mpr (nI_le (b := 20) (by omega) (by omega)))) (fun _ => ?_)
      refine mT_s rfl rfl ?_
      (apply mT_getf; (case hc => rfl); (case ha => first | rfl | assumption); (case hf => first | rfl | assumption))
      iterate 4 refine mT_s rfl rfl ?_
      (apply mT_iastK; (case hc => rfl); (case ha => first | rfl | assumption); (case hk => first | (simp only [ki_0, ki_1, ki_2, ki_3, ki_4, ki_5, ki_6, ki_7, ki_8, ki_9, ki_10, ki_11, ki_12, ki_17, ki_20, ki_21, ki_22, ki_42, ki_50, ki_58, ki_66, ki_74, ki_140, ki_174, ki_179, ki_184, ki_189, ki_441, nI_add, pk_mul]; with_reducible rfl) | (simp only [ki_0, ki_1, ki_2, ki_3, ki_4, ki_5, ki_6, ki_7, ki_8, ki_9, ki_10, ki_11, ki_12, ki_17, ki_20, ki_21, ki_22, ki_42, ki_50, ki_58, ki_66, ki_74, ki_140, ki_174, ki_179, ki_184, ki_189, ki_441, ix1, nI_add, pk_mul]; with_reducible rfl) | (simp only [ki_0, ki_1, ki_2, ki_3, ki_4, ki_5, ki_6, ki_7, ki_8, ki_9, ki_10, ki_11, ki_12, ki_17, ki_20, ki_21, ki_22, ki_42, ki_50, ki_58, ki_66, ki_74, ki_140, ki_174, ki_179, ki_184, ki_189, ki_441, ix1, ix2, nI_add, pk_mul]; with_reducible rfl) | (simp only [ki_0, ki_1, ki_2, ki_3, ki_4, ki_5, ki_6, ki_7, ki_8, ki_9, ki_10, ki_11, ki_12, ki_17, ki_20, ki_21, ki_22, ki_42, ki_50, ki_58, ki_66, ki_74, ki_140, ki_174, ki_179, ki_184, ki_189, ki_441, ix1, ix2, ix3, nI_add, pk_mul]; with_reducible rfl) | (simp (disch := omega) only [upd_n, ki_0, ki_1, ki_2, ki_3, ki_4, ki_5, ki_6, ki_7, ki_8, ki_9, ki_10, ki_11, ki_12, ki_17, ki_20, ki_21, ki_22, ki_42, ki_50, ki_58, ki_66, ki_74, ki_140, ki_174, ki_179, ki_184, ki_189, ki_441, ix1, nI_add, pk_mul]; with_reducible rfl) | (simp (disch := omega) only [upd_n, ki_0, ki_1, ki_2, ki_3, ki_4, ki_5, ki_6, ki_7, ki_8, ki_9, ki_10, ki_11, ki_12, ki_17, ki_20, ki_21, ki_22, ki_42, ki_50, ki_58, ki_66, ki_74, ki_140, ki_174, ki_179, ki_184, ki_189, ki_441, ix1, ix2, nI_add, pk_mul]; with_reducible rfl) | rfl); (case hlt => first | decide | omega); (case hn => decide); (case hN => assumption); (case hg => rfl))
      iterate 3 refine mT_s rfl rfl ?_
      (apply mT_inv; (case hc => rfl); (case hd => rfl); (case hb => first | rfl | assumption); (case hg => rfl))
      rw [s_at_up s mm g m0 hp k]
      refine e_odds_at _ (m_up h 77 _) s i o t pd bw _ (updM mm p k) g hM rfl hN hG p q hp hq (by omega) h80 h81 (fun h2 hr2 h772 => ?_)
      rw [updM_s, updM_n mm (Ne.symm hpq)]
      have hM2 : h2 76 = _ := (hr2.1 76 (by decide)).trans hM
      have hN2 : 87 ≤ m_nx h2 := by rw [hr2.nx (by decide)]; exact hN
      have ho9 := (a_od_n s l p q k (mm q) g).2.2
      iterate 4 refine mT_s rfl rfl ?_
      have eo : nI (a_od s l p q k (mm q) g) - 5 = nI (nOff (a_od s l p q k (mm q) g)) := by
        unfold nOff
        rw [if_pos h5, show (5 : Int32) = nI 5 from rfl, pk_sub h5]
      have ho : nOff (a_od s l p q k (mm q) g) ≤ 10 := by
        unfold nOff
        split <;> omega
      rw [eo]
      refine mT_if_ge rfl (fun _ => ?_) (fun c => absurd (nI_le (a := 0) (by omega) (by omega)) c)
      iterate 4 refine mT_s rfl rfl ?_
      refine mT_icmp_ge rfl (fun c91 => ?_) (fun c91 => ?_)
      · have c91m := c91
        have c91 := fun z => nI_nlt (a := nOff (a_od s l p q k (mm q) g)) (b := least) ((nI_leI (by omega) (by omega)).mp c91m) (by omega) (nI_lt z (by omega))
        iterate 4 refine mT_s rfl rfl ?_
        refine mT_icmp_ge rfl (fun _ => ?_) (fun c => absurd c91m c)
        iterate 4 refine mT_s rfl rfl ?_
        rw [nI_1]
        refine ih (k + 1) h2 best least _ (by omega) (by omega) hbe hle hM2 ⟨_, h772⟩ hN2 hr2.2.1 hr2.2.2 (fun h3 hr3 h773 => ?_)
        have K := K h3 (rX.tr (hr2.mid) hr3) h773
        rw [nE, if_neg c91] at K
        exact K
      · have c91m := c91
        have c91 := (nI_ltI (by omega) (by omega)).mp (Int32.not_le.mp c91m)
        iterate 5 refine mT_s rfl rfl ?_
        refine mT_icmp_ge rfl (fun c => absurd c c91m) (fun _ => ?_)
        iterate 5 refine mT_s rfl rfl ?_
        rw [nI_1]
        refine ih (k + 1) h2 k (nOff (a_od s l p q k (mm q) g)) _ (by omega) (by omega) (by omega) (by omega) hM2 ⟨_, h772⟩ hN2 hr2.2.1 hr2.2.2 (fun h3 hr3 h773 => ?_)
        have K := K h3 (rX.tr (hr2.mid) hr3) h773
        rw [nE, if_pos c91] at K
        exact K
    · skip
      iterate 2 refine mT_s rfl rfl ?_
      refine mT_icmp_gt rfl (fun c => absurd c (Int32.not_lt.mpr (nI_le (b := 20) (by omega) (by omega)))) (fun _ => ?_)
      refine mT_s rfl rfl ?_
      (apply mT_getf; (case hc => rfl); (case ha => first | rfl | assumption); (case hf => first | rfl | assumption))
      iterate 4 refine mT_s rfl rfl ?_
      (apply mT_iastK; (case hc => rfl); (case ha => first | rfl | assumption); (case hk => first | (simp only [ki_0, ki_1, ki_2, ki_3, ki_4, ki_5, ki_6, ki_7, ki_8, ki_9, ki_10, ki_11, ki_12, ki_17, ki_20, ki_21, ki_22, ki_42, ki_50, ki_58, ki_66, ki_74, ki_140, ki_174, ki_179, ki_184, ki_189, ki_441, nI_add, pk_mul]; with_reducible rfl) | (simp only [ki_0, ki_1, ki_2, ki_3, ki_4, ki_5, ki_6, ki_7, ki_8, ki_9, ki_10, ki_11, ki_12, ki_17, ki_20, ki_21, ki_22, ki_42, ki_50, ki_58, ki_66, ki_74, ki_140, ki_174, ki_179, ki_184, ki_189, ki_441, ix1, nI_add, pk_mul]; with_reducible rfl) | (simp only [ki_0, ki_1, ki_2, ki_3, ki_4, ki_5, ki_6, ki_7, ki_8, ki_9, ki_10, ki_11, ki_12, ki_17, ki_20, ki_21, ki_22, ki_42, ki_50, ki_58, ki_66, ki_74, ki_140, ki_174, ki_179, ki_184, ki_189, ki_441, ix1, ix2, nI_add, pk_mul]; with_reducible rfl) | (simp only [ki_0, ki_1, ki_2, ki_3, ki_4, ki_5, ki_6, ki_7, ki_8, ki_9, ki_10, ki_11, ki_12, ki_17, ki_20, ki_21, ki_22, ki_42, ki_50, ki_58, ki_66, ki_74, ki_140, ki_174, ki_179, ki_184, ki_189, ki_441, ix1, ix2, ix3, nI_add, pk_mul]; with_reducible rfl) | (simp (disch := omega) only [upd_n, ki_0, ki_1, ki_2, ki_3, ki_4, ki_5, ki_6, ki_7, ki_8, ki_9, ki_10, ki_11, ki_12, ki_17, ki_20, ki_21, ki_22, ki_42, ki_50, ki_58, ki_66, ki_74, ki_140, ki_174, ki_179, ki_184, ki_189, ki_441, ix1, nI_add, pk_mul]; with_reducible rfl) | (simp (disch := omega) only [upd_n, ki_0, ki_1, ki_2, ki_3, ki_4, ki_5, ki_6, ki_7, ki_8, ki_9, ki_10, ki_11, ki_12, ki_17, ki_20, ki_21, ki_22, ki_42, ki_50, ki_58, ki_66, ki_74, ki_140, ki_174, ki_179, ki_184, ki_189, ki_441, ix1, ix2, nI_add, pk_mul]; with_reducible rfl) | rfl); (case hlt => first | decide | omega); (case hn => decide); (case hN => assumption); (case hg => rfl))
      iterate 3 refine mT_s rfl rfl ?_
      (apply mT_inv; (case hc => rfl); (case hd => rfl); (case hb => first | rfl | assumption); (case hg => rfl))
      rw [s_at_up s mm g m0 hp k]
      refine e_odds_at _ (m_up h 77 _) s i o t pd bw _ (updM mm p k) g hM rfl hN hG p q hp hq (by omega) h80 h81 (fun h2 hr2 h772 => ?_)
      rw [updM_s, updM_n mm (Ne.symm hpq)]
      have hM2 : h2 76 = _ := (hr2.1 76 (by decide)).trans hM
      have hN2 : 87 ≤ m_nx h2 := by rw [hr2.nx (by decide)]; exact hN
      have ho9 := (a_od_n s l p q k (mm q) g).2.2
      iterate 4 refine mT_s rfl rfl ?_
      have eo : -(nI (a_od s l p q k (mm q) g) - 5) = nI (nOff (a_od s l p q k (mm q) g)) := by
        unfold nOff
        rw [if_neg h5, show (5 : Int32) = nI 5 from rfl, Int32.neg_sub, pk_sub (by omega)]
      have ho : nOff (a_od s l p q k (mm q) g) ≤ 10 := by
        unfold nOff
        split <;> omega
      refine mT_if_ge rfl (fun c => absurd (pk_sneg (a := a_od s l p q k (mm q) g) (b := 5) (by omega) (by omega)) (Int32.not_lt.mpr c)) (fun _ => ?_)
      iterate 6 refine mT_s rfl rfl ?_
      rw [eo]
      refine mT_icmp_ge rfl (fun c91 => ?_) (fun c91 => ?_)
      · have c91m := c91
        have c91 := fun z => nI_nlt (a := nOff (a_od s l p q k (mm q) g)) (b := least) ((nI_leI (by omega) (by omega)).mp c91m) (by omega) (nI_lt z (by omega))
        iterate 4 refine mT_s rfl rfl ?_
        refine mT_icmp_ge rfl (fun _ => ?_) (fun c => absurd c91m c)
        iterate 4 refine mT_s rfl rfl ?_
        rw [nI_1]
        refine ih (k + 1) h2 best least _ (by omega) (by omega) hbe hle hM2 ⟨_, h772⟩ hN2 hr2.2.1 hr2.2.2 (fun h3 hr3 h773 => ?_)
        have K := K h3 (rX.tr (hr2.mid) hr3) h773
        rw [nE, if_neg c91] at K
        exact K
      · have c91m := c91
        have c91 := (nI_ltI (by omega) (by omega)).mp (Int32.not_le.mp c91m)
        iterate 5 refine mT_s rfl rfl ?_
        refine mT_icmp_ge rfl (fun c => absurd c c91m) (fun _ => ?_)
        iterate 5 refine mT_s rfl rfl ?_
        rw [nI_1]
        refine ih (k + 1) h2 k (nOff (a_od s l p q k (mm q) g)) _ (by omega) (by omega) (by omega) (by omega) hM2 ⟨_, h772⟩ hN2 hr2.2.1 hr2.2.2 (fun h3 hr3 h773 => ?_)
        have K := K h3 (rX.tr (hr2.mid) hr3) h773
        rw [nE, if_pos c91] at K
        exact K
theorem e_even (d : Nat) (h : mH) (s i : Nat → Int32) (o t : Nat) (pd bw : Int64) (Q : Option Value → mH → Prop) (hM : h 76 = .inr (10, mObj i o t pd bw)) (h77 : h 77 = .inl (0, 889, .inl s)) (hN : 87 ≤ m_nx h) (hI : s_Inv s) {l : List Tok} {le mo : Nat} (hG : sG s l le mo) (mm : Nat → Nat) (g : Nat) (hmm : ∀ j, j < 5 → mm j ≤ 20) (hs : s_at s mm g = s) (hg : g ≤ 9999) (h80 : ∃ f, h 80 = .inl (0, 5, .inl f)) (h81 : ∃ g, h 81 = .inl (2, 64, .inl g))  (x y : Int32) (kN : ¬ (okP s x ∧ okP s y) → Q (some (.int (-1))) h) (kB : okP s x → okP s y → x = y → Q (some (.int (-2))) h) (k : ∀ a b : Nat, a < 5 → b < 5 → x = nI a → y = nI b → okP s x → okP s y → a ≠ b → ∀ h2, rX [77, 80, 81] h h2 → h2 77 = .inl (0, 889, .inl s) → Q (some (.int (nI (nE (fun m => a_od s l a b m (mm b) g) 20 1 0 99)))) h2) : mT0 (d + 3) z_X10_even 0 (m_init z_X10_even [.ref 76, .int x, .int y]) [] h Q := by
  iterate 2 refine mT_s rfl rfl ?_
  (apply mT_inv; (case hc => rfl); (case hd => rfl); (case hb => first | rfl | assumption); (case hg => rfl))
  refine e_isPlayer _ _ _ _ _ _ _ _ _ hM h77 hN hI _ (fun j2 hj2 e2 v2 => ?_) (fun v2 => ?_)
  · skip
    iterate 3 refine mT_s rfl rfl ?_
    (apply mT_inv; (case hc => rfl); (case hd => rfl); (case hb => first | rfl | assumption); (case hg => rfl))
    refine e_isPlayer _ _ _ _ _ _ _ _ _ hM h77 hN hI _ (fun j10 hj10 e10 v10 => ?_) (fun v10 => ?_)
    · skip
      iterate 3 refine mT_s rfl rfl ?_
      refine mT_icmp_ne rfl (fun c20 => ?_) (fun c20 => ?_)
      · have ix2 := e2
        have ix1 : s (1 + j2) = nI (mm j2) := by rw [← s_at_m s mm g hj2, hs]
        refine mT_s rfl rfl ?_
        (apply mT_getf; (case hc => rfl); (case ha => first | rfl | assumption); (case hf => first | rfl | assumption))
        iterate 3 refine mT_s rfl rfl ?_
        (apply mT_ialdK; (case hc => rfl); (case ha => first | rfl | assumption); (case hk => first | (simp only [ki_0, ki_1, ki_2, ki_3, ki_4, ki_5, ki_6, ki_7, ki_8, ki_9, ki_10, ki_11, ki_12, ki_17, ki_20, ki_21, ki_22, ki_42, ki_50, ki_58, ki_66, ki_74, ki_140, ki_174, ki_179, ki_184, ki_189, ki_441, nI_add, pk_mul]; with_reducible rfl) | (simp only [ki_0, ki_1, ki_2, ki_3, ki_4, ki_5, ki_6, ki_7, ki_8, ki_9, ki_10, ki_11, ki_12, ki_17, ki_20, ki_21, ki_22, ki_42, ki_50, ki_58, ki_66, ki_74, ki_140, ki_174, ki_179, ki_184, ki_189, ki_441, ix1, nI_add, pk_mul]; with_reducible rfl) | (simp only [ki_0, ki_1, ki_2, ki_3, ki_4, ki_5, ki_6, ki_7, ki_8, ki_9, ki_10, ki_11, ki_12, ki_17, ki_20, ki_21, ki_22, ki_42, ki_50, ki_58, ki_66, ki_74, ki_140, ki_174, ki_179, ki_184, ki_189, ki_441, ix1, ix2, nI_add, pk_mul]; with_reducible rfl) | (simp only [ki_0, ki_1, ki_2, ki_3, ki_4, ki_5, ki_6, ki_7, ki_8, ki_9, ki_10, ki_11, ki_12, ki_17, ki_20, ki_21, ki_22, ki_42, ki_50, ki_58, ki_66, ki_74, ki_140, ki_174, ki_179, ki_184, ki_189, ki_441, ix1, ix2, ix3, nI_add, pk_mul]; with_reducible rfl) | (simp (disch := omega) only [upd_n, ki_0, ki_1, ki_2, ki_3, ki_4, ki_5, ki_6, ki_7, ki_8, ki_9, ki_10, ki_11, ki_12, ki_17, ki_20, ki_21, ki_22, ki_42, ki_50, ki_58, ki_66, ki_74, ki_140, ki_174, ki_179, ki_184, ki_189, ki_441, ix1, nI_add, pk_mul]; with_reducible rfl) | (simp (disch := omega) only [upd_n, ki_0, ki_1, ki_2, ki_3, ki_4, ki_5, ki_6, ki_7, ki_8, ki_9, ki_10, ki_11, ki_12, ki_17, ki_20, ki_21, ki_22, ki_42, ki_50, ki_58, ki_66, ki_74, ki_140, ki_174, ki_179, ki_184, ki_189, ki_441, ix1, ix2, nI_add, pk_mul]; with_reducible rfl) | rfl); (case hlt => first | decide | omega); (case hn => decide))
        iterate 7 refine mT_s rfl rfl ?_
        have hne : j2 ≠ j10 := fun z => c20 (by rw [e2, e10, z])
        rw [ix1]
        subst e2
        subst e10
        refine e_even_L s i o t pd bw hG j2 j10 hj2 hj10 hne mm g (by omega) Q _ 20 1 h 0 99 _ (by omega) (by omega) (by omega) (by omega) hM ⟨mm j2, by rw [updM_id mm rfl, hs]; exact h77⟩ hN h80 h81 (fun h2 hr2 h772 => ?_)
        rw [hs] at h772
        exact k j2 j10 hj2 hj10 rfl rfl v2 v10 hne h2 hr2 h772
      · refine mT_s rfl rfl ?_
        refine mT_ret rfl rfl ?_
        exact kB v2 v10 c20
    · iterate 2 refine mT_s rfl rfl ?_
      refine mT_ret rfl rfl ?_
      exact kN (fun z => v10 z.2)
  · iterate 2 refine mT_s rfl rfl ?_
    refine mT_ret rfl rfl ?_
    exact kN (fun z => v2 z.1)
