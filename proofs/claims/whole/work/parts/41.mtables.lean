/-! By program (wip/whole/book*.py) and hand. -/
theorem mT0_mono {d y pc : Nat} {ls : mL} {st : List Value} {h : mH} {Q Q2 : Option Value → mH → Prop} (k : mT0 d y pc ls st h Q) (f : ∀ v h, Q v h → Q2 v h) : mT0 d y pc ls st h Q2 := by
  obtain ⟨n, v, h2, hr, hQ⟩ := k
  exact ⟨n, v, h2, hr, f _ _ hQ⟩
theorem nodup_turn {p q : Nat} {qs : List Nat} (h : (p :: q :: qs).Nodup) : (q :: p :: qs).Nodup := (List.Perm.swap p q qs).nodup_iff.mpr h
theorem next_ok {p q : Nat} {qs : List Nat} (h : (p :: q :: qs).Nodup) (h5 : ∀ x ∈ p :: q :: qs, x < 5) : ∃ y ys, qs ++ [q] = y :: ys ∧ (p :: y :: ys).Nodup ∧ (∀ x ∈ p :: y :: ys, x < 5) ∧ ys.length = qs.length ∧ (10 * dec qs + q) / 10 ^ qs.length = y ∧ (10 * dec qs + q) % 10 ^ qs.length = dec ys := by
  obtain ⟨y, ys, hy⟩ : ∃ y ys, qs ++ [q] = y :: ys := by
    cases qs with
    | nil => exact ⟨q, [], rfl⟩
    | cons a l => exact ⟨a, l ++ [q], rfl⟩
  have hperm : List.Perm (p :: q :: qs) (p :: y :: ys) := by
    rw [← hy]
    exact List.Perm.cons p (List.perm_append_singleton q qs).symm
  have hlen : ys.length = qs.length := by
    have := congrArg List.length hy
    simp only [List.length_append, List.length_cons, List.length_nil] at this
    omega
  have h5' : ∀ x ∈ p :: y :: ys, x < 5 := fun x hx => h5 x (hperm.mem_iff.mpr hx)
  have hd := dec_split (x := y) (l := ys) (fun z hz => Nat.lt_trans (h5' z (List.mem_cons_of_mem _ (List.mem_cons_of_mem _ hz))) (by decide))
  rw [← hy, dec_app, hlen] at hd
  exact ⟨y, ys, hy, hperm.nodup_iff.mp h, h5', hlen, hd.1, hd.2⟩
theorem e_next_L (d : Nat) (h : mH) (Q : Option Value → mH → Prop) (who w : Int32) (lo left : Nat) (qs : List Nat) (hl : qs.length ≤ 3) (K : mT0 d z_X10_nextTable 26 [some (.ref 76), some (.int who), some (.int w), some (.int (nI lo)), some (.int (nI (dec qs))), some (.int (nI qs.length)), some (.int (nI (left + 1))), some (.int (nI (10 ^ qs.length))), some (.int (nI qs.length))] [] h Q) : ∀ (r k : Nat) , k + r = qs.length → mT0 d z_X10_nextTable 6 [some (.ref 76), some (.int who), some (.int w), some (.int (nI lo)), some (.int (nI (dec qs))), some (.int (nI qs.length)), some (.int (nI (left + 1))), some (.int (nI (10 ^ k))), some (.int (nI k))] [] h Q := by
  intro r
  induction r with
  | zero =>
    intro k  hk 
    iterate 2 refine mT_s rfl rfl ?_
    refine mT_icmp_ge rfl (fun _ => ?_) (fun c => absurd (nI_le (a := qs.length) (b := k) (by omega) (by omega)) c)
    obtain rfl : k = qs.length := by omega
    exact K
  | succ r ih =>
    intro k  hk 
    iterate 2 refine mT_s rfl rfl ?_
    refine mT_icmp_ge rfl (fun c => absurd c (nI_ge (a := k) (b := qs.length) (by omega) (by omega))) (fun _ => ?_)
    iterate 6 refine mT_s rfl rfl ?_
    rw [show nI (10 ^ k) * 10 = nI (10 ^ (k + 1)) from by rw [Nat.pow_succ, ← pk_mul]; rfl, nI_1]
    exact ih (k + 1) (by omega)
theorem e_nextTable (d : Nat) (h : mH) (Q : Option Value → mH → Prop) (o t : Nat) (i : Nat → Int32) (pd bw : Int64) (hM : h 76 = .inr (10, mObj i o t pd bw)) (who : Int32) (w lo left y : Nat) (qs ys : List Nat) (hlo : lo < 5) (hl : qs.length ≤ 3) (hq : ∀ x ∈ qs, x < 5) (hy : (10 * dec qs + lo) / 10 ^ qs.length = y) (hys : (10 * dec qs + lo) % 10 ^ qs.length = dec ys) (hyl : ys.length = qs.length) (K : mT0 d z_X10_tables 0 (m_init z_X10_tables [.ref 76, .int who, .int (nI w), .int (nI y), .int (nI (dec ys)), .int (nI ys.length), .int (nI left)]) [] h (fun v h2 => ∃ x, v = some (.long x) ∧ Q v h2)) : mT0 (d + 1) z_X10_nextTable 0 (m_init z_X10_nextTable [.ref 76, .int who, .int (nI w), .int (nI lo), .int (nI (dec qs)), .int (nI qs.length), .int (nI (left + 1))]) [] h Q := by
  iterate 4 refine mT_s rfl rfl ?_
  refine e_next_L _ h Q who (nI w) lo left qs hl ?_ qs.length 0 (by omega)
  have hd := dec_lt (l := qs) (fun x hx => Nat.lt_trans (hq x hx) (by decide))
  have hp : 10 ^ qs.length ≤ 10 ^ 3 := Nat.pow_le_pow_right (by decide) hl
  have hp0 : 0 < 10 ^ qs.length := Nat.pow_pos (by decide)
  have hsc : ¬ nI (10 ^ qs.length) = 0 := nI_ne0 hp0 (by omega)
  have e1 : (10 : Int32) * nI (dec qs) + nI lo = nI (10 * dec qs + lo) := by rw [show (10 : Int32) = nI 10 from rfl, pk_mul, nI_add]
  have h1 : ((10 : Int32) * nI (dec qs) + nI lo) / nI (10 ^ qs.length) = nI y := by rw [e1, pk_div (by omega) hp0 (by omega), hy]
  have h2 : ((10 : Int32) * nI (dec qs) + nI lo) - ((10 : Int32) * nI (dec qs) + nI lo) / nI (10 ^ qs.length) * nI (10 ^ qs.length) = nI (dec ys) := by rw [e1, pk_rem (by omega) hp0 (by omega), hys]
  iterate 11 refine mT_s rfl rfl ?_
  (apply mT_idiv; (case hc => rfl); (case hy => exact hsc))
  iterate 2 refine mT_s rfl rfl ?_
  (apply mT_irem; (case hc => rfl); (case hy => exact hsc))
  iterate 4 refine mT_s rfl rfl ?_
  (apply mT_inv; (case hc => rfl); (case hd => rfl); (case hb => first | rfl | assumption); (case hg => rfl))
  rw [h2, h1, show (1 : Int32) = nI 1 from rfl, pk_sub (by omega), show left + 1 - 1 = left by omega, ← hyl]
  refine mT0_mono K (fun v h' ⟨x, hv, hQ⟩ => ?_)
  subst hv
  refine mT_ret rfl rfl ?_
  exact hQ
set_option maxHeartbeats 4000000 in
theorem e_tables (s : Nat → Int32) (o t : Nat) (bw : Int64) {l : List Tok} {le mo : Nat} (hG : sG s l le mo) (who : Nat) (hwho : who < 5) (d : Nat) : ∀ (n : Nat) (h : mH) (i : Nat → Int32) (pd : Int64) (Q : Option Value → mH → Prop) (mm : Nat → Nat) (g : Nat) (hmm : ∀ j, j < 5 → mm j ≤ 20) (p q : Nat) (qs : List Nat), (p :: q :: qs).Nodup → (∀ x ∈ p :: q :: qs, x < 5) → qs.length ≤ 3 → g + n < 20000 → n < 8 → h 76 = .inr (10, mObj i o t pd bw) → h 77 = .inl (0, 889, .inl (s_at s mm g)) → 87 ≤ m_nx h → (∃ f, h 80 = .inl (0, 5, .inl f)) → (∃ g, h 81 = .inl (2, 64, .inl g)) → (∀ h2, rX [77, 80, 81] h h2 → h2 77 = .inl (0, 889, .inl (s_at s mm g)) → Q (some (.long (lN (nT (a_od s l) le mo who n mm g p q qs)))) h2) → mT0 (d + 2 * n + 3) z_X10_tables 0 (m_init z_X10_tables [.ref 76, .int (nI who), .int (nI p), .int (nI q), .int (nI (dec qs)), .int (nI qs.length), .int (nI (n + 1))]) [] h Q := by
  intro n
  induction n with
  | zero =>
    intro h i pd Q mm g hmm p q qs hnd h5 hql hgn hn hM h77 hN h80 h81 K
    have hp := h5 p (List.mem_cons_self)
    have hq := h5 q (List.mem_cons_of_mem _ (List.mem_cons_self))
    have hpq : p ≠ q := fun z => (List.nodup_cons.mp hnd).1 (z ▸ List.mem_cons_self)
    have hod := Nat.le_trans (a_od_n s l p q (mm p) (mm q) g).2.2 (show 9 ≤ 10 by decide)
    iterate 3 refine mT_s rfl rfl ?_
    (apply mT_inv; (case hc => rfl); (case hd => rfl); (case hb => first | rfl | assumption); (case hg => rfl))
    refine e_odds_at _ h s i o t pd bw _ mm g hM h77 hN hG p q hp hq (by omega) h80 h81 (fun h2 hr2 h772 => ?_)
    have hM2 : h2 76 = _ := (hr2.1 76 (by decide)).trans hM
    have hN2 : 87 ≤ m_nx h2 := by rw [hr2.nx (by decide)]; exact hN
    iterate 3 refine mT_s rfl rfl ?_
    refine mT_icmp_ne rfl (fun c => absurd rfl c) (fun _ => ?_)
    iterate 2 refine mT_s rfl rfl ?_
    refine mT_icmp_ne rfl (fun c16 => ?_) (fun c16 => ?_)
    · have c16 : ¬ who = p := fun z => c16 (by rw [z])
      iterate 2 refine mT_s rfl rfl ?_
      refine mT_icmp_ne rfl (fun c27 => ?_) (fun c27 => ?_)
      · have c27 : ¬ who = q := fun z => c27 (by rw [z])
        refine mT_s rfl rfl ?_
        refine mT_ret rfl rfl ?_
        have K := K h2 hr2 h772
        unfold nT at K
        rw [if_neg c16, if_neg c27] at K
        exact K
      · have c27 : who = q := (nI_eq (by omega) (by omega)).mp c27
        iterate 5 refine mT_s rfl rfl ?_
        refine mT_ret rfl rfl ?_
        rw [(od_n hod).2]
        have K := K h2 hr2 h772
        unfold nT at K
        rw [if_neg c16, if_pos c27] at K
        exact K
    · have c16 : who = p := (nI_eq (by omega) (by omega)).mp c16
      iterate 3 refine mT_s rfl rfl ?_
      refine mT_ret rfl rfl ?_
      rw [(od_n hod).1]
      have K := K h2 hr2 h772
      unfold nT at K
      rw [if_pos c16] at K
      exact K
  | succ n ih =>
    intro h i pd Q mm g hmm p q qs hnd h5 hql hgn hn hM h77 hN h80 h81 K
    have hp := h5 p (List.mem_cons_self)
    have hq := h5 q (List.mem_cons_of_mem _ (List.mem_cons_self))
    have hpq : p ≠ q := fun z => (List.nodup_cons.mp hnd).1 (z ▸ List.mem_cons_self)
    have hod := Nat.le_trans (a_od_n s l p q (mm p) (mm q) g).2.2 (show 9 ≤ 10 by decide)
    obtain ⟨y1, ys1, hn1⟩ := next_ok hnd h5
    obtain ⟨y2, ys2, hn2⟩ := next_ok (nodup_turn hnd) (fun x hx => h5 x ((List.Perm.swap p q qs).mem_iff.mp hx))
    iterate 3 refine mT_s rfl rfl ?_
    (apply mT_inv; (case hc => rfl); (case hd => rfl); (case hb => first | rfl | assumption); (case hg => rfl))
    refine e_odds_at _ h s i o t pd bw _ mm g hM h77 hN hG p q hp hq (by omega) h80 h81 (fun h2 hr2 h772 => ?_)
    have hM2 : h2 76 = _ := (hr2.1 76 (by decide)).trans hM
    have hN2 : 87 ≤ m_nx h2 := by rw [hr2.nx (by decide)]; exact hN
    iterate 3 refine mT_s rfl rfl ?_
    refine mT_icmp_ne rfl (fun _ => ?_) (fun c => absurd ((nI_eq (a := n + 1 + 1) (b := 1) (by omega) (by omega)).mp c) (by omega))
    refine mT_s rfl rfl ?_
    (apply mT_getf; (case hc => rfl); (case ha => first | rfl | assumption); (case hf => first | rfl | assumption))
    iterate 3 refine mT_s rfl rfl ?_
    (apply mT_ialdK; (case hc => rfl); (case ha => first | rfl | assumption); (case hk => first | (simp only [ki_0, ki_1, ki_2, ki_3, ki_4, ki_5, ki_6, ki_7, ki_8, ki_9, ki_10, ki_11, ki_12, ki_17, ki_20, ki_21, ki_22, ki_42, ki_50, ki_58, ki_66, ki_74, ki_140, ki_174, ki_179, ki_184, ki_189, ki_441, nI_add, pk_mul]; with_reducible rfl) | (simp only [ki_0, ki_1, ki_2, ki_3, ki_4, ki_5, ki_6, ki_7, ki_8, ki_9, ki_10, ki_11, ki_12, ki_17, ki_20, ki_21, ki_22, ki_42, ki_50, ki_58, ki_66, ki_74, ki_140, ki_174, ki_179, ki_184, ki_189, ki_441, ix1, nI_add, pk_mul]; with_reducible rfl) | (simp only [ki_0, ki_1, ki_2, ki_3, ki_4, ki_5, ki_6, ki_7, ki_8, ki_9, ki_10, ki_11, ki_12, ki_17, ki_20, ki_21, ki_22, ki_42, ki_50, ki_58, ki_66, ki_74, ki_140, ki_174, ki_179, ki_184, ki_189, ki_441, ix1, ix2, nI_add, pk_mul]; with_reducible rfl) | (simp only [ki_0, ki_1, ki_2, ki_3, ki_4, ki_5, ki_6, ki_7, ki_8, ki_9, ki_10, ki_11, ki_12, ki_17, ki_20, ki_21, ki_22, ki_42, ki_50, ki_58, ki_66, ki_74, ki_140, ki_174, ki_179, ki_184, ki_189, ki_441, ix1, ix2, ix3, nI_add, pk_mul]; with_reducible rfl) | (simp (disch := omega) only [upd_n, ki_0, ki_1, ki_2, ki_3, ki_4, ki_5, ki_6, ki_7, ki_8, ki_9, ki_10, ki_11, ki_12, ki_17, ki_20, ki_21, ki_22, ki_42, ki_50, ki_58, ki_66, ki_74, ki_140, ki_174, ki_179, ki_184, ki_189, ki_441, ix1, nI_add, pk_mul]; with_reducible rfl) | (simp (disch := omega) only [upd_n, ki_0, ki_1, ki_2, ki_3, ki_4, ki_5, ki_6, ki_7, ki_8, ki_9, ki_10, ki_11, ki_12, ki_17, ki_20, ki_21, ki_22, ki_42, ki_50, ki_58, ki_66, ki_74, ki_140, ki_174, ki_179, ki_184, ki_189, ki_441, ix1, ix2, nI_add, pk_mul]; with_reducible rfl) | rfl); (case hlt => first | decide | omega); (case hn => decide))
    iterate 2 refine mT_s rfl rfl ?_
    (apply mT_getf; (case hc => rfl); (case ha => first | rfl | assumption); (case hf => first | rfl | assumption))
    iterate 3 refine mT_s rfl rfl ?_
    (apply mT_ialdK; (case hc => rfl); (case ha => first | rfl | assumption); (case hk => first | (simp only [ki_0, ki_1, ki_2, ki_3, ki_4, ki_5, ki_6, ki_7, ki_8, ki_9, ki_10, ki_11, ki_12, ki_17, ki_20, ki_21, ki_22, ki_42, ki_50, ki_58, ki_66, ki_74, ki_140, ki_174, ki_179, ki_184, ki_189, ki_441, nI_add, pk_mul]; with_reducible rfl) | (simp only [ki_0, ki_1, ki_2, ki_3, ki_4, ki_5, ki_6, ki_7, ki_8, ki_9, ki_10, ki_11, ki_12, ki_17, ki_20, ki_21, ki_22, ki_42, ki_50, ki_58, ki_66, ki_74, ki_140, ki_174, ki_179, ki_184, ki_189, ki_441, ix1, nI_add, pk_mul]; with_reducible rfl) | (simp only [ki_0, ki_1, ki_2, ki_3, ki_4, ki_5, ki_6, ki_7, ki_8, ki_9, ki_10, ki_11, ki_12, ki_17, ki_20, ki_21, ki_22, ki_42, ki_50, ki_58, ki_66, ki_74, ki_140, ki_174, ki_179, ki_184, ki_189, ki_441, ix1, ix2, nI_add, pk_mul]; with_reducible rfl) | (simp only [ki_0, ki_1, ki_2, ki_3, ki_4, ki_5, ki_6, ki_7, ki_8, ki_9, ki_10, ki_11, ki_12, ki_17, ki_20, ki_21, ki_22, ki_42, ki_50, ki_58, ki_66, ki_74, ki_140, ki_174, ki_179, ki_184, ki_189, ki_441, ix1, ix2, ix3, nI_add, pk_mul]; with_reducible rfl) | (simp (disch := omega) only [upd_n, ki_0, ki_1, ki_2, ki_3, ki_4, ki_5, ki_6, ki_7, ki_8, ki_9, ki_10, ki_11, ki_12, ki_17, ki_20, ki_21, ki_22, ki_42, ki_50, ki_58, ki_66, ki_74, ki_140, ki_174, ki_179, ki_184, ki_189, ki_441, ix1, nI_add, pk_mul]; with_reducible rfl) | (simp (disch := omega) only [upd_n, ki_0, ki_1, ki_2, ki_3, ki_4, ki_5, ki_6, ki_7, ki_8, ki_9, ki_10, ki_11, ki_12, ki_17, ki_20, ki_21, ki_22, ki_42, ki_50, ki_58, ki_66, ki_74, ki_140, ki_174, ki_179, ki_184, ki_189, ki_441, ix1, ix2, nI_add, pk_mul]; with_reducible rfl) | rfl); (case hlt => first | decide | omega); (case hn => decide))
    iterate 4 refine mT_s rfl rfl ?_
    (apply mT_inv; (case hc => rfl); (case hd => rfl); (case hb => first | rfl | assumption); (case hg => rfl))
    rw [s_at_m s mm g hp, s_at_m s mm g hq]
    refine e_plays_at _ h2 s i o t pd bw _ mm g hM2 h772 hN2 hG p q hp hq hpq (Nat.le_trans (hmm p hp) (by decide)) (Nat.le_trans (hmm q hq) (by decide)) ?_
    iterate 9 refine mT_s rfl rfl ?_
    (apply mT_inv; (case hc => rfl); (case hd => rfl); (case hb => first | rfl | assumption); (case hg => rfl))
    refine e_nextTable _ (m_up h2 77 _) _ o t _ _ _ hM2 (nI who) p q (n + 1) y1 qs ys1 hq hql (fun x hx => h5 x (List.mem_cons_of_mem _ (List.mem_cons_of_mem _ hx))) (hn1).2.2.2.2.1 (hn1).2.2.2.2.2 (hn1).2.2.2.1 ?_
    refine ih (m_up h2 77 (.inl (0, 889, .inl (s_at s (n_play le mo mm p q) (g + 1))))) i pd _ (n_play le mo mm p q) (g + 1) (n_play_le hp hmm) p y1 ys1 (hn1).2.1 (hn1).2.2.1 (by rw [(hn1).2.2.2.1]; exact hql) (by omega) (by omega) hM2 rfl hN2 hr2.2.1 hr2.2.2 (fun h3 hr3 h773 => ⟨_, rfl, ?_⟩)
    have hM3 : h3 76 = _ := (hr3.1 76 (by decide)).trans hM2
    have hN3 : 87 ≤ m_nx h3 := by rw [hr3.nx (by decide)]; exact hN2
    iterate 3 refine mT_s rfl rfl ?_
    (apply mT_getf; (case hc => rfl); (case ha => first | rfl | assumption); (case hf => first | rfl | assumption))
    iterate 5 refine mT_s rfl rfl ?_
    (apply mT_inv; (case hc => rfl); (case hd => rfl); (case hb => first | rfl | assumption); (case hg => rfl))
    refine e_moreOf_at _ h3 s _ o t pd bw _ _ _ hM3 h773 hN3 hG _ (mm p) rfl (Nat.le_trans (hmm p hp) (by decide)) ?_
    (apply mT_iastK; (case hc => rfl); (case ha => first | rfl | assumption); (case hk => first | (simp only [ki_0, ki_1, ki_2, ki_3, ki_4, ki_5, ki_6, ki_7, ki_8, ki_9, ki_10, ki_11, ki_12, ki_17, ki_20, ki_21, ki_22, ki_42, ki_50, ki_58, ki_66, ki_74, ki_140, ki_174, ki_179, ki_184, ki_189, ki_441, nI_add, pk_mul]; with_reducible rfl) | (simp only [ki_0, ki_1, ki_2, ki_3, ki_4, ki_5, ki_6, ki_7, ki_8, ki_9, ki_10, ki_11, ki_12, ki_17, ki_20, ki_21, ki_22, ki_42, ki_50, ki_58, ki_66, ki_74, ki_140, ki_174, ki_179, ki_184, ki_189, ki_441, ix1, nI_add, pk_mul]; with_reducible rfl) | (simp only [ki_0, ki_1, ki_2, ki_3, ki_4, ki_5, ki_6, ki_7, ki_8, ki_9, ki_10, ki_11, ki_12, ki_17, ki_20, ki_21, ki_22, ki_42, ki_50, ki_58, ki_66, ki_74, ki_140, ki_174, ki_179, ki_184, ki_189, ki_441, ix1, ix2, nI_add, pk_mul]; with_reducible rfl) | (simp only [ki_0, ki_1, ki_2, ki_3, ki_4, ki_5, ki_6, ki_7, ki_8, ki_9, ki_10, ki_11, ki_12, ki_17, ki_20, ki_21, ki_22, ki_42, ki_50, ki_58, ki_66, ki_74, ki_140, ki_174, ki_179, ki_184, ki_189, ki_441, ix1, ix2, ix3, nI_add, pk_mul]; with_reducible rfl) | (simp (disch := omega) only [upd_n, ki_0, ki_1, ki_2, ki_3, ki_4, ki_5, ki_6, ki_7, ki_8, ki_9, ki_10, ki_11, ki_12, ki_17, ki_20, ki_21, ki_22, ki_42, ki_50, ki_58, ki_66, ki_74, ki_140, ki_174, ki_179, ki_184, ki_189, ki_441, ix1, nI_add, pk_mul]; with_reducible rfl) | (simp (disch := omega) only [upd_n, ki_0, ki_1, ki_2, ki_3, ki_4, ki_5, ki_6, ki_7, ki_8, ki_9, ki_10, ki_11, ki_12, ki_17, ki_20, ki_21, ki_22, ki_42, ki_50, ki_58, ki_66, ki_74, ki_140, ki_174, ki_179, ki_184, ki_189, ki_441, ix1, ix2, nI_add, pk_mul]; with_reducible rfl) | rfl); (case hlt => first | decide | omega); (case hn => decide); (case hN => assumption); (case hg => rfl))
    refine mT_s rfl rfl ?_
    (apply mT_getf; (case hc => rfl); (case ha => first | rfl | assumption); (case hf => first | rfl | assumption))
    iterate 5 refine mT_s rfl rfl ?_
    (apply mT_inv; (case hc => rfl); (case hd => rfl); (case hb => first | rfl | assumption); (case hg => rfl))
    rw [s_at_um s _ _ _ hp]
    refine e_fewer_at _ (m_up h3 77 _) s _ o t pd bw _ _ _ hM3 rfl hN3 hG _ (mm q) rfl (Nat.le_trans (hmm q hq) (by decide)) ?_
    (apply mT_iastK; (case hc => rfl); (case ha => first | rfl | assumption); (case hk => first | (simp only [ki_0, ki_1, ki_2, ki_3, ki_4, ki_5, ki_6, ki_7, ki_8, ki_9, ki_10, ki_11, ki_12, ki_17, ki_20, ki_21, ki_22, ki_42, ki_50, ki_58, ki_66, ki_74, ki_140, ki_174, ki_179, ki_184, ki_189, ki_441, nI_add, pk_mul]; with_reducible rfl) | (simp only [ki_0, ki_1, ki_2, ki_3, ki_4, ki_5, ki_6, ki_7, ki_8, ki_9, ki_10, ki_11, ki_12, ki_17, ki_20, ki_21, ki_22, ki_42, ki_50, ki_58, ki_66, ki_74, ki_140, ki_174, ki_179, ki_184, ki_189, ki_441, ix1, nI_add, pk_mul]; with_reducible rfl) | (simp only [ki_0, ki_1, ki_2, ki_3, ki_4, ki_5, ki_6, ki_7, ki_8, ki_9, ki_10, ki_11, ki_12, ki_17, ki_20, ki_21, ki_22, ki_42, ki_50, ki_58, ki_66, ki_74, ki_140, ki_174, ki_179, ki_184, ki_189, ki_441, ix1, ix2, nI_add, pk_mul]; with_reducible rfl) | (simp only [ki_0, ki_1, ki_2, ki_3, ki_4, ki_5, ki_6, ki_7, ki_8, ki_9, ki_10, ki_11, ki_12, ki_17, ki_20, ki_21, ki_22, ki_42, ki_50, ki_58, ki_66, ki_74, ki_140, ki_174, ki_179, ki_184, ki_189, ki_441, ix1, ix2, ix3, nI_add, pk_mul]; with_reducible rfl) | (simp (disch := omega) only [upd_n, ki_0, ki_1, ki_2, ki_3, ki_4, ki_5, ki_6, ki_7, ki_8, ki_9, ki_10, ki_11, ki_12, ki_17, ki_20, ki_21, ki_22, ki_42, ki_50, ki_58, ki_66, ki_74, ki_140, ki_174, ki_179, ki_184, ki_189, ki_441, ix1, nI_add, pk_mul]; with_reducible rfl) | (simp (disch := omega) only [upd_n, ki_0, ki_1, ki_2, ki_3, ki_4, ki_5, ki_6, ki_7, ki_8, ki_9, ki_10, ki_11, ki_12, ki_17, ki_20, ki_21, ki_22, ki_42, ki_50, ki_58, ki_66, ki_74, ki_140, ki_174, ki_179, ki_184, ki_189, ki_441, ix1, ix2, nI_add, pk_mul]; with_reducible rfl) | rfl); (case hlt => first | decide | omega); (case hn => decide); (case hN => assumption); (case hg => rfl))
    iterate 12 refine mT_s rfl rfl ?_
    (apply mT_inv; (case hc => rfl); (case hd => rfl); (case hb => first | rfl | assumption); (case hg => rfl))
    simp only [m_up_up]
    rw [s_at_um s _ _ _ hq, n_play_2 le mo mm hpq]
    refine e_nextTable _ (m_up h3 77 _) _ o t _ _ _ hM3 (nI who) q p (n + 1) y2 qs ys2 hp hql (fun x hx => h5 x (List.mem_cons_of_mem _ (List.mem_cons_of_mem _ hx))) (hn2).2.2.2.2.1 (hn2).2.2.2.2.2 (hn2).2.2.2.1 ?_
    refine ih (m_up h3 77 (.inl (0, 889, .inl (s_at s (n_play le mo mm q p) (g + 1))))) i pd _ (n_play le mo mm q p) (g + 1) (n_play_le hq hmm) q y2 ys2 (hn2).2.1 (hn2).2.2.1 (by rw [(hn2).2.2.2.1]; exact hql) (by omega) (by omega) hM3 rfl hN3 hr3.2.1 hr3.2.2 (fun h4 hr4 h774 => ⟨_, rfl, ?_⟩)
    have hM4 : h4 76 = _ := (hr4.1 76 (by decide)).trans hM3
    have hN4 : 87 ≤ m_nx h4 := by rw [hr4.nx (by decide)]; exact hN3
    iterate 4 refine mT_s rfl rfl ?_
    (apply mT_getf; (case hc => rfl); (case ha => first | rfl | assumption); (case hf => first | rfl | assumption))
    iterate 4 refine mT_s rfl rfl ?_
    (apply mT_iastK; (case hc => rfl); (case ha => first | rfl | assumption); (case hk => first | (simp only [ki_0, ki_1, ki_2, ki_3, ki_4, ki_5, ki_6, ki_7, ki_8, ki_9, ki_10, ki_11, ki_12, ki_17, ki_20, ki_21, ki_22, ki_42, ki_50, ki_58, ki_66, ki_74, ki_140, ki_174, ki_179, ki_184, ki_189, ki_441, nI_add, pk_mul]; with_reducible rfl) | (simp only [ki_0, ki_1, ki_2, ki_3, ki_4, ki_5, ki_6, ki_7, ki_8, ki_9, ki_10, ki_11, ki_12, ki_17, ki_20, ki_21, ki_22, ki_42, ki_50, ki_58, ki_66, ki_74, ki_140, ki_174, ki_179, ki_184, ki_189, ki_441, ix1, nI_add, pk_mul]; with_reducible rfl) | (simp only [ki_0, ki_1, ki_2, ki_3, ki_4, ki_5, ki_6, ki_7, ki_8, ki_9, ki_10, ki_11, ki_12, ki_17, ki_20, ki_21, ki_22, ki_42, ki_50, ki_58, ki_66, ki_74, ki_140, ki_174, ki_179, ki_184, ki_189, ki_441, ix1, ix2, nI_add, pk_mul]; with_reducible rfl) | (simp only [ki_0, ki_1, ki_2, ki_3, ki_4, ki_5, ki_6, ki_7, ki_8, ki_9, ki_10, ki_11, ki_12, ki_17, ki_20, ki_21, ki_22, ki_42, ki_50, ki_58, ki_66, ki_74, ki_140, ki_174, ki_179, ki_184, ki_189, ki_441, ix1, ix2, ix3, nI_add, pk_mul]; with_reducible rfl) | (simp (disch := omega) only [upd_n, ki_0, ki_1, ki_2, ki_3, ki_4, ki_5, ki_6, ki_7, ki_8, ki_9, ki_10, ki_11, ki_12, ki_17, ki_20, ki_21, ki_22, ki_42, ki_50, ki_58, ki_66, ki_74, ki_140, ki_174, ki_179, ki_184, ki_189, ki_441, ix1, nI_add, pk_mul]; with_reducible rfl) | (simp (disch := omega) only [upd_n, ki_0, ki_1, ki_2, ki_3, ki_4, ki_5, ki_6, ki_7, ki_8, ki_9, ki_10, ki_11, ki_12, ki_17, ki_20, ki_21, ki_22, ki_42, ki_50, ki_58, ki_66, ki_74, ki_140, ki_174, ki_179, ki_184, ki_189, ki_441, ix1, ix2, nI_add, pk_mul]; with_reducible rfl) | rfl); (case hlt => first | decide | omega); (case hn => decide); (case hN => assumption); (case hg => rfl))
    refine mT_s rfl rfl ?_
    (apply mT_getf; (case hc => rfl); (case ha => first | rfl | assumption); (case hf => first | rfl | assumption))
    iterate 4 refine mT_s rfl rfl ?_
    (apply mT_iastK; (case hc => rfl); (case ha => first | rfl | assumption); (case hk => first | (simp only [ki_0, ki_1, ki_2, ki_3, ki_4, ki_5, ki_6, ki_7, ki_8, ki_9, ki_10, ki_11, ki_12, ki_17, ki_20, ki_21, ki_22, ki_42, ki_50, ki_58, ki_66, ki_74, ki_140, ki_174, ki_179, ki_184, ki_189, ki_441, nI_add, pk_mul]; with_reducible rfl) | (simp only [ki_0, ki_1, ki_2, ki_3, ki_4, ki_5, ki_6, ki_7, ki_8, ki_9, ki_10, ki_11, ki_12, ki_17, ki_20, ki_21, ki_22, ki_42, ki_50, ki_58, ki_66, ki_74, ki_140, ki_174, ki_179, ki_184, ki_189, ki_441, ix1, nI_add, pk_mul]; with_reducible rfl) | (simp only [ki_0, ki_1, ki_2, ki_3, ki_4, ki_5, ki_6, ki_7, ki_8, ki_9, ki_10, ki_11, ki_12, ki_17, ki_20, ki_21, ki_22, ki_42, ki_50, ki_58, ki_66, ki_74, ki_140, ki_174, ki_179, ki_184, ki_189, ki_441, ix1, ix2, nI_add, pk_mul]; with_reducible rfl) | (simp only [ki_0, ki_1, ki_2, ki_3, ki_4, ki_5, ki_6, ki_7, ki_8, ki_9, ki_10, ki_11, ki_12, ki_17, ki_20, ki_21, ki_22, ki_42, ki_50, ki_58, ki_66, ki_74, ki_140, ki_174, ki_179, ki_184, ki_189, ki_441, ix1, ix2, ix3, nI_add, pk_mul]; with_reducible rfl) | (simp (disch := omega) only [upd_n, ki_0, ki_1, ki_2, ki_3, ki_4, ki_5, ki_6, ki_7, ki_8, ki_9, ki_10, ki_11, ki_12, ki_17, ki_20, ki_21, ki_22, ki_42, ki_50, ki_58, ki_66, ki_74, ki_140, ki_174, ki_179, ki_184, ki_189, ki_441, ix1, nI_add, pk_mul]; with_reducible rfl) | (simp (disch := omega) only [upd_n, ki_0, ki_1, ki_2, ki_3, ki_4, ki_5, ki_6, ki_7, ki_8, ki_9, ki_10, ki_11, ki_12, ki_17, ki_20, ki_21, ki_22, ki_42, ki_50, ki_58, ki_66, ki_74, ki_140, ki_174, ki_179, ki_184, ki_189, ki_441, ix1, ix2, nI_add, pk_mul]; with_reducible rfl) | rfl); (case hlt => first | decide | omega); (case hn => decide); (case hN => assumption); (case hg => rfl))
    refine mT_s rfl rfl ?_
    (apply mT_getf; (case hc => rfl); (case ha => first | rfl | assumption); (case hf => first | rfl | assumption))
    iterate 2 refine mT_s rfl rfl ?_
    (apply mT_ialdK; (case hc => rfl); (case ha => first | rfl | assumption); (case hk => first | (simp only [ki_0, ki_1, ki_2, ki_3, ki_4, ki_5, ki_6, ki_7, ki_8, ki_9, ki_10, ki_11, ki_12, ki_17, ki_20, ki_21, ki_22, ki_42, ki_50, ki_58, ki_66, ki_74, ki_140, ki_174, ki_179, ki_184, ki_189, ki_441, nI_add, pk_mul]; with_reducible rfl) | (simp only [ki_0, ki_1, ki_2, ki_3, ki_4, ki_5, ki_6, ki_7, ki_8, ki_9, ki_10, ki_11, ki_12, ki_17, ki_20, ki_21, ki_22, ki_42, ki_50, ki_58, ki_66, ki_74, ki_140, ki_174, ki_179, ki_184, ki_189, ki_441, ix1, nI_add, pk_mul]; with_reducible rfl) | (simp only [ki_0, ki_1, ki_2, ki_3, ki_4, ki_5, ki_6, ki_7, ki_8, ki_9, ki_10, ki_11, ki_12, ki_17, ki_20, ki_21, ki_22, ki_42, ki_50, ki_58, ki_66, ki_74, ki_140, ki_174, ki_179, ki_184, ki_189, ki_441, ix1, ix2, nI_add, pk_mul]; with_reducible rfl) | (simp only [ki_0, ki_1, ki_2, ki_3, ki_4, ki_5, ki_6, ki_7, ki_8, ki_9, ki_10, ki_11, ki_12, ki_17, ki_20, ki_21, ki_22, ki_42, ki_50, ki_58, ki_66, ki_74, ki_140, ki_174, ki_179, ki_184, ki_189, ki_441, ix1, ix2, ix3, nI_add, pk_mul]; with_reducible rfl) | (simp (disch := omega) only [upd_n, ki_0, ki_1, ki_2, ki_3, ki_4, ki_5, ki_6, ki_7, ki_8, ki_9, ki_10, ki_11, ki_12, ki_17, ki_20, ki_21, ki_22, ki_42, ki_50, ki_58, ki_66, ki_74, ki_140, ki_174, ki_179, ki_184, ki_189, ki_441, ix1, nI_add, pk_mul]; with_reducible rfl) | (simp (disch := omega) only [upd_n, ki_0, ki_1, ki_2, ki_3, ki_4, ki_5, ki_6, ki_7, ki_8, ki_9, ki_10, ki_11, ki_12, ki_17, ki_20, ki_21, ki_22, ki_42, ki_50, ki_58, ki_66, ki_74, ki_140, ki_174, ki_179, ki_184, ki_189, ki_441, ix1, ix2, nI_add, pk_mul]; with_reducible rfl) | rfl); (case hlt => first | decide | omega); (case hn => decide))
    iterate 2 refine mT_s rfl rfl ?_
    (apply mT_iastK; (case hc => rfl); (case ha => first | rfl | assumption); (case hk => first | (simp only [ki_0, ki_1, ki_2, ki_3, ki_4, ki_5, ki_6, ki_7, ki_8, ki_9, ki_10, ki_11, ki_12, ki_17, ki_20, ki_21, ki_22, ki_42, ki_50, ki_58, ki_66, ki_74, ki_140, ki_174, ki_179, ki_184, ki_189, ki_441, nI_add, pk_mul]; with_reducible rfl) | (simp only [ki_0, ki_1, ki_2, ki_3, ki_4, ki_5, ki_6, ki_7, ki_8, ki_9, ki_10, ki_11, ki_12, ki_17, ki_20, ki_21, ki_22, ki_42, ki_50, ki_58, ki_66, ki_74, ki_140, ki_174, ki_179, ki_184, ki_189, ki_441, ix1, nI_add, pk_mul]; with_reducible rfl) | (simp only [ki_0, ki_1, ki_2, ki_3, ki_4, ki_5, ki_6, ki_7, ki_8, ki_9, ki_10, ki_11, ki_12, ki_17, ki_20, ki_21, ki_22, ki_42, ki_50, ki_58, ki_66, ki_74, ki_140, ki_174, ki_179, ki_184, ki_189, ki_441, ix1, ix2, nI_add, pk_mul]; with_reducible rfl) | (simp only [ki_0, ki_1, ki_2, ki_3, ki_4, ki_5, ki_6, ki_7, ki_8, ki_9, ki_10, ki_11, ki_12, ki_17, ki_20, ki_21, ki_22, ki_42, ki_50, ki_58, ki_66, ki_74, ki_140, ki_174, ki_179, ki_184, ki_189, ki_441, ix1, ix2, ix3, nI_add, pk_mul]; with_reducible rfl) | (simp (disch := omega) only [upd_n, ki_0, ki_1, ki_2, ki_3, ki_4, ki_5, ki_6, ki_7, ki_8, ki_9, ki_10, ki_11, ki_12, ki_17, ki_20, ki_21, ki_22, ki_42, ki_50, ki_58, ki_66, ki_74, ki_140, ki_174, ki_179, ki_184, ki_189, ki_441, ix1, nI_add, pk_mul]; with_reducible rfl) | (simp (disch := omega) only [upd_n, ki_0, ki_1, ki_2, ki_3, ki_4, ki_5, ki_6, ki_7, ki_8, ki_9, ki_10, ki_11, ki_12, ki_17, ki_20, ki_21, ki_22, ki_42, ki_50, ki_58, ki_66, ki_74, ki_140, ki_174, ki_179, ki_184, ki_189, ki_441, ix1, ix2, nI_add, pk_mul]; with_reducible rfl) | rfl); (case hlt => first | decide | omega); (case hn => decide); (case hN => assumption); (case hg => rfl))
    refine mT_s rfl rfl ?_
    refine mT_ret rfl rfl ?_
    simp only [m_up_up]
    rw [s_at_um s _ _ _ hp, s_at_um s _ _ _ hq, s_at_0, nI_pred, s_at_ug, n_play_b le mo mm hpq, (od_n hod).1, (od_n hod).2]
    simp only [lN_mul, lN_add]
    have K := K (m_up h4 77 (.inl (0, 889, .inl (s_at s mm g)))) ((rX.tr (rX.tr (hr2.up (k := 77) (by decide) (by decide) (by decide)) hr3) (rX.tr (rX.rfl' hr3.2.1 hr3.2.2 |>.up (k := 77) (by decide) (by decide) (by decide)) hr4)).up (k := 77) (by decide) (by decide) (by decide)) rfl
    unfold nT at K
    rw [hn1.1, hn2.1] at K
    exact K