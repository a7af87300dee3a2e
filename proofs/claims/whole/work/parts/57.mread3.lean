/-! By program (wip/whole/book*.py) and hand. -/
/-- among the five letters, among the three signs -/
theorem e_ab (d : Nat) (h : mH) (s i : Nat → Int32) (o t : Nat) (pd bw : Int64) (Q : Option Value → mH → Prop) (e p : Nat)  (L : Nat) (xs : Nat → Int32) (hst : hS L xs h) (hc : rC h i s o t pd bw e p false) (kS : ∀ w, pAb (sg s e p) = some w → ∀ h2 i2, rZ h i o t pd bw h2 i2 s (p + 1) false → Q (some (.int (nI w))) h2) (kN : pAb (sg s e p) = none → Q (some (.int (-1))) h) : mT0 (d + 4) z_X10_among 0 (m_init z_X10_among [.ref 76, .ref 7]) [] h Q := by
  iterate 2 refine mT_s rfl rfl ?_
  refine e_among_L d h s i o t pd bw Q e p 7 13 5 (k_tab (k_byt.getD 0 [])) (hst 7 (by decide) (by decide)) (hst 13 (by decide) (by decide)) rfl rfl (by decide) ?_ hc ?_ ?_ 5 0 (by decide) (fun j hj => absurd hj (by omega))
  · intro j hj
    match j, hj with
    | 0, _ => exact ⟨112, by decide, rfl⟩
    | 1, _ => exact ⟨107, by decide, rfl⟩
    | 2, _ => exact ⟨109, by decide, rfl⟩
    | 3, _ => exact ⟨111, by decide, rfl⟩
    | 4, _ => exact ⟨103, by decide, rfl⟩
  · intro j hj hj2 _ h2 i2 z
    refine kS j ?_ h2 i2 z
    rw [hj2]
    match j, hj with
    | 0, _ => rfl
    | 1, _ => rfl
    | 2, _ => rfl
    | 3, _ => rfl
    | 4, _ => rfl
  · intro hn
    refine kN ?_
    unfold pAb
    rw [if_neg (show ¬ sg s e p = 112 from hn 0 (by decide)), if_neg (show ¬ sg s e p = 107 from hn 1 (by decide)), if_neg (show ¬ sg s e p = 109 from hn 2 (by decide)), if_neg (show ¬ sg s e p = 111 from hn 3 (by decide)), if_neg (show ¬ sg s e p = 103 from hn 4 (by decide))]
theorem e_cm (d : Nat) (h : mH) (s i : Nat → Int32) (o t : Nat) (pd bw : Int64) (Q : Option Value → mH → Prop) (e p : Nat)  (L : Nat) (xs : Nat → Int32) (hst : hS L xs h) (hc : rC h i s o t pd bw e p false) (kS : ∀ w, pCm (sg s e p) = some w → ∀ h2 i2, rZ h i o t pd bw h2 i2 s (p + 1) false → Q (some (.int (nI w))) h2) (kN : pCm (sg s e p) = none → Q (some (.int (-1))) h) : mT0 (d + 4) z_X10_among 0 (m_init z_X10_among [.ref 76, .ref 8]) [] h Q := by
  iterate 2 refine mT_s rfl rfl ?_
  refine e_among_L d h s i o t pd bw Q e p 8 14 3 (k_tab (k_byt.getD 1 [])) (hst 8 (by decide) (by decide)) (hst 14 (by decide) (by decide)) rfl rfl (by decide) ?_ hc ?_ ?_ 3 0 (by decide) (fun j hj => absurd hj (by omega))
  · intro j hj
    match j, hj with
    | 0, _ => exact ⟨60, by decide, rfl⟩
    | 1, _ => exact ⟨61, by decide, rfl⟩
    | 2, _ => exact ⟨62, by decide, rfl⟩
  · intro j hj hj2 _ h2 i2 z
    refine kS j ?_ h2 i2 z
    rw [hj2]
    match j, hj with
    | 0, _ => rfl
    | 1, _ => rfl
    | 2, _ => rfl
  · intro hn
    refine kN ?_
    unfold pCm
    rw [if_neg (show ¬ sg s e p = 60 from hn 0 (by decide)), if_neg (show ¬ sg s e p = 61 from hn 1 (by decide)), if_neg (show ¬ sg s e p = 62 from hn 2 (by decide))]
/-- the inn's steps and their number alone are other -/
def tw (act : Nat) (s s2 : Nat → Int32) : Prop := ∀ j, j ≠ 184 + act → ¬ (189 + 140 * act ≤ j ∧ j < 329 + 140 * act) → s2 j = s j
def tk (act k0 : Nat) (s s2 : Nat → Int32) (l : List Tok) : Prop := tw act s s2 ∧ (∀ j, 189 + 140 * act ≤ j → j < 189 + 140 * act + k0 → s2 j = s j) ∧ s2 (184 + act) = nI (k0 + l.length) ∧ t_C s2 (189 + 140 * act + k0) l
theorem tw.rfl' {act : Nat} {s : Nat → Int32} : tw act s s := fun _ _ _ => rfl
theorem tw.tr {act : Nat} {s s2 s3 : Nat → Int32} (a : tw act s s2) (b : tw act s2 s3) : tw act s s3 := fun j h1 h2 => (b j h1 h2).trans (a j h1 h2)
theorem tw.sgeq {act : Nat} {s s2 : Nat → Int32} (a : tw act s s2) {e : Nat} (he : e ≤ 100) : sg s2 e = sg s e := by
  funext p
  unfold sg
  split
  · exact a _ (by omega) (by omega)
  · rfl
theorem t_C_app {s : Nat → Int32} : ∀ {l m : List Tok} {k : Nat}, t_C s k l → t_C s (k + l.length) m → t_C s k (l ++ m)
  | [], _, _, _, h => h
  | x :: l, m, k, h, h2 => ⟨h.1, t_C_app h.2 (by rw [show k + 1 + l.length = k + (x :: l).length by rw [List.length_cons]; omega]; exact h2)⟩
theorem t_C_same {s s2 : Nat → Int32} : ∀ {l : List Tok} {k : Nat}, (∀ j, k ≤ j → j < k + l.length → s2 j = s j) → t_C s k l → t_C s2 k l
  | [], _, _, _ => trivial
  | x :: l, k, h, hc => ⟨(h k (Nat.le_refl _) (by rw [List.length_cons]; omega)).trans hc.1, t_C_same (fun j h1 h2 => h j (by omega) (by rw [List.length_cons]; omega)) hc.2⟩
theorem tk.tr {act k0 : Nat} {s s2 s3 : Nat → Int32} {l m : List Tok} (a : tk act k0 s s2 l) (b : tk act (k0 + l.length) s2 s3 m) : tk act k0 s s3 (l ++ m) := by
  obtain ⟨a1, a2, a3, a4⟩ := a
  obtain ⟨b1, b2, b3, b4⟩ := b
  refine ⟨a1.tr b1, fun j h1 h2 => (b2 j h1 (by omega)).trans (a2 j h1 h2), by rw [b3, List.length_append, Nat.add_assoc], t_C_app (t_C_same (fun j h1 h2 => b2 j (by omega) (by omega)) a4) ?_⟩
  rw [Nat.add_assoc]
  exact b4
theorem tk.one {act k0 : Nat} {s : Nat → Int32} (ha : act < 5) (hk : k0 < 140) {v : Int32} {x : Tok} (hv : v = rT x) : tk act k0 s (upd (upd s (189 + 140 * act + k0) v) (184 + act) (nI (k0 + 1))) [x] := by
  refine ⟨fun j h1 h2 => ?_, fun j h1 h2 => ?_, upd_s _ _ _, ?_, trivial⟩
  · rw [upd_n _ _ h1, upd_n _ _ (by omega)]
  · rw [upd_n _ _ (by omega), upd_n _ _ (by omega)]
  · rw [upd_n _ _ (by omega), upd_s, hv]
theorem tk.nil {act k0 : Nat} {s : Nat → Int32} (h : s (184 + act) = nI k0) : tk act k0 s s [] := ⟨tw.rfl', fun _ _ _ => rfl, h, trivial⟩
/-- a reader method reads as it should, all right before it -/
def fSp (z D act e opn : Nat) (g : Nat → Int32) (L : Nat) (xs : Nat → Int32) (o t : Nat) (pd bw : Int64) (F : Nat → pR) : Prop := ∀ (h : mH) (s i : Nat → Int32) (p k0 : Nat) (Q : Option Value → mH → Prop), rC h i s o t pd bw e p false → hS L xs h → i 5 = nI act → i 9 = nI opn → s (184 + act) = nI k0 → k0 ≤ p → sg s e = g →
  (∀ h2 i2 s2, rZ h i o t pd bw h2 i2 s2 (F p).2.1 (!(F p).1) → tw act s s2 → ((F p).1 = true → tk act k0 s s2 (F p).2.2) → Q none h2) → mT0 D z 0 (m_init z [.ref 76]) [] h Q
def wSp (z D : Nat) (e : Nat) (o t : Nat) (pd bw : Int64) : Prop := ∀ (h : mH) (s i : Nat → Int32) (p : Nat) (Q : Option Value → mH → Prop), rC h i s o t pd bw e p true → Q none h → mT0 D z 0 (m_init z [.ref 76]) [] h Q
theorem e_factor_w (D e o t : Nat) (pd bw : Int64)  : wSp z_X10_factor (D + 1) e o t pd bw := by
  intro h s i p Q hc K
  obtain ⟨hM, h77, hN, ix1, h7, h8, he, hpe⟩ := id hc
  refine mT_s rfl rfl ?_
  (apply mT_getf; (case hc => rfl); (case ha => first | rfl | assumption); (case hf => first | rfl | assumption))
  refine mT_if_eq rfl (fun c => absurd (h8.symm.trans c) (by decide)) (fun _ => ?_)
  refine mT_ret rfl rfl ?_
  exact K
theorem e_every_w (D e o t : Nat) (pd bw : Int64)  (hF : wSp z_X10_factor D e o t pd bw) : wSp z_X10_every (D + 1) e o t pd bw := by
  intro h s i p Q hc K
  obtain ⟨hM, h77, hN, ix1, h7, h8, he, hpe⟩ := id hc
  refine mT_s rfl rfl ?_
  (apply mT_inv; (case hc => rfl); (case hd => rfl); (case hb => first | rfl | assumption); (case hg => rfl))
  refine hF h s i p _ hc ?_
  refine mT_s rfl rfl ?_
  (apply mT_getf; (case hc => rfl); (case ha => first | rfl | assumption); (case hf => first | rfl | assumption))
  refine mT_if_ne rfl (fun _ => ?_) (fun c => absurd (h8.symm.trans c) (by decide))
  refine mT_ret rfl rfl ?_
  exact K
theorem e_some_w (D e o t : Nat) (pd bw : Int64)  (hF : wSp z_X10_every D e o t pd bw) : wSp z_X10_some (D + 1) e o t pd bw := by
  intro h s i p Q hc K
  obtain ⟨hM, h77, hN, ix1, h7, h8, he, hpe⟩ := id hc
  refine mT_s rfl rfl ?_
  (apply mT_inv; (case hc => rfl); (case hd => rfl); (case hb => first | rfl | assumption); (case hg => rfl))
  refine hF h s i p _ hc ?_
  refine mT_s rfl rfl ?_
  (apply mT_getf; (case hc => rfl); (case ha => first | rfl | assumption); (case hf => first | rfl | assumption))
  refine mT_if_ne rfl (fun _ => ?_) (fun c => absurd (h8.symm.trans c) (by decide))
  refine mT_ret rfl rfl ?_
  exact K
theorem pL_no {F : Nat → pR} {g : Nat → Int32} {c : Int32} {k n : Nat} {r : pR} (h : ¬ (r.1 = true ∧ g r.2.1 = c)) : pLoop F g c k (n + 1) r = r := by
  unfold pLoop
  rw [if_neg h]
theorem pL_yes {F : Nat → pR} {g : Nat → Int32} {c : Int32} {k n : Nat} {r : pR} (h : r.1 = true ∧ g r.2.1 = c) : pLoop F g c k (n + 1) r = pLoop F g c k n ((F (r.2.1 + 1)).1, (F (r.2.1 + 1)).2.1, r.2.2 ++ (F (r.2.1 + 1)).2.2 ++ [.inr (.inl k)]) := by
  rw [pLoop, if_pos h]
theorem e_every_L (D act e opn : Nat) (ha : act < 5) (g : Nat → Int32) (L : Nat) (xs : Nat → Int32) (o t : Nat) (pd bw : Int64) (F : Nat → pR) (hgF : ∀ p, pOk e p (F p))  (hF : fSp z_X10_factor (D + 1) act e opn g L xs o t pd bw F) : ∀ (n : Nat) (h : mH) (s i : Nat → Int32) (r : pR) (s0 : Nat → Int32) (k0 : Nat) (Q : Option Value → mH → Prop), e + 1 ≤ r.2.1 + n → rC h i s o t pd bw e r.2.1 (!r.1) → hS L xs h → i 5 = nI act → i 9 = nI opn → sg s e = g → tw act s0 s → (r.1 = true → tk act k0 s0 s r.2.2 ∧ k0 + r.2.2.length ≤ r.2.1) → (∀ h2 i2 s2, rZ h i o t pd bw h2 i2 s2 (pLoop F g 38 1 n r).2.1 (!(pLoop F g 38 1 n r).1) → tw act s0 s2 → ((pLoop F g 38 1 n r).1 = true → tk act k0 s0 s2 (pLoop F g 38 1 n r).2.2) → Q none h2) → mT0 (D + 2) z_X10_every 4 [some (.ref 76)] [] h Q := by
  intro n
  induction n with
  | zero =>
    intro h s i r s0 k0 Q hn hc hst h5 h9 hg htw htk K
    have := hc.2.2.2.2.2.2.2
    omega
  | succ n ih =>
    intro h s i r s0 k0 Q hn hc hst h5 h9 hg htw htk K
    obtain ⟨hM, h77, hN, ix1, h7, h8, he, hpe⟩ := id hc
    cases hw : r.1 with
    | false =>
      rw [hw] at h8
      rw [pL_no (fun z => absurd (hw.symm.trans z.1) (by decide))] at K
      refine mT_s rfl rfl ?_
      (apply mT_getf; (case hc => rfl); (case ha => first | rfl | assumption); (case hf => first | rfl | assumption))
      refine mT_if_ne rfl (fun _ => ?_) (fun c => absurd (h8.symm.trans c) (by decide))
      refine mT_ret rfl rfl ?_
      exact K h i s hc.z htw (fun z => absurd (hw.symm.trans z) (by decide))
    | true =>
      rw [hw] at h8 hc
      refine mT_s rfl rfl ?_
      (apply mT_getf; (case hc => rfl); (case ha => first | rfl | assumption); (case hf => first | rfl | assumption))
      refine mT_if_ne rfl (fun c => absurd h8 c) (fun _ => ?_)
      refine mT_s rfl rfl ?_
      (apply mT_inv; (case hc => rfl); (case hd => rfl); (case hb => first | rfl | assumption); (case hg => rfl))
      refine e_here _ _ s _ o t pd bw _ e _ _ hc ?_
      rw [hg]
      refine mT_s rfl rfl ?_
      refine mT_icmp_ne rfl (fun c17 => ?_) (fun c17 => ?_)
      · refine mT_ret rfl rfl ?_
        rw [pL_no (fun z => c17 z.2)] at K
        exact K h i s (by rw [hw]; exact hc.z) htw (fun z => (htk z).1)
      · iterate 2 refine mT_s rfl rfl ?_
        (apply mT_getf; (case hc => rfl); (case ha => first | rfl | assumption); (case hf => first | rfl | assumption))
        iterate 2 refine mT_s rfl rfl ?_
        (apply mT_putfN; (case hc => rfl); (case ha => first | rfl | assumption); (case hN => assumption); (case hg => rfl))
        refine mT_s rfl rfl ?_
        (apply mT_inv; (case hc => rfl); (case hd => rfl); (case hb => first | rfl | assumption); (case hg => rfl))
        have hz : rZ h i o t pd bw (m_up h 76 (.inr (10, mObj (upd i 6 (i 6 + 1)) o t pd bw))) (upd i 6 (i 6 + 1)) s (r.2.1 + 1) false := ⟨fun a x y => m_up_n x, rfl, h77, by rw [upd_s, ix1, nI_1], by rw [upd_n _ _ (by decide)]; exact h8, fun j x y => upd_n _ _ x⟩
        have hpe2 : r.2.1 + 1 ≤ e := (show gOk g e from hg ▸ sg_ok s e).lt c17 (by decide)
        rw [pL_yes ⟨hw, c17⟩] at K
        have hk0 := (htk hw).2
        refine hF (m_up h 76 _) s (upd i 6 (i 6 + 1)) (r.2.1 + 1) (k0 + r.2.2.length) _ (hz.c hc hpe2) (hst.z hz) (hz.f5.trans h5) (hz.f9.trans h9) (htk hw).1.2.2.1 (by omega) hg (fun h3 i3 s3 z3 tw3 tk3 => ?_)
        have hq := hgF (r.2.1 + 1)
        have hc3 := z3.c (hz.c hc hpe2) (hq.2.1 hpe2)
        have hst3 := (hst.z hz).z z3
        obtain ⟨hM3, h773, hN3, -, -, h83, -, -⟩ := id hc3
        have hq3 := hq.2.2
        have hq1 : r.2.1 + 1 ≤ (F (r.2.1 + 1)).2.1 := hq.1
        rcases hok3 : (F (r.2.1 + 1)).1 with _ | _
        · rw [hok3] at hc3 z3
          iterate 2 refine mT_s rfl rfl ?_
          (apply mT_inv; (case hc => rfl); (case hd => rfl); (case hb => first | rfl | assumption); (case hg => rfl))
          first
            | refine e_emits_w _ _ _ _ _ _ _ _ _ _ _ _ hc3 ?_
            | refine e_emits _ h3 s3 i3 o t pd bw _ e _ _ hc3 act (k0 + (r.2.2 ++ (F (r.2.1 + 1)).2.2).length) ha ((z3.f5.trans hz.f5).trans h5) htk3.2.2.1 (by omega) ?_
          refine mT_s rfl rfl ?_
          refine ih h3 s3 i3 ((F (r.2.1 + 1)).1, (F (r.2.1 + 1)).2.1, r.2.2 ++ (F (r.2.1 + 1)).2.2 ++ [.inr (.inl 1)]) s0 k0 Q (by show e + 1 ≤ (F (r.2.1 + 1)).2.1 + n; omega) (by show rC _ _ _ _ _ _ _ e (F (r.2.1 + 1)).2.1 (!(F (r.2.1 + 1)).1); rw [hok3]; exact hc3) hst3 ((z3.f5.trans hz.f5).trans h5) ((z3.f9.trans hz.f9).trans h9) ((tw3.sgeq he).trans hg) (htw.tr tw3) (fun z => absurd (hok3.symm.trans z) (by decide)) (fun h4 i4 s4 z4 => K h4 i4 s4 ((hz.tr z3).tr z4))
        · rw [hok3] at hc3 z3 h83
          have hq3 := hq3 hok3
          have htk3 := (htk hw).1.tr (tk3 hok3)
          have hlen : (r.2.2 ++ (F (r.2.1 + 1)).2.2).length = r.2.2.length + (F (r.2.1 + 1)).2.2.length := List.length_append
          have hke : (F (r.2.1 + 1)).2.1 ≤ 100 := Nat.le_trans (hq.2.1 hpe2) he
          iterate 2 refine mT_s rfl rfl ?_
          (apply mT_inv; (case hc => rfl); (case hd => rfl); (case hb => first | rfl | assumption); (case hg => rfl))
          first
            | refine e_emits_w _ _ _ _ _ _ _ _ _ _ _ _ hc3 ?_
            | refine e_emits _ h3 s3 i3 o t pd bw _ e _ _ hc3 act (k0 + (r.2.2 ++ (F (r.2.1 + 1)).2.2).length) ha ((z3.f5.trans hz.f5).trans h5) htk3.2.2.1 (by omega) ?_
          refine mT_s rfl rfl ?_
          have z5 : rZ h3 i3 o t pd bw (m_up h3 77 (.inl (0, 889, .inl (upd (upd s3 (189 + 140 * act + (k0 + (r.2.2 ++ (F (r.2.1 + 1)).2.2).length)) (-2)) (184 + act) (nI (k0 + (r.2.2 ++ (F (r.2.1 + 1)).2.2).length + 1)))))) i3 (upd (upd s3 (189 + 140 * act + (k0 + (r.2.2 ++ (F (r.2.1 + 1)).2.2).length)) (-2)) (184 + act) (nI (k0 + (r.2.2 ++ (F (r.2.1 + 1)).2.2).length + 1))) (F (r.2.1 + 1)).2.1 false := ⟨fun a x y => m_up_n y, hM3, rfl, hc3.2.2.2.1, h83, fun j x y => rfl⟩
          have t5 := tk.one (s := s3) (k0 := k0 + (r.2.2 ++ (F (r.2.1 + 1)).2.2).length) ha (by omega) (v := (-2)) (x := .inr (.inl 1)) rfl
          refine ih _ _ i3 _ s0 k0 Q (by show e + 1 ≤ (F (r.2.1 + 1)).2.1 + n; omega) (by show rC _ _ _ _ _ _ _ e (F (r.2.1 + 1)).2.1 (!(F (r.2.1 + 1)).1); rw [hok3]; exact z5.c hc3 hc3.2.2.2.2.2.2.2) (hst3.z z5) ((z3.f5.trans hz.f5).trans h5) ((z3.f9.trans hz.f9).trans h9) ((t5.1.sgeq he).trans ((tw3.sgeq he).trans hg)) ((htw.tr tw3).tr t5.1) (fun _ => ⟨htk3.tr t5, ?_⟩) (fun h4 i4 s4 z4 => K h4 i4 s4 (((hz.tr z3).tr z5).tr z4))
          show k0 + (r.2.2 ++ (F (r.2.1 + 1)).2.2 ++ [Sum.inr (Sum.inl 1)]).length ≤ (F (r.2.1 + 1)).2.1
          rw [List.length_append, List.length_singleton]
          omega
theorem e_every (D act e opn : Nat) (ha : act < 5) (g : Nat → Int32) (L : Nat) (xs : Nat → Int32) (o t : Nat) (pd bw : Int64) (F : Nat → pR) (hgF : ∀ p, pOk e p (F p))  (hF : fSp z_X10_factor (D + 1) act e opn g L xs o t pd bw F) : fSp z_X10_every (D + 2) act e opn g L xs o t pd bw (fun p => pLoop F g 38 1 101 (F p)) := by
  intro h s i p k0 Q hc hst h5 h9 hk hk0 hg K
  obtain ⟨hM, h77, hN, ix1, h7, h8, he, hpe⟩ := id hc
  refine mT_s rfl rfl ?_
  (apply mT_inv; (case hc => rfl); (case hd => rfl); (case hb => first | rfl | assumption); (case hg => rfl))
  have hq := hgF p
  refine hF h s i p k0 _ hc hst h5 h9 hk hk0 hg (fun h3 i3 s3 z3 tw3 tk3 => ?_)
  have hc3 := z3.c hc (hq.2.1 hpe)
  exact e_every_L D act e opn ha g L xs o t pd bw F hgF hF 101 h3 s3 i3 (F p) s k0 Q (by omega) hc3 (hst.z z3) (z3.f5.trans h5) (z3.f9.trans h9) ((tw3.sgeq he).trans hg) tw3 (fun z => ⟨tk3 z, by have := hq.2.2 z; omega⟩) (fun h4 i4 s4 z4 => K h4 i4 s4 (z3.tr z4))
theorem e_some_L (D act e opn : Nat) (ha : act < 5) (g : Nat → Int32) (L : Nat) (xs : Nat → Int32) (o t : Nat) (pd bw : Int64) (F : Nat → pR) (hgF : ∀ p, pOk e p (F p))  (hF : fSp z_X10_every (D + 1) act e opn g L xs o t pd bw F) : ∀ (n : Nat) (h : mH) (s i : Nat → Int32) (r : pR) (s0 : Nat → Int32) (k0 : Nat) (Q : Option Value → mH → Prop), e + 1 ≤ r.2.1 + n → rC h i s o t pd bw e r.2.1 (!r.1) → hS L xs h → i 5 = nI act → i 9 = nI opn → sg s e = g → tw act s0 s → (r.1 = true → tk act k0 s0 s r.2.2 ∧ k0 + r.2.2.length ≤ r.2.1) → (∀ h2 i2 s2, rZ h i o t pd bw h2 i2 s2 (pLoop F g 124 2 n r).2.1 (!(pLoop F g 124 2 n r).1) → tw act s0 s2 → ((pLoop F g 124 2 n r).1 = true → tk act k0 s0 s2 (pLoop F g 124 2 n r).2.2) → Q none h2) → mT0 (D + 2) z_X10_some 4 [some (.ref 76)] [] h Q := by
  intro n
  induction n with
  | zero =>
    intro h s i r s0 k0 Q hn hc hst h5 h9 hg htw htk K
    have := hc.2.2.2.2.2.2.2
    omega
  | succ n ih =>
    intro h s i r s0 k0 Q hn hc hst h5 h9 hg htw htk K
    obtain ⟨hM, h77, hN, ix1, h7, h8, he, hpe⟩ := id hc
    cases hw : r.1 with
    | false =>
      rw [hw] at h8
      rw [pL_no (fun z => absurd (hw.symm.trans z.1) (by decide))] at K
      refine mT_s rfl rfl ?_
      (apply mT_getf; (case hc => rfl); (case ha => first | rfl | assumption); (case hf => first | rfl | assumption))
      refine mT_if_ne rfl (fun _ => ?_) (fun c => absurd (h8.symm.trans c) (by decide))
      refine mT_ret rfl rfl ?_
      exact K h i s hc.z htw (fun z => absurd (hw.symm.trans z) (by decide))
    | true =>
      rw [hw] at h8 hc
      refine mT_s rfl rfl ?_
      (apply mT_getf; (case hc => rfl); (case ha => first | rfl | assumption); (case hf => first | rfl | assumption))
      refine mT_if_ne rfl (fun c => absurd h8 c) (fun _ => ?_)
      refine mT_s rfl rfl ?_
      (apply mT_inv; (case hc => rfl); (case hd => rfl); (case hb => first | rfl | assumption); (case hg => rfl))
      refine e_here _ _ s _ o t pd bw _ e _ _ hc ?_
      rw [hg]
      refine mT_s rfl rfl ?_
      refine mT_icmp_ne rfl (fun c17 => ?_) (fun c17 => ?_)
      · refine mT_ret rfl rfl ?_
        rw [pL_no (fun z => c17 z.2)] at K
        exact K h i s (by rw [hw]; exact hc.z) htw (fun z => (htk z).1)
      · iterate 2 refine mT_s rfl rfl ?_
        (apply mT_getf; (case hc => rfl); (case ha => first | rfl | assumption); (case hf => first | rfl | assumption))
        iterate 2 refine mT_s rfl rfl ?_
        (apply mT_putfN; (case hc => rfl); (case ha => first | rfl | assumption); (case hN => assumption); (case hg => rfl))
        refine mT_s rfl rfl ?_
        (apply mT_inv; (case hc => rfl); (case hd => rfl); (case hb => first | rfl | assumption); (case hg => rfl))
        have hz : rZ h i o t pd bw (m_up h 76 (.inr (10, mObj (upd i 6 (i 6 + 1)) o t pd bw))) (upd i 6 (i 6 + 1)) s (r.2.1 + 1) false := ⟨fun a x y => m_up_n x, rfl, h77, by rw [upd_s, ix1, nI_1], by rw [upd_n _ _ (by decide)]; exact h8, fun j x y => upd_n _ _ x⟩
        have hpe2 : r.2.1 + 1 ≤ e := (show gOk g e from hg ▸ sg_ok s e).lt c17 (by decide)
        rw [pL_yes ⟨hw, c17⟩] at K
        have hk0 := (htk hw).2
        refine hF (m_up h 76 _) s (upd i 6 (i 6 + 1)) (r.2.1 + 1) (k0 + r.2.2.length) _ (hz.c hc hpe2) (hst.z hz) (hz.f5.trans h5) (hz.f9.trans h9) (htk hw).1.2.2.1 (by omega) hg (fun h3 i3 s3 z3 tw3 tk3 => ?_)
        have hq := hgF (r.2.1 + 1)
        have hc3 := z3.c (hz.c hc hpe2) (hq.2.1 hpe2)
        have hst3 := (hst.z hz).z z3
        obtain ⟨hM3, h773, hN3, -, -, h83, -, -⟩ := id hc3
        have hq3 := hq.2.2
        have hq1 : r.2.1 + 1 ≤ (F (r.2.1 + 1)).2.1 := hq.1
        rcases hok3 : (F (r.2.1 + 1)).1 with _ | _
        · rw [hok3] at hc3 z3
          iterate 2 refine mT_s rfl rfl ?_
          (apply mT_inv; (case hc => rfl); (case hd => rfl); (case hb => first | rfl | assumption); (case hg => rfl))
          first
            | refine e_emits_w _ _ _ _ _ _ _ _ _ _ _ _ hc3 ?_
            | refine e_emits _ h3 s3 i3 o t pd bw _ e _ _ hc3 act (k0 + (r.2.2 ++ (F (r.2.1 + 1)).2.2).length) ha ((z3.f5.trans hz.f5).trans h5) htk3.2.2.1 (by omega) ?_
          refine mT_s rfl rfl ?_
          refine ih h3 s3 i3 ((F (r.2.1 + 1)).1, (F (r.2.1 + 1)).2.1, r.2.2 ++ (F (r.2.1 + 1)).2.2 ++ [.inr (.inl 2)]) s0 k0 Q (by show e + 1 ≤ (F (r.2.1 + 1)).2.1 + n; omega) (by show rC _ _ _ _ _ _ _ e (F (r.2.1 + 1)).2.1 (!(F (r.2.1 + 1)).1); rw [hok3]; exact hc3) hst3 ((z3.f5.trans hz.f5).trans h5) ((z3.f9.trans hz.f9).trans h9) ((tw3.sgeq he).trans hg) (htw.tr tw3) (fun z => absurd (hok3.symm.trans z) (by decide)) (fun h4 i4 s4 z4 => K h4 i4 s4 ((hz.tr z3).tr z4))
        · rw [hok3] at hc3 z3 h83
          have hq3 := hq3 hok3
          have htk3 := (htk hw).1.tr (tk3 hok3)
          have hlen : (r.2.2 ++ (F (r.2.1 + 1)).2.2).length = r.2.2.length + (F (r.2.1 + 1)).2.2.length := List.length_append
          have hke : (F (r.2.1 + 1)).2.1 ≤ 100 := Nat.le_trans (hq.2.1 hpe2) he
          iterate 2 refine mT_s rfl rfl ?_
          (apply mT_inv; (case hc => rfl); (case hd => rfl); (case hb => first | rfl | assumption); (case hg => rfl))
          first
            | refine e_emits_w _ _ _ _ _ _ _ _ _ _ _ _ hc3 ?_
            | refine e_emits _ h3 s3 i3 o t pd bw _ e _ _ hc3 act (k0 + (r.2.2 ++ (F (r.2.1 + 1)).2.2).length) ha ((z3.f5.trans hz.f5).trans h5) htk3.2.2.1 (by omega) ?_
          refine mT_s rfl rfl ?_
          have z5 : rZ h3 i3 o t pd bw (m_up h3 77 (.inl (0, 889, .inl (upd (upd s3 (189 + 140 * act + (k0 + (r.2.2 ++ (F (r.2.1 + 1)).2.2).length)) (-3)) (184 + act) (nI (k0 + (r.2.2 ++ (F (r.2.1 + 1)).2.2).length + 1)))))) i3 (upd (upd s3 (189 + 140 * act + (k0 + (r.2.2 ++ (F (r.2.1 + 1)).2.2).length)) (-3)) (184 + act) (nI (k0 + (r.2.2 ++ (F (r.2.1 + 1)).2.2).length + 1))) (F (r.2.1 + 1)).2.1 false := ⟨fun a x y => m_up_n y, hM3, rfl, hc3.2.2.2.1, h83, fun j x y => rfl⟩
          have t5 := tk.one (s := s3) (k0 := k0 + (r.2.2 ++ (F (r.2.1 + 1)).2.2).length) ha (by omega) (v := (-3)) (x := .inr (.inl 2)) rfl
          refine ih _ _ i3 _ s0 k0 Q (by show e + 1 ≤ (F (r.2.1 + 1)).2.1 + n; omega) (by show rC _ _ _ _ _ _ _ e (F (r.2.1 + 1)).2.1 (!(F (r.2.1 + 1)).1); rw [hok3]; exact z5.c hc3 hc3.2.2.2.2.2.2.2) (hst3.z z5) ((z3.f5.trans hz.f5).trans h5) ((z3.f9.trans hz.f9).trans h9) ((t5.1.sgeq he).trans ((tw3.sgeq he).trans hg)) ((htw.tr tw3).tr t5.1) (fun _ => ⟨htk3.tr t5, ?_⟩) (fun h4 i4 s4 z4 => K h4 i4 s4 (((hz.tr z3).tr z5).tr z4))
          show k0 + (r.2.2 ++ (F (r.2.1 + 1)).2.2 ++ [Sum.inr (Sum.inl 2)]).length ≤ (F (r.2.1 + 1)).2.1
          rw [List.length_append, List.length_singleton]
          omega
theorem e_some (D act e opn : Nat) (ha : act < 5) (g : Nat → Int32) (L : Nat) (xs : Nat → Int32) (o t : Nat) (pd bw : Int64) (F : Nat → pR) (hgF : ∀ p, pOk e p (F p))  (hF : fSp z_X10_every (D + 1) act e opn g L xs o t pd bw F) : fSp z_X10_some (D + 2) act e opn g L xs o t pd bw (fun p => pLoop F g 124 2 101 (F p)) := by
  intro h s i p k0 Q hc hst h5 h9 hk hk0 hg K
  obtain ⟨hM, h77, hN, ix1, h7, h8, he, hpe⟩ := id hc
  refine mT_s rfl rfl ?_
  (apply mT_inv; (case hc => rfl); (case hd => rfl); (case hb => first | rfl | assumption); (case hg => rfl))
  have hq := hgF p
  refine hF h s i p k0 _ hc hst h5 h9 hk hk0 hg (fun h3 i3 s3 z3 tw3 tk3 => ?_)
  have hc3 := z3.c hc (hq.2.1 hpe)
  exact e_some_L D act e opn ha g L xs o t pd bw F hgF hF 101 h3 s3 i3 (F p) s k0 Q (by omega) hc3 (hst.z z3) (z3.f5.trans h5) (z3.f9.trans h9) ((tw3.sgeq he).trans hg) tw3 (fun z => ⟨tk3 z, by have := hq.2.2 z; omega⟩) (fun h4 i4 s4 z4 => K h4 i4 s4 (z3.tr z4))