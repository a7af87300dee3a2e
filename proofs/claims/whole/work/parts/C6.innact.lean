/-! By program (wip/whole/book*.py) and hand. -/
section
variable {L : Nat} {xs : Nat → Int32} {B U : Nat} {it : Int32} {s s2 s' tr : Nat → Int32} {c9 : Nat} {l : List Tok} {le mo nb : Nat} {bA bB : Nat → Nat} {bW : Nat → Bool} {h h2 : mH}
theorem MX.i {i3 : Nat → Int32} {o t : Nat} {pd bw : Int64} (f : ∀ a, a ≠ 76 → a ≠ 77 → h2 a = h a) (x78 : ∃ f, h 78 = .inl (0, 889, .inl f) ∧ (¬ it = 0 → ∀ j, j < 889 → f j = s2 j)) (x79 : ∃ f, h 79 = .inl (0, 6, .inl f)) (x80 : ∃ f, h 80 = .inl (0, 5, .inl f)) (x81 : ∃ g, h 81 = .inl (2, 64, .inl g)) (hot : hOT o t) (xA : ∃ A : Nat → Int64, h o = .inl (1, 5733, .inr (.inl A))) (xC : ∃ C : Nat → Int64, h t = .inl (1, 5733, .inr (.inl C))) (x84 : ∃ f, h 84 = .inl (0, 4, .inl f)) (x85 : ∃ f, h 85 = .inl (0, 4, .inl f)) (h86 : h 86 = .inl (0, 20, .inl tr)) (e76 : h2 76 = .inr (10, mObj i3 o t pd bw)) (e77 : h2 77 = .inl (0, 889, .inl s')) (i4 : i3 4 = 0 ↔ it = 0) (i20 : i3 20 = nI c9) : MX h2 s' s2 it tr c9 := by
  have ho : (o ≠ 76 ∧ o ≠ 77) ∧ t ≠ 76 ∧ t ≠ 77 := by rcases hot with ⟨rfl, rfl⟩ | ⟨rfl, rfl⟩ <;> decide
  obtain ⟨f78, x1, x2⟩ := x78
  exact ⟨i3, o, t, pd, bw, e76, e77, ⟨f78, (f 78 (by decide) (by decide)).trans x1, x2⟩, i4, ex_c x79 (f 79 (by decide) (by decide)), ex_c x80 (f 80 (by decide) (by decide)), ex_c x81 (f 81 (by decide) (by decide)), hot, ex_c xA (f o ho.1.1 ho.1.2), ex_c xC (f t ho.2.1 ho.2.2), ex_c x84 (f 84 (by decide) (by decide)), ex_c x85 (f 85 (by decide) (by decide)), (f 86 (by decide) (by decide)).trans h86, i20⟩
theorem MX.hh {i3 : Nat → Int32} {o t : Nat} {pd bw : Int64} (p : (Nat → Int32) × Nat) (h77 : h 77 = .inl (0, 889, .inl s)) (x78 : ∃ f, h 78 = .inl (0, 889, .inl f) ∧ (¬ it = 0 → ∀ j, j < 889 → f j = s2 j)) (x79 : ∃ f, h 79 = .inl (0, 6, .inl f)) (x80 : ∃ f, h 80 = .inl (0, 5, .inl f)) (x81 : ∃ g, h 81 = .inl (2, 64, .inl g)) (hot : hOT o t) (xA : ∃ A : Nat → Int64, h o = .inl (1, 5733, .inr (.inl A))) (xC : ∃ C : Nat → Int64, h t = .inl (1, 5733, .inr (.inl C))) (x84 : ∃ f, h 84 = .inl (0, 4, .inl f)) (x85 : ∃ f, h 85 = .inl (0, 4, .inl f)) (i4 : i3 4 = 0 ↔ it = 0) : MX (tH h i3 o t pd bw p) s s2 it p.1 p.2 := by
  have ho : (o ≠ 76 ∧ o ≠ 86) ∧ t ≠ 76 ∧ t ≠ 86 := by rcases hot with ⟨rfl, rfl⟩ | ⟨rfl, rfl⟩ <;> decide
  obtain ⟨f78, x1, x2⟩ := x78
  have f : ∀ a, a ≠ 76 → a ≠ 86 → tH h i3 o t pd bw p a = h a := fun a a1 a2 => (m_up_n a1).trans (m_up_n a2)
  exact ⟨upd i3 20 (nI p.2), o, t, pd, bw, m_up_self _ _ _, (f 77 (by decide) (by decide)).trans h77, ⟨f78, (f 78 (by decide) (by decide)).trans x1, x2⟩, by rw [upd_n _ _ (by decide)]; exact i4, ex_c x79 (f 79 (by decide) (by decide)), ex_c x80 (f 80 (by decide) (by decide)), ex_c x81 (f 81 (by decide) (by decide)), hot, ex_c xA (f o ho.1.1 ho.1.2), ex_c xC (f t ho.2.1 ho.2.2), ex_c x84 (f 84 (by decide) (by decide)), ex_c x85 (f 85 (by decide) (by decide)), (m_up_n (by decide)).trans (m_up_self _ _ _), upd_s _ _ _⟩
theorem WP.act (W : WP L xs B U it s s2 tr c9 l le mo nb bA bB bW h) (k9 n9 v9 : Int32) (p : (Nat → Int32) × Nat) (hp : p.2 < 60) : WM L xs B U s l le mo nb bA bB bW it s2 p.1 p.2 s it s2 tr c9 (aH h k9 n9 v9 p) := by
  obtain ⟨w1, w2, ⟨i, iv, w3⟩, w4, w5, w6, w7, w8⟩ := W
  have f : ∀ a, a ≠ 74 → a ≠ 75 → aH h k9 n9 v9 p a = h a := fun a a1 a2 => (m_up_n a1).trans (m_up_n a2)
  obtain ⟨m1, m2, m3⟩ := w6.c (h2 := aH h k9 n9 v9 p) (fun a ha => f a (by omega) (by omega))
  have hN : 87 ≤ m_nx (aH h k9 n9 v9 p) := by rw [m2]; exact w6.2.1
  obtain ⟨y1, y2, y3, y4, y5, y6, ⟨v1, v2, v3, y7⟩, y8, ⟨u1, u2, u3, y9⟩, ⟨wf, y10⟩, -, -⟩ := w4
  exact ⟨hp, ⟨i, iv, w3.t w6.2.2 (fun a a1 a2 => f a (by omega) (by omega)) hN (fun a a1 a2 => f a (by omega) (by omega))⟩, ⟨(f 20 (by decide) (by decide)).trans y1, y2.c (fun a a1 a2 => f a (by omega) (by omega)), fun z => (y3 z).t w6.2.2 (fun a a1 a2 => f a (by omega) (by omega)) hN (fun a a1 a2 => f a (by omega) (by omega)), y4.c (fun a a1 a2 => f a (by omega) (by omega)), y5.c (fun a a1 a2 => f a (by omega) (by omega)), y6.c (fun a a1 a2 => f a (by omega) (by omega)), ⟨v1, v2, v3, (f 62 (by decide) (by decide)).trans y7⟩, y8.c (fun a a1 a2 => f a (by omega) (by omega)), ⟨u1, u2, u3, (f 72 (by decide) (by decide)).trans y9⟩, ⟨wf, (f 73 (by decide) (by decide)).trans y10⟩, ⟨k9, n9, v9, m_up_self _ _ _⟩, (m_up_n (by decide)).trans (m_up_self _ _ _)⟩, w5.fx (fun a a1 a2 => f a (by omega) (by omega)), m1, by rw [m2]; exact w7, by rw [m3]; exact w8⟩
theorem b_act_l (kd a : Int32) : (b_act kd a).length ≤ 8 := by
  have h1 := b_moves_l kd
  have h2 := b_bets_l kd
  unfold b_act
  split
  · omega
  · split
    · omega
    · unfold b_tells
      split
      · simp only [List.length_cons]; omega
      · split
        · simp only [List.length_cons, List.length_append]; omega
        · simp only [List.length_cons]; omega
end
theorem c_act (L : Nat) (xs : Nat → Int32) (B U : Nat) (it : Int32) (s s2 tr : Nat → Int32) (c9 : Nat) (l : List Tok) (le mo nb : Nat) (bA bB : Nat → Nat) (bW : Nat → Bool) (h : mH) (W : WP L xs B U it s s2 tr c9 l le mo nb bA bB bW h) (p a x : Int32) : ∃ (ans : Int32) (M : mH → Prop), (∀ h2, M h2 → CM L xs h2 ∧ ∃ fs, h2 76 = .inr (10, fs)) ∧ (∀ (d : Nat) (Q : Option Value → mH → Prop), (∀ h2, M h2 → Q (some (.int ans)) h2) → mT0 (d + 30) z_X9_act 0 (m_init z_X9_act [.ref 20, .int p, .int a, .int x]) [] h Q) ∧ ∀ h2, M h2 → ∀ (d : Nat) (Q : Option Value → mH → Prop), (∀ h3, WW L xs (B + 2) (U + 103) h3 → Q (some (.int ans)) h3) → mT0 (d + 30) z_X10_act 0 (m_init z_X10_act [.ref 76, .int p, .int a, .int x]) [] h2 Q := by
  obtain ⟨c60, hS, ⟨i, iv, X⟩, hC, hM, hCM, hB, hU⟩ := id W
  obtain ⟨hI, hG, hBk, ⟨nt, ta, hT⟩, ⟨n6, mm, g, hn6, hn5, hmm, hm1, hs, hg⟩, hsK, hkd, h11⟩ := id hS
  have hX := hC.1
  have hle := hG.2.2.1.2
  have hmo := hG.2.2.2.2
  have hl140 := hG.1.2.1
  have hbk := hS.b
  have hnb8 := hBk.1
  have hnb := hBk.2.1
  have hPu := hC.c62
  have h72 := hC.c72
  have h73 := hC.c73
  have hSh := hC.2.2.2.1
  have hDu := hC.2.2.2.2.2.1
  have hOr := hC.2.2.2.2.2.2.2.1
  obtain ⟨k0, n0, v0, h74⟩ := hC.2.2.2.2.2.2.2.2.2.2.1
  have h75 := hC.2.2.2.2.2.2.2.2.2.2.2
  by_cases va : okP s p ∧ 0 ≤ a ∧ a ≤ 2
  · obtain ⟨j, hj, rfl⟩ := okP_no hn5 hn6 va.1
    refine ⟨(v_act (s (12 + j)) (nI j) (s (17 + j)) a x), WM L xs B U s l le mo nb bA bB bW it s2 (t_puts (tr, 0) (b_act (s (12 + j)) a)).1 (t_puts (tr, 0) (b_act (s (12 + j)) a)).2 s it s2 tr c9, fun h2 W2 => ⟨W2.2.2.2.2.1, W2.2.2.2.1.r⟩, fun d Q K => ?_, fun h2 W2 d Q K => ?_⟩
    · skip
      refine mT0_d (e := d + 20 + 10) (by omega) ?_
      refine x_act (d + 20) h Q it hX i iv s hI l le mo nb _ _ X tr _ k0 n0 v0 h74 h75 ((hCM.1 3 (by decide) (by decide)).trans rfl) ((hCM.1 4 (by decide) (by decide)).trans rfl) ((hCM.1 5 (by decide) (by decide)).trans rfl) ((hCM.1 6 (by decide) (by decide)).trans rfl) (fun j _ hj => by obtain ⟨m, m1, m2⟩ := hkd j hj; exact ⟨m, by omega, m2⟩) (nI j) a x (fun z => absurd va z) (fun j2 hj2 ix1 _ _ _ k9 n9 v9 => ?_)
      have ej : j2 = j := (nI_eq (by omega) (by omega)).mp ix1.symm
      subst ej
      exact K _ (W.act k9 n9 v9 _ (by rw [t_puts_2]; have := b_act_l (s (12 + j2)) a; omega))
    · skip
      obtain ⟨-, -, hC2, hM2, hCM2, -, -⟩ := id W2
      obtain ⟨ir, o, t, pd, bw, h76, h77, h78, hir4, h79, h80, h81, hot, hA, hCC, h84, h85, h86, hir20⟩ := hM2
      have hN := hCM2.2.1
      refine mT0_d (e := d + 21 + 9) (by omega) ?_
      refine e_act (d + 21) h2 s ir o t pd bw Q h76 h77 hN hI (nI j) a x tr h86 (fun z => absurd va z) (fun j2 hj2 ix1 _ _ _ => ?_)
      have ej : j2 = j := (nI_eq (by omega) (by omega)).mp ix1.symm
      subst ej
      exact K _ (WM.e W2 hS (fun a z => (m_up_n (by omega)).trans (m_up_n (by omega))) (MX.hh (i3 := i_act ir s j2) (pd := pd) (bw := bw) _ h77 h78 h79 h80 h81 hot hA hCC h84 h85 (by unfold i_act; rw [upd_n _ _ (by decide), upd_n _ _ (by decide), upd_n _ _ (by decide)]; exact hir4)) (by omega) (by omega))
  · refine ⟨0, WM L xs B U s l le mo nb bA bB bW it s2 tr 0 s it s2 tr c9, fun h2 W2 => ⟨W2.2.2.2.2.1, W2.2.2.2.1.r⟩, fun d Q K => ?_, fun h2 W2 d Q K => ?_⟩
    · skip
      refine mT0_d (e := d + 20 + 10) (by omega) ?_
      refine x_act (d + 20) h Q it hX i iv s hI l le mo nb _ _ X tr _ k0 n0 v0 h74 h75 ((hCM.1 3 (by decide) (by decide)).trans rfl) ((hCM.1 4 (by decide) (by decide)).trans rfl) ((hCM.1 5 (by decide) (by decide)).trans rfl) ((hCM.1 6 (by decide) (by decide)).trans rfl) (fun j _ hj => by obtain ⟨m, m1, m2⟩ := hkd j hj; exact ⟨m, by omega, m2⟩) p a x (fun _ k9 n9 v9 => K _ (W.act k9 n9 v9 (tr, 0) (show 0 < 60 by decide))) (fun j hj ix1 v1 v2 v3 => absurd ⟨v1, v2, v3⟩ va)
    · skip
      obtain ⟨-, -, hC2, hM2, hCM2, -, -⟩ := id W2
      obtain ⟨ir, o, t, pd, bw, h76, h77, h78, hir4, h79, h80, h81, hot, hA, hCC, h84, h85, h86, hir20⟩ := hM2
      have hN := hCM2.2.1
      refine mT0_d (e := d + 21 + 9) (by omega) ?_
      refine e_act (d + 21) h2 s ir o t pd bw Q h76 h77 hN hI p a x tr h86 (fun _ => ?_) (fun j hj ix1 v1 v2 v3 => absurd ⟨v1, v2, v3⟩ va)
      have e : tH h2 ir o t pd bw (tr, 0) = m_up h2 76 (.inr (10, mObj (upd ir 20 0) o t pd bw)) := by
        unfold tH
        rw [m_up_id h86]
        rfl
      have K9 := K (tH h2 ir o t pd bw (tr, 0)) (WM.e W2 hS (fun a z => (m_up_n (by omega)).trans (m_up_n (by omega))) (MX.hh (i3 := ir) (pd := pd) (bw := bw) (tr, 0) h77 h78 h79 h80 h81 hot hA hCC h84 h85 hir4) (by omega) (by omega))
      rw [e] at K9
      exact K9
theorem c_inn (L : Nat) (xs : Nat → Int32) (B U : Nat) (it : Int32) (s s2 tr : Nat → Int32) (c9 : Nat) (l : List Tok) (le mo nb : Nat) (bA bB : Nat → Nat) (bW : Nat → Bool) (h : mH) (W : WP L xs B U it s s2 tr c9 l le mo nb bA bB bW h) : ∃ (ans : Int32) (M : mH → Prop), (∀ h2, M h2 → CM L xs h2 ∧ ∃ fs, h2 76 = .inr (10, fs)) ∧ (∀ (d : Nat) (Q : Option Value → mH → Prop), (∀ h2, M h2 → Q (some (.int ans)) h2) → mT0 (d + 30) z_X9_inn 0 (m_init z_X9_inn [.ref 20]) [] h Q) ∧ ∀ h2, M h2 → ∀ (d : Nat) (Q : Option Value → mH → Prop), (∀ h3, WW L xs (B + 2) (U + 103) h3 → Q (some (.int ans)) h3) → mT0 (d + 30) z_X10_inn 0 (m_init z_X10_inn [.ref 76]) [] h2 Q := by
  obtain ⟨c60, hS, ⟨i, iv, X⟩, hC, hM, hCM, hB, hU⟩ := id W
  obtain ⟨hI, hG, hBk, ⟨nt, ta, hT⟩, ⟨n6, mm, g, hn6, hn5, hmm, hm1, hs, hg⟩, hsK, hkd, h11⟩ := id hS
  have hX := hC.1
  have hle := hG.2.2.1.2
  have hmo := hG.2.2.2.2
  have hl140 := hG.1.2.1
  have hbk := hS.b
  have hnb8 := hBk.1
  have hnb := hBk.2.1
  have hPu := hC.c62
  have h72 := hC.c72
  have h73 := hC.c73
  have hSh := hC.2.2.2.1
  have hDu := hC.2.2.2.2.2.1
  have hOr := hC.2.2.2.2.2.2.2.1
  obtain ⟨act, hac, h7⟩ := hI.2.1
  obtain ⟨e, he, h10⟩ := hI.2.2.2.2.1
  have hRd := hC.2.2.2.2.1
  obtain ⟨v1, v2, v3, e62⟩ := hPu
  obtain ⟨u1, u2, u3, e72⟩ := h72
  obtain ⟨wf, e73⟩ := h73
  have hNx := hCM.2.1
  by_cases c5 : act = 5
  · refine ⟨(-4), WP L xs B U it s s2 tr c9 l le mo nb bA bB bW, fun h2 W2 => ⟨W2.2.2.2.2.2.1, W2.2.2.2.2.1.r⟩, fun d Q K => ?_, fun h2 W2 d Q K => ?_⟩
    · skip
      refine mT0_d (e := d + 6 + 24) (by omega) ?_
      refine x_innP (d + 6) h Q it hX i iv s hI l le mo nb _ _ X hRd act e hac h7 h10 he (fun _ => K h W) (fun z => absurd c5 (by omega)) (fun z => absurd c5 (by omega))
    · skip
      obtain ⟨-, -, -, hC2, hM2, hCM2, -, -⟩ := id W2
      obtain ⟨ir, o, t, pd, bw, h76, h77, h78, hir4, h79, h80, h81, hot, hA, hCC, h84, h85, h86, hir20⟩ := hM2
      have hN := hCM2.2.1
      refine mT0_d (e := d + 3 + 27) (by omega) ?_
      refine e_inn (d + 3) h2 s ir o t pd bw Q h76 h77 hN L xs hCM2.1 act e hac h7 h10 he (fun _ => K h2 (show WW L xs (B + 2) (U + 103) h2 from ⟨_, _, _, _, _, _, _, _, _, _, _, _, W2.1, W2.2.1, W2.2.2.1, W2.2.2.2.1, W2.2.2.2.2.1, W2.2.2.2.2.2.1, by have := W2.2.2.2.2.2.2.1; omega, by have := W2.2.2.2.2.2.2.2; omega⟩)) (fun z => absurd c5 (by omega)) (fun z => absurd c5 (by omega))
  · by_cases hok : (pInn (sg s e)).1 = true ∧ (pInn (sg s e)).2.1 = e
    · refine ⟨(nI act), fun h2 => (∀ s9 : Nat → Int32, s9 7 = nI (act + 1) → s9 10 = 0 → (∀ j, j < 174 → j ≠ 7 → j ≠ 10 → j ≠ 11 → s9 j = s j) → w_toks 0 (pInn (sg s e)).2.2.1 → CR 21 h2 s9 (pInn (sg s e)).2.2.1 (pInn (sg s e)).2.2.2.1 (pInn (sg s e)).2.2.2.2 nb bA bB bW) ∧ CXR h2 it s2 tr c9 ∧ MX h2 s s2 it tr c9 ∧ CM L xs h2 ∧ m_nx h2 ≤ B + 2 ∧ m_us h2 ≤ U + 103, fun h2 W2 => ⟨W2.2.2.2.1, W2.2.2.1.r⟩, fun d Q K => ?_, fun h2 W2 d Q K => ?_⟩
      · skip
        refine mT0_d (e := d + 6 + 24) (by omega) ?_
        refine x_innP (d + 6) h Q it hX i iv s hI l le mo nb _ _ X hRd act e hac h7 h10 he (fun z => absurd z c5) (fun hlt _ h3 i3 N f3 eN X3 R3 nx3 us3 => K h3 ?_) (fun _ z => absurd hok z)
        have f4 : ∀ a, (2 ≤ a ∧ a ≤ 86) ∧ a ≠ 21 ∧ a ≠ 51 ∧ a ≠ 52 → h3 a = h a := fun a z => f3 a (by omega) (by omega) (by omega) (by omega) (by omega) (by omega) (by omega)
        exact ⟨fun s9 a1 a2 a3 a4 => ⟨_, _, X3 s9 a1 a2 a3 a4⟩, (hC.t hCM.2.2 (show 87 ≤ m_nx h3 by omega) (fun a a1 a2 => f3 a (by omega) (by omega) (by omega) (by omega) (by omega) (by omega) (by omega)) (f4 20 (by decide)) (fun a a1 a2 => f4 a (by omega)) (hSh.c (fun a a1 a2 => f4 a (by omega))) R3 (hDu.c (fun a a1 a2 => f4 a (by omega))) ⟨v1, v2, v3, (f4 62 (by decide)).trans e62⟩ (hOr.c (fun a a1 a2 => f4 a (by omega))) ⟨u1, u2, u3, (f4 72 (by decide)).trans e72⟩ ⟨wf, (f4 73 (by decide)).trans e73⟩ (f4 74 (by decide)) (f4 75 (by decide))), hM.fx (fun a a1 a2 => f4 a (by omega)), ⟨fun a a1 a2 => (f4 a (by omega)).trans (hCM.1 a a1 a2), by omega, fun a ha => (f3 a (by omega) (by omega) (by omega) (by omega) (by omega) (by omega) (by omega)).trans (hCM.2.2 a (by omega))⟩, by omega, by omega⟩
      · skip
        obtain ⟨WX, hC2, hM2, hCM2, hB2, hU2⟩ := id W2
        obtain ⟨ir, o, t, pd, bw, h76, h77, h78, hir4, h79, h80, h81, hot, hA, hCC, h84, h85, h86, hir20⟩ := id hM2
        have hN := hCM2.2.1
        refine mT0_d (e := d + 3 + 27) (by omega) ?_
        refine e_inn (d + 3) h2 s ir o t pd bw Q h76 h77 hN L xs hCM2.1 act e hac h7 h10 he (fun z => absurd z c5) (fun hlt _ _ h3 i3 s3 f3 e76 i5 e77 e7 e11 e10 ej eL e174 e179 le3 mo3 => K h3 ?_) (fun _ z => absurd hok z)
        have W9 : WM L xs (B + 2) (U + 103) s3 (pInn (sg s e)).2.2.1 (pInn (sg s e)).2.2.2.1 (pInn (sg s e)).2.2.2.2 nb bA bB bW it s2 tr c9 s it s2 tr c9 h2 := ⟨c60, WX s3 e7 e10 ej eL.1, hC2, hM2, hCM2, hB2, hU2⟩
        exact W9.e (hS.inn hlt e7 e11 e10 ej eL e174 e179 le3 mo3) (fun a z => f3 a (by omega) (by omega)) (MX.i f3 h78 h79 h80 h81 hot hA hCC h84 h85 h86 e76 e77 (by rw [i5 4 (by decide) (by decide) (by decide) (by decide) (by decide)]; exact hir4) ((i5 20 (by decide) (by decide) (by decide) (by decide) (by decide)).trans hir20)) (Nat.le_refl _) (Nat.le_refl _)
    · refine ⟨(-10 - nI (pInn (sg s e)).2.1), WM L xs B U (upd s 10 0) l le mo nb bA bB bW it s2 tr c9 s it s2 tr c9, fun h2 W2 => ⟨W2.2.2.2.2.1, W2.2.2.2.1.r⟩, fun d Q K => ?_, fun h2 W2 d Q K => ?_⟩
      · skip
        refine mT0_d (e := d + 6 + 24) (by omega) ?_
        refine x_innP (d + 6) h Q it hX i iv s hI l le mo nb _ _ X hRd act e hac h7 h10 he (fun z => absurd z c5) (fun _ z => absurd z hok) (fun hlt _ h3 i3 f3 X3 R3 => K h3 ?_)
        have f4 : ∀ a, a ≠ 21 ∧ a ≠ 51 ∧ a ≠ 52 → h3 a = h a := fun a z => f3 a z.1 z.2.1 z.2.2
        obtain ⟨m1, m2, m3⟩ := hCM.c (h2 := h3) (fun a ha => f4 a (by omega))
        exact ⟨c60, ⟨_, _, X3⟩, (hC.t hCM.2.2 (show 87 ≤ m_nx h3 by rw [m2]; exact hNx) (fun a a1 a2 => f4 a (by omega)) (f4 20 (by decide)) (fun a a1 a2 => f4 a (by omega)) (hSh.c (fun a a1 a2 => f4 a (by omega))) R3 (hDu.c (fun a a1 a2 => f4 a (by omega))) ⟨v1, v2, v3, (f4 62 (by decide)).trans e62⟩ (hOr.c (fun a a1 a2 => f4 a (by omega))) ⟨u1, u2, u3, (f4 72 (by decide)).trans e72⟩ ⟨wf, (f4 73 (by decide)).trans e73⟩ (f4 74 (by decide)) (f4 75 (by decide))), hM.fx (fun a a1 a2 => f4 a (by omega)), m1, by rw [m2]; exact hB, by rw [m3]; exact hU⟩
      · skip
        obtain ⟨-, -, hC2, hM2, hCM2, -, -⟩ := id W2
        obtain ⟨ir, o, t, pd, bw, h76, h77, h78, hir4, h79, h80, h81, hot, hA, hCC, h84, h85, h86, hir20⟩ := hM2
        have hN := hCM2.2.1
        refine mT0_d (e := d + 3 + 27) (by omega) ?_
        refine e_inn (d + 3) h2 s ir o t pd bw Q h76 h77 hN L xs hCM2.1 act e hac h7 h10 he (fun z => absurd z c5) (fun _ z1 z2 => absurd ⟨z1, z2⟩ hok) (fun hlt _ _ h3 i3 s3 f3 e76 i5 e77 e10 ex => K h3 ?_)
        have S1 : SV (upd s 10 0) l le mo nb bA bB bW := hS.feed (fun j j1 _ => upd_n _ _ j1) ⟨0, by omega, upd_s _ _ _⟩
        have j174 : ∀ j, j < 174 → s3 j = upd s 10 0 j := fun j hj => ex j (by omega) (by omega) (by omega) (by omega)
        exact WM.e (WM.s W2 (fun j hj _ => j174 j hj)) (S1.x ((upd_n _ _ (by decide)).trans h7) hlt ex) (fun a z => f3 a (by omega) (by omega)) (MX.i f3 h78 h79 h80 h81 hot hA hCC h84 h85 h86 e76 e77 (by rw [i5 4 (by decide) (by decide) (by decide) (by decide) (by decide)]; exact hir4) ((i5 20 (by decide) (by decide) (by decide) (by decide) (by decide)).trans hir20)) (by omega) (by omega)