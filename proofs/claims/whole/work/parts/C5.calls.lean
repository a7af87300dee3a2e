/-! By program (wip/whole/book*.py) and hand. -/
/-- after the class's call, before the reference's -/
def WM (L : Nat) (xs : Nat → Int32) (B U : Nat) (s' : Nat → Int32) (l : List Tok) (le mo nb : Nat) (bA bB : Nat → Nat) (bW : Nat → Bool) (it' : Int32) (s2' tr' : Nat → Int32) (c9' : Nat) (s : Nat → Int32) (it : Int32) (s2 tr : Nat → Int32) (c9 : Nat) (h : mH) : Prop := c9' < 60 ∧ CR 21 h s' l le mo nb bA bB bW ∧ CXR h it' s2' tr' c9' ∧ MX h s s2 it tr c9 ∧ CM L xs h ∧ m_nx h ≤ B ∧ m_us h ≤ U
section
variable {L : Nat} {xs : Nat → Int32} {B U B2 U2 : Nat} {it it' : Int32} {s s2 s' s2' tr tr' : Nat → Int32} {c9 c9' : Nat} {l l' : List Tok} {le mo nb le' mo' nb' : Nat} {bA bB bA' bB' : Nat → Nat} {bW bW' : Nat → Bool} {h h2 : mH}
theorem WP.m (W : WP L xs B U it s s2 tr c9 l le mo nb bA bB bW h) (f : ∀ a, a ≤ 20 ∨ 31 ≤ a → h2 a = h a) (X : CR 21 h2 s' l' le' mo' nb' bA' bB' bW') : WM L xs B U s' l' le' mo' nb' bA' bB' bW' it s2 tr c9 s it s2 tr c9 h2 := by
  obtain ⟨w1, w2, w3, w4, w5, w6, w7, w8⟩ := W
  obtain ⟨m1, m2, m3⟩ := w6.c (h2 := h2) (fun a ha => f a (by omega))
  exact ⟨w1, X, w4.f1 w6 f, w5.fx (fun a a1 a2 => f a (by omega)), m1, by rw [m2]; exact w7, by rw [m3]; exact w8⟩
theorem WM.e (W : WM L xs B U s' l le mo nb bA bB bW it' s2' tr' c9' s it s2 tr c9 h) (S : SV s' l le mo nb bA bB bW) (f : ∀ a, a < 76 ∨ 86 < a → h2 a = h a) (M : MX h2 s' s2' it' tr' c9') (hB : B ≤ B2) (hU : U ≤ U2) : WW L xs B2 U2 h2 := by
  obtain ⟨w1, w3, w4, w5, w6, w7, w8⟩ := W
  obtain ⟨m1, m2, m3⟩ := w6.c (h2 := h2) (fun a ha => f a (by omega))
  exact ⟨it', s', s2', tr', c9', l, le, mo, nb, bA, bB, bW, w1, S, w3.fe w6 f, w4.fe w6 f, M, m1, by omega, by omega⟩
theorem MX.u (x : MX h s s2 it tr c9) (s' : Nat → Int32) : MX (m_up h 77 (.inl (0, 889, .inl s'))) s' s2 it tr c9 := by
  obtain ⟨ir, o, t, pd, bw, x1, x2, ⟨f78, x3, x4⟩, x5, ⟨f79, x6⟩, ⟨f80, x7⟩, ⟨f81, x8⟩, x9, ⟨A, x10⟩, ⟨C, x11⟩, ⟨f84, x12⟩, ⟨f85, x13⟩, x14, x15⟩ := x
  have ho : o ≠ 77 ∧ t ≠ 77 := by rcases x9 with ⟨rfl, rfl⟩ | ⟨rfl, rfl⟩ <;> decide
  exact ⟨ir, o, t, pd, bw, (m_up_n (by decide)).trans x1, m_up_self _ _ _, ⟨f78, (m_up_n (by decide)).trans x3, x4⟩, x5, ⟨f79, (m_up_n (by decide)).trans x6⟩, ⟨f80, (m_up_n (by decide)).trans x7⟩, ⟨f81, (m_up_n (by decide)).trans x8⟩, x9, ⟨A, (m_up_n ho.1).trans x10⟩, ⟨C, (m_up_n ho.2).trans x11⟩, ⟨f84, (m_up_n (by decide)).trans x12⟩, ⟨f85, (m_up_n (by decide)).trans x13⟩, (m_up_n (by decide)).trans x14, x15⟩
theorem WM.u (W : WM L xs B U s' l le mo nb bA bB bW it s2 tr c9 s it s2 tr c9 h) (S : SV s' l le mo nb bA bB bW) : WW L xs (B + 2) (U + 103) (m_up h 77 (.inl (0, 889, .inl s'))) :=
  WM.e W S (fun a z => m_up_n (by omega)) (W.2.2.2.1.u s') (by omega) (by omega)
end
theorem c_feed (L : Nat) (xs : Nat → Int32) (B U : Nat) (it : Int32) (s s2 tr : Nat → Int32) (c9 : Nat) (l : List Tok) (le mo nb : Nat) (bA bB : Nat → Nat) (bW : Nat → Bool) (h : mH) (W : WP L xs B U it s s2 tr c9 l le mo nb bA bB bW h) (x : Int32) : ∃ (ans : Int32) (M : mH → Prop), (∀ h2, M h2 → CM L xs h2 ∧ ∃ fs, h2 76 = .inr (10, fs)) ∧ (∀ (d : Nat) (Q : Option Value → mH → Prop), (∀ h2, M h2 → Q (some (.int ans)) h2) → mT0 (d + 30) z_X9_feed 0 (m_init z_X9_feed [.ref 20, .int x]) [] h Q) ∧ ∀ h2, M h2 → ∀ (d : Nat) (Q : Option Value → mH → Prop), (∀ h3, WW L xs (B + 2) (U + 103) h3 → Q (some (.int ans)) h3) → mT0 (d + 30) z_X10_feed 0 (m_init z_X10_feed [.ref 76, .int x]) [] h2 Q := by
  obtain ⟨c60, hS, ⟨i, iv, X⟩, hC, hM, hCM, hB, hU⟩ := id W
  obtain ⟨hI, hG, hBk, ⟨nt, ta, hT⟩, ⟨n6, mm, g, hn6, hn5, hmm, hm1, hs, hg⟩, hsK, hkd, h11⟩ := id hS
  have hX := hC.1
  have hle := hG.2.2.1.2
  have hmo := hG.2.2.2.2
  have hl140 := hG.1.2.1
  have hbk := hS.b
  have hnb8 := hBk.1
  have hnb := hBk.2.1
  have hPu := hC.c62
  have h72 := hC.c72
  have h73 := hC.c73
  have hSh := hC.2.2.2.1
  have hDu := hC.2.2.2.2.2.1
  have hOr := hC.2.2.2.2.2.2.2.1
  refine ⟨(f_feed s x).1, WM L xs B U (f_feed s x).2 l le mo nb bA bB bW it s2 tr c9 s it s2 tr c9, fun h2 W2 => ⟨W2.2.2.2.2.1, W2.2.2.2.1.r⟩, fun d Q K => ?_, fun h2 W2 d Q K => ?_⟩
  · skip
    refine mT0_d (e := d + 30) (by omega) ?_
    refine x_feed (d + 30) h Q it hX i iv s hI l le mo nb _ _ X x (fun h3 i3 f3 X3 => K h3 (W.m f3 ⟨_, _, X3⟩))
  · skip
    obtain ⟨-, -, hC2, hM2, hCM2, -, -⟩ := id W2
    obtain ⟨ir, o, t, pd, bw, h76, h77, h78, hir4, h79, h80, h81, hot, hA, hCC, h84, h85, h86, hir20⟩ := hM2
    have hN := hCM2.2.1
    refine mT0_d (e := d + 29 + 1) (by omega) ?_
    refine e_feed (d + 29) h2 s ir o t pd bw Q h76 h77 hN hI x (K _ (WM.u W2 (hS.g_feed x)))
theorem c_player (L : Nat) (xs : Nat → Int32) (B U : Nat) (it : Int32) (s s2 tr : Nat → Int32) (c9 : Nat) (l : List Tok) (le mo nb : Nat) (bA bB : Nat → Nat) (bW : Nat → Bool) (h : mH) (W : WP L xs B U it s s2 tr c9 l le mo nb bA bB bW h) (x y : Int32) : ∃ (ans : Int32) (M : mH → Prop), (∀ h2, M h2 → CM L xs h2 ∧ ∃ fs, h2 76 = .inr (10, fs)) ∧ (∀ (d : Nat) (Q : Option Value → mH → Prop), (∀ h2, M h2 → Q (some (.int ans)) h2) → mT0 (d + 30) z_X9_player 0 (m_init z_X9_player [.ref 20, .int x, .int y]) [] h Q) ∧ ∀ h2, M h2 → ∀ (d : Nat) (Q : Option Value → mH → Prop), (∀ h3, WW L xs (B + 2) (U + 103) h3 → Q (some (.int ans)) h3) → mT0 (d + 30) z_X10_player 0 (m_init z_X10_player [.ref 76, .int x, .int y]) [] h2 Q := by
  obtain ⟨c60, hS, ⟨i, iv, X⟩, hC, hM, hCM, hB, hU⟩ := id W
  obtain ⟨hI, hG, hBk, ⟨nt, ta, hT⟩, ⟨n6, mm, g, hn6, hn5, hmm, hm1, hs, hg⟩, hsK, hkd, h11⟩ := id hS
  have hX := hC.1
  have hle := hG.2.2.1.2
  have hmo := hG.2.2.2.2
  have hl140 := hG.1.2.1
  have hbk := hS.b
  have hnb8 := hBk.1
  have hnb := hBk.2.1
  have hPu := hC.c62
  have h72 := hC.c72
  have h73 := hC.c73
  have hSh := hC.2.2.2.1
  have hDu := hC.2.2.2.2.2.1
  have hOr := hC.2.2.2.2.2.2.2.1
  refine ⟨(f_player s x y).1, WM L xs B U (f_player s x y).2 l le mo nb bA bB bW it s2 tr c9 s it s2 tr c9, fun h2 W2 => ⟨W2.2.2.2.2.1, W2.2.2.2.1.r⟩, fun d Q K => ?_, fun h2 W2 d Q K => ?_⟩
  · skip
    refine mT0_d (e := d + 29 + 1) (by omega) ?_
    refine x_player (d + 29) h Q it hX i iv s hI l le mo nb _ _ X x y (fun h3 i3 f3 X3 => K h3 (W.m f3 ⟨_, _, X3⟩))
  · skip
    obtain ⟨-, -, hC2, hM2, hCM2, -, -⟩ := id W2
    obtain ⟨ir, o, t, pd, bw, h76, h77, h78, hir4, h79, h80, h81, hot, hA, hCC, h84, h85, h86, hir20⟩ := hM2
    have hN := hCM2.2.1
    refine mT0_d (e := d + 29 + 1) (by omega) ?_
    refine e_player (d + 29) h2 s ir o t pd bw Q h76 h77 hN hI x y (K _ (WM.u W2 (hS.g_player x y)))
theorem c_men (L : Nat) (xs : Nat → Int32) (B U : Nat) (it : Int32) (s s2 tr : Nat → Int32) (c9 : Nat) (l : List Tok) (le mo nb : Nat) (bA bB : Nat → Nat) (bW : Nat → Bool) (h : mH) (W : WP L xs B U it s s2 tr c9 l le mo nb bA bB bW h) (x y : Int32) : ∃ (ans : Int32) (M : mH → Prop), (∀ h2, M h2 → CM L xs h2 ∧ ∃ fs, h2 76 = .inr (10, fs)) ∧ (∀ (d : Nat) (Q : Option Value → mH → Prop), (∀ h2, M h2 → Q (some (.int ans)) h2) → mT0 (d + 30) z_X9_men 0 (m_init z_X9_men [.ref 20, .int x, .int y]) [] h Q) ∧ ∀ h2, M h2 → ∀ (d : Nat) (Q : Option Value → mH → Prop), (∀ h3, WW L xs (B + 2) (U + 103) h3 → Q (some (.int ans)) h3) → mT0 (d + 30) z_X10_men 0 (m_init z_X10_men [.ref 76, .int x, .int y]) [] h2 Q := by
  obtain ⟨c60, hS, ⟨i, iv, X⟩, hC, hM, hCM, hB, hU⟩ := id W
  obtain ⟨hI, hG, hBk, ⟨nt, ta, hT⟩, ⟨n6, mm, g, hn6, hn5, hmm, hm1, hs, hg⟩, hsK, hkd, h11⟩ := id hS
  have hX := hC.1
  have hle := hG.2.2.1.2
  have hmo := hG.2.2.2.2
  have hl140 := hG.1.2.1
  have hbk := hS.b
  have hnb8 := hBk.1
  have hnb := hBk.2.1
  have hPu := hC.c62
  have h72 := hC.c72
  have h73 := hC.c73
  have hSh := hC.2.2.2.1
  have hDu := hC.2.2.2.2.2.1
  have hOr := hC.2.2.2.2.2.2.2.1
  refine ⟨(f_men s x y).1, WM L xs B U (f_men s x y).2 l le mo nb bA bB bW it s2 tr c9 s it s2 tr c9, fun h2 W2 => ⟨W2.2.2.2.2.1, W2.2.2.2.1.r⟩, fun d Q K => ?_, fun h2 W2 d Q K => ?_⟩
  · skip
    refine mT0_d (e := d + 29 + 1) (by omega) ?_
    refine x_men (d + 29) h Q it hX i iv s hI l le mo nb _ _ X x y (fun h3 i3 f3 X3 => K h3 (W.m f3 ⟨_, _, X3⟩))
  · skip
    obtain ⟨-, -, hC2, hM2, hCM2, -, -⟩ := id W2
    obtain ⟨ir, o, t, pd, bw, h76, h77, h78, hir4, h79, h80, h81, hot, hA, hCC, h84, h85, h86, hir20⟩ := hM2
    have hN := hCM2.2.1
    refine mT0_d (e := d + 28 + 2) (by omega) ?_
    refine e_men (d + 28) h2 s ir o t pd bw Q h76 h77 hN hI x y (K _ (WM.u W2 (hS.g_men x y)))
theorem c_row (L : Nat) (xs : Nat → Int32) (B U : Nat) (it : Int32) (s s2 tr : Nat → Int32) (c9 : Nat) (l : List Tok) (le mo nb : Nat) (bA bB : Nat → Nat) (bW : Nat → Bool) (h : mH) (W : WP L xs B U it s s2 tr c9 l le mo nb bA bB bW h) (x y w : Int32) : ∃ (ans : Int32) (M : mH → Prop), (∀ h2, M h2 → CM L xs h2 ∧ ∃ fs, h2 76 = .inr (10, fs)) ∧ (∀ (d : Nat) (Q : Option Value → mH → Prop), (∀ h2, M h2 → Q (some (.int ans)) h2) → mT0 (d + 30) z_X9_row 0 (m_init z_X9_row [.ref 20, .int x, .int y, .int w]) [] h Q) ∧ ∀ h2, M h2 → ∀ (d : Nat) (Q : Option Value → mH → Prop), (∀ h3, WW L xs (B + 2) (U + 103) h3 → Q (some (.int ans)) h3) → mT0 (d + 30) z_X10_row 0 (m_init z_X10_row [.ref 76, .int x, .int y, .int w]) [] h2 Q := by
  obtain ⟨c60, hS, ⟨i, iv, X⟩, hC, hM, hCM, hB, hU⟩ := id W
  obtain ⟨hI, hG, hBk, ⟨nt, ta, hT⟩, ⟨n6, mm, g, hn6, hn5, hmm, hm1, hs, hg⟩, hsK, hkd, h11⟩ := id hS
  have hX := hC.1
  have hle := hG.2.2.1.2
  have hmo := hG.2.2.2.2
  have hl140 := hG.1.2.1
  have hbk := hS.b
  have hnb8 := hBk.1
  have hnb := hBk.2.1
  have hPu := hC.c62
  have h72 := hC.c72
  have h73 := hC.c73
  have hSh := hC.2.2.2.1
  have hDu := hC.2.2.2.2.2.1
  have hOr := hC.2.2.2.2.2.2.2.1
  refine ⟨(f_row s x y w).1, WM L xs B U (f_row s x y w).2 l le mo nb bA bB bW it s2 tr c9 s it s2 tr c9, fun h2 W2 => ⟨W2.2.2.2.2.1, W2.2.2.2.1.r⟩, fun d Q K => ?_, fun h2 W2 d Q K => ?_⟩
  · skip
    refine mT0_d (e := d + 29 + 1) (by omega) ?_
    refine x_row (d + 29) h Q it hX i iv s hI l le mo nb _ _ X x y w (fun h3 i3 f3 X3 => K h3 (W.m f3 ⟨_, _, X3⟩))
  · skip
    obtain ⟨-, -, hC2, hM2, hCM2, -, -⟩ := id W2
    obtain ⟨ir, o, t, pd, bw, h76, h77, h78, hir4, h79, h80, h81, hot, hA, hCC, h84, h85, h86, hir20⟩ := hM2
    have hN := hCM2.2.1
    refine mT0_d (e := d + 28 + 2) (by omega) ?_
    refine e_row (d + 28) h2 s ir o t pd bw Q h76 h77 hN hI x y w (K _ (WM.u W2 (hS.g_row x y w)))
theorem c_tale (L : Nat) (xs : Nat → Int32) (B U : Nat) (it : Int32) (s s2 tr : Nat → Int32) (c9 : Nat) (l : List Tok) (le mo nb : Nat) (bA bB : Nat → Nat) (bW : Nat → Bool) (h : mH) (W : WP L xs B U it s s2 tr c9 l le mo nb bA bB bW h) (x : Int32) : ∃ (ans : Int32) (M : mH → Prop), (∀ h2, M h2 → CM L xs h2 ∧ ∃ fs, h2 76 = .inr (10, fs)) ∧ (∀ (d : Nat) (Q : Option Value → mH → Prop), (∀ h2, M h2 → Q (some (.int ans)) h2) → mT0 (d + 30) z_X9_tale 0 (m_init z_X9_tale [.ref 20, .int x]) [] h Q) ∧ ∀ h2, M h2 → ∀ (d : Nat) (Q : Option Value → mH → Prop), (∀ h3, WW L xs (B + 2) (U + 103) h3 → Q (some (.int ans)) h3) → mT0 (d + 30) z_X10_tale 0 (m_init z_X10_tale [.ref 76, .int x]) [] h2 Q := by
  obtain ⟨c60, hS, ⟨i, iv, X⟩, hC, hM, hCM, hB, hU⟩ := id W
  obtain ⟨hI, hG, hBk, ⟨nt, ta, hT⟩, ⟨n6, mm, g, hn6, hn5, hmm, hm1, hs, hg⟩, hsK, hkd, h11⟩ := id hS
  have hX := hC.1
  have hle := hG.2.2.1.2
  have hmo := hG.2.2.2.2
  have hl140 := hG.1.2.1
  have hbk := hS.b
  have hnb8 := hBk.1
  have hnb := hBk.2.1
  have hPu := hC.c62
  have h72 := hC.c72
  have h73 := hC.c73
  have hSh := hC.2.2.2.1
  have hDu := hC.2.2.2.2.2.1
  have hOr := hC.2.2.2.2.2.2.2.1
  refine ⟨(f_tale s x).1, WM L xs B U (f_tale s x).2 l le mo nb bA bB bW it s2 tr c9 s it s2 tr c9, fun h2 W2 => ⟨W2.2.2.2.2.1, W2.2.2.2.1.r⟩, fun d Q K => ?_, fun h2 W2 d Q K => ?_⟩
  · skip
    refine mT0_d (e := d + 29 + 1) (by omega) ?_
    refine x_tale (d + 29) h Q it hX i iv s hI l le mo nb _ _ X x (fun h3 i3 f3 X3 => K h3 (W.m f3 ⟨_, _, X3⟩))
  · skip
    obtain ⟨-, -, hC2, hM2, hCM2, -, -⟩ := id W2
    obtain ⟨ir, o, t, pd, bw, h76, h77, h78, hir4, h79, h80, h81, hot, hA, hCC, h84, h85, h86, hir20⟩ := hM2
    have hN := hCM2.2.1
    refine mT0_d (e := d + 29 + 1) (by omega) ?_
    refine e_tale (d + 29) h2 s ir o t pd bw Q h76 h77 hN hI x (K _ (WM.u W2 (hS.g_tale x)))
theorem c_playW (L : Nat) (xs : Nat → Int32) (B U : Nat) (it : Int32) (s s2 tr : Nat → Int32) (c9 : Nat) (l : List Tok) (le mo nb : Nat) (bA bB : Nat → Nat) (bW : Nat → Bool) (h : mH) (W : WP L xs B U it s s2 tr c9 l le mo nb bA bB bW h) (x y : Int32) : ∃ (ans : Int32) (M : mH → Prop), (∀ h2, M h2 → CM L xs h2 ∧ ∃ fs, h2 76 = .inr (10, fs)) ∧ (∀ (d : Nat) (Q : Option Value → mH → Prop), (∀ h2, M h2 → Q (some (.int ans)) h2) → mT0 (d + 30) z_X9_play 0 (m_init z_X9_play [.ref 20, .int x, .int y, .int 1]) [] h Q) ∧ ∀ h2, M h2 → ∀ (d : Nat) (Q : Option Value → mH → Prop), (∀ h3, WW L xs (B + 2) (U + 103) h3 → Q (some (.int ans)) h3) → mT0 (d + 30) z_X10_play 0 (m_init z_X10_play [.ref 76, .int x, .int y, .int 1]) [] h2 Q := by
  obtain ⟨c60, hS, ⟨i, iv, X⟩, hC, hM, hCM, hB, hU⟩ := id W
  obtain ⟨hI, hG, hBk, ⟨nt, ta, hT⟩, ⟨n6, mm, g, hn6, hn5, hmm, hm1, hs, hg⟩, hsK, hkd, h11⟩ := id hS
  have hX := hC.1
  have hle := hG.2.2.1.2
  have hmo := hG.2.2.2.2
  have hl140 := hG.1.2.1
  have hbk := hS.b
  have hnb8 := hBk.1
  have hnb := hBk.2.1
  have hPu := hC.c62
  have h72 := hC.c72
  have h73 := hC.c73
  have hSh := hC.2.2.2.1
  have hDu := hC.2.2.2.2.2.1
  have hOr := hC.2.2.2.2.2.2.2.1
  refine ⟨(f_play s x y 1).1, WM L xs B U (f_play s x y 1).2 l le mo nb bA bB bW it s2 tr c9 s it s2 tr c9, fun h2 W2 => ⟨W2.2.2.2.2.1, W2.2.2.2.1.r⟩, fun d Q K => ?_, fun h2 W2 d Q K => ?_⟩
  · skip
    refine mT0_d (e := d + 27 + 3) (by omega) ?_
    refine x_playW (d + 27) h Q it hX i iv s hI l le mo nb _ _ X hle hmo mm g hmm hs hg x y (fun v => ?_) (fun va vb e => ?_) (fun va vb e g9 => ?_) (fun a b ha hb ix1 ix2 va vb hab g9 h3 i3 f3 X3 => ?_)
    · have K9 := K h
      rw [fp_no v] at K9
      exact K9 (W.m (fun _ _ => rfl) ⟨_, _, X⟩)
    · have K9 := K h
      rw [fp_eq va vb e] at K9
      exact K9 (W.m (fun _ _ => rfl) ⟨_, _, X⟩)
    · have K9 := K h
      rw [fp_g va vb e ((s_at_z hs).trans (by rw [g9]; rfl))] at K9
      exact K9 (W.m (fun _ _ => rfl) ⟨_, _, X⟩)
    · subst ix1 ix2
      have K9 := K h3
      rw [(fp_w hG hmm hs ha hb hab va vb g9).1] at K9
      exact K9 (W.m f3 ⟨_, _, X3⟩)
  · skip
    obtain ⟨-, -, hC2, hM2, hCM2, -, -⟩ := id W2
    obtain ⟨ir, o, t, pd, bw, h76, h77, h78, hir4, h79, h80, h81, hot, hA, hCC, h84, h85, h86, hir20⟩ := hM2
    have hN := hCM2.2.1
    refine mT0_d (e := d + 27 + 3) (by omega) ?_
    refine e_play (d + 27) h2 s ir o t pd bw Q h76 h77 hN hI x y 1 (K _ (WM.u W2 (hS.g_play x y 1 (Or.inr rfl))))
theorem c_playL (L : Nat) (xs : Nat → Int32) (B U : Nat) (it : Int32) (s s2 tr : Nat → Int32) (c9 : Nat) (l : List Tok) (le mo nb : Nat) (bA bB : Nat → Nat) (bW : Nat → Bool) (h : mH) (W : WP L xs B U it s s2 tr c9 l le mo nb bA bB bW h) (x y : Int32) : ∃ (ans : Int32) (M : mH → Prop), (∀ h2, M h2 → CM L xs h2 ∧ ∃ fs, h2 76 = .inr (10, fs)) ∧ (∀ (d : Nat) (Q : Option Value → mH → Prop), (∀ h2, M h2 → Q (some (.int ans)) h2) → mT0 (d + 30) z_X9_play 0 (m_init z_X9_play [.ref 20, .int x, .int y, .int 0]) [] h Q) ∧ ∀ h2, M h2 → ∀ (d : Nat) (Q : Option Value → mH → Prop), (∀ h3, WW L xs (B + 2) (U + 103) h3 → Q (some (.int ans)) h3) → mT0 (d + 30) z_X10_play 0 (m_init z_X10_play [.ref 76, .int x, .int y, .int 0]) [] h2 Q := by
  obtain ⟨c60, hS, ⟨i, iv, X⟩, hC, hM, hCM, hB, hU⟩ := id W
  obtain ⟨hI, hG, hBk, ⟨nt, ta, hT⟩, ⟨n6, mm, g, hn6, hn5, hmm, hm1, hs, hg⟩, hsK, hkd, h11⟩ := id hS
  have hX := hC.1
  have hle := hG.2.2.1.2
  have hmo := hG.2.2.2.2
  have hl140 := hG.1.2.1
  have hbk := hS.b
  have hnb8 := hBk.1
  have hnb := hBk.2.1
  have hPu := hC.c62
  have h72 := hC.c72
  have h73 := hC.c73
  have hSh := hC.2.2.2.1
  have hDu := hC.2.2.2.2.2.1
  have hOr := hC.2.2.2.2.2.2.2.1
  refine ⟨(f_play s x y 0).1, WM L xs B U (f_play s x y 0).2 l le mo nb bA bB bW it s2 tr c9 s it s2 tr c9, fun h2 W2 => ⟨W2.2.2.2.2.1, W2.2.2.2.1.r⟩, fun d Q K => ?_, fun h2 W2 d Q K => ?_⟩
  · skip
    refine mT0_d (e := d + 27 + 3) (by omega) ?_
    refine x_playL (d + 27) h Q it hX i iv s hI l le mo nb _ _ X hle hmo mm g hmm hs hg x y (fun v => ?_) (fun va vb e => ?_) (fun va vb e g9 => ?_) (fun a b ha hb ix1 ix2 va vb hab g9 h3 i3 f3 X3 => ?_)
    · have K9 := K h
      rw [fp_no v] at K9
      exact K9 (W.m (fun _ _ => rfl) ⟨_, _, X⟩)
    · have K9 := K h
      rw [fp_eq va vb e] at K9
      exact K9 (W.m (fun _ _ => rfl) ⟨_, _, X⟩)
    · have K9 := K h
      rw [fp_g va vb e ((s_at_z hs).trans (by rw [g9]; rfl))] at K9
      exact K9 (W.m (fun _ _ => rfl) ⟨_, _, X⟩)
    · subst ix1 ix2
      have K9 := K h3
      rw [(fp_w hG hmm hs ha hb hab va vb g9).2] at K9
      exact K9 (W.m f3 ⟨_, _, X3⟩)
  · skip
    obtain ⟨-, -, hC2, hM2, hCM2, -, -⟩ := id W2
    obtain ⟨ir, o, t, pd, bw, h76, h77, h78, hir4, h79, h80, h81, hot, hA, hCC, h84, h85, h86, hir20⟩ := hM2
    have hN := hCM2.2.1
    refine mT0_d (e := d + 27 + 3) (by omega) ?_
    refine e_play (d + 27) h2 s ir o t pd bw Q h76 h77 hN hI x y 0 (K _ (WM.u W2 (hS.g_play x y 0 (Or.inl rfl))))
theorem c_bookW (L : Nat) (xs : Nat → Int32) (B U : Nat) (it : Int32) (s s2 tr : Nat → Int32) (c9 : Nat) (l : List Tok) (le mo nb : Nat) (bA bB : Nat → Nat) (bW : Nat → Bool) (h : mH) (W : WP L xs B U it s s2 tr c9 l le mo nb bA bB bW h) (x y : Int32) : ∃ (ans : Int32) (M : mH → Prop), (∀ h2, M h2 → CM L xs h2 ∧ ∃ fs, h2 76 = .inr (10, fs)) ∧ (∀ (d : Nat) (Q : Option Value → mH → Prop), (∀ h2, M h2 → Q (some (.int ans)) h2) → mT0 (d + 30) z_X9_book 0 (m_init z_X9_book [.ref 20, .int x, .int y, .int 1]) [] h Q) ∧ ∀ h2, M h2 → ∀ (d : Nat) (Q : Option Value → mH → Prop), (∀ h3, WW L xs (B + 2) (U + 103) h3 → Q (some (.int ans)) h3) → mT0 (d + 30) z_X10_book 0 (m_init z_X10_book [.ref 76, .int x, .int y, .int 1]) [] h2 Q := by
  obtain ⟨c60, hS, ⟨i, iv, X⟩, hC, hM, hCM, hB, hU⟩ := id W
  obtain ⟨hI, hG, hBk, ⟨nt, ta, hT⟩, ⟨n6, mm, g, hn6, hn5, hmm, hm1, hs, hg⟩, hsK, hkd, h11⟩ := id hS
  have hX := hC.1
  have hle := hG.2.2.1.2
  have hmo := hG.2.2.2.2
  have hl140 := hG.1.2.1
  have hbk := hS.b
  have hnb8 := hBk.1
  have hnb := hBk.2.1
  have hPu := hC.c62
  have h72 := hC.c72
  have h73 := hC.c73
  have hSh := hC.2.2.2.1
  have hDu := hC.2.2.2.2.2.1
  have hOr := hC.2.2.2.2.2.2.2.1
  refine ⟨(f_book s x y 1).1, fun h2 => ∃ nb2 bA2 bB2 bW2, SV (f_book s x y 1).2 l le mo nb2 bA2 bB2 bW2 ∧ WM L xs B U (f_book s x y 1).2 l le mo nb2 bA2 bB2 bW2 it s2 tr c9 s it s2 tr c9 h2, fun h2 ⟨_, _, _, _, _, W2⟩ => ⟨W2.2.2.2.2.1, W2.2.2.2.1.r⟩, fun d Q K => ?_, fun h2 W2 d Q K => ?_⟩
  · skip
    refine mT0_d (e := d + 27 + 3) (by omega) ?_
    refine x_bookW (d + 27) h Q it hX i iv s hI l le mo nb _ _ X hnb hnb8 x y (fun e h3 i3 f3 X3 => ?_) (fun n v => ?_) (fun n va vb e => ?_) (fun n va vb e g9 => ?_) (fun a b ha hb ix1 ix2 va vb hab n g9 h3 i3 f3 X3 => ?_)
    · subst e
      have K9 := K h3
      rw [fb_r] at K9
      exact K9 ⟨0, bA, bB, bW, hS.book0, W.m f3 ⟨_, _, X3⟩⟩
    · have K9 := K h
      rw [fb_no n v] at K9
      exact K9 ⟨nb, bA, bB, bW, hS, W.m (fun _ _ => rfl) ⟨_, _, X⟩⟩
    · have K9 := K h
      rw [fb_eq n va vb e] at K9
      exact K9 ⟨nb, bA, bB, bW, hS, W.m (fun _ _ => rfl) ⟨_, _, X⟩⟩
    · have K9 := K h
      rw [fb_8 n va vb e (hnb8.trans (by rw [g9]; rfl))] at K9
      exact K9 ⟨nb, bA, bB, bW, hS, W.m (fun _ _ => rfl) ⟨_, _, X⟩⟩
    · have e9 : x ≠ y := fun z => hab ((nI_eq (by omega) (by omega)).mp (ix1.symm.trans (z.trans ix2)))
      have K9 := K h3
      rw [fb_w n va vb e9 hnb8 g9] at K9
      subst ix1 ix2
      have c1 := b_w_u bA bB bW nb a b true
      have c2 := b_w_u bB bA bW nb b a true
      refine K9 ⟨nb + 1, updM bA nb a, updM bB nb b, (fun k => if k = nb then true else bW k), hS.bookM true ha hb hab g9, W.m f3 ⟨i3, iv, ?_⟩⟩
      rw [c1, c2]
      exact X3
  · skip
    obtain ⟨nb2, bA2, bB2, bW2, S2, W2⟩ := W2
    obtain ⟨-, -, hC2, hM2, hCM2, -, -⟩ := id W2
    obtain ⟨ir, o, t, pd, bw, h76, h77, h78, hir4, h79, h80, h81, hot, hA, hCC, h84, h85, h86, hir20⟩ := hM2
    have hN := hCM2.2.1
    refine mT0_d (e := d + 28 + 2) (by omega) ?_
    refine e_book (d + 28) h2 s ir o t pd bw Q h76 h77 hN hI x y 1 (Or.inr rfl) (K _ (WM.u W2 S2))
theorem c_bookL (L : Nat) (xs : Nat → Int32) (B U : Nat) (it : Int32) (s s2 tr : Nat → Int32) (c9 : Nat) (l : List Tok) (le mo nb : Nat) (bA bB : Nat → Nat) (bW : Nat → Bool) (h : mH) (W : WP L xs B U it s s2 tr c9 l le mo nb bA bB bW h) (x y : Int32) : ∃ (ans : Int32) (M : mH → Prop), (∀ h2, M h2 → CM L xs h2 ∧ ∃ fs, h2 76 = .inr (10, fs)) ∧ (∀ (d : Nat) (Q : Option Value → mH → Prop), (∀ h2, M h2 → Q (some (.int ans)) h2) → mT0 (d + 30) z_X9_book 0 (m_init z_X9_book [.ref 20, .int x, .int y, .int 0]) [] h Q) ∧ ∀ h2, M h2 → ∀ (d : Nat) (Q : Option Value → mH → Prop), (∀ h3, WW L xs (B + 2) (U + 103) h3 → Q (some (.int ans)) h3) → mT0 (d + 30) z_X10_book 0 (m_init z_X10_book [.ref 76, .int x, .int y, .int 0]) [] h2 Q := by
  obtain ⟨c60, hS, ⟨i, iv, X⟩, hC, hM, hCM, hB, hU⟩ := id W
  obtain ⟨hI, hG, hBk, ⟨nt, ta, hT⟩, ⟨n6, mm, g, hn6, hn5, hmm, hm1, hs, hg⟩, hsK, hkd, h11⟩ := id hS
  have hX := hC.1
  have hle := hG.2.2.1.2
  have hmo := hG.2.2.2.2
  have hl140 := hG.1.2.1
  have hbk := hS.b
  have hnb8 := hBk.1
  have hnb := hBk.2.1
  have hPu := hC.c62
  have h72 := hC.c72
  have h73 := hC.c73
  have hSh := hC.2.2.2.1
  have hDu := hC.2.2.2.2.2.1
  have hOr := hC.2.2.2.2.2.2.2.1
  refine ⟨(f_book s x y 0).1, fun h2 => ∃ nb2 bA2 bB2 bW2, SV (f_book s x y 0).2 l le mo nb2 bA2 bB2 bW2 ∧ WM L xs B U (f_book s x y 0).2 l le mo nb2 bA2 bB2 bW2 it s2 tr c9 s it s2 tr c9 h2, fun h2 ⟨_, _, _, _, _, W2⟩ => ⟨W2.2.2.2.2.1, W2.2.2.2.1.r⟩, fun d Q K => ?_, fun h2 W2 d Q K => ?_⟩
  · skip
    refine mT0_d (e := d + 27 + 3) (by omega) ?_
    refine x_bookL (d + 27) h Q it hX i iv s hI l le mo nb _ _ X hnb hnb8 x y (fun e h3 i3 f3 X3 => ?_) (fun n v => ?_) (fun n va vb e => ?_) (fun n va vb e g9 => ?_) (fun a b ha hb ix1 ix2 va vb hab n g9 h3 i3 f3 X3 => ?_)
    · subst e
      have K9 := K h3
      rw [fb_r] at K9
      exact K9 ⟨0, bA, bB, bW, hS.book0, W.m f3 ⟨_, _, X3⟩⟩
    · have K9 := K h
      rw [fb_no n v] at K9
      exact K9 ⟨nb, bA, bB, bW, hS, W.m (fun _ _ => rfl) ⟨_, _, X⟩⟩
    · have K9 := K h
      rw [fb_eq n va vb e] at K9
      exact K9 ⟨nb, bA, bB, bW, hS, W.m (fun _ _ => rfl) ⟨_, _, X⟩⟩
    · have K9 := K h
      rw [fb_8 n va vb e (hnb8.trans (by rw [g9]; rfl))] at K9
      exact K9 ⟨nb, bA, bB, bW, hS, W.m (fun _ _ => rfl) ⟨_, _, X⟩⟩
    · have e9 : x ≠ y := fun z => hab ((nI_eq (by omega) (by omega)).mp (ix1.symm.trans (z.trans ix2)))
      have K9 := K h3
      rw [fb_w n va vb e9 hnb8 g9] at K9
      subst ix1 ix2
      have c1 := b_w_u bA bB bW nb a b false
      have c2 := b_w_u bB bA bW nb b a false
      refine K9 ⟨nb + 1, updM bA nb a, updM bB nb b, (fun k => if k = nb then false else bW k), hS.bookM false ha hb hab g9, W.m f3 ⟨i3, iv, ?_⟩⟩
      rw [c1, c2]
      exact X3
  · skip
    obtain ⟨nb2, bA2, bB2, bW2, S2, W2⟩ := W2
    obtain ⟨-, -, hC2, hM2, hCM2, -, -⟩ := id W2
    obtain ⟨ir, o, t, pd, bw, h76, h77, h78, hir4, h79, h80, h81, hot, hA, hCC, h84, h85, h86, hir20⟩ := hM2
    have hN := hCM2.2.1
    refine mT0_d (e := d + 28 + 2) (by omega) ?_
    refine e_book (d + 28) h2 s ir o t pd bw Q h76 h77 hN hI x y 0 (Or.inl rfl) (K _ (WM.u W2 S2))
theorem XR.sh {r : Nat} {h : mH} {i : Nat → Int32} {iv : Value} {s : Nat → Int32} {l : List Tok} {le mo nb : Nat} {wi lo : Nat → Nat} (X : XR r h i iv s l le mo nb wi lo) : rSh r h := by
  obtain ⟨⟨b1, b2, b3, b4, ⟨f5, b5, -⟩, ⟨f6, b6, -⟩, ⟨f7, b7, -⟩, b8⟩, ⟨g1, x1, -⟩, ⟨g2, x2, -⟩, ⟨g3, x3, -⟩, ⟨g4, x4, -⟩, ⟨g5, x5, -⟩, -⟩ := X
  exact ⟨⟨i, iv, b1⟩, ⟨f5, b5⟩, ⟨f6, b6⟩, ⟨g1, x1⟩, ⟨f7, b7⟩, ⟨g2, x2⟩, ⟨g4, x4⟩, ⟨g5, x5⟩, ⟨g3, x3⟩, b8⟩
theorem CXR.img {L : Nat} {xs : Nat → Int32} {it : Int32} {s s2 tr : Nat → Int32} {c9 : Nat} {l : List Tok} {le mo nb : Nat} {bA bB : Nat → Nat} {bW : Nat → Bool} {h h2 : mH} (x : CXR h it s2 tr c9) (m : CM L xs h) (S : SV s l le mo nb bA bB bW) (f : ∀ a, a < 31 ∨ 40 < a → a ≠ 20 → h2 a = h a) (e20 : h2 20 = .inr (9, xObj 1)) (X : CR 31 h2 s l le mo nb bA bB bW) : CXR h2 1 s tr c9 := by
  obtain ⟨i, iv, X⟩ := X
  obtain ⟨y1, y2, y3, y4, y5, y6, ⟨v1, v2, v3, y7⟩, y8, ⟨w1, w2, w3, y9⟩, ⟨wf, y10⟩, ⟨k0, n0, v0, y11⟩, y12⟩ := x
  exact ⟨e20, X.sh, fun _ => ⟨l, le, mo, nb, bA, bB, bW, ⟨i, iv, X⟩, S⟩, y4.c (fun a a1 a2 => f a (by omega) (by omega)), y5.c (fun a a1 a2 => f a (by omega) (by omega)), y6.c (fun a a1 a2 => f a (by omega) (by omega)), ⟨v1, v2, v3, (f 62 (by decide) (by decide)).trans y7⟩, y8.c (fun a a1 a2 => f a (by omega) (by omega)), ⟨w1, w2, w3, (f 72 (by decide) (by decide)).trans y9⟩, ⟨wf, (f 73 (by decide) (by decide)).trans y10⟩, ⟨k0, n0, v0, (f 74 (by decide) (by decide)).trans y11⟩, (f 75 (by decide) (by decide)).trans y12⟩
theorem c_image (L : Nat) (xs : Nat → Int32) (B U : Nat) (it : Int32) (s s2 tr : Nat → Int32) (c9 : Nat) (l : List Tok) (le mo nb : Nat) (bA bB : Nat → Nat) (bW : Nat → Bool) (h : mH) (W : WP L xs B U it s s2 tr c9 l le mo nb bA bB bW h) : ∃ (ans : Int32) (M : mH → Prop), (∀ h2, M h2 → CM L xs h2 ∧ ∃ fs, h2 76 = .inr (10, fs)) ∧ (∀ (d : Nat) (Q : Option Value → mH → Prop), (∀ h2, M h2 → Q (some (.int ans)) h2) → mT0 (d + 30) z_X9_image 0 (m_init z_X9_image [.ref 20]) [] h Q) ∧ ∀ h2, M h2 → ∀ (d : Nat) (Q : Option Value → mH → Prop), (∀ h3, WW L xs (B + 2) (U + 103) h3 → Q (some (.int ans)) h3) → mT0 (d + 30) z_X10_image 0 (m_init z_X10_image [.ref 76]) [] h2 Q := by
  obtain ⟨c60, hS, ⟨i, iv, X⟩, hC, hM, hCM, hB, hU⟩ := id W
  obtain ⟨hI, hG, hBk, ⟨nt, ta, hT⟩, ⟨n6, mm, g, hn6, hn5, hmm, hm1, hs, hg⟩, hsK, hkd, h11⟩ := id hS
  have hX := hC.1
  have hle := hG.2.2.1.2
  have hmo := hG.2.2.2.2
  have hl140 := hG.1.2.1
  have hbk := hS.b
  have hnb8 := hBk.1
  have hnb := hBk.2.1
  have hPu := hC.c62
  have h72 := hC.c72
  have h73 := hC.c73
  have hSh := hC.2.2.2.1
  have hDu := hC.2.2.2.2.2.1
  have hOr := hC.2.2.2.2.2.2.2.1
  refine ⟨(s 6), WM L xs B U s l le mo nb bA bB bW 1 s tr c9 s it s2 tr c9, fun h2 W2 => ⟨W2.2.2.2.2.1, W2.2.2.2.1.r⟩, fun d Q K => ?_, fun h2 W2 d Q K => ?_⟩
  · skip
    refine mT0_d (e := d + 29 + 1) (by omega) ?_
    refine x_imageP (d + 29) h Q it hX i iv s hI l le mo nb _ _ X hnb hC.2.1 (fun h3 i3 f3 e20 X31 X21 => K h3 ?_)
    obtain ⟨m1, m2, m3⟩ := hCM.c (h2 := h3) (fun a ha => f3 a (by omega) (by omega))
    exact ⟨c60, ⟨_, _, X21⟩, hC.img hCM hS f3 e20 ⟨_, _, X31⟩, hM.fx (fun a a1 a2 => f3 a (by omega) (by omega)), m1, by rw [m2]; exact hB, by rw [m3]; exact hU⟩
  · skip
    obtain ⟨-, -, hC2, hM2, hCM2, -, -⟩ := id W2
    obtain ⟨ir, o, t, pd, bw, h76, h77, h78, hir4, h79, h80, h81, hot, hA, hCC, h84, h85, h86, hir20⟩ := hM2
    have hN := hCM2.2.1
    obtain ⟨f78, e78, -⟩ := h78
    obtain ⟨f79, e79⟩ := h79
    obtain ⟨f80, e80⟩ := h80
    obtain ⟨f81, e81⟩ := h81
    obtain ⟨A, eA⟩ := hA
    obtain ⟨C, eC⟩ := hCC
    obtain ⟨f84, e84⟩ := h84
    obtain ⟨f85, e85⟩ := h85
    have ho : o ≠ 76 ∧ t ≠ 76 ∧ o ≠ 78 ∧ t ≠ 78 := by rcases hot with ⟨rfl, rfl⟩ | ⟨rfl, rfl⟩ <;> decide
    refine mT0_d (e := d + 30) (by omega) ?_
    refine e_image (d + 30) h2 s ir o t pd bw Q h76 h77 hN f78 e78 (fun f hf => K _ ?_)
    refine WM.e W2 hS (fun a z => (m_up_n (by omega)).trans (m_up_n (by omega))) ⟨upd ir 4 1, o, t, pd, bw, m_up_self _ _ _, (m_up_n (by decide)).trans ((m_up_n (by decide)).trans h77), ⟨f, (m_up_n (by decide)).trans (m_up_self _ _ _), fun _ => hf⟩, ⟨fun z => absurd z (by rw [upd_s]; decide), fun z => absurd z (by decide)⟩, ⟨f79, (m_up_n (by decide)).trans ((m_up_n (by decide)).trans e79)⟩, ⟨f80, (m_up_n (by decide)).trans ((m_up_n (by decide)).trans e80)⟩, ⟨f81, (m_up_n (by decide)).trans ((m_up_n (by decide)).trans e81)⟩, hot, ⟨A, (m_up_n ho.1).trans ((m_up_n ho.2.2.1).trans eA)⟩, ⟨C, (m_up_n ho.2.1).trans ((m_up_n ho.2.2.2).trans eC)⟩, ⟨f84, (m_up_n (by decide)).trans ((m_up_n (by decide)).trans e84)⟩, ⟨f85, (m_up_n (by decide)).trans ((m_up_n (by decide)).trans e85)⟩, (m_up_n (by decide)).trans ((m_up_n (by decide)).trans h86), (upd_n _ _ (by decide)).trans hir20⟩ (by omega) (by omega)
theorem WM.s {L : Nat} {xs : Nat → Int32} {B U : Nat} {it it' : Int32} {s s2 s' s'' s2' tr tr' : Nat → Int32} {c9 c9' : Nat} {l : List Tok} {le mo nb : Nat} {bA bB : Nat → Nat} {bW : Nat → Bool} {h : mH} (W : WM L xs B U s' l le mo nb bA bB bW it' s2' tr' c9' s it s2 tr c9 h) (e : ∀ j, j < 174 → j ≠ 11 → s'' j = s' j) : WM L xs B U s'' l le mo nb bA bB bW it' s2' tr' c9' s it s2 tr c9 h := by
  obtain ⟨w1, ⟨i, iv, w3⟩, w4, w5, w6, w7, w8⟩ := W
  exact ⟨w1, ⟨i, iv, w3.e e⟩, w4, w5, w6, w7, w8⟩
theorem SV.nb {s : Nat → Int32} {l : List Tok} {le mo nb : Nat} {bA bB : Nat → Nat} {bW : Nat → Bool} (S : SV s l le mo nb bA bB bW) : nb ≤ 8 := S.2.2.1.2.1
theorem c_undo (L : Nat) (xs : Nat → Int32) (B U : Nat) (it : Int32) (s s2 tr : Nat → Int32) (c9 : Nat) (l : List Tok) (le mo nb : Nat) (bA bB : Nat → Nat) (bW : Nat → Bool) (h : mH) (W : WP L xs B U it s s2 tr c9 l le mo nb bA bB bW h) : ∃ (ans : Int32) (M : mH → Prop), (∀ h2, M h2 → CM L xs h2 ∧ ∃ fs, h2 76 = .inr (10, fs)) ∧ (∀ (d : Nat) (Q : Option Value → mH → Prop), (∀ h2, M h2 → Q (some (.int ans)) h2) → mT0 (d + 30) z_X9_undo 0 (m_init z_X9_undo [.ref 20]) [] h Q) ∧ ∀ h2, M h2 → ∀ (d : Nat) (Q : Option Value → mH → Prop), (∀ h3, WW L xs (B + 2) (U + 103) h3 → Q (some (.int ans)) h3) → mT0 (d + 30) z_X10_undo 0 (m_init z_X10_undo [.ref 76]) [] h2 Q := by
  obtain ⟨c60, hS, ⟨i, iv, X⟩, hC, hM, hCM, hB, hU⟩ := id W
  obtain ⟨hI, hG, hBk, ⟨nt, ta, hT⟩, ⟨n6, mm, g, hn6, hn5, hmm, hm1, hs, hg⟩, hsK, hkd, h11⟩ := id hS
  have hX := hC.1
  have hle := hG.2.2.1.2
  have hmo := hG.2.2.2.2
  have hl140 := hG.1.2.1
  have hbk := hS.b
  have hnb8 := hBk.1
  have hnb := hBk.2.1
  have hPu := hC.c62
  have h72 := hC.c72
  have h73 := hC.c73
  have hSh := hC.2.2.2.1
  have hDu := hC.2.2.2.2.2.1
  have hOr := hC.2.2.2.2.2.2.2.1
  by_cases hit : it = 0
  · refine ⟨(-3), WP L xs B U it s s2 tr c9 l le mo nb bA bB bW, fun h2 W2 => ⟨W2.2.2.2.2.2.1, W2.2.2.2.2.1.r⟩, fun d Q K => ?_, fun h2 W2 d Q K => ?_⟩
    · skip
      refine mT0_d (e := d + 29 + 1) (by omega) ?_
      refine x_undoP (d + 29) h Q it hX i iv s hI l le mo nb _ _ X (fun _ => 0) .null (fun _ => 0) [] 0 0 0 (by omega) (fun _ => 0) (fun _ => 0) (fun z => absurd hit z) X.sh (fun _ => K h W) (fun z => absurd hit z)
    · skip
      obtain ⟨-, -, -, hC2, hM2, hCM2, -, -⟩ := id W2
      obtain ⟨ir, o, t, pd, bw, h76, h77, h78, hir4, h79, h80, h81, hot, hA, hCC, h84, h85, h86, hir20⟩ := hM2
      have hN := hCM2.2.1
      obtain ⟨f78, e78, -⟩ := h78
      refine mT0_d (e := d + 30) (by omega) ?_
      refine e_undo (d + 30) h2 s ir o t pd bw Q h76 h77 hN f78 e78 (fun _ => K h2 (show WW L xs (B + 2) (U + 103) h2 from ⟨_, _, _, _, _, _, _, _, _, _, _, _, W2.1, W2.2.1, W2.2.2.1, W2.2.2.2.1, W2.2.2.2.2.1, W2.2.2.2.2.2.1, by have := W2.2.2.2.2.2.2.1; omega, by have := W2.2.2.2.2.2.2.2; omega⟩)) (fun z => absurd (hir4.mpr hit) z)
  · obtain ⟨l2, le2, mo2, nb2, bA2, bB2, bW2, ⟨j2, iv2, X31⟩, S2⟩ := hC.2.2.1 hit
    refine ⟨(s2 6), WM L xs B U s2 l2 le2 mo2 nb2 bA2 bB2 bW2 it s2 tr c9 s it s2 tr c9, fun h2 W2 => ⟨W2.2.2.2.2.1, W2.2.2.2.1.r⟩, fun d Q K => ?_, fun h2 W2 d Q K => ?_⟩
    · skip
      refine mT0_d (e := d + 29 + 1) (by omega) ?_
      refine x_undoP (d + 29) h Q it hX i iv s hI l le mo nb _ _ X j2 iv2 s2 l2 le2 mo2 nb2 S2.nb _ _ (fun _ => X31) X.sh (fun z => absurd z hit) (fun _ h3 i3 f3 X3 => K h3 (W.m (fun a z => f3 a (by omega)) ⟨_, _, X3⟩))
    · skip
      obtain ⟨-, -, hC2, hM2, hCM2, -, -⟩ := id W2
      obtain ⟨ir, o, t, pd, bw, h76, h77, h78, hir4, h79, h80, h81, hot, hA, hCC, h84, h85, h86, hir20⟩ := hM2
      have hN := hCM2.2.1
      obtain ⟨f78, e78, c78⟩ := h78
      refine mT0_d (e := d + 30) (by omega) ?_
      refine e_undo (d + 30) h2 s ir o t pd bw Q h76 h77 hN f78 e78 (fun z => absurd (hir4.mp z) hit) (fun _ f hf => ?_)
      have ef : ∀ j, j < 889 → f j = s2 j := fun j hj => (hf j hj).trans (c78 hit j hj)
      rw [ef 6 (by decide)]
      exact K _ (WM.u (WM.s W2 (fun j hj _ => ef j (by omega))) (S2.lt ef))