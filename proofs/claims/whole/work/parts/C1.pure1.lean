/-! By program (wip/whole/book*.py) and hand. -/
theorem e_order2 (d : Nat) (h : mH) (s i : Nat → Int32) (o t : Nat) (pd bw : Int64) (Q : Option Value → mH → Prop) (hM : h 76 = .inr (10, mObj i o t pd bw)) (h77 : h 77 = .inl (0, 889, .inl s)) (hN : 87 ≤ m_nx h) (hI : s_Inv s) {l : List Tok} {le mo : Nat} (hG : sG s l le mo) (mm : Nat → Nat) (g : Nat) (hmm : ∀ j, j < 5 → mm j ≤ 20) (hs : s_at s mm g = s) (hg : g ≤ 9999) (h80 : ∃ f, h 80 = .inl (0, 5, .inl f)) (h81 : ∃ g, h 81 = .inl (2, 64, .inl g))  (n : Nat) (hn5 : n ≤ 5) (hn6 : s 6 = nI n) (h84 : ∃ f, h 84 = .inl (0, 4, .inl f)) (h85 : ∃ f, h 85 = .inl (0, 4, .inl f)) (x y w : Int32) (kN : ¬ (okP s x ∧ 0 ≤ w ∧ w ≤ 3) → Q (some (.int (-1))) h) (kB : ∀ p : Nat, p < n → x = nI p → okP s x → 0 ≤ w ∧ w ≤ 3 → ¬ okSet n p y → Q (some (.int (-2))) h) (k : ∀ p left j : Nat, p < n → x = nI p → left < 2 ^ n → y = nI left → left / 2 ^ p % 2 = 0 → j < 4 → w = nI j → ∀ h2 bw2 boF, rX [76, 77, 80, 81, 84, 85] h h2 → h2 77 = .inl (0, 889, .inl s) → h2 76 = .inr (10, mObj i o t pd bw2) → (∃ f, h2 84 = .inl (0, 4, .inl f)) → h2 85 = .inl (0, 4, .inl boF) → Q (some (.int (if j < nPop left then nI ((v_best s l le mo p n mm g left).2.getD j 0) else -5))) h2) : mT0 (d + 16) z_X10_order 0 (m_init z_X10_order [.ref 76, .int x, .int y, .int w]) [] h Q := by
  iterate 2 refine mT_s rfl rfl ?_
  (apply mT_inv; (case hc => rfl); (case hd => rfl); (case hb => first | rfl | assumption); (case hg => rfl))
  refine e_isPlayer _ _ _ _ _ _ _ _ _ hM h77 hN hI _ (fun p2 hp2 ep2 v2 => ?_) (fun v2 => ?_)
  · have hpn2 := okP_n hn6 (by omega) hp2 ep2 v2
    iterate 4 refine mT_s rfl rfl ?_
    refine mT_c rfl rfl ?_
    refine e_in _ _ _ _ _ _ (fun a11 b11 => ?_) (fun a11 => ?_)
    · iterate 4 refine mT_s rfl rfl ?_
      (apply mT_inv; (case hc => rfl); (case hd => rfl); (case hb => first | rfl | assumption); (case hg => rfl))
      rw [ep2]
      refine e_isSet _ h s i o t pd bw _ hM h77 hN hI n hn5 hn6 p2 hpn2 y (fun hset => ?_) (fun hset => ?_)
      · iterate 4 refine mT_s rfl rfl ?_
        (apply mT_inv; (case hc => rfl); (case hd => rfl); (case hb => first | rfl | assumption); (case hg => rfl))
        obtain ⟨j, hj, hj2⟩ := i_nat (n := 3) a11 b11 (by omega)
        rw [hj2]
        obtain ⟨left, hl, hy, hlp⟩ := hset
        rw [hy]
        refine e_looks _ h s i o t pd bw _ hM h77 hN hI hG mm g hmm hs hg h80 h81 n hn5 hn6 h84 h85 p2 hpn2 left hl hlp (fun h3 bw2 boF hr3 h773 h763 h843 h853 hbw hBO => ?_)
        have hN3 : 87 ≤ m_nx h3 := by rw [hr3.nx (by decide)]; exact hN
        have hv := v_best_ok (s := s) (l := l) (le := le) (mo := mo) (p := p2) (mm := mm) (g := g) hn5 hl
        refine mT_s rfl rfl ?_
        (apply mT_getf; (case hc => rfl); (case ha => first | rfl | assumption); (case hf => first | rfl | assumption))
        refine mT_s rfl rfl ?_
        (apply mT_ialdK; (case hc => rfl); (case ha => first | rfl | assumption); (case hk => first | (simp only [ki_0, ki_1, ki_2, ki_3, ki_4, ki_5, ki_6, ki_7, ki_8, ki_9, ki_10, ki_11, ki_12, ki_17, ki_20, ki_21, ki_22, ki_42, ki_50, ki_58, ki_66, ki_74, ki_140, ki_174, ki_179, ki_184, ki_189, ki_441, ki_13, nI_add, pk_mul]; with_reducible rfl) | (simp only [ki_0, ki_1, ki_2, ki_3, ki_4, ki_5, ki_6, ki_7, ki_8, ki_9, ki_10, ki_11, ki_12, ki_17, ki_20, ki_21, ki_22, ki_42, ki_50, ki_58, ki_66, ki_74, ki_140, ki_174, ki_179, ki_184, ki_189, ki_441, ki_13, ix1, nI_add, pk_mul]; with_reducible rfl) | (simp only [ki_0, ki_1, ki_2, ki_3, ki_4, ki_5, ki_6, ki_7, ki_8, ki_9, ki_10, ki_11, ki_12, ki_17, ki_20, ki_21, ki_22, ki_42, ki_50, ki_58, ki_66, ki_74, ki_140, ki_174, ki_179, ki_184, ki_189, ki_441, ki_13, ix1, ix2, nI_add, pk_mul]; with_reducible rfl) | (simp only [ki_0, ki_1, ki_2, ki_3, ki_4, ki_5, ki_6, ki_7, ki_8, ki_9, ki_10, ki_11, ki_12, ki_17, ki_20, ki_21, ki_22, ki_42, ki_50, ki_58, ki_66, ki_74, ki_140, ki_174, ki_179, ki_184, ki_189, ki_441, ki_13, ix1, ix2, ix3, nI_add, pk_mul]; with_reducible rfl) | (simp (disch := omega) only [upd_n, ki_0, ki_1, ki_2, ki_3, ki_4, ki_5, ki_6, ki_7, ki_8, ki_9, ki_10, ki_11, ki_12, ki_17, ki_20, ki_21, ki_22, ki_42, ki_50, ki_58, ki_66, ki_74, ki_140, ki_174, ki_179, ki_184, ki_189, ki_441, ki_13, ix1, nI_add, pk_mul]; with_reducible rfl) | (simp (disch := omega) only [upd_n, ki_0, ki_1, ki_2, ki_3, ki_4, ki_5, ki_6, ki_7, ki_8, ki_9, ki_10, ki_11, ki_12, ki_17, ki_20, ki_21, ki_22, ki_42, ki_50, ki_58, ki_66, ki_74, ki_140, ki_174, ki_179, ki_184, ki_189, ki_441, ki_13, ix1, ix2, nI_add, pk_mul]; with_reducible rfl) | rfl); (case hlt => first | decide | omega); (case hn => first | decide | omega))
        refine mT_ret rfl rfl ?_
        have k := k p2 left j hpn2 ep2 hl hy hlp (by omega) hj2 h3 _ boF hr3 h773 h763 h843 h853
        rw [← hv.2.2, ← hBO j (by omega)] at k
        exact k
      · iterate 2 refine mT_s rfl rfl ?_
        refine mT_ret rfl rfl ?_
        exact kB p2 hpn2 ep2 v2 ⟨a11, b11⟩ hset
    · iterate 2 refine mT_s rfl rfl ?_
      refine mT_ret rfl rfl ?_
      exact kN (fun z => a11 z.2)
  · iterate 2 refine mT_s rfl rfl ?_
    refine mT_ret rfl rfl ?_
    exact kN (fun z => v2 z.1)

theorem x_orderP2 (d : Nat) (h : mH) (Q : Option Value → mH → Prop) (it : Int32) (hX : h 20 = .inr (9, xObj it)) (i : Nat → Int32) (iv : Value) (s : Nat → Int32) (hI : s_Inv s) (l : List Tok) (le mo nb : Nat) (wi lo : Nat → Nat) (X : XR 21 h i iv s l le mo nb wi lo)  (hle : le ≤ 99) (hmo : mo ≤ 99) (mm : Nat → Nat) (g : Nat) (hmm : ∀ j, j < 5 → mm j ≤ 20) (hs : s_at s mm g = s) (hg : g ≤ 9999) (hOS : rOrS h) (n : Nat) (hn : s 6 = nI n) (hn55 : n ≤ 5) (hm1 : ∀ j, j < n → 1 ≤ mm j) (x y w : Int32) (kN : ¬ (okP s x ∧ 0 ≤ w ∧ w ≤ 3) → Q (some (.int (-1))) h) (kB : ∀ p : Nat, p < n → x = nI p → okP s x → 0 ≤ w ∧ w ≤ 3 → ¬ okSet n p y → Q (some (.int (-2))) h) (k : ∀ p left j : Nat, p < n → x = nI p → left < 2 ^ n → y = nI left → left / 2 ^ p % 2 = 0 → j < 4 → w = nI j → ∀ h2, (∀ c, c ≠ 30 → c < 63 ∨ 71 < c → h2 c = h c) → rOrS h2 → XR 21 h2 i iv s l le mo nb wi lo → Q (some (.int (if j < nPop left then nI ((v_best s l le mo p n mm g left).2.getD j 0) else -5))) h2) : mT0 (d + 11) z_X9_order 0 (m_init z_X9_order [.ref 20, .int x, .int y, .int w]) [] h Q := by
  obtain ⟨B, XM, XT, XA, XB, XL, i0, i1, i2, i3, i4, i5⟩ := id X
  obtain ⟨hR, hN, hV, hwt, hK, hV5, hW, h9⟩ := id B
  obtain ⟨fk, hk, ek⟩ := id hK
  obtain ⟨fv, hv, ev⟩ := id hV5
  obtain ⟨fm, hm, em⟩ := id XM
  obtain ⟨fw, hw, ew⟩ := id hW
  obtain ⟨ft, ht, et⟩ := id XT
  obtain ⟨fa, hfa, ea⟩ := id XA
  obtain ⟨fb, hb, eb⟩ := id XB
  obtain ⟨fl, hfl, el⟩ := id XL
  obtain ⟨⟨a0, c0, b0, v0, hO63⟩, -⟩ := id hOS
  have hn5 := hn55
  have hn6 := hn
  have hi0 := i0.trans hn6
  have M : rMn 21 h mm := ⟨fm, hm, fun j hj => (em j hj).trans (by rw [← s_at_m s mm g hj, hs])⟩
  have hg1 : i 1 = nI g := i1.trans (by rw [← hs]; rfl)
  iterate 2 refine mT_s rfl rfl ?_
  (apply mT_inv; (case hc => rfl); (case hd => rfl); (case hb => first | rfl | assumption); (case hg => rfl))
  refine x_isNobody _ h _ it hX i iv hR s n hn5 hn6 hi0 _ (fun v2 => ?_) (fun p hp ix1 v2 => ?_)
  · iterate 2 refine mT_s rfl rfl ?_
    refine mT_ret rfl rfl ?_
    exact kN (fun z => v2 z.1)
  · have hpn := okP_n hn6 (by omega) hp ix1 v2
    iterate 2 refine mT_s rfl rfl ?_
    refine mT_if_lt rfl (fun c9 => ?_) (fun c9 => ?_)
    · refine mT_s rfl rfl ?_
      refine mT_ret rfl rfl ?_
      exact kN (fun z => absurd c9 (Int32.not_lt.mpr z.2.1))
    · iterate 2 refine mT_s rfl rfl ?_
      refine mT_icmp_lt rfl (fun c14 => ?_) (fun c14 => ?_)
      · obtain ⟨j, hj, hj2⟩ := i_nat (n := 3) (Int32.not_lt.mp c9) (lt_4.mp c14) (by omega)
        iterate 3 refine mT_s rfl rfl ?_
        (apply mT_inv; (case hc => rfl); (case hd => rfl); (case hb => first | rfl | assumption); (case hg => rfl))
        rw [ix1]
        refine x_isNoSet _ h _ it hX i iv hR n hn5 hi0 p hpn y (fun hset => ?_) (fun left hl hy hlp => ?_)
        · iterate 2 refine mT_s rfl rfl ?_
          refine mT_ret rfl rfl ?_
          exact kB p hpn ix1 v2 ⟨Int32.not_lt.mp c9, lt_4.mp c14⟩ hset
        · iterate 2 refine mT_s rfl rfl ?_
          (apply mT_getf; (case hc => rfl); (case ha => first | rfl | assumption); (case hf => first | rfl | assumption))
          refine mT_s rfl rfl ?_
          (apply mT_getf; (case hc => rfl); (case ha => first | rfl | assumption); (case hf => first | rfl | assumption))
          iterate 2 refine mT_s rfl rfl ?_
          (apply mT_inv; (case hc => rfl); (case hd => rfl); (case hb => first | rfl | assumption); (case hg => rfl))
          rw [hy]
          refine x_looksFor _ h _ i iv s l le mo B hle hmo mm M hmm g hg hg1 n hn5 hi0 p hpn (hm1 p hpn) left hl hlp hOS (fun h2 boF f2 h302 S2 O2 h642 hBX => ?_)
          have hX2 : h2 20 = _ := (f2 20 (by decide) (by decide)).trans hX
          have O2 : h2 63 = _ := O2
          have X2 : XR 21 h2 i iv s l le mo nb wi lo := X.c5 (fun c z1 z2 => f2 c z1 (by omega)) h302
          have hv := v_best_ok (s := s) (l := l) (le := le) (mo := mo) (p := p) (mm := mm) (g := g) hn5 hl
          iterate 2 refine mT_s rfl rfl ?_
          (apply mT_getf; (case hc => rfl); (case ha => first | rfl | assumption); (case hf => first | rfl | assumption))
          (apply mT_getf; (case hc => rfl); (case ha => first | rfl | assumption); (case hf => first | rfl | assumption))
          refine mT_icmp_ge rfl (fun c52 => ?_) (fun c52 => ?_)
          · have hj4 : j < 4 := by omega
            rw [hj2] at c52
            have c52 : nPop left ≤ j := (nI_leI (by have := pop_le hn5 hpn hl hlp; omega) (by omega)).mp c52
            refine mT_s rfl rfl ?_
            refine mT_ret rfl rfl ?_
            have k := k p left j hpn ix1 hl hy hlp (by omega) hj2 h2 (fun c z1 z2 => f2 c z1 z2) S2 X2
            rw [if_neg (by omega)] at k
            exact k
          · have ix2 := hj2
            rw [hj2] at c52
            have hj4 : j < 4 := by omega
            have c52 : j < nPop left := Nat.lt_of_not_le (fun z => c52 (nI_le z (by omega)))
            refine mT_s rfl rfl ?_
            (apply mT_getf; (case hc => rfl); (case ha => first | rfl | assumption); (case hf => first | rfl | assumption))
            (apply mT_getf; (case hc => rfl); (case ha => first | rfl | assumption); (case hf => first | rfl | assumption))
            refine mT_s rfl rfl ?_
            (apply mT_ialdK; (case hc => rfl); (case ha => first | rfl | assumption); (case hk => first | (simp only [ki_0, ki_1, ki_2, ki_3, ki_4, ki_5, ki_6, ki_7, ki_8, ki_9, ki_10, ki_11, ki_12, ki_17, ki_20, ki_21, ki_22, ki_42, ki_50, ki_58, ki_66, ki_74, ki_140, ki_174, ki_179, ki_184, ki_189, ki_441, ki_13, nI_add, pk_mul]; with_reducible rfl) | (simp only [ki_0, ki_1, ki_2, ki_3, ki_4, ki_5, ki_6, ki_7, ki_8, ki_9, ki_10, ki_11, ki_12, ki_17, ki_20, ki_21, ki_22, ki_42, ki_50, ki_58, ki_66, ki_74, ki_140, ki_174, ki_179, ki_184, ki_189, ki_441, ki_13, ix1, nI_add, pk_mul]; with_reducible rfl) | (simp only [ki_0, ki_1, ki_2, ki_3, ki_4, ki_5, ki_6, ki_7, ki_8, ki_9, ki_10, ki_11, ki_12, ki_17, ki_20, ki_21, ki_22, ki_42, ki_50, ki_58, ki_66, ki_74, ki_140, ki_174, ki_179, ki_184, ki_189, ki_441, ki_13, ix1, ix2, nI_add, pk_mul]; with_reducible rfl) | (simp only [ki_0, ki_1, ki_2, ki_3, ki_4, ki_5, ki_6, ki_7, ki_8, ki_9, ki_10, ki_11, ki_12, ki_17, ki_20, ki_21, ki_22, ki_42, ki_50, ki_58, ki_66, ki_74, ki_140, ki_174, ki_179, ki_184, ki_189, ki_441, ki_13, ix1, ix2, ix3, nI_add, pk_mul]; with_reducible rfl) | (simp (disch := omega) only [upd_n, ki_0, ki_1, ki_2, ki_3, ki_4, ki_5, ki_6, ki_7, ki_8, ki_9, ki_10, ki_11, ki_12, ki_17, ki_20, ki_21, ki_22, ki_42, ki_50, ki_58, ki_66, ki_74, ki_140, ki_174, ki_179, ki_184, ki_189, ki_441, ki_13, ix1, nI_add, pk_mul]; with_reducible rfl) | (simp (disch := omega) only [upd_n, ki_0, ki_1, ki_2, ki_3, ki_4, ki_5, ki_6, ki_7, ki_8, ki_9, ki_10, ki_11, ki_12, ki_17, ki_20, ki_21, ki_22, ki_42, ki_50, ki_58, ki_66, ki_74, ki_140, ki_174, ki_179, ki_184, ki_189, ki_441, ki_13, ix1, ix2, nI_add, pk_mul]; with_reducible rfl) | rfl); (case hlt => first | decide | omega); (case hn => first | decide | omega))
            refine mT_s rfl rfl ?_
            refine mT_ret rfl rfl ?_
            have k := k p left j hpn ix1 hl hy hlp (by omega) hj2 h2 (fun c z1 z2 => f2 c z1 z2) S2 X2
            rw [if_pos c52, ← hBX j (by rw [hv.2.2]; exact c52)] at k
            exact k
      · refine mT_s rfl rfl ?_
        refine mT_ret rfl rfl ?_
        exact kN (fun z => c14 (lt_4.mpr z.2.2))
theorem ex_c {α : Type} {P : α → mE} {a b : mE} (x : ∃ f, a = P f) (e : b = a) : ∃ f, b = P f := by
  obtain ⟨f, hf⟩ := x
  exact ⟨f, e.trans hf⟩
theorem rX.fe {h h2 : mH} (r : rX [76, 77, 79, 80, 81, 82, 83, 84, 85] h h2) : ∀ a, a < 76 ∨ 86 < a → h2 a = h a := fun a z => r.1 a (fun y => by simp only [List.mem_cons, List.not_mem_nil, or_false] at y; omega)
theorem MX.g {s s2 tr : Nat → Int32} {it : Int32} {c9 : Nat} {h h2 : mH} {ir2 : Nat → Int32} {o2 t2 : Nat} {pd2 bw2 : Int64} (r : rX [76, 77, 79, 80, 81, 82, 83, 84, 85] h h2) (x78 : ∃ f, h 78 = .inl (0, 889, .inl f) ∧ (¬ it = 0 → ∀ j, j < 889 → f j = s2 j)) (h86 : h 86 = .inl (0, 20, .inl tr)) (e76 : h2 76 = .inr (10, mObj ir2 o2 t2 pd2 bw2)) (e77 : h2 77 = .inl (0, 889, .inl s)) (i4 : ir2 4 = 0 ↔ it = 0) (i20 : ir2 20 = nI c9) (e79 : ∃ f, h2 79 = .inl (0, 6, .inl f)) (hot : hOT o2 t2) (eA : ∃ A : Nat → Int64, h2 o2 = .inl (1, 5733, .inr (.inl A))) (eC : ∃ C : Nat → Int64, h2 t2 = .inl (1, 5733, .inr (.inl C))) (e84 : ∃ f, h2 84 = .inl (0, 4, .inl f)) (e85 : ∃ f, h2 85 = .inl (0, 4, .inl f)) : MX h2 s s2 it tr c9 := by
  obtain ⟨f78, x1, x2⟩ := x78
  exact ⟨ir2, o2, t2, pd2, bw2, e76, e77, ⟨f78, (r.1 78 (by decide)).trans x1, x2⟩, i4, e79, r.2.1, r.2.2, hot, eA, eC, e84, e85, (r.1 86 (by decide)).trans h86, i20⟩
theorem hOT.n {o t : Nat} (x : hOT o t) : o ∉ [76, 77, 79, 80, 81, 84, 85] ∧ t ∉ [76, 77, 79, 80, 81, 84, 85] := by
  rcases x with ⟨rfl, rfl⟩ | ⟨rfl, rfl⟩ <;> decide
theorem MX.r {s s2 tr : Nat → Int32} {it : Int32} {c9 : Nat} {h : mH} (x : MX h s s2 it tr c9) : ∃ fs, h 76 = .inr (10, fs) := by
  obtain ⟨ir, o, t, pd, bw, x1, -⟩ := x
  exact ⟨_, x1⟩
theorem SV.b {s : Nat → Int32} {l : List Tok} {le mo nb : Nat} {bA bB : Nat → Nat} {bW : Nat → Bool} (S : SV s l le mo nb bA bB bW) : ∀ k, k < nb → bA k < 5 ∧ bB k < 5 ∧ bA k ≠ bB k := fun k hk => (S.2.2.1.2.2 k hk).2.2.2
theorem c_of (L : Nat) (xs : Nat → Int32) (B U : Nat) (it : Int32) (s s2 tr : Nat → Int32) (c9 : Nat) (l : List Tok) (le mo nb : Nat) (bA bB : Nat → Nat) (bW : Nat → Bool) (h : mH) (W : WP L xs B U it s s2 tr c9 l le mo nb bA bB bW h) (x w : Int32) : ∃ (ans : Int32) (M : mH → Prop), (∀ h2, M h2 → CM L xs h2 ∧ ∃ fs, h2 76 = .inr (10, fs)) ∧ (∀ (d : Nat) (Q : Option Value → mH → Prop), (∀ h2, M h2 → Q (some (.int ans)) h2) → mT0 (d + 30) z_X9_of 0 (m_init z_X9_of [.ref 20, .int x, .int w]) [] h Q) ∧ ∀ h2, M h2 → ∀ (d : Nat) (Q : Option Value → mH → Prop), (∀ h3, WW L xs (B + 2) (U + 103) h3 → Q (some (.int ans)) h3) → mT0 (d + 30) z_X10_of 0 (m_init z_X10_of [.ref 76, .int x, .int w]) [] h2 Q := by
  obtain ⟨c60, hS, ⟨i, iv, X⟩, hC, hM, hCM, hB, hU⟩ := id W
  obtain ⟨hI, hG, hBk, ⟨nt, ta, hT⟩, ⟨n6, mm, g, hn6, hn5, hmm, hm1, hs, hg⟩, hsK, hkd, h11⟩ := id hS
  have hX := hC.1
  have hle := hG.2.2.1.2
  have hmo := hG.2.2.2.2
  have hl140 := hG.1.2.1
  have hbk := hS.b
  have hnb8 := hBk.1
  have hnb := hBk.2.1
  have hPu := hC.c62
  have h72 := hC.c72
  have h73 := hC.c73
  have hSh := hC.2.2.2.1
  have hDu := hC.2.2.2.2.2.1
  have hOr := hC.2.2.2.2.2.2.2.1
  refine ⟨(f_of s x w).1, WP L xs B U it s s2 tr c9 l le mo nb bA bB bW, fun h2 W2 => ⟨W2.2.2.2.2.2.1, W2.2.2.2.2.1.r⟩, fun d Q K => ?_, fun h2 W2 d Q K => ?_⟩
  · skip
    refine mT0_d (e := d + 29 + 1) (by omega) ?_
    refine x_of (d + 29) h Q it hX i iv s hI l le mo nb _ _ X x w ?_
    exact K h W
  · skip
    obtain ⟨-, -, -, hC2, hM2, hCM2, -, -⟩ := id W2
    obtain ⟨ir, o, t, pd, bw, h76, h77, h78, hir4, h79, h80, h81, hot, hA, hCC, h84, h85, h86, hir20⟩ := hM2
    have hN := hCM2.2.1
    refine mT0_d (e := d + 28 + 2) (by omega) ?_
    refine e_of (d + 28) h2 s ir o t pd bw Q h76 h77 hN hI x w ?_
    rw [show (f_of s x w).2 = s by unfold f_of; split <;> first | rfl | (split <;> rfl), m_up_id h77]
    exact K h2 (show WW L xs (B + 2) (U + 103) h2 from ⟨_, _, _, _, _, _, _, _, _, _, _, _, W2.1, W2.2.1, W2.2.2.1, W2.2.2.2.1, W2.2.2.2.2.1, W2.2.2.2.2.2.1, by have := W2.2.2.2.2.2.2.1; omega, by have := W2.2.2.2.2.2.2.2; omega⟩)
theorem c_told (L : Nat) (xs : Nat → Int32) (B U : Nat) (it : Int32) (s s2 tr : Nat → Int32) (c9 : Nat) (l : List Tok) (le mo nb : Nat) (bA bB : Nat → Nat) (bW : Nat → Bool) (h : mH) (W : WP L xs B U it s s2 tr c9 l le mo nb bA bB bW h) (w : Int32) : ∃ (ans : Int32) (M : mH → Prop), (∀ h2, M h2 → CM L xs h2 ∧ ∃ fs, h2 76 = .inr (10, fs)) ∧ (∀ (d : Nat) (Q : Option Value → mH → Prop), (∀ h2, M h2 → Q (some (.int ans)) h2) → mT0 (d + 30) z_X9_told 0 (m_init z_X9_told [.ref 20, .int w]) [] h Q) ∧ ∀ h2, M h2 → ∀ (d : Nat) (Q : Option Value → mH → Prop), (∀ h3, WW L xs (B + 2) (U + 103) h3 → Q (some (.int ans)) h3) → mT0 (d + 30) z_X10_told 0 (m_init z_X10_told [.ref 76, .int w]) [] h2 Q := by
  obtain ⟨c60, hS, ⟨i, iv, X⟩, hC, hM, hCM, hB, hU⟩ := id W
  obtain ⟨hI, hG, hBk, ⟨nt, ta, hT⟩, ⟨n6, mm, g, hn6, hn5, hmm, hm1, hs, hg⟩, hsK, hkd, h11⟩ := id hS
  have hX := hC.1
  have hle := hG.2.2.1.2
  have hmo := hG.2.2.2.2
  have hl140 := hG.1.2.1
  have hbk := hS.b
  have hnb8 := hBk.1
  have hnb := hBk.2.1
  have hPu := hC.c62
  have h72 := hC.c72
  have h73 := hC.c73
  have hSh := hC.2.2.2.1
  have hDu := hC.2.2.2.2.2.1
  have hOr := hC.2.2.2.2.2.2.2.1
  refine ⟨(f_told s w), WP L xs B U it s s2 tr c9 l le mo nb bA bB bW, fun h2 W2 => ⟨W2.2.2.2.2.2.1, W2.2.2.2.2.1.r⟩, fun d Q K => ?_, fun h2 W2 d Q K => ?_⟩
  · skip
    refine mT0_d (e := d + 29 + 1) (by omega) ?_
    refine x_told (d + 29) h Q it hX i iv s hI l le mo nb _ _ X ⟨hG.2.2.1.1, hG.2.2.2.1⟩ w ?_
    exact K h W
  · skip
    obtain ⟨-, -, -, hC2, hM2, hCM2, -, -⟩ := id W2
    obtain ⟨ir, o, t, pd, bw, h76, h77, h78, hir4, h79, h80, h81, hot, hA, hCC, h84, h85, h86, hir20⟩ := hM2
    have hN := hCM2.2.1
    refine mT0_d (e := d + 29 + 1) (by omega) ?_
    refine e_told (d + 29) h2 s ir o t pd bw Q h76 h77 hN hI w ?_
    exact K h2 (show WW L xs (B + 2) (U + 103) h2 from ⟨_, _, _, _, _, _, _, _, _, _, _, _, W2.1, W2.2.1, W2.2.2.1, W2.2.2.2.1, W2.2.2.2.2.1, W2.2.2.2.2.2.1, by have := W2.2.2.2.2.2.2.1; omega, by have := W2.2.2.2.2.2.2.2; omega⟩)
theorem c_as (L : Nat) (xs : Nat → Int32) (B U : Nat) (it : Int32) (s s2 tr : Nat → Int32) (c9 : Nat) (l : List Tok) (le mo nb : Nat) (bA bB : Nat → Nat) (bW : Nat → Bool) (h : mH) (W : WP L xs B U it s s2 tr c9 l le mo nb bA bB bW h) (x k : Int32) : ∃ (ans : Int32) (M : mH → Prop), (∀ h2, M h2 → CM L xs h2 ∧ ∃ fs, h2 76 = .inr (10, fs)) ∧ (∀ (d : Nat) (Q : Option Value → mH → Prop), (∀ h2, M h2 → Q (some (.int ans)) h2) → mT0 (d + 30) z_X9_as 0 (m_init z_X9_as [.ref 20, .int x, .int k]) [] h Q) ∧ ∀ h2, M h2 → ∀ (d : Nat) (Q : Option Value → mH → Prop), (∀ h3, WW L xs (B + 2) (U + 103) h3 → Q (some (.int ans)) h3) → mT0 (d + 30) z_X10_as 0 (m_init z_X10_as [.ref 76, .int x, .int k]) [] h2 Q := by
  obtain ⟨c60, hS, ⟨i, iv, X⟩, hC, hM, hCM, hB, hU⟩ := id W
  obtain ⟨hI, hG, hBk, ⟨nt, ta, hT⟩, ⟨n6, mm, g, hn6, hn5, hmm, hm1, hs, hg⟩, hsK, hkd, h11⟩ := id hS
  have hX := hC.1
  have hle := hG.2.2.1.2
  have hmo := hG.2.2.2.2
  have hl140 := hG.1.2.1
  have hbk := hS.b
  have hnb8 := hBk.1
  have hnb := hBk.2.1
  have hPu := hC.c62
  have h72 := hC.c72
  have h73 := hC.c73
  have hSh := hC.2.2.2.1
  have hDu := hC.2.2.2.2.2.1
  have hOr := hC.2.2.2.2.2.2.2.1
  refine ⟨(f_as s x k), WP L xs B U it s s2 tr c9 l le mo nb bA bB bW, fun h2 W2 => ⟨W2.2.2.2.2.2.1, W2.2.2.2.2.1.r⟩, fun d Q K => ?_, fun h2 W2 d Q K => ?_⟩
  · skip
    refine mT0_d (e := d + 29 + 1) (by omega) ?_
    refine x_asP (d + 29) h Q it hX i iv s hI l le mo nb _ _ X ((hCM.1 3 (by decide) (by decide)).trans rfl) hkd x k ?_
    exact K h W
  · skip
    obtain ⟨-, -, -, hC2, hM2, hCM2, -, -⟩ := id W2
    obtain ⟨ir, o, t, pd, bw, h76, h77, h78, hir4, h79, h80, h81, hot, hA, hCC, h84, h85, h86, hir20⟩ := hM2
    have hN := hCM2.2.1
    refine mT0_d (e := d + 28 + 2) (by omega) ?_
    refine e_as (d + 28) h2 s ir o t pd bw Q h76 h77 hN hI x k ?_
    exact K h2 (show WW L xs (B + 2) (U + 103) h2 from ⟨_, _, _, _, _, _, _, _, _, _, _, _, W2.1, W2.2.1, W2.2.2.1, W2.2.2.2.1, W2.2.2.2.2.1, W2.2.2.2.2.2.1, by have := W2.2.2.2.2.2.2.1; omega, by have := W2.2.2.2.2.2.2.2; omega⟩)
theorem c_trace (L : Nat) (xs : Nat → Int32) (B U : Nat) (it : Int32) (s s2 tr : Nat → Int32) (c9 : Nat) (l : List Tok) (le mo nb : Nat) (bA bB : Nat → Nat) (bW : Nat → Bool) (h : mH) (W : WP L xs B U it s s2 tr c9 l le mo nb bA bB bW h) (k : Int32) : ∃ (ans : Int32) (M : mH → Prop), (∀ h2, M h2 → CM L xs h2 ∧ ∃ fs, h2 76 = .inr (10, fs)) ∧ (∀ (d : Nat) (Q : Option Value → mH → Prop), (∀ h2, M h2 → Q (some (.int ans)) h2) → mT0 (d + 30) z_X9_trace 0 (m_init z_X9_trace [.ref 20, .int k]) [] h Q) ∧ ∀ h2, M h2 → ∀ (d : Nat) (Q : Option Value → mH → Prop), (∀ h3, WW L xs (B + 2) (U + 103) h3 → Q (some (.int ans)) h3) → mT0 (d + 30) z_X10_trace 0 (m_init z_X10_trace [.ref 76, .int k]) [] h2 Q := by
  obtain ⟨c60, hS, ⟨i, iv, X⟩, hC, hM, hCM, hB, hU⟩ := id W
  obtain ⟨hI, hG, hBk, ⟨nt, ta, hT⟩, ⟨n6, mm, g, hn6, hn5, hmm, hm1, hs, hg⟩, hsK, hkd, h11⟩ := id hS
  have hX := hC.1
  have hle := hG.2.2.1.2
  have hmo := hG.2.2.2.2
  have hl140 := hG.1.2.1
  have hbk := hS.b
  have hnb8 := hBk.1
  have hnb := hBk.2.1
  have hPu := hC.c62
  have h72 := hC.c72
  have h73 := hC.c73
  have hSh := hC.2.2.2.1
  have hDu := hC.2.2.2.2.2.1
  have hOr := hC.2.2.2.2.2.2.2.1
  refine ⟨(f_trace (fun _ => nI c9) tr k), WP L xs B U it s s2 tr c9 l le mo nb bA bB bW, fun h2 W2 => ⟨W2.2.2.2.2.2.1, W2.2.2.2.2.1.r⟩, fun d Q K => ?_, fun h2 W2 d Q K => ?_⟩
  · skip
    obtain ⟨k0, n0, v0, h74⟩ := hC.2.2.2.2.2.2.2.2.2.2.1
    have h75 := hC.2.2.2.2.2.2.2.2.2.2.2
    refine mT0_d (e := d + 29 + 1) (by omega) ?_
    refine x_trace (d + 29) h Q it hX i iv s hI l le mo nb _ _ X tr c9 c60 k0 n0 v0 h74 h75 (fun _ => nI c9) rfl k ?_
    exact K h W
  · skip
    obtain ⟨-, -, -, hC2, hM2, hCM2, -, -⟩ := id W2
    obtain ⟨ir, o, t, pd, bw, h76, h77, h78, hir4, h79, h80, h81, hot, hA, hCC, h84, h85, h86, hir20⟩ := hM2
    have hN := hCM2.2.1
    refine mT0_d (e := d + 29 + 1) (by omega) ?_
    refine e_trace (d + 29) h2 s ir o t pd bw Q h76 h77 hN hI tr h86 k (by rw [hir20]; exact nI_pos' (by omega)) ?_
    rw [show f_trace ir tr k = f_trace (fun _ => nI c9) tr k by unfold f_trace; rw [hir20]]
    exact K h2 (show WW L xs (B + 2) (U + 103) h2 from ⟨_, _, _, _, _, _, _, _, _, _, _, _, W2.1, W2.2.1, W2.2.2.1, W2.2.2.2.1, W2.2.2.2.2.1, W2.2.2.2.2.2.1, by have := W2.2.2.2.2.2.2.1; omega, by have := W2.2.2.2.2.2.2.2; omega⟩)
theorem c_count (L : Nat) (xs : Nat → Int32) (B U : Nat) (it : Int32) (s s2 tr : Nat → Int32) (c9 : Nat) (l : List Tok) (le mo nb : Nat) (bA bB : Nat → Nat) (bW : Nat → Bool) (h : mH) (W : WP L xs B U it s s2 tr c9 l le mo nb bA bB bW h) (w : Int32) : ∃ (ans : Int32) (M : mH → Prop), (∀ h2, M h2 → CM L xs h2 ∧ ∃ fs, h2 76 = .inr (10, fs)) ∧ (∀ (d : Nat) (Q : Option Value → mH → Prop), (∀ h2, M h2 → Q (some (.int ans)) h2) → mT0 (d + 30) z_X9_count 0 (m_init z_X9_count [.ref 20, .int w]) [] h Q) ∧ ∀ h2, M h2 → ∀ (d : Nat) (Q : Option Value → mH → Prop), (∀ h3, WW L xs (B + 2) (U + 103) h3 → Q (some (.int ans)) h3) → mT0 (d + 30) z_X10_count 0 (m_init z_X10_count [.ref 76, .int w]) [] h2 Q := by
  obtain ⟨c60, hS, ⟨i, iv, X⟩, hC, hM, hCM, hB, hU⟩ := id W
  obtain ⟨hI, hG, hBk, ⟨nt, ta, hT⟩, ⟨n6, mm, g, hn6, hn5, hmm, hm1, hs, hg⟩, hsK, hkd, h11⟩ := id hS
  have hX := hC.1
  have hle := hG.2.2.1.2
  have hmo := hG.2.2.2.2
  have hl140 := hG.1.2.1
  have hbk := hS.b
  have hnb8 := hBk.1
  have hnb := hBk.2.1
  have hPu := hC.c62
  have h72 := hC.c72
  have h73 := hC.c73
  have hSh := hC.2.2.2.1
  have hDu := hC.2.2.2.2.2.1
  have hOr := hC.2.2.2.2.2.2.2.1
  refine ⟨(if w = 5 then nI c9 else if 0 ≤ w ∧ w ≤ 4 then s (6 + w.toNatClampNeg) else -1), WP L xs B U it s s2 tr c9 l le mo nb bA bB bW, fun h2 W2 => ⟨W2.2.2.2.2.2.1, W2.2.2.2.2.1.r⟩, fun d Q K => ?_, fun h2 W2 d Q K => ?_⟩
  · skip
    obtain ⟨k0, n0, v0, h74⟩ := hC.2.2.2.2.2.2.2.2.2.2.1
    refine mT0_d (e := d + 30) (by omega) ?_
    refine x_count (d + 30) h Q it hX i iv s hI l le mo nb _ _ X (fun j => [nI c9, k0, n0, v0].getD j 0) 0 h74 w ?_
    exact K h W
  · skip
    obtain ⟨-, -, -, hC2, hM2, hCM2, -, -⟩ := id W2
    obtain ⟨ir, o, t, pd, bw, h76, h77, h78, hir4, h79, h80, h81, hot, hA, hCC, h84, h85, h86, hir20⟩ := hM2
    have hN := hCM2.2.1
    refine mT0_d (e := d + 29 + 1) (by omega) ?_
    refine e_count (d + 29) h2 s ir o t pd bw Q h76 h77 hN hI w ?_
    rw [hir20]
    exact K h2 (show WW L xs (B + 2) (U + 103) h2 from ⟨_, _, _, _, _, _, _, _, _, _, _, _, W2.1, W2.2.1, W2.2.2.1, W2.2.2.2.1, W2.2.2.2.2.1, W2.2.2.2.2.2.1, by have := W2.2.2.2.2.2.2.1; omega, by have := W2.2.2.2.2.2.2.2; omega⟩)
theorem c_push (L : Nat) (xs : Nat → Int32) (B U : Nat) (it : Int32) (s s2 tr : Nat → Int32) (c9 : Nat) (l : List Tok) (le mo nb : Nat) (bA bB : Nat → Nat) (bW : Nat → Bool) (h : mH) (W : WP L xs B U it s s2 tr c9 l le mo nb bA bB bW h) (x y : Int32) : ∃ (ans : Int32) (M : mH → Prop), (∀ h2, M h2 → CM L xs h2 ∧ ∃ fs, h2 76 = .inr (10, fs)) ∧ (∀ (d : Nat) (Q : Option Value → mH → Prop), (∀ h2, M h2 → Q (some (.int ans)) h2) → mT0 (d + 30) z_X9_push 0 (m_init z_X9_push [.ref 20, .int x, .int y]) [] h Q) ∧ ∀ h2, M h2 → ∀ (d : Nat) (Q : Option Value → mH → Prop), (∀ h3, WW L xs (B + 2) (U + 103) h3 → Q (some (.int ans)) h3) → mT0 (d + 30) z_X10_push 0 (m_init z_X10_push [.ref 76, .int x, .int y]) [] h2 Q := by
  obtain ⟨c60, hS, ⟨i, iv, X⟩, hC, hM, hCM, hB, hU⟩ := id W
  obtain ⟨hI, hG, hBk, ⟨nt, ta, hT⟩, ⟨n6, mm, g, hn6, hn5, hmm, hm1, hs, hg⟩, hsK, hkd, h11⟩ := id hS
  have hX := hC.1
  have hle := hG.2.2.1.2
  have hmo := hG.2.2.2.2
  have hl140 := hG.1.2.1
  have hbk := hS.b
  have hnb8 := hBk.1
  have hnb := hBk.2.1
  have hPu := hC.c62
  have h72 := hC.c72
  have h73 := hC.c73
  have hSh := hC.2.2.2.1
  have hDu := hC.2.2.2.2.2.1
  have hOr := hC.2.2.2.2.2.2.2.1
  refine ⟨aI (¬ (okP s x ∧ okP s y)) ((-10001)) (aI (x = y) ((-10002)) ((a_push s l (x.toNatClampNeg) (mm (x.toNatClampNeg)) (mm (y.toNatClampNeg)) g))), WP L xs B U it s s2 tr c9 l le mo nb bA bB bW, fun h2 W2 => ⟨W2.2.2.2.2.2.1, W2.2.2.2.2.1.r⟩, fun d Q K => ?_, fun h2 W2 d Q K => ?_⟩
  · skip
    refine mT0_d (e := d + 27 + 3) (by omega) ?_
    refine x_pushP (d + 27) h Q it hX i iv s hI l le mo nb _ _ X mm g hmm hs hg x y (fun v => ?_) (fun va vb e => ?_) (fun a b ha hb ix1 ix2 va vb hab h3 i3 f3 X3 => ?_)
    · have K9 := K h W
      rw [aI_p v] at K9
      exact K9
    · have K9 := K h W
      rw [aI_n (fun z => z ⟨va, vb⟩), aI_p e] at K9
      exact K9
    · subst ix1 ix2
      have K9 := K h3 (W.x (fun a z => f3 a (by omega)) ⟨_, _, X3⟩ (hC.f1 hCM f3))
      rw [aI_n (fun z => z ⟨va, vb⟩), aI_n (fun z => hab ((nI_eq (by omega) (by omega)).mp z)), i_cl a (by omega), i_cl b (by omega)] at K9
      exact K9
  · skip
    obtain ⟨-, -, -, hC2, hM2, hCM2, -, -⟩ := id W2
    obtain ⟨ir, o, t, pd, bw, h76, h77, h78, hir4, h79, h80, h81, hot, hA, hCC, h84, h85, h86, hir20⟩ := hM2
    have hN := hCM2.2.1
    refine mT0_d (e := d + 28 + 2) (by omega) ?_
    refine e_push (d + 28) h2 s ir o t pd bw Q h76 h77 hN hI hG mm g hmm hs hg h80 h81 x y (fun v => ?_) (fun va vb e => ?_) (fun a b ha hb ix1 ix2 va vb hab h3 r3 h773 => ?_)
    · have K9 := K h2 (show WW L xs (B + 2) (U + 103) h2 from ⟨_, _, _, _, _, _, _, _, _, _, _, _, W2.1, W2.2.1, W2.2.2.1, W2.2.2.2.1, W2.2.2.2.2.1, W2.2.2.2.2.2.1, by have := W2.2.2.2.2.2.2.1; omega, by have := W2.2.2.2.2.2.2.2; omega⟩)
      rw [aI_p v] at K9
      exact K9
    · have K9 := K h2 (show WW L xs (B + 2) (U + 103) h2 from ⟨_, _, _, _, _, _, _, _, _, _, _, _, W2.1, W2.2.1, W2.2.2.1, W2.2.2.2.1, W2.2.2.2.2.1, W2.2.2.2.2.2.1, by have := W2.2.2.2.2.2.2.1; omega, by have := W2.2.2.2.2.2.2.2; omega⟩)
      rw [aI_n (fun z => z ⟨va, vb⟩), aI_p e] at K9
      exact K9
    · subst ix1 ix2
      have K9 := K h3 (W2.e (r3.mono (by decide)).fe (MX.g (r3.mono (by decide)) h78 h86 ((r3.1 76 (by decide)).trans h76) h773 hir4 hir20 (ex_c h79 (r3.1 79 (by decide))) hot (ex_c hA (r3.1 o (by rcases hot with ⟨rfl, rfl⟩ | ⟨rfl, rfl⟩ <;> decide))) (ex_c hCC (r3.1 t (by rcases hot with ⟨rfl, rfl⟩ | ⟨rfl, rfl⟩ <;> decide))) (ex_c h84 (r3.1 84 (by decide))) (ex_c h85 (r3.1 85 (by decide)))))
      rw [aI_n (fun z => z ⟨va, vb⟩), aI_n (fun z => hab ((nI_eq (by omega) (by omega)).mp z)), i_cl a (by omega), i_cl b (by omega)] at K9
      exact K9
theorem c_odds (L : Nat) (xs : Nat → Int32) (B U : Nat) (it : Int32) (s s2 tr : Nat → Int32) (c9 : Nat) (l : List Tok) (le mo nb : Nat) (bA bB : Nat → Nat) (bW : Nat → Bool) (h : mH) (W : WP L xs B U it s s2 tr c9 l le mo nb bA bB bW h) (x y : Int32) : ∃ (ans : Int32) (M : mH → Prop), (∀ h2, M h2 → CM L xs h2 ∧ ∃ fs, h2 76 = .inr (10, fs)) ∧ (∀ (d : Nat) (Q : Option Value → mH → Prop), (∀ h2, M h2 → Q (some (.int ans)) h2) → mT0 (d + 30) z_X9_odds 0 (m_init z_X9_odds [.ref 20, .int x, .int y]) [] h Q) ∧ ∀ h2, M h2 → ∀ (d : Nat) (Q : Option Value → mH → Prop), (∀ h3, WW L xs (B + 2) (U + 103) h3 → Q (some (.int ans)) h3) → mT0 (d + 30) z_X10_odds 0 (m_init z_X10_odds [.ref 76, .int x, .int y]) [] h2 Q := by
  obtain ⟨c60, hS, ⟨i, iv, X⟩, hC, hM, hCM, hB, hU⟩ := id W
  obtain ⟨hI, hG, hBk, ⟨nt, ta, hT⟩, ⟨n6, mm, g, hn6, hn5, hmm, hm1, hs, hg⟩, hsK, hkd, h11⟩ := id hS
  have hX := hC.1
  have hle := hG.2.2.1.2
  have hmo := hG.2.2.2.2
  have hl140 := hG.1.2.1
  have hbk := hS.b
  have hnb8 := hBk.1
  have hnb := hBk.2.1
  have hPu := hC.c62
  have h72 := hC.c72
  have h73 := hC.c73
  have hSh := hC.2.2.2.1
  have hDu := hC.2.2.2.2.2.1
  have hOr := hC.2.2.2.2.2.2.2.1
  refine ⟨aI (¬ (okP s x ∧ okP s y)) ((-1)) (aI (x = y) ((-2)) ((nI (a_od s l (x.toNatClampNeg) (y.toNatClampNeg) (mm (x.toNatClampNeg)) (mm (y.toNatClampNeg)) g)))), WP L xs B U it s s2 tr c9 l le mo nb bA bB bW, fun h2 W2 => ⟨W2.2.2.2.2.2.1, W2.2.2.2.2.1.r⟩, fun d Q K => ?_, fun h2 W2 d Q K => ?_⟩
  · skip
    refine mT0_d (e := d + 25 + 5) (by omega) ?_
    refine x_oddsP (d + 25) h Q it hX i iv s hI l le mo nb _ _ X mm g hmm hs hg x y (fun v => ?_) (fun va vb e => ?_) (fun a b ha hb ix1 ix2 va vb hab h3 i3 f3 X3 => ?_)
    · have K9 := K h W
      rw [aI_p v] at K9
      exact K9
    · have K9 := K h W
      rw [aI_n (fun z => z ⟨va, vb⟩), aI_p e] at K9
      exact K9
    · subst ix1 ix2
      have K9 := K h3 (W.x (fun a z => f3 a (by omega)) ⟨_, _, X3⟩ (hC.f1 hCM f3))
      rw [aI_n (fun z => z ⟨va, vb⟩), aI_n (fun z => hab ((nI_eq (by omega) (by omega)).mp z)), i_cl a (by omega), i_cl b (by omega)] at K9
      exact K9
  · skip
    obtain ⟨-, -, -, hC2, hM2, hCM2, -, -⟩ := id W2
    obtain ⟨ir, o, t, pd, bw, h76, h77, h78, hir4, h79, h80, h81, hot, hA, hCC, h84, h85, h86, hir20⟩ := hM2
    have hN := hCM2.2.1
    refine mT0_d (e := d + 27 + 3) (by omega) ?_
    refine e_odds (d + 27) h2 s ir o t pd bw Q h76 h77 hN hI hG mm g hmm hs hg h80 h81 x y (fun v => ?_) (fun va vb e => ?_) (fun a b ha hb ix1 ix2 va vb hab h3 r3 h773 => ?_)
    · have K9 := K h2 (show WW L xs (B + 2) (U + 103) h2 from ⟨_, _, _, _, _, _, _, _, _, _, _, _, W2.1, W2.2.1, W2.2.2.1, W2.2.2.2.1, W2.2.2.2.2.1, W2.2.2.2.2.2.1, by have := W2.2.2.2.2.2.2.1; omega, by have := W2.2.2.2.2.2.2.2; omega⟩)
      rw [aI_p v] at K9
      exact K9
    · have K9 := K h2 (show WW L xs (B + 2) (U + 103) h2 from ⟨_, _, _, _, _, _, _, _, _, _, _, _, W2.1, W2.2.1, W2.2.2.1, W2.2.2.2.1, W2.2.2.2.2.1, W2.2.2.2.2.2.1, by have := W2.2.2.2.2.2.2.1; omega, by have := W2.2.2.2.2.2.2.2; omega⟩)
      rw [aI_n (fun z => z ⟨va, vb⟩), aI_p e] at K9
      exact K9
    · subst ix1 ix2
      have K9 := K h3 (W2.e (r3.mono (by decide)).fe (MX.g (r3.mono (by decide)) h78 h86 ((r3.1 76 (by decide)).trans h76) h773 hir4 hir20 (ex_c h79 (r3.1 79 (by decide))) hot (ex_c hA (r3.1 o (by rcases hot with ⟨rfl, rfl⟩ | ⟨rfl, rfl⟩ <;> decide))) (ex_c hCC (r3.1 t (by rcases hot with ⟨rfl, rfl⟩ | ⟨rfl, rfl⟩ <;> decide))) (ex_c h84 (r3.1 84 (by decide))) (ex_c h85 (r3.1 85 (by decide)))))
      rw [aI_n (fun z => z ⟨va, vb⟩), aI_n (fun z => hab ((nI_eq (by omega) (by omega)).mp z)), i_cl a (by omega), i_cl b (by omega)] at K9
      exact K9
theorem c_even (L : Nat) (xs : Nat → Int32) (B U : Nat) (it : Int32) (s s2 tr : Nat → Int32) (c9 : Nat) (l : List Tok) (le mo nb : Nat) (bA bB : Nat → Nat) (bW : Nat → Bool) (h : mH) (W : WP L xs B U it s s2 tr c9 l le mo nb bA bB bW h) (x y : Int32) : ∃ (ans : Int32) (M : mH → Prop), (∀ h2, M h2 → CM L xs h2 ∧ ∃ fs, h2 76 = .inr (10, fs)) ∧ (∀ (d : Nat) (Q : Option Value → mH → Prop), (∀ h2, M h2 → Q (some (.int ans)) h2) → mT0 (d + 30) z_X9_even 0 (m_init z_X9_even [.ref 20, .int x, .int y]) [] h Q) ∧ ∀ h2, M h2 → ∀ (d : Nat) (Q : Option Value → mH → Prop), (∀ h3, WW L xs (B + 2) (U + 103) h3 → Q (some (.int ans)) h3) → mT0 (d + 30) z_X10_even 0 (m_init z_X10_even [.ref 76, .int x, .int y]) [] h2 Q := by
  obtain ⟨c60, hS, ⟨i, iv, X⟩, hC, hM, hCM, hB, hU⟩ := id W
  obtain ⟨hI, hG, hBk, ⟨nt, ta, hT⟩, ⟨n6, mm, g, hn6, hn5, hmm, hm1, hs, hg⟩, hsK, hkd, h11⟩ := id hS
  have hX := hC.1
  have hle := hG.2.2.1.2
  have hmo := hG.2.2.2.2
  have hl140 := hG.1.2.1
  have hbk := hS.b
  have hnb8 := hBk.1
  have hnb := hBk.2.1
  have hPu := hC.c62
  have h72 := hC.c72
  have h73 := hC.c73
  have hSh := hC.2.2.2.1
  have hDu := hC.2.2.2.2.2.1
  have hOr := hC.2.2.2.2.2.2.2.1
  refine ⟨aI (¬ (okP s x ∧ okP s y)) ((-1)) (aI (x = y) ((-2)) ((nI (nE (fun m => a_od s l (x.toNatClampNeg) (y.toNatClampNeg) m (mm (y.toNatClampNeg)) g) 20 1 0 99)))), WP L xs B U it s s2 tr c9 l le mo nb bA bB bW, fun h2 W2 => ⟨W2.2.2.2.2.2.1, W2.2.2.2.2.1.r⟩, fun d Q K => ?_, fun h2 W2 d Q K => ?_⟩
  · skip
    refine mT0_d (e := d + 26 + 4) (by omega) ?_
    refine x_evenP (d + 26) h Q it hX i iv s hI l le mo nb _ _ X mm g hmm hs hg x y (fun v => ?_) (fun va vb e => ?_) (fun a b ha hb ix1 ix2 va vb hab h3 i3 f3 X3 => ?_)
    · have K9 := K h W
      rw [aI_p v] at K9
      exact K9
    · have K9 := K h W
      rw [aI_n (fun z => z ⟨va, vb⟩), aI_p e] at K9
      exact K9
    · subst ix1 ix2
      have K9 := K h3 (W.x (fun a z => f3 a (by omega)) ⟨_, _, X3⟩ (hC.f1 hCM f3))
      rw [aI_n (fun z => z ⟨va, vb⟩), aI_n (fun z => hab ((nI_eq (by omega) (by omega)).mp z)), i_cl a (by omega), i_cl b (by omega)] at K9
      exact K9
  · skip
    obtain ⟨-, -, -, hC2, hM2, hCM2, -, -⟩ := id W2
    obtain ⟨ir, o, t, pd, bw, h76, h77, h78, hir4, h79, h80, h81, hot, hA, hCC, h84, h85, h86, hir20⟩ := hM2
    have hN := hCM2.2.1
    refine mT0_d (e := d + 27 + 3) (by omega) ?_
    refine e_even (d + 27) h2 s ir o t pd bw Q h76 h77 hN hI hG mm g hmm hs hg h80 h81 x y (fun v => ?_) (fun va vb e => ?_) (fun a b ha hb ix1 ix2 va vb hab h3 r3 h773 => ?_)
    · have K9 := K h2 (show WW L xs (B + 2) (U + 103) h2 from ⟨_, _, _, _, _, _, _, _, _, _, _, _, W2.1, W2.2.1, W2.2.2.1, W2.2.2.2.1, W2.2.2.2.2.1, W2.2.2.2.2.2.1, by have := W2.2.2.2.2.2.2.1; omega, by have := W2.2.2.2.2.2.2.2; omega⟩)
      rw [aI_p v] at K9
      exact K9
    · have K9 := K h2 (show WW L xs (B + 2) (U + 103) h2 from ⟨_, _, _, _, _, _, _, _, _, _, _, _, W2.1, W2.2.1, W2.2.2.1, W2.2.2.2.1, W2.2.2.2.2.1, W2.2.2.2.2.2.1, by have := W2.2.2.2.2.2.2.1; omega, by have := W2.2.2.2.2.2.2.2; omega⟩)
      rw [aI_n (fun z => z ⟨va, vb⟩), aI_p e] at K9
      exact K9
    · subst ix1 ix2
      have K9 := K h3 (W2.e (r3.mono (by decide)).fe (MX.g (r3.mono (by decide)) h78 h86 ((r3.1 76 (by decide)).trans h76) h773 hir4 hir20 (ex_c h79 (r3.1 79 (by decide))) hot (ex_c hA (r3.1 o (by rcases hot with ⟨rfl, rfl⟩ | ⟨rfl, rfl⟩ <;> decide))) (ex_c hCC (r3.1 t (by rcases hot with ⟨rfl, rfl⟩ | ⟨rfl, rfl⟩ <;> decide))) (ex_c h84 (r3.1 84 (by decide))) (ex_c h85 (r3.1 85 (by decide)))))
      rw [aI_n (fun z => z ⟨va, vb⟩), aI_n (fun z => hab ((nI_eq (by omega) (by omega)).mp z)), i_cl a (by omega), i_cl b (by omega)] at K9
      exact K9