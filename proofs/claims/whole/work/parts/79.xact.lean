/-! By program (wip/whole/book*.py) and hand. -/
theorem a_movesA (d : Nat) (h : mH) (Q : Option Value → mH → Prop) (hN : 87 ≤ m_nx h) (h3 : h 3 = .inl (0, 7, .inl (k_tab k_ABOVE))) (h4 : h 4 = .inl (0, 7, .inl (k_tab k_MOVES))) (h5 : h 5 = .inl (0, 7, .inl (k_tab k_BETS))) (h6 : h 6 = .inl (0, 7, .inl (k_tab k_TELLS))) (kd : Int32) (num v : Int32) (p : (Nat → Int32) × Nat) (hp : p.2 < 28) (x : Int32) : ∀ (k : Nat), k ≤ 6 → Q (some (.int (v_moves (nI k) num x))) (aH h kd num v (t_puts p (b_moves (nI k)))) → mT0 (d + 2) z_X0_moves 0 (m_init z_X0_moves [.ref 74, .int (nI k), .int x]) [] (aH h kd num v p) Q
  | 0, _, K => a_moves_0 (d + 1) h Q hN h3 h4 h5 h6 kd num v p (by omega) x K
  | 1, _, K => a_moves_1 d h Q hN h3 h4 h5 h6 kd num v p (by omega) x K
  | 2, _, K => a_moves_2 (d + 1) h Q hN h3 h4 h5 h6 kd num v p (by omega) x K
  | 3, _, K => a_moves_3 (d + 1) h Q hN h3 h4 h5 h6 kd num v p (by omega) x K
  | 4, _, K => a_moves_4 d h Q hN h3 h4 h5 h6 kd num v p (by omega) x K
  | 5, _, K => a_moves_5 d h Q hN h3 h4 h5 h6 kd num v p (by omega) x K
  | 6, _, K => a_moves_6 (d + 1) h Q hN h3 h4 h5 h6 kd num v p (by omega) x K
  | k + 7, hk, _ => absurd hk (by omega)
theorem a_betsA (d : Nat) (h : mH) (Q : Option Value → mH → Prop) (hN : 87 ≤ m_nx h) (h3 : h 3 = .inl (0, 7, .inl (k_tab k_ABOVE))) (h4 : h 4 = .inl (0, 7, .inl (k_tab k_MOVES))) (h5 : h 5 = .inl (0, 7, .inl (k_tab k_BETS))) (h6 : h 6 = .inl (0, 7, .inl (k_tab k_TELLS))) (num v : Int32) (p : (Nat → Int32) × Nat) (hp : p.2 < 28) (x : Int32) : ∀ (k : Nat), k ≤ 6 → Q (some (.int (v_bets (nI k) num v x))) (aH h (nI k) num v (t_puts p (b_bets (nI k)))) → mT0 (d + 5) z_X0_bets 0 (m_init z_X0_bets [.ref 74, .int (nI k), .int x]) [] (aH h (nI k) num v p) Q
  | 0, _, K => a_betsT_0 d h Q hN h3 h4 h5 h6 num v p (by omega) x K
  | 1, _, K => a_betsT_1 d h Q hN h3 h4 h5 h6 num v p (by omega) x K
  | 2, _, K => a_bets_2_2 d h Q hN h3 h4 h5 h6 num v p (by omega) x K
  | 3, _, K => a_betsT_3 d h Q hN h3 h4 h5 h6 num v p (by omega) x K
  | 4, _, K => a_betsT_4 d h Q hN h3 h4 h5 h6 num v p (by omega) x K
  | 5, _, K => a_bets_5_5 d h Q hN h3 h4 h5 h6 num v p (by omega) x K
  | 6, _, K => a_bets_6_6 d h Q hN h3 h4 h5 h6 num v p (by omega) x K
  | k + 7, hk, _ => absurd hk (by omega)
theorem a_tellsA (d : Nat) (h : mH) (Q : Option Value → mH → Prop) (hN : 87 ≤ m_nx h) (h3 : h 3 = .inl (0, 7, .inl (k_tab k_ABOVE))) (h4 : h 4 = .inl (0, 7, .inl (k_tab k_MOVES))) (h5 : h 5 = .inl (0, 7, .inl (k_tab k_BETS))) (h6 : h 6 = .inl (0, 7, .inl (k_tab k_TELLS))) (num v : Int32) (p : (Nat → Int32) × Nat) (hp : p.2 < 28) (x : Int32) : ∀ (k : Nat), k ≤ 6 → Q (some (.int (v_tells (nI k) num v x))) (aH h (nI k) num v (t_puts p (b_tells (nI k)))) → mT0 (d + 7) z_X0_tells 0 (m_init z_X0_tells [.ref 74, .int (nI k), .int x]) [] (aH h (nI k) num v p) Q
  | 0, _, K => a_tellsT_0 d h Q hN h3 h4 h5 h6 num v p (by omega) x K
  | 1, _, K => a_tellsT_1 d h Q hN h3 h4 h5 h6 num v p (by omega) x K
  | 2, _, K => a_tellsT_2 d h Q hN h3 h4 h5 h6 num v p (by omega) x K
  | 3, _, K => a_tells_3_3 d h Q hN h3 h4 h5 h6 num v p (by omega) x K
  | 4, _, K => a_tells_4_4 d h Q hN h3 h4 h5 h6 num v p (by omega) x K
  | 5, _, K => a_tellsT_5 d h Q hN h3 h4 h5 h6 num v p (by omega) x K
  | 6, _, K => a_tells_6_6 d h Q hN h3 h4 h5 h6 num v p (by omega) x K
  | k + 7, hk, _ => absurd hk (by omega)
theorem aH_up {h : mH} {e : mE} {a b c : Int32} {p : (Nat → Int32) × Nat} : aH (m_up h 74 e) a b c p = aH h a b c p := by
  unfold aH
  funext k
  unfold m_up
  cases Nat.beq k 74 <;> cases Nat.beq k 75 <;> rfl
theorem aH_0 {h : mH} {tr : Nat → Int32} {a b c : Int32} (h75 : h 75 = .inl (0, 20, .inl tr)) : m_up h 74 (.inr (0, [.ref 75, .int 0, .int a, .int b, .int c])) = aH h a b c (tr, 0) := by
  unfold aH
  rw [m_up_id h75]
  rfl
theorem x_does (d : Nat) (h : mH) (Q : Option Value → mH → Prop) (hN : 87 ≤ m_nx h) (h3 : h 3 = .inl (0, 7, .inl (k_tab k_ABOVE))) (h4 : h 4 = .inl (0, 7, .inl (k_tab k_MOVES))) (h5 : h 5 = .inl (0, 7, .inl (k_tab k_BETS))) (h6 : h 6 = .inl (0, 7, .inl (k_tab k_TELLS)))  (tr : Nat → Int32) (h75 : h 75 = .inl (0, 20, .inl tr)) (k0 n0 v0 : Int32) (h74 : h 74 = .inr (0, [.ref 75, .int 0, .int k0, .int n0, .int v0])) (a x num v : Int32) (k : Nat) (hk : k ≤ 6) (K0 : ¬ (0 ≤ a ∧ a ≤ 2) → Q (some (.int 0)) (aH h (nI k) num v (tr, 0))) (K1 : 0 ≤ a → a ≤ 2 → Q (some (.int (v_act (nI k) num v a x))) (aH h (nI k) num v (t_puts (tr, 0) (b_act (nI k) a))))  : mT0 (d + 8) z_X0_does 0 (m_init z_X0_does [.ref 74, .int a, .int x, .int (nI k), .int num, .int v]) [] h Q := by
  iterate 2 refine mT_s rfl rfl ?_
  (apply mT_putfN; (case hc => rfl); (case ha => first | rfl | assumption); (case hN => assumption); (case hg => rfl))
  iterate 2 refine mT_s rfl rfl ?_
  (apply mT_putfN; (case hc => rfl); (case ha => first | rfl | assumption); (case hN => assumption); (case hg => rfl))
  iterate 2 refine mT_s rfl rfl ?_
  (apply mT_putfN; (case hc => rfl); (case ha => first | rfl | assumption); (case hN => assumption); (case hg => rfl))
  refine mT_s rfl rfl ?_
  refine mT_tswc (v := 0) (t := 44) rfl rfl rfl (fun c18_0 => ?_) (fun c18_0 => ?_)
  · iterate 2 refine mT_s rfl rfl ?_
    (apply mT_getf; (case hc => rfl); (case ha => first | rfl | assumption); (case hf => first | rfl | assumption))
    refine mT_s rfl rfl ?_
    refine mT_c rfl rfl ?_
    simp only [m_up_up]
    rw [show m_up h 74 (.inr (0, ((([Value.ref 75, .int 0, .int k0, .int n0, .int v0].set 2 (.int (nI k))).set 3 (.int num)).set 4 (.int v)))) = aH h (nI k) num v (tr, 0) from aH_0 h75]
    refine a_movesA _ h _ hN h3 h4 h5 h6 (nI k) num v _ (by show 0 < 28; decide) _ k hk ?_
    refine mT_ret rfl rfl ?_
    subst c18_0
    have K1 := K1 (by decide) (by decide)
    unfold v_act b_act at K1
    rw [if_pos rfl, if_pos rfl] at K1
    exact K1
  refine mT_tswc (v := 1) (t := 54) rfl rfl rfl (fun c18_1 => ?_) (fun c18_1 => ?_)
  · iterate 2 refine mT_s rfl rfl ?_
    (apply mT_getf; (case hc => rfl); (case ha => first | rfl | assumption); (case hf => first | rfl | assumption))
    refine mT_s rfl rfl ?_
    refine mT_c rfl rfl ?_
    simp only [m_up_up]
    rw [show m_up h 74 (.inr (0, ((([Value.ref 75, .int 0, .int k0, .int n0, .int v0].set 2 (.int (nI k))).set 3 (.int num)).set 4 (.int v)))) = aH h (nI k) num v (tr, 0) from aH_0 h75]
    refine a_betsA _ h _ hN h3 h4 h5 h6 num v _ (by show 0 < 28; decide) _ k hk ?_
    refine mT_ret rfl rfl ?_
    subst c18_1
    have K1 := K1 (by decide) (by decide)
    unfold v_act b_act at K1
    rw [if_neg (by decide), if_pos rfl, if_neg (by decide), if_pos rfl] at K1
    exact K1
  refine mT_tswc (v := 2) (t := 64) rfl rfl rfl (fun c18_2 => ?_) (fun c18_2 => ?_)
  · iterate 2 refine mT_s rfl rfl ?_
    (apply mT_getf; (case hc => rfl); (case ha => first | rfl | assumption); (case hf => first | rfl | assumption))
    refine mT_s rfl rfl ?_
    refine mT_c rfl rfl ?_
    simp only [m_up_up]
    rw [show m_up h 74 (.inr (0, ((([Value.ref 75, .int 0, .int k0, .int n0, .int v0].set 2 (.int (nI k))).set 3 (.int num)).set 4 (.int v)))) = aH h (nI k) num v (tr, 0) from aH_0 h75]
    refine a_tellsA _ h _ hN h3 h4 h5 h6 num v _ (by show 0 < 28; decide) _ k hk ?_
    refine mT_ret rfl rfl ?_
    subst c18_2
    have K1 := K1 (by decide) (by decide)
    unfold v_act b_act at K1
    rw [if_neg (by decide), if_neg (by decide), if_neg (by decide), if_neg (by decide)] at K1
    exact K1
  refine mT_tswd rfl (by have z0 := sw_ne (v := 0) (n := 0) rfl c18_0; have z1 := sw_ne (v := 1) (n := 1) rfl c18_1; have z2 := sw_ne (v := 2) (n := 2) rfl c18_2; omega) ?_
  refine mT_s rfl rfl ?_
  refine mT_ret rfl rfl ?_
  simp only [m_up_up]
  rw [show m_up h 74 (.inr (0, ((([Value.ref 75, .int 0, .int k0, .int n0, .int v0].set 2 (.int (nI k))).set 3 (.int num)).set 4 (.int v)))) = aH h (nI k) num v (tr, 0) from aH_0 h75]
  exact K0 (fun z => by
    obtain ⟨w9, hw9, e9⟩ := i_nat (n := 2) z.1 z.2 (by omega)
    have : w9 = 0 ∨ w9 = 1 ∨ w9 = 2 := by omega
    rcases this with rfl | rfl | rfl
    · exact c18_0 e9
    · exact c18_1 e9
    · exact c18_2 e9)

theorem x_kept (d : Nat) (h : mH) (Q : Option Value → mH → Prop)  (c k0 n0 v0 : Int32) (h74 : h 74 = .inr (0, [.ref 75, .int c, .int k0, .int n0, .int v0])) (K : Q (some (.int (if 20 < c then 20 else c))) h) : mT0 d z_X0_kept 0 (m_init z_X0_kept [.ref 74]) [] h Q := by
  refine mT_s rfl rfl ?_
  (apply mT_getf; (case hc => rfl); (case ha => first | rfl | assumption); (case hf => first | rfl | assumption))
  iterate 2 refine mT_s rfl rfl ?_
  refine mT_ret rfl rfl ?_
  exact K

theorem x_forget (d : Nat) (h : mH) (Q : Option Value → mH → Prop)  (hN : 87 ≤ m_nx h) (c k0 n0 v0 : Int32) (h74 : h 74 = .inr (0, [.ref 75, .int c, .int k0, .int n0, .int v0])) (K : Q none (m_up h 74 (.inr (0, [.ref 75, .int 0, .int k0, .int n0, .int v0])))) : mT0 d z_X0_forget 0 (m_init z_X0_forget [.ref 74]) [] h Q := by
  iterate 2 refine mT_s rfl rfl ?_
  (apply mT_putfN; (case hc => rfl); (case ha => first | rfl | assumption); (case hN => assumption); (case hg => rfl))
  refine mT_ret rfl rfl ?_
  exact K

theorem x_act (d : Nat) (h : mH) (Q : Option Value → mH → Prop) (it : Int32) (hX : h 20 = .inr (9, xObj it)) (i : Nat → Int32) (iv : Value) (s : Nat → Int32) (hI : s_Inv s) (l : List Tok) (le mo nb : Nat) (wi lo : Nat → Nat) (X : XR 21 h i iv s l le mo nb wi lo) (tr : Nat → Int32) (c k0 n0 v0 : Int32) (h74 : h 74 = .inr (0, [.ref 75, .int c, .int k0, .int n0, .int v0])) (h75 : h 75 = .inl (0, 20, .inl tr)) (h3 : h 3 = .inl (0, 7, .inl (k_tab k_ABOVE))) (h4 : h 4 = .inl (0, 7, .inl (k_tab k_MOVES))) (h5 : h 5 = .inl (0, 7, .inl (k_tab k_BETS))) (h6 : h 6 = .inl (0, 7, .inl (k_tab k_TELLS)))  (hkd : ∀ j : Nat, okP s (nI j) → j < 5 → ∃ k : Nat, k ≤ 6 ∧ s (12 + j) = nI k) (p a x : Int32) (K0 : ¬ (okP s p ∧ 0 ≤ a ∧ a ≤ 2) → ∀ k9 n9 v9, Q (some (.int 0)) (aH h k9 n9 v9 (tr, 0))) (K1 : ∀ j : Nat, j < 5 → p = nI j → okP s p → 0 ≤ a → a ≤ 2 → ∀ k9 n9 v9, Q (some (.int (v_act (s (12 + j)) (nI j) (s (17 + j)) a x))) (aH h k9 n9 v9 (t_puts (tr, 0) (b_act (s (12 + j)) a)))) : mT0 (d + 10) z_X9_act 0 (m_init z_X9_act [.ref 20, .int p, .int a, .int x]) [] h Q := by
  obtain ⟨B, XM, XT, XA, XB, XL, i0, i1, i2, i3, i4, i5⟩ := id X
  obtain ⟨hR, hN, hV, hwt, hK, hV5, hW, h9⟩ := id B
  obtain ⟨n, hn5, hn6⟩ := hI.1
  have hi0 := i0.trans hn6
  obtain ⟨fk, hk, ek⟩ := id hK
  obtain ⟨fv, hv, ev⟩ := id hV5
  obtain ⟨fm, hm, em⟩ := id XM
  obtain ⟨fw, hw, ew⟩ := id hW
  obtain ⟨ft, ht, et⟩ := id XT
  obtain ⟨fa, hfa, ea⟩ := id XA
  obtain ⟨fb, hb, eb⟩ := id XB
  obtain ⟨fl, hfl, el⟩ := id XL
  refine mT_s rfl rfl ?_
  (apply mT_getf; (case hc => rfl); (case ha => first | rfl | assumption); (case hf => first | rfl | assumption))
  (apply mT_inv; (case hc => rfl); (case hd => rfl); (case hb => first | rfl | assumption); (case hg => rfl))
  refine x_forget _ h _ hN c k0 n0 v0 h74 ?_
  iterate 2 refine mT_s rfl rfl ?_
  (apply mT_inv; (case hc => rfl); (case hd => rfl); (case hb => first | rfl | assumption); (case hg => rfl))
  refine x_isNobody _ (m_up h 74 _) _ it hX i iv hR s n hn5 hn6 hi0 _ (fun v9 => ?_) (fun j9 hj9 ix1 v9 => ?_)
  · iterate 2 refine mT_s rfl rfl ?_
    refine mT_ret rfl rfl ?_
    rw [aH_0 h75]
    exact K0 (fun z => v9 z.1) _ _ _
  · iterate 2 refine mT_s rfl rfl ?_
    (apply mT_getf; (case hc => rfl); (case ha => first | rfl | assumption); (case hf => first | rfl | assumption))
    iterate 3 refine mT_s rfl rfl ?_
    (apply mT_getf; (case hc => rfl); (case ha => first | rfl | assumption); (case hf => first | rfl | assumption))
    (apply mT_getf; (case hc => rfl); (case ha => first | rfl | assumption); (case hf => first | rfl | assumption))
    refine mT_s rfl rfl ?_
    (apply mT_ialdK; (case hc => rfl); (case ha => first | rfl | assumption); (case hk => first | (simp only [ki_0, ki_1, ki_2, ki_3, ki_4, ki_5, ki_6, ki_7, ki_8, ki_9, ki_10, ki_11, ki_12, ki_17, ki_20, ki_21, ki_22, ki_42, ki_50, ki_58, ki_66, ki_74, ki_140, ki_174, ki_179, ki_184, ki_189, ki_441, nI_add, pk_mul]; with_reducible rfl) | (simp only [ki_0, ki_1, ki_2, ki_3, ki_4, ki_5, ki_6, ki_7, ki_8, ki_9, ki_10, ki_11, ki_12, ki_17, ki_20, ki_21, ki_22, ki_42, ki_50, ki_58, ki_66, ki_74, ki_140, ki_174, ki_179, ki_184, ki_189, ki_441, ix1, nI_add, pk_mul]; with_reducible rfl) | (simp only [ki_0, ki_1, ki_2, ki_3, ki_4, ki_5, ki_6, ki_7, ki_8, ki_9, ki_10, ki_11, ki_12, ki_17, ki_20, ki_21, ki_22, ki_42, ki_50, ki_58, ki_66, ki_74, ki_140, ki_174, ki_179, ki_184, ki_189, ki_441, ix1, ix2, nI_add, pk_mul]; with_reducible rfl) | (simp only [ki_0, ki_1, ki_2, ki_3, ki_4, ki_5, ki_6, ki_7, ki_8, ki_9, ki_10, ki_11, ki_12, ki_17, ki_20, ki_21, ki_22, ki_42, ki_50, ki_58, ki_66, ki_74, ki_140, ki_174, ki_179, ki_184, ki_189, ki_441, ix1, ix2, ix3, nI_add, pk_mul]; with_reducible rfl) | (simp (disch := omega) only [upd_n, ki_0, ki_1, ki_2, ki_3, ki_4, ki_5, ki_6, ki_7, ki_8, ki_9, ki_10, ki_11, ki_12, ki_17, ki_20, ki_21, ki_22, ki_42, ki_50, ki_58, ki_66, ki_74, ki_140, ki_174, ki_179, ki_184, ki_189, ki_441, ix1, nI_add, pk_mul]; with_reducible rfl) | (simp (disch := omega) only [upd_n, ki_0, ki_1, ki_2, ki_3, ki_4, ki_5, ki_6, ki_7, ki_8, ki_9, ki_10, ki_11, ki_12, ki_17, ki_20, ki_21, ki_22, ki_42, ki_50, ki_58, ki_66, ki_74, ki_140, ki_174, ki_179, ki_184, ki_189, ki_441, ix1, ix2, nI_add, pk_mul]; with_reducible rfl) | rfl); (case hlt => first | decide | omega); (case hn => first | decide | omega))
    iterate 2 refine mT_s rfl rfl ?_
    (apply mT_getf; (case hc => rfl); (case ha => first | rfl | assumption); (case hf => first | rfl | assumption))
    (apply mT_getf; (case hc => rfl); (case ha => first | rfl | assumption); (case hf => first | rfl | assumption))
    refine mT_s rfl rfl ?_
    (apply mT_ialdK; (case hc => rfl); (case ha => first | rfl | assumption); (case hk => first | (simp only [ki_0, ki_1, ki_2, ki_3, ki_4, ki_5, ki_6, ki_7, ki_8, ki_9, ki_10, ki_11, ki_12, ki_17, ki_20, ki_21, ki_22, ki_42, ki_50, ki_58, ki_66, ki_74, ki_140, ki_174, ki_179, ki_184, ki_189, ki_441, nI_add, pk_mul]; with_reducible rfl) | (simp only [ki_0, ki_1, ki_2, ki_3, ki_4, ki_5, ki_6, ki_7, ki_8, ki_9, ki_10, ki_11, ki_12, ki_17, ki_20, ki_21, ki_22, ki_42, ki_50, ki_58, ki_66, ki_74, ki_140, ki_174, ki_179, ki_184, ki_189, ki_441, ix1, nI_add, pk_mul]; with_reducible rfl) | (simp only [ki_0, ki_1, ki_2, ki_3, ki_4, ki_5, ki_6, ki_7, ki_8, ki_9, ki_10, ki_11, ki_12, ki_17, ki_20, ki_21, ki_22, ki_42, ki_50, ki_58, ki_66, ki_74, ki_140, ki_174, ki_179, ki_184, ki_189, ki_441, ix1, ix2, nI_add, pk_mul]; with_reducible rfl) | (simp only [ki_0, ki_1, ki_2, ki_3, ki_4, ki_5, ki_6, ki_7, ki_8, ki_9, ki_10, ki_11, ki_12, ki_17, ki_20, ki_21, ki_22, ki_42, ki_50, ki_58, ki_66, ki_74, ki_140, ki_174, ki_179, ki_184, ki_189, ki_441, ix1, ix2, ix3, nI_add, pk_mul]; with_reducible rfl) | (simp (disch := omega) only [upd_n, ki_0, ki_1, ki_2, ki_3, ki_4, ki_5, ki_6, ki_7, ki_8, ki_9, ki_10, ki_11, ki_12, ki_17, ki_20, ki_21, ki_22, ki_42, ki_50, ki_58, ki_66, ki_74, ki_140, ki_174, ki_179, ki_184, ki_189, ki_441, ix1, nI_add, pk_mul]; with_reducible rfl) | (simp (disch := omega) only [upd_n, ki_0, ki_1, ki_2, ki_3, ki_4, ki_5, ki_6, ki_7, ki_8, ki_9, ki_10, ki_11, ki_12, ki_17, ki_20, ki_21, ki_22, ki_42, ki_50, ki_58, ki_66, ki_74, ki_140, ki_174, ki_179, ki_184, ki_189, ki_441, ix1, ix2, nI_add, pk_mul]; with_reducible rfl) | rfl); (case hlt => first | decide | omega); (case hn => first | decide | omega))
    (apply mT_inv; (case hc => rfl); (case hd => rfl); (case hb => first | rfl | assumption); (case hg => rfl))
    obtain ⟨k, hk6, ekd⟩ := hkd j9 (ix1 ▸ v9) hj9
    rw [ek j9 hj9, ev j9 hj9, ekd, ix1]
    refine x_does _ (m_up h 74 _) _ hN h3 h4 h5 h6 tr h75 k0 n0 v0 rfl _ _ (nI j9) (s (17 + j9)) k hk6 (fun z => ?_) (fun z1 z2 => ?_)
    · skip
      refine mT_ret rfl rfl ?_
      rw [aH_up]
      exact K0 (fun y => z y.2) _ _ _
    · skip
      refine mT_ret rfl rfl ?_
      rw [aH_up]
      have K1 := K1 j9 hj9 ix1 v9 z1 z2 (nI k) (nI j9) (s (17 + j9))
      rw [ekd] at K1
      exact K1

theorem tr_e {c9 : Nat} (hc9 : c9 < 60) : (if (20 : Int32) ≤ nI c9 then 20 else nI c9) = nI (if 20 < c9 then 20 else c9) := by
  by_cases z : 20 < c9
  · rw [if_pos z, if_pos (show (20 : Int32) ≤ nI c9 from nI_le (a := 20) (by omega) (by omega))]
    rfl
  · rw [if_neg z]
    by_cases z2 : c9 = 20
    · subst z2
      rfl
    · rw [if_neg (show ¬ (20 : Int32) ≤ nI c9 from nI_ge (b := 20) (by omega) (by omega))]
theorem tr_c {c9 : Nat} (hc9 : c9 < 60) : (if (20 : Int32) < nI c9 then 20 else nI c9) = nI (if 20 < c9 then 20 else c9) := by
  by_cases z : 20 < c9
  · rw [if_pos z, if_pos (show (20 : Int32) < nI c9 from nI_lt (a := 20) z (by omega))]
    rfl
  · rw [if_neg z, if_neg (show ¬ (20 : Int32) < nI c9 from Int32.not_lt.mpr (nI_le (b := 20) (by omega) (by omega)))]
theorem tr_l {m : Nat} (hm : m < 100) : nI m - 1 ≤ nI 100 := by
  cases m with
  | zero => decide
  | succ m => rw [nI_pred]; exact nI_le (by omega) (by omega)
theorem tr_b {k : Int32} {k9 m : Nat} (hk : k = nI k9) (hm : m < 100) (h9 : k9 < 1000) : k ≤ nI m - 1 ↔ k9 < m := by
  subst hk
  cases m with
  | zero =>
    constructor
    · intro z
      exact absurd (Int32.le_trans (nI_pos' (n := k9) (by omega)) z) (by decide)
    · intro z; omega
  | succ m =>
    rw [nI_pred, nI_leI (by omega) (by omega)]
    omega
theorem x_trace (d : Nat) (h : mH) (Q : Option Value → mH → Prop) (it : Int32) (hX : h 20 = .inr (9, xObj it)) (i : Nat → Int32) (iv : Value) (s : Nat → Int32) (hI : s_Inv s) (l : List Tok) (le mo nb : Nat) (wi lo : Nat → Nat) (X : XR 21 h i iv s l le mo nb wi lo)  (tr : Nat → Int32) (c9 : Nat) (hc9 : c9 < 60) (k0 n0 v0 : Int32) (h74 : h 74 = .inr (0, [.ref 75, .int (nI c9), .int k0, .int n0, .int v0])) (h75 : h 75 = .inl (0, 20, .inl tr)) (ir : Nat → Int32) (hir : ir 20 = nI c9) (k : Int32) (K : Q (some (.int (f_trace ir tr k))) h) : mT0 (d + 1) z_X9_trace 0 (m_init z_X9_trace [.ref 20, .int k]) [] h Q := by
  obtain ⟨B, XM, XT, XA, XB, XL, i0, i1, i2, i3, i4, i5⟩ := id X
  obtain ⟨hR, hN, hV, hwt, hK, hV5, hW, h9⟩ := id B
  obtain ⟨n, hn5, hn6⟩ := hI.1
  have hi0 := i0.trans hn6
  obtain ⟨fk, hk, ek⟩ := id hK
  obtain ⟨fv, hv, ev⟩ := id hV5
  obtain ⟨fm, hm, em⟩ := id XM
  obtain ⟨fw, hw, ew⟩ := id hW
  obtain ⟨ft, ht, et⟩ := id XT
  obtain ⟨fa, hfa, ea⟩ := id XA
  obtain ⟨fb, hb, eb⟩ := id XB
  obtain ⟨fl, hfl, el⟩ := id XL
  refine mT_s rfl rfl ?_
  refine mT_if_lt rfl (fun c1 => ?_) (fun c1 => ?_)
  · iterate 2 refine mT_s rfl rfl ?_
    refine mT_ret rfl rfl ?_
    unfold f_trace at K
    rw [if_neg (fun z => absurd c1 (Int32.not_lt.mpr z.1))] at K
    exact K
  · iterate 2 refine mT_s rfl rfl ?_
    (apply mT_getf; (case hc => rfl); (case ha => first | rfl | assumption); (case hf => first | rfl | assumption))
    (apply mT_inv; (case hc => rfl); (case hd => rfl); (case hb => first | rfl | assumption); (case hg => rfl))
    refine x_kept _ h _ _ k0 n0 v0 h74 ?_
    refine mT_icmp_lt rfl (fun c12 => ?_) (fun c12 => ?_)
    · obtain ⟨k9, hk9, ix1⟩ := nI_of c1
      rw [tr_c hc9, ix1] at c12
      have hkm := (nI_ltI hk9 (by split <;> omega)).mp c12
      have hk20 : k9 < 20 := by
        split at hkm <;> omega
      have hkk : k ≤ (if 20 ≤ nI c9 then 20 else nI c9) - 1 := by
        rw [tr_e hc9]
        exact (tr_b ix1 (by split <;> omega) (by omega)).mpr hkm
      refine mT_s rfl rfl ?_
      (apply mT_getf; (case hc => rfl); (case ha => first | rfl | assumption); (case hf => first | rfl | assumption))
      (apply mT_getf; (case hc => rfl); (case ha => first | rfl | assumption); (case hf => first | rfl | assumption))
      refine mT_s rfl rfl ?_
      (apply mT_ialdK; (case hc => rfl); (case ha => first | rfl | assumption); (case hk => first | (simp only [ki_0, ki_1, ki_2, ki_3, ki_4, ki_5, ki_6, ki_7, ki_8, ki_9, ki_10, ki_11, ki_12, ki_17, ki_20, ki_21, ki_22, ki_42, ki_50, ki_58, ki_66, ki_74, ki_140, ki_174, ki_179, ki_184, ki_189, ki_441, nI_add, pk_mul]; with_reducible rfl) | (simp only [ki_0, ki_1, ki_2, ki_3, ki_4, ki_5, ki_6, ki_7, ki_8, ki_9, ki_10, ki_11, ki_12, ki_17, ki_20, ki_21, ki_22, ki_42, ki_50, ki_58, ki_66, ki_74, ki_140, ki_174, ki_179, ki_184, ki_189, ki_441, ix1, nI_add, pk_mul]; with_reducible rfl) | (simp only [ki_0, ki_1, ki_2, ki_3, ki_4, ki_5, ki_6, ki_7, ki_8, ki_9, ki_10, ki_11, ki_12, ki_17, ki_20, ki_21, ki_22, ki_42, ki_50, ki_58, ki_66, ki_74, ki_140, ki_174, ki_179, ki_184, ki_189, ki_441, ix1, ix2, nI_add, pk_mul]; with_reducible rfl) | (simp only [ki_0, ki_1, ki_2, ki_3, ki_4, ki_5, ki_6, ki_7, ki_8, ki_9, ki_10, ki_11, ki_12, ki_17, ki_20, ki_21, ki_22, ki_42, ki_50, ki_58, ki_66, ki_74, ki_140, ki_174, ki_179, ki_184, ki_189, ki_441, ix1, ix2, ix3, nI_add, pk_mul]; with_reducible rfl) | (simp (disch := omega) only [upd_n, ki_0, ki_1, ki_2, ki_3, ki_4, ki_5, ki_6, ki_7, ki_8, ki_9, ki_10, ki_11, ki_12, ki_17, ki_20, ki_21, ki_22, ki_42, ki_50, ki_58, ki_66, ki_74, ki_140, ki_174, ki_179, ki_184, ki_189, ki_441, ix1, nI_add, pk_mul]; with_reducible rfl) | (simp (disch := omega) only [upd_n, ki_0, ki_1, ki_2, ki_3, ki_4, ki_5, ki_6, ki_7, ki_8, ki_9, ki_10, ki_11, ki_12, ki_17, ki_20, ki_21, ki_22, ki_42, ki_50, ki_58, ki_66, ki_74, ki_140, ki_174, ki_179, ki_184, ki_189, ki_441, ix1, ix2, nI_add, pk_mul]; with_reducible rfl) | rfl); (case hlt => first | decide | omega); (case hn => first | decide | omega))
      refine mT_ret rfl rfl ?_
      unfold f_trace at K
      rw [hir, if_pos ⟨Int32.not_lt.mp c1, hkk⟩, ix1, i_cl k9 (by omega)] at K
      exact K
    · obtain ⟨k9, hk9, ix1⟩ := nI_of c1
      rw [tr_c hc9, ix1] at c12
      have hkk : ¬ k ≤ (if 20 ≤ nI c9 then 20 else nI c9) - 1 := by
        intro z
        rw [tr_e hc9] at z
        have hk1 : k9 < 1000 := by
          rw [ix1] at z
          have := Int32.le_trans z (show nI (if 20 < c9 then 20 else c9) - 1 ≤ nI 100 from tr_l (by split <;> omega))
          exact Nat.lt_of_le_of_lt ((nI_leI hk9 (by omega)).mp this) (by omega)
        exact c12 (nI_lt ((tr_b ix1 (by split <;> omega) hk1).mp z) (by split <;> omega))
      iterate 2 refine mT_s rfl rfl ?_
      refine mT_ret rfl rfl ?_
      unfold f_trace at K
      rw [hir, if_neg (fun z => hkk z.2)] at K
      exact K
