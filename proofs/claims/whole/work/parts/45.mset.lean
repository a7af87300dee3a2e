/-! By program (wip/whole/book*.py) and hand. -/
theorem sh_n {j n : Nat} (hj : j < 2 ^ 31) (hn : n ≤ 5) : nI j >>> (nI n &&& 31) = nI (j / 2 ^ n) := by
  have h : n = 0 ∨ n = 1 ∨ n = 2 ∨ n = 3 ∨ n = 4 ∨ n = 5 := by omega
  rcases h with rfl | rfl | rfl | rfl | rfl | rfl <;> exact pk_shrN hj _ _ (by decide)
theorem bit_n {j n : Nat} (hj : j < 2 ^ 31) (hn : n ≤ 5) : (nI j >>> (nI n &&& 31)) &&& 1 = nI (j / 2 ^ n % 2) := by
  rw [sh_n hj hn]
  exact pk_andN (Nat.lt_of_le_of_lt (Nat.div_le_self _ _) (by omega)) 1 rfl
def okSet (n p : Nat) (y : Int32) : Prop := ∃ left : Nat, left < 2 ^ n ∧ y = nI left ∧ left / 2 ^ p % 2 = 0
theorem nFo_has {α : Type} {P : α → Prop} {b : Nat → α → α} (hb : ∀ q a, P a → P (b q a)) {q : Nat} (hq : ∀ a, P (b q a)) : ∀ {r q0 : Nat} {a : α}, q0 ≤ q → q < q0 + r → P (nFo b r q0 a)
  | 0, _, _, h1, h2 => absurd h2 (by omega)
  | r + 1, q0, a, h1, h2 => by
    by_cases e : q0 = q
    · subst e
      show P (nFo b r (q0 + 1) (b q0 a))
      exact nFo_inv hb (hq a)
    · exact nFo_has hb hq (r := r) (q0 := q0 + 1) (by omega) (by omega)
theorem nOr_pos' {n : Nat} {val : List Nat → Nat} {f left : Nat} {row : List Nat} {st : Int × List Nat} (h : 0 ≤ st.1) : 0 ≤ (nOr n val f left row st).1 := by
  induction f generalizing left row st with
  | zero =>
    unfold nOr
    split
    · exact Int.natCast_nonneg _
    · exact h
  | succ f ih =>
    unfold nOr
    refine nFo_inv (P := fun a : Int × List Nat => 0 ≤ a.1) (fun q a ha => ?_) h
    show 0 ≤ (if _ then _ else _ : Int × List Nat).1
    split
    · exact ih ha
    · exact ha
theorem pop_bit {a n : Nat} (hn : n ≤ 5) (ha : a < 2 ^ n) (h : 0 < nPop a) : ∃ q, q < n ∧ a / 2 ^ q % 2 = 1 := by
  have h9 : ∀ a : Fin 32, ∀ n : Fin 6, a.val < 2 ^ n.val → 0 < nPop a → ∃ q : Fin 5, q.val < n.val ∧ a.val / 2 ^ q.val % 2 = 1 := by decide +kernel
  have h32 : a < 32 := Nat.lt_of_lt_of_le ha (Nat.pow_le_pow_right (n := 2) (by decide) hn)
  obtain ⟨q, h1, h2⟩ := h9 ⟨a, h32⟩ ⟨n, by omega⟩ ha h
  exact ⟨q.val, h1, h2⟩
theorem nOr_pos {n : Nat} {val : List Nat → Nat} (hn : n ≤ 5) : ∀ {f left : Nat} {row : List Nat} {st : Int × List Nat}, left < 2 ^ n → nPop left = f → 0 ≤ (nOr n val f left row st).1
  | 0, left, row, st, _, _ => by
    unfold nOr
    split
    · exact Int.natCast_nonneg _
    · rename_i h
      exact Int.le_trans (Int.natCast_nonneg _) (Int.not_lt.mp h)
  | f + 1, left, row, st, hl, hp => by
    obtain ⟨q, hq, hb⟩ := pop_bit hn hl (by omega)
    have h32 : left < 32 := Nat.lt_of_lt_of_le hl (Nat.pow_le_pow_right (n := 2) (by decide) hn)
    have h2 := bit_2 h32 (show q < 5 by omega) hb
    unfold nOr
    refine nFo_has (P := fun a : Int × List Nat => 0 ≤ a.1) (fun q a ha => ?_) (q := q) (fun a => ?_) (Nat.zero_le _) (by omega)
    · show 0 ≤ (if _ then _ else _ : Int × List Nat).1
      split
      · exact nOr_pos' ha
      · exact ha
    · show 0 ≤ (if _ then _ else _ : Int × List Nat).1
      rw [if_pos hb]
      exact nOr_pos hn (Nat.lt_of_le_of_lt (Nat.sub_le _ _) hl) (by omega)
theorem nOr_len {n : Nat} {val : List Nat → Nat} {L : Nat} : ∀ {f left : Nat} {row : List Nat} {st : Int × List Nat}, row.length + f = L → (0 ≤ st.1 → st.2.length = L) → (0 ≤ (nOr n val f left row st).1 → (nOr n val f left row st).2.length = L)
  | 0, left, row, st, hL, h => by
    unfold nOr
    split
    · intro _; exact hL
    · exact h
  | f + 1, left, row, st, hL, h => by
    unfold nOr
    refine nFo_inv (P := fun a : Int × List Nat => 0 ≤ a.1 → a.2.length = L) (fun q a ha => ?_) h
    show 0 ≤ (if _ then _ else _ : Int × List Nat).1 → (if _ then _ else _ : Int × List Nat).2.length = L
    split
    · exact nOr_len (by rw [List.length_append]; show row.length + 1 + f = L; omega) ha
    · exact ha
theorem pop_le {a n p : Nat} (hn : n ≤ 5) (hp : p < n) (ha : a < 2 ^ n) (h : a / 2 ^ p % 2 = 0) : nPop a ≤ 4 := by
  have h9 : ∀ a : Fin 32, ∀ p : Fin 5, a.val / 2 ^ p.val % 2 = 0 → nPop a ≤ 4 := by decide +kernel
  have h32 : a < 32 := Nat.lt_of_lt_of_le ha (Nat.pow_le_pow_right (n := 2) (by decide) hn)
  exact h9 ⟨a, h32⟩ ⟨p, by omega⟩ h
/-- the best row's won games, and it -/
def v_best (s : Nat → Int32) (l : List Tok) (le mo p n : Nat) (mm : Nat → Nat) (g left : Nat) : Int × List Nat := nOr n (fun row => if row.length ≤ 4 then v_row s l le mo p mm g row else 0) (nPop left) left [] (-1, [])
theorem v_best_ok {s : Nat → Int32} {l : List Tok} {le mo p n : Nat} {mm : Nat → Nat} {g left : Nat} (hn : n ≤ 5) (hl : left < 2 ^ n) : 0 ≤ (v_best s l le mo p n mm g left).1 ∧ (v_best s l le mo p n mm g left).1 ≤ 360000 ∧ (v_best s l le mo p n mm g left).2.length = nPop left := by
  have h1 : 0 ≤ (v_best s l le mo p n mm g left).1 := nOr_pos hn hl rfl
  refine ⟨h1, ?_, nOr_len (L := nPop left) (by show 0 + _ = _; omega) (fun z => absurd z (by decide)) h1⟩
  exact (nOr_inv (B := 360000) (fun row => by
    show ((if row.length ≤ 4 then v_row s l le mo p mm g row else 0 : Nat) : Int) ≤ 360000
    split
    · rename_i z
      have := v_row_le s l le mo p mm g row z
      omega
    · decide) (by decide)).2
theorem e_isSet (d : Nat) (h : mH) (s i : Nat → Int32) (o t : Nat) (pd bw : Int64) (Q : Option Value → mH → Prop) (hM : h 76 = .inr (10, mObj i o t pd bw)) (h77 : h 77 = .inl (0, 889, .inl s)) (hN : 87 ≤ m_nx h) (hI : s_Inv s)  (n : Nat) (hn5 : n ≤ 5) (hn6 : s 6 = nI n) (p : Nat) (hp : p < n) (y : Int32) (k1 : okSet n p y → Q (some (.int 1)) h) (k0 : ¬ okSet n p y → Q (some (.int 0)) h) : mT0 d z_X10_isSet 0 (m_init z_X10_isSet [.ref 76, .int (nI p), .int y]) [] h Q := by
  refine mT_s rfl rfl ?_
  refine mT_if_lt rfl (fun c1 => ?_) (fun c1 => ?_)
  · skip
    refine mT_s rfl rfl ?_
    refine mT_ret rfl rfl ?_
    exact k0 (fun ⟨j2, h1, h2, h3⟩ => by
      rw [h2] at c1
      exact nI_pos (n := j2) (by have := Nat.pow_le_pow_right (n := 2) (by decide) hn5; omega) c1)
  · obtain ⟨j, hj, hy⟩ := nI_of c1
    rw [hy]
    iterate 2 refine mT_s rfl rfl ?_
    (apply mT_getf; (case hc => rfl); (case ha => first | rfl | assumption); (case hf => first | rfl | assumption))
    refine mT_s rfl rfl ?_
    (apply mT_ialdK; (case hc => rfl); (case ha => first | rfl | assumption); (case hk => first | (simp only [ki_0, ki_1, ki_2, ki_3, ki_4, ki_5, ki_6, ki_7, ki_8, ki_9, ki_10, ki_11, ki_12, ki_17, ki_20, ki_21, ki_22, ki_42, ki_50, ki_58, ki_66, ki_74, ki_140, ki_174, ki_179, ki_184, ki_189, ki_441, nI_add, pk_mul]; with_reducible rfl) | (simp only [ki_0, ki_1, ki_2, ki_3, ki_4, ki_5, ki_6, ki_7, ki_8, ki_9, ki_10, ki_11, ki_12, ki_17, ki_20, ki_21, ki_22, ki_42, ki_50, ki_58, ki_66, ki_74, ki_140, ki_174, ki_179, ki_184, ki_189, ki_441, ix1, nI_add, pk_mul]; with_reducible rfl) | (simp only [ki_0, ki_1, ki_2, ki_3, ki_4, ki_5, ki_6, ki_7, ki_8, ki_9, ki_10, ki_11, ki_12, ki_17, ki_20, ki_21, ki_22, ki_42, ki_50, ki_58, ki_66, ki_74, ki_140, ki_174, ki_179, ki_184, ki_189, ki_441, ix1, ix2, nI_add, pk_mul]; with_reducible rfl) | (simp only [ki_0, ki_1, ki_2, ki_3, ki_4, ki_5, ki_6, ki_7, ki_8, ki_9, ki_10, ki_11, ki_12, ki_17, ki_20, ki_21, ki_22, ki_42, ki_50, ki_58, ki_66, ki_74, ki_140, ki_174, ki_179, ki_184, ki_189, ki_441, ix1, ix2, ix3, nI_add, pk_mul]; with_reducible rfl) | (simp (disch := omega) only [upd_n, ki_0, ki_1, ki_2, ki_3, ki_4, ki_5, ki_6, ki_7, ki_8, ki_9, ki_10, ki_11, ki_12, ki_17, ki_20, ki_21, ki_22, ki_42, ki_50, ki_58, ki_66, ki_74, ki_140, ki_174, ki_179, ki_184, ki_189, ki_441, ix1, nI_add, pk_mul]; with_reducible rfl) | (simp (disch := omega) only [upd_n, ki_0, ki_1, ki_2, ki_3, ki_4, ki_5, ki_6, ki_7, ki_8, ki_9, ki_10, ki_11, ki_12, ki_17, ki_20, ki_21, ki_22, ki_42, ki_50, ki_58, ki_66, ki_74, ki_140, ki_174, ki_179, ki_184, ki_189, ki_441, ix1, ix2, nI_add, pk_mul]; with_reducible rfl) | rfl); (case hlt => first | decide | omega); (case hn => decide))
    refine mT_s rfl rfl ?_
    refine mT_if_ne rfl (fun c13 => ?_) (fun c13 => ?_)
    · rw [hn6] at c13
      replace c13 : ¬ nI j >>> (nI n &&& 31) = 0 := c13
      rw [sh_n hj hn5] at c13
      have c13 : ¬ j / 2 ^ n = 0 := fun z => c13 (congrArg nI z)
      refine mT_s rfl rfl ?_
      refine mT_ret rfl rfl ?_
      exact k0 (fun ⟨j2, h1, h2, h3⟩ => c13 (by
        rw [Nat.div_eq_of_lt]
        have : j2 = j := (nI_eq (by have := Nat.pow_le_pow_right (n := 2) (by decide) hn5; omega) hj).mp (by rw [← h2, hy])
        omega))
    · rw [hn6] at c13
      replace c13 : nI j >>> (nI n &&& 31) = 0 := c13
      rw [sh_n hj hn5] at c13
      have c13 := (nI_eq (b := 0) (Nat.lt_of_le_of_lt (Nat.div_le_self _ _) hj) (by omega)).mp c13
      have c13 : j < 2 ^ n := (Nat.div_eq_zero_iff.mp c13).resolve_left (by have := Nat.pow_pos (a := 2) (n := n) (by decide); omega)
      iterate 5 refine mT_s rfl rfl ?_
      refine mT_if_ne rfl (fun c21 => ?_) (fun c21 => ?_)
      · rw [bit_n hj (by omega)] at c21
        have c21 : ¬ j / 2 ^ p % 2 = 0 := fun z => c21 (congrArg nI z)
        refine mT_s rfl rfl ?_
        refine mT_ret rfl rfl ?_
        exact k0 (fun ⟨j2, h1, h2, h3⟩ => c21 (by
          have : j2 = j := (nI_eq (by have := Nat.pow_le_pow_right (n := 2) (by decide) hn5; omega) hj).mp (by rw [← h2, hy])
          rw [← this, h3]))
      · rw [bit_n hj (by omega)] at c21
        have c21 := (nI_eq (b := 0) (by omega) (by omega)).mp c21
        iterate 2 refine mT_s rfl rfl ?_
        refine mT_ret rfl rfl ?_
        exact k1 ⟨j, c13, hy, c21⟩

theorem e_looks (d : Nat) (h : mH) (s i : Nat → Int32) (o t : Nat) (pd bw : Int64) (Q : Option Value → mH → Prop) (hM : h 76 = .inr (10, mObj i o t pd bw)) (h77 : h 77 = .inl (0, 889, .inl s)) (hN : 87 ≤ m_nx h) (hI : s_Inv s) {l : List Tok} {le mo : Nat} (hG : sG s l le mo) (mm : Nat → Nat) (g : Nat) (hmm : ∀ j, j < 5 → mm j ≤ 20) (hs : s_at s mm g = s) (hg : g ≤ 9999) (h80 : ∃ f, h 80 = .inl (0, 5, .inl f)) (h81 : ∃ g, h 81 = .inl (2, 64, .inl g))  (n : Nat) (hn5 : n ≤ 5) (hn6 : s 6 = nI n) (h84 : ∃ f, h 84 = .inl (0, 4, .inl f)) (h85 : ∃ f, h 85 = .inl (0, 4, .inl f)) (p : Nat) (hp : p < n) (left : Nat) (hl : left < 2 ^ n) (hlp : left / 2 ^ p % 2 = 0) (K : ∀ h2 bw2 boF, rX [76, 77, 80, 81, 84, 85] h h2 → h2 77 = .inl (0, 889, .inl s) → h2 76 = .inr (10, mObj i o t pd bw2) → (∃ f, h2 84 = .inl (0, 4, .inl f)) → h2 85 = .inl (0, 4, .inl boF) → bw2 = iL (v_best s l le mo p n mm g left).1 → BO boF (v_best s l le mo p n mm g left).2 → Q none h2) : mT0 (d + 14) z_X10_looksForOrder 0 (m_init z_X10_looksForOrder [.ref 76, .int (nI p), .int (nI left)]) [] h Q := by
  iterate 2 refine mT_s rfl rfl ?_
  (apply mT_putfN; (case hc => rfl); (case ha => first | rfl | assumption); (case hN => assumption); (case hg => rfl))
  iterate 4 refine mT_s rfl rfl ?_
  (apply mT_inv; (case hc => rfl); (case hd => rfl); (case hb => first | rfl | assumption); (case hg => rfl))
  obtain ⟨f84, h84⟩ := h84
  obtain ⟨f85, h85⟩ := h85
  have hl32 : left < 32 := Nat.lt_of_lt_of_le hl (Nat.pow_le_pow_right (n := 2) (by decide) hn5)
  have hp4 := pop_le hn5 hp hl hlp
  have hv := v_best_ok (s := s) (l := l) (le := le) (mo := mo) (p := p) (mm := mm) (g := g) hn5 hl
  refine mT0_d (e := d + (5 - nPop left) + nPop left + 8) (by omega) ?_
  refine oOK_all s l le mo p n mm g o t _ hG (by omega) hmm (by omega) hn5 (by rw [hs]; exact hn6) (nPop left) left [] (m_up h 76 (.inr (10, mObj i o t pd (iL (-1))))) i pd (-1, []) f85 f84 _ hl32 rfl (by show 0 + _ ≤ 4; omega) (fun q hq => absurd hq (by simp)) (fun q hq hh => fun z => by subst z; omega) rfl (by rw [hs]; exact h77) hN h80 h81 h84 h85 (fun z => absurd z (by decide)) (by decide) (fun j hj => absurd hj (by simp)) (fun h3 ordF2 boF2 hr3 hM3 h773 h843 h853 hBO3 _ => ?_)
  rw [hs] at h773
  have KK := K h3 _ boF2 (rX.tr ((rX.rfl' h80 h81).up (k := 76) (by decide) (by decide) (by decide)) hr3) h773 hM3 ⟨_, h843⟩ h853 rfl (hBO3 hv.1)
  refine mT_ret rfl rfl ?_
  exact KK

theorem okP_n {s : Nat → Int32} {x : Int32} {n j : Nat} (hn6 : s 6 = nI n) (hn : n < 100) (hj : j < 5) (e : x = nI j) (h : okP s x) : j < n := by
  have h1 := h.2
  rw [hn6, e] at h1
  rcases Nat.eq_zero_or_pos n with z | z
  · subst z
    exact absurd (Int32.le_trans (nI_le (a := 0) (b := j) (by omega) (by omega)) h1) (by decide)
  · obtain ⟨m, rfl⟩ : ∃ m, n = m + 1 := ⟨n - 1, by omega⟩
    rw [nI_pred] at h1
    have := (nI_leI (by omega) (by omega)).mp h1
    omega
theorem e_order (d : Nat) (h : mH) (s i : Nat → Int32) (o t : Nat) (pd bw : Int64) (Q : Option Value → mH → Prop) (hM : h 76 = .inr (10, mObj i o t pd bw)) (h77 : h 77 = .inl (0, 889, .inl s)) (hN : 87 ≤ m_nx h) (hI : s_Inv s) {l : List Tok} {le mo : Nat} (hG : sG s l le mo) (mm : Nat → Nat) (g : Nat) (hmm : ∀ j, j < 5 → mm j ≤ 20) (hs : s_at s mm g = s) (hg : g ≤ 9999) (h80 : ∃ f, h 80 = .inl (0, 5, .inl f)) (h81 : ∃ g, h 81 = .inl (2, 64, .inl g))  (n : Nat) (hn5 : n ≤ 5) (hn6 : s 6 = nI n) (h84 : ∃ f, h 84 = .inl (0, 4, .inl f)) (h85 : ∃ f, h 85 = .inl (0, 4, .inl f)) (x y w : Int32) (kN : ¬ (okP s x ∧ 0 ≤ w ∧ w ≤ 3) → Q (some (.int (-1))) h) (kB : ∀ p : Nat, p < n → x = nI p → ¬ okSet n p y → Q (some (.int (-2))) h) (k : ∀ p left j : Nat, p < n → x = nI p → left < 2 ^ n → y = nI left → left / 2 ^ p % 2 = 0 → j < 4 → w = nI j → ∀ h2 bw2 boF, rX [76, 77, 80, 81, 84, 85] h h2 → h2 77 = .inl (0, 889, .inl s) → h2 76 = .inr (10, mObj i o t pd bw2) → (∃ f, h2 84 = .inl (0, 4, .inl f)) → h2 85 = .inl (0, 4, .inl boF) → Q (some (.int (if j < nPop left then nI ((v_best s l le mo p n mm g left).2.getD j 0) else -5))) h2) : mT0 (d + 16) z_X10_order 0 (m_init z_X10_order [.ref 76, .int x, .int y, .int w]) [] h Q := by
  iterate 2 refine mT_s rfl rfl ?_
  (apply mT_inv; (case hc => rfl); (case hd => rfl); (case hb => first | rfl | assumption); (case hg => rfl))
  refine e_isPlayer _ _ _ _ _ _ _ _ _ hM h77 hN hI _ (fun p2 hp2 ep2 v2 => ?_) (fun v2 => ?_)
  · have hpn2 := okP_n hn6 (by omega) hp2 ep2 v2
    iterate 4 refine mT_s rfl rfl ?_
    refine mT_c rfl rfl ?_
    refine e_in _ _ _ _ _ _ (fun a11 b11 => ?_) (fun a11 => ?_)
    · iterate 4 refine mT_s rfl rfl ?_
      (apply mT_inv; (case hc => rfl); (case hd => rfl); (case hb => first | rfl | assumption); (case hg => rfl))
      rw [ep2]
      refine e_isSet _ h s i o t pd bw _ hM h77 hN hI n hn5 hn6 p2 hpn2 y (fun hset => ?_) (fun hset => ?_)
      · iterate 4 refine mT_s rfl rfl ?_
        (apply mT_inv; (case hc => rfl); (case hd => rfl); (case hb => first | rfl | assumption); (case hg => rfl))
        obtain ⟨j, hj, hj2⟩ := i_nat (n := 3) a11 b11 (by omega)
        rw [hj2]
        obtain ⟨left, hl, hy, hlp⟩ := hset
        rw [hy]
        refine e_looks _ h s i o t pd bw _ hM h77 hN hI hG mm g hmm hs hg h80 h81 n hn5 hn6 h84 h85 p2 hpn2 left hl hlp (fun h3 bw2 boF hr3 h773 h763 h843 h853 hbw hBO => ?_)
        have hN3 : 87 ≤ m_nx h3 := by rw [hr3.nx (by decide)]; exact hN
        have hv := v_best_ok (s := s) (l := l) (le := le) (mo := mo) (p := p2) (mm := mm) (g := g) hn5 hl
        refine mT_s rfl rfl ?_
        (apply mT_getf; (case hc => rfl); (case ha => first | rfl | assumption); (case hf => first | rfl | assumption))
        refine mT_s rfl rfl ?_
        (apply mT_ialdK; (case hc => rfl); (case ha => first | rfl | assumption); (case hk => first | (simp only [ki_0, ki_1, ki_2, ki_3, ki_4, ki_5, ki_6, ki_7, ki_8, ki_9, ki_10, ki_11, ki_12, ki_17, ki_20, ki_21, ki_22, ki_42, ki_50, ki_58, ki_66, ki_74, ki_140, ki_174, ki_179, ki_184, ki_189, ki_441, nI_add, pk_mul]; with_reducible rfl) | (simp only [ki_0, ki_1, ki_2, ki_3, ki_4, ki_5, ki_6, ki_7, ki_8, ki_9, ki_10, ki_11, ki_12, ki_17, ki_20, ki_21, ki_22, ki_42, ki_50, ki_58, ki_66, ki_74, ki_140, ki_174, ki_179, ki_184, ki_189, ki_441, ix1, nI_add, pk_mul]; with_reducible rfl) | (simp only [ki_0, ki_1, ki_2, ki_3, ki_4, ki_5, ki_6, ki_7, ki_8, ki_9, ki_10, ki_11, ki_12, ki_17, ki_20, ki_21, ki_22, ki_42, ki_50, ki_58, ki_66, ki_74, ki_140, ki_174, ki_179, ki_184, ki_189, ki_441, ix1, ix2, nI_add, pk_mul]; with_reducible rfl) | (simp only [ki_0, ki_1, ki_2, ki_3, ki_4, ki_5, ki_6, ki_7, ki_8, ki_9, ki_10, ki_11, ki_12, ki_17, ki_20, ki_21, ki_22, ki_42, ki_50, ki_58, ki_66, ki_74, ki_140, ki_174, ki_179, ki_184, ki_189, ki_441, ix1, ix2, ix3, nI_add, pk_mul]; with_reducible rfl) | (simp (disch := omega) only [upd_n, ki_0, ki_1, ki_2, ki_3, ki_4, ki_5, ki_6, ki_7, ki_8, ki_9, ki_10, ki_11, ki_12, ki_17, ki_20, ki_21, ki_22, ki_42, ki_50, ki_58, ki_66, ki_74, ki_140, ki_174, ki_179, ki_184, ki_189, ki_441, ix1, nI_add, pk_mul]; with_reducible rfl) | (simp (disch := omega) only [upd_n, ki_0, ki_1, ki_2, ki_3, ki_4, ki_5, ki_6, ki_7, ki_8, ki_9, ki_10, ki_11, ki_12, ki_17, ki_20, ki_21, ki_22, ki_42, ki_50, ki_58, ki_66, ki_74, ki_140, ki_174, ki_179, ki_184, ki_189, ki_441, ix1, ix2, nI_add, pk_mul]; with_reducible rfl) | rfl); (case hlt => first | decide | omega); (case hn => decide))
        refine mT_ret rfl rfl ?_
        have k := k p2 left j hpn2 ep2 hl hy hlp (by omega) hj2 h3 _ boF hr3 h773 h763 h843 h853
        rw [← hv.2.2, ← hBO j (by omega)] at k
        exact k
      · iterate 2 refine mT_s rfl rfl ?_
        refine mT_ret rfl rfl ?_
        exact kB p2 hpn2 ep2 hset
    · iterate 2 refine mT_s rfl rfl ?_
      refine mT_ret rfl rfl ?_
      exact kN (fun z => a11 z.2)
  · iterate 2 refine mT_s rfl rfl ?_
    refine mT_ret rfl rfl ?_
    exact kN (fun z => v2 z.1)

def nPk (a : Nat) : Nat → Nat
  | 0 => 0
  | k + 1 => nPk a k + a / 2 ^ k % 2
theorem nPk_5 (a : Nat) : nPk a 5 = nPop a := by
  show 0 + a / 2 ^ 0 % 2 + a / 2 ^ 1 % 2 + a / 2 ^ 2 % 2 + a / 2 ^ 3 % 2 + a / 2 ^ 4 % 2 = a % 2 + a / 2 % 2 + a / 4 % 2 + a / 8 % 2 + a / 16 % 2
  rw [Nat.zero_add, Nat.pow_zero, Nat.div_one]
theorem e_om_L (d : Nat) (h : mH) (Q : Option Value → mH → Prop) (left : Nat) (hl : left < 2 ^ 31) (x part : Int32) (K : mT0 d z_X10_orderMean 65 [some (.ref 76), some (.int x), some (.int (nI left)), some (.int part), some (.int (nI (nPop left))), some (.int (nI 5))] [] h Q) : ∀ (r k : Nat) , k + r = 5 → mT0 d z_X10_orderMean 42 [some (.ref 76), some (.int x), some (.int (nI left)), some (.int part), some (.int (nI (nPk left k))), some (.int (nI k))] [] h Q := by
  intro r
  induction r with
  | zero =>
    intro k  hk 
    iterate 2 refine mT_s rfl rfl ?_
    refine mT_icmp_ge rfl (fun _ => ?_) (fun c => absurd (nI_le (a := 5) (b := k) (by omega) (by omega)) c)
    obtain rfl : k = 5 := by omega
    rw [nPk_5]
    exact K
  | succ r ih =>
    intro k  hk 
    iterate 2 refine mT_s rfl rfl ?_
    refine mT_icmp_ge rfl (fun c => absurd c (nI_ge (a := k) (b := 5) (by omega) (by omega))) (fun _ => ?_)
    iterate 10 refine mT_s rfl rfl ?_
    rw [bit_n hl (by omega), nI_add, nI_1]
    exact ih (k + 1) (by omega)
theorem okP_of {s : Nat → Int32} {x : Int32} {n j : Nat} (hn6 : s 6 = nI n) (hn : n ≤ 5) (hj : j < n) (e : x = nI j) : okP s x := by
  refine ⟨?_, ?_⟩
  · rw [e]; exact nI_pos' (by omega)
  · obtain ⟨m, rfl⟩ : ∃ m, n = m + 1 := ⟨n - 1, by omega⟩
    rw [hn6, e, nI_pred]
    exact nI_le (by omega) (by omega)
theorem e_orderMean (d : Nat) (h : mH) (s i : Nat → Int32) (o t : Nat) (pd bw : Int64) (Q : Option Value → mH → Prop) (hM : h 76 = .inr (10, mObj i o t pd bw)) (h77 : h 77 = .inl (0, 889, .inl s)) (hN : 87 ≤ m_nx h) (hI : s_Inv s) {l : List Tok} {le mo : Nat} (hG : sG s l le mo) (mm : Nat → Nat) (g : Nat) (hmm : ∀ j, j < 5 → mm j ≤ 20) (hs : s_at s mm g = s) (hg : g ≤ 9999) (h80 : ∃ f, h 80 = .inl (0, 5, .inl f)) (h81 : ∃ g, h 81 = .inl (2, 64, .inl g))  (n : Nat) (hn5 : n ≤ 5) (hn6 : s 6 = nI n) (h84 : ∃ f, h 84 = .inl (0, 4, .inl f)) (h85 : ∃ f, h 85 = .inl (0, 4, .inl f)) (x y part : Int32) (kN : ¬ ((∃ p : Nat, p < n ∧ x = nI p ∧ okSet n p y) ∧ (0 ≤ part ∧ part ≤ 1)) → Q (some (.long (-9223372036854775808))) h) (k : ∀ p left : Nat, p < n → x = nI p → left < 2 ^ n → y = nI left → left / 2 ^ p % 2 = 0 → (0 ≤ part ∧ part ≤ 1) → ∀ h2 bw2 boF, rX [76, 77, 80, 81, 84, 85] h h2 → h2 77 = .inl (0, 889, .inl s) → h2 76 = .inr (10, mObj i o t pd bw2) → (∃ f, h2 84 = .inl (0, 4, .inl f)) → h2 85 = .inl (0, 4, .inl boF) → Q (some (.long (v_low (v_best s l le mo p n mm g left).1 (10 ^ nPop left) part))) h2) : mT0 (d + 16) z_X10_orderMean 0 (m_init z_X10_orderMean [.ref 76, .int x, .int y, .int part]) [] h Q := by
  iterate 2 refine mT_s rfl rfl ?_
  (apply mT_inv; (case hc => rfl); (case hd => rfl); (case hb => first | rfl | assumption); (case hg => rfl))
  refine e_isPlayer _ _ _ _ _ _ _ _ _ hM h77 hN hI _ (fun p2 hp2 ep2 v2 => ?_) (fun v2 => ?_)
  · have hpn2 := okP_n hn6 (by omega) hp2 ep2 v2
    iterate 4 refine mT_s rfl rfl ?_
    (apply mT_inv; (case hc => rfl); (case hd => rfl); (case hb => first | rfl | assumption); (case hg => rfl))
    rw [ep2]
    refine e_isSet _ h s i o t pd bw _ hM h77 hN hI n hn5 hn6 p2 hpn2 y (fun hset => ?_) (fun hset => ?_)
    · iterate 4 refine mT_s rfl rfl ?_
      refine mT_c rfl rfl ?_
      refine e_in _ _ _ _ _ _ (fun a20 b20 => ?_) (fun a20 => ?_)
      · iterate 4 refine mT_s rfl rfl ?_
        (apply mT_inv; (case hc => rfl); (case hd => rfl); (case hb => first | rfl | assumption); (case hg => rfl))
        obtain ⟨left, hl, hy, hlp⟩ := hset
        rw [hy]
        refine e_looks _ h s i o t pd bw _ hM h77 hN hI hG mm g hmm hs hg h80 h81 n hn5 hn6 h84 h85 p2 hpn2 left hl hlp (fun h3 bw2 boF hr3 h773 h763 h843 h853 hbw hBO => ?_)
        have hN3 : 87 ≤ m_nx h3 := by rw [hr3.nx (by decide)]; exact hN
        have hv := v_best_ok (s := s) (l := l) (le := le) (mo := mo) (p := p2) (mm := mm) (g := g) hn5 hl
        iterate 4 refine mT_s rfl rfl ?_
        have hl32 : left < 32 := Nat.lt_of_lt_of_le hl (Nat.pow_le_pow_right (n := 2) (by decide) hn5)
        refine e_om_L _ h3 Q left (by omega) (nI p2) part ?_ 5 0 (by omega)
        refine mT_s rfl rfl ?_
        (apply mT_getf; (case hc => rfl); (case ha => first | rfl | assumption); (case hf => first | rfl | assumption))
        refine mT_s rfl rfl ?_
        refine mT_c rfl rfl ?_
        refine e_tens _ _ _ (nPop left) (by have := pop_le hn5 hpn2 hl hlp; omega) ?_
        refine mT_s rfl rfl ?_
        refine mT_c rfl rfl ?_
        have hp4 := pop_le hn5 hpn2 hl hlp
        have b0 : 10 ^ nPop left ≤ 10 ^ 4 := Nat.pow_le_pow_right (by decide) hp4
        rw [hbw]
        refine e_lowest _ _ _ (v_best s l le mo p2 n mm g left).1 (by omega) _ part (Nat.pow_pos (by decide)) (by omega) ?_
        refine mT_ret rfl rfl ?_
        exact k p2 left hpn2 ep2 hl hy hlp ⟨a20, b20⟩ h3 _ boF hr3 h773 h763 h843 h853
      · iterate 2 refine mT_s rfl rfl ?_
        refine mT_ret rfl rfl ?_
        exact kN (fun z => a20 z.2)
    · iterate 2 refine mT_s rfl rfl ?_
      refine mT_ret rfl rfl ?_
      exact kN (fun ⟨⟨p, z1, z2, z3⟩, _⟩ => hset (by
        have : p = p2 := (nI_eq (by omega) (by omega)).mp (by rw [← z2, ep2])
        rw [← this]; exact z3))
  · iterate 2 refine mT_s rfl rfl ?_
    refine mT_ret rfl rfl ?_
    exact kN (fun ⟨⟨p, z1, z2, z3⟩, _⟩ => v2 (okP_of hn6 hn5 z1 z2))

/-- those who wait at first -/
def t_row (n : Nat) : List Nat := List.range' 2 (n - 2)
theorem t_row_ok {n : Nat} (h2 : 2 ≤ n) (h5 : n ≤ 5) : (0 :: 1 :: t_row n).Nodup ∧ (∀ x ∈ 0 :: 1 :: t_row n, x < 5) ∧ (t_row n).length = n - 2 := by
  have h : n = 2 ∨ n = 3 ∨ n = 4 ∨ n = 5 := by omega
  rcases h with rfl | rfl | rfl | rfl <;> decide
theorem t_row_S {k : Nat} (h : 2 ≤ k) : dec (t_row (k + 1)) = 10 * dec (t_row k) + k := by
  unfold t_row
  rw [show k + 1 - 2 = (k - 2) + 1 by omega, List.range'_concat, dec_app]
  omega
theorem nT_le {od : Nat → Nat → Nat → Nat → Nat → Nat} {le mo who : Nat} (hod : ∀ p q m o g, od p q m o g ≤ 9) : ∀ n mm g p q qs, nT od le mo who n mm g p q qs ≤ 10 * 10 ^ n
  | 0, mm, g, p, q, qs => by
    have := hod p q (mm p) (mm q) g
    unfold nT
    split
    · omega
    · split <;> omega
  | n + 1, mm, g, p, q, qs => by
    have h1 := nT_le hod (le := le) (mo := mo) (who := who) n (n_play le mo mm p q) (g + 1) p ((qs ++ [q]).headD 0) (qs ++ [q]).tail
    have h2 := nT_le hod (le := le) (mo := mo) (who := who) n (n_play le mo mm q p) (g + 1) q ((qs ++ [p]).headD 0) (qs ++ [p]).tail
    have h3 := hod p q (mm p) (mm q) g
    rw [Nat.pow_succ, Nat.mul_comm (10 ^ n) 10]
    unfold nT
    exact mix_le (by omega) h1 h2
theorem e_table_L (d : Nat) (h : mH) (s i : Nat → Int32) (o t : Nat) (pd bw : Int64) (Q : Option Value → mH → Prop) (hM : h 76 = .inr (10, mObj i o t pd bw)) (h77 : h 77 = .inl (0, 889, .inl s)) (hN : 87 ≤ m_nx h) (n : Nat) (hn5 : n ≤ 5) (hn6 : s 6 = nI n) (hn2 : 2 ≤ n) (x y part : Int32) (K : mT0 d z_X10_table 76 [some (.ref 76), some (.int x), some (.int y), some (.int part), some (.int (nI (dec (t_row n)))), some (.int (nI n))] [] h Q) : ∀ (r k : Nat) , k + r = n → 2 ≤ k → mT0 d z_X10_table 48 [some (.ref 76), some (.int x), some (.int y), some (.int part), some (.int (nI (dec (t_row k)))), some (.int (nI k))] [] h Q := by
  intro r
  induction r with
  | zero =>
    intro k  hk hi
    iterate 2 refine mT_s rfl rfl ?_
    (apply mT_getf; (case hc => rfl); (case ha => first | rfl | assumption); (case hf => first | rfl | assumption))
    refine mT_s rfl rfl ?_
    (apply mT_ialdK; (case hc => rfl); (case ha => first | rfl | assumption); (case hk => first | (simp only [ki_0, ki_1, ki_2, ki_3, ki_4, ki_5, ki_6, ki_7, ki_8, ki_9, ki_10, ki_11, ki_12, ki_17, ki_20, ki_21, ki_22, ki_42, ki_50, ki_58, ki_66, ki_74, ki_140, ki_174, ki_179, ki_184, ki_189, ki_441, nI_add, pk_mul]; with_reducible rfl) | (simp only [ki_0, ki_1, ki_2, ki_3, ki_4, ki_5, ki_6, ki_7, ki_8, ki_9, ki_10, ki_11, ki_12, ki_17, ki_20, ki_21, ki_22, ki_42, ki_50, ki_58, ki_66, ki_74, ki_140, ki_174, ki_179, ki_184, ki_189, ki_441, ix1, nI_add, pk_mul]; with_reducible rfl) | (simp only [ki_0, ki_1, ki_2, ki_3, ki_4, ki_5, ki_6, ki_7, ki_8, ki_9, ki_10, ki_11, ki_12, ki_17, ki_20, ki_21, ki_22, ki_42, ki_50, ki_58, ki_66, ki_74, ki_140, ki_174, ki_179, ki_184, ki_189, ki_441, ix1, ix2, nI_add, pk_mul]; with_reducible rfl) | (simp only [ki_0, ki_1, ki_2, ki_3, ki_4, ki_5, ki_6, ki_7, ki_8, ki_9, ki_10, ki_11, ki_12, ki_17, ki_20, ki_21, ki_22, ki_42, ki_50, ki_58, ki_66, ki_74, ki_140, ki_174, ki_179, ki_184, ki_189, ki_441, ix1, ix2, ix3, nI_add, pk_mul]; with_reducible rfl) | (simp (disch := omega) only [upd_n, ki_0, ki_1, ki_2, ki_3, ki_4, ki_5, ki_6, ki_7, ki_8, ki_9, ki_10, ki_11, ki_12, ki_17, ki_20, ki_21, ki_22, ki_42, ki_50, ki_58, ki_66, ki_74, ki_140, ki_174, ki_179, ki_184, ki_189, ki_441, ix1, nI_add, pk_mul]; with_reducible rfl) | (simp (disch := omega) only [upd_n, ki_0, ki_1, ki_2, ki_3, ki_4, ki_5, ki_6, ki_7, ki_8, ki_9, ki_10, ki_11, ki_12, ki_17, ki_20, ki_21, ki_22, ki_42, ki_50, ki_58, ki_66, ki_74, ki_140, ki_174, ki_179, ki_184, ki_189, ki_441, ix1, ix2, nI_add, pk_mul]; with_reducible rfl) | rfl); (case hlt => first | decide | omega); (case hn => decide))
    rw [hn6]
    refine mT_icmp_ge rfl (fun _ => ?_) (fun c => absurd (nI_le (a := n) (b := k) (by omega) (by omega)) c)
    obtain rfl : k = n := by omega
    exact K
  | succ r ih =>
    intro k  hk hi
    iterate 2 refine mT_s rfl rfl ?_
    (apply mT_getf; (case hc => rfl); (case ha => first | rfl | assumption); (case hf => first | rfl | assumption))
    refine mT_s rfl rfl ?_
    (apply mT_ialdK; (case hc => rfl); (case ha => first | rfl | assumption); (case hk => first | (simp only [ki_0, ki_1, ki_2, ki_3, ki_4, ki_5, ki_6, ki_7, ki_8, ki_9, ki_10, ki_11, ki_12, ki_17, ki_20, ki_21, ki_22, ki_42, ki_50, ki_58, ki_66, ki_74, ki_140, ki_174, ki_179, ki_184, ki_189, ki_441, nI_add, pk_mul]; with_reducible rfl) | (simp only [ki_0, ki_1, ki_2, ki_3, ki_4, ki_5, ki_6, ki_7, ki_8, ki_9, ki_10, ki_11, ki_12, ki_17, ki_20, ki_21, ki_22, ki_42, ki_50, ki_58, ki_66, ki_74, ki_140, ki_174, ki_179, ki_184, ki_189, ki_441, ix1, nI_add, pk_mul]; with_reducible rfl) | (simp only [ki_0, ki_1, ki_2, ki_3, ki_4, ki_5, ki_6, ki_7, ki_8, ki_9, ki_10, ki_11, ki_12, ki_17, ki_20, ki_21, ki_22, ki_42, ki_50, ki_58, ki_66, ki_74, ki_140, ki_174, ki_179, ki_184, ki_189, ki_441, ix1, ix2, nI_add, pk_mul]; with_reducible rfl) | (simp only [ki_0, ki_1, ki_2, ki_3, ki_4, ki_5, ki_6, ki_7, ki_8, ki_9, ki_10, ki_11, ki_12, ki_17, ki_20, ki_21, ki_22, ki_42, ki_50, ki_58, ki_66, ki_74, ki_140, ki_174, ki_179, ki_184, ki_189, ki_441, ix1, ix2, ix3, nI_add, pk_mul]; with_reducible rfl) | (simp (disch := omega) only [upd_n, ki_0, ki_1, ki_2, ki_3, ki_4, ki_5, ki_6, ki_7, ki_8, ki_9, ki_10, ki_11, ki_12, ki_17, ki_20, ki_21, ki_22, ki_42, ki_50, ki_58, ki_66, ki_74, ki_140, ki_174, ki_179, ki_184, ki_189, ki_441, ix1, nI_add, pk_mul]; with_reducible rfl) | (simp (disch := omega) only [upd_n, ki_0, ki_1, ki_2, ki_3, ki_4, ki_5, ki_6, ki_7, ki_8, ki_9, ki_10, ki_11, ki_12, ki_17, ki_20, ki_21, ki_22, ki_42, ki_50, ki_58, ki_66, ki_74, ki_140, ki_174, ki_179, ki_184, ki_189, ki_441, ix1, ix2, nI_add, pk_mul]; with_reducible rfl) | rfl); (case hlt => first | decide | omega); (case hn => decide))
    rw [hn6]
    refine mT_icmp_ge rfl (fun c => absurd c (nI_ge (a := k) (b := n) (by omega) (by omega))) (fun _ => ?_)
    iterate 8 refine mT_s rfl rfl ?_
    rw [show (10 : Int32) * nI (dec (t_row k)) + nI k = nI (dec (t_row (k + 1))) from by rw [t_row_S hi, show (10 : Int32) = nI 10 from rfl, pk_mul, nI_add], nI_1]
    exact ih (k + 1) (by omega) (by omega)
theorem e_table (d : Nat) (h : mH) (s i : Nat → Int32) (o t : Nat) (pd bw : Int64) (Q : Option Value → mH → Prop) (hM : h 76 = .inr (10, mObj i o t pd bw)) (h77 : h 77 = .inl (0, 889, .inl s)) (hN : 87 ≤ m_nx h) (hI : s_Inv s) {l : List Tok} {le mo : Nat} (hG : sG s l le mo) (mm : Nat → Nat) (g : Nat) (hmm : ∀ j, j < 5 → mm j ≤ 20) (hs : s_at s mm g = s) (hg : g ≤ 9999) (h80 : ∃ f, h 80 = .inl (0, 5, .inl f)) (h81 : ∃ g, h 81 = .inl (2, 64, .inl g))  (n : Nat) (hn5 : n ≤ 5) (hn6 : s 6 = nI n) (x y part : Int32) (kN : ¬ (okP s x ∧ (1 ≤ y ∧ y ≤ 8) ∧ (0 ≤ part ∧ part ≤ 1) ∧ 2 ≤ n) → Q (some (.long (-9223372036854775808))) h) (k : ∀ p m : Nat, p < n → x = nI p → m < 8 → y = nI (m + 1) → (0 ≤ part ∧ part ≤ 1) → 2 ≤ n → ∀ h2, rX [77, 80, 81] h h2 → h2 77 = .inl (0, 889, .inl s) → Q (some (.long (v_low (nT (a_od s l) le mo p m mm g 0 1 (t_row n)) (10 ^ (m + 1)) part))) h2) : mT0 (d + 20) z_X10_table 0 (m_init z_X10_table [.ref 76, .int x, .int y, .int part]) [] h Q := by
  iterate 2 refine mT_s rfl rfl ?_
  (apply mT_inv; (case hc => rfl); (case hd => rfl); (case hb => first | rfl | assumption); (case hg => rfl))
  refine e_isPlayer _ _ _ _ _ _ _ _ _ hM h77 hN hI _ (fun p2 hp2 ep2 v2 => ?_) (fun v2 => ?_)
  · have hpn2 := okP_n hn6 (by omega) hp2 ep2 v2
    iterate 4 refine mT_s rfl rfl ?_
    refine mT_c rfl rfl ?_
    refine e_in _ _ _ _ _ _ (fun a12 b12 => ?_) (fun a12 => ?_)
    · iterate 4 refine mT_s rfl rfl ?_
      refine mT_c rfl rfl ?_
      refine e_in _ _ _ _ _ _ (fun a21 b21 => ?_) (fun a21 => ?_)
      · iterate 2 refine mT_s rfl rfl ?_
        (apply mT_getf; (case hc => rfl); (case ha => first | rfl | assumption); (case hf => first | rfl | assumption))
        refine mT_s rfl rfl ?_
        (apply mT_ialdK; (case hc => rfl); (case ha => first | rfl | assumption); (case hk => first | (simp only [ki_0, ki_1, ki_2, ki_3, ki_4, ki_5, ki_6, ki_7, ki_8, ki_9, ki_10, ki_11, ki_12, ki_17, ki_20, ki_21, ki_22, ki_42, ki_50, ki_58, ki_66, ki_74, ki_140, ki_174, ki_179, ki_184, ki_189, ki_441, nI_add, pk_mul]; with_reducible rfl) | (simp only [ki_0, ki_1, ki_2, ki_3, ki_4, ki_5, ki_6, ki_7, ki_8, ki_9, ki_10, ki_11, ki_12, ki_17, ki_20, ki_21, ki_22, ki_42, ki_50, ki_58, ki_66, ki_74, ki_140, ki_174, ki_179, ki_184, ki_189, ki_441, ix1, nI_add, pk_mul]; with_reducible rfl) | (simp only [ki_0, ki_1, ki_2, ki_3, ki_4, ki_5, ki_6, ki_7, ki_8, ki_9, ki_10, ki_11, ki_12, ki_17, ki_20, ki_21, ki_22, ki_42, ki_50, ki_58, ki_66, ki_74, ki_140, ki_174, ki_179, ki_184, ki_189, ki_441, ix1, ix2, nI_add, pk_mul]; with_reducible rfl) | (simp only [ki_0, ki_1, ki_2, ki_3, ki_4, ki_5, ki_6, ki_7, ki_8, ki_9, ki_10, ki_11, ki_12, ki_17, ki_20, ki_21, ki_22, ki_42, ki_50, ki_58, ki_66, ki_74, ki_140, ki_174, ki_179, ki_184, ki_189, ki_441, ix1, ix2, ix3, nI_add, pk_mul]; with_reducible rfl) | (simp (disch := omega) only [upd_n, ki_0, ki_1, ki_2, ki_3, ki_4, ki_5, ki_6, ki_7, ki_8, ki_9, ki_10, ki_11, ki_12, ki_17, ki_20, ki_21, ki_22, ki_42, ki_50, ki_58, ki_66, ki_74, ki_140, ki_174, ki_179, ki_184, ki_189, ki_441, ix1, nI_add, pk_mul]; with_reducible rfl) | (simp (disch := omega) only [upd_n, ki_0, ki_1, ki_2, ki_3, ki_4, ki_5, ki_6, ki_7, ki_8, ki_9, ki_10, ki_11, ki_12, ki_17, ki_20, ki_21, ki_22, ki_42, ki_50, ki_58, ki_66, ki_74, ki_140, ki_174, ki_179, ki_184, ki_189, ki_441, ix1, ix2, nI_add, pk_mul]; with_reducible rfl) | rfl); (case hlt => first | decide | omega); (case hn => decide))
        refine mT_s rfl rfl ?_
        refine mT_icmp_ge rfl (fun c35 => ?_) (fun c35 => ?_)
        · rw [hn6] at c35
          have hn2 := (nI_leI (a := 2) (by omega) (by omega)).mp c35
          iterate 4 refine mT_s rfl rfl ?_
          obtain ⟨m, hm, hy⟩ : ∃ m : Nat, m < 8 ∧ y = nI (m + 1) := by
            obtain ⟨z, hz, rfl⟩ := i_nat (n := 8) (Int32.le_trans (by decide) a12) b12 (by omega)
            rcases z with _ | z
            · exact absurd a12 (by decide)
            · exact ⟨z, by omega, rfl⟩
          refine e_table_L (d + 20) h s i o t pd bw Q hM h77 hN n hn5 hn6 hn2 x y part ?_ (n - 2) 2 (by omega) (Nat.le_refl 2)
          iterate 6 refine mT_s rfl rfl ?_
          (apply mT_getf; (case hc => rfl); (case ha => first | rfl | assumption); (case hf => first | rfl | assumption))
          refine mT_s rfl rfl ?_
          (apply mT_ialdK; (case hc => rfl); (case ha => first | rfl | assumption); (case hk => first | (simp only [ki_0, ki_1, ki_2, ki_3, ki_4, ki_5, ki_6, ki_7, ki_8, ki_9, ki_10, ki_11, ki_12, ki_17, ki_20, ki_21, ki_22, ki_42, ki_50, ki_58, ki_66, ki_74, ki_140, ki_174, ki_179, ki_184, ki_189, ki_441, nI_add, pk_mul]; with_reducible rfl) | (simp only [ki_0, ki_1, ki_2, ki_3, ki_4, ki_5, ki_6, ki_7, ki_8, ki_9, ki_10, ki_11, ki_12, ki_17, ki_20, ki_21, ki_22, ki_42, ki_50, ki_58, ki_66, ki_74, ki_140, ki_174, ki_179, ki_184, ki_189, ki_441, ix1, nI_add, pk_mul]; with_reducible rfl) | (simp only [ki_0, ki_1, ki_2, ki_3, ki_4, ki_5, ki_6, ki_7, ki_8, ki_9, ki_10, ki_11, ki_12, ki_17, ki_20, ki_21, ki_22, ki_42, ki_50, ki_58, ki_66, ki_74, ki_140, ki_174, ki_179, ki_184, ki_189, ki_441, ix1, ix2, nI_add, pk_mul]; with_reducible rfl) | (simp only [ki_0, ki_1, ki_2, ki_3, ki_4, ki_5, ki_6, ki_7, ki_8, ki_9, ki_10, ki_11, ki_12, ki_17, ki_20, ki_21, ki_22, ki_42, ki_50, ki_58, ki_66, ki_74, ki_140, ki_174, ki_179, ki_184, ki_189, ki_441, ix1, ix2, ix3, nI_add, pk_mul]; with_reducible rfl) | (simp (disch := omega) only [upd_n, ki_0, ki_1, ki_2, ki_3, ki_4, ki_5, ki_6, ki_7, ki_8, ki_9, ki_10, ki_11, ki_12, ki_17, ki_20, ki_21, ki_22, ki_42, ki_50, ki_58, ki_66, ki_74, ki_140, ki_174, ki_179, ki_184, ki_189, ki_441, ix1, nI_add, pk_mul]; with_reducible rfl) | (simp (disch := omega) only [upd_n, ki_0, ki_1, ki_2, ki_3, ki_4, ki_5, ki_6, ki_7, ki_8, ki_9, ki_10, ki_11, ki_12, ki_17, ki_20, ki_21, ki_22, ki_42, ki_50, ki_58, ki_66, ki_74, ki_140, ki_174, ki_179, ki_184, ki_189, ki_441, ix1, ix2, nI_add, pk_mul]; with_reducible rfl) | rfl); (case hlt => first | decide | omega); (case hn => decide))
          iterate 3 refine mT_s rfl rfl ?_
          (apply mT_inv; (case hc => rfl); (case hd => rfl); (case hb => first | rfl | assumption); (case hg => rfl))
          rw [ep2, hn6, hy, show (2 : Int32) = nI 2 from rfl, pk_sub hn2, ← (t_row_ok hn2 hn5).2.2]
          refine mT0_d (e := d + (16 - 2 * m) + 2 * m + 3) (by omega) ?_
          refine e_tables s o t bw hG p2 hp2 _ m h i pd _ mm g hmm 0 1 (t_row n) (t_row_ok hn2 hn5).1 (t_row_ok hn2 hn5).2.1 (by rw [(t_row_ok hn2 hn5).2.2]; omega) (by omega) hm hM (by rw [hs]; exact h77) hN h80 h81 (fun h3 hr3 h773 => ?_)
          rw [hs] at h773
          have b0 : 10 ^ m ≤ 10 ^ 7 := Nat.pow_le_pow_right (by decide) (by omega)
          have b1 := nT_le (le := le) (mo := mo) (who := p2) (fun p q m o g => (a_od_n s l p q m o g).2.2) m mm g 0 1 (t_row n)
          refine mT_s rfl rfl ?_
          refine mT_c rfl rfl ?_
          refine e_tens _ _ _ (m + 1) (by omega) ?_
          refine mT_s rfl rfl ?_
          refine mT_c rfl rfl ?_
          refine e_lowest _ _ _ (((nT (a_od s l) le mo p2 m mm g 0 1 (t_row n)) : Nat) : Int) (by rw [Int.natAbs_natCast]; omega) _ part (Nat.pow_pos (by decide)) (by rw [Nat.pow_succ]; omega) ?_
          refine mT_ret rfl rfl ?_
          exact k p2 m hpn2 ep2 hm hy ⟨a21, b21⟩ hn2 h3 hr3 h773
        · rw [hn6] at c35
          have hn2 : ¬ 2 ≤ n := fun z => c35 (nI_le (a := 2) z (by omega))
          refine mT_s rfl rfl ?_
          refine mT_ret rfl rfl ?_
          exact kN (fun z => hn2 z.2.2.2)
      · iterate 2 refine mT_s rfl rfl ?_
        refine mT_ret rfl rfl ?_
        exact kN (fun z => a21 z.2.2.1)
    · iterate 2 refine mT_s rfl rfl ?_
      refine mT_ret rfl rfl ?_
      exact kN (fun z => a12 z.2.1)
  · iterate 2 refine mT_s rfl rfl ?_
    refine mT_ret rfl rfl ?_
    exact kN (fun z => v2 z.1)
