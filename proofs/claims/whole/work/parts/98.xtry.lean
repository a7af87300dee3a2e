/-! By program (wip/whole/book*.py) and hand. -/
theorem x_playsA (d : Nat) (Q : Option Value → mH → Prop) (i : Nat → Int32) (iv : Value) (s : Nat → Int32) (l : List Tok) (le mo : Nat) (hle : le ≤ 99) (hmo : mo ≤ 99) (mm : Nat → Nat) (g p q sz : Nat) (me : Int64) (hg : g ≤ 9999) (hi1 : i 1 = nI g) (hp : p < 5) (hq : q < 5) (D : Nat → Int64) (h0 : mH) (B0 : rBs 21 h0 i iv s l le mo) (M0 : rMn 21 h0 mm) (O0 : rOr h0 sz me p) (Q0 : rQs h0) (at_ : Nat) (hat : at_ < 4) (D0 : rSp h0 (67 + at_) D) (hD0 : D 0 = 0) (hE : ∃ E, rSp h0 (68 + at_) E) (K : ∀ h2 D2 S, (∀ c, c ≠ 30 → c ≠ 68 + at_ → h2 c = h0 c) → (∃ f, h2 30 = .inl (0, 5, .inl f)) → rSp h2 (68 + at_) D2 → oJ (fun j => a_od s l p q j (mm q) (g + at_)) (n_few le) (n_mor mo) D 21 D2 S → Q (some (.long S)) h2) : mT0 (d + 4) z_X4_plays 0 (m_init z_X4_plays [.ref 63, .int (nI at_), .int (nI q)]) [] h0 Q := by
  have e : at_ = 0 ∨ at_ = 1 ∨ at_ = 2 ∨ at_ = 3 := by omega
  rcases e with rfl | rfl | rfl | rfl
  · exact x_plays0 d Q i iv s l le mo hle hmo mm g p q sz me hg hi1 hp hq D h0 B0 M0 O0 Q0 D0 hD0 hE K
  · exact x_plays1 d Q i iv s l le mo hle hmo mm g p q sz me hg hi1 hp hq D h0 B0 M0 O0 Q0 D0 hD0 hE K
  · exact x_plays2 d Q i iv s l le mo hle hmo mm g p q sz me hg hi1 hp hq D h0 B0 M0 O0 Q0 D0 hD0 hE K
  · exact x_plays3 d Q i iv s l le mo hle hmo mm g p q sz me hg hi1 hp hq D h0 B0 M0 O0 Q0 D0 hD0 hE K
def xOK (i : Nat → Int32) (iv : Value) (s : Nat → Int32) (l : List Tok) (le mo p n : Nat) (mm : Nat → Nat) (g sz d f : Nat) : Prop := ∀ (left : Nat) (row : List Nat) (h : mH) (D : Nat → Int64) (G : Int64) (st : Int × List Nat) (boF rowF : Nat → Int32) (Q : Option Value → mH → Prop), left < 32 → nPop left = f → row.length + f = sz → rOX h i iv s l le mo mm sz (iL st.1) p → rSp h (67 + row.length) D → D 0 = 0 → oG (a_od s l p) (n_few le) (n_mor mo) mm g (mm p) row D G → h 64 = .inl (0, 4, .inl boF) → h 65 = .inl (0, 4, .inl rowF) → (0 ≤ st.1 → BX boF st.2) → (-1 ≤ st.1 ∧ st.1 ≤ 360000) → (∀ j, j < row.length → rowF j = nI (row.getD j 0)) → (∀ h2 rowF2 boF2, (∀ c, c ≠ 30 → c < 63 ∨ 71 < c → h2 c = h c) → (∀ c, 67 ≤ c → c ≤ 67 + row.length → h2 c = h c) → (∃ f, h2 30 = .inl (0, 5, .inl f)) → rOr h2 sz (iL (nOr n (fun row => if row.length ≤ 4 then v_row s l le mo p mm g row else 0) f left row st).1) p → h2 66 = h 66 → (∀ a, 67 ≤ a → a ≤ 71 → ∃ E, rSp h2 a E) → h2 64 = .inl (0, 4, .inl boF2) → h2 65 = .inl (0, 4, .inl rowF2) → (0 ≤ (nOr n (fun row => if row.length ≤ 4 then v_row s l le mo p mm g row else 0) f left row st).1 → BX boF2 (nOr n (fun row => if row.length ≤ 4 then v_row s l le mo p mm g row else 0) f left row st).2) → (∀ j, j < row.length → rowF2 j = rowF j) → Q none h2) → mT0 (d + f + 5) z_X4_tryRows 0 (m_init z_X4_tryRows [.ref 63, .int (nI row.length), .int (nI left), .long G]) [] h Q
theorem xOK_0 (i : Nat → Int32) (iv : Value) (s : Nat → Int32) (l : List Tok) (le mo : Nat) (hle : le ≤ 99) (hmo : mo ≤ 99) (p n : Nat) (hp : p < 5) (hn5 : n ≤ 5) (hi0 : i 0 = nI n) (mm : Nat → Nat) (g : Nat) (hg : g ≤ 9999) (hi1 : i 1 = nI g) (sz d : Nat) (hsz : sz ≤ 4) : xOK i iv s l le mo p n mm g sz d 0 := by
  intro left row h D G st boF rowF Q hle5 hpop hlen X hD hD0 hJ h64 h65 hBO hst hrF K
  obtain ⟨B, M, hO, hQs, hSp⟩ := id X
  obtain ⟨hR, hN, -, -, -, -, -, h30⟩ := id B
  have hO : h 63 = _ := hO
  iterate 2 refine mT_s rfl rfl ?_
  (apply mT_getf; (case hc => rfl); (case ha => first | rfl | assumption); (case hf => first | rfl | assumption))
  refine mT_icmp_lt rfl (fun c => absurd ((nI_ltI (by omega) (by omega)).mp c) (by omega)) (fun _ => ?_)
  iterate 2 refine mT_s rfl rfl ?_
  (apply mT_getf; (case hc => rfl); (case ha => first | rfl | assumption); (case hf => first | rfl | assumption))
  refine mT_s rfl rfl ?_
  refine mT_if_le rfl (fun c14 => ?_) (fun c14 => ?_)
  · refine mT_ret rfl rfl ?_
    have hv := v_row_le s l le mo p mm g row (by omega)
    rw [oG_end hJ] at c14
    have c14 : iL (v_row s l le mo p mm g row : Int) ≤ iL st.1 := (lg_cmp_le _ _).mp c14
    have e0 : (nOr n (fun row => if row.length ≤ 4 then v_row s l le mo p mm g row else 0) 0 left row st) = st := by
      show (if st.1 < ((if row.length ≤ 4 then v_row s l le mo p mm g row else 0 : Nat) : Int) then _ else st) = _
      rw [if_pos (show row.length ≤ 4 by omega), if_neg (fun z => absurd ((iL_lt (by omega) (by omega) (by omega) (by omega)).mpr z) (Int64.not_lt.mpr c14))]
    rw [e0] at K
    exact K h rowF boF (fun _ _ _ => rfl) (fun _ _ _ => rfl) h30 hO rfl hSp h64 h65 hBO (fun _ _ => rfl)
  · iterate 2 refine mT_s rfl rfl ?_
    (apply mT_putfN; (case hc => rfl); (case ha => first | rfl | assumption); (case hN => assumption); (case hg => rfl))
    refine mT_s rfl rfl ?_
    (apply mT_getf; (case hc => rfl); (case ha => first | rfl | assumption); (case hf => first | rfl | assumption))
    iterate 2 refine mT_s rfl rfl ?_
    (apply mT_getf; (case hc => rfl); (case ha => first | rfl | assumption); (case hf => first | rfl | assumption))
    iterate 2 refine mT_s rfl rfl ?_
    (apply mT_copyK; (case hc => rfl); (case ha => first | rfl | assumption); (case hb => first | rfl | assumption); (case hN => assumption); (case hg => rfl))
    refine mT_ret rfl rfl ?_
    have hv := v_row_le s l le mo p mm g row (by omega)
    rw [oG_end hJ] at c14
    have c14 : iL st.1 < iL (v_row s l le mo p mm g row : Int) := Int64.not_le.mp (fun z => c14 ((lg_cmp_le _ _).mpr z))
    have e0 : (nOr n (fun row => if row.length ≤ 4 then v_row s l le mo p mm g row else 0) 0 left row st) = ((v_row s l le mo p mm g row : Int), row) := by
      show (if st.1 < ((if row.length ≤ 4 then v_row s l le mo p mm g row else 0 : Nat) : Int) then ((((if row.length ≤ 4 then v_row s l le mo p mm g row else 0 : Nat) : Int)), row) else st) = _
      rw [if_pos (show row.length ≤ 4 by omega), if_pos ((iL_lt (by omega) (by omega) (by omega) (by omega)).mp c14)]
    rw [e0] at K
    refine K _ rowF _ (fun c z1 z2 => (m_up_n (show c ≠ 64 by omega)).trans (m_up_n (show c ≠ 63 by omega))) (fun c z1 z2 => (m_up_n (show c ≠ 64 by omega)).trans (m_up_n (show c ≠ 63 by omega))) h30 (congrArg (fun z => (.inr (4, [.ref 64, .int (nI sz), .long z, .ref 65, .ref 66, .ref 21, .int (nI p)]) : mE)) (oG_end hJ)) rfl (fun a z1 z2 => by
      obtain ⟨E, hE⟩ := hSp a z1 z2
      exact ⟨E, (m_up_n (show a ≠ 64 by omega)).trans ((m_up_n (show a ≠ 63 by omega)).trans hE)⟩) rfl h65 (fun _ j hj => ?_) (fun _ _ => rfl)
    rw [← hrF j hj]
    have hj : j < row.length := hj
    show va_cpy rowF boF 0 0 4 j = _
    rw [pk_cpy_in (Nat.zero_le _) (by omega)]
    exact congrArg rowF (by omega)
set_option maxHeartbeats 4000000 in
theorem xOK_L (i : Nat → Int32) (iv : Value) (s : Nat → Int32) (l : List Tok) (le mo : Nat) (hle : le ≤ 99) (hmo : mo ≤ 99) (p n : Nat) (hp : p < 5) (hn5 : n ≤ 5) (hi0 : i 0 = nI n) (mm : Nat → Nat) (g : Nat) (hg : g ≤ 9999) (hi1 : i 1 = nI g) (sz d : Nat) (hsz : sz ≤ 4) (f : Nat) (ihf : xOK i iv s l le mo p n mm g sz d f) (left : Nat) (row : List Nat) (D : Nat → Int64) (G : Int64) (Q : Option Value → mH → Prop) (hle5 : left < 32) (hpop : nPop left = f + 1) (hlen : row.length + (f + 1) = sz) (hD0 : D 0 = 0) (hJ : oG (a_od s l p) (n_few le) (n_mor mo) mm g (mm p) row D G) : ∀ (r q : Nat) (h : mH) (st : Int × List Nat) (boF rowF : Nat → Int32), q + r = n → rOX h i iv s l le mo mm sz (iL st.1) p → rSp h (67 + row.length) D → h 64 = .inl (0, 4, .inl boF) → h 65 = .inl (0, 4, .inl rowF) → (0 ≤ st.1 → BX boF st.2) → (-1 ≤ st.1 ∧ st.1 ≤ 360000) → (∀ j, j < row.length → rowF j = nI (row.getD j 0)) → (∀ h2 rowF2 boF2, (∀ c, c ≠ 30 → c < 63 ∨ 71 < c → h2 c = h c) → (∀ c, 67 ≤ c → c ≤ 67 + row.length → h2 c = h c) → (∃ f, h2 30 = .inl (0, 5, .inl f)) → rOr h2 sz (iL (nFo (fun q st => if left / 2 ^ q % 2 = 1 then nOr n (fun row => if row.length ≤ 4 then v_row s l le mo p mm g row else 0) f (left - 2 ^ q) (row ++ [q]) st else st) r q st).1) p → h2 66 = h 66 → (∀ a, 67 ≤ a → a ≤ 71 → ∃ E, rSp h2 a E) → h2 64 = .inl (0, 4, .inl boF2) → h2 65 = .inl (0, 4, .inl rowF2) → (0 ≤ (nFo (fun q st => if left / 2 ^ q % 2 = 1 then nOr n (fun row => if row.length ≤ 4 then v_row s l le mo p mm g row else 0) f (left - 2 ^ q) (row ++ [q]) st else st) r q st).1 → BX boF2 (nFo (fun q st => if left / 2 ^ q % 2 = 1 then nOr n (fun row => if row.length ≤ 4 then v_row s l le mo p mm g row else 0) f (left - 2 ^ q) (row ++ [q]) st else st) r q st).2) → (∀ j, j < row.length → rowF2 j = rowF j) → Q none h2) → mT0 (d + (f + 1) + 5) z_X4_tryRows 40 [some (.ref 63), some (.int (nI row.length)), some (.int (nI left)), some (.long G), none, some (.int (nI q))] [] h Q := by
  intro r
  induction r with
  | zero =>
    intro q h st boF rowF hq X hD h64 h65 hBO hst hrF K
    obtain ⟨B, M, hO, hQs, hSp⟩ := id X
    obtain ⟨hR, hN, -, -, -, -, -, h30⟩ := id B
    have hO : h 63 = _ := hO
    iterate 2 refine mT_s rfl rfl ?_
    (apply mT_getf; (case hc => rfl); (case ha => first | rfl | assumption); (case hf => first | rfl | assumption))
    (apply mT_getf; (case hc => rfl); (case ha => first | rfl | assumption); (case hf => first | rfl | assumption))
    rw [hi0]
    refine mT_icmp_ge rfl (fun _ => ?_) (fun c => absurd (nI_le (by omega) (by omega)) c)
    refine mT_ret rfl rfl ?_
    exact K h rowF boF (fun _ _ _ => rfl) (fun _ _ _ => rfl) h30 hO rfl hSp h64 h65 hBO (fun _ _ => rfl)
  | succ r ih =>
    intro q h st boF rowF hq X hD h64 h65 hBO hst hrF K
    have hq5 : q < 5 := by omega
    obtain ⟨B, M, hO, hQs, hSp⟩ := id X
    obtain ⟨hR, hN, -, -, -, -, -, h30⟩ := id B
    have hO : h 63 = _ := hO
    iterate 2 refine mT_s rfl rfl ?_
    (apply mT_getf; (case hc => rfl); (case ha => first | rfl | assumption); (case hf => first | rfl | assumption))
    (apply mT_getf; (case hc => rfl); (case ha => first | rfl | assumption); (case hf => first | rfl | assumption))
    rw [hi0]
    refine mT_icmp_ge rfl (fun c => absurd c (nI_ge (by omega) (by omega))) (fun _ => ?_)
    iterate 6 refine mT_s rfl rfl ?_
    refine mT_icmp_ne rfl (fun c59 => ?_) (fun c59 => ?_)
    · rw [bit_1 hle5 hq5] at c59
      have c59 : ¬ left / 2 ^ q % 2 = 1 := fun z => c59 (congrArg nI z)
      iterate 2 refine mT_s rfl rfl ?_
      rw [nI_1]
      unfold nFo at K
      rw [if_neg c59] at K
      exact ih (q + 1) h st boF rowF (by omega) X hD h64 h65 hBO hst hrF K
    · rw [bit_1 hle5 hq5] at c59
      have c59 : left / 2 ^ q % 2 = 1 := (nI_eq (b := 1) (by omega) (by omega)).mp c59
      refine mT_s rfl rfl ?_
      (apply mT_getf; (case hc => rfl); (case ha => first | rfl | assumption); (case hf => first | rfl | assumption))
      iterate 2 refine mT_s rfl rfl ?_
      (apply mT_iastK; (case hc => rfl); (case ha => first | rfl | assumption); (case hk => first | (simp only [ki_0, ki_1, ki_2, ki_3, ki_4, ki_5, ki_6, ki_7, ki_8, ki_9, ki_10, ki_11, ki_12, ki_17, ki_20, ki_21, ki_22, ki_42, ki_50, ki_58, ki_66, ki_74, ki_140, ki_174, ki_179, ki_184, ki_189, ki_441, nI_add, pk_mul]; with_reducible rfl) | (simp only [ki_0, ki_1, ki_2, ki_3, ki_4, ki_5, ki_6, ki_7, ki_8, ki_9, ki_10, ki_11, ki_12, ki_17, ki_20, ki_21, ki_22, ki_42, ki_50, ki_58, ki_66, ki_74, ki_140, ki_174, ki_179, ki_184, ki_189, ki_441, ix1, nI_add, pk_mul]; with_reducible rfl) | (simp only [ki_0, ki_1, ki_2, ki_3, ki_4, ki_5, ki_6, ki_7, ki_8, ki_9, ki_10, ki_11, ki_12, ki_17, ki_20, ki_21, ki_22, ki_42, ki_50, ki_58, ki_66, ki_74, ki_140, ki_174, ki_179, ki_184, ki_189, ki_441, ix1, ix2, nI_add, pk_mul]; with_reducible rfl) | (simp only [ki_0, ki_1, ki_2, ki_3, ki_4, ki_5, ki_6, ki_7, ki_8, ki_9, ki_10, ki_11, ki_12, ki_17, ki_20, ki_21, ki_22, ki_42, ki_50, ki_58, ki_66, ki_74, ki_140, ki_174, ki_179, ki_184, ki_189, ki_441, ix1, ix2, ix3, nI_add, pk_mul]; with_reducible rfl) | (simp (disch := omega) only [upd_n, ki_0, ki_1, ki_2, ki_3, ki_4, ki_5, ki_6, ki_7, ki_8, ki_9, ki_10, ki_11, ki_12, ki_17, ki_20, ki_21, ki_22, ki_42, ki_50, ki_58, ki_66, ki_74, ki_140, ki_174, ki_179, ki_184, ki_189, ki_441, ix1, nI_add, pk_mul]; with_reducible rfl) | (simp (disch := omega) only [upd_n, ki_0, ki_1, ki_2, ki_3, ki_4, ki_5, ki_6, ki_7, ki_8, ki_9, ki_10, ki_11, ki_12, ki_17, ki_20, ki_21, ki_22, ki_42, ki_50, ki_58, ki_66, ki_74, ki_140, ki_174, ki_179, ki_184, ki_189, ki_441, ix1, ix2, nI_add, pk_mul]; with_reducible rfl) | rfl); (case hlt => first | decide | omega); (case hn => first | decide | omega); (case hN => assumption); (case hg => rfl))
      iterate 17 refine mT_s rfl rfl ?_
      (apply mT_inv; (case hc => rfl); (case hd => rfl); (case hb => first | rfl | assumption); (case hg => rfl))
      refine x_playsA (d + f + 1) _ i iv s l le mo hle hmo mm g p q sz (iL st.1) hg hi1 hp hq5 D (m_up h 65 _) (B.d5 (fun a z1 z2 => m_up_n (show a ≠ 65 by omega)) h30) (M.c rfl) hO hQs row.length (by omega) ((m_up_n (show 67 + row.length ≠ 65 by omega)).trans hD) hD0 (by
        obtain ⟨E, hE⟩ := hSp (68 + row.length) (by omega) (by omega)
        exact ⟨E, (m_up_n (show 68 + row.length ≠ 65 by omega)).trans hE⟩) (fun h2 D2 S f2 h230 hD2 hJ2 => ?_)
      have fr2 : ∀ c, c ≠ 30 → c ≠ 65 → c ≠ 68 + row.length → h2 c = h c := fun c z1 z2 z3 => (f2 c z1 z3).trans (m_up_n z2)
      have X2 : rOX h2 i iv s l le mo mm sz (iL st.1) p := X.c (fun c z1 z2 => fr2 c z1 (by omega) (by omega)) h230 ((fr2 63 (by decide) (by decide) (by omega)).trans hO) (fr2 66 (by decide) (by decide) (by omega)) (fun a z1 z2 => by
        by_cases e : a = 68 + row.length
        · subst e; exact ⟨_, hD2⟩
        · obtain ⟨E, hE⟩ := hSp a z1 z2
          exact ⟨E, (fr2 a (by omega) (by omega) e).trans hE⟩)
      have h642 : h2 64 = _ := (fr2 64 (by decide) (by decide) (by omega)).trans h64
      have h652 : h2 65 = .inl (0, 4, .inl (upd rowF row.length (nI q))) := (f2 65 (by decide) (by omega)).trans rfl
      have hJ3 := oG_S hJ hJ2
      refine mT_s rfl rfl ?_
      refine mT_c rfl rfl ?_
      rw [(bit_2 hle5 hq5 c59).1, nI_1]
      have hB2 := (bit_2 hle5 hq5 c59).2
      have hlen2 : (row ++ [q]).length = row.length + 1 := by rw [List.length_append]; rfl
      rw [← hlen2]
      refine ihf (left - 2 ^ q) (row ++ [q]) h2 D2 (G * 10 + S) st boF (upd rowF row.length (nI q)) _ (Nat.lt_of_le_of_lt (Nat.sub_le _ _) hle5) (by omega) (by omega) X2 (by rw [hlen2, show 67 + (row.length + 1) = 68 + row.length by omega]; exact hD2) hJ2.1 hJ3 h642 h652 hBO hst ?_ (fun h3 rowF3 boF3 f3 k3 h330 hO3 h663 hSp3 h643 h653 hBO3 hrF3 => ?_)
      · intro j hj
        by_cases e : j = row.length
        · subst e
          rw [upd_s, getD_e hj, List.getElem_append_right (Nat.le_refl _)]
          exact congrArg nI (by simp)
        · have hj2 : j < row.length := by omega
          rw [upd_n _ _ e, hrF j hj2, getD_e hj2, getD_e hj, List.getElem_append_left hj2]
      rw [hlen2] at k3 hrF3
      have fr3 : ∀ c, c ≠ 30 → c < 63 ∨ 71 < c → h3 c = h c := fun c z1 z2 => (f3 c z1 z2).trans (fr2 c z1 (by omega) (by omega))
      have X3 := X.c fr3 h330 hO3 (h663.trans (fr2 66 (by decide) (by decide) (by omega))) hSp3
      have kr3 : ∀ c, 67 ≤ c → c ≤ 67 + row.length → h3 c = h c := fun c z1 z2 => (k3 c z1 (by omega)).trans (fr2 c (by omega) (by omega) (by omega))
      iterate 2 refine mT_s rfl rfl ?_
      rw [nI_1]
      unfold nFo at K
      rw [if_pos c59] at K
      have hst3 := nOr_inv (n := n) (val := (fun row => if row.length ≤ 4 then v_row s l le mo p mm g row else 0)) (B := 360000) (fun row => by
        show ((if row.length ≤ 4 then v_row s l le mo p mm g row else 0 : Nat) : Int) ≤ 360000
        split
        · rename_i z
          have := v_row_le s l le mo p mm g row z
          omega
        · decide) (f := f) (left := left - 2 ^ q) (row := row ++ [q]) hst
      refine ih (q + 1) h3 _ boF3 rowF3 (by omega) X3 ((kr3 _ (by omega) (by omega)).trans hD) h643 h653 hBO3 hst3 (fun j hj => ?_) (fun h4 rowF4 boF4 f4 k4 h430 hO4 h664 hSp4 h644 h654 hBO4 hrF4 => ?_)
      · rw [hrF3 j (by omega), upd_n _ _ (by omega)]
        exact hrF j hj
      · refine K h4 rowF4 boF4 (fun c z1 z2 => (f4 c z1 z2).trans (fr3 c z1 z2)) (fun c z1 z2 => (k4 c z1 z2).trans (kr3 c z1 z2)) h430 hO4 (h664.trans (h663.trans (fr2 66 (by decide) (by decide) (by omega)))) hSp4 h644 h654 hBO4 (fun j hj => ?_)
        rw [hrF4 j hj, hrF3 j (by omega), upd_n _ _ (by omega)]
theorem xOK_S (i : Nat → Int32) (iv : Value) (s : Nat → Int32) (l : List Tok) (le mo : Nat) (hle : le ≤ 99) (hmo : mo ≤ 99) (p n : Nat) (hp : p < 5) (hn5 : n ≤ 5) (hi0 : i 0 = nI n) (mm : Nat → Nat) (g : Nat) (hg : g ≤ 9999) (hi1 : i 1 = nI g) (sz d : Nat) (hsz : sz ≤ 4) (f : Nat) (ihf : xOK i iv s l le mo p n mm g sz d f) : xOK i iv s l le mo p n mm g sz d (f + 1) := by
  intro left row h D G st boF rowF Q hle5 hpop hlen X hD hD0 hJ h64 h65 hBO hst hrF K
  obtain ⟨B, M, hO, hQs, hSp⟩ := id X
  obtain ⟨hR, hN, -, -, -, -, -, h30⟩ := id B
  have hO : h 63 = _ := hO
  iterate 2 refine mT_s rfl rfl ?_
  (apply mT_getf; (case hc => rfl); (case ha => first | rfl | assumption); (case hf => first | rfl | assumption))
  refine mT_icmp_lt rfl (fun _ => ?_) (fun c => absurd (nI_lt (by omega) (by omega)) c)
  iterate 2 refine mT_s rfl rfl ?_
  exact xOK_L i iv s l le mo hle hmo p n hp hn5 hi0 mm g hg hi1 sz d hsz f ihf left row D G Q hle5 hpop hlen hD0 hJ n 0 h st boF rowF (by omega) X hD h64 h65 hBO hst hrF K
theorem xOK_all (i : Nat → Int32) (iv : Value) (s : Nat → Int32) (l : List Tok) (le mo : Nat) (hle : le ≤ 99) (hmo : mo ≤ 99) (p n : Nat) (hp : p < 5) (hn5 : n ≤ 5) (hi0 : i 0 = nI n) (mm : Nat → Nat) (g : Nat) (hg : g ≤ 9999) (hi1 : i 1 = nI g) (sz d : Nat) (hsz : sz ≤ 4) : ∀ f, xOK i iv s l le mo p n mm g sz d f
  | 0 => xOK_0 i iv s l le mo hle hmo p n hp hn5 hi0 mm g hg hi1 sz d hsz
  | f + 1 => xOK_S i iv s l le mo hle hmo p n hp hn5 hi0 mm g hg hi1 sz d hsz f (xOK_all i iv s l le mo hle hmo p n hp hn5 hi0 mm g hg hi1 sz d hsz f)