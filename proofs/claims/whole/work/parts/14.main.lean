/-! Heaps only grow; calls; and the whole: what the small machine does, the real one does. -/
theorem m_al_nx (h : mH) (c : mE) (sz : Nat) : m_nx (m_al h c sz) = m_nx h + 1 := rfl
theorem m_al_us (h : mH) (c : mE) (sz : Nat) : m_us (m_al h c sz) = m_us h + sz := rfl
def m_Gr (h h' : mH) : Prop := m_nx h ≤ m_nx h' ∧ m_us h ≤ m_us h'
theorem m_Gr.rf (h : mH) : m_Gr h h := ⟨Nat.le_refl _, Nat.le_refl _⟩
theorem m_Gr.up {h : mH} {a : Nat} {c : mE} (ha : Nat.ble 20 a = true) : m_Gr h (m_up h a c) := by
  have ha := Nat.le_of_ble_eq_true ha
  exact ⟨by rw [m_up_nx h c ha]; exact Nat.le_refl _, by rw [m_up_us h c ha]; exact Nat.le_refl _⟩
theorem m_call_inl {nx z : Nat} {as r : List Value} {x : mS} : m_call nx z as r ≠ some (.inl x) := fun h => m_call_no h
theorem m_grow1 {i : Instr} {nx pc' : Nat} {ops : List Nat} {w : Value} {ls ls' : mL} {st st' : List Value} {h h' : mH} (hs : m_st1 i nx ops w ls st h = some (.inl (pc', ls', st', h'))) : m_Gr h h' := by
  cases i
  case putfield j =>
    simp only [m_st1, m_putf] at hs
    split at hs
    · split at hs
      · obtain ⟨hg, hs⟩ := m_cond_some hs
        cases hs
        simp only [Bool.and_eq_true] at hg
        exact m_Gr.up hg.1.1.1.2
      · cases hs
    · cases hs
  case iastore =>
    simp only [m_st1, m_iast] at hs
    split at hs
    · split at hs
      · obtain ⟨hg, hs⟩ := m_cond_some hs
        cases hs
        simp only [Bool.and_eq_true] at hg
        exact m_Gr.up hg.1.2
      · cases hs
    · cases hs
  case bastore =>
    simp only [m_st1, m_bast] at hs
    split at hs
    · split at hs
      · obtain ⟨hg, hs⟩ := m_cond_some hs
        cases hs
        simp only [Bool.and_eq_true] at hg
        exact m_Gr.up hg.1.2
      · cases hs
    · cases hs
  case lastore =>
    simp only [m_st1, m_last] at hs
    split at hs
    · split at hs
      · obtain ⟨hg, hs⟩ := m_cond_some hs
        cases hs
        simp only [Bool.and_eq_true] at hg
        exact m_Gr.up hg.1.2
      · cases hs
    · cases hs
  case newarray at_ =>
    simp only [m_st1, m_newa] at hs
    split at hs
    · obtain ⟨hg, hs⟩ := m_cond_some hs
      cases hs
      exact ⟨Nat.le_succ _, Nat.le_add_right _ _⟩
    · cases hs
  case new j =>
    simp only [m_st1, m_newo] at hs
    split at hs
    · obtain ⟨hg, hs⟩ := m_cond_some hs
      cases hs
      exact ⟨Nat.le_succ _, Nat.le_add_right _ _⟩
    · cases hs
  case multianewarray j k =>
    simp only [m_st1, m_newm] at hs
    split at hs
    · obtain ⟨hg, hs⟩ := m_cond_some hs
      cases hs
      exact ⟨Nat.le_trans (Nat.le_succ _) (Nat.le_add_right _ _), Nat.le_trans (Nat.le_add_right _ _) (Nat.le_add_right _ _)⟩
    · cases hs
  case invokestatic j =>
    simp only [m_st1, m_invs, m_copy] at hs
    split at hs
    · obtain ⟨hg, hs⟩ := m_cond_some hs
      exact (m_call_no hs).elim
    · split at hs
      · split at hs
        · obtain ⟨hg, hs⟩ := m_cond_some hs
          cases hs
          simp only [Bool.and_eq_true] at hg
          exact m_Gr.up hg.1.1.2
        · cases hs
      · cases hs
    · have := m_mth_h hs
      subst this
      exact m_Gr.rf _
    · cases hs
  all_goals first
    | (simp only [m_st1] at hs; cases hs; exact m_Gr.rf _)
    | (simp only [m_st1, m_bi, m_bd, m_ui, m_bl, m_bld, m_ldi, m_ldl, m_lda, m_sti, m_stl, m_sta, m_inc, m_ifi, m_ifc, m_ifn, m_goto, m_tsw, m_lsw, m_getf, m_alen, m_iald, m_bald, m_lald, m_aald, m_inv, m_invi, m_ret, Bool.cond_eq_ite, Option.ite_none_right_eq_some] at hs
       repeat' split at hs
       all_goals first
         | (cases hs; exact m_Gr.rf _)
         | cases hs
         | (obtain ⟨-, hs⟩ := hs; cases hs; exact m_Gr.rf _)
         | (obtain ⟨-, hs⟩ := hs; exact (m_call_no hs).elim)
         | (exact (m_call_no hs).elim))
theorem m_grow : ∀ (n d y pc : Nat) (ls : mL) (st : List Value) (h : mH) (v : Option Value) (h' : mH), m_run n d y pc ls st h = some (v, h') → m_Gr h h' := by
  intro n
  induction n with
  | zero => intro d y pc ls st h v h' hq; cases hq
  | succ n ih =>
    intro d y pc ls st h v h' hq
    unfold m_run at hq
    cases hc : m_cd y pc with
    | none => rw [hc] at hq; cases hq
    | some e =>
      obtain ⟨i, nx, ops, w⟩ := e
      rw [hc] at hq
      dsimp only at hq
      cases hs : m_st1 i nx ops w ls st h with
      | none => rw [hs] at hq; cases hq
      | some z =>
        rw [hs] at hq
        rcases z with ⟨pc', ls', st', h2⟩ | ⟨z, args, pc', r⟩ | v2
        · have g1 := m_grow1 hs
          have g2 := ih _ _ _ _ _ _ _ _ hq
          exact ⟨Nat.le_trans g1.1 g2.1, Nat.le_trans g1.2 g2.2⟩
        · cases d with
          | zero => cases hq
          | succ d =>
            dsimp only at hq
            cases hr : m_run n d z 0 (m_init z args) [] h with
            | none => rw [hr] at hq; cases hq
            | some q =>
              obtain ⟨v3, h3⟩ := q
              rw [hr] at hq
              have g1 := ih _ _ _ _ _ _ _ _ hr
              have g2 := ih _ _ _ _ _ _ _ _ hq
              exact ⟨Nat.le_trans g1.1 g2.1, Nat.le_trans g1.2 g2.2⟩
        · cases hq
          exact m_Gr.rf _
theorem m_call_nr {nx z : Nat} {as r : List Value} {x : Option Value} (hs : m_call nx z as r = some (.inr (.inr x))) : False := by
  unfold m_call at hs
  cases hg : (Nat.ble (m_cat r) 8 && Nat.ble (m_cat as) (m_max z)) <;> rw [hg] at hs <;> cases hs
theorem m_end_of {i : Instr} {nx : Nat} {ops : List Nat} {w : Value} {ls : mL} {st : List Value} {h : mH} {v : Option Value} (hs : m_st1 i nx ops w ls st h = some (.inr (.inr v))) : i = .ireturn ∨ i = .lreturn ∨ i = .return_ := by
  cases i
  case ireturn => exact Or.inl rfl
  case lreturn => exact Or.inr (Or.inl rfl)
  case return_ => exact Or.inr (Or.inr rfl)
  all_goals exfalso
  all_goals first
    | (simp only [m_st1] at hs; cases hs; done)
    | (simp only [m_st1, m_bi, m_bd, m_ui, m_bl, m_bld, m_ldi, m_ldl, m_lda, m_sti, m_stl, m_sta, m_inc, m_ifi, m_ifc, m_ifn, m_goto, m_tsw, m_lsw, m_getf, m_putf, m_alen, m_iald, m_bald, m_lald, m_aald, m_iast, m_bast, m_last, m_newa, m_newo, m_newm, m_inv, m_invi, m_invs, m_copy, Bool.cond_eq_ite, Option.ite_none_right_eq_some] at hs
       repeat' split at hs
       all_goals first
         | (cases hs; done)
         | (obtain ⟨-, hs⟩ := hs; cases hs; done)
         | (obtain ⟨-, hs⟩ := hs; exact (m_call_nr hs).elim)
         | (exact (m_call_nr hs).elim)
         | (exact (m_mth_n hs).elim))
theorem m_call_eq {nx z z' pc' : Nat} {as as' r r' : List Value} (hs : m_call nx z as r = some (.inr (.inl (z', as', pc', r')))) : z' = z ∧ as' = as ∧ pc' = nx ∧ r' = r ∧ m_cat r ≤ 8 ∧ m_cat as ≤ m_max z := by
  unfold m_call at hs
  obtain ⟨hg, hs⟩ := m_cond_some hs
  cases hs
  simp only [Bool.and_eq_true] at hg
  exact ⟨rfl, rfl, rfl, rfl, Nat.le_of_ble_eq_true hg.1, Nat.le_of_ble_eq_true hg.2⟩
theorem m_calls_of {i : Instr} {nx z pc' : Nat} {ops : List Nat} {w : Value} {ls : mL} {st as r : List Value} {h : mH} (hs : m_st1 i nx ops w ls st h = some (.inr (.inl (z, as, pc', r)))) : (∃ j, i = .invokevirtual j) ∨ (∃ j, i = .invokestatic j) ∨ ∃ j, i = .invokespecial j := by
  cases i
  case invokevirtual j => exact Or.inl ⟨j, rfl⟩
  case invokestatic j => exact Or.inr (Or.inl ⟨j, rfl⟩)
  case invokespecial j => exact Or.inr (Or.inr ⟨j, rfl⟩)
  all_goals exfalso
  all_goals first
    | (simp only [m_st1] at hs; cases hs; done)
    | (simp only [m_st1, m_bi, m_bd, m_ui, m_bl, m_bld, m_ldi, m_ldl, m_lda, m_sti, m_stl, m_sta, m_inc, m_ifi, m_ifc, m_ifn, m_goto, m_tsw, m_lsw, m_getf, m_putf, m_alen, m_iald, m_bald, m_lald, m_aald, m_iast, m_bast, m_last, m_newa, m_newo, m_newm, m_ret, Bool.cond_eq_ite, Option.ite_none_right_eq_some] at hs
       repeat' split at hs
       all_goals first
         | (cases hs; done)
         | (obtain ⟨-, hs⟩ := hs; cases hs; done))
