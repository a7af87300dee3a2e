/-! New objects at a place that is no number, and the inn's. -/
theorem m_al_f (h : mH) (c : mE) (sz : Nat) (h20 : 20 ≤ m_nx h) : (∀ a, a ≠ 0 → a ≠ 1 → a ≠ m_nx h → m_al h c sz a = h a) ∧ m_al h c sz (m_nx h) = c ∧ m_nx (m_al h c sz) = m_nx h + 1 ∧ m_us (m_al h c sz) = m_us h + sz := by
  refine ⟨fun a h0 h1 h2 => ?_, ?_, rfl, rfl⟩
  · have e0 : Nat.beq a 0 = false := Bool.eq_false_iff.mpr (fun z => h0 (Nat.eq_of_beq_eq_true z))
    have e1 : Nat.beq a 1 = false := Bool.eq_false_iff.mpr (fun z => h1 (Nat.eq_of_beq_eq_true z))
    have e2 : Nat.beq a (m_nx h) = false := Bool.eq_false_iff.mpr (fun z => h2 (Nat.eq_of_beq_eq_true z))
    unfold m_al
    rw [e0, e1, e2]
    rfl
  · have e0 : Nat.beq (m_nx h) 0 = false := Bool.eq_false_iff.mpr (fun z => by have := Nat.eq_of_beq_eq_true z; omega)
    have e1 : Nat.beq (m_nx h) 1 = false := Bool.eq_false_iff.mpr (fun z => by have := Nat.eq_of_beq_eq_true z; omega)
    unfold m_al
    rw [e0, e1, Nat.beq_refl]
    rfl
theorem mT_newaV {d y pc nx t k : Nat} {i : Instr} {w : Value} {ls : mL} {r : List Value} {h : mH} {Q : Option Value → mH → Prop} {x : Int32} (hc : m_cd y pc = some (i, nx, [t], w)) (hi : m_st1 i nx [t] w ls (.int x :: r) h = m_newa nx [t] ls (.int x :: r) h) (hx : x = nI k) (hk : k ≤ 100000) (h20 : 20 ≤ m_nx h)
    (K : ∀ h2, (∀ a, a ≠ 0 → a ≠ 1 → a ≠ m_nx h → h2 a = h a) → h2 (m_nx h) = .inl (t, k, m_zero t) → m_nx h2 = m_nx h + 1 → m_us h2 = m_us h + k → mT0 d y nx ls (.ref (m_nx h) :: r) h2 Q) : mT0 d y pc ls (.int x :: r) h Q := by
  subst hx
  have e1 : decide ((0 : Int32) ≤ nI k) = true := decide_eq_true (nI_pos' (by omega))
  obtain ⟨f, c, n, u⟩ := m_al_f h (.inl (t, k, m_zero t)) k h20
  refine mT_s hc (hi.trans ?_) (K _ f c n u)
  simp only [m_newa, e1, nI_clamp (show k < 2 ^ 31 by omega), Nat.ble_eq_true_of_le hk, Nat.ble_eq_true_of_le h20, Bool.and_self, cond_true]
theorem mT_newoV {d y pc nx ci : Nat} {i : Instr} {w : Value} {ls : mL} {st : List Value} {h : mH} {Q : Option Value → mH → Prop} (hc : m_cd y pc = some (i, nx, [ci], w)) (hi : m_st1 i nx [ci] w ls st h = m_newo nx [ci] ls st h) (h20 : 20 ≤ m_nx h)
    (K : ∀ h2, (∀ a, a ≠ 0 → a ≠ 1 → a ≠ m_nx h → h2 a = h a) → h2 (m_nx h) = .inr (ci, m_new ci) → m_nx h2 = m_nx h + 1 → m_us h2 = m_us h + (m_new ci).length → mT0 d y nx ls (.ref (m_nx h) :: st) h2 Q) : mT0 d y pc ls st h Q := by
  obtain ⟨f, c, n, u⟩ := m_al_f h (.inr (ci, m_new ci)) (m_new ci).length h20
  refine mT_s hc (hi.trans ?_) (K _ f c n u)
  simp only [m_newo, Nat.ble_eq_true_of_le h20, cond_true]
theorem mT_putfG {d y pc nx a ci k tc j : Nat} {w v : Value} {ls : mL} {r : List Value} {h : mH} {Q : Option Value → mH → Prop} {fs : List Value} (hc : m_cd y pc = some (.putfield j, nx, [ci, k, tc], w)) (ha : h a = .inr (ci, fs)) (h20 : 20 ≤ a) (hN : a + 1 ≤ m_nx h) (hg : (Nat.ble (k + 1) fs.length && m_fits tc v) = true) (K : ∀ h2, (∀ b, b ≠ a → h2 b = h b) → h2 a = .inr (ci, fs.set k v) → mT0 d y nx ls r h2 Q) : mT0 d y pc ls (v :: .ref a :: r) h Q := by
  simp only [Bool.and_eq_true] at hg
  refine mT_putf hc ha ?_ (K _ (fun b z => m_up_n z) ?_)
  · simp only [Bool.and_eq_true]
    exact ⟨⟨⟨Nat.ble_eq_true_of_le h20, Nat.ble_eq_true_of_le hN⟩, hg.1⟩, hg.2⟩
  · unfold m_up
    rw [Nat.beq_refl]
    rfl
theorem mT_oinit {d y pc nx a : Nat} {j : Nat} {w : Value} {ls : mL} {r : List Value} {h : mH} {Q : Option Value → mH → Prop} (hc : m_cd y pc = some (.invokespecial j, nx, [], w)) (h20 : 20 ≤ a) (hr : Nat.ble (m_cat r) 8 = true) (K : mT0 d y nx ls r h Q) : mT0 d y pc ls (.ref a :: r) h Q := by
  refine mT_s hc ?_ K
  simp only [m_st1, m_invi, Nat.ble_eq_true_of_le h20, hr, Bool.and_self, cond_true]
theorem mT_copyV {d y pc nx j a b n0 n1 k : Nat} {w : Value} {ls : mL} {r : List Value} {h : mH} {Q : Option Value → mH → Prop} {f g : Nat → Int32} (hc : m_cd y pc = some (.invokestatic j, nx, [], w)) (ha : h a = .inl (0, n0, .inl f)) (hb : h b = .inl (0, n1, .inl g)) (hk0 : k ≤ n0) (hk1 : k ≤ n1) (hk : k ≤ 100000) (ha20 : 20 ≤ a) (hb20 : 20 ≤ b) (haN : a + 1 ≤ m_nx h) (hbN : b + 1 ≤ m_nx h) (hr : Nat.ble (m_cat r) 8 = true)
    (K : ∀ h2, (∀ c, c ≠ b → h2 c = h c) → h2 b = .inl (0, n1, .inl (va_cpy f g 0 0 k)) → mT0 d y nx ls r h2 Q) : mT0 d y pc ls (.int (nI k) :: .int 0 :: .ref b :: .int 0 :: .ref a :: r) h Q := by
  have e1 : decide ((0 : Int32) ≤ nI k) = true := decide_eq_true (nI_pos' (by omega))
  have e2 : decide ((0 : Int32) ≤ 0) = true := by decide
  have e3 : (0 : Int32).toNatClampNeg = 0 := by decide
  refine mT_s hc ?_ (K (m_up h b (.inl (0, n1, .inl (va_cpy f g 0 0 k)))) (fun c z => m_up_n z) ?_)
  · show m_copy nx ls (.int (nI k) :: .int 0 :: .ref b :: .int 0 :: .ref a :: r) h = _
    simp only [m_copy, ha, hb, e1, e2, e3, nI_clamp (show k < 2 ^ 31 by omega), Nat.zero_add, Nat.ble_eq_true_of_le hk0, Nat.ble_eq_true_of_le hk1, Nat.ble_eq_true_of_le ha20, Nat.ble_eq_true_of_le hb20, Nat.ble_eq_true_of_le haN, Nat.ble_eq_true_of_le hbN, hr, Bool.and_self, cond_true]
  · unfold m_up
    rw [Nat.beq_refl]
    rfl
theorem nx_of {h h2 : mH} (hh : h2 0 = h 0) : m_nx h2 = m_nx h := by
  unfold m_nx
  rw [hh]
theorem us_of {h h2 : mH} (hh : h2 1 = h 1) : m_us h2 = m_us h := by
  unfold m_us
  rw [hh]
theorem x_innInit (d : Nat) (h : mH) (Q : Option Value → mH → Prop) (N p : Nat) (lf mf : Int32) (cd : Nat → Int32) (k e : Nat) (R : rRd h p lf mf cd k e) (hN : 87 ≤ N) (hx : m_nx h = N + 1) (hO : h N = .inr (3, m_new 3)) (K : ∀ h2 code, (∀ a, a ≠ 0 → a ≠ 1 → a ≠ N → a ≠ N + 1 → h2 a = h a) → h2 N = .inr (3, [.int lf, .int mf, .ref (N + 1)]) → h2 (N + 1) = .inl (0, k, .inl code) → (∀ j, j < k → code j = cd j) → m_nx h2 = N + 2 → m_us h2 = m_us h + k → Q none h2) : mT0 d z_X3_init 0 (m_init z_X3_init [.ref N, .ref 51]) [] h Q := by
  obtain ⟨hR, hC, hk⟩ := R
  refine mT_s rfl rfl ?_
  refine mT_oinit rfl (by omega) rfl ?_
  iterate 2 refine mT_s rfl rfl ?_
  (apply mT_getf; (case hc => rfl); (case ha => first | rfl | assumption); (case hf => first | rfl | assumption))
  refine mT_putfG rfl hO (by omega) (by omega) rfl (fun h1 f1 hO1 => ?_)
  have hR1 : h1 51 = _ := (f1 51 (by omega)).trans hR
  have n1 := nx_of (f1 0 (by omega))
  iterate 2 refine mT_s rfl rfl ?_
  (apply mT_getf; (case hc => rfl); (case ha => first | rfl | assumption); (case hf => first | rfl | assumption))
  refine mT_putfG rfl hO1 (by omega) (by omega) rfl (fun h2 f2 hO2 => ?_)
  have hR2 : h2 51 = _ := (f2 51 (by omega)).trans hR1
  have n2 := nx_of (f2 0 (by omega))
  iterate 2 refine mT_s rfl rfl ?_
  (apply mT_getf; (case hc => rfl); (case ha => first | rfl | assumption); (case hf => first | rfl | assumption))
  have hN2 : m_nx h2 = N + 1 := n2.trans (n1.trans hx)
  refine mT_newaV (k := k) rfl rfl rfl (by omega) (by omega) (fun h3 f3 hA3 n3 u3 => ?_)
  rw [hN2] at f3 hA3 n3 ⊢
  have hO3 := (f3 N (by omega) (by omega) (by omega)).trans hO2
  refine mT_putfG rfl hO3 (by omega) (by omega) rfl (fun h4 f4 hO4 => ?_)
  have hR4 : h4 51 = _ := (f4 51 (by omega)).trans ((f3 51 (by omega) (by omega) (by omega)).trans hR2)
  have hC4 : h4 52 = _ := (f4 52 (by omega)).trans ((f3 52 (by omega) (by omega) (by omega)).trans ((f2 52 (by omega)).trans ((f1 52 (by omega)).trans hC)))
  have hA4 : h4 (N + 1) = .inl (0, k, .inl (fun _ => 0)) := (f4 (N + 1) (by omega)).trans hA3
  have n4 := nx_of (f4 0 (by omega))
  refine mT_s rfl rfl ?_
  (apply mT_getf; (case hc => rfl); (case ha => first | rfl | assumption); (case hf => first | rfl | assumption))
  iterate 2 refine mT_s rfl rfl ?_
  (apply mT_getf; (case hc => rfl); (case ha => first | rfl | assumption); (case hf => first | rfl | assumption))
  iterate 2 refine mT_s rfl rfl ?_
  (apply mT_getf; (case hc => rfl); (case ha => first | rfl | assumption); (case hf => first | rfl | assumption))
  refine mT_copyV rfl hC4 hA4 hk (Nat.le_refl _) (by omega) (by decide) (by omega) (by omega) (by omega) rfl (fun h5 f5 hA5 => ?_)
  refine mT_ret rfl rfl ?_
  refine K h5 _ (fun a a0 a1 a2 a3 => (f5 a a3).trans ((f4 a a2).trans ((f3 a a0 a1 a3).trans ((f2 a a2).trans (f1 a a2))))) ((f5 N (by omega)).trans hO4) hA5 (fun j hj => ?_) ?_ ?_
  · rw [pk_cpy_in (Nat.zero_le _) (by omega)]
    exact congrArg cd (by omega)
  · rw [nx_of (f5 0 (by omega)), n4, n3]
  · rw [us_of (f5 1 (by omega)), us_of (f4 1 (by omega)), u3, us_of (f2 1 (by omega)), us_of (f1 1 (by omega))]
