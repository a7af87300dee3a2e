/-! New objects at places that are numbers. -/
def m_alN (h : mH) (N : Nat) (c : mE) (sz : Nat) : mH := m_up (m_up (m_up h 0 (.inr (N + 1, []))) 1 (.inr (m_us h + sz, []))) N c
theorem m_al_N {h : mH} {N : Nat} {c : mE} {sz : Nat} (hN : m_nx h = N) (h20 : Nat.ble 20 N = true) : m_al h c sz = m_alN h N c sz := by
  have h20 := Nat.le_of_ble_eq_true h20
  subst hN
  funext a
  unfold m_al m_alN m_up
  cases e0 : Nat.beq a 0 <;> cases e1 : Nat.beq a 1 <;> cases e2 : Nat.beq a (m_nx h) <;> first | rfl | (exfalso; have := Nat.eq_of_beq_eq_true e0; have := Nat.eq_of_beq_eq_true e2; omega) | (exfalso; have := Nat.eq_of_beq_eq_true e1; have := Nat.eq_of_beq_eq_true e2; omega) | (exfalso; have := Nat.eq_of_beq_eq_true e0; have := Nat.eq_of_beq_eq_true e1; omega)
theorem mT_newaN {d y pc nx t k N : Nat} {i : Instr} {w : Value} {ls : mL} {r : List Value} {h : mH} {Q : Option Value → mH → Prop} {x : Int32} (hc : m_cd y pc = some (i, nx, [t], w)) (hi : m_st1 i nx [t] w ls (.int x :: r) h = m_newa nx [t] ls (.int x :: r) h) (hx : x = nI k) (hk : k ≤ 100000) (hN : m_nx h = N) (h20 : Nat.ble 20 N = true) (K : mT0 d y nx ls (.ref N :: r) (m_alN h N (.inl (t, k, m_zero t)) k) Q) : mT0 d y pc ls (.int x :: r) h Q := by
  subst hx
  have e1 : decide ((0 : Int32) ≤ nI k) = true := decide_eq_true (nI_pos' (by omega))
  refine mT_s hc (hi.trans ?_) K
  rw [← m_al_N hN h20]
  simp only [m_newa, e1, nI_clamp (show k < 2 ^ 31 by omega), Nat.ble_eq_true_of_le hk, hN, h20, Bool.and_self, cond_true]
theorem mT_newoN {d y pc nx ci N : Nat} {i : Instr} {w : Value} {ls : mL} {st : List Value} {h : mH} {Q : Option Value → mH → Prop} (hc : m_cd y pc = some (i, nx, [ci], w)) (hi : m_st1 i nx [ci] w ls st h = m_newo nx [ci] ls st h) (hN : m_nx h = N) (h20 : Nat.ble 20 N = true) (K : mT0 d y nx ls (.ref N :: st) (m_alN h N (.inr (ci, m_new ci)) (m_new ci).length) Q) : mT0 d y pc ls st h Q := by
  refine mT_s hc (hi.trans ?_) K
  rw [← m_al_N hN h20]
  simp only [m_newo, hN, h20, cond_true]
theorem mT_putfE {d y pc nx a ci k tc j E : Nat} {w v : Value} {ls : mL} {r : List Value} {h : mH} {Q : Option Value → mH → Prop} {fs : List Value} (hc : m_cd y pc = some (.putfield j, nx, [ci, k, tc], w)) (ha : h a = .inr (ci, fs)) (hE : m_nx h = E) (hg : (Nat.ble 20 a && Nat.ble (a + 1) E && Nat.ble (k + 1) fs.length && m_fits tc v) = true) (K : mT0 d y nx ls r (m_up h a (.inr (ci, fs.set k v))) Q) : mT0 d y pc ls (v :: .ref a :: r) h Q := mT_putf hc ha (by rw [hE]; exact hg) K
theorem mT_newmN {d y pc nx : Nat} {i : Instr} {ops : List Nat} {w : Value} {ls : mL} {r : List Value} {h : mH} {Q : Option Value → mH → Prop} (hc : m_cd y pc = some (i, nx, ops, w)) (hi : m_st1 i nx ops w ls (.int 21 :: .int 5 :: r) h = m_newm nx ls (.int 21 :: .int 5 :: r) h) (hN : m_nx h = 66)
    (K : ∀ h2, (∀ a, a ≠ 0 → a ≠ 1 → a < 66 ∨ 71 < a → h2 a = h a) → h2 66 = .inl (3, 5, .inr (.inr (.inr (.inr fun i => if i < 5 then some (67 + i) else none)))) → (∀ a, 67 ≤ a → a ≤ 71 → h2 a = .inl (1, 21, .inr (.inl fun _ => 0))) → m_nx h2 = 72 → m_us h2 = m_us h + 110 → mT0 d y nx ls (.ref 66 :: r) h2 Q) : mT0 d y pc ls (.int 21 :: .int 5 :: r) h Q := by
  have hb : ∀ (a k : Nat), a ≠ k → Nat.beq a k = false := fun a k z => Bool.eq_false_iff.mpr (fun w => z (Nat.eq_of_beq_eq_true w))
  refine mT_s (h' := m_alm h 5 21) hc (hi.trans ?_) (K (m_alm h 5 21) (fun a a0 a1 a2 => ?_) ?_ (fun a a1 a2 => ?_) ?_ ?_)
  · have e1 : decide ((0 : Int32) ≤ 5) = true := by decide
    have e2 : decide ((0 : Int32) ≤ 21) = true := by decide
    have e3 : (5 : Int32).toNatClampNeg = 5 := by decide
    have e4 : (21 : Int32).toNatClampNeg = 21 := by decide
    simp only [m_newm, e1, e2, e3, e4, hN, Bool.and_self, cond_true]
    rfl
  · unfold m_alm
    rw [hb a 0 a0, hb a 1 a1, hN, hb a 66 (by omega)]
    have e : (Nat.ble (66 + 1) a && Nat.ble (a + 1) (66 + 1 + 5)) = false := by
      rcases a2 with z | z
      · have : Nat.ble (66 + 1) a = false := Bool.eq_false_iff.mpr (fun w => by have := Nat.le_of_ble_eq_true w; omega)
        rw [this]
        rfl
      · have : Nat.ble (a + 1) (66 + 1 + 5) = false := Bool.eq_false_iff.mpr (fun w => by have := Nat.le_of_ble_eq_true w; omega)
        rw [this, Bool.and_false]
    rw [e]
    rfl
  · unfold m_alm
    rw [hN]
    rfl
  · unfold m_alm
    rw [hb a 0 (by omega), hb a 1 (by omega), hN, hb a 66 (by omega), Nat.ble_eq_true_of_le (show 66 + 1 ≤ a by omega), Nat.ble_eq_true_of_le (show a + 1 ≤ 66 + 1 + 5 by omega)]
    rfl
  · show m_nx h + 1 + 5 = 72
    rw [hN]
  · show m_us h + 5 + 5 * 21 = m_us h + 110
    omega
