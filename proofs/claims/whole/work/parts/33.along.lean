/-! Rows for longs, and divisions by what is not known ahead. -/
section
variable {d y pc nx : Nat} {w : Value} {ls : mL} {r : List Value} {h : mH} {Q : Option Value → mH → Prop} {a k n : Nat} {i x z : Int32} {u v : Int64} {g : Nat → Int64}
theorem mT_ldiv (hc : m_cd y pc = some (.ldiv, nx, [], w)) (hy : ¬ v = 0) (K : mT0 d y nx ls (.long (u / v) :: r) h Q) : mT0 d y pc ls (.long v :: .long u :: r) h Q := by
  refine mT_s hc ?_ K
  show cond (decide (v = 0)) none _ = _
  rw [decide_eq_false hy]
  rfl
theorem mT_lrem (hc : m_cd y pc = some (.lrem, nx, [], w)) (hy : ¬ v = 0) (K : mT0 d y nx ls (.long (u - u / v * v) :: r) h Q) : mT0 d y pc ls (.long v :: .long u :: r) h Q := by
  refine mT_s hc ?_ K
  show cond (decide (v = 0)) none _ = _
  rw [decide_eq_false hy]
  rfl
theorem mT_idiv (hc : m_cd y pc = some (.idiv, nx, [], w)) (hy : ¬ z = 0) (K : mT0 d y nx ls (.int (x / z) :: r) h Q) : mT0 d y pc ls (.int z :: .int x :: r) h Q := by
  refine mT_s hc ?_ K
  show cond (decide (z = 0)) none _ = _
  rw [decide_eq_false hy]
  rfl
theorem mT_irem (hc : m_cd y pc = some (.irem, nx, [], w)) (hy : ¬ z = 0) (K : mT0 d y nx ls (.int (x - x / z * z) :: r) h Q) : mT0 d y pc ls (.int z :: .int x :: r) h Q := by
  refine mT_s hc ?_ K
  show cond (decide (z = 0)) none _ = _
  rw [decide_eq_false hy]
  rfl
theorem mT_laldK (hc : m_cd y pc = some (.laload, nx, [], w)) (ha : h a = .inl (1, n, .inr (.inl g))) (hk : i = nI k) (hlt : k < n) (hn : n ≤ 100000) (K : mT0 d y nx ls (.long (g k) :: r) h Q) : mT0 d y pc ls (.int i :: .ref a :: r) h Q := by
  subst hk
  refine mT_lald hc ha (m_in_nI hlt hn) ?_
  rw [nI_clamp (by omega)]
  exact K
theorem mT_lastK (hc : m_cd y pc = some (.lastore, nx, [], w)) (ha : h a = .inl (1, n, .inr (.inl g))) (hk : i = nI k) (hlt : k < n) (hn : n ≤ 100000) (hN : 87 ≤ m_nx h) (hg : (Nat.ble 20 a && Nat.ble (a + 1) 87) = true) (K : mT0 d y nx ls r (m_up h a (.inl (1, n, .inr (.inl (vp_updL g k u))))) Q) : mT0 d y pc ls (.long u :: .int i :: .ref a :: r) h Q := by
  subst hk
  simp only [Bool.and_eq_true] at hg
  refine mT_last hc ha (m_in_nI hlt hn) ?_ ?_
  · simp only [Bool.and_eq_true]
    exact ⟨hg.1, Nat.ble_eq_true_of_le (Nat.le_trans (Nat.le_of_ble_eq_true hg.2) hN)⟩
  · rw [nI_clamp (by omega)]
    exact K
end
