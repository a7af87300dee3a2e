/-! Rows for walking the small machine. -/
theorem ki_0 : (0 : Int32) = nI 0 := rfl
theorem ki_1 : (1 : Int32) = nI 1 := rfl
theorem ki_2 : (2 : Int32) = nI 2 := rfl
theorem ki_3 : (3 : Int32) = nI 3 := rfl
theorem ki_4 : (4 : Int32) = nI 4 := rfl
theorem ki_5 : (5 : Int32) = nI 5 := rfl
theorem ki_6 : (6 : Int32) = nI 6 := rfl
theorem ki_7 : (7 : Int32) = nI 7 := rfl
theorem ki_8 : (8 : Int32) = nI 8 := rfl
theorem ki_9 : (9 : Int32) = nI 9 := rfl
theorem ki_10 : (10 : Int32) = nI 10 := rfl
theorem ki_11 : (11 : Int32) = nI 11 := rfl
theorem ki_12 : (12 : Int32) = nI 12 := rfl
theorem ki_17 : (17 : Int32) = nI 17 := rfl
theorem ki_20 : (20 : Int32) = nI 20 := rfl
theorem ki_21 : (21 : Int32) = nI 21 := rfl
theorem ki_22 : (22 : Int32) = nI 22 := rfl
theorem ki_42 : (42 : Int32) = nI 42 := rfl
theorem ki_50 : (50 : Int32) = nI 50 := rfl
theorem ki_58 : (58 : Int32) = nI 58 := rfl
theorem ki_66 : (66 : Int32) = nI 66 := rfl
theorem ki_74 : (74 : Int32) = nI 74 := rfl
theorem ki_140 : (140 : Int32) = nI 140 := rfl
theorem ki_174 : (174 : Int32) = nI 174 := rfl
theorem ki_179 : (179 : Int32) = nI 179 := rfl
theorem ki_184 : (184 : Int32) = nI 184 := rfl
theorem ki_189 : (189 : Int32) = nI 189 := rfl
theorem ki_441 : (441 : Int32) = nI 441 := rfl
theorem m_in_nI {k n : Nat} (h : k < n) (hn : n ≤ 100000) : m_in (nI k) n = true := by
  unfold m_in
  have h1 : ¬ nI k < 0 := nI_pos (by omega)
  rw [decide_eq_false h1, nI_clamp (by omega)]
  exact Nat.ble_eq_true_of_le (by omega)
section
variable {d y pc nx : Nat} {j : Nat} {w : Value} {ls : mL} {r : List Value} {h : mH} {Q : Option Value → mH → Prop} {a ci k tc n t : Nat} {fs : List Value} {i x : Int32} {f : Nat → Int32} {g : Nat → Int64}
theorem mT_ialdK (hc : m_cd y pc = some (.iaload, nx, [], w)) (ha : h a = .inl (0, n, .inl f)) (hk : i = nI k) (hlt : k < n) (hn : n ≤ 100000) (K : mT0 d y nx ls (.int (f k) :: r) h Q) : mT0 d y pc ls (.int i :: .ref a :: r) h Q := by
  subst hk
  refine mT_iald hc ha (m_in_nI hlt hn) ?_
  rw [nI_clamp (by omega)]
  exact K
theorem mT_putfN {v : Value} (hc : m_cd y pc = some (.putfield j, nx, [ci, k, tc], w)) (ha : h a = .inr (ci, fs)) (hN : 87 ≤ m_nx h) (hg : (Nat.ble 20 a && Nat.ble (a + 1) 87 && Nat.ble (k + 1) fs.length && m_fits tc v) = true) (K : mT0 d y nx ls r (m_up h a (.inr (ci, fs.set k v))) Q) : mT0 d y pc ls (v :: .ref a :: r) h Q := by
  simp only [Bool.and_eq_true] at hg
  refine mT_putf hc ha ?_ K
  simp only [Bool.and_eq_true]
  exact ⟨⟨⟨hg.1.1.1, Nat.ble_eq_true_of_le (Nat.le_trans (Nat.le_of_ble_eq_true hg.1.1.2) hN)⟩, hg.1.2⟩, hg.2⟩
theorem mT_iastK (hc : m_cd y pc = some (.iastore, nx, [], w)) (ha : h a = .inl (0, n, .inl f)) (hk : i = nI k) (hlt : k < n) (hn : n ≤ 100000) (hN : 87 ≤ m_nx h) (hg : (Nat.ble 20 a && Nat.ble (a + 1) 87) = true) (K : mT0 d y nx ls r (m_up h a (.inl (0, n, .inl (upd f k x)))) Q) : mT0 d y pc ls (.int x :: .int i :: .ref a :: r) h Q := by
  subst hk
  simp only [Bool.and_eq_true] at hg
  refine mT_iast hc ha (m_in_nI hlt hn) ?_ ?_
  · simp only [Bool.and_eq_true]
    exact ⟨hg.1, Nat.ble_eq_true_of_le (Nat.le_trans (Nat.le_of_ble_eq_true hg.2) hN)⟩
  · rw [nI_clamp (by omega)]
    exact K
end
