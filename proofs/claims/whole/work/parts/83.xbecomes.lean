/-! By program (wip/whole/book*.py) and hand. -/
theorem mT_copyK {d y pc nx j a b n0 n1 : Nat} {w : Value} {ls : mL} {r : List Value} {h : mH} {Q : Option Value → mH → Prop} {n sp dp : Int32} {f g : Nat → Int32} (hc : m_cd y pc = some (.invokestatic j, nx, [], w)) (ha : h a = .inl (0, n0, .inl f)) (hb : h b = .inl (0, n1, .inl g)) (hN : 87 ≤ m_nx h) (hg : (decide (0 ≤ sp) && decide (0 ≤ dp) && decide (0 ≤ n) && Nat.ble (sp.toNatClampNeg + n.toNatClampNeg) n0 && Nat.ble (dp.toNatClampNeg + n.toNatClampNeg) n1 && Nat.ble 20 a && Nat.ble (a + 1) 87 && Nat.ble 20 b && Nat.ble (b + 1) 87 && Nat.ble (m_cat r) 8) = true) (K : mT0 d y nx ls r (m_up h b (.inl (0, n1, .inl (va_cpy f g sp.toNatClampNeg dp.toNatClampNeg n.toNatClampNeg)))) Q) : mT0 d y pc ls (.int n :: .int dp :: .ref b :: .int sp :: .ref a :: r) h Q := by
  simp only [Bool.and_eq_true] at hg
  obtain ⟨⟨⟨⟨⟨⟨⟨⟨⟨g1, g2⟩, g3⟩, g4⟩, g5⟩, g6⟩, g7⟩, g8⟩, g9⟩, g10⟩ := hg
  have x1 : Nat.ble (a + 1) (m_nx h) = true := Nat.ble_eq_true_of_le (Nat.le_trans (Nat.le_of_ble_eq_true g7) hN)
  have x2 : Nat.ble (b + 1) (m_nx h) = true := Nat.ble_eq_true_of_le (Nat.le_trans (Nat.le_of_ble_eq_true g9) hN)
  refine mT_s hc ?_ K
  show m_copy nx ls (.int n :: .int dp :: .ref b :: .int sp :: .ref a :: r) h = _
  simp only [m_copy, ha, hb, g1, g2, g3, g4, g5, g6, x1, g8, x2, g10, Bool.and_self, cond_true]
theorem rA_cpy {h : mH} {a n off : Nat} {s f g : Nat → Int32} (hf : ∀ j, j < n → f j = s (off + j)) (ha : h a = .inl (0, n, .inl (va_cpy f g 0 0 n))) : rAr h a n off s := by
  refine ⟨_, ha, fun j hj => ?_⟩
  rw [pk_cpy_in (Nat.zero_le _) (by omega), ← hf j hj]
  exact congrArg f (by omega)
theorem rB_cpy {h : mH} {a nb : Nat} {w : Nat → Nat} {f g : Nat → Int32} (hnb : nb ≤ 8) (hf : ∀ k, k < nb → f k = nI (w k)) (ha : h a = .inl (0, 8, .inl (va_cpy f g 0 0 8))) : rBk h a nb w := by
  refine ⟨_, ha, fun j hj => ?_⟩
  rw [pk_cpy_in (Nat.zero_le _) (by omega), ← hf j hj]
  exact congrArg f (by omega)
/-- a room's shape -/
def rSh (r : Nat) (h : mH) : Prop := (∃ i iv, h r = .inr (7, rObj r i iv)) ∧ (∃ f, h (r + 1) = .inl (0, 5, .inl f)) ∧ (∃ f, h (r + 2) = .inl (0, 5, .inl f)) ∧ (∃ f, h (r + 3) = .inl (0, 5, .inl f)) ∧ (∃ f, h (r + 4) = .inl (0, 20, .inl f)) ∧ (∃ f, h (r + 5) = .inl (0, 100, .inl f)) ∧ (∃ f, h (r + 6) = .inl (0, 8, .inl f)) ∧ (∃ f, h (r + 7) = .inl (0, 8, .inl f)) ∧ (∃ f, h (r + 8) = .inl (0, 8, .inl f)) ∧ ∃ f, h (r + 9) = .inl (0, 5, .inl f)
set_option maxHeartbeats 4000000 in
theorem x_becomes_41_21 (d : Nat) (h : mH) (Q : Option Value → mH → Prop) (i : Nat → Int32) (iv : Value) (s : Nat → Int32) (l : List Tok) (le mo nb : Nat) (hnb : nb ≤ 8) (wi lo : Nat → Nat) (X : XR 21 h i iv s l le mo nb wi lo) (S : rSh 41 h) (K : ∀ h2 i2, (∀ a, a < 41 ∨ 50 < a → h2 a = h a) → XR 41 h2 i2 iv s l le mo nb wi lo → Q none h2) : mT0 d z_X7_becomes 0 (m_init z_X7_becomes [.ref 41, .ref 21]) [] h Q := by
  obtain ⟨B, XM, XT, XA, XB, XL, i0, i1, i2, i3, i4, i5⟩ := id X
  obtain ⟨hR, hN, hV, hwt, hK, hV5, hW, h9⟩ := id B
  obtain ⟨fk, hk, ek⟩ := id hK
  obtain ⟨fv, hv, ev⟩ := id hV5
  obtain ⟨fm, hm, em⟩ := id XM
  obtain ⟨fw, hw, ew⟩ := id hW
  obtain ⟨ft, ht, et⟩ := id XT
  obtain ⟨fa, hfa, ea⟩ := id XA
  obtain ⟨fb, hb, eb⟩ := id XB
  obtain ⟨fl, hfl, el⟩ := id XL
  obtain ⟨⟨t, tv, tR⟩, ⟨g1, t1⟩, ⟨g2, t2⟩, ⟨g3, t3⟩, ⟨g4, t4⟩, ⟨g5, t5⟩, ⟨g6, t6⟩, ⟨g7, t7⟩, ⟨g8, t8⟩, ⟨g9, t9⟩⟩ := S
  rcases hV with ⟨rfl, rfl, rfl, rfl⟩ | ⟨ia, code, rfl, ha, ha1, ha2, hcd, hcl⟩
  · skip
    iterate 2 refine mT_s rfl rfl ?_
    (apply mT_getf; (case hc => rfl); (case ha => first | rfl | assumption); (case hf => first | rfl | assumption))
    (apply mT_putfN; (case hc => rfl); (case ha => first | rfl | assumption); (case hN => assumption); (case hg => rfl))
    refine mT_s rfl rfl ?_
    (apply mT_getf; (case hc => rfl); (case ha => first | rfl | assumption); (case hf => first | rfl | assumption))
    iterate 2 refine mT_s rfl rfl ?_
    (apply mT_getf; (case hc => rfl); (case ha => first | rfl | assumption); (case hf => first | rfl | assumption))
    iterate 2 refine mT_s rfl rfl ?_
    (apply mT_copyK; (case hc => rfl); (case ha => first | rfl | assumption); (case hb => first | rfl | assumption); (case hN => assumption); (case hg => rfl))
    refine mT_s rfl rfl ?_
    (apply mT_getf; (case hc => rfl); (case ha => first | rfl | assumption); (case hf => first | rfl | assumption))
    iterate 2 refine mT_s rfl rfl ?_
    (apply mT_getf; (case hc => rfl); (case ha => first | rfl | assumption); (case hf => first | rfl | assumption))
    iterate 2 refine mT_s rfl rfl ?_
    (apply mT_copyK; (case hc => rfl); (case ha => first | rfl | assumption); (case hb => first | rfl | assumption); (case hN => assumption); (case hg => rfl))
    refine mT_s rfl rfl ?_
    (apply mT_getf; (case hc => rfl); (case ha => first | rfl | assumption); (case hf => first | rfl | assumption))
    iterate 2 refine mT_s rfl rfl ?_
    (apply mT_getf; (case hc => rfl); (case ha => first | rfl | assumption); (case hf => first | rfl | assumption))
    iterate 2 refine mT_s rfl rfl ?_
    (apply mT_copyK; (case hc => rfl); (case ha => first | rfl | assumption); (case hb => first | rfl | assumption); (case hN => assumption); (case hg => rfl))
    refine mT_s rfl rfl ?_
    (apply mT_getf; (case hc => rfl); (case ha => first | rfl | assumption); (case hf => first | rfl | assumption))
    iterate 2 refine mT_s rfl rfl ?_
    (apply mT_getf; (case hc => rfl); (case ha => first | rfl | assumption); (case hf => first | rfl | assumption))
    iterate 2 refine mT_s rfl rfl ?_
    (apply mT_copyK; (case hc => rfl); (case ha => first | rfl | assumption); (case hb => first | rfl | assumption); (case hN => assumption); (case hg => rfl))
    iterate 2 refine mT_s rfl rfl ?_
    (apply mT_getf; (case hc => rfl); (case ha => first | rfl | assumption); (case hf => first | rfl | assumption))
    (apply mT_putfN; (case hc => rfl); (case ha => first | rfl | assumption); (case hN => assumption); (case hg => rfl))
    iterate 2 refine mT_s rfl rfl ?_
    (apply mT_getf; (case hc => rfl); (case ha => first | rfl | assumption); (case hf => first | rfl | assumption))
    (apply mT_putfN; (case hc => rfl); (case ha => first | rfl | assumption); (case hN => assumption); (case hg => rfl))
    iterate 2 refine mT_s rfl rfl ?_
    (apply mT_getf; (case hc => rfl); (case ha => first | rfl | assumption); (case hf => first | rfl | assumption))
    (apply mT_putfN; (case hc => rfl); (case ha => first | rfl | assumption); (case hN => assumption); (case hg => rfl))
    refine mT_s rfl rfl ?_
    (apply mT_getf; (case hc => rfl); (case ha => first | rfl | assumption); (case hf => first | rfl | assumption))
    iterate 2 refine mT_s rfl rfl ?_
    (apply mT_getf; (case hc => rfl); (case ha => first | rfl | assumption); (case hf => first | rfl | assumption))
    iterate 2 refine mT_s rfl rfl ?_
    (apply mT_copyK; (case hc => rfl); (case ha => first | rfl | assumption); (case hb => first | rfl | assumption); (case hN => assumption); (case hg => rfl))
    iterate 2 refine mT_s rfl rfl ?_
    (apply mT_getf; (case hc => rfl); (case ha => first | rfl | assumption); (case hf => first | rfl | assumption))
    (apply mT_putfN; (case hc => rfl); (case ha => first | rfl | assumption); (case hN => assumption); (case hg => rfl))
    refine mT_s rfl rfl ?_
    (apply mT_getf; (case hc => rfl); (case ha => first | rfl | assumption); (case hf => first | rfl | assumption))
    iterate 2 refine mT_s rfl rfl ?_
    (apply mT_getf; (case hc => rfl); (case ha => first | rfl | assumption); (case hf => first | rfl | assumption))
    iterate 2 refine mT_s rfl rfl ?_
    (apply mT_copyK; (case hc => rfl); (case ha => first | rfl | assumption); (case hb => first | rfl | assumption); (case hN => assumption); (case hg => rfl))
    refine mT_s rfl rfl ?_
    (apply mT_getf; (case hc => rfl); (case ha => first | rfl | assumption); (case hf => first | rfl | assumption))
    iterate 2 refine mT_s rfl rfl ?_
    (apply mT_getf; (case hc => rfl); (case ha => first | rfl | assumption); (case hf => first | rfl | assumption))
    iterate 2 refine mT_s rfl rfl ?_
    (apply mT_copyK; (case hc => rfl); (case ha => first | rfl | assumption); (case hb => first | rfl | assumption); (case hN => assumption); (case hg => rfl))
    iterate 2 refine mT_s rfl rfl ?_
    (apply mT_getf; (case hc => rfl); (case ha => first | rfl | assumption); (case hf => first | rfl | assumption))
    (apply mT_putfN; (case hc => rfl); (case ha => first | rfl | assumption); (case hN => assumption); (case hg => rfl))
    refine mT_s rfl rfl ?_
    (apply mT_getf; (case hc => rfl); (case ha => first | rfl | assumption); (case hf => first | rfl | assumption))
    iterate 2 refine mT_s rfl rfl ?_
    (apply mT_getf; (case hc => rfl); (case ha => first | rfl | assumption); (case hf => first | rfl | assumption))
    iterate 2 refine mT_s rfl rfl ?_
    (apply mT_copyK; (case hc => rfl); (case ha => first | rfl | assumption); (case hb => first | rfl | assumption); (case hN => assumption); (case hg => rfl))
    iterate 2 refine mT_s rfl rfl ?_
    (apply mT_getf; (case hc => rfl); (case ha => first | rfl | assumption); (case hf => first | rfl | assumption))
    (apply mT_putfN; (case hc => rfl); (case ha => first | rfl | assumption); (case hN => assumption); (case hg => rfl))
    refine mT_ret rfl rfl ?_
    refine K _ _ (fun a z => ?_) ⟨⟨rfl, hN, Or.inl ⟨rfl, rfl, rfl, rfl⟩, hwt, rA_cpy ek rfl, rA_cpy ev rfl, rA_cpy ew rfl, ⟨_, t9⟩⟩, rA_cpy em rfl, rA_cpy et rfl, rA_cpy ea rfl, rB_cpy hnb eb rfl, rB_cpy hnb el rfl, i0, i1, i2, i3, i4, i5⟩
    simp only [m_up_n (show a ≠ 41 by omega), m_up_n (show a ≠ 42 by omega), m_up_n (show a ≠ 43 by omega), m_up_n (show a ≠ 44 by omega), m_up_n (show a ≠ 45 by omega), m_up_n (show a ≠ 46 by omega), m_up_n (show a ≠ 47 by omega), m_up_n (show a ≠ 48 by omega), m_up_n (show a ≠ 49 by omega)]
  · skip
    iterate 2 refine mT_s rfl rfl ?_
    (apply mT_getf; (case hc => rfl); (case ha => first | rfl | assumption); (case hf => first | rfl | assumption))
    (apply mT_putfN; (case hc => rfl); (case ha => first | rfl | assumption); (case hN => assumption); (case hg => rfl))
    refine mT_s rfl rfl ?_
    (apply mT_getf; (case hc => rfl); (case ha => first | rfl | assumption); (case hf => first | rfl | assumption))
    iterate 2 refine mT_s rfl rfl ?_
    (apply mT_getf; (case hc => rfl); (case ha => first | rfl | assumption); (case hf => first | rfl | assumption))
    iterate 2 refine mT_s rfl rfl ?_
    (apply mT_copyK; (case hc => rfl); (case ha => first | rfl | assumption); (case hb => first | rfl | assumption); (case hN => assumption); (case hg => rfl))
    refine mT_s rfl rfl ?_
    (apply mT_getf; (case hc => rfl); (case ha => first | rfl | assumption); (case hf => first | rfl | assumption))
    iterate 2 refine mT_s rfl rfl ?_
    (apply mT_getf; (case hc => rfl); (case ha => first | rfl | assumption); (case hf => first | rfl | assumption))
    iterate 2 refine mT_s rfl rfl ?_
    (apply mT_copyK; (case hc => rfl); (case ha => first | rfl | assumption); (case hb => first | rfl | assumption); (case hN => assumption); (case hg => rfl))
    refine mT_s rfl rfl ?_
    (apply mT_getf; (case hc => rfl); (case ha => first | rfl | assumption); (case hf => first | rfl | assumption))
    iterate 2 refine mT_s rfl rfl ?_
    (apply mT_getf; (case hc => rfl); (case ha => first | rfl | assumption); (case hf => first | rfl | assumption))
    iterate 2 refine mT_s rfl rfl ?_
    (apply mT_copyK; (case hc => rfl); (case ha => first | rfl | assumption); (case hb => first | rfl | assumption); (case hN => assumption); (case hg => rfl))
    refine mT_s rfl rfl ?_
    (apply mT_getf; (case hc => rfl); (case ha => first | rfl | assumption); (case hf => first | rfl | assumption))
    iterate 2 refine mT_s rfl rfl ?_
    (apply mT_getf; (case hc => rfl); (case ha => first | rfl | assumption); (case hf => first | rfl | assumption))
    iterate 2 refine mT_s rfl rfl ?_
    (apply mT_copyK; (case hc => rfl); (case ha => first | rfl | assumption); (case hb => first | rfl | assumption); (case hN => assumption); (case hg => rfl))
    iterate 2 refine mT_s rfl rfl ?_
    (apply mT_getf; (case hc => rfl); (case ha => first | rfl | assumption); (case hf => first | rfl | assumption))
    (apply mT_putfN; (case hc => rfl); (case ha => first | rfl | assumption); (case hN => assumption); (case hg => rfl))
    iterate 2 refine mT_s rfl rfl ?_
    (apply mT_getf; (case hc => rfl); (case ha => first | rfl | assumption); (case hf => first | rfl | assumption))
    (apply mT_putfN; (case hc => rfl); (case ha => first | rfl | assumption); (case hN => assumption); (case hg => rfl))
    iterate 2 refine mT_s rfl rfl ?_
    (apply mT_getf; (case hc => rfl); (case ha => first | rfl | assumption); (case hf => first | rfl | assumption))
    (apply mT_putfN; (case hc => rfl); (case ha => first | rfl | assumption); (case hN => assumption); (case hg => rfl))
    refine mT_s rfl rfl ?_
    (apply mT_getf; (case hc => rfl); (case ha => first | rfl | assumption); (case hf => first | rfl | assumption))
    iterate 2 refine mT_s rfl rfl ?_
    (apply mT_getf; (case hc => rfl); (case ha => first | rfl | assumption); (case hf => first | rfl | assumption))
    iterate 2 refine mT_s rfl rfl ?_
    (apply mT_copyK; (case hc => rfl); (case ha => first | rfl | assumption); (case hb => first | rfl | assumption); (case hN => assumption); (case hg => rfl))
    iterate 2 refine mT_s rfl rfl ?_
    (apply mT_getf; (case hc => rfl); (case ha => first | rfl | assumption); (case hf => first | rfl | assumption))
    (apply mT_putfN; (case hc => rfl); (case ha => first | rfl | assumption); (case hN => assumption); (case hg => rfl))
    refine mT_s rfl rfl ?_
    (apply mT_getf; (case hc => rfl); (case ha => first | rfl | assumption); (case hf => first | rfl | assumption))
    iterate 2 refine mT_s rfl rfl ?_
    (apply mT_getf; (case hc => rfl); (case ha => first | rfl | assumption); (case hf => first | rfl | assumption))
    iterate 2 refine mT_s rfl rfl ?_
    (apply mT_copyK; (case hc => rfl); (case ha => first | rfl | assumption); (case hb => first | rfl | assumption); (case hN => assumption); (case hg => rfl))
    refine mT_s rfl rfl ?_
    (apply mT_getf; (case hc => rfl); (case ha => first | rfl | assumption); (case hf => first | rfl | assumption))
    iterate 2 refine mT_s rfl rfl ?_
    (apply mT_getf; (case hc => rfl); (case ha => first | rfl | assumption); (case hf => first | rfl | assumption))
    iterate 2 refine mT_s rfl rfl ?_
    (apply mT_copyK; (case hc => rfl); (case ha => first | rfl | assumption); (case hb => first | rfl | assumption); (case hN => assumption); (case hg => rfl))
    iterate 2 refine mT_s rfl rfl ?_
    (apply mT_getf; (case hc => rfl); (case ha => first | rfl | assumption); (case hf => first | rfl | assumption))
    (apply mT_putfN; (case hc => rfl); (case ha => first | rfl | assumption); (case hN => assumption); (case hg => rfl))
    refine mT_s rfl rfl ?_
    (apply mT_getf; (case hc => rfl); (case ha => first | rfl | assumption); (case hf => first | rfl | assumption))
    iterate 2 refine mT_s rfl rfl ?_
    (apply mT_getf; (case hc => rfl); (case ha => first | rfl | assumption); (case hf => first | rfl | assumption))
    iterate 2 refine mT_s rfl rfl ?_
    (apply mT_copyK; (case hc => rfl); (case ha => first | rfl | assumption); (case hb => first | rfl | assumption); (case hN => assumption); (case hg => rfl))
    iterate 2 refine mT_s rfl rfl ?_
    (apply mT_getf; (case hc => rfl); (case ha => first | rfl | assumption); (case hf => first | rfl | assumption))
    (apply mT_putfN; (case hc => rfl); (case ha => first | rfl | assumption); (case hN => assumption); (case hg => rfl))
    refine mT_ret rfl rfl ?_
    refine K _ _ (fun a z => ?_) ⟨⟨rfl, hN, rI_c (fun a z => by simp only [m_up_n (n87 z : a ≠ 41), m_up_n (n87 z : a ≠ 42), m_up_n (n87 z : a ≠ 43), m_up_n (n87 z : a ≠ 44), m_up_n (n87 z : a ≠ 45), m_up_n (n87 z : a ≠ 46), m_up_n (n87 z : a ≠ 47), m_up_n (n87 z : a ≠ 48), m_up_n (n87 z : a ≠ 49)]) (Or.inr ⟨ia, code, rfl, ha, ha1, ha2, hcd, hcl⟩), hwt, rA_cpy ek rfl, rA_cpy ev rfl, rA_cpy ew rfl, ⟨_, t9⟩⟩, rA_cpy em rfl, rA_cpy et rfl, rA_cpy ea rfl, rB_cpy hnb eb rfl, rB_cpy hnb el rfl, i0, i1, i2, i3, i4, i5⟩
    simp only [m_up_n (show a ≠ 41 by omega), m_up_n (show a ≠ 42 by omega), m_up_n (show a ≠ 43 by omega), m_up_n (show a ≠ 44 by omega), m_up_n (show a ≠ 45 by omega), m_up_n (show a ≠ 46 by omega), m_up_n (show a ≠ 47 by omega), m_up_n (show a ≠ 48 by omega), m_up_n (show a ≠ 49 by omega)]
set_option maxHeartbeats 4000000 in
theorem x_becomes_31_21 (d : Nat) (h : mH) (Q : Option Value → mH → Prop) (i : Nat → Int32) (iv : Value) (s : Nat → Int32) (l : List Tok) (le mo nb : Nat) (hnb : nb ≤ 8) (wi lo : Nat → Nat) (X : XR 21 h i iv s l le mo nb wi lo) (S : rSh 31 h) (K : ∀ h2 i2, (∀ a, a < 31 ∨ 40 < a → h2 a = h a) → XR 31 h2 i2 iv s l le mo nb wi lo → Q none h2) : mT0 d z_X7_becomes 0 (m_init z_X7_becomes [.ref 31, .ref 21]) [] h Q := by
  obtain ⟨B, XM, XT, XA, XB, XL, i0, i1, i2, i3, i4, i5⟩ := id X
  obtain ⟨hR, hN, hV, hwt, hK, hV5, hW, h9⟩ := id B
  obtain ⟨fk, hk, ek⟩ := id hK
  obtain ⟨fv, hv, ev⟩ := id hV5
  obtain ⟨fm, hm, em⟩ := id XM
  obtain ⟨fw, hw, ew⟩ := id hW
  obtain ⟨ft, ht, et⟩ := id XT
  obtain ⟨fa, hfa, ea⟩ := id XA
  obtain ⟨fb, hb, eb⟩ := id XB
  obtain ⟨fl, hfl, el⟩ := id XL
  obtain ⟨⟨t, tv, tR⟩, ⟨g1, t1⟩, ⟨g2, t2⟩, ⟨g3, t3⟩, ⟨g4, t4⟩, ⟨g5, t5⟩, ⟨g6, t6⟩, ⟨g7, t7⟩, ⟨g8, t8⟩, ⟨g9, t9⟩⟩ := S
  rcases hV with ⟨rfl, rfl, rfl, rfl⟩ | ⟨ia, code, rfl, ha, ha1, ha2, hcd, hcl⟩
  · skip
    iterate 2 refine mT_s rfl rfl ?_
    (apply mT_getf; (case hc => rfl); (case ha => first | rfl | assumption); (case hf => first | rfl | assumption))
    (apply mT_putfN; (case hc => rfl); (case ha => first | rfl | assumption); (case hN => assumption); (case hg => rfl))
    refine mT_s rfl rfl ?_
    (apply mT_getf; (case hc => rfl); (case ha => first | rfl | assumption); (case hf => first | rfl | assumption))
    iterate 2 refine mT_s rfl rfl ?_
    (apply mT_getf; (case hc => rfl); (case ha => first | rfl | assumption); (case hf => first | rfl | assumption))
    iterate 2 refine mT_s rfl rfl ?_
    (apply mT_copyK; (case hc => rfl); (case ha => first | rfl | assumption); (case hb => first | rfl | assumption); (case hN => assumption); (case hg => rfl))
    refine mT_s rfl rfl ?_
    (apply mT_getf; (case hc => rfl); (case ha => first | rfl | assumption); (case hf => first | rfl | assumption))
    iterate 2 refine mT_s rfl rfl ?_
    (apply mT_getf; (case hc => rfl); (case ha => first | rfl | assumption); (case hf => first | rfl | assumption))
    iterate 2 refine mT_s rfl rfl ?_
    (apply mT_copyK; (case hc => rfl); (case ha => first | rfl | assumption); (case hb => first | rfl | assumption); (case hN => assumption); (case hg => rfl))
    refine mT_s rfl rfl ?_
    (apply mT_getf; (case hc => rfl); (case ha => first | rfl | assumption); (case hf => first | rfl | assumption))
    iterate 2 refine mT_s rfl rfl ?_
    (apply mT_getf; (case hc => rfl); (case ha => first | rfl | assumption); (case hf => first | rfl | assumption))
    iterate 2 refine mT_s rfl rfl ?_
    (apply mT_copyK; (case hc => rfl); (case ha => first | rfl | assumption); (case hb => first | rfl | assumption); (case hN => assumption); (case hg => rfl))
    refine mT_s rfl rfl ?_
    (apply mT_getf; (case hc => rfl); (case ha => first | rfl | assumption); (case hf => first | rfl | assumption))
    iterate 2 refine mT_s rfl rfl ?_
    (apply mT_getf; (case hc => rfl); (case ha => first | rfl | assumption); (case hf => first | rfl | assumption))
    iterate 2 refine mT_s rfl rfl ?_
    (apply mT_copyK; (case hc => rfl); (case ha => first | rfl | assumption); (case hb => first | rfl | assumption); (case hN => assumption); (case hg => rfl))
    iterate 2 refine mT_s rfl rfl ?_
    (apply mT_getf; (case hc => rfl); (case ha => first | rfl | assumption); (case hf => first | rfl | assumption))
    (apply mT_putfN; (case hc => rfl); (case ha => first | rfl | assumption); (case hN => assumption); (case hg => rfl))
    iterate 2 refine mT_s rfl rfl ?_
    (apply mT_getf; (case hc => rfl); (case ha => first | rfl | assumption); (case hf => first | rfl | assumption))
    (apply mT_putfN; (case hc => rfl); (case ha => first | rfl | assumption); (case hN => assumption); (case hg => rfl))
    iterate 2 refine mT_s rfl rfl ?_
    (apply mT_getf; (case hc => rfl); (case ha => first | rfl | assumption); (case hf => first | rfl | assumption))
    (apply mT_putfN; (case hc => rfl); (case ha => first | rfl | assumption); (case hN => assumption); (case hg => rfl))
    refine mT_s rfl rfl ?_
    (apply mT_getf; (case hc => rfl); (case ha => first | rfl | assumption); (case hf => first | rfl | assumption))
    iterate 2 refine mT_s rfl rfl ?_
    (apply mT_getf; (case hc => rfl); (case ha => first | rfl | assumption); (case hf => first | rfl | assumption))
    iterate 2 refine mT_s rfl rfl ?_
    (apply mT_copyK; (case hc => rfl); (case ha => first | rfl | assumption); (case hb => first | rfl | assumption); (case hN => assumption); (case hg => rfl))
    iterate 2 refine mT_s rfl rfl ?_
    (apply mT_getf; (case hc => rfl); (case ha => first | rfl | assumption); (case hf => first | rfl | assumption))
    (apply mT_putfN; (case hc => rfl); (case ha => first | rfl | assumption); (case hN => assumption); (case hg => rfl))
    refine mT_s rfl rfl ?_
    (apply mT_getf; (case hc => rfl); (case ha => first | rfl | assumption); (case hf => first | rfl | assumption))
    iterate 2 refine mT_s rfl rfl ?_
    (apply mT_getf; (case hc => rfl); (case ha => first | rfl | assumption); (case hf => first | rfl | assumption))
    iterate 2 refine mT_s rfl rfl ?_
    (apply mT_copyK; (case hc => rfl); (case ha => first | rfl | assumption); (case hb => first | rfl | assumption); (case hN => assumption); (case hg => rfl))
    refine mT_s rfl rfl ?_
    (apply mT_getf; (case hc => rfl); (case ha => first | rfl | assumption); (case hf => first | rfl | assumption))
    iterate 2 refine mT_s rfl rfl ?_
    (apply mT_getf; (case hc => rfl); (case ha => first | rfl | assumption); (case hf => first | rfl | assumption))
    iterate 2 refine mT_s rfl rfl ?_
    (apply mT_copyK; (case hc => rfl); (case ha => first | rfl | assumption); (case hb => first | rfl | assumption); (case hN => assumption); (case hg => rfl))
    iterate 2 refine mT_s rfl rfl ?_
    (apply mT_getf; (case hc => rfl); (case ha => first | rfl | assumption); (case hf => first | rfl | assumption))
    (apply mT_putfN; (case hc => rfl); (case ha => first | rfl | assumption); (case hN => assumption); (case hg => rfl))
    refine mT_s rfl rfl ?_
    (apply mT_getf; (case hc => rfl); (case ha => first | rfl | assumption); (case hf => first | rfl | assumption))
    iterate 2 refine mT_s rfl rfl ?_
    (apply mT_getf; (case hc => rfl); (case ha => first | rfl | assumption); (case hf => first | rfl | assumption))
    iterate 2 refine mT_s rfl rfl ?_
    (apply mT_copyK; (case hc => rfl); (case ha => first | rfl | assumption); (case hb => first | rfl | assumption); (case hN => assumption); (case hg => rfl))
    iterate 2 refine mT_s rfl rfl ?_
    (apply mT_getf; (case hc => rfl); (case ha => first | rfl | assumption); (case hf => first | rfl | assumption))
    (apply mT_putfN; (case hc => rfl); (case ha => first | rfl | assumption); (case hN => assumption); (case hg => rfl))
    refine mT_ret rfl rfl ?_
    refine K _ _ (fun a z => ?_) ⟨⟨rfl, hN, Or.inl ⟨rfl, rfl, rfl, rfl⟩, hwt, rA_cpy ek rfl, rA_cpy ev rfl, rA_cpy ew rfl, ⟨_, t9⟩⟩, rA_cpy em rfl, rA_cpy et rfl, rA_cpy ea rfl, rB_cpy hnb eb rfl, rB_cpy hnb el rfl, i0, i1, i2, i3, i4, i5⟩
    simp only [m_up_n (show a ≠ 31 by omega), m_up_n (show a ≠ 32 by omega), m_up_n (show a ≠ 33 by omega), m_up_n (show a ≠ 34 by omega), m_up_n (show a ≠ 35 by omega), m_up_n (show a ≠ 36 by omega), m_up_n (show a ≠ 37 by omega), m_up_n (show a ≠ 38 by omega), m_up_n (show a ≠ 39 by omega)]
  · skip
    iterate 2 refine mT_s rfl rfl ?_
    (apply mT_getf; (case hc => rfl); (case ha => first | rfl | assumption); (case hf => first | rfl | assumption))
    (apply mT_putfN; (case hc => rfl); (case ha => first | rfl | assumption); (case hN => assumption); (case hg => rfl))
    refine mT_s rfl rfl ?_
    (apply mT_getf; (case hc => rfl); (case ha => first | rfl | assumption); (case hf => first | rfl | assumption))
    iterate 2 refine mT_s rfl rfl ?_
    (apply mT_getf; (case hc => rfl); (case ha => first | rfl | assumption); (case hf => first | rfl | assumption))
    iterate 2 refine mT_s rfl rfl ?_
    (apply mT_copyK; (case hc => rfl); (case ha => first | rfl | assumption); (case hb => first | rfl | assumption); (case hN => assumption); (case hg => rfl))
    refine mT_s rfl rfl ?_
    (apply mT_getf; (case hc => rfl); (case ha => first | rfl | assumption); (case hf => first | rfl | assumption))
    iterate 2 refine mT_s rfl rfl ?_
    (apply mT_getf; (case hc => rfl); (case ha => first | rfl | assumption); (case hf => first | rfl | assumption))
    iterate 2 refine mT_s rfl rfl ?_
    (apply mT_copyK; (case hc => rfl); (case ha => first | rfl | assumption); (case hb => first | rfl | assumption); (case hN => assumption); (case hg => rfl))
    refine mT_s rfl rfl ?_
    (apply mT_getf; (case hc => rfl); (case ha => first | rfl | assumption); (case hf => first | rfl | assumption))
    iterate 2 refine mT_s rfl rfl ?_
    (apply mT_getf; (case hc => rfl); (case ha => first | rfl | assumption); (case hf => first | rfl | assumption))
    iterate 2 refine mT_s rfl rfl ?_
    (apply mT_copyK; (case hc => rfl); (case ha => first | rfl | assumption); (case hb => first | rfl | assumption); (case hN => assumption); (case hg => rfl))
    refine mT_s rfl rfl ?_
    (apply mT_getf; (case hc => rfl); (case ha => first | rfl | assumption); (case hf => first | rfl | assumption))
    iterate 2 refine mT_s rfl rfl ?_
    (apply mT_getf; (case hc => rfl); (case ha => first | rfl | assumption); (case hf => first | rfl | assumption))
    iterate 2 refine mT_s rfl rfl ?_
    (apply mT_copyK; (case hc => rfl); (case ha => first | rfl | assumption); (case hb => first | rfl | assumption); (case hN => assumption); (case hg => rfl))
    iterate 2 refine mT_s rfl rfl ?_
    (apply mT_getf; (case hc => rfl); (case ha => first | rfl | assumption); (case hf => first | rfl | assumption))
    (apply mT_putfN; (case hc => rfl); (case ha => first | rfl | assumption); (case hN => assumption); (case hg => rfl))
    iterate 2 refine mT_s rfl rfl ?_
    (apply mT_getf; (case hc => rfl); (case ha => first | rfl | assumption); (case hf => first | rfl | assumption))
    (apply mT_putfN; (case hc => rfl); (case ha => first | rfl | assumption); (case hN => assumption); (case hg => rfl))
    iterate 2 refine mT_s rfl rfl ?_
    (apply mT_getf; (case hc => rfl); (case ha => first | rfl | assumption); (case hf => first | rfl | assumption))
    (apply mT_putfN; (case hc => rfl); (case ha => first | rfl | assumption); (case hN => assumption); (case hg => rfl))
    refine mT_s rfl rfl ?_
    (apply mT_getf; (case hc => rfl); (case ha => first | rfl | assumption); (case hf => first | rfl | assumption))
    iterate 2 refine mT_s rfl rfl ?_
    (apply mT_getf; (case hc => rfl); (case ha => first | rfl | assumption); (case hf => first | rfl | assumption))
    iterate 2 refine mT_s rfl rfl ?_
    (apply mT_copyK; (case hc => rfl); (case ha => first | rfl | assumption); (case hb => first | rfl | assumption); (case hN => assumption); (case hg => rfl))
    iterate 2 refine mT_s rfl rfl ?_
    (apply mT_getf; (case hc => rfl); (case ha => first | rfl | assumption); (case hf => first | rfl | assumption))
    (apply mT_putfN; (case hc => rfl); (case ha => first | rfl | assumption); (case hN => assumption); (case hg => rfl))
    refine mT_s rfl rfl ?_
    (apply mT_getf; (case hc => rfl); (case ha => first | rfl | assumption); (case hf => first | rfl | assumption))
    iterate 2 refine mT_s rfl rfl ?_
    (apply mT_getf; (case hc => rfl); (case ha => first | rfl | assumption); (case hf => first | rfl | assumption))
    iterate 2 refine mT_s rfl rfl ?_
    (apply mT_copyK; (case hc => rfl); (case ha => first | rfl | assumption); (case hb => first | rfl | assumption); (case hN => assumption); (case hg => rfl))
    refine mT_s rfl rfl ?_
    (apply mT_getf; (case hc => rfl); (case ha => first | rfl | assumption); (case hf => first | rfl | assumption))
    iterate 2 refine mT_s rfl rfl ?_
    (apply mT_getf; (case hc => rfl); (case ha => first | rfl | assumption); (case hf => first | rfl | assumption))
    iterate 2 refine mT_s rfl rfl ?_
    (apply mT_copyK; (case hc => rfl); (case ha => first | rfl | assumption); (case hb => first | rfl | assumption); (case hN => assumption); (case hg => rfl))
    iterate 2 refine mT_s rfl rfl ?_
    (apply mT_getf; (case hc => rfl); (case ha => first | rfl | assumption); (case hf => first | rfl | assumption))
    (apply mT_putfN; (case hc => rfl); (case ha => first | rfl | assumption); (case hN => assumption); (case hg => rfl))
    refine mT_s rfl rfl ?_
    (apply mT_getf; (case hc => rfl); (case ha => first | rfl | assumption); (case hf => first | rfl | assumption))
    iterate 2 refine mT_s rfl rfl ?_
    (apply mT_getf; (case hc => rfl); (case ha => first | rfl | assumption); (case hf => first | rfl | assumption))
    iterate 2 refine mT_s rfl rfl ?_
    (apply mT_copyK; (case hc => rfl); (case ha => first | rfl | assumption); (case hb => first | rfl | assumption); (case hN => assumption); (case hg => rfl))
    iterate 2 refine mT_s rfl rfl ?_
    (apply mT_getf; (case hc => rfl); (case ha => first | rfl | assumption); (case hf => first | rfl | assumption))
    (apply mT_putfN; (case hc => rfl); (case ha => first | rfl | assumption); (case hN => assumption); (case hg => rfl))
    refine mT_ret rfl rfl ?_
    refine K _ _ (fun a z => ?_) ⟨⟨rfl, hN, rI_c (fun a z => by simp only [m_up_n (n87 z : a ≠ 31), m_up_n (n87 z : a ≠ 32), m_up_n (n87 z : a ≠ 33), m_up_n (n87 z : a ≠ 34), m_up_n (n87 z : a ≠ 35), m_up_n (n87 z : a ≠ 36), m_up_n (n87 z : a ≠ 37), m_up_n (n87 z : a ≠ 38), m_up_n (n87 z : a ≠ 39)]) (Or.inr ⟨ia, code, rfl, ha, ha1, ha2, hcd, hcl⟩), hwt, rA_cpy ek rfl, rA_cpy ev rfl, rA_cpy ew rfl, ⟨_, t9⟩⟩, rA_cpy em rfl, rA_cpy et rfl, rA_cpy ea rfl, rB_cpy hnb eb rfl, rB_cpy hnb el rfl, i0, i1, i2, i3, i4, i5⟩
    simp only [m_up_n (show a ≠ 31 by omega), m_up_n (show a ≠ 32 by omega), m_up_n (show a ≠ 33 by omega), m_up_n (show a ≠ 34 by omega), m_up_n (show a ≠ 35 by omega), m_up_n (show a ≠ 36 by omega), m_up_n (show a ≠ 37 by omega), m_up_n (show a ≠ 38 by omega), m_up_n (show a ≠ 39 by omega)]
set_option maxHeartbeats 4000000 in
theorem x_becomes_21_31 (d : Nat) (h : mH) (Q : Option Value → mH → Prop) (i : Nat → Int32) (iv : Value) (s : Nat → Int32) (l : List Tok) (le mo nb : Nat) (hnb : nb ≤ 8) (wi lo : Nat → Nat) (X : XR 31 h i iv s l le mo nb wi lo) (S : rSh 21 h) (K : ∀ h2 i2, (∀ a, a < 21 ∨ 30 < a → h2 a = h a) → XR 21 h2 i2 iv s l le mo nb wi lo → Q none h2) : mT0 d z_X7_becomes 0 (m_init z_X7_becomes [.ref 21, .ref 31]) [] h Q := by
  obtain ⟨B, XM, XT, XA, XB, XL, i0, i1, i2, i3, i4, i5⟩ := id X
  obtain ⟨hR, hN, hV, hwt, hK, hV5, hW, h9⟩ := id B
  obtain ⟨fk, hk, ek⟩ := id hK
  obtain ⟨fv, hv, ev⟩ := id hV5
  obtain ⟨fm, hm, em⟩ := id XM
  obtain ⟨fw, hw, ew⟩ := id hW
  obtain ⟨ft, ht, et⟩ := id XT
  obtain ⟨fa, hfa, ea⟩ := id XA
  obtain ⟨fb, hb, eb⟩ := id XB
  obtain ⟨fl, hfl, el⟩ := id XL
  obtain ⟨⟨t, tv, tR⟩, ⟨g1, t1⟩, ⟨g2, t2⟩, ⟨g3, t3⟩, ⟨g4, t4⟩, ⟨g5, t5⟩, ⟨g6, t6⟩, ⟨g7, t7⟩, ⟨g8, t8⟩, ⟨g9, t9⟩⟩ := S
  rcases hV with ⟨rfl, rfl, rfl, rfl⟩ | ⟨ia, code, rfl, ha, ha1, ha2, hcd, hcl⟩
  · skip
    iterate 2 refine mT_s rfl rfl ?_
    (apply mT_getf; (case hc => rfl); (case ha => first | rfl | assumption); (case hf => first | rfl | assumption))
    (apply mT_putfN; (case hc => rfl); (case ha => first | rfl | assumption); (case hN => assumption); (case hg => rfl))
    refine mT_s rfl rfl ?_
    (apply mT_getf; (case hc => rfl); (case ha => first | rfl | assumption); (case hf => first | rfl | assumption))
    iterate 2 refine mT_s rfl rfl ?_
    (apply mT_getf; (case hc => rfl); (case ha => first | rfl | assumption); (case hf => first | rfl | assumption))
    iterate 2 refine mT_s rfl rfl ?_
    (apply mT_copyK; (case hc => rfl); (case ha => first | rfl | assumption); (case hb => first | rfl | assumption); (case hN => assumption); (case hg => rfl))
    refine mT_s rfl rfl ?_
    (apply mT_getf; (case hc => rfl); (case ha => first | rfl | assumption); (case hf => first | rfl | assumption))
    iterate 2 refine mT_s rfl rfl ?_
    (apply mT_getf; (case hc => rfl); (case ha => first | rfl | assumption); (case hf => first | rfl | assumption))
    iterate 2 refine mT_s rfl rfl ?_
    (apply mT_copyK; (case hc => rfl); (case ha => first | rfl | assumption); (case hb => first | rfl | assumption); (case hN => assumption); (case hg => rfl))
    refine mT_s rfl rfl ?_
    (apply mT_getf; (case hc => rfl); (case ha => first | rfl | assumption); (case hf => first | rfl | assumption))
    iterate 2 refine mT_s rfl rfl ?_
    (apply mT_getf; (case hc => rfl); (case ha => first | rfl | assumption); (case hf => first | rfl | assumption))
    iterate 2 refine mT_s rfl rfl ?_
    (apply mT_copyK; (case hc => rfl); (case ha => first | rfl | assumption); (case hb => first | rfl | assumption); (case hN => assumption); (case hg => rfl))
    refine mT_s rfl rfl ?_
    (apply mT_getf; (case hc => rfl); (case ha => first | rfl | assumption); (case hf => first | rfl | assumption))
    iterate 2 refine mT_s rfl rfl ?_
    (apply mT_getf; (case hc => rfl); (case ha => first | rfl | assumption); (case hf => first | rfl | assumption))
    iterate 2 refine mT_s rfl rfl ?_
    (apply mT_copyK; (case hc => rfl); (case ha => first | rfl | assumption); (case hb => first | rfl | assumption); (case hN => assumption); (case hg => rfl))
    iterate 2 refine mT_s rfl rfl ?_
    (apply mT_getf; (case hc => rfl); (case ha => first | rfl | assumption); (case hf => first | rfl | assumption))
    (apply mT_putfN; (case hc => rfl); (case ha => first | rfl | assumption); (case hN => assumption); (case hg => rfl))
    iterate 2 refine mT_s rfl rfl ?_
    (apply mT_getf; (case hc => rfl); (case ha => first | rfl | assumption); (case hf => first | rfl | assumption))
    (apply mT_putfN; (case hc => rfl); (case ha => first | rfl | assumption); (case hN => assumption); (case hg => rfl))
    iterate 2 refine mT_s rfl rfl ?_
    (apply mT_getf; (case hc => rfl); (case ha => first | rfl | assumption); (case hf => first | rfl | assumption))
    (apply mT_putfN; (case hc => rfl); (case ha => first | rfl | assumption); (case hN => assumption); (case hg => rfl))
    refine mT_s rfl rfl ?_
    (apply mT_getf; (case hc => rfl); (case ha => first | rfl | assumption); (case hf => first | rfl | assumption))
    iterate 2 refine mT_s rfl rfl ?_
    (apply mT_getf; (case hc => rfl); (case ha => first | rfl | assumption); (case hf => first | rfl | assumption))
    iterate 2 refine mT_s rfl rfl ?_
    (apply mT_copyK; (case hc => rfl); (case ha => first | rfl | assumption); (case hb => first | rfl | assumption); (case hN => assumption); (case hg => rfl))
    iterate 2 refine mT_s rfl rfl ?_
    (apply mT_getf; (case hc => rfl); (case ha => first | rfl | assumption); (case hf => first | rfl | assumption))
    (apply mT_putfN; (case hc => rfl); (case ha => first | rfl | assumption); (case hN => assumption); (case hg => rfl))
    refine mT_s rfl rfl ?_
    (apply mT_getf; (case hc => rfl); (case ha => first | rfl | assumption); (case hf => first | rfl | assumption))
    iterate 2 refine mT_s rfl rfl ?_
    (apply mT_getf; (case hc => rfl); (case ha => first | rfl | assumption); (case hf => first | rfl | assumption))
    iterate 2 refine mT_s rfl rfl ?_
    (apply mT_copyK; (case hc => rfl); (case ha => first | rfl | assumption); (case hb => first | rfl | assumption); (case hN => assumption); (case hg => rfl))
    refine mT_s rfl rfl ?_
    (apply mT_getf; (case hc => rfl); (case ha => first | rfl | assumption); (case hf => first | rfl | assumption))
    iterate 2 refine mT_s rfl rfl ?_
    (apply mT_getf; (case hc => rfl); (case ha => first | rfl | assumption); (case hf => first | rfl | assumption))
    iterate 2 refine mT_s rfl rfl ?_
    (apply mT_copyK; (case hc => rfl); (case ha => first | rfl | assumption); (case hb => first | rfl | assumption); (case hN => assumption); (case hg => rfl))
    iterate 2 refine mT_s rfl rfl ?_
    (apply mT_getf; (case hc => rfl); (case ha => first | rfl | assumption); (case hf => first | rfl | assumption))
    (apply mT_putfN; (case hc => rfl); (case ha => first | rfl | assumption); (case hN => assumption); (case hg => rfl))
    refine mT_s rfl rfl ?_
    (apply mT_getf; (case hc => rfl); (case ha => first | rfl | assumption); (case hf => first | rfl | assumption))
    iterate 2 refine mT_s rfl rfl ?_
    (apply mT_getf; (case hc => rfl); (case ha => first | rfl | assumption); (case hf => first | rfl | assumption))
    iterate 2 refine mT_s rfl rfl ?_
    (apply mT_copyK; (case hc => rfl); (case ha => first | rfl | assumption); (case hb => first | rfl | assumption); (case hN => assumption); (case hg => rfl))
    iterate 2 refine mT_s rfl rfl ?_
    (apply mT_getf; (case hc => rfl); (case ha => first | rfl | assumption); (case hf => first | rfl | assumption))
    (apply mT_putfN; (case hc => rfl); (case ha => first | rfl | assumption); (case hN => assumption); (case hg => rfl))
    refine mT_ret rfl rfl ?_
    refine K _ _ (fun a z => ?_) ⟨⟨rfl, hN, Or.inl ⟨rfl, rfl, rfl, rfl⟩, hwt, rA_cpy ek rfl, rA_cpy ev rfl, rA_cpy ew rfl, ⟨_, t9⟩⟩, rA_cpy em rfl, rA_cpy et rfl, rA_cpy ea rfl, rB_cpy hnb eb rfl, rB_cpy hnb el rfl, i0, i1, i2, i3, i4, i5⟩
    simp only [m_up_n (show a ≠ 21 by omega), m_up_n (show a ≠ 22 by omega), m_up_n (show a ≠ 23 by omega), m_up_n (show a ≠ 24 by omega), m_up_n (show a ≠ 25 by omega), m_up_n (show a ≠ 26 by omega), m_up_n (show a ≠ 27 by omega), m_up_n (show a ≠ 28 by omega), m_up_n (show a ≠ 29 by omega)]
  · skip
    iterate 2 refine mT_s rfl rfl ?_
    (apply mT_getf; (case hc => rfl); (case ha => first | rfl | assumption); (case hf => first | rfl | assumption))
    (apply mT_putfN; (case hc => rfl); (case ha => first | rfl | assumption); (case hN => assumption); (case hg => rfl))
    refine mT_s rfl rfl ?_
    (apply mT_getf; (case hc => rfl); (case ha => first | rfl | assumption); (case hf => first | rfl | assumption))
    iterate 2 refine mT_s rfl rfl ?_
    (apply mT_getf; (case hc => rfl); (case ha => first | rfl | assumption); (case hf => first | rfl | assumption))
    iterate 2 refine mT_s rfl rfl ?_
    (apply mT_copyK; (case hc => rfl); (case ha => first | rfl | assumption); (case hb => first | rfl | assumption); (case hN => assumption); (case hg => rfl))
    refine mT_s rfl rfl ?_
    (apply mT_getf; (case hc => rfl); (case ha => first | rfl | assumption); (case hf => first | rfl | assumption))
    iterate 2 refine mT_s rfl rfl ?_
    (apply mT_getf; (case hc => rfl); (case ha => first | rfl | assumption); (case hf => first | rfl | assumption))
    iterate 2 refine mT_s rfl rfl ?_
    (apply mT_copyK; (case hc => rfl); (case ha => first | rfl | assumption); (case hb => first | rfl | assumption); (case hN => assumption); (case hg => rfl))
    refine mT_s rfl rfl ?_
    (apply mT_getf; (case hc => rfl); (case ha => first | rfl | assumption); (case hf => first | rfl | assumption))
    iterate 2 refine mT_s rfl rfl ?_
    (apply mT_getf; (case hc => rfl); (case ha => first | rfl | assumption); (case hf => first | rfl | assumption))
    iterate 2 refine mT_s rfl rfl ?_
    (apply mT_copyK; (case hc => rfl); (case ha => first | rfl | assumption); (case hb => first | rfl | assumption); (case hN => assumption); (case hg => rfl))
    refine mT_s rfl rfl ?_
    (apply mT_getf; (case hc => rfl); (case ha => first | rfl | assumption); (case hf => first | rfl | assumption))
    iterate 2 refine mT_s rfl rfl ?_
    (apply mT_getf; (case hc => rfl); (case ha => first | rfl | assumption); (case hf => first | rfl | assumption))
    iterate 2 refine mT_s rfl rfl ?_
    (apply mT_copyK; (case hc => rfl); (case ha => first | rfl | assumption); (case hb => first | rfl | assumption); (case hN => assumption); (case hg => rfl))
    iterate 2 refine mT_s rfl rfl ?_
    (apply mT_getf; (case hc => rfl); (case ha => first | rfl | assumption); (case hf => first | rfl | assumption))
    (apply mT_putfN; (case hc => rfl); (case ha => first | rfl | assumption); (case hN => assumption); (case hg => rfl))
    iterate 2 refine mT_s rfl rfl ?_
    (apply mT_getf; (case hc => rfl); (case ha => first | rfl | assumption); (case hf => first | rfl | assumption))
    (apply mT_putfN; (case hc => rfl); (case ha => first | rfl | assumption); (case hN => assumption); (case hg => rfl))
    iterate 2 refine mT_s rfl rfl ?_
    (apply mT_getf; (case hc => rfl); (case ha => first | rfl | assumption); (case hf => first | rfl | assumption))
    (apply mT_putfN; (case hc => rfl); (case ha => first | rfl | assumption); (case hN => assumption); (case hg => rfl))
    refine mT_s rfl rfl ?_
    (apply mT_getf; (case hc => rfl); (case ha => first | rfl | assumption); (case hf => first | rfl | assumption))
    iterate 2 refine mT_s rfl rfl ?_
    (apply mT_getf; (case hc => rfl); (case ha => first | rfl | assumption); (case hf => first | rfl | assumption))
    iterate 2 refine mT_s rfl rfl ?_
    (apply mT_copyK; (case hc => rfl); (case ha => first | rfl | assumption); (case hb => first | rfl | assumption); (case hN => assumption); (case hg => rfl))
    iterate 2 refine mT_s rfl rfl ?_
    (apply mT_getf; (case hc => rfl); (case ha => first | rfl | assumption); (case hf => first | rfl | assumption))
    (apply mT_putfN; (case hc => rfl); (case ha => first | rfl | assumption); (case hN => assumption); (case hg => rfl))
    refine mT_s rfl rfl ?_
    (apply mT_getf; (case hc => rfl); (case ha => first | rfl | assumption); (case hf => first | rfl | assumption))
    iterate 2 refine mT_s rfl rfl ?_
    (apply mT_getf; (case hc => rfl); (case ha => first | rfl | assumption); (case hf => first | rfl | assumption))
    iterate 2 refine mT_s rfl rfl ?_
    (apply mT_copyK; (case hc => rfl); (case ha => first | rfl | assumption); (case hb => first | rfl | assumption); (case hN => assumption); (case hg => rfl))
    refine mT_s rfl rfl ?_
    (apply mT_getf; (case hc => rfl); (case ha => first | rfl | assumption); (case hf => first | rfl | assumption))
    iterate 2 refine mT_s rfl rfl ?_
    (apply mT_getf; (case hc => rfl); (case ha => first | rfl | assumption); (case hf => first | rfl | assumption))
    iterate 2 refine mT_s rfl rfl ?_
    (apply mT_copyK; (case hc => rfl); (case ha => first | rfl | assumption); (case hb => first | rfl | assumption); (case hN => assumption); (case hg => rfl))
    iterate 2 refine mT_s rfl rfl ?_
    (apply mT_getf; (case hc => rfl); (case ha => first | rfl | assumption); (case hf => first | rfl | assumption))
    (apply mT_putfN; (case hc => rfl); (case ha => first | rfl | assumption); (case hN => assumption); (case hg => rfl))
    refine mT_s rfl rfl ?_
    (apply mT_getf; (case hc => rfl); (case ha => first | rfl | assumption); (case hf => first | rfl | assumption))
    iterate 2 refine mT_s rfl rfl ?_
    (apply mT_getf; (case hc => rfl); (case ha => first | rfl | assumption); (case hf => first | rfl | assumption))
    iterate 2 refine mT_s rfl rfl ?_
    (apply mT_copyK; (case hc => rfl); (case ha => first | rfl | assumption); (case hb => first | rfl | assumption); (case hN => assumption); (case hg => rfl))
    iterate 2 refine mT_s rfl rfl ?_
    (apply mT_getf; (case hc => rfl); (case ha => first | rfl | assumption); (case hf => first | rfl | assumption))
    (apply mT_putfN; (case hc => rfl); (case ha => first | rfl | assumption); (case hN => assumption); (case hg => rfl))
    refine mT_ret rfl rfl ?_
    refine K _ _ (fun a z => ?_) ⟨⟨rfl, hN, rI_c (fun a z => by simp only [m_up_n (n87 z : a ≠ 21), m_up_n (n87 z : a ≠ 22), m_up_n (n87 z : a ≠ 23), m_up_n (n87 z : a ≠ 24), m_up_n (n87 z : a ≠ 25), m_up_n (n87 z : a ≠ 26), m_up_n (n87 z : a ≠ 27), m_up_n (n87 z : a ≠ 28), m_up_n (n87 z : a ≠ 29)]) (Or.inr ⟨ia, code, rfl, ha, ha1, ha2, hcd, hcl⟩), hwt, rA_cpy ek rfl, rA_cpy ev rfl, rA_cpy ew rfl, ⟨_, t9⟩⟩, rA_cpy em rfl, rA_cpy et rfl, rA_cpy ea rfl, rB_cpy hnb eb rfl, rB_cpy hnb el rfl, i0, i1, i2, i3, i4, i5⟩
    simp only [m_up_n (show a ≠ 21 by omega), m_up_n (show a ≠ 22 by omega), m_up_n (show a ≠ 23 by omega), m_up_n (show a ≠ 24 by omega), m_up_n (show a ≠ 25 by omega), m_up_n (show a ≠ 26 by omega), m_up_n (show a ≠ 27 by omega), m_up_n (show a ≠ 28 by omega), m_up_n (show a ≠ 29 by omega)]