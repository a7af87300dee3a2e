/-! By program (wip/whole/book*.py) and hand. -/
/-- a row holds what the state does from a place on -/
def rAr (h : mH) (a n off : Nat) (x : Nat → Int32) : Prop := ∃ f, h a = .inl (0, n, .inl f) ∧ ∀ j, j < n → f j = x (off + j)
/-- the class's inn -/
def rI (h : mH) (iv : Value) (l : List Tok) (le mo : Nat) : Prop := (iv = .null ∧ l = [] ∧ le = 1 ∧ mo = 1) ∨ ∃ a code, iv = .ref a ∧ 87 ≤ a ∧ h a = .inr (3, [.int (nI le), .int (nI mo), .ref (a + 1)]) ∧ h (a + 1) = .inl (0, (cTs l).length, .inl code) ∧ cA code 0 (cTs l) ∧ (cTs l).length ≤ 100
theorem rI_c {h h2 : mH} {iv : Value} {l : List Tok} {le mo : Nat} (hh : ∀ a, 87 ≤ a → h2 a = h a) (x : rI h iv l le mo) : rI h2 iv l le mo := by
  rcases x with z | ⟨a, code, e, ha, h1, h2', h3, h4⟩
  · exact Or.inl z
  · exact Or.inr ⟨a, code, e, ha, (hh a ha).trans h1, (hh (a + 1) (Nat.le_succ_of_le ha)).trans h2', h3, h4⟩
theorem clamp_mm (x : Int32) : (if 1 < (if x < 9 then x else 9) then (if x < 9 then x else 9) else 1) = v_clamp x := by
  unfold v_clamp
  by_cases h9 : x < 9
  · rw [if_pos h9]
    by_cases h1 : 1 < x
    · rw [if_pos h1, if_neg (Int32.not_lt.mpr (Int32.le_of_lt h1)), if_neg (Int32.not_lt.mpr (Int32.le_of_lt h9))]
    · rw [if_neg h1]
      by_cases h2 : x < 1
      · rw [if_pos h2]
      · rw [if_neg h2, if_neg (Int32.not_lt.mpr (Int32.le_of_lt h9))]
        exact Int32.le_antisymm (Int32.not_lt.mp h2) (Int32.not_lt.mp h1)
  · rw [if_neg h9, if_pos (show (1 : Int32) < 9 by decide), if_neg (fun z => h9 (Int32.lt_trans z (by decide)))]
    by_cases h2 : 9 < x
    · rw [if_pos h2]
    · rw [if_neg h2]
      exact Int32.le_antisymm (Int32.not_lt.mp h9) (Int32.not_lt.mp h2)
theorem x_masterly (d : Nat) (h : mH) (Q : Option Value → mH → Prop)  (x y : Int32) (K : Q (some (.int (if x < y then 2 else 0))) h) : mT0 d z_X7_masterly 0 (m_init z_X7_masterly [.int x, .int y]) [] h Q := by
  iterate 2 refine mT_s rfl rfl ?_
  refine mT_icmp_ge rfl (fun c2 => ?_) (fun c2 => ?_)
  · refine mT_s rfl rfl ?_
    refine mT_ret rfl rfl ?_
    rw [if_neg (Int32.not_lt.mpr c2)] at K
    exact K
  · iterate 2 refine mT_s rfl rfl ?_
    refine mT_ret rfl rfl ?_
    rw [if_pos (Int32.not_le.mp c2)] at K
    exact K

theorem x_slyly (d : Nat) (h : mH) (Q : Option Value → mH → Prop)  (x : Int32) (K : Q (some (.int (if x < 4 then 9 else 0))) h) : mT0 d z_X7_slyly 0 (m_init z_X7_slyly [.int x]) [] h Q := by
  iterate 2 refine mT_s rfl rfl ?_
  refine mT_icmp_ge rfl (fun c2 => ?_) (fun c2 => ?_)
  · refine mT_s rfl rfl ?_
    refine mT_ret rfl rfl ?_
    rw [if_neg (Int32.not_lt.mpr c2)] at K
    exact K
  · iterate 2 refine mT_s rfl rfl ?_
    refine mT_ret rfl rfl ?_
    rw [if_pos (Int32.not_le.mp c2)] at K
    exact K

theorem x_newly (d : Nat) (h : mH) (Q : Option Value → mH → Prop)  (x : Int32) (K : Q (some (.int (if x < 3 then 1 else 0))) h) : mT0 d z_X7_newly 0 (m_init z_X7_newly [.int x]) [] h Q := by
  iterate 2 refine mT_s rfl rfl ?_
  refine mT_icmp_ge rfl (fun c2 => ?_) (fun c2 => ?_)
  · refine mT_s rfl rfl ?_
    refine mT_ret rfl rfl ?_
    rw [if_neg (Int32.not_lt.mpr c2)] at K
    exact K
  · iterate 2 refine mT_s rfl rfl ?_
    refine mT_ret rfl rfl ?_
    rw [if_pos (Int32.not_le.mp c2)] at K
    exact K

theorem few_max {le m : Nat} (hm : m ≤ 1000) (hl : le ≤ 99) : (if (1 : Int32) < nI m - nI le then nI m - nI le else 1) = nI (n_few le m) := by
  unfold n_few
  by_cases c : m - le < 1
  · rw [if_pos c]
    by_cases c2 : m < le
    · rw [if_neg (fun z => Int32.lt_irrefl (Int32.lt_trans z (Int32.lt_trans (pk_sneg (by omega) c2) (show (0 : Int32) < 1 by decide))))]
      rfl
    · rw [pk_sub (by omega), show m - le = 0 by omega]
      rfl
  · rw [if_neg c, pk_sub (by omega)]
    by_cases c3 : m - le = 1
    · rw [c3]; rfl
    · rw [if_pos (show (1 : Int32) < nI (m - le) from nI_lt (a := 1) (by omega) (by omega))]
theorem mor_min {mo m : Nat} (hm : m ≤ 1000) (hl : mo ≤ 99) : (if nI m + nI mo < (20 : Int32) then nI m + nI mo else 20) = nI (n_mor mo m) := by
  unfold n_mor
  rw [nI_add]
  by_cases c : 20 < m + mo
  · rw [if_pos c, if_neg (show ¬ nI (m + mo) < 20 from Int32.not_lt.mpr (nI_le (a := 20) (by omega) (by omega)))]
    rfl
  · rw [if_neg c]
    by_cases c3 : m + mo = 20
    · rw [c3]; rfl
    · rw [if_pos (show nI (m + mo) < 20 from nI_lt (b := 20) (by omega) (by omega))]
theorem x_less_21 (d : Nat) (h : mH) (Q : Option Value → mH → Prop) (i : Nat → Int32) (iv : Value) (hR : h 21 = .inr (7, rObj 21 i iv)) (hN : 87 ≤ m_nx h) (l : List Tok) (le mo : Nat) (hV : rI h iv l le mo) (K : Q (some (.int (nI le))) h) : mT0 d z_X7_less 0 (m_init z_X7_less [.ref 21]) [] h Q := by
  rcases hV with ⟨rfl, rfl, rfl, rfl⟩ | ⟨a, code, rfl, ha, ha1, ha2, hcd, hcl⟩
  · refine mT_s rfl rfl ?_
    (apply mT_getf; (case hc => rfl); (case ha => first | rfl | assumption); (case hf => first | rfl | assumption))
    refine mT_s rfl rfl ?_
    iterate 2 refine mT_s rfl rfl ?_
    refine mT_ret rfl rfl ?_
    exact K
  · refine mT_s rfl rfl ?_
    (apply mT_getf; (case hc => rfl); (case ha => first | rfl | assumption); (case hf => first | rfl | assumption))
    refine mT_ifnn rfl (Nat.ble_eq_true_of_le (Nat.le_trans (by decide) ha)) ?_
    refine mT_s rfl rfl ?_
    (apply mT_getf; (case hc => rfl); (case ha => first | rfl | assumption); (case hf => first | rfl | assumption))
    (apply mT_getf; (case hc => rfl); (case ha => first | rfl | assumption); (case hf => first | rfl | assumption))
    refine mT_ret rfl rfl ?_
    exact K
theorem x_more_21 (d : Nat) (h : mH) (Q : Option Value → mH → Prop) (i : Nat → Int32) (iv : Value) (hR : h 21 = .inr (7, rObj 21 i iv)) (hN : 87 ≤ m_nx h) (l : List Tok) (le mo : Nat) (hV : rI h iv l le mo) (K : Q (some (.int (nI mo))) h) : mT0 d z_X7_more 0 (m_init z_X7_more [.ref 21]) [] h Q := by
  rcases hV with ⟨rfl, rfl, rfl, rfl⟩ | ⟨a, code, rfl, ha, ha1, ha2, hcd, hcl⟩
  · refine mT_s rfl rfl ?_
    (apply mT_getf; (case hc => rfl); (case ha => first | rfl | assumption); (case hf => first | rfl | assumption))
    refine mT_s rfl rfl ?_
    iterate 2 refine mT_s rfl rfl ?_
    refine mT_ret rfl rfl ?_
    exact K
  · refine mT_s rfl rfl ?_
    (apply mT_getf; (case hc => rfl); (case ha => first | rfl | assumption); (case hf => first | rfl | assumption))
    refine mT_ifnn rfl (Nat.ble_eq_true_of_le (Nat.le_trans (by decide) ha)) ?_
    refine mT_s rfl rfl ?_
    (apply mT_getf; (case hc => rfl); (case ha => first | rfl | assumption); (case hf => first | rfl | assumption))
    (apply mT_getf; (case hc => rfl); (case ha => first | rfl | assumption); (case hf => first | rfl | assumption))
    refine mT_ret rfl rfl ?_
    exact K
theorem x_menIfWon_21 (d : Nat) (h : mH) (Q : Option Value → mH → Prop)  (i : Nat → Int32) (iv : Value) (hR : h 21 = .inr (7, rObj 21 i iv)) (hN : 87 ≤ m_nx h) (l : List Tok) (le mo : Nat) (hV : rI h iv l le mo) (x : Int32) (m : Nat) (hx : x = nI m) (hm : m ≤ 1000) (hle : le ≤ 99) (K : Q (some (.int (nI (n_few le m)))) h) : mT0 (d + 1) z_X7_menIfWon 0 (m_init z_X7_menIfWon [.ref 21, .int x]) [] h Q := by
  iterate 3 refine mT_s rfl rfl ?_
  (apply mT_inv; (case hc => rfl); (case hd => rfl); (case hb => first | rfl | assumption); (case hg => rfl))
  refine x_less_21 _ h _ i iv hR hN l le mo hV ?_
  iterate 2 refine mT_s rfl rfl ?_
  refine mT_ret rfl rfl ?_
  subst hx
  have e : (if (1 : Int32) < nI m - nI le then nI m - nI le else 1) = nI (n_few le m) := few_max hm hle
  rw [← e] at K
  exact K

theorem x_menIfLost_21 (d : Nat) (h : mH) (Q : Option Value → mH → Prop)  (i : Nat → Int32) (iv : Value) (hR : h 21 = .inr (7, rObj 21 i iv)) (hN : 87 ≤ m_nx h) (l : List Tok) (le mo : Nat) (hV : rI h iv l le mo) (x : Int32) (m : Nat) (hx : x = nI m) (hm : m ≤ 1000) (hmo : mo ≤ 99) (K : Q (some (.int (nI (n_mor mo m)))) h) : mT0 (d + 1) z_X7_menIfLost 0 (m_init z_X7_menIfLost [.ref 21, .int x]) [] h Q := by
  iterate 3 refine mT_s rfl rfl ?_
  (apply mT_inv; (case hc => rfl); (case hd => rfl); (case hb => first | rfl | assumption); (case hg => rfl))
  refine x_more_21 _ h _ i iv hR hN l le mo hV ?_
  iterate 2 refine mT_s rfl rfl ?_
  refine mT_ret rfl rfl ?_
  subst hx
  have e : (if nI m + nI mo < (20 : Int32) then nI m + nI mo else 20) = nI (n_mor mo m) := mor_min hm hmo
  rw [← e] at K
  exact K

theorem x_less_41 (d : Nat) (h : mH) (Q : Option Value → mH → Prop) (i : Nat → Int32) (iv : Value) (hR : h 41 = .inr (7, rObj 41 i iv)) (hN : 87 ≤ m_nx h) (l : List Tok) (le mo : Nat) (hV : rI h iv l le mo) (K : Q (some (.int (nI le))) h) : mT0 d z_X7_less 0 (m_init z_X7_less [.ref 41]) [] h Q := by
  rcases hV with ⟨rfl, rfl, rfl, rfl⟩ | ⟨a, code, rfl, ha, ha1, ha2, hcd, hcl⟩
  · refine mT_s rfl rfl ?_
    (apply mT_getf; (case hc => rfl); (case ha => first | rfl | assumption); (case hf => first | rfl | assumption))
    refine mT_s rfl rfl ?_
    iterate 2 refine mT_s rfl rfl ?_
    refine mT_ret rfl rfl ?_
    exact K
  · refine mT_s rfl rfl ?_
    (apply mT_getf; (case hc => rfl); (case ha => first | rfl | assumption); (case hf => first | rfl | assumption))
    refine mT_ifnn rfl (Nat.ble_eq_true_of_le (Nat.le_trans (by decide) ha)) ?_
    refine mT_s rfl rfl ?_
    (apply mT_getf; (case hc => rfl); (case ha => first | rfl | assumption); (case hf => first | rfl | assumption))
    (apply mT_getf; (case hc => rfl); (case ha => first | rfl | assumption); (case hf => first | rfl | assumption))
    refine mT_ret rfl rfl ?_
    exact K
theorem x_more_41 (d : Nat) (h : mH) (Q : Option Value → mH → Prop) (i : Nat → Int32) (iv : Value) (hR : h 41 = .inr (7, rObj 41 i iv)) (hN : 87 ≤ m_nx h) (l : List Tok) (le mo : Nat) (hV : rI h iv l le mo) (K : Q (some (.int (nI mo))) h) : mT0 d z_X7_more 0 (m_init z_X7_more [.ref 41]) [] h Q := by
  rcases hV with ⟨rfl, rfl, rfl, rfl⟩ | ⟨a, code, rfl, ha, ha1, ha2, hcd, hcl⟩
  · refine mT_s rfl rfl ?_
    (apply mT_getf; (case hc => rfl); (case ha => first | rfl | assumption); (case hf => first | rfl | assumption))
    refine mT_s rfl rfl ?_
    iterate 2 refine mT_s rfl rfl ?_
    refine mT_ret rfl rfl ?_
    exact K
  · refine mT_s rfl rfl ?_
    (apply mT_getf; (case hc => rfl); (case ha => first | rfl | assumption); (case hf => first | rfl | assumption))
    refine mT_ifnn rfl (Nat.ble_eq_true_of_le (Nat.le_trans (by decide) ha)) ?_
    refine mT_s rfl rfl ?_
    (apply mT_getf; (case hc => rfl); (case ha => first | rfl | assumption); (case hf => first | rfl | assumption))
    (apply mT_getf; (case hc => rfl); (case ha => first | rfl | assumption); (case hf => first | rfl | assumption))
    refine mT_ret rfl rfl ?_
    exact K
theorem x_menIfWon_41 (d : Nat) (h : mH) (Q : Option Value → mH → Prop)  (i : Nat → Int32) (iv : Value) (hR : h 41 = .inr (7, rObj 41 i iv)) (hN : 87 ≤ m_nx h) (l : List Tok) (le mo : Nat) (hV : rI h iv l le mo) (x : Int32) (m : Nat) (hx : x = nI m) (hm : m ≤ 1000) (hle : le ≤ 99) (K : Q (some (.int (nI (n_few le m)))) h) : mT0 (d + 1) z_X7_menIfWon 0 (m_init z_X7_menIfWon [.ref 41, .int x]) [] h Q := by
  iterate 3 refine mT_s rfl rfl ?_
  (apply mT_inv; (case hc => rfl); (case hd => rfl); (case hb => first | rfl | assumption); (case hg => rfl))
  refine x_less_41 _ h _ i iv hR hN l le mo hV ?_
  iterate 2 refine mT_s rfl rfl ?_
  refine mT_ret rfl rfl ?_
  subst hx
  have e : (if (1 : Int32) < nI m - nI le then nI m - nI le else 1) = nI (n_few le m) := few_max hm hle
  rw [← e] at K
  exact K

theorem x_menIfLost_41 (d : Nat) (h : mH) (Q : Option Value → mH → Prop)  (i : Nat → Int32) (iv : Value) (hR : h 41 = .inr (7, rObj 41 i iv)) (hN : 87 ≤ m_nx h) (l : List Tok) (le mo : Nat) (hV : rI h iv l le mo) (x : Int32) (m : Nat) (hx : x = nI m) (hm : m ≤ 1000) (hmo : mo ≤ 99) (K : Q (some (.int (nI (n_mor mo m)))) h) : mT0 (d + 1) z_X7_menIfLost 0 (m_init z_X7_menIfLost [.ref 41, .int x]) [] h Q := by
  iterate 3 refine mT_s rfl rfl ?_
  (apply mT_inv; (case hc => rfl); (case hd => rfl); (case hb => first | rfl | assumption); (case hg => rfl))
  refine x_more_41 _ h _ i iv hR hN l le mo hV ?_
  iterate 2 refine mT_s rfl rfl ?_
  refine mT_ret rfl rfl ?_
  subst hx
  have e : (if nI m + nI mo < (20 : Int32) then nI m + nI mo else 20) = nI (n_mor mo m) := mor_min hm hmo
  rw [← e] at K
  exact K
