/-! By program (wip/whole/book*.py) and hand. -/
theorem x_roomInit21 (d : Nat) (h : mH) (Q : Option Value → mH → Prop) (hN : m_nx h = 22) (hO : h 21 = .inr (7, m_new 7)) (K : ∀ h2, (∀ a, 2 ≤ a → a < 21 ∨ 87 ≤ a → h2 a = h a) → (h2 21 = .inr (7, rObj 21 (fun _ => 0) .null) ∧ h2 22 = .inl (0, 5, .inl fun _ => 0) ∧ h2 23 = .inl (0, 5, .inl fun _ => 0) ∧ h2 24 = .inl (0, 5, .inl fun _ => 0) ∧ h2 25 = .inl (0, 20, .inl fun _ => 0) ∧ h2 26 = .inl (0, 100, .inl fun _ => 0) ∧ h2 27 = .inl (0, 8, .inl fun _ => 0) ∧ h2 28 = .inl (0, 8, .inl fun _ => 0) ∧ h2 29 = .inl (0, 8, .inl fun _ => 0) ∧ h2 30 = .inl (0, 5, .inl fun _ => 0)) → m_nx h2 = 31 → m_us h2 = m_us h + 164 → Q none h2) : mT0 d z_X7_init 0 (m_init z_X7_init [.ref 21]) [] h Q := by
  iterate 4 refine mT_s rfl rfl ?_
  refine mT_newaN (N := 22) (k := 5) rfl rfl rfl (by decide) hN rfl ?_
  (apply mT_putf; (case hc => rfl); (case ha => first | rfl | assumption); (case hg => rfl))
  iterate 2 refine mT_s rfl rfl ?_
  refine mT_newaN (N := 23) (k := 5) rfl rfl rfl (by decide) rfl rfl ?_
  (apply mT_putf; (case hc => rfl); (case ha => first | rfl | assumption); (case hg => rfl))
  iterate 2 refine mT_s rfl rfl ?_
  refine mT_newaN (N := 24) (k := 5) rfl rfl rfl (by decide) rfl rfl ?_
  (apply mT_putf; (case hc => rfl); (case ha => first | rfl | assumption); (case hg => rfl))
  iterate 2 refine mT_s rfl rfl ?_
  refine mT_newaN (N := 25) (k := 20) rfl rfl rfl (by decide) rfl rfl ?_
  (apply mT_putf; (case hc => rfl); (case ha => first | rfl | assumption); (case hg => rfl))
  iterate 2 refine mT_s rfl rfl ?_
  refine mT_newaN (N := 26) (k := 100) rfl rfl rfl (by decide) rfl rfl ?_
  (apply mT_putf; (case hc => rfl); (case ha => first | rfl | assumption); (case hg => rfl))
  iterate 2 refine mT_s rfl rfl ?_
  refine mT_newaN (N := 27) (k := 8) rfl rfl rfl (by decide) rfl rfl ?_
  (apply mT_putf; (case hc => rfl); (case ha => first | rfl | assumption); (case hg => rfl))
  iterate 2 refine mT_s rfl rfl ?_
  refine mT_newaN (N := 28) (k := 8) rfl rfl rfl (by decide) rfl rfl ?_
  (apply mT_putf; (case hc => rfl); (case ha => first | rfl | assumption); (case hg => rfl))
  iterate 2 refine mT_s rfl rfl ?_
  refine mT_newaN (N := 29) (k := 8) rfl rfl rfl (by decide) rfl rfl ?_
  (apply mT_putf; (case hc => rfl); (case ha => first | rfl | assumption); (case hg => rfl))
  iterate 2 refine mT_s rfl rfl ?_
  refine mT_newaN (N := 30) (k := 5) rfl rfl rfl (by decide) rfl rfl ?_
  (apply mT_putf; (case hc => rfl); (case ha => first | rfl | assumption); (case hg => rfl))
  refine mT_ret rfl rfl ?_
  refine K _ (fun a a2 a3 => ?_) ⟨rfl, rfl, rfl, rfl, rfl, rfl, rfl, rfl, rfl, rfl⟩ rfl (by show m_us h + 5 + 5 + 5 + 20 + 100 + 8 + 8 + 8 + 5 = _; omega)
  simp only [m_alN, m_up_n (show a ≠ 0 by omega), m_up_n (show a ≠ 1 by omega), m_up_n (show a ≠ 21 by omega), m_up_n (show a ≠ 22 by omega), m_up_n (show a ≠ 23 by omega), m_up_n (show a ≠ 24 by omega), m_up_n (show a ≠ 25 by omega), m_up_n (show a ≠ 26 by omega), m_up_n (show a ≠ 27 by omega), m_up_n (show a ≠ 28 by omega), m_up_n (show a ≠ 29 by omega), m_up_n (show a ≠ 30 by omega)]
theorem x_roomInit31 (d : Nat) (h : mH) (Q : Option Value → mH → Prop) (hN : m_nx h = 32) (hO : h 31 = .inr (7, m_new 7)) (K : ∀ h2, (∀ a, 2 ≤ a → a < 31 ∨ 87 ≤ a → h2 a = h a) → (h2 31 = .inr (7, rObj 31 (fun _ => 0) .null) ∧ h2 32 = .inl (0, 5, .inl fun _ => 0) ∧ h2 33 = .inl (0, 5, .inl fun _ => 0) ∧ h2 34 = .inl (0, 5, .inl fun _ => 0) ∧ h2 35 = .inl (0, 20, .inl fun _ => 0) ∧ h2 36 = .inl (0, 100, .inl fun _ => 0) ∧ h2 37 = .inl (0, 8, .inl fun _ => 0) ∧ h2 38 = .inl (0, 8, .inl fun _ => 0) ∧ h2 39 = .inl (0, 8, .inl fun _ => 0) ∧ h2 40 = .inl (0, 5, .inl fun _ => 0)) → m_nx h2 = 41 → m_us h2 = m_us h + 164 → Q none h2) : mT0 d z_X7_init 0 (m_init z_X7_init [.ref 31]) [] h Q := by
  iterate 4 refine mT_s rfl rfl ?_
  refine mT_newaN (N := 32) (k := 5) rfl rfl rfl (by decide) hN rfl ?_
  (apply mT_putf; (case hc => rfl); (case ha => first | rfl | assumption); (case hg => rfl))
  iterate 2 refine mT_s rfl rfl ?_
  refine mT_newaN (N := 33) (k := 5) rfl rfl rfl (by decide) rfl rfl ?_
  (apply mT_putf; (case hc => rfl); (case ha => first | rfl | assumption); (case hg => rfl))
  iterate 2 refine mT_s rfl rfl ?_
  refine mT_newaN (N := 34) (k := 5) rfl rfl rfl (by decide) rfl rfl ?_
  (apply mT_putf; (case hc => rfl); (case ha => first | rfl | assumption); (case hg => rfl))
  iterate 2 refine mT_s rfl rfl ?_
  refine mT_newaN (N := 35) (k := 20) rfl rfl rfl (by decide) rfl rfl ?_
  (apply mT_putf; (case hc => rfl); (case ha => first | rfl | assumption); (case hg => rfl))
  iterate 2 refine mT_s rfl rfl ?_
  refine mT_newaN (N := 36) (k := 100) rfl rfl rfl (by decide) rfl rfl ?_
  (apply mT_putf; (case hc => rfl); (case ha => first | rfl | assumption); (case hg => rfl))
  iterate 2 refine mT_s rfl rfl ?_
  refine mT_newaN (N := 37) (k := 8) rfl rfl rfl (by decide) rfl rfl ?_
  (apply mT_putf; (case hc => rfl); (case ha => first | rfl | assumption); (case hg => rfl))
  iterate 2 refine mT_s rfl rfl ?_
  refine mT_newaN (N := 38) (k := 8) rfl rfl rfl (by decide) rfl rfl ?_
  (apply mT_putf; (case hc => rfl); (case ha => first | rfl | assumption); (case hg => rfl))
  iterate 2 refine mT_s rfl rfl ?_
  refine mT_newaN (N := 39) (k := 8) rfl rfl rfl (by decide) rfl rfl ?_
  (apply mT_putf; (case hc => rfl); (case ha => first | rfl | assumption); (case hg => rfl))
  iterate 2 refine mT_s rfl rfl ?_
  refine mT_newaN (N := 40) (k := 5) rfl rfl rfl (by decide) rfl rfl ?_
  (apply mT_putf; (case hc => rfl); (case ha => first | rfl | assumption); (case hg => rfl))
  refine mT_ret rfl rfl ?_
  refine K _ (fun a a2 a3 => ?_) ⟨rfl, rfl, rfl, rfl, rfl, rfl, rfl, rfl, rfl, rfl⟩ rfl (by show m_us h + 5 + 5 + 5 + 20 + 100 + 8 + 8 + 8 + 5 = _; omega)
  simp only [m_alN, m_up_n (show a ≠ 0 by omega), m_up_n (show a ≠ 1 by omega), m_up_n (show a ≠ 31 by omega), m_up_n (show a ≠ 32 by omega), m_up_n (show a ≠ 33 by omega), m_up_n (show a ≠ 34 by omega), m_up_n (show a ≠ 35 by omega), m_up_n (show a ≠ 36 by omega), m_up_n (show a ≠ 37 by omega), m_up_n (show a ≠ 38 by omega), m_up_n (show a ≠ 39 by omega), m_up_n (show a ≠ 40 by omega)]
theorem x_roomInit41 (d : Nat) (h : mH) (Q : Option Value → mH → Prop) (hN : m_nx h = 42) (hO : h 41 = .inr (7, m_new 7)) (K : ∀ h2, (∀ a, 2 ≤ a → a < 41 ∨ 87 ≤ a → h2 a = h a) → (h2 41 = .inr (7, rObj 41 (fun _ => 0) .null) ∧ h2 42 = .inl (0, 5, .inl fun _ => 0) ∧ h2 43 = .inl (0, 5, .inl fun _ => 0) ∧ h2 44 = .inl (0, 5, .inl fun _ => 0) ∧ h2 45 = .inl (0, 20, .inl fun _ => 0) ∧ h2 46 = .inl (0, 100, .inl fun _ => 0) ∧ h2 47 = .inl (0, 8, .inl fun _ => 0) ∧ h2 48 = .inl (0, 8, .inl fun _ => 0) ∧ h2 49 = .inl (0, 8, .inl fun _ => 0) ∧ h2 50 = .inl (0, 5, .inl fun _ => 0)) → m_nx h2 = 51 → m_us h2 = m_us h + 164 → Q none h2) : mT0 d z_X7_init 0 (m_init z_X7_init [.ref 41]) [] h Q := by
  iterate 4 refine mT_s rfl rfl ?_
  refine mT_newaN (N := 42) (k := 5) rfl rfl rfl (by decide) hN rfl ?_
  (apply mT_putf; (case hc => rfl); (case ha => first | rfl | assumption); (case hg => rfl))
  iterate 2 refine mT_s rfl rfl ?_
  refine mT_newaN (N := 43) (k := 5) rfl rfl rfl (by decide) rfl rfl ?_
  (apply mT_putf; (case hc => rfl); (case ha => first | rfl | assumption); (case hg => rfl))
  iterate 2 refine mT_s rfl rfl ?_
  refine mT_newaN (N := 44) (k := 5) rfl rfl rfl (by decide) rfl rfl ?_
  (apply mT_putf; (case hc => rfl); (case ha => first | rfl | assumption); (case hg => rfl))
  iterate 2 refine mT_s rfl rfl ?_
  refine mT_newaN (N := 45) (k := 20) rfl rfl rfl (by decide) rfl rfl ?_
  (apply mT_putf; (case hc => rfl); (case ha => first | rfl | assumption); (case hg => rfl))
  iterate 2 refine mT_s rfl rfl ?_
  refine mT_newaN (N := 46) (k := 100) rfl rfl rfl (by decide) rfl rfl ?_
  (apply mT_putf; (case hc => rfl); (case ha => first | rfl | assumption); (case hg => rfl))
  iterate 2 refine mT_s rfl rfl ?_
  refine mT_newaN (N := 47) (k := 8) rfl rfl rfl (by decide) rfl rfl ?_
  (apply mT_putf; (case hc => rfl); (case ha => first | rfl | assumption); (case hg => rfl))
  iterate 2 refine mT_s rfl rfl ?_
  refine mT_newaN (N := 48) (k := 8) rfl rfl rfl (by decide) rfl rfl ?_
  (apply mT_putf; (case hc => rfl); (case ha => first | rfl | assumption); (case hg => rfl))
  iterate 2 refine mT_s rfl rfl ?_
  refine mT_newaN (N := 49) (k := 8) rfl rfl rfl (by decide) rfl rfl ?_
  (apply mT_putf; (case hc => rfl); (case ha => first | rfl | assumption); (case hg => rfl))
  iterate 2 refine mT_s rfl rfl ?_
  refine mT_newaN (N := 50) (k := 5) rfl rfl rfl (by decide) rfl rfl ?_
  (apply mT_putf; (case hc => rfl); (case ha => first | rfl | assumption); (case hg => rfl))
  refine mT_ret rfl rfl ?_
  refine K _ (fun a a2 a3 => ?_) ⟨rfl, rfl, rfl, rfl, rfl, rfl, rfl, rfl, rfl, rfl⟩ rfl (by show m_us h + 5 + 5 + 5 + 20 + 100 + 8 + 8 + 8 + 5 = _; omega)
  simp only [m_alN, m_up_n (show a ≠ 0 by omega), m_up_n (show a ≠ 1 by omega), m_up_n (show a ≠ 41 by omega), m_up_n (show a ≠ 42 by omega), m_up_n (show a ≠ 43 by omega), m_up_n (show a ≠ 44 by omega), m_up_n (show a ≠ 45 by omega), m_up_n (show a ≠ 46 by omega), m_up_n (show a ≠ 47 by omega), m_up_n (show a ≠ 48 by omega), m_up_n (show a ≠ 49 by omega), m_up_n (show a ≠ 50 by omega)]
theorem x_readerInit (d : Nat) (h : mH) (Q : Option Value → mH → Prop) (hN : m_nx h = 52) (hO : h 51 = .inr (6, m_new 6)) (K : ∀ h2, (∀ a, 2 ≤ a → a < 51 ∨ 87 ≤ a → h2 a = h a) → rRdS h2 → m_nx h2 = 53 → m_us h2 = m_us h + 100 → Q none h2) : mT0 d z_X6_init 0 (m_init z_X6_init [.ref 51]) [] h Q := by
  iterate 4 refine mT_s rfl rfl ?_
  refine mT_newaN (N := 52) (k := 100) rfl rfl rfl (by decide) hN rfl ?_
  (apply mT_putf; (case hc => rfl); (case ha => first | rfl | assumption); (case hg => rfl))
  refine mT_ret rfl rfl ?_
  refine K _ (fun a a2 a3 => ?_) ⟨⟨_, _, _, _, _, _, rfl⟩, ⟨_, rfl⟩⟩ rfl (by show m_us h + 100 = _; omega)
  simp only [m_alN, m_up_n (show a ≠ 0 by omega), m_up_n (show a ≠ 1 by omega), m_up_n (show a ≠ 51 by omega), m_up_n (show a ≠ 52 by omega)]
theorem x_cloudInit54 (d : Nat) (h : mH) (Q : Option Value → mH → Prop) (hN : m_nx h = 55) (hO : h 54 = .inr (1, m_new 1)) (K : ∀ h2, (∀ a, 2 ≤ a → a < 54 ∨ 87 ≤ a → h2 a = h a) → cZ h2 54 → m_nx h2 = 58 → m_us h2 = m_us h + 6000 → Q none h2) : mT0 d z_X1_init 0 (m_init z_X1_init [.ref 54]) [] h Q := by
  iterate 4 refine mT_s rfl rfl ?_
  refine mT_newaN (N := 55) (k := 400) rfl rfl rfl (by decide) hN rfl ?_
  (apply mT_putf; (case hc => rfl); (case ha => first | rfl | assumption); (case hg => rfl))
  iterate 2 refine mT_s rfl rfl ?_
  refine mT_newaN (N := 56) (k := 400) rfl rfl rfl (by decide) rfl rfl ?_
  (apply mT_putf; (case hc => rfl); (case ha => first | rfl | assumption); (case hg => rfl))
  iterate 2 refine mT_s rfl rfl ?_
  refine mT_newaN (N := 57) (k := 5200) rfl rfl rfl (by decide) rfl rfl ?_
  (apply mT_putf; (case hc => rfl); (case ha => first | rfl | assumption); (case hg => rfl))
  refine mT_ret rfl rfl ?_
  refine K _ (fun a a2 a3 => ?_) ⟨fun _ => 0, fun _ => 0, fun _ => 0, ⟨rfl, ⟨_, rfl, fun j hj => absurd hj (Nat.not_lt_zero _)⟩, ⟨_, rfl, fun _ _ => rfl⟩, rfl, cI_0 (fun _ _ => rfl) (fun _ _ => rfl)⟩, fun _ _ => rfl⟩ rfl (by show m_us h + 400 + 400 + 5200 = _; omega)
  simp only [m_alN, m_up_n (show a ≠ 0 by omega), m_up_n (show a ≠ 1 by omega), m_up_n (show a ≠ 54 by omega), m_up_n (show a ≠ 55 by omega), m_up_n (show a ≠ 56 by omega), m_up_n (show a ≠ 57 by omega)]
theorem x_cloudInit58 (d : Nat) (h : mH) (Q : Option Value → mH → Prop) (hN : m_nx h = 59) (hO : h 58 = .inr (1, m_new 1)) (K : ∀ h2, (∀ a, 2 ≤ a → a < 58 ∨ 87 ≤ a → h2 a = h a) → cZ h2 58 → m_nx h2 = 62 → m_us h2 = m_us h + 6000 → Q none h2) : mT0 d z_X1_init 0 (m_init z_X1_init [.ref 58]) [] h Q := by
  iterate 4 refine mT_s rfl rfl ?_
  refine mT_newaN (N := 59) (k := 400) rfl rfl rfl (by decide) hN rfl ?_
  (apply mT_putf; (case hc => rfl); (case ha => first | rfl | assumption); (case hg => rfl))
  iterate 2 refine mT_s rfl rfl ?_
  refine mT_newaN (N := 60) (k := 400) rfl rfl rfl (by decide) rfl rfl ?_
  (apply mT_putf; (case hc => rfl); (case ha => first | rfl | assumption); (case hg => rfl))
  iterate 2 refine mT_s rfl rfl ?_
  refine mT_newaN (N := 61) (k := 5200) rfl rfl rfl (by decide) rfl rfl ?_
  (apply mT_putf; (case hc => rfl); (case ha => first | rfl | assumption); (case hg => rfl))
  refine mT_ret rfl rfl ?_
  refine K _ (fun a a2 a3 => ?_) ⟨fun _ => 0, fun _ => 0, fun _ => 0, ⟨rfl, ⟨_, rfl, fun j hj => absurd hj (Nat.not_lt_zero _)⟩, ⟨_, rfl, fun _ _ => rfl⟩, rfl, cI_0 (fun _ _ => rfl) (fun _ _ => rfl)⟩, fun _ _ => rfl⟩ rfl (by show m_us h + 400 + 400 + 5200 = _; omega)
  simp only [m_alN, m_up_n (show a ≠ 0 by omega), m_up_n (show a ≠ 1 by omega), m_up_n (show a ≠ 58 by omega), m_up_n (show a ≠ 59 by omega), m_up_n (show a ≠ 60 by omega), m_up_n (show a ≠ 61 by omega)]
theorem x_seatsInit (d : Nat) (h : mH) (Q : Option Value → mH → Prop) (hN : m_nx h = 73) (hO : h 72 = .inr (8, m_new 8)) (K : ∀ h2, (∀ a, 2 ≤ a → a < 72 ∨ 87 ≤ a → h2 a = h a) → ((∃ v1 : Value, ∃ v2 v3 : Int32, h2 72 = .inr (8, [.ref 73, v1, .int v2, .int v3])) ∧ ∃ wf, h2 73 = .inl (0, 13, .inl wf)) → m_nx h2 = 74 → m_us h2 = m_us h + 13 → Q none h2) : mT0 d z_X8_init 0 (m_init z_X8_init [.ref 72]) [] h Q := by
  iterate 4 refine mT_s rfl rfl ?_
  refine mT_newaN (N := 73) (k := 13) rfl rfl rfl (by decide) hN rfl ?_
  (apply mT_putf; (case hc => rfl); (case ha => first | rfl | assumption); (case hg => rfl))
  refine mT_ret rfl rfl ?_
  refine K _ (fun a a2 a3 => ?_) ⟨⟨_, _, _, rfl⟩, ⟨_, rfl⟩⟩ rfl (by show m_us h + 13 = _; omega)
  simp only [m_alN, m_up_n (show a ≠ 0 by omega), m_up_n (show a ≠ 1 by omega), m_up_n (show a ≠ 72 by omega), m_up_n (show a ≠ 73 by omega)]
theorem x_actsInit (d : Nat) (h : mH) (Q : Option Value → mH → Prop) (hN : m_nx h = 75) (hO : h 74 = .inr (0, m_new 0)) (K : ∀ h2, (∀ a, 2 ≤ a → a < 74 ∨ 87 ≤ a → h2 a = h a) → (h2 74 = .inr (0, [.ref 75, .int (nI 0), .int 0, .int 0, .int 0]) ∧ h2 75 = .inl (0, 20, .inl fun _ => 0)) → m_nx h2 = 76 → m_us h2 = m_us h + 20 → Q none h2) : mT0 d z_X0_init 0 (m_init z_X0_init [.ref 74]) [] h Q := by
  iterate 4 refine mT_s rfl rfl ?_
  refine mT_newaN (N := 75) (k := 20) rfl rfl rfl (by decide) hN rfl ?_
  (apply mT_putf; (case hc => rfl); (case ha => first | rfl | assumption); (case hg => rfl))
  refine mT_ret rfl rfl ?_
  refine K _ (fun a a2 a3 => ?_) ⟨rfl, rfl⟩ rfl (by show m_us h + 20 = _; omega)
  simp only [m_alN, m_up_n (show a ≠ 0 by omega), m_up_n (show a ≠ 1 by omega), m_up_n (show a ≠ 74 by omega), m_up_n (show a ≠ 75 by omega)]
theorem x_purpInit (d : Nat) (h : mH) (Q : Option Value → mH → Prop) (hN : m_nx h = 63) (hO : h 62 = .inr (5, m_new 5)) (K : Q none h) : mT0 d z_X5_init 0 (m_init z_X5_init [.ref 62]) [] h Q := by
  iterate 2 refine mT_s rfl rfl ?_
  refine mT_ret rfl rfl ?_
  exact K