/-! By program (wip/whole/book*.py) and hand. -/
theorem m_alN_o {h : mH} {N a : Nat} {c : mE} {sz : Nat} (a0 : a ≠ 0) (a1 : a ≠ 1) (aN : a ≠ N) : m_alN h N c sz a = h a := by
  unfold m_alN
  rw [m_up_n aN, m_up_n a1, m_up_n a0]
theorem x_ordersInit (d : Nat) (h : mH) (Q : Option Value → mH → Prop) (hN : m_nx h = 64) (hO : h 63 = .inr (4, m_new 4)) (K : ∀ h2, (∀ a, 2 ≤ a → a < 63 ∨ 87 ≤ a → h2 a = h a) → rOrS h2 → m_nx h2 = 72 → m_us h2 = m_us h + 118 → Q none h2) : mT0 d z_X4_init 0 (m_init z_X4_init [.ref 63]) [] h Q := by
  iterate 4 refine mT_s rfl rfl ?_
  refine mT_newaN (N := 64) (k := 4) rfl rfl rfl (by decide) hN rfl ?_
  (apply mT_putf; (case hc => rfl); (case ha => first | rfl | assumption); (case hg => rfl))
  iterate 2 refine mT_s rfl rfl ?_
  refine mT_newaN (N := 65) (k := 4) rfl rfl rfl (by decide) rfl rfl ?_
  (apply mT_putf; (case hc => rfl); (case ha => first | rfl | assumption); (case hg => rfl))
  iterate 3 refine mT_s rfl rfl ?_
  refine mT_newmN rfl rfl rfl (fun h2 f2 h66 h67 n2 u2 => ?_)
  have h63 : h2 63 = .inr (4, [.ref 64, .int 0, .long 0, .ref 65, .null, .null, .int 0]) := (f2 63 (by decide) (by decide) (by decide)).trans rfl
  (apply mT_putfE; (case hc => rfl); (case ha => first | rfl | assumption); (case hE => exact n2); (case hg => rfl))
  refine mT_ret rfl rfl ?_
  have e := fun a (z : a ≠ 63) => (m_up_n z : (m_up h2 63 (.inr (4, [.ref 64, .int 0, .long 0, .ref 65, .ref 66, .null, .int 0]))) a = h2 a)
  refine K _ (fun a a2 a3 => ?_) ⟨⟨0, 0, 0, .null, rfl⟩, ⟨_, (e 64 (by decide)).trans ((f2 64 (by decide) (by decide) (by decide)).trans rfl)⟩, ⟨_, (e 65 (by decide)).trans ((f2 65 (by decide) (by decide) (by decide)).trans rfl)⟩, ⟨_, (e 66 (by decide)).trans h66, rfl, rfl, rfl, rfl, rfl⟩, fun a a1 a2 => ⟨_, (e a (by omega)).trans (h67 a a1 a2)⟩⟩ n2 (by show m_us h2 = _; rw [u2]; show m_us h + 4 + 4 + 110 = _; omega)
  refine (e a (by omega)).trans ((f2 a (by omega) (by omega) (by omega)).trans ?_)
  simp only [m_alN, m_up_n (show a ≠ 0 by omega), m_up_n (show a ≠ 1 by omega), m_up_n (show a ≠ 63 by omega), m_up_n (show a ≠ 64 by omega), m_up_n (show a ≠ 65 by omega)]
theorem x_duelInit (d : Nat) (h : mH) (Q : Option Value → mH → Prop) (hN : m_nx h = 54) (hO : h 53 = .inr (2, m_new 2)) (K : ∀ h2, (∀ a, 2 ≤ a → a < 53 ∨ 87 ≤ a → h2 a = h a) → rDuS h2 → m_nx h2 = 62 → m_us h2 = m_us h + 12008 → Q none h2) : mT0 (d + 1) z_X2_init 0 (m_init z_X2_init [.ref 53]) [] h Q := by
  iterate 3 refine mT_s rfl rfl ?_
  refine mT_newoN (N := 54) rfl rfl hN rfl ?_
  refine mT_s rfl rfl ?_
  refine mT_c rfl rfl ?_
  refine x_cloudInit54 _ (m_alN h 54 _ _) _ rfl rfl (fun h1 f1 Z1 n1 u1 => ?_)
  have h53 : h1 53 = .inr (2, m_new 2) := (f1 53 (by decide) (by decide)).trans hO
  (apply mT_putfE; (case hc => rfl); (case ha => first | rfl | assumption); (case hE => exact n1); (case hg => rfl))
  refine mT_s rfl rfl ?_
  refine mT_newoN (N := 58) rfl rfl (show m_nx (m_up h1 53 _) = 58 from n1) rfl ?_
  refine mT_s rfl rfl ?_
  refine mT_c rfl rfl ?_
  refine x_cloudInit58 _ (m_alN (m_up h1 53 _) 58 _ _) _ rfl rfl (fun h2 f2 Z2 n2 u2 => ?_)
  have h532 : h2 53 = .inr (2, [.ref 54, .null, .null, .int 0, .int 0, .int 0, .int 0, .int 0]) := (f2 53 (by decide) (by decide)).trans rfl
  (apply mT_putfE; (case hc => rfl); (case ha => first | rfl | assumption); (case hE => exact n2); (case hg => rfl))
  refine mT_ret rfl rfl ?_
  have Z1' : cZ (m_up h2 53 (.inr (2, [.ref 54, .ref 58, .null, .int 0, .int 0, .int 0, .int 0, .int 0]))) 54 := Z1.c (fun a z1 z2 => (m_up_n (show a ≠ 53 by omega)).trans ((f2 a (by omega) (by omega)).trans ((m_alN_o (by omega) (by omega) (by omega)).trans (m_up_n (show a ≠ 53 by omega)))))
  obtain ⟨P, lb, W, C, -⟩ := Z1'
  refine K _ (fun a a2 a3 => ?_) ⟨54, 58, Or.inl ⟨rfl, rfl⟩, ⟨.null, 0, 0, 0, 0, 0, rfl⟩, ⟨0, P, lb, W, C⟩, Z2.c (fun a z1 z2 => m_up_n (show a ≠ 53 by omega))⟩ n2 ?_
  · exact (m_up_n (show a ≠ 53 by omega)).trans ((f2 a (by omega) (by omega)).trans ((m_alN_o (by omega) (by omega) (by omega)).trans ((m_up_n (show a ≠ 53 by omega)).trans ((f1 a (by omega) (by omega)).trans (m_alN_o (by omega) (by omega) (by omega))))))
  · show m_us h2 = _
    rw [u2]
    show m_us h1 + 4 + 6000 = _
    rw [u1]
    show m_us h + 4 + 6000 + 4 + 6000 = _
    omega
theorem x_modelInit (d : Nat) (h : mH) (Q : Option Value → mH → Prop) (hN : m_nx h = 77) (hO : h 76 = .inr (10, m_new 10)) (K : ∀ h2, (∀ a, 2 ≤ a → a < 76 ∨ 87 ≤ a → h2 a = h a) → h2 76 = .inr (10, mObj (fun _ => 0) 82 83 0 0) → h2 77 = .inl (0, 889, .inl (upd (fun _ => 0) 11 (-1))) → h2 78 = .inl (0, 889, .inl fun _ => 0) → h2 79 = .inl (0, 6, .inl fun _ => 0) → h2 80 = .inl (0, 5, .inl fun _ => 0) → h2 81 = .inl (2, 64, .inl fun _ => 0) → h2 82 = .inl (1, 5733, .inr (.inl fun _ => 0)) → h2 83 = .inl (1, 5733, .inr (.inl fun _ => 0)) → h2 84 = .inl (0, 4, .inl fun _ => 0) → h2 85 = .inl (0, 4, .inl fun _ => 0) → h2 86 = .inl (0, 20, .inl fun _ => 0) → m_nx h2 = 87 → m_us h2 = m_us h + 13347 → Q none h2) : mT0 d z_X10_init 0 (m_init z_X10_init [.ref 76]) [] h Q := by
  iterate 4 refine mT_s rfl rfl ?_
  refine mT_newaN (N := 77) (k := 889) rfl rfl rfl (by decide) hN rfl ?_
  (apply mT_putf; (case hc => rfl); (case ha => first | rfl | assumption); (case hg => rfl))
  iterate 2 refine mT_s rfl rfl ?_
  refine mT_newaN (N := 78) (k := 889) rfl rfl rfl (by decide) rfl rfl ?_
  (apply mT_putf; (case hc => rfl); (case ha => first | rfl | assumption); (case hg => rfl))
  iterate 2 refine mT_s rfl rfl ?_
  refine mT_newaN (N := 79) (k := 6) rfl rfl rfl (by decide) rfl rfl ?_
  (apply mT_putf; (case hc => rfl); (case ha => first | rfl | assumption); (case hg => rfl))
  iterate 2 refine mT_s rfl rfl ?_
  refine mT_newaN (N := 80) (k := 5) rfl rfl rfl (by decide) rfl rfl ?_
  (apply mT_putf; (case hc => rfl); (case ha => first | rfl | assumption); (case hg => rfl))
  iterate 2 refine mT_s rfl rfl ?_
  refine mT_newaN (N := 81) (k := 64) rfl rfl rfl (by decide) rfl rfl ?_
  (apply mT_putf; (case hc => rfl); (case ha => first | rfl | assumption); (case hg => rfl))
  iterate 2 refine mT_s rfl rfl ?_
  refine mT_newaN (N := 82) (k := 5733) rfl rfl rfl (by decide) rfl rfl ?_
  (apply mT_putf; (case hc => rfl); (case ha => first | rfl | assumption); (case hg => rfl))
  iterate 2 refine mT_s rfl rfl ?_
  refine mT_newaN (N := 83) (k := 5733) rfl rfl rfl (by decide) rfl rfl ?_
  (apply mT_putf; (case hc => rfl); (case ha => first | rfl | assumption); (case hg => rfl))
  iterate 2 refine mT_s rfl rfl ?_
  refine mT_newaN (N := 84) (k := 4) rfl rfl rfl (by decide) rfl rfl ?_
  (apply mT_putf; (case hc => rfl); (case ha => first | rfl | assumption); (case hg => rfl))
  iterate 2 refine mT_s rfl rfl ?_
  refine mT_newaN (N := 85) (k := 4) rfl rfl rfl (by decide) rfl rfl ?_
  (apply mT_putf; (case hc => rfl); (case ha => first | rfl | assumption); (case hg => rfl))
  iterate 2 refine mT_s rfl rfl ?_
  refine mT_newaN (N := 86) (k := 20) rfl rfl rfl (by decide) rfl rfl ?_
  (apply mT_putf; (case hc => rfl); (case ha => first | rfl | assumption); (case hg => rfl))
  refine mT_s rfl rfl ?_
  (apply mT_getf; (case hc => rfl); (case ha => first | rfl | assumption); (case hf => first | rfl | assumption))
  iterate 2 refine mT_s rfl rfl ?_
  (apply mT_iastK (k := 11); (case hc => rfl); (case ha => first | rfl | assumption); (case hk => rfl); (case hlt => decide); (case hn => decide); (case hN => exact Nat.le_refl 87); (case hg => rfl))
  refine mT_ret rfl rfl ?_
  refine K _ (fun a a2 a3 => ?_) rfl rfl rfl rfl rfl rfl rfl rfl rfl rfl rfl rfl (by show m_us h + 889 + 889 + 6 + 5 + 64 + 5733 + 5733 + 4 + 4 + 20 = _; omega)
  simp only [m_alN, m_up_n (show a ≠ 0 by omega), m_up_n (show a ≠ 1 by omega), m_up_n (show a ≠ 76 by omega), m_up_n (show a ≠ 77 by omega), m_up_n (show a ≠ 78 by omega), m_up_n (show a ≠ 79 by omega), m_up_n (show a ≠ 80 by omega), m_up_n (show a ≠ 81 by omega), m_up_n (show a ≠ 82 by omega), m_up_n (show a ≠ 83 by omega), m_up_n (show a ≠ 84 by omega), m_up_n (show a ≠ 85 by omega), m_up_n (show a ≠ 86 by omega)]
theorem rRdS.c {h h2 : mH} (x : rRdS h) (hh : ∀ a, 51 ≤ a → a ≤ 52 → h2 a = h a) : rRdS h2 := by
  obtain ⟨⟨a, b, c, f, z, v, x1⟩, cd, x2⟩ := x
  exact ⟨⟨a, b, c, f, z, v, (hh 51 (by decide) (by decide)).trans x1⟩, cd, (hh 52 (by decide) (by decide)).trans x2⟩
theorem rDuS.c {h h2 : mH} (x : rDuS h) (hh : ∀ a, 53 ≤ a → a ≤ 61 → h2 a = h a) : rDuS h2 := by
  obtain ⟨a, b, ab, ⟨v, x1, x2, x3, x4, x5, e⟩, ⟨sz, P, lb, W, C⟩, Z⟩ := x
  have r := ab.r
  exact ⟨a, b, ab, ⟨v, x1, x2, x3, x4, x5, (hh 53 (by decide) (by decide)).trans e⟩, ⟨sz, P, lb, W, C.c (fun c z1 z2 => hh c (by omega) (by omega))⟩, Z.c (fun c z1 z2 => hh c (by omega) (by omega))⟩
theorem rOrS.c {h h2 : mH} (x : rOrS h) (hh : ∀ a, 63 ≤ a → a ≤ 71 → h2 a = h a) : rOrS h2 := by
  obtain ⟨⟨a, c, b, v, x1⟩, ⟨f, x2⟩, ⟨g, x3⟩, ⟨q, x4, q5⟩, x6⟩ := x
  refine ⟨⟨a, c, b, v, (hh 63 (by decide) (by decide)).trans x1⟩, ⟨f, (hh 64 (by decide) (by decide)).trans x2⟩, ⟨g, (hh 65 (by decide) (by decide)).trans x3⟩, ⟨q, (hh 66 (by decide) (by decide)).trans x4, q5⟩, fun a z1 z2 => ?_⟩
  obtain ⟨E, hE⟩ := x6 a z1 z2
  exact ⟨E, (hh a (by omega) (by omega)).trans hE⟩
set_option maxHeartbeats 4000000 in
theorem x_fewerInit (d : Nat) (h : mH) (Q : Option Value → mH → Prop) (hN : m_nx h = 21) (hO : h 20 = .inr (9, m_new 9)) (K : ∀ h2, (∀ a, 2 ≤ a → a < 20 ∨ 87 ≤ a → h2 a = h a) → h2 20 = .inr (9, xObj 0) → (h2 21 = .inr (7, rObj 21 (fun _ => 0) .null) ∧ h2 22 = .inl (0, 5, .inl fun _ => 0) ∧ h2 23 = .inl (0, 5, .inl fun _ => 0) ∧ h2 24 = .inl (0, 5, .inl fun _ => 0) ∧ h2 25 = .inl (0, 20, .inl fun _ => 0) ∧ h2 26 = .inl (0, 100, .inl fun _ => 0) ∧ h2 27 = .inl (0, 8, .inl fun _ => 0) ∧ h2 28 = .inl (0, 8, .inl fun _ => 0) ∧ h2 29 = .inl (0, 8, .inl fun _ => 0) ∧ h2 30 = .inl (0, 5, .inl fun _ => 0)) → (h2 31 = .inr (7, rObj 31 (fun _ => 0) .null) ∧ h2 32 = .inl (0, 5, .inl fun _ => 0) ∧ h2 33 = .inl (0, 5, .inl fun _ => 0) ∧ h2 34 = .inl (0, 5, .inl fun _ => 0) ∧ h2 35 = .inl (0, 20, .inl fun _ => 0) ∧ h2 36 = .inl (0, 100, .inl fun _ => 0) ∧ h2 37 = .inl (0, 8, .inl fun _ => 0) ∧ h2 38 = .inl (0, 8, .inl fun _ => 0) ∧ h2 39 = .inl (0, 8, .inl fun _ => 0) ∧ h2 40 = .inl (0, 5, .inl fun _ => 0)) → (h2 41 = .inr (7, rObj 41 (fun _ => 0) .null) ∧ h2 42 = .inl (0, 5, .inl fun _ => 0) ∧ h2 43 = .inl (0, 5, .inl fun _ => 0) ∧ h2 44 = .inl (0, 5, .inl fun _ => 0) ∧ h2 45 = .inl (0, 20, .inl fun _ => 0) ∧ h2 46 = .inl (0, 100, .inl fun _ => 0) ∧ h2 47 = .inl (0, 8, .inl fun _ => 0) ∧ h2 48 = .inl (0, 8, .inl fun _ => 0) ∧ h2 49 = .inl (0, 8, .inl fun _ => 0) ∧ h2 50 = .inl (0, 5, .inl fun _ => 0)) → rRdS h2 → rDuS h2 → (∃ v1 : Value, ∃ v2 v3 : Int32, h2 62 = .inr (5, [v1, .int v2, .int v3])) → rOrS h2 → (∃ v1 : Value, ∃ v2 v3 : Int32, h2 72 = .inr (8, [.ref 73, v1, .int v2, .int v3])) → (∃ wf, h2 73 = .inl (0, 13, .inl wf)) → h2 74 = .inr (0, [.ref 75, .int (nI 0), .int 0, .int 0, .int 0]) → h2 75 = .inl (0, 20, .inl fun _ => 0) → m_nx h2 = 76 → m_us h2 = m_us h + 12833 → Q none h2) : mT0 (d + 2) z_X9_init 0 (m_init z_X9_init [.ref 20]) [] h Q := by
  iterate 3 refine mT_s rfl rfl ?_
  refine mT_newoN (N := 21) rfl rfl hN rfl ?_
  refine mT_s rfl rfl ?_
  refine mT_c rfl rfl ?_
  refine x_roomInit21 _ (m_alN h 21 (.inr (7, m_new 7)) (m_new 7).length) _ rfl rfl (fun g0 f0 S0 n0 u0 => ?_)
  have o0 : g0 20 = .inr (9, [.null, .null, .null, .null, .null, .null, .null, .null, .null, .int 0]) := (f0 20 (by decide) (by decide)).trans hO
  (apply mT_putfE; (case hc => rfl); (case ha => first | rfl | assumption); (case hE => exact n0); (case hg => rfl))
  refine mT_s rfl rfl ?_
  refine mT_newoN (N := 31) rfl rfl (show m_nx (m_up g0 20 (.inr (9, [.ref 21, .null, .null, .null, .null, .null, .null, .null, .null, .int 0]))) = 31 from n0) rfl ?_
  refine mT_s rfl rfl ?_
  refine mT_c rfl rfl ?_
  refine x_roomInit31 _ (m_alN (m_up g0 20 (.inr (9, [.ref 21, .null, .null, .null, .null, .null, .null, .null, .null, .int 0]))) 31 (.inr (7, m_new 7)) (m_new 7).length) _ rfl rfl (fun g1 f1 S1 n1 u1 => ?_)
  have o1 : g1 20 = .inr (9, [.ref 21, .null, .null, .null, .null, .null, .null, .null, .null, .int 0]) := (f1 20 (by decide) (by decide)).trans rfl
  (apply mT_putfE; (case hc => rfl); (case ha => first | rfl | assumption); (case hE => exact n1); (case hg => rfl))
  refine mT_s rfl rfl ?_
  refine mT_newoN (N := 41) rfl rfl (show m_nx (m_up g1 20 (.inr (9, [.ref 21, .ref 31, .null, .null, .null, .null, .null, .null, .null, .int 0]))) = 41 from n1) rfl ?_
  refine mT_s rfl rfl ?_
  refine mT_c rfl rfl ?_
  refine x_roomInit41 _ (m_alN (m_up g1 20 (.inr (9, [.ref 21, .ref 31, .null, .null, .null, .null, .null, .null, .null, .int 0]))) 41 (.inr (7, m_new 7)) (m_new 7).length) _ rfl rfl (fun g2 f2 S2 n2 u2 => ?_)
  have o2 : g2 20 = .inr (9, [.ref 21, .ref 31, .null, .null, .null, .null, .null, .null, .null, .int 0]) := (f2 20 (by decide) (by decide)).trans rfl
  (apply mT_putfE; (case hc => rfl); (case ha => first | rfl | assumption); (case hE => exact n2); (case hg => rfl))
  refine mT_s rfl rfl ?_
  refine mT_newoN (N := 51) rfl rfl (show m_nx (m_up g2 20 (.inr (9, [.ref 21, .ref 31, .ref 41, .null, .null, .null, .null, .null, .null, .int 0]))) = 51 from n2) rfl ?_
  refine mT_s rfl rfl ?_
  refine mT_c rfl rfl ?_
  refine x_readerInit _ (m_alN (m_up g2 20 (.inr (9, [.ref 21, .ref 31, .ref 41, .null, .null, .null, .null, .null, .null, .int 0]))) 51 (.inr (6, m_new 6)) (m_new 6).length) _ rfl rfl (fun g3 f3 S3 n3 u3 => ?_)
  have o3 : g3 20 = .inr (9, [.ref 21, .ref 31, .ref 41, .null, .null, .null, .null, .null, .null, .int 0]) := (f3 20 (by decide) (by decide)).trans rfl
  (apply mT_putfE; (case hc => rfl); (case ha => first | rfl | assumption); (case hE => exact n3); (case hg => rfl))
  refine mT_s rfl rfl ?_
  refine mT_newoN (N := 53) rfl rfl (show m_nx (m_up g3 20 (.inr (9, [.ref 21, .ref 31, .ref 41, .ref 51, .null, .null, .null, .null, .null, .int 0]))) = 53 from n3) rfl ?_
  refine mT_s rfl rfl ?_
  refine mT_c rfl rfl ?_
  refine x_duelInit _ (m_alN (m_up g3 20 (.inr (9, [.ref 21, .ref 31, .ref 41, .ref 51, .null, .null, .null, .null, .null, .int 0]))) 53 (.inr (2, m_new 2)) (m_new 2).length) _ rfl rfl (fun g4 f4 S4 n4 u4 => ?_)
  have o4 : g4 20 = .inr (9, [.ref 21, .ref 31, .ref 41, .ref 51, .null, .null, .null, .null, .null, .int 0]) := (f4 20 (by decide) (by decide)).trans rfl
  (apply mT_putfE; (case hc => rfl); (case ha => first | rfl | assumption); (case hE => exact n4); (case hg => rfl))
  refine mT_s rfl rfl ?_
  refine mT_newoN (N := 62) rfl rfl (show m_nx (m_up g4 20 (.inr (9, [.ref 21, .ref 31, .ref 41, .ref 51, .ref 53, .null, .null, .null, .null, .int 0]))) = 62 from n4) rfl ?_
  refine mT_s rfl rfl ?_
  refine mT_c rfl rfl ?_
  refine x_purpInit _ (m_alN (m_up g4 20 (.inr (9, [.ref 21, .ref 31, .ref 41, .ref 51, .ref 53, .null, .null, .null, .null, .int 0]))) 62 (.inr (5, m_new 5)) (m_new 5).length) _ rfl rfl ?_
  obtain ⟨g5, eg5⟩ : ∃ z, z = (m_alN (m_up g4 20 (.inr (9, [.ref 21, .ref 31, .ref 41, .ref 51, .ref 53, .null, .null, .null, .null, .int 0]))) 62 (.inr (5, m_new 5)) (m_new 5).length) := ⟨_, rfl⟩
  rw [← eg5]
  have f5 : ∀ a, 2 ≤ a → a < 62 ∨ 87 ≤ a → g5 a = (m_alN (m_up g4 20 (.inr (9, [.ref 21, .ref 31, .ref 41, .ref 51, .ref 53, .null, .null, .null, .null, .int 0]))) 62 (.inr (5, m_new 5)) (m_new 5).length) a := fun a _ _ => by rw [eg5]
  have S5 : ∃ v1 : Value, ∃ v2 v3 : Int32, g5 62 = .inr (5, [v1, .int v2, .int v3]) := by rw [eg5]; exact ⟨_, _, _, rfl⟩
  have n5 : m_nx g5 = 63 := by rw [eg5]; rfl
  have u5 : m_us g5 = m_us (m_alN (m_up g4 20 (.inr (9, [.ref 21, .ref 31, .ref 41, .ref 51, .ref 53, .null, .null, .null, .null, .int 0]))) 62 (.inr (5, m_new 5)) (m_new 5).length) + 0 := by rw [eg5]; rfl
  have o5 : g5 20 = .inr (9, [.ref 21, .ref 31, .ref 41, .ref 51, .ref 53, .null, .null, .null, .null, .int 0]) := (f5 20 (by decide) (by decide)).trans rfl
  (apply mT_putfE; (case hc => rfl); (case ha => first | rfl | assumption); (case hE => exact n5); (case hg => rfl))
  refine mT_s rfl rfl ?_
  refine mT_newoN (N := 63) rfl rfl (show m_nx (m_up g5 20 (.inr (9, [.ref 21, .ref 31, .ref 41, .ref 51, .ref 53, .ref 62, .null, .null, .null, .int 0]))) = 63 from n5) rfl ?_
  refine mT_s rfl rfl ?_
  refine mT_c rfl rfl ?_
  refine x_ordersInit _ (m_alN (m_up g5 20 (.inr (9, [.ref 21, .ref 31, .ref 41, .ref 51, .ref 53, .ref 62, .null, .null, .null, .int 0]))) 63 (.inr (4, m_new 4)) (m_new 4).length) _ rfl rfl (fun g6 f6 S6 n6 u6 => ?_)
  have o6 : g6 20 = .inr (9, [.ref 21, .ref 31, .ref 41, .ref 51, .ref 53, .ref 62, .null, .null, .null, .int 0]) := (f6 20 (by decide) (by decide)).trans rfl
  (apply mT_putfE; (case hc => rfl); (case ha => first | rfl | assumption); (case hE => exact n6); (case hg => rfl))
  refine mT_s rfl rfl ?_
  refine mT_newoN (N := 72) rfl rfl (show m_nx (m_up g6 20 (.inr (9, [.ref 21, .ref 31, .ref 41, .ref 51, .ref 53, .ref 62, .ref 63, .null, .null, .int 0]))) = 72 from n6) rfl ?_
  refine mT_s rfl rfl ?_
  refine mT_c rfl rfl ?_
  refine x_seatsInit _ (m_alN (m_up g6 20 (.inr (9, [.ref 21, .ref 31, .ref 41, .ref 51, .ref 53, .ref 62, .ref 63, .null, .null, .int 0]))) 72 (.inr (8, m_new 8)) (m_new 8).length) _ rfl rfl (fun g7 f7 S7 n7 u7 => ?_)
  have o7 : g7 20 = .inr (9, [.ref 21, .ref 31, .ref 41, .ref 51, .ref 53, .ref 62, .ref 63, .null, .null, .int 0]) := (f7 20 (by decide) (by decide)).trans rfl
  (apply mT_putfE; (case hc => rfl); (case ha => first | rfl | assumption); (case hE => exact n7); (case hg => rfl))
  refine mT_s rfl rfl ?_
  refine mT_newoN (N := 74) rfl rfl (show m_nx (m_up g7 20 (.inr (9, [.ref 21, .ref 31, .ref 41, .ref 51, .ref 53, .ref 62, .ref 63, .ref 72, .null, .int 0]))) = 74 from n7) rfl ?_
  refine mT_s rfl rfl ?_
  refine mT_c rfl rfl ?_
  refine x_actsInit _ (m_alN (m_up g7 20 (.inr (9, [.ref 21, .ref 31, .ref 41, .ref 51, .ref 53, .ref 62, .ref 63, .ref 72, .null, .int 0]))) 74 (.inr (0, m_new 0)) (m_new 0).length) _ rfl rfl (fun g8 f8 S8 n8 u8 => ?_)
  have o8 : g8 20 = .inr (9, [.ref 21, .ref 31, .ref 41, .ref 51, .ref 53, .ref 62, .ref 63, .ref 72, .null, .int 0]) := (f8 20 (by decide) (by decide)).trans rfl
  (apply mT_putfE; (case hc => rfl); (case ha => first | rfl | assumption); (case hE => exact n8); (case hg => rfl))
  refine mT_ret rfl rfl ?_
  have z9 : ∀ a, 20 < a → (m_up g8 20 (.inr (9, [.ref 21, .ref 31, .ref 41, .ref 51, .ref 53, .ref 62, .ref 63, .ref 72, .ref 74, .int 0]))) a = g8 a := fun a z => m_up_n (show a ≠ 20 by omega)
  have z8 : ∀ a, 20 < a → a < 74 → (m_up g8 20 (.inr (9, [.ref 21, .ref 31, .ref 41, .ref 51, .ref 53, .ref 62, .ref 63, .ref 72, .ref 74, .int 0]))) a = g7 a := fun a y1 y2 => (z9 a y1).trans ((f8 a (by omega) (by omega)).trans ((m_alN_o (by omega) (by omega) (by omega)).trans (m_up_n (show a ≠ 20 by omega))))
  have z7 : ∀ a, 20 < a → a < 72 → (m_up g8 20 (.inr (9, [.ref 21, .ref 31, .ref 41, .ref 51, .ref 53, .ref 62, .ref 63, .ref 72, .ref 74, .int 0]))) a = g6 a := fun a y1 y2 => (z8 a y1 (by omega)).trans ((f7 a (by omega) (by omega)).trans ((m_alN_o (by omega) (by omega) (by omega)).trans (m_up_n (show a ≠ 20 by omega))))
  have z6 : ∀ a, 20 < a → a < 63 → (m_up g8 20 (.inr (9, [.ref 21, .ref 31, .ref 41, .ref 51, .ref 53, .ref 62, .ref 63, .ref 72, .ref 74, .int 0]))) a = g5 a := fun a y1 y2 => (z7 a y1 (by omega)).trans ((f6 a (by omega) (by omega)).trans ((m_alN_o (by omega) (by omega) (by omega)).trans (m_up_n (show a ≠ 20 by omega))))
  have z5 : ∀ a, 20 < a → a < 62 → (m_up g8 20 (.inr (9, [.ref 21, .ref 31, .ref 41, .ref 51, .ref 53, .ref 62, .ref 63, .ref 72, .ref 74, .int 0]))) a = g4 a := fun a y1 y2 => (z6 a y1 (by omega)).trans ((f5 a (by omega) (by omega)).trans ((m_alN_o (by omega) (by omega) (by omega)).trans (m_up_n (show a ≠ 20 by omega))))
  have z4 : ∀ a, 20 < a → a < 53 → (m_up g8 20 (.inr (9, [.ref 21, .ref 31, .ref 41, .ref 51, .ref 53, .ref 62, .ref 63, .ref 72, .ref 74, .int 0]))) a = g3 a := fun a y1 y2 => (z5 a y1 (by omega)).trans ((f4 a (by omega) (by omega)).trans ((m_alN_o (by omega) (by omega) (by omega)).trans (m_up_n (show a ≠ 20 by omega))))
  have z3 : ∀ a, 20 < a → a < 51 → (m_up g8 20 (.inr (9, [.ref 21, .ref 31, .ref 41, .ref 51, .ref 53, .ref 62, .ref 63, .ref 72, .ref 74, .int 0]))) a = g2 a := fun a y1 y2 => (z4 a y1 (by omega)).trans ((f3 a (by omega) (by omega)).trans ((m_alN_o (by omega) (by omega) (by omega)).trans (m_up_n (show a ≠ 20 by omega))))
  have z2 : ∀ a, 20 < a → a < 41 → (m_up g8 20 (.inr (9, [.ref 21, .ref 31, .ref 41, .ref 51, .ref 53, .ref 62, .ref 63, .ref 72, .ref 74, .int 0]))) a = g1 a := fun a y1 y2 => (z3 a y1 (by omega)).trans ((f2 a (by omega) (by omega)).trans ((m_alN_o (by omega) (by omega) (by omega)).trans (m_up_n (show a ≠ 20 by omega))))
  have z1 : ∀ a, 20 < a → a < 31 → (m_up g8 20 (.inr (9, [.ref 21, .ref 31, .ref 41, .ref 51, .ref 53, .ref 62, .ref 63, .ref 72, .ref 74, .int 0]))) a = g0 a := fun a y1 y2 => (z2 a y1 (by omega)).trans ((f1 a (by omega) (by omega)).trans ((m_alN_o (by omega) (by omega) (by omega)).trans (m_up_n (show a ≠ 20 by omega))))
  have uu : m_us (m_up g8 20 (.inr (9, [.ref 21, .ref 31, .ref 41, .ref 51, .ref 53, .ref 62, .ref 63, .ref 72, .ref 74, .int 0]))) = m_us h + 12833 := by
    show m_us g8 = _
    rw [u8]
    show m_us g7 + 5 + 20 = _
    rw [u7]
    show m_us g6 + 4 + 13 + 5 + 20 = _
    rw [u6]
    show m_us g5 + 7 + 118 + 4 + 13 + 5 + 20 = _
    rw [u5]
    show m_us g4 + 3 + 0 + 7 + 118 + 4 + 13 + 5 + 20 = _
    rw [u4]
    show m_us g3 + 8 + 12008 + 3 + 0 + 7 + 118 + 4 + 13 + 5 + 20 = _
    rw [u3]
    show m_us g2 + 7 + 100 + 8 + 12008 + 3 + 0 + 7 + 118 + 4 + 13 + 5 + 20 = _
    rw [u2]
    show m_us g1 + 16 + 164 + 7 + 100 + 8 + 12008 + 3 + 0 + 7 + 118 + 4 + 13 + 5 + 20 = _
    rw [u1]
    show m_us g0 + 16 + 164 + 16 + 164 + 7 + 100 + 8 + 12008 + 3 + 0 + 7 + 118 + 4 + 13 + 5 + 20 = _
    rw [u0]
    show m_us h + 16 + 164 + 16 + 164 + 16 + 164 + 7 + 100 + 8 + 12008 + 3 + 0 + 7 + 118 + 4 + 13 + 5 + 20 = _
    omega
  refine K _ (fun a a2 a3 => ?_) rfl ⟨(z1 21 (by decide) (by decide)).trans S0.1, (z1 22 (by decide) (by decide)).trans S0.2.1, (z1 23 (by decide) (by decide)).trans S0.2.2.1, (z1 24 (by decide) (by decide)).trans S0.2.2.2.1, (z1 25 (by decide) (by decide)).trans S0.2.2.2.2.1, (z1 26 (by decide) (by decide)).trans S0.2.2.2.2.2.1, (z1 27 (by decide) (by decide)).trans S0.2.2.2.2.2.2.1, (z1 28 (by decide) (by decide)).trans S0.2.2.2.2.2.2.2.1, (z1 29 (by decide) (by decide)).trans S0.2.2.2.2.2.2.2.2.1, (z1 30 (by decide) (by decide)).trans S0.2.2.2.2.2.2.2.2.2⟩ ⟨(z2 31 (by decide) (by decide)).trans S1.1, (z2 32 (by decide) (by decide)).trans S1.2.1, (z2 33 (by decide) (by decide)).trans S1.2.2.1, (z2 34 (by decide) (by decide)).trans S1.2.2.2.1, (z2 35 (by decide) (by decide)).trans S1.2.2.2.2.1, (z2 36 (by decide) (by decide)).trans S1.2.2.2.2.2.1, (z2 37 (by decide) (by decide)).trans S1.2.2.2.2.2.2.1, (z2 38 (by decide) (by decide)).trans S1.2.2.2.2.2.2.2.1, (z2 39 (by decide) (by decide)).trans S1.2.2.2.2.2.2.2.2.1, (z2 40 (by decide) (by decide)).trans S1.2.2.2.2.2.2.2.2.2⟩ ⟨(z3 41 (by decide) (by decide)).trans S2.1, (z3 42 (by decide) (by decide)).trans S2.2.1, (z3 43 (by decide) (by decide)).trans S2.2.2.1, (z3 44 (by decide) (by decide)).trans S2.2.2.2.1, (z3 45 (by decide) (by decide)).trans S2.2.2.2.2.1, (z3 46 (by decide) (by decide)).trans S2.2.2.2.2.2.1, (z3 47 (by decide) (by decide)).trans S2.2.2.2.2.2.2.1, (z3 48 (by decide) (by decide)).trans S2.2.2.2.2.2.2.2.1, (z3 49 (by decide) (by decide)).trans S2.2.2.2.2.2.2.2.2.1, (z3 50 (by decide) (by decide)).trans S2.2.2.2.2.2.2.2.2.2⟩ ?_ ?_ ?_ ?_ ?_ ?_ ((z9 74 (by decide)).trans S8.1) ((z9 75 (by decide)).trans S8.2) n8 uu
  · refine (m_up_n (show a ≠ 20 by omega)).trans ((f8 a a2 (by omega)).trans ((m_alN_o (by omega) (by omega) (by omega)).trans ?_))
    refine (m_up_n (show a ≠ 20 by omega)).trans ((f7 a a2 (by omega)).trans ((m_alN_o (by omega) (by omega) (by omega)).trans ?_))
    refine (m_up_n (show a ≠ 20 by omega)).trans ((f6 a a2 (by omega)).trans ((m_alN_o (by omega) (by omega) (by omega)).trans ?_))
    refine (m_up_n (show a ≠ 20 by omega)).trans ((f5 a a2 (by omega)).trans ((m_alN_o (by omega) (by omega) (by omega)).trans ?_))
    refine (m_up_n (show a ≠ 20 by omega)).trans ((f4 a a2 (by omega)).trans ((m_alN_o (by omega) (by omega) (by omega)).trans ?_))
    refine (m_up_n (show a ≠ 20 by omega)).trans ((f3 a a2 (by omega)).trans ((m_alN_o (by omega) (by omega) (by omega)).trans ?_))
    refine (m_up_n (show a ≠ 20 by omega)).trans ((f2 a a2 (by omega)).trans ((m_alN_o (by omega) (by omega) (by omega)).trans ?_))
    refine (m_up_n (show a ≠ 20 by omega)).trans ((f1 a a2 (by omega)).trans ((m_alN_o (by omega) (by omega) (by omega)).trans ?_))
    exact (m_up_n (show a ≠ 20 by omega)).trans ((f0 a a2 (by omega)).trans (m_alN_o (by omega) (by omega) (by omega)))
  · exact S3.c (fun a z1 z2 => z4 a (by omega) (by omega))
  · exact S4.c (fun a z1 z2 => z5 a (by omega) (by omega))
  · obtain ⟨w1, w2, w3, w⟩ := S5
    exact ⟨w1, w2, w3, (z6 62 (by decide) (by decide)).trans w⟩
  · exact S6.c (fun a z1 z2 => z7 a (by omega) (by omega))
  · obtain ⟨⟨w1, w2, w3, w⟩, -⟩ := S7
    exact ⟨w1, w2, w3, (z8 72 (by decide) (by decide)).trans w⟩
  · obtain ⟨-, ⟨wf, w⟩⟩ := S7
    exact ⟨wf, (z8 73 (by decide) (by decide)).trans w⟩