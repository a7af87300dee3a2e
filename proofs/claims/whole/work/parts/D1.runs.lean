/-! The law's walk, whole. -/
theorem law_c {L i : Nat} (hL : L ≤ 3072) (hi : i ≤ 4000) : nI L - 6 < nI i ↔ L < i + 6 := by
  rw [Int32.lt_iff_toInt_lt, show (6 : Int32) = nI 6 from rfl, pk_sub_toInt (by omega) (by omega), nI_toInt (by omega)]
  omega
theorem nI_add6 (i : Nat) : nI i + 6 = nI (i + 6) := by
  show nI i + nI 6 = nI (i + 6)
  simp only [nI_add]
theorem k_L (d L : Nat) (xs : Nat → Int32) (hL : L ≤ 3072) (Q : Option Value → mH → Prop) (K : ∀ h2, m_nx h2 ≤ 600020 → m_us h2 ≤ 7302350 → Q (some (.int 1)) h2) : ∀ (r i B U : Nat) (h : mH), L < i + 6 * (r + 1) → i ≤ L + 6 → WW L xs B U h → B + 2 * r ≤ 600020 → U + 103 * r ≤ 7302350 → mT0 (d + 31) z_L_law 18 [some (.ref 2), some (.ref 20), some (.ref 76), some (.int (nI i))] [] h Q := by
  intro r
  induction r with
  | zero =>
    intro i B U h hr hi W hB hU
    obtain ⟨it, s, s2, tr, c9, l, le, mo, nb, bA, bB, bW, W9⟩ := W
    obtain ⟨e2, e20⟩ := W9.r
    have nx := W9.2.2.2.2.2.2.1
    have us := W9.2.2.2.2.2.2.2
    iterate 2 refine mT_s rfl rfl ?_
    (apply mT_alen; (case hc => rfl); (case ha => first | rfl | assumption))
    iterate 2 refine mT_s rfl rfl ?_
    refine mT_icmp_gt rfl (fun _ => ?_) (fun c => absurd ((law_c hL (by omega)).mpr (by omega)) c)
    refine mT_s rfl rfl ?_
    refine mT_ret rfl rfl ?_
    exact K h (by omega) (by omega)
  | succ r ih =>
    intro i B U h hr hi W hB hU
    obtain ⟨it, s, s2, tr, c9, l, le, mo, nb, bA, bB, bW, W9⟩ := id W
    obtain ⟨e2, e20⟩ := W9.r
    have nx := W9.2.2.2.2.2.2.1
    have us := W9.2.2.2.2.2.2.2
    iterate 2 refine mT_s rfl rfl ?_
    (apply mT_alen; (case hc => rfl); (case ha => first | rfl | assumption))
    iterate 2 refine mT_s rfl rfl ?_
    refine mT_icmp_gt rfl (fun _ => ?_) (fun c => ?_)
    · refine mT_s rfl rfl ?_
      refine mT_ret rfl rfl ?_
      exact K h (by omega) (by omega)
    · have hi5 : i + 5 < L := by
        rcases Nat.lt_or_ge (i + 5) L with z | z
        · exact z
        · exact absurd ((law_c hL (by omega)).mpr (by omega)) c
      have K' : ∀ h2, WW L xs (B + 2) (U + 103) h2 → mT0 (d + 31) z_L_law 1332 [some (.ref 2), some (.ref 20), some (.ref 76), some (.int (nI i))] [] h2 Q := fun h2 W2 => by
        iterate 2 refine mT_s rfl rfl ?_
        rw [nI_add6]
        exact ih (i + 6) (B + 2) (U + 103) h2 (by omega) (by omega) W2 (by omega) (by omega)
      iterate 2 refine mT_s rfl rfl ?_
      (apply mT_ialdK; (case hc => rfl); (case ha => first | rfl | assumption); (case hk => first | (simp only [ki_0, ki_1, ki_2, ki_3, ki_4, ki_5, ki_6, ki_7, ki_8, ki_9, ki_10, ki_11, ki_12, ki_17, ki_20, ki_21, ki_22, ki_42, ki_50, ki_58, ki_66, ki_74, ki_140, ki_174, ki_179, ki_184, ki_189, ki_441, ki_13, nI_add, pk_mul]; with_reducible rfl) | (simp only [ki_0, ki_1, ki_2, ki_3, ki_4, ki_5, ki_6, ki_7, ki_8, ki_9, ki_10, ki_11, ki_12, ki_17, ki_20, ki_21, ki_22, ki_42, ki_50, ki_58, ki_66, ki_74, ki_140, ki_174, ki_179, ki_184, ki_189, ki_441, ki_13, ix1, nI_add, pk_mul]; with_reducible rfl) | (simp only [ki_0, ki_1, ki_2, ki_3, ki_4, ki_5, ki_6, ki_7, ki_8, ki_9, ki_10, ki_11, ki_12, ki_17, ki_20, ki_21, ki_22, ki_42, ki_50, ki_58, ki_66, ki_74, ki_140, ki_174, ki_179, ki_184, ki_189, ki_441, ki_13, ix1, ix2, nI_add, pk_mul]; with_reducible rfl) | (simp only [ki_0, ki_1, ki_2, ki_3, ki_4, ki_5, ki_6, ki_7, ki_8, ki_9, ki_10, ki_11, ki_12, ki_17, ki_20, ki_21, ki_22, ki_42, ki_50, ki_58, ki_66, ki_74, ki_140, ki_174, ki_179, ki_184, ki_189, ki_441, ki_13, ix1, ix2, ix3, nI_add, pk_mul]; with_reducible rfl) | (simp (disch := omega) only [upd_n, ki_0, ki_1, ki_2, ki_3, ki_4, ki_5, ki_6, ki_7, ki_8, ki_9, ki_10, ki_11, ki_12, ki_17, ki_20, ki_21, ki_22, ki_42, ki_50, ki_58, ki_66, ki_74, ki_140, ki_174, ki_179, ki_184, ki_189, ki_441, ki_13, ix1, nI_add, pk_mul]; with_reducible rfl) | (simp (disch := omega) only [upd_n, ki_0, ki_1, ki_2, ki_3, ki_4, ki_5, ki_6, ki_7, ki_8, ki_9, ki_10, ki_11, ki_12, ki_17, ki_20, ki_21, ki_22, ki_42, ki_50, ki_58, ki_66, ki_74, ki_140, ki_174, ki_179, ki_184, ki_189, ki_441, ki_13, ix1, ix2, nI_add, pk_mul]; with_reducible rfl) | rfl); (case hlt => first | decide | omega); (case hn => first | decide | omega))
      iterate 2 refine mT_s rfl rfl ?_
      obtain ⟨k, hk, ek⟩ := pk_andE (xs i) (m := 31) 5 rfl
      refine mT_tswc (v := 0) (t := 176) rfl rfl rfl (fun _ => k_m_feed d L xs B U h i hi5 hL W Q K') (fun n0 => ?_)
      refine mT_tswc (v := 1) (t := 199) rfl rfl rfl (fun _ => k_m_inn d L xs B U h i hi5 hL W Q K') (fun n1 => ?_)
      refine mT_tswc (v := 2) (t := 212) rfl rfl rfl (fun _ => k_m_player d L xs B U h i hi5 hL W Q K') (fun n2 => ?_)
      refine mT_tswc (v := 3) (t := 245) rfl rfl rfl (fun _ => k_m_of d L xs B U h i hi5 hL W Q K') (fun n3 => ?_)
      refine mT_tswc (v := 4) (t := 278) rfl rfl rfl (fun _ => k_m_men d L xs B U h i hi5 hL W Q K') (fun n4 => ?_)
      refine mT_tswc (v := 5) (t := 311) rfl rfl rfl (fun _ => k_m_row d L xs B U h i hi5 hL W Q K') (fun n5 => ?_)
      refine mT_tswc (v := 6) (t := 354) rfl rfl rfl (fun _ => k_m_told d L xs B U h i hi5 hL W Q K') (fun n6 => ?_)
      refine mT_tswc (v := 7) (t := 377) rfl rfl rfl (fun _ => k_m_push d L xs B U h i hi5 hL W Q K') (fun n7 => ?_)
      refine mT_tswc (v := 8) (t := 410) rfl rfl rfl (fun _ => k_m_odds d L xs B U h i hi5 hL W Q K') (fun n8 => ?_)
      refine mT_tswc (v := 9) (t := 443) rfl rfl rfl (fun _ => k_m_play d L xs B U h i hi5 hL W Q K') (fun n9 => ?_)
      refine mT_tswc (v := 10) (t := 502) rfl rfl rfl (fun _ => k_m_wins d L xs B U h i hi5 hL W Q K') (fun n10 => ?_)
      refine mT_tswc (v := 11) (t := 566) rfl rfl rfl (fun _ => k_m_mean d L xs B U h i hi5 hL W Q K') (fun n11 => ?_)
      refine mT_tswc (v := 12) (t := 620) rfl rfl rfl (fun _ => k_m_series d L xs B U h i hi5 hL W Q K') (fun n12 => ?_)
      refine mT_tswc (v := 13) (t := 674) rfl rfl rfl (fun _ => k_m_ends d L xs B U h i hi5 hL W Q K') (fun n13 => ?_)
      refine mT_tswc (v := 14) (t := 728) rfl rfl rfl (fun _ => k_m_even d L xs B U h i hi5 hL W Q K') (fun n14 => ?_)
      refine mT_tswc (v := 15) (t := 761) rfl rfl rfl (fun _ => k_m_purpose d L xs B U h i hi5 hL W Q K') (fun n15 => ?_)
      refine mT_tswc (v := 16) (t := 815) rfl rfl rfl (fun _ => k_m_loses d L xs B U h i hi5 hL W Q K') (fun n16 => ?_)
      refine mT_tswc (v := 17) (t := 858) rfl rfl rfl (fun _ => k_m_order d L xs B U h i hi5 hL W Q K') (fun n17 => ?_)
      refine mT_tswc (v := 18) (t := 901) rfl rfl rfl (fun _ => k_m_orderMean d L xs B U h i hi5 hL W Q K') (fun n18 => ?_)
      refine mT_tswc (v := 19) (t := 945) rfl rfl rfl (fun _ => k_m_stakes d L xs B U h i hi5 hL W Q K') (fun n19 => ?_)
      refine mT_tswc (v := 20) (t := 999) rfl rfl rfl (fun _ => k_m_table d L xs B U h i hi5 hL W Q K') (fun n20 => ?_)
      refine mT_tswc (v := 21) (t := 1043) rfl rfl rfl (fun _ => k_m_book d L xs B U h i hi5 hL W Q K') (fun n21 => ?_)
      refine mT_tswc (v := 22) (t := 1102) rfl rfl rfl (fun _ => k_m_likely d L xs B U h i hi5 hL W Q K') (fun n22 => ?_)
      refine mT_tswc (v := 23) (t := 1125) rfl rfl rfl (fun _ => k_m_says d L xs B U h i hi5 hL W Q K') (fun n23 => ?_)
      refine mT_tswc (v := 24) (t := 1148) rfl rfl rfl (fun _ => k_m_tale d L xs B U h i hi5 hL W Q K') (fun n24 => ?_)
      refine mT_tswc (v := 25) (t := 1171) rfl rfl rfl (fun _ => k_m_looked d L xs B U h i hi5 hL W Q K') (fun n25 => ?_)
      refine mT_tswc (v := 26) (t := 1184) rfl rfl rfl (fun _ => k_m_act d L xs B U h i hi5 hL W Q K') (fun n26 => ?_)
      refine mT_tswc (v := 27) (t := 1227) rfl rfl rfl (fun _ => k_m_trace d L xs B U h i hi5 hL W Q K') (fun n27 => ?_)
      refine mT_tswc (v := 28) (t := 1250) rfl rfl rfl (fun _ => k_m_as d L xs B U h i hi5 hL W Q K') (fun n28 => ?_)
      refine mT_tswc (v := 29) (t := 1283) rfl rfl rfl (fun _ => k_m_image d L xs B U h i hi5 hL W Q K') (fun n29 => ?_)
      refine mT_tswc (v := 30) (t := 1296) rfl rfl rfl (fun _ => k_m_undo d L xs B U h i hi5 hL W Q K') (fun n30 => ?_)
      refine mT_tswc (v := 31) (t := 1309) rfl rfl rfl (fun _ => k_m_count d L xs B U h i hi5 hL W Q K') (fun n31 => ?_)
      exfalso
      rcases (show k = 0 ∨ k = 1 ∨ k = 2 ∨ k = 3 ∨ k = 4 ∨ k = 5 ∨ k = 6 ∨ k = 7 ∨ k = 8 ∨ k = 9 ∨ k = 10 ∨ k = 11 ∨ k = 12 ∨ k = 13 ∨ k = 14 ∨ k = 15 ∨ k = 16 ∨ k = 17 ∨ k = 18 ∨ k = 19 ∨ k = 20 ∨ k = 21 ∨ k = 22 ∨ k = 23 ∨ k = 24 ∨ k = 25 ∨ k = 26 ∨ k = 27 ∨ k = 28 ∨ k = 29 ∨ k = 30 ∨ k = 31 by omega) with rfl | rfl | rfl | rfl | rfl | rfl | rfl | rfl | rfl | rfl | rfl | rfl | rfl | rfl | rfl | rfl | rfl | rfl | rfl | rfl | rfl | rfl | rfl | rfl | rfl | rfl | rfl | rfl | rfl | rfl | rfl | rfl
      · exact n0 ek
      · exact n1 ek
      · exact n2 ek
      · exact n3 ek
      · exact n4 ek
      · exact n5 ek
      · exact n6 ek
      · exact n7 ek
      · exact n8 ek
      · exact n9 ek
      · exact n10 ek
      · exact n11 ek
      · exact n12 ek
      · exact n13 ek
      · exact n14 ek
      · exact n15 ek
      · exact n16 ek
      · exact n17 ek
      · exact n18 ek
      · exact n19 ek
      · exact n20 ek
      · exact n21 ek
      · exact n22 ek
      · exact n23 ek
      · exact n24 ek
      · exact n25 ek
      · exact n26 ek
      · exact n27 ek
      · exact n28 ek
      · exact n29 ek
      · exact n30 ek
      · exact n31 ek
theorem k_h0_c (L : Nat) (xs : Nat → Int32) {a : Nat} (ha : 2 ≤ a) : k_h0 L xs a = k_hc L xs a := by
  obtain ⟨z, rfl⟩ : ∃ z, a = z + 2 := ⟨a - 2, by omega⟩
  rfl
theorem k_hc_t (L : Nat) (xs : Nat → Int32) {a : Nat} (ha : 19 ≤ a) : k_hc L xs a = .inr (99, []) := by
  obtain ⟨z, rfl⟩ : ∃ z, a = z + 19 := ⟨a - 19, by omega⟩
  rfl
theorem SV_0 : SV (upd (fun _ => 0) 11 (-1)) [] 1 1 0 (fun _ => 0) (fun _ => 0) (fun _ => false) := by
  have z : ∀ j, j ≠ 11 → upd (fun _ => (0 : Int32)) 11 (-1) j = nI 0 := fun j hj => upd_n _ _ hj
  have e : upd (fun _ => (0 : Int32)) 11 (-1) 11 = -1 := upd_s _ _ _
  have t : ∀ w, f_tells (upd (fun _ => (0 : Int32)) 11 (-1)) w = nI 1 := fun w => by
    unfold f_tells
    rw [if_pos e]
    rfl
  exact ⟨⟨⟨0, by omega, z 6 (by decide)⟩, ⟨0, by omega, z 7 (by decide)⟩, ⟨0, by omega, z 8 (by decide)⟩, ⟨0, by omega, z 9 (by decide)⟩, ⟨0, by omega, z 10 (by decide)⟩, ⟨0, by omega, z 0 (by decide)⟩, Or.inl e⟩, ⟨⟨rfl, Nat.zero_le _, Or.inl ⟨e, rfl⟩⟩, Or.inl e, ⟨t _, by decide⟩, ⟨t _, by decide⟩⟩, ⟨z 8 (by decide), by omega, fun k hk => absurd hk (Nat.not_lt_zero k)⟩, ⟨0, fun _ => 0, z 9 (by decide), by omega, fun k hk => absurd hk (Nat.not_lt_zero k)⟩, ⟨0, fun _ => 0, 0, z 6 (by decide), by omega, fun j _ => Nat.zero_le _, fun j hj => absurd hj (Nat.not_lt_zero j), s_at_id (fun j hj => z _ (by omega)) (z 0 (by decide)), by omega⟩, fun j hj => ⟨by rw [z _ (by omega)]; exact sm_n (Nat.zero_le _), fun i hi => by rw [z _ (by omega)]; exact sm_n (Nat.zero_le _)⟩, fun j hj => ⟨0, by omega, z _ (by omega)⟩, Or.inl e⟩
theorem k_runs : k_Runs := by
  intro L xs hL
  refine mT_newoN (N := 20) rfl rfl rfl rfl ?_
  refine mT_s rfl rfl ?_
  refine mT_c rfl rfl ?_
  refine x_fewerInit 37 (m_alN (k_h0 L xs) 20 (.inr (9, m_new 9)) (m_new 9).length) _ rfl rfl (fun h2 f2 e20 R21 R31 R41 eRd eDu e62 eOr e72 e73 e74 e75 n2 u2 => ?_)
  refine mT_s rfl rfl ?_
  refine mT_newoN (N := 76) rfl rfl n2 rfl ?_
  refine mT_s rfl rfl ?_
  refine mT_c rfl rfl ?_
  refine x_modelInit 39 (m_alN h2 76 (.inr (10, m_new 10)) (m_new 10).length) _ rfl rfl (fun h3 f3 e76 e77 e78 e79 e80 e81 e82 e83 e84 e85 e86 n3 u3 => ?_)
  iterate 3 refine mT_s rfl rfl ?_
  have g : ∀ a, 2 ≤ a → a < 76 ∨ 87 ≤ a → h3 a = h2 a := fun a a1 a2 => (f3 a a1 a2).trans (m_alN_o (by omega) (by omega) (by omega))
  have g2 : ∀ a, 2 ≤ a → a < 20 ∨ 87 ≤ a → h3 a = k_hc L xs a := fun a a1 a2 => (g a a1 (by omega)).trans ((f2 a a1 a2).trans ((m_alN_o (by omega) (by omega) (by omega)).trans (k_h0_c L xs a1)))
  have us : m_us h3 = 26314 := by
    rw [u3]
    have u0 : m_us (m_alN (k_h0 L xs) 20 (.inr (9, m_new 9)) (m_new 9).length) = 110 := rfl
    have u1 : m_us (m_alN h2 76 (.inr (10, m_new 10)) (m_new 10).length) = m_us h2 + 24 := rfl
    rw [u1, u2, u0]
  have W : WP L xs 87 26314 0 (upd (fun _ => 0) 11 (-1)) (fun _ => 0) (fun _ => 0) 0 [] 1 1 0 (fun _ => 0) (fun _ => 0) (fun _ => false) h3 := by
    refine ⟨by decide, SV_0, ⟨fun _ => 0, .null, ?_⟩, ?_, ?_, ⟨fun a a1 a2 => g2 a a1 (Or.inl a2), by rw [n3]; exact Nat.le_refl _, fun a ha => ?_⟩, by rw [n3]; exact Nat.le_refl _, by rw [us]; exact Nat.le_refl _⟩
    · exact ⟨⟨(g 21 (by decide) (by decide)).trans R21.1, by rw [n3]; exact Nat.le_refl _, Or.inl ⟨rfl, rfl, rfl, rfl⟩, rfl, ⟨_, (g 22 (by decide) (by decide)).trans R21.2.1, fun j hj => (upd_n (fun _ => (0 : Int32)) (-1) (show 12 + j ≠ 11 by omega)).symm⟩, ⟨_, (g 23 (by decide) (by decide)).trans R21.2.2.1, fun j hj => (upd_n (fun _ => (0 : Int32)) (-1) (show 17 + j ≠ 11 by omega)).symm⟩, ⟨_, (g 25 (by decide) (by decide)).trans R21.2.2.2.2.1, fun j hj => (upd_n (fun _ => (0 : Int32)) (-1) (show 22 + j ≠ 11 by omega)).symm⟩, ⟨_, (g 30 (by decide) (by decide)).trans R21.2.2.2.2.2.2.2.2.2⟩⟩, ⟨_, (g 24 (by decide) (by decide)).trans R21.2.2.2.1, fun j hj => (upd_n (fun _ => (0 : Int32)) (-1) (show 1 + j ≠ 11 by omega)).symm⟩, ⟨_, (g 26 (by decide) (by decide)).trans R21.2.2.2.2.2.1, fun j hj => (upd_n (fun _ => (0 : Int32)) (-1) (show 74 + j ≠ 11 by omega)).symm⟩, ⟨_, (g 29 (by decide) (by decide)).trans R21.2.2.2.2.2.2.2.2.1, fun j hj => (upd_n (fun _ => (0 : Int32)) (-1) (show 66 + j ≠ 11 by omega)).symm⟩, ⟨_, (g 27 (by decide) (by decide)).trans R21.2.2.2.2.2.2.1, fun k hk => absurd hk (Nat.not_lt_zero k)⟩, ⟨_, (g 28 (by decide) (by decide)).trans R21.2.2.2.2.2.2.2.1, fun k hk => absurd hk (Nat.not_lt_zero k)⟩, rfl, rfl, rfl, rfl, rfl, rfl⟩
    · refine ⟨(g 20 (by decide) (by decide)).trans e20, ⟨⟨_, _, (g 31 (by decide) (by decide)).trans R31.1⟩, ⟨_, (g 32 (by decide) (by decide)).trans R31.2.1⟩, ⟨_, (g 33 (by decide) (by decide)).trans R31.2.2.1⟩, ⟨_, (g 34 (by decide) (by decide)).trans R31.2.2.2.1⟩, ⟨_, (g 35 (by decide) (by decide)).trans R31.2.2.2.2.1⟩, ⟨_, (g 36 (by decide) (by decide)).trans R31.2.2.2.2.2.1⟩, ⟨_, (g 37 (by decide) (by decide)).trans R31.2.2.2.2.2.2.1⟩, ⟨_, (g 38 (by decide) (by decide)).trans R31.2.2.2.2.2.2.2.1⟩, ⟨_, (g 39 (by decide) (by decide)).trans R31.2.2.2.2.2.2.2.2.1⟩, ⟨_, (g 40 (by decide) (by decide)).trans R31.2.2.2.2.2.2.2.2.2⟩⟩, fun z => absurd rfl z, ⟨⟨_, _, (g 41 (by decide) (by decide)).trans R41.1⟩, ⟨_, (g 42 (by decide) (by decide)).trans R41.2.1⟩, ⟨_, (g 43 (by decide) (by decide)).trans R41.2.2.1⟩, ⟨_, (g 44 (by decide) (by decide)).trans R41.2.2.2.1⟩, ⟨_, (g 45 (by decide) (by decide)).trans R41.2.2.2.2.1⟩, ⟨_, (g 46 (by decide) (by decide)).trans R41.2.2.2.2.2.1⟩, ⟨_, (g 47 (by decide) (by decide)).trans R41.2.2.2.2.2.2.1⟩, ⟨_, (g 48 (by decide) (by decide)).trans R41.2.2.2.2.2.2.2.1⟩, ⟨_, (g 49 (by decide) (by decide)).trans R41.2.2.2.2.2.2.2.2.1⟩, ⟨_, (g 50 (by decide) (by decide)).trans R41.2.2.2.2.2.2.2.2.2⟩⟩, eRd.c (fun a a1 a2 => g a (by omega) (by omega)), eDu.c (fun a a1 a2 => g a (by omega) (by omega)), ?_, eOr.c (fun a a1 a2 => g a (by omega) (by omega)), ?_, ?_, ⟨0, 0, 0, (g 74 (by decide) (by decide)).trans e74⟩, (g 75 (by decide) (by decide)).trans e75⟩
      · obtain ⟨v1, v2, v3, e⟩ := e62
        exact ⟨v1, v2, v3, (g 62 (by decide) (by decide)).trans e⟩
      · obtain ⟨v1, v2, v3, e⟩ := e72
        exact ⟨v1, v2, v3, (g 72 (by decide) (by decide)).trans e⟩
      · obtain ⟨wf, e⟩ := e73
        exact ⟨wf, (g 73 (by decide) (by decide)).trans e⟩
    · exact ⟨fun _ => 0, 82, 83, 0, 0, e76, e77, ⟨_, e78, fun z => absurd rfl z⟩, ⟨fun _ => rfl, fun _ => rfl⟩, ⟨_, e79⟩, ⟨_, e80⟩, ⟨_, e81⟩, Or.inl ⟨rfl, rfl⟩, ⟨_, e82⟩, ⟨_, e83⟩, ⟨_, e84⟩, ⟨_, e85⟩, e86, rfl⟩
    · rw [n3] at ha
      exact (g2 a (by omega) (Or.inr ha)).trans (k_hc_t L xs (by omega))
  exact k_L 9 L xs hL _ (fun h9 n9 u9 => ⟨rfl, n9, u9⟩) 512 0 87 26314 h3 (by omega) (by omega) ⟨_, _, _, _, _, _, _, _, _, _, _, _, W⟩ (by omega) (by omega)
