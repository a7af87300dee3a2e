/-! By program (wip/whole/book*.py) and hand. -/
/-- what the next game brings -/
def stW (od : Nat → Nat → Nat → Nat) (g : Nat) : Nat → Nat → Nat → Int64 := fun _ m o => iL (od m o g * o - (10 - od m o g) * m)
theorem nL_32 {k : Nat} (h : k ≤ 1000) : (nI k).toInt64 = lN k := by
  have h9 : ∀ k : Fin 1001, (nI k.val).toInt64 = lN k.val := by decide +kernel
  exact h9 ⟨k, by omega⟩
theorem x_tW_L54 (d : Nat) (Q : Option Value → mH → Prop) (p1 q1 g pl : Nat) (cnt : Bool) (sz : Nat) (P lb : Nat → Nat) (W : Nat → Int64) (h0 : mH) (hN0 : 87 ≤ m_nx h0) (D0 : rDu h0 54 58 p1 q1 g pl cnt) (C0 : cCl h0 54 sz P lb W) (w : Nat) (hw13 : w < 13) (K : ∀ h2 S W2, (∀ c, c ≠ 57 → h2 c = h0 c) → cCl h2 54 sz P lb W2 → (∀ (φ : Nat → Nat → Nat → Int64) (c : Int64), (∀ m o, φ w m o = c) → S * c + FW W2 φ = FW W φ) → (∀ k, k < 5200 → W2 k ≠ 0 → W k ≠ 0) → (∀ k, k < 5200 → k % 13 = w → W2 k = 0) → Q (some (.long S)) h2) : ∀ (r k : Nat) (h : mH) (S : Int64) (W2 : Nat → Int64), k + r = sz → (∀ c, c ≠ 57 → h c = h0 c) → cCl h 54 sz P lb W2 → (∀ (φ : Nat → Nat → Nat → Int64) (c : Int64), (∀ m o, φ w m o = c) → S * c + FW W2 φ = FW W φ) → (∀ k, k < 5200 → W2 k ≠ 0 → W k ≠ 0) → (∀ y, y < 5200 → y % 13 = w → W2 y = 0 ∨ ∀ j, j < k → P j ≠ y / 13) → mT0 (d + 1) z_X2_takesWon 17 [some (.ref 53), some (.int (nI w)), some (.long S), none, some (.int (nI k))] [] h Q := by
  intro r
  induction r with
  | zero =>
    intro k h S W2 hk fh C2 hV hZ hY
    have hD : h 53 = _ := (fh 53 (by decide)).trans D0
    have hN : 87 ≤ m_nx h := nx_eq (fh 0 (by decide)) hN0
    obtain ⟨hC1, ⟨pf, hpf, ep⟩, -, -, hI⟩ := id C2
    have hC1 : h 54 = .inr (1, [.ref 55, .int (nI sz), .ref 56, .ref 57]) := hC1
    have hpf : h 55 = _ := hpf
    have hszle := hI.le
    iterate 2 refine mT_s rfl rfl ?_
    (apply mT_getf; (case hc => rfl); (case ha => first | rfl | assumption); (case hf => first | rfl | assumption))
    (apply mT_getf; (case hc => rfl); (case ha => first | rfl | assumption); (case hf => first | rfl | assumption))
    refine mT_icmp_ge rfl (fun _ => ?_) (fun c => absurd (nI_le (a := sz) (b := k) (by omega) (by omega)) c)
    refine mT_s rfl rfl ?_
    refine mT_ret rfl rfl ?_
    obtain rfl : k = sz := by omega
    refine K h S W2 fh C2 hV hZ (fun j hj hw => ?_)
    rcases hY j hj hw with z | z
    · exact z
    · have h1 := hI.1 (j / 13) (by omega)
      rcases Nat.eq_zero_or_pos (lb (j / 13)) with y | y
      · exact hI.2.2.2.2.1 j hj y
      · obtain ⟨t, ht, e⟩ := hI.2.2.2.1 (j / 13) (by omega) (by omega)
        exact absurd e (z t ht)
  | succ r ih =>
    intro k h S W2 hk fh C2 hV hZ hY
    have hD : h 53 = _ := (fh 53 (by decide)).trans D0
    have hN : 87 ≤ m_nx h := nx_eq (fh 0 (by decide)) hN0
    obtain ⟨hC1, ⟨pf, hpf, ep⟩, -, -, hI⟩ := id C2
    have hC1 : h 54 = .inr (1, [.ref 55, .int (nI sz), .ref 56, .ref 57]) := hC1
    have hpf : h 55 = _ := hpf
    have hszle := hI.le
    iterate 2 refine mT_s rfl rfl ?_
    (apply mT_getf; (case hc => rfl); (case ha => first | rfl | assumption); (case hf => first | rfl | assumption))
    (apply mT_getf; (case hc => rfl); (case ha => first | rfl | assumption); (case hf => first | rfl | assumption))
    have ix1 := ep k (by omega)
    have hPk := hI.2.2.1 k (by omega)
    refine mT_icmp_ge rfl (fun c => absurd c (nI_ge (a := k) (b := sz) (by omega) (by omega))) (fun _ => ?_)
    iterate 2 refine mT_s rfl rfl ?_
    (apply mT_getf; (case hc => rfl); (case ha => first | rfl | assumption); (case hf => first | rfl | assumption))
    refine mT_s rfl rfl ?_
    (apply mT_getf; (case hc => rfl); (case ha => first | rfl | assumption); (case hf => first | rfl | assumption))
    (apply mT_getf; (case hc => rfl); (case ha => first | rfl | assumption); (case hf => first | rfl | assumption))
    refine mT_s rfl rfl ?_
    (apply mT_ialdK; (case hc => rfl); (case ha => first | rfl | assumption); (case hk => first | (simp only [ki_0, ki_1, ki_2, ki_3, ki_4, ki_5, ki_6, ki_7, ki_8, ki_9, ki_10, ki_11, ki_12, ki_17, ki_20, ki_21, ki_22, ki_42, ki_50, ki_58, ki_66, ki_74, ki_140, ki_174, ki_179, ki_184, ki_189, ki_441, ki_13, nI_add, pk_mul]; with_reducible rfl) | (simp only [ki_0, ki_1, ki_2, ki_3, ki_4, ki_5, ki_6, ki_7, ki_8, ki_9, ki_10, ki_11, ki_12, ki_17, ki_20, ki_21, ki_22, ki_42, ki_50, ki_58, ki_66, ki_74, ki_140, ki_174, ki_179, ki_184, ki_189, ki_441, ki_13, ix1, nI_add, pk_mul]; with_reducible rfl) | (simp only [ki_0, ki_1, ki_2, ki_3, ki_4, ki_5, ki_6, ki_7, ki_8, ki_9, ki_10, ki_11, ki_12, ki_17, ki_20, ki_21, ki_22, ki_42, ki_50, ki_58, ki_66, ki_74, ki_140, ki_174, ki_179, ki_184, ki_189, ki_441, ki_13, ix1, ix2, nI_add, pk_mul]; with_reducible rfl) | (simp only [ki_0, ki_1, ki_2, ki_3, ki_4, ki_5, ki_6, ki_7, ki_8, ki_9, ki_10, ki_11, ki_12, ki_17, ki_20, ki_21, ki_22, ki_42, ki_50, ki_58, ki_66, ki_74, ki_140, ki_174, ki_179, ki_184, ki_189, ki_441, ki_13, ix1, ix2, ix3, nI_add, pk_mul]; with_reducible rfl) | (simp (disch := omega) only [upd_n, ki_0, ki_1, ki_2, ki_3, ki_4, ki_5, ki_6, ki_7, ki_8, ki_9, ki_10, ki_11, ki_12, ki_17, ki_20, ki_21, ki_22, ki_42, ki_50, ki_58, ki_66, ki_74, ki_140, ki_174, ki_179, ki_184, ki_189, ki_441, ki_13, ix1, nI_add, pk_mul]; with_reducible rfl) | (simp (disch := omega) only [upd_n, ki_0, ki_1, ki_2, ki_3, ki_4, ki_5, ki_6, ki_7, ki_8, ki_9, ki_10, ki_11, ki_12, ki_17, ki_20, ki_21, ki_22, ki_42, ki_50, ki_58, ki_66, ki_74, ki_140, ki_174, ki_179, ki_184, ki_189, ki_441, ki_13, ix1, ix2, nI_add, pk_mul]; with_reducible rfl) | rfl); (case hlt => first | decide | omega); (case hn => first | decide | omega))
    refine mT_s rfl rfl ?_
    (apply mT_inv; (case hc => rfl); (case hd => rfl); (case hb => first | rfl | assumption); (case hg => rfl))
    rw [ix1]
    refine x_take_54 _ h _ sz P lb W2 hN C2 (P k) w hPk.1 hw13 hPk.2 (fun h3 f3 C3 => ?_)
    iterate 4 refine mT_s rfl rfl ?_
    rw [nI_1]
    refine ih (k + 1) h3 _ _ (by omega) (fun c z => (f3 c z).trans (fh c z)) C3 (fun φ c hφ => ?_) (fun j hj hn => ?_) (fun j hj hw => ?_)
    · rw [← hV φ c hφ, ← FW_zero W2 φ hPk.1 (show w < 13 from hw13), hφ]
      grind
    · by_cases e : j = P k * 13 + w
      · subst e; rw [pk_uLs] at hn; exact absurd rfl hn
      · rw [pk_uLn e] at hn; exact hZ j hj hn
    · by_cases e : j = P k * 13 + w
      · subst e; exact Or.inl pk_uLs
      · rw [pk_uLn e]
        rcases hY j hj hw with z | z
        · exact Or.inl z
        · refine Or.inr (fun t ht => ?_)
          by_cases e2 : t = k
          · subst e2; exact fun z2 => e (by omega)
          · exact z t (by omega)
theorem x_takesWon_54 (d : Nat) (Q : Option Value → mH → Prop) (p1 q1 g pl : Nat) (cnt : Bool) (sz : Nat) (P lb : Nat → Nat) (W : Nat → Int64) (h0 : mH) (hN0 : 87 ≤ m_nx h0) (D0 : rDu h0 54 58 p1 q1 g pl cnt) (C0 : cCl h0 54 sz P lb W) (w : Nat) (hw13 : w < 13) (K : ∀ h2 S W2, (∀ c, c ≠ 57 → h2 c = h0 c) → cCl h2 54 sz P lb W2 → (∀ (φ : Nat → Nat → Nat → Int64) (c : Int64), (∀ m o, φ w m o = c) → S * c + FW W2 φ = FW W φ) → (∀ k, k < 5200 → W2 k ≠ 0 → W k ≠ 0) → (∀ k, k < 5200 → k % 13 = w → W2 k = 0) → Q (some (.long S)) h2) : mT0 (d + 1) z_X2_takesWon 0 (m_init z_X2_takesWon [.ref 53, .int (nI w)]) [] h0 Q := by
  refine mT_s rfl rfl ?_
  refine mT_if_lt rfl (fun c => absurd c (nI_pos (by omega))) (fun _ => ?_)
  iterate 2 refine mT_s rfl rfl ?_
  refine mT_icmp_lt rfl (fun _ => ?_) (fun c => absurd (nI_lt (a := w) (b := 13) (by omega) (by omega)) c)
  iterate 4 refine mT_s rfl rfl ?_
  exact x_tW_L54 d Q p1 q1 g pl cnt sz P lb W h0 hN0 D0 C0 w hw13 K sz 0 h0 0 W (by omega) (fun _ _ => rfl) C0 (fun φ c _ => by rw [Int64.zero_mul, Int64.zero_add]) (fun _ _ z => z) (fun _ _ _ => Or.inr (fun j hj => absurd hj (by omega)))
theorem x_tE_L54 (d : Nat) (Q : Option Value → mH → Prop) (p1 q1 g pl : Nat) (cnt : Bool) (sz : Nat) (P lb : Nat → Nat) (W : Nat → Int64) (h0 : mH) (hN0 : 87 ≤ m_nx h0) (D0 : rDu h0 54 58 p1 q1 g pl cnt) (C0 : cCl h0 54 sz P lb W) (K : ∀ h2 S W2, (∀ c, c ≠ 57 → h2 c = h0 c) → cCl h2 54 sz P lb W2 → (∀ (φ : Nat → Nat → Nat → Int64) (c : Int64), (∀ o, φ 0 1 o = c) → S * c + FW W2 φ = FW W φ) → (∀ k, k < 5200 → W2 k ≠ 0 → W k ≠ 0) → (∀ k, k < 5200 → (k % 13 = 0 ∧ k / 13 / 20 + 1 = 1) → W2 k = 0) → Q (some (.long S)) h2) : ∀ (r k : Nat) (h : mH) (S : Int64) (W2 : Nat → Int64), k + r = sz → (∀ c, c ≠ 57 → h c = h0 c) → cCl h 54 sz P lb W2 → (∀ (φ : Nat → Nat → Nat → Int64) (c : Int64), (∀ o, φ 0 1 o = c) → S * c + FW W2 φ = FW W φ) → (∀ k, k < 5200 → W2 k ≠ 0 → W k ≠ 0) → (∀ y, y < 5200 → (y % 13 = 0 ∧ y / 13 / 20 + 1 = 1) → W2 y = 0 ∨ ∀ j, j < k → P j ≠ y / 13) → mT0 (d + 1) z_X2_takesEnded 4 [some (.ref 53), some (.long S), none, some (.int (nI k))] [] h Q := by
  intro r
  induction r with
  | zero =>
    intro k h S W2 hk fh C2 hV hZ hY
    have hD : h 53 = _ := (fh 53 (by decide)).trans D0
    have hN : 87 ≤ m_nx h := nx_eq (fh 0 (by decide)) hN0
    obtain ⟨hC1, ⟨pf, hpf, ep⟩, -, -, hI⟩ := id C2
    have hC1 : h 54 = .inr (1, [.ref 55, .int (nI sz), .ref 56, .ref 57]) := hC1
    have hpf : h 55 = _ := hpf
    have hszle := hI.le
    iterate 2 refine mT_s rfl rfl ?_
    (apply mT_getf; (case hc => rfl); (case ha => first | rfl | assumption); (case hf => first | rfl | assumption))
    (apply mT_getf; (case hc => rfl); (case ha => first | rfl | assumption); (case hf => first | rfl | assumption))
    refine mT_icmp_ge rfl (fun _ => ?_) (fun c => absurd (nI_le (a := sz) (b := k) (by omega) (by omega)) c)
    refine mT_s rfl rfl ?_
    refine mT_ret rfl rfl ?_
    obtain rfl : k = sz := by omega
    refine K h S W2 fh C2 hV hZ (fun j hj hw => ?_)
    rcases hY j hj hw with z | z
    · exact z
    · have h1 := hI.1 (j / 13) (by omega)
      rcases Nat.eq_zero_or_pos (lb (j / 13)) with y | y
      · exact hI.2.2.2.2.1 j hj y
      · obtain ⟨t, ht, e⟩ := hI.2.2.2.1 (j / 13) (by omega) (by omega)
        exact absurd e (z t ht)
  | succ r ih =>
    intro k h S W2 hk fh C2 hV hZ hY
    have hD : h 53 = _ := (fh 53 (by decide)).trans D0
    have hN : 87 ≤ m_nx h := nx_eq (fh 0 (by decide)) hN0
    obtain ⟨hC1, ⟨pf, hpf, ep⟩, -, -, hI⟩ := id C2
    have hC1 : h 54 = .inr (1, [.ref 55, .int (nI sz), .ref 56, .ref 57]) := hC1
    have hpf : h 55 = _ := hpf
    have hszle := hI.le
    iterate 2 refine mT_s rfl rfl ?_
    (apply mT_getf; (case hc => rfl); (case ha => first | rfl | assumption); (case hf => first | rfl | assumption))
    (apply mT_getf; (case hc => rfl); (case ha => first | rfl | assumption); (case hf => first | rfl | assumption))
    have ix1 := ep k (by omega)
    have hPk := hI.2.2.1 k (by omega)
    refine mT_icmp_ge rfl (fun c => absurd c (nI_ge (a := k) (b := sz) (by omega) (by omega))) (fun _ => ?_)
    refine mT_s rfl rfl ?_
    (apply mT_getf; (case hc => rfl); (case ha => first | rfl | assumption); (case hf => first | rfl | assumption))
    (apply mT_getf; (case hc => rfl); (case ha => first | rfl | assumption); (case hf => first | rfl | assumption))
    refine mT_s rfl rfl ?_
    (apply mT_ialdK; (case hc => rfl); (case ha => first | rfl | assumption); (case hk => first | (simp only [ki_0, ki_1, ki_2, ki_3, ki_4, ki_5, ki_6, ki_7, ki_8, ki_9, ki_10, ki_11, ki_12, ki_17, ki_20, ki_21, ki_22, ki_42, ki_50, ki_58, ki_66, ki_74, ki_140, ki_174, ki_179, ki_184, ki_189, ki_441, ki_13, nI_add, pk_mul]; with_reducible rfl) | (simp only [ki_0, ki_1, ki_2, ki_3, ki_4, ki_5, ki_6, ki_7, ki_8, ki_9, ki_10, ki_11, ki_12, ki_17, ki_20, ki_21, ki_22, ki_42, ki_50, ki_58, ki_66, ki_74, ki_140, ki_174, ki_179, ki_184, ki_189, ki_441, ki_13, ix1, nI_add, pk_mul]; with_reducible rfl) | (simp only [ki_0, ki_1, ki_2, ki_3, ki_4, ki_5, ki_6, ki_7, ki_8, ki_9, ki_10, ki_11, ki_12, ki_17, ki_20, ki_21, ki_22, ki_42, ki_50, ki_58, ki_66, ki_74, ki_140, ki_174, ki_179, ki_184, ki_189, ki_441, ki_13, ix1, ix2, nI_add, pk_mul]; with_reducible rfl) | (simp only [ki_0, ki_1, ki_2, ki_3, ki_4, ki_5, ki_6, ki_7, ki_8, ki_9, ki_10, ki_11, ki_12, ki_17, ki_20, ki_21, ki_22, ki_42, ki_50, ki_58, ki_66, ki_74, ki_140, ki_174, ki_179, ki_184, ki_189, ki_441, ki_13, ix1, ix2, ix3, nI_add, pk_mul]; with_reducible rfl) | (simp (disch := omega) only [upd_n, ki_0, ki_1, ki_2, ki_3, ki_4, ki_5, ki_6, ki_7, ki_8, ki_9, ki_10, ki_11, ki_12, ki_17, ki_20, ki_21, ki_22, ki_42, ki_50, ki_58, ki_66, ki_74, ki_140, ki_174, ki_179, ki_184, ki_189, ki_441, ki_13, ix1, nI_add, pk_mul]; with_reducible rfl) | (simp (disch := omega) only [upd_n, ki_0, ki_1, ki_2, ki_3, ki_4, ki_5, ki_6, ki_7, ki_8, ki_9, ki_10, ki_11, ki_12, ki_17, ki_20, ki_21, ki_22, ki_42, ki_50, ki_58, ki_66, ki_74, ki_140, ki_174, ki_179, ki_184, ki_189, ki_441, ki_13, ix1, ix2, nI_add, pk_mul]; with_reducible rfl) | rfl); (case hlt => first | decide | omega); (case hn => first | decide | omega))
    refine mT_c rfl rfl ?_
    rw [ix1]
    refine x_cMenOne _ _ _ (P k) hPk.1 ?_
    refine mT_s rfl rfl ?_
    refine mT_icmp_ne rfl (fun c28 => ?_) (fun c28 => ?_)
    · have c28 : ¬ P k / 20 + 1 = 1 := fun z => c28 (congrArg nI z)
      iterate 2 refine mT_s rfl rfl ?_
      rw [nI_1]
      refine ih (k + 1) h _ _ (by omega) fh C2 hV hZ (fun j hj hw => ?_)
      rcases hY j hj hw with z | z
      · exact Or.inl z
      · refine Or.inr (fun t ht => ?_)
        by_cases e2 : t = k
        · subst e2; exact fun z2 => c28 (by rw [z2]; exact hw.2)
        · exact z t (by omega)
    · have c28 : P k / 20 + 1 = 1 := (nI_eq (b := 1) (by omega) (by omega)).mp c28
      iterate 2 refine mT_s rfl rfl ?_
      (apply mT_getf; (case hc => rfl); (case ha => first | rfl | assumption); (case hf => first | rfl | assumption))
      refine mT_s rfl rfl ?_
      (apply mT_getf; (case hc => rfl); (case ha => first | rfl | assumption); (case hf => first | rfl | assumption))
      (apply mT_getf; (case hc => rfl); (case ha => first | rfl | assumption); (case hf => first | rfl | assumption))
      refine mT_s rfl rfl ?_
      (apply mT_ialdK; (case hc => rfl); (case ha => first | rfl | assumption); (case hk => first | (simp only [ki_0, ki_1, ki_2, ki_3, ki_4, ki_5, ki_6, ki_7, ki_8, ki_9, ki_10, ki_11, ki_12, ki_17, ki_20, ki_21, ki_22, ki_42, ki_50, ki_58, ki_66, ki_74, ki_140, ki_174, ki_179, ki_184, ki_189, ki_441, ki_13, nI_add, pk_mul]; with_reducible rfl) | (simp only [ki_0, ki_1, ki_2, ki_3, ki_4, ki_5, ki_6, ki_7, ki_8, ki_9, ki_10, ki_11, ki_12, ki_17, ki_20, ki_21, ki_22, ki_42, ki_50, ki_58, ki_66, ki_74, ki_140, ki_174, ki_179, ki_184, ki_189, ki_441, ki_13, ix1, nI_add, pk_mul]; with_reducible rfl) | (simp only [ki_0, ki_1, ki_2, ki_3, ki_4, ki_5, ki_6, ki_7, ki_8, ki_9, ki_10, ki_11, ki_12, ki_17, ki_20, ki_21, ki_22, ki_42, ki_50, ki_58, ki_66, ki_74, ki_140, ki_174, ki_179, ki_184, ki_189, ki_441, ki_13, ix1, ix2, nI_add, pk_mul]; with_reducible rfl) | (simp only [ki_0, ki_1, ki_2, ki_3, ki_4, ki_5, ki_6, ki_7, ki_8, ki_9, ki_10, ki_11, ki_12, ki_17, ki_20, ki_21, ki_22, ki_42, ki_50, ki_58, ki_66, ki_74, ki_140, ki_174, ki_179, ki_184, ki_189, ki_441, ki_13, ix1, ix2, ix3, nI_add, pk_mul]; with_reducible rfl) | (simp (disch := omega) only [upd_n, ki_0, ki_1, ki_2, ki_3, ki_4, ki_5, ki_6, ki_7, ki_8, ki_9, ki_10, ki_11, ki_12, ki_17, ki_20, ki_21, ki_22, ki_42, ki_50, ki_58, ki_66, ki_74, ki_140, ki_174, ki_179, ki_184, ki_189, ki_441, ki_13, ix1, nI_add, pk_mul]; with_reducible rfl) | (simp (disch := omega) only [upd_n, ki_0, ki_1, ki_2, ki_3, ki_4, ki_5, ki_6, ki_7, ki_8, ki_9, ki_10, ki_11, ki_12, ki_17, ki_20, ki_21, ki_22, ki_42, ki_50, ki_58, ki_66, ki_74, ki_140, ki_174, ki_179, ki_184, ki_189, ki_441, ki_13, ix1, ix2, nI_add, pk_mul]; with_reducible rfl) | rfl); (case hlt => first | decide | omega); (case hn => first | decide | omega))
      refine mT_s rfl rfl ?_
      (apply mT_inv; (case hc => rfl); (case hd => rfl); (case hb => first | rfl | assumption); (case hg => rfl))
      rw [ix1]
      refine x_take_54 _ h _ sz P lb W2 hN C2 (P k) 0 hPk.1 (by decide) hPk.2 (fun h3 f3 C3 => ?_)
      iterate 4 refine mT_s rfl rfl ?_
      rw [nI_1]
      refine ih (k + 1) h3 _ _ (by omega) (fun c z => (f3 c z).trans (fh c z)) C3 (fun φ c hφ => ?_) (fun j hj hn => ?_) (fun j hj hw => ?_)
      · rw [← hV φ c hφ, ← FW_zero W2 φ hPk.1 (show 0 < 13 by decide), c28, hφ]
        grind
      · by_cases e : j = P k * 13 + 0
        · subst e; rw [pk_uLs] at hn; exact absurd rfl hn
        · rw [pk_uLn e] at hn; exact hZ j hj hn
      · by_cases e : j = P k * 13 + 0
        · subst e; exact Or.inl pk_uLs
        · rw [pk_uLn e]
          rcases hY j hj hw with z | z
          · exact Or.inl z
          · refine Or.inr (fun t ht => ?_)
            by_cases e2 : t = k
            · subst e2; exact fun z2 => e (by omega)
            · exact z t (by omega)
theorem x_takesEnded_54 (d : Nat) (Q : Option Value → mH → Prop) (p1 q1 g pl : Nat) (cnt : Bool) (sz : Nat) (P lb : Nat → Nat) (W : Nat → Int64) (h0 : mH) (hN0 : 87 ≤ m_nx h0) (D0 : rDu h0 54 58 p1 q1 g pl cnt) (C0 : cCl h0 54 sz P lb W) (K : ∀ h2 S W2, (∀ c, c ≠ 57 → h2 c = h0 c) → cCl h2 54 sz P lb W2 → (∀ (φ : Nat → Nat → Nat → Int64) (c : Int64), (∀ o, φ 0 1 o = c) → S * c + FW W2 φ = FW W φ) → (∀ k, k < 5200 → W2 k ≠ 0 → W k ≠ 0) → (∀ k, k < 5200 → (k % 13 = 0 ∧ k / 13 / 20 + 1 = 1) → W2 k = 0) → Q (some (.long S)) h2) : mT0 (d + 1) z_X2_takesEnded 0 (m_init z_X2_takesEnded [.ref 53]) [] h0 Q := by
  iterate 4 refine mT_s rfl rfl ?_
  exact x_tE_L54 d Q p1 q1 g pl cnt sz P lb W h0 hN0 D0 C0 K sz 0 h0 0 W (by omega) (fun _ _ => rfl) C0 (fun φ c _ => by rw [Int64.zero_mul, Int64.zero_add]) (fun _ _ z => z) (fun _ _ _ => Or.inr (fun j hj => absurd hj (by omega)))
theorem x_mO_L54 (d : Nat) (Q : Option Value → mH → Prop) (p1 q1 g pl : Nat) (cnt : Bool) (sz : Nat) (P lb : Nat → Nat) (W : Nat → Int64) (h : mH) (hN : 87 ≤ m_nx h) (D0 : rDu h 54 58 p1 q1 g pl cnt) (C2 : cCl h 54 sz P lb W) (hS0 : cS W 0) (K : Q (some (.long (sL (fun j => W (P j * 13 + 0) * lN (P j / 20 + 1)) sz))) h) : ∀ (r k : Nat), k + r = sz → mT0 (d + 1) z_X2_menOfOne 4 [some (.ref 53), some (.long (sL (fun j => W (P j * 13 + 0) * lN (P j / 20 + 1)) k)), none, some (.int (nI k))] [] h Q := by
  have hD : h 53 = _ := D0
  obtain ⟨hC1, ⟨pf, hpf, ep⟩, -, -, hI⟩ := id C2
  have hC1 : h 54 = .inr (1, [.ref 55, .int (nI sz), .ref 56, .ref 57]) := hC1
  have hpf : h 55 = _ := hpf
  have hszle := hI.le
  intro r
  induction r with
  | zero =>
    intro k hk
    iterate 2 refine mT_s rfl rfl ?_
    (apply mT_getf; (case hc => rfl); (case ha => first | rfl | assumption); (case hf => first | rfl | assumption))
    (apply mT_getf; (case hc => rfl); (case ha => first | rfl | assumption); (case hf => first | rfl | assumption))
    refine mT_icmp_ge rfl (fun _ => ?_) (fun c => absurd (nI_le (a := sz) (b := k) (by omega) (by omega)) c)
    refine mT_s rfl rfl ?_
    refine mT_ret rfl rfl ?_
    obtain rfl : k = sz := by omega
    exact K
  | succ r ih =>
    intro k hk
    iterate 2 refine mT_s rfl rfl ?_
    (apply mT_getf; (case hc => rfl); (case ha => first | rfl | assumption); (case hf => first | rfl | assumption))
    (apply mT_getf; (case hc => rfl); (case ha => first | rfl | assumption); (case hf => first | rfl | assumption))
    have ix1 := ep k (by omega)
    have hPk := hI.2.2.1 k (by omega)
    refine mT_icmp_ge rfl (fun c => absurd c (nI_ge (a := k) (b := sz) (by omega) (by omega))) (fun _ => ?_)
    iterate 2 refine mT_s rfl rfl ?_
    (apply mT_getf; (case hc => rfl); (case ha => first | rfl | assumption); (case hf => first | rfl | assumption))
    refine mT_s rfl rfl ?_
    (apply mT_getf; (case hc => rfl); (case ha => first | rfl | assumption); (case hf => first | rfl | assumption))
    (apply mT_getf; (case hc => rfl); (case ha => first | rfl | assumption); (case hf => first | rfl | assumption))
    refine mT_s rfl rfl ?_
    (apply mT_ialdK; (case hc => rfl); (case ha => first | rfl | assumption); (case hk => first | (simp only [ki_0, ki_1, ki_2, ki_3, ki_4, ki_5, ki_6, ki_7, ki_8, ki_9, ki_10, ki_11, ki_12, ki_17, ki_20, ki_21, ki_22, ki_42, ki_50, ki_58, ki_66, ki_74, ki_140, ki_174, ki_179, ki_184, ki_189, ki_441, ki_13, nI_add, pk_mul]; with_reducible rfl) | (simp only [ki_0, ki_1, ki_2, ki_3, ki_4, ki_5, ki_6, ki_7, ki_8, ki_9, ki_10, ki_11, ki_12, ki_17, ki_20, ki_21, ki_22, ki_42, ki_50, ki_58, ki_66, ki_74, ki_140, ki_174, ki_179, ki_184, ki_189, ki_441, ki_13, ix1, nI_add, pk_mul]; with_reducible rfl) | (simp only [ki_0, ki_1, ki_2, ki_3, ki_4, ki_5, ki_6, ki_7, ki_8, ki_9, ki_10, ki_11, ki_12, ki_17, ki_20, ki_21, ki_22, ki_42, ki_50, ki_58, ki_66, ki_74, ki_140, ki_174, ki_179, ki_184, ki_189, ki_441, ki_13, ix1, ix2, nI_add, pk_mul]; with_reducible rfl) | (simp only [ki_0, ki_1, ki_2, ki_3, ki_4, ki_5, ki_6, ki_7, ki_8, ki_9, ki_10, ki_11, ki_12, ki_17, ki_20, ki_21, ki_22, ki_42, ki_50, ki_58, ki_66, ki_74, ki_140, ki_174, ki_179, ki_184, ki_189, ki_441, ki_13, ix1, ix2, ix3, nI_add, pk_mul]; with_reducible rfl) | (simp (disch := omega) only [upd_n, ki_0, ki_1, ki_2, ki_3, ki_4, ki_5, ki_6, ki_7, ki_8, ki_9, ki_10, ki_11, ki_12, ki_17, ki_20, ki_21, ki_22, ki_42, ki_50, ki_58, ki_66, ki_74, ki_140, ki_174, ki_179, ki_184, ki_189, ki_441, ki_13, ix1, nI_add, pk_mul]; with_reducible rfl) | (simp (disch := omega) only [upd_n, ki_0, ki_1, ki_2, ki_3, ki_4, ki_5, ki_6, ki_7, ki_8, ki_9, ki_10, ki_11, ki_12, ki_17, ki_20, ki_21, ki_22, ki_42, ki_50, ki_58, ki_66, ki_74, ki_140, ki_174, ki_179, ki_184, ki_189, ki_441, ki_13, ix1, ix2, nI_add, pk_mul]; with_reducible rfl) | rfl); (case hlt => first | decide | omega); (case hn => first | decide | omega))
    refine mT_s rfl rfl ?_
    (apply mT_inv; (case hc => rfl); (case hd => rfl); (case hb => first | rfl | assumption); (case hg => rfl))
    rw [ix1]
    refine x_part_54 _ h _ sz P lb W hN C2 (P k) 0 hPk.1 (by decide) ?_
    refine mT_s rfl rfl ?_
    (apply mT_getf; (case hc => rfl); (case ha => first | rfl | assumption); (case hf => first | rfl | assumption))
    (apply mT_getf; (case hc => rfl); (case ha => first | rfl | assumption); (case hf => first | rfl | assumption))
    refine mT_s rfl rfl ?_
    (apply mT_ialdK; (case hc => rfl); (case ha => first | rfl | assumption); (case hk => first | (simp only [ki_0, ki_1, ki_2, ki_3, ki_4, ki_5, ki_6, ki_7, ki_8, ki_9, ki_10, ki_11, ki_12, ki_17, ki_20, ki_21, ki_22, ki_42, ki_50, ki_58, ki_66, ki_74, ki_140, ki_174, ki_179, ki_184, ki_189, ki_441, ki_13, nI_add, pk_mul]; with_reducible rfl) | (simp only [ki_0, ki_1, ki_2, ki_3, ki_4, ki_5, ki_6, ki_7, ki_8, ki_9, ki_10, ki_11, ki_12, ki_17, ki_20, ki_21, ki_22, ki_42, ki_50, ki_58, ki_66, ki_74, ki_140, ki_174, ki_179, ki_184, ki_189, ki_441, ki_13, ix1, nI_add, pk_mul]; with_reducible rfl) | (simp only [ki_0, ki_1, ki_2, ki_3, ki_4, ki_5, ki_6, ki_7, ki_8, ki_9, ki_10, ki_11, ki_12, ki_17, ki_20, ki_21, ki_22, ki_42, ki_50, ki_58, ki_66, ki_74, ki_140, ki_174, ki_179, ki_184, ki_189, ki_441, ki_13, ix1, ix2, nI_add, pk_mul]; with_reducible rfl) | (simp only [ki_0, ki_1, ki_2, ki_3, ki_4, ki_5, ki_6, ki_7, ki_8, ki_9, ki_10, ki_11, ki_12, ki_17, ki_20, ki_21, ki_22, ki_42, ki_50, ki_58, ki_66, ki_74, ki_140, ki_174, ki_179, ki_184, ki_189, ki_441, ki_13, ix1, ix2, ix3, nI_add, pk_mul]; with_reducible rfl) | (simp (disch := omega) only [upd_n, ki_0, ki_1, ki_2, ki_3, ki_4, ki_5, ki_6, ki_7, ki_8, ki_9, ki_10, ki_11, ki_12, ki_17, ki_20, ki_21, ki_22, ki_42, ki_50, ki_58, ki_66, ki_74, ki_140, ki_174, ki_179, ki_184, ki_189, ki_441, ki_13, ix1, nI_add, pk_mul]; with_reducible rfl) | (simp (disch := omega) only [upd_n, ki_0, ki_1, ki_2, ki_3, ki_4, ki_5, ki_6, ki_7, ki_8, ki_9, ki_10, ki_11, ki_12, ki_17, ki_20, ki_21, ki_22, ki_42, ki_50, ki_58, ki_66, ki_74, ki_140, ki_174, ki_179, ki_184, ki_189, ki_441, ki_13, ix1, ix2, nI_add, pk_mul]; with_reducible rfl) | rfl); (case hlt => first | decide | omega); (case hn => first | decide | omega))
    refine mT_c rfl rfl ?_
    rw [ix1]
    refine x_cMenOne _ _ _ (P k) hPk.1 ?_
    iterate 6 refine mT_s rfl rfl ?_
    rw [nI_1, nL_32 (show P k / 20 + 1 ≤ 1000 by have := hPk.1; omega)]
    exact ih (k + 1) (by omega)
theorem x_menOfOne_54 (d : Nat) (Q : Option Value → mH → Prop) (p1 q1 g pl : Nat) (cnt : Bool) (sz : Nat) (P lb : Nat → Nat) (W : Nat → Int64) (h : mH) (hN : 87 ≤ m_nx h) (D0 : rDu h 54 58 p1 q1 g pl cnt) (C2 : cCl h 54 sz P lb W) (hS0 : cS W 0) (K : Q (some (.long (FW W (fun _ m _ => lN m)))) h) : mT0 (d + 1) z_X2_menOfOne 0 (m_init z_X2_menOfOne [.ref 53]) [] h Q := by
  iterate 4 refine mT_s rfl rfl ?_
  refine x_mO_L54 d Q p1 q1 g pl cnt sz P lb W h hN D0 C2 hS0 ?_ sz 0 (by omega)
  rw [← FW_list C2.2.2.2.2 hS0 (by decide) (fun _ m _ => lN m)] at K
  refine (congrArg (fun z => Q (some (.long z)) h) (sL_congr (fun j hj => ?_))).mp K
  exact Int64.zero_add _
theorem x_sO_L54 (d : Nat) (Q : Option Value → mH → Prop) (i : Nat → Int32) (iv : Value) (s : Nat → Int32) (l : List Tok) (le mo : Nat) (hle : le ≤ 99) (hmo : mo ≤ 99) (p q g pl : Nat) (hp : p < 5) (hq : q < 5) (hg : g < 20000) (cnt : Bool) (sz : Nat) (P lb : Nat → Nat) (W : Nat → Int64) (h0 : mH) (B0 : rBs 21 h0 i iv s l le mo) (D0 : rDu h0 54 58 p q g pl cnt) (C0 : cCl h0 54 sz P lb W) (hS0 : cS W 0) (K : ∀ h2, (∀ c, c ≠ 30 → h2 c = h0 c) → (∃ f, h2 30 = .inl (0, 5, .inl f)) → Q (some (.long (sL (fun j => W (P j * 13 + 0) * stW (a_od s l p q) g 0 (P j / 20 + 1) (P j % 20 + 1)) sz))) h2) : ∀ (r k : Nat) (h : mH) (x4 x5 x6 : Option Value), k + r = sz → (∀ c, c ≠ 30 → h c = h0 c) → (∃ f, h 30 = .inl (0, 5, .inl f)) → mT0 (d + 4) z_X2_stakeOfOne 4 [some (.ref 53), some (.long (sL (fun j => W (P j * 13 + 0) * stW (a_od s l p q) g 0 (P j / 20 + 1) (P j % 20 + 1)) k)), none, some (.int (nI k)), x4, x5, x6] [] h Q := by
  intro r
  induction r with
  | zero =>
    intro k h x4 x5 x6 hk fh h9
    have B := B0.d5 (h2 := h) (fun c z1 z2 => fh c z1) h9
    obtain ⟨hR, hN, -, -, -, -, -, -⟩ := id B
    have hD : h 53 = _ := (fh 53 (by decide)).trans D0
    have C2 := C0.c (h2 := h) (fun c z1 z2 => fh c (by omega))
    obtain ⟨hC1, ⟨pf, hpf, ep⟩, -, -, hI⟩ := id C2
    have hC1 : h 54 = .inr (1, [.ref 55, .int (nI sz), .ref 56, .ref 57]) := hC1
    have hpf : h 55 = _ := hpf
    have hszle := hI.le
    iterate 2 refine mT_s rfl rfl ?_
    (apply mT_getf; (case hc => rfl); (case ha => first | rfl | assumption); (case hf => first | rfl | assumption))
    (apply mT_getf; (case hc => rfl); (case ha => first | rfl | assumption); (case hf => first | rfl | assumption))
    refine mT_icmp_ge rfl (fun _ => ?_) (fun c => absurd (nI_le (a := sz) (b := k) (by omega) (by omega)) c)
    refine mT_s rfl rfl ?_
    refine mT_ret rfl rfl ?_
    obtain rfl : k = sz := by omega
    exact K h fh h9
  | succ r ih =>
    intro k h x4 x5 x6 hk fh h9
    have B := B0.d5 (h2 := h) (fun c z1 z2 => fh c z1) h9
    obtain ⟨hR, hN, -, -, -, -, -, -⟩ := id B
    have hD : h 53 = _ := (fh 53 (by decide)).trans D0
    have C2 := C0.c (h2 := h) (fun c z1 z2 => fh c (by omega))
    obtain ⟨hC1, ⟨pf, hpf, ep⟩, -, -, hI⟩ := id C2
    have hC1 : h 54 = .inr (1, [.ref 55, .int (nI sz), .ref 56, .ref 57]) := hC1
    have hpf : h 55 = _ := hpf
    have hszle := hI.le
    iterate 2 refine mT_s rfl rfl ?_
    (apply mT_getf; (case hc => rfl); (case ha => first | rfl | assumption); (case hf => first | rfl | assumption))
    (apply mT_getf; (case hc => rfl); (case ha => first | rfl | assumption); (case hf => first | rfl | assumption))
    have ix1 := ep k (by omega)
    have hPk := hI.2.2.1 k (by omega)
    refine mT_icmp_ge rfl (fun c => absurd c (nI_ge (a := k) (b := sz) (by omega) (by omega))) (fun _ => ?_)
    refine mT_s rfl rfl ?_
    (apply mT_getf; (case hc => rfl); (case ha => first | rfl | assumption); (case hf => first | rfl | assumption))
    (apply mT_getf; (case hc => rfl); (case ha => first | rfl | assumption); (case hf => first | rfl | assumption))
    refine mT_s rfl rfl ?_
    (apply mT_ialdK; (case hc => rfl); (case ha => first | rfl | assumption); (case hk => first | (simp only [ki_0, ki_1, ki_2, ki_3, ki_4, ki_5, ki_6, ki_7, ki_8, ki_9, ki_10, ki_11, ki_12, ki_17, ki_20, ki_21, ki_22, ki_42, ki_50, ki_58, ki_66, ki_74, ki_140, ki_174, ki_179, ki_184, ki_189, ki_441, ki_13, nI_add, pk_mul]; with_reducible rfl) | (simp only [ki_0, ki_1, ki_2, ki_3, ki_4, ki_5, ki_6, ki_7, ki_8, ki_9, ki_10, ki_11, ki_12, ki_17, ki_20, ki_21, ki_22, ki_42, ki_50, ki_58, ki_66, ki_74, ki_140, ki_174, ki_179, ki_184, ki_189, ki_441, ki_13, ix1, nI_add, pk_mul]; with_reducible rfl) | (simp only [ki_0, ki_1, ki_2, ki_3, ki_4, ki_5, ki_6, ki_7, ki_8, ki_9, ki_10, ki_11, ki_12, ki_17, ki_20, ki_21, ki_22, ki_42, ki_50, ki_58, ki_66, ki_74, ki_140, ki_174, ki_179, ki_184, ki_189, ki_441, ki_13, ix1, ix2, nI_add, pk_mul]; with_reducible rfl) | (simp only [ki_0, ki_1, ki_2, ki_3, ki_4, ki_5, ki_6, ki_7, ki_8, ki_9, ki_10, ki_11, ki_12, ki_17, ki_20, ki_21, ki_22, ki_42, ki_50, ki_58, ki_66, ki_74, ki_140, ki_174, ki_179, ki_184, ki_189, ki_441, ki_13, ix1, ix2, ix3, nI_add, pk_mul]; with_reducible rfl) | (simp (disch := omega) only [upd_n, ki_0, ki_1, ki_2, ki_3, ki_4, ki_5, ki_6, ki_7, ki_8, ki_9, ki_10, ki_11, ki_12, ki_17, ki_20, ki_21, ki_22, ki_42, ki_50, ki_58, ki_66, ki_74, ki_140, ki_174, ki_179, ki_184, ki_189, ki_441, ki_13, ix1, nI_add, pk_mul]; with_reducible rfl) | (simp (disch := omega) only [upd_n, ki_0, ki_1, ki_2, ki_3, ki_4, ki_5, ki_6, ki_7, ki_8, ki_9, ki_10, ki_11, ki_12, ki_17, ki_20, ki_21, ki_22, ki_42, ki_50, ki_58, ki_66, ki_74, ki_140, ki_174, ki_179, ki_184, ki_189, ki_441, ki_13, ix1, ix2, nI_add, pk_mul]; with_reducible rfl) | rfl); (case hlt => first | decide | omega); (case hn => first | decide | omega))
    refine mT_c rfl rfl ?_
    rw [ix1]
    refine x_cMenOne _ _ _ (P k) hPk.1 ?_
    iterate 2 refine mT_s rfl rfl ?_
    (apply mT_getf; (case hc => rfl); (case ha => first | rfl | assumption); (case hf => first | rfl | assumption))
    (apply mT_getf; (case hc => rfl); (case ha => first | rfl | assumption); (case hf => first | rfl | assumption))
    refine mT_s rfl rfl ?_
    (apply mT_ialdK; (case hc => rfl); (case ha => first | rfl | assumption); (case hk => first | (simp only [ki_0, ki_1, ki_2, ki_3, ki_4, ki_5, ki_6, ki_7, ki_8, ki_9, ki_10, ki_11, ki_12, ki_17, ki_20, ki_21, ki_22, ki_42, ki_50, ki_58, ki_66, ki_74, ki_140, ki_174, ki_179, ki_184, ki_189, ki_441, ki_13, nI_add, pk_mul]; with_reducible rfl) | (simp only [ki_0, ki_1, ki_2, ki_3, ki_4, ki_5, ki_6, ki_7, ki_8, ki_9, ki_10, ki_11, ki_12, ki_17, ki_20, ki_21, ki_22, ki_42, ki_50, ki_58, ki_66, ki_74, ki_140, ki_174, ki_179, ki_184, ki_189, ki_441, ki_13, ix1, nI_add, pk_mul]; with_reducible rfl) | (simp only [ki_0, ki_1, ki_2, ki_3, ki_4, ki_5, ki_6, ki_7, ki_8, ki_9, ki_10, ki_11, ki_12, ki_17, ki_20, ki_21, ki_22, ki_42, ki_50, ki_58, ki_66, ki_74, ki_140, ki_174, ki_179, ki_184, ki_189, ki_441, ki_13, ix1, ix2, nI_add, pk_mul]; with_reducible rfl) | (simp only [ki_0, ki_1, ki_2, ki_3, ki_4, ki_5, ki_6, ki_7, ki_8, ki_9, ki_10, ki_11, ki_12, ki_17, ki_20, ki_21, ki_22, ki_42, ki_50, ki_58, ki_66, ki_74, ki_140, ki_174, ki_179, ki_184, ki_189, ki_441, ki_13, ix1, ix2, ix3, nI_add, pk_mul]; with_reducible rfl) | (simp (disch := omega) only [upd_n, ki_0, ki_1, ki_2, ki_3, ki_4, ki_5, ki_6, ki_7, ki_8, ki_9, ki_10, ki_11, ki_12, ki_17, ki_20, ki_21, ki_22, ki_42, ki_50, ki_58, ki_66, ki_74, ki_140, ki_174, ki_179, ki_184, ki_189, ki_441, ki_13, ix1, nI_add, pk_mul]; with_reducible rfl) | (simp (disch := omega) only [upd_n, ki_0, ki_1, ki_2, ki_3, ki_4, ki_5, ki_6, ki_7, ki_8, ki_9, ki_10, ki_11, ki_12, ki_17, ki_20, ki_21, ki_22, ki_42, ki_50, ki_58, ki_66, ki_74, ki_140, ki_174, ki_179, ki_184, ki_189, ki_441, ki_13, ix1, ix2, nI_add, pk_mul]; with_reducible rfl) | rfl); (case hlt => first | decide | omega); (case hn => first | decide | omega))
    refine mT_c rfl rfl ?_
    rw [ix1]
    refine x_cMenOther _ _ _ (P k) hPk.1 ?_
    iterate 2 refine mT_s rfl rfl ?_
    (apply mT_getf; (case hc => rfl); (case ha => first | rfl | assumption); (case hf => first | rfl | assumption))
    refine mT_s rfl rfl ?_
    (apply mT_getf; (case hc => rfl); (case ha => first | rfl | assumption); (case hf => first | rfl | assumption))
    refine mT_s rfl rfl ?_
    (apply mT_getf; (case hc => rfl); (case ha => first | rfl | assumption); (case hf => first | rfl | assumption))
    iterate 3 refine mT_s rfl rfl ?_
    (apply mT_getf; (case hc => rfl); (case ha => first | rfl | assumption); (case hf => first | rfl | assumption))
    (apply mT_inv; (case hc => rfl); (case hd => rfl); (case hb => first | rfl | assumption); (case hg => rfl))
    refine x_oddsOf_21 _ h _ i iv s l le mo B p q (P k / 20 + 1) (P k % 20 + 1) g hp hq (by omega) (fun h2 r2 => ?_)
    have hod := (a_od_n s l p q (P k / 20 + 1) (P k % 20 + 1) g).2.2
    have D2 : h2 53 = _ := (r2.1 53 (by decide)).trans hD
    have C3 := C2.c (h2 := h2) (fun c z1 z2 => r2.1 c (by omega))
    have hC12 : h2 54 = _ := (r2.1 54 (by decide)).trans hC1
    have hpf2 : h2 55 = _ := (r2.1 55 (by decide)).trans hpf
    have hN2 : 87 ≤ m_nx h2 := nx_eq (r2.1 0 (by decide)) hN
    iterate 3 refine mT_s rfl rfl ?_
    (apply mT_getf; (case hc => rfl); (case ha => first | rfl | assumption); (case hf => first | rfl | assumption))
    refine mT_s rfl rfl ?_
    (apply mT_getf; (case hc => rfl); (case ha => first | rfl | assumption); (case hf => first | rfl | assumption))
    (apply mT_getf; (case hc => rfl); (case ha => first | rfl | assumption); (case hf => first | rfl | assumption))
    refine mT_s rfl rfl ?_
    (apply mT_ialdK; (case hc => rfl); (case ha => first | rfl | assumption); (case hk => first | (simp only [ki_0, ki_1, ki_2, ki_3, ki_4, ki_5, ki_6, ki_7, ki_8, ki_9, ki_10, ki_11, ki_12, ki_17, ki_20, ki_21, ki_22, ki_42, ki_50, ki_58, ki_66, ki_74, ki_140, ki_174, ki_179, ki_184, ki_189, ki_441, ki_13, nI_add, pk_mul]; with_reducible rfl) | (simp only [ki_0, ki_1, ki_2, ki_3, ki_4, ki_5, ki_6, ki_7, ki_8, ki_9, ki_10, ki_11, ki_12, ki_17, ki_20, ki_21, ki_22, ki_42, ki_50, ki_58, ki_66, ki_74, ki_140, ki_174, ki_179, ki_184, ki_189, ki_441, ki_13, ix1, nI_add, pk_mul]; with_reducible rfl) | (simp only [ki_0, ki_1, ki_2, ki_3, ki_4, ki_5, ki_6, ki_7, ki_8, ki_9, ki_10, ki_11, ki_12, ki_17, ki_20, ki_21, ki_22, ki_42, ki_50, ki_58, ki_66, ki_74, ki_140, ki_174, ki_179, ki_184, ki_189, ki_441, ki_13, ix1, ix2, nI_add, pk_mul]; with_reducible rfl) | (simp only [ki_0, ki_1, ki_2, ki_3, ki_4, ki_5, ki_6, ki_7, ki_8, ki_9, ki_10, ki_11, ki_12, ki_17, ki_20, ki_21, ki_22, ki_42, ki_50, ki_58, ki_66, ki_74, ki_140, ki_174, ki_179, ki_184, ki_189, ki_441, ki_13, ix1, ix2, ix3, nI_add, pk_mul]; with_reducible rfl) | (simp (disch := omega) only [upd_n, ki_0, ki_1, ki_2, ki_3, ki_4, ki_5, ki_6, ki_7, ki_8, ki_9, ki_10, ki_11, ki_12, ki_17, ki_20, ki_21, ki_22, ki_42, ki_50, ki_58, ki_66, ki_74, ki_140, ki_174, ki_179, ki_184, ki_189, ki_441, ki_13, ix1, nI_add, pk_mul]; with_reducible rfl) | (simp (disch := omega) only [upd_n, ki_0, ki_1, ki_2, ki_3, ki_4, ki_5, ki_6, ki_7, ki_8, ki_9, ki_10, ki_11, ki_12, ki_17, ki_20, ki_21, ki_22, ki_42, ki_50, ki_58, ki_66, ki_74, ki_140, ki_174, ki_179, ki_184, ki_189, ki_441, ki_13, ix1, ix2, nI_add, pk_mul]; with_reducible rfl) | rfl); (case hlt => first | decide | omega); (case hn => first | decide | omega))
    refine mT_s rfl rfl ?_
    (apply mT_inv; (case hc => rfl); (case hd => rfl); (case hb => first | rfl | assumption); (case hg => rfl))
    rw [ix1]
    refine x_part_54 _ h2 _ sz P lb W hN2 C3 (P k) 0 hPk.1 (by decide) ?_
    iterate 15 refine mT_s rfl rfl ?_
    rw [nI_1, stk (e := (a_od s l p q) (P k / 20 + 1) (P k % 20 + 1) g) (m := P k / 20 + 1) (n := P k % 20 + 1) (by omega) (by omega) (by omega)]
    exact ih (k + 1) h2 _ _ _ (by omega) (fun c z => (r2.1 c z).trans (fh c z)) r2.2
theorem x_stakeOfOne_54 (d : Nat) (Q : Option Value → mH → Prop) (i : Nat → Int32) (iv : Value) (s : Nat → Int32) (l : List Tok) (le mo : Nat) (hle : le ≤ 99) (hmo : mo ≤ 99) (p q g pl : Nat) (hp : p < 5) (hq : q < 5) (hg : g < 20000) (cnt : Bool) (sz : Nat) (P lb : Nat → Nat) (W : Nat → Int64) (h0 : mH) (B0 : rBs 21 h0 i iv s l le mo) (D0 : rDu h0 54 58 p q g pl cnt) (C0 : cCl h0 54 sz P lb W) (hS0 : cS W 0) (K : ∀ h2, (∀ c, c ≠ 30 → h2 c = h0 c) → (∃ f, h2 30 = .inl (0, 5, .inl f)) → Q (some (.long (FW W (stW (a_od s l p q) g)))) h2) : mT0 (d + 4) z_X2_stakeOfOne 0 (m_init z_X2_stakeOfOne [.ref 53]) [] h0 Q := by
  iterate 4 refine mT_s rfl rfl ?_
  refine x_sO_L54 d Q i iv s l le mo hle hmo p q g pl hp hq hg cnt sz P lb W h0 B0 D0 C0 hS0 (fun h2 f2 h9 => ?_) sz 0 h0 _ _ _ (by omega) (fun _ _ => rfl) B0.2.2.2.2.2.2.2
  have K := K h2 f2 h9
  rw [← FW_list C0.2.2.2.2 hS0 (by decide) (stW (a_od s l p q) g)] at K
  refine (congrArg (fun z => Q (some (.long z)) h2) (sL_congr (fun j hj => ?_))).mp K
  exact Int64.zero_add _
theorem x_tW_L58 (d : Nat) (Q : Option Value → mH → Prop) (p1 q1 g pl : Nat) (cnt : Bool) (sz : Nat) (P lb : Nat → Nat) (W : Nat → Int64) (h0 : mH) (hN0 : 87 ≤ m_nx h0) (D0 : rDu h0 58 54 p1 q1 g pl cnt) (C0 : cCl h0 58 sz P lb W) (w : Nat) (hw13 : w < 13) (K : ∀ h2 S W2, (∀ c, c ≠ 61 → h2 c = h0 c) → cCl h2 58 sz P lb W2 → (∀ (φ : Nat → Nat → Nat → Int64) (c : Int64), (∀ m o, φ w m o = c) → S * c + FW W2 φ = FW W φ) → (∀ k, k < 5200 → W2 k ≠ 0 → W k ≠ 0) → (∀ k, k < 5200 → k % 13 = w → W2 k = 0) → Q (some (.long S)) h2) : ∀ (r k : Nat) (h : mH) (S : Int64) (W2 : Nat → Int64), k + r = sz → (∀ c, c ≠ 61 → h c = h0 c) → cCl h 58 sz P lb W2 → (∀ (φ : Nat → Nat → Nat → Int64) (c : Int64), (∀ m o, φ w m o = c) → S * c + FW W2 φ = FW W φ) → (∀ k, k < 5200 → W2 k ≠ 0 → W k ≠ 0) → (∀ y, y < 5200 → y % 13 = w → W2 y = 0 ∨ ∀ j, j < k → P j ≠ y / 13) → mT0 (d + 1) z_X2_takesWon 17 [some (.ref 53), some (.int (nI w)), some (.long S), none, some (.int (nI k))] [] h Q := by
  intro r
  induction r with
  | zero =>
    intro k h S W2 hk fh C2 hV hZ hY
    have hD : h 53 = _ := (fh 53 (by decide)).trans D0
    have hN : 87 ≤ m_nx h := nx_eq (fh 0 (by decide)) hN0
    obtain ⟨hC1, ⟨pf, hpf, ep⟩, -, -, hI⟩ := id C2
    have hC1 : h 58 = .inr (1, [.ref 59, .int (nI sz), .ref 60, .ref 61]) := hC1
    have hpf : h 59 = _ := hpf
    have hszle := hI.le
    iterate 2 refine mT_s rfl rfl ?_
    (apply mT_getf; (case hc => rfl); (case ha => first | rfl | assumption); (case hf => first | rfl | assumption))
    (apply mT_getf; (case hc => rfl); (case ha => first | rfl | assumption); (case hf => first | rfl | assumption))
    refine mT_icmp_ge rfl (fun _ => ?_) (fun c => absurd (nI_le (a := sz) (b := k) (by omega) (by omega)) c)
    refine mT_s rfl rfl ?_
    refine mT_ret rfl rfl ?_
    obtain rfl : k = sz := by omega
    refine K h S W2 fh C2 hV hZ (fun j hj hw => ?_)
    rcases hY j hj hw with z | z
    · exact z
    · have h1 := hI.1 (j / 13) (by omega)
      rcases Nat.eq_zero_or_pos (lb (j / 13)) with y | y
      · exact hI.2.2.2.2.1 j hj y
      · obtain ⟨t, ht, e⟩ := hI.2.2.2.1 (j / 13) (by omega) (by omega)
        exact absurd e (z t ht)
  | succ r ih =>
    intro k h S W2 hk fh C2 hV hZ hY
    have hD : h 53 = _ := (fh 53 (by decide)).trans D0
    have hN : 87 ≤ m_nx h := nx_eq (fh 0 (by decide)) hN0
    obtain ⟨hC1, ⟨pf, hpf, ep⟩, -, -, hI⟩ := id C2
    have hC1 : h 58 = .inr (1, [.ref 59, .int (nI sz), .ref 60, .ref 61]) := hC1
    have hpf : h 59 = _ := hpf
    have hszle := hI.le
    iterate 2 refine mT_s rfl rfl ?_
    (apply mT_getf; (case hc => rfl); (case ha => first | rfl | assumption); (case hf => first | rfl | assumption))
    (apply mT_getf; (case hc => rfl); (case ha => first | rfl | assumption); (case hf => first | rfl | assumption))
    have ix1 := ep k (by omega)
    have hPk := hI.2.2.1 k (by omega)
    refine mT_icmp_ge rfl (fun c => absurd c (nI_ge (a := k) (b := sz) (by omega) (by omega))) (fun _ => ?_)
    iterate 2 refine mT_s rfl rfl ?_
    (apply mT_getf; (case hc => rfl); (case ha => first | rfl | assumption); (case hf => first | rfl | assumption))
    refine mT_s rfl rfl ?_
    (apply mT_getf; (case hc => rfl); (case ha => first | rfl | assumption); (case hf => first | rfl | assumption))
    (apply mT_getf; (case hc => rfl); (case ha => first | rfl | assumption); (case hf => first | rfl | assumption))
    refine mT_s rfl rfl ?_
    (apply mT_ialdK; (case hc => rfl); (case ha => first | rfl | assumption); (case hk => first | (simp only [ki_0, ki_1, ki_2, ki_3, ki_4, ki_5, ki_6, ki_7, ki_8, ki_9, ki_10, ki_11, ki_12, ki_17, ki_20, ki_21, ki_22, ki_42, ki_50, ki_58, ki_66, ki_74, ki_140, ki_174, ki_179, ki_184, ki_189, ki_441, ki_13, nI_add, pk_mul]; with_reducible rfl) | (simp only [ki_0, ki_1, ki_2, ki_3, ki_4, ki_5, ki_6, ki_7, ki_8, ki_9, ki_10, ki_11, ki_12, ki_17, ki_20, ki_21, ki_22, ki_42, ki_50, ki_58, ki_66, ki_74, ki_140, ki_174, ki_179, ki_184, ki_189, ki_441, ki_13, ix1, nI_add, pk_mul]; with_reducible rfl) | (simp only [ki_0, ki_1, ki_2, ki_3, ki_4, ki_5, ki_6, ki_7, ki_8, ki_9, ki_10, ki_11, ki_12, ki_17, ki_20, ki_21, ki_22, ki_42, ki_50, ki_58, ki_66, ki_74, ki_140, ki_174, ki_179, ki_184, ki_189, ki_441, ki_13, ix1, ix2, nI_add, pk_mul]; with_reducible rfl) | (simp only [ki_0, ki_1, ki_2, ki_3, ki_4, ki_5, ki_6, ki_7, ki_8, ki_9, ki_10, ki_11, ki_12, ki_17, ki_20, ki_21, ki_22, ki_42, ki_50, ki_58, ki_66, ki_74, ki_140, ki_174, ki_179, ki_184, ki_189, ki_441, ki_13, ix1, ix2, ix3, nI_add, pk_mul]; with_reducible rfl) | (simp (disch := omega) only [upd_n, ki_0, ki_1, ki_2, ki_3, ki_4, ki_5, ki_6, ki_7, ki_8, ki_9, ki_10, ki_11, ki_12, ki_17, ki_20, ki_21, ki_22, ki_42, ki_50, ki_58, ki_66, ki_74, ki_140, ki_174, ki_179, ki_184, ki_189, ki_441, ki_13, ix1, nI_add, pk_mul]; with_reducible rfl) | (simp (disch := omega) only [upd_n, ki_0, ki_1, ki_2, ki_3, ki_4, ki_5, ki_6, ki_7, ki_8, ki_9, ki_10, ki_11, ki_12, ki_17, ki_20, ki_21, ki_22, ki_42, ki_50, ki_58, ki_66, ki_74, ki_140, ki_174, ki_179, ki_184, ki_189, ki_441, ki_13, ix1, ix2, nI_add, pk_mul]; with_reducible rfl) | rfl); (case hlt => first | decide | omega); (case hn => first | decide | omega))
    refine mT_s rfl rfl ?_
    (apply mT_inv; (case hc => rfl); (case hd => rfl); (case hb => first | rfl | assumption); (case hg => rfl))
    rw [ix1]
    refine x_take_58 _ h _ sz P lb W2 hN C2 (P k) w hPk.1 hw13 hPk.2 (fun h3 f3 C3 => ?_)
    iterate 4 refine mT_s rfl rfl ?_
    rw [nI_1]
    refine ih (k + 1) h3 _ _ (by omega) (fun c z => (f3 c z).trans (fh c z)) C3 (fun φ c hφ => ?_) (fun j hj hn => ?_) (fun j hj hw => ?_)
    · rw [← hV φ c hφ, ← FW_zero W2 φ hPk.1 (show w < 13 from hw13), hφ]
      grind
    · by_cases e : j = P k * 13 + w
      · subst e; rw [pk_uLs] at hn; exact absurd rfl hn
      · rw [pk_uLn e] at hn; exact hZ j hj hn
    · by_cases e : j = P k * 13 + w
      · subst e; exact Or.inl pk_uLs
      · rw [pk_uLn e]
        rcases hY j hj hw with z | z
        · exact Or.inl z
        · refine Or.inr (fun t ht => ?_)
          by_cases e2 : t = k
          · subst e2; exact fun z2 => e (by omega)
          · exact z t (by omega)
theorem x_takesWon_58 (d : Nat) (Q : Option Value → mH → Prop) (p1 q1 g pl : Nat) (cnt : Bool) (sz : Nat) (P lb : Nat → Nat) (W : Nat → Int64) (h0 : mH) (hN0 : 87 ≤ m_nx h0) (D0 : rDu h0 58 54 p1 q1 g pl cnt) (C0 : cCl h0 58 sz P lb W) (w : Nat) (hw13 : w < 13) (K : ∀ h2 S W2, (∀ c, c ≠ 61 → h2 c = h0 c) → cCl h2 58 sz P lb W2 → (∀ (φ : Nat → Nat → Nat → Int64) (c : Int64), (∀ m o, φ w m o = c) → S * c + FW W2 φ = FW W φ) → (∀ k, k < 5200 → W2 k ≠ 0 → W k ≠ 0) → (∀ k, k < 5200 → k % 13 = w → W2 k = 0) → Q (some (.long S)) h2) : mT0 (d + 1) z_X2_takesWon 0 (m_init z_X2_takesWon [.ref 53, .int (nI w)]) [] h0 Q := by
  refine mT_s rfl rfl ?_
  refine mT_if_lt rfl (fun c => absurd c (nI_pos (by omega))) (fun _ => ?_)
  iterate 2 refine mT_s rfl rfl ?_
  refine mT_icmp_lt rfl (fun _ => ?_) (fun c => absurd (nI_lt (a := w) (b := 13) (by omega) (by omega)) c)
  iterate 4 refine mT_s rfl rfl ?_
  exact x_tW_L58 d Q p1 q1 g pl cnt sz P lb W h0 hN0 D0 C0 w hw13 K sz 0 h0 0 W (by omega) (fun _ _ => rfl) C0 (fun φ c _ => by rw [Int64.zero_mul, Int64.zero_add]) (fun _ _ z => z) (fun _ _ _ => Or.inr (fun j hj => absurd hj (by omega)))
theorem x_tE_L58 (d : Nat) (Q : Option Value → mH → Prop) (p1 q1 g pl : Nat) (cnt : Bool) (sz : Nat) (P lb : Nat → Nat) (W : Nat → Int64) (h0 : mH) (hN0 : 87 ≤ m_nx h0) (D0 : rDu h0 58 54 p1 q1 g pl cnt) (C0 : cCl h0 58 sz P lb W) (K : ∀ h2 S W2, (∀ c, c ≠ 61 → h2 c = h0 c) → cCl h2 58 sz P lb W2 → (∀ (φ : Nat → Nat → Nat → Int64) (c : Int64), (∀ o, φ 0 1 o = c) → S * c + FW W2 φ = FW W φ) → (∀ k, k < 5200 → W2 k ≠ 0 → W k ≠ 0) → (∀ k, k < 5200 → (k % 13 = 0 ∧ k / 13 / 20 + 1 = 1) → W2 k = 0) → Q (some (.long S)) h2) : ∀ (r k : Nat) (h : mH) (S : Int64) (W2 : Nat → Int64), k + r = sz → (∀ c, c ≠ 61 → h c = h0 c) → cCl h 58 sz P lb W2 → (∀ (φ : Nat → Nat → Nat → Int64) (c : Int64), (∀ o, φ 0 1 o = c) → S * c + FW W2 φ = FW W φ) → (∀ k, k < 5200 → W2 k ≠ 0 → W k ≠ 0) → (∀ y, y < 5200 → (y % 13 = 0 ∧ y / 13 / 20 + 1 = 1) → W2 y = 0 ∨ ∀ j, j < k → P j ≠ y / 13) → mT0 (d + 1) z_X2_takesEnded 4 [some (.ref 53), some (.long S), none, some (.int (nI k))] [] h Q := by
  intro r
  induction r with
  | zero =>
    intro k h S W2 hk fh C2 hV hZ hY
    have hD : h 53 = _ := (fh 53 (by decide)).trans D0
    have hN : 87 ≤ m_nx h := nx_eq (fh 0 (by decide)) hN0
    obtain ⟨hC1, ⟨pf, hpf, ep⟩, -, -, hI⟩ := id C2
    have hC1 : h 58 = .inr (1, [.ref 59, .int (nI sz), .ref 60, .ref 61]) := hC1
    have hpf : h 59 = _ := hpf
    have hszle := hI.le
    iterate 2 refine mT_s rfl rfl ?_
    (apply mT_getf; (case hc => rfl); (case ha => first | rfl | assumption); (case hf => first | rfl | assumption))
    (apply mT_getf; (case hc => rfl); (case ha => first | rfl | assumption); (case hf => first | rfl | assumption))
    refine mT_icmp_ge rfl (fun _ => ?_) (fun c => absurd (nI_le (a := sz) (b := k) (by omega) (by omega)) c)
    refine mT_s rfl rfl ?_
    refine mT_ret rfl rfl ?_
    obtain rfl : k = sz := by omega
    refine K h S W2 fh C2 hV hZ (fun j hj hw => ?_)
    rcases hY j hj hw with z | z
    · exact z
    · have h1 := hI.1 (j / 13) (by omega)
      rcases Nat.eq_zero_or_pos (lb (j / 13)) with y | y
      · exact hI.2.2.2.2.1 j hj y
      · obtain ⟨t, ht, e⟩ := hI.2.2.2.1 (j / 13) (by omega) (by omega)
        exact absurd e (z t ht)
  | succ r ih =>
    intro k h S W2 hk fh C2 hV hZ hY
    have hD : h 53 = _ := (fh 53 (by decide)).trans D0
    have hN : 87 ≤ m_nx h := nx_eq (fh 0 (by decide)) hN0
    obtain ⟨hC1, ⟨pf, hpf, ep⟩, -, -, hI⟩ := id C2
    have hC1 : h 58 = .inr (1, [.ref 59, .int (nI sz), .ref 60, .ref 61]) := hC1
    have hpf : h 59 = _ := hpf
    have hszle := hI.le
    iterate 2 refine mT_s rfl rfl ?_
    (apply mT_getf; (case hc => rfl); (case ha => first | rfl | assumption); (case hf => first | rfl | assumption))
    (apply mT_getf; (case hc => rfl); (case ha => first | rfl | assumption); (case hf => first | rfl | assumption))
    have ix1 := ep k (by omega)
    have hPk := hI.2.2.1 k (by omega)
    refine mT_icmp_ge rfl (fun c => absurd c (nI_ge (a := k) (b := sz) (by omega) (by omega))) (fun _ => ?_)
    refine mT_s rfl rfl ?_
    (apply mT_getf; (case hc => rfl); (case ha => first | rfl | assumption); (case hf => first | rfl | assumption))
    (apply mT_getf; (case hc => rfl); (case ha => first | rfl | assumption); (case hf => first | rfl | assumption))
    refine mT_s rfl rfl ?_
    (apply mT_ialdK; (case hc => rfl); (case ha => first | rfl | assumption); (case hk => first | (simp only [ki_0, ki_1, ki_2, ki_3, ki_4, ki_5, ki_6, ki_7, ki_8, ki_9, ki_10, ki_11, ki_12, ki_17, ki_20, ki_21, ki_22, ki_42, ki_50, ki_58, ki_66, ki_74, ki_140, ki_174, ki_179, ki_184, ki_189, ki_441, ki_13, nI_add, pk_mul]; with_reducible rfl) | (simp only [ki_0, ki_1, ki_2, ki_3, ki_4, ki_5, ki_6, ki_7, ki_8, ki_9, ki_10, ki_11, ki_12, ki_17, ki_20, ki_21, ki_22, ki_42, ki_50, ki_58, ki_66, ki_74, ki_140, ki_174, ki_179, ki_184, ki_189, ki_441, ki_13, ix1, nI_add, pk_mul]; with_reducible rfl) | (simp only [ki_0, ki_1, ki_2, ki_3, ki_4, ki_5, ki_6, ki_7, ki_8, ki_9, ki_10, ki_11, ki_12, ki_17, ki_20, ki_21, ki_22, ki_42, ki_50, ki_58, ki_66, ki_74, ki_140, ki_174, ki_179, ki_184, ki_189, ki_441, ki_13, ix1, ix2, nI_add, pk_mul]; with_reducible rfl) | (simp only [ki_0, ki_1, ki_2, ki_3, ki_4, ki_5, ki_6, ki_7, ki_8, ki_9, ki_10, ki_11, ki_12, ki_17, ki_20, ki_21, ki_22, ki_42, ki_50, ki_58, ki_66, ki_74, ki_140, ki_174, ki_179, ki_184, ki_189, ki_441, ki_13, ix1, ix2, ix3, nI_add, pk_mul]; with_reducible rfl) | (simp (disch := omega) only [upd_n, ki_0, ki_1, ki_2, ki_3, ki_4, ki_5, ki_6, ki_7, ki_8, ki_9, ki_10, ki_11, ki_12, ki_17, ki_20, ki_21, ki_22, ki_42, ki_50, ki_58, ki_66, ki_74, ki_140, ki_174, ki_179, ki_184, ki_189, ki_441, ki_13, ix1, nI_add, pk_mul]; with_reducible rfl) | (simp (disch := omega) only [upd_n, ki_0, ki_1, ki_2, ki_3, ki_4, ki_5, ki_6, ki_7, ki_8, ki_9, ki_10, ki_11, ki_12, ki_17, ki_20, ki_21, ki_22, ki_42, ki_50, ki_58, ki_66, ki_74, ki_140, ki_174, ki_179, ki_184, ki_189, ki_441, ki_13, ix1, ix2, nI_add, pk_mul]; with_reducible rfl) | rfl); (case hlt => first | decide | omega); (case hn => first | decide | omega))
    refine mT_c rfl rfl ?_
    rw [ix1]
    refine x_cMenOne _ _ _ (P k) hPk.1 ?_
    refine mT_s rfl rfl ?_
    refine mT_icmp_ne rfl (fun c28 => ?_) (fun c28 => ?_)
    · have c28 : ¬ P k / 20 + 1 = 1 := fun z => c28 (congrArg nI z)
      iterate 2 refine mT_s rfl rfl ?_
      rw [nI_1]
      refine ih (k + 1) h _ _ (by omega) fh C2 hV hZ (fun j hj hw => ?_)
      rcases hY j hj hw with z | z
      · exact Or.inl z
      · refine Or.inr (fun t ht => ?_)
        by_cases e2 : t = k
        · subst e2; exact fun z2 => c28 (by rw [z2]; exact hw.2)
        · exact z t (by omega)
    · have c28 : P k / 20 + 1 = 1 := (nI_eq (b := 1) (by omega) (by omega)).mp c28
      iterate 2 refine mT_s rfl rfl ?_
      (apply mT_getf; (case hc => rfl); (case ha => first | rfl | assumption); (case hf => first | rfl | assumption))
      refine mT_s rfl rfl ?_
      (apply mT_getf; (case hc => rfl); (case ha => first | rfl | assumption); (case hf => first | rfl | assumption))
      (apply mT_getf; (case hc => rfl); (case ha => first | rfl | assumption); (case hf => first | rfl | assumption))
      refine mT_s rfl rfl ?_
      (apply mT_ialdK; (case hc => rfl); (case ha => first | rfl | assumption); (case hk => first | (simp only [ki_0, ki_1, ki_2, ki_3, ki_4, ki_5, ki_6, ki_7, ki_8, ki_9, ki_10, ki_11, ki_12, ki_17, ki_20, ki_21, ki_22, ki_42, ki_50, ki_58, ki_66, ki_74, ki_140, ki_174, ki_179, ki_184, ki_189, ki_441, ki_13, nI_add, pk_mul]; with_reducible rfl) | (simp only [ki_0, ki_1, ki_2, ki_3, ki_4, ki_5, ki_6, ki_7, ki_8, ki_9, ki_10, ki_11, ki_12, ki_17, ki_20, ki_21, ki_22, ki_42, ki_50, ki_58, ki_66, ki_74, ki_140, ki_174, ki_179, ki_184, ki_189, ki_441, ki_13, ix1, nI_add, pk_mul]; with_reducible rfl) | (simp only [ki_0, ki_1, ki_2, ki_3, ki_4, ki_5, ki_6, ki_7, ki_8, ki_9, ki_10, ki_11, ki_12, ki_17, ki_20, ki_21, ki_22, ki_42, ki_50, ki_58, ki_66, ki_74, ki_140, ki_174, ki_179, ki_184, ki_189, ki_441, ki_13, ix1, ix2, nI_add, pk_mul]; with_reducible rfl) | (simp only [ki_0, ki_1, ki_2, ki_3, ki_4, ki_5, ki_6, ki_7, ki_8, ki_9, ki_10, ki_11, ki_12, ki_17, ki_20, ki_21, ki_22, ki_42, ki_50, ki_58, ki_66, ki_74, ki_140, ki_174, ki_179, ki_184, ki_189, ki_441, ki_13, ix1, ix2, ix3, nI_add, pk_mul]; with_reducible rfl) | (simp (disch := omega) only [upd_n, ki_0, ki_1, ki_2, ki_3, ki_4, ki_5, ki_6, ki_7, ki_8, ki_9, ki_10, ki_11, ki_12, ki_17, ki_20, ki_21, ki_22, ki_42, ki_50, ki_58, ki_66, ki_74, ki_140, ki_174, ki_179, ki_184, ki_189, ki_441, ki_13, ix1, nI_add, pk_mul]; with_reducible rfl) | (simp (disch := omega) only [upd_n, ki_0, ki_1, ki_2, ki_3, ki_4, ki_5, ki_6, ki_7, ki_8, ki_9, ki_10, ki_11, ki_12, ki_17, ki_20, ki_21, ki_22, ki_42, ki_50, ki_58, ki_66, ki_74, ki_140, ki_174, ki_179, ki_184, ki_189, ki_441, ki_13, ix1, ix2, nI_add, pk_mul]; with_reducible rfl) | rfl); (case hlt => first | decide | omega); (case hn => first | decide | omega))
      refine mT_s rfl rfl ?_
      (apply mT_inv; (case hc => rfl); (case hd => rfl); (case hb => first | rfl | assumption); (case hg => rfl))
      rw [ix1]
      refine x_take_58 _ h _ sz P lb W2 hN C2 (P k) 0 hPk.1 (by decide) hPk.2 (fun h3 f3 C3 => ?_)
      iterate 4 refine mT_s rfl rfl ?_
      rw [nI_1]
      refine ih (k + 1) h3 _ _ (by omega) (fun c z => (f3 c z).trans (fh c z)) C3 (fun φ c hφ => ?_) (fun j hj hn => ?_) (fun j hj hw => ?_)
      · rw [← hV φ c hφ, ← FW_zero W2 φ hPk.1 (show 0 < 13 by decide), c28, hφ]
        grind
      · by_cases e : j = P k * 13 + 0
        · subst e; rw [pk_uLs] at hn; exact absurd rfl hn
        · rw [pk_uLn e] at hn; exact hZ j hj hn
      · by_cases e : j = P k * 13 + 0
        · subst e; exact Or.inl pk_uLs
        · rw [pk_uLn e]
          rcases hY j hj hw with z | z
          · exact Or.inl z
          · refine Or.inr (fun t ht => ?_)
            by_cases e2 : t = k
            · subst e2; exact fun z2 => e (by omega)
            · exact z t (by omega)
theorem x_takesEnded_58 (d : Nat) (Q : Option Value → mH → Prop) (p1 q1 g pl : Nat) (cnt : Bool) (sz : Nat) (P lb : Nat → Nat) (W : Nat → Int64) (h0 : mH) (hN0 : 87 ≤ m_nx h0) (D0 : rDu h0 58 54 p1 q1 g pl cnt) (C0 : cCl h0 58 sz P lb W) (K : ∀ h2 S W2, (∀ c, c ≠ 61 → h2 c = h0 c) → cCl h2 58 sz P lb W2 → (∀ (φ : Nat → Nat → Nat → Int64) (c : Int64), (∀ o, φ 0 1 o = c) → S * c + FW W2 φ = FW W φ) → (∀ k, k < 5200 → W2 k ≠ 0 → W k ≠ 0) → (∀ k, k < 5200 → (k % 13 = 0 ∧ k / 13 / 20 + 1 = 1) → W2 k = 0) → Q (some (.long S)) h2) : mT0 (d + 1) z_X2_takesEnded 0 (m_init z_X2_takesEnded [.ref 53]) [] h0 Q := by
  iterate 4 refine mT_s rfl rfl ?_
  exact x_tE_L58 d Q p1 q1 g pl cnt sz P lb W h0 hN0 D0 C0 K sz 0 h0 0 W (by omega) (fun _ _ => rfl) C0 (fun φ c _ => by rw [Int64.zero_mul, Int64.zero_add]) (fun _ _ z => z) (fun _ _ _ => Or.inr (fun j hj => absurd hj (by omega)))
theorem x_mO_L58 (d : Nat) (Q : Option Value → mH → Prop) (p1 q1 g pl : Nat) (cnt : Bool) (sz : Nat) (P lb : Nat → Nat) (W : Nat → Int64) (h : mH) (hN : 87 ≤ m_nx h) (D0 : rDu h 58 54 p1 q1 g pl cnt) (C2 : cCl h 58 sz P lb W) (hS0 : cS W 0) (K : Q (some (.long (sL (fun j => W (P j * 13 + 0) * lN (P j / 20 + 1)) sz))) h) : ∀ (r k : Nat), k + r = sz → mT0 (d + 1) z_X2_menOfOne 4 [some (.ref 53), some (.long (sL (fun j => W (P j * 13 + 0) * lN (P j / 20 + 1)) k)), none, some (.int (nI k))] [] h Q := by
  have hD : h 53 = _ := D0
  obtain ⟨hC1, ⟨pf, hpf, ep⟩, -, -, hI⟩ := id C2
  have hC1 : h 58 = .inr (1, [.ref 59, .int (nI sz), .ref 60, .ref 61]) := hC1
  have hpf : h 59 = _ := hpf
  have hszle := hI.le
  intro r
  induction r with
  | zero =>
    intro k hk
    iterate 2 refine mT_s rfl rfl ?_
    (apply mT_getf; (case hc => rfl); (case ha => first | rfl | assumption); (case hf => first | rfl | assumption))
    (apply mT_getf; (case hc => rfl); (case ha => first | rfl | assumption); (case hf => first | rfl | assumption))
    refine mT_icmp_ge rfl (fun _ => ?_) (fun c => absurd (nI_le (a := sz) (b := k) (by omega) (by omega)) c)
    refine mT_s rfl rfl ?_
    refine mT_ret rfl rfl ?_
    obtain rfl : k = sz := by omega
    exact K
  | succ r ih =>
    intro k hk
    iterate 2 refine mT_s rfl rfl ?_
    (apply mT_getf; (case hc => rfl); (case ha => first | rfl | assumption); (case hf => first | rfl | assumption))
    (apply mT_getf; (case hc => rfl); (case ha => first | rfl | assumption); (case hf => first | rfl | assumption))
    have ix1 := ep k (by omega)
    have hPk := hI.2.2.1 k (by omega)
    refine mT_icmp_ge rfl (fun c => absurd c (nI_ge (a := k) (b := sz) (by omega) (by omega))) (fun _ => ?_)
    iterate 2 refine mT_s rfl rfl ?_
    (apply mT_getf; (case hc => rfl); (case ha => first | rfl | assumption); (case hf => first | rfl | assumption))
    refine mT_s rfl rfl ?_
    (apply mT_getf; (case hc => rfl); (case ha => first | rfl | assumption); (case hf => first | rfl | assumption))
    (apply mT_getf; (case hc => rfl); (case ha => first | rfl | assumption); (case hf => first | rfl | assumption))
    refine mT_s rfl rfl ?_
    (apply mT_ialdK; (case hc => rfl); (case ha => first | rfl | assumption); (case hk => first | (simp only [ki_0, ki_1, ki_2, ki_3, ki_4, ki_5, ki_6, ki_7, ki_8, ki_9, ki_10, ki_11, ki_12, ki_17, ki_20, ki_21, ki_22, ki_42, ki_50, ki_58, ki_66, ki_74, ki_140, ki_174, ki_179, ki_184, ki_189, ki_441, ki_13, nI_add, pk_mul]; with_reducible rfl) | (simp only [ki_0, ki_1, ki_2, ki_3, ki_4, ki_5, ki_6, ki_7, ki_8, ki_9, ki_10, ki_11, ki_12, ki_17, ki_20, ki_21, ki_22, ki_42, ki_50, ki_58, ki_66, ki_74, ki_140, ki_174, ki_179, ki_184, ki_189, ki_441, ki_13, ix1, nI_add, pk_mul]; with_reducible rfl) | (simp only [ki_0, ki_1, ki_2, ki_3, ki_4, ki_5, ki_6, ki_7, ki_8, ki_9, ki_10, ki_11, ki_12, ki_17, ki_20, ki_21, ki_22, ki_42, ki_50, ki_58, ki_66, ki_74, ki_140, ki_174, ki_179, ki_184, ki_189, ki_441, ki_13, ix1, ix2, nI_add, pk_mul]; with_reducible rfl) | (simp only [ki_0, ki_1, ki_2, ki_3, ki_4, ki_5, ki_6, ki_7, ki_8, ki_9, ki_10, ki_11, ki_12, ki_17, ki_20, ki_21, ki_22, ki_42, ki_50, ki_58, ki_66, ki_74, ki_140, ki_174, ki_179, ki_184, ki_189, ki_441, ki_13, ix1, ix2, ix3, nI_add, pk_mul]; with_reducible rfl) | (simp (disch := omega) only [upd_n, ki_0, ki_1, ki_2, ki_3, ki_4, ki_5, ki_6, ki_7, ki_8, ki_9, ki_10, ki_11, ki_12, ki_17, ki_20, ki_21, ki_22, ki_42, ki_50, ki_58, ki_66, ki_74, ki_140, ki_174, ki_179, ki_184, ki_189, ki_441, ki_13, ix1, nI_add, pk_mul]; with_reducible rfl) | (simp (disch := omega) only [upd_n, ki_0, ki_1, ki_2, ki_3, ki_4, ki_5, ki_6, ki_7, ki_8, ki_9, ki_10, ki_11, ki_12, ki_17, ki_20, ki_21, ki_22, ki_42, ki_50, ki_58, ki_66, ki_74, ki_140, ki_174, ki_179, ki_184, ki_189, ki_441, ki_13, ix1, ix2, nI_add, pk_mul]; with_reducible rfl) | rfl); (case hlt => first | decide | omega); (case hn => first | decide | omega))
    refine mT_s rfl rfl ?_
    (apply mT_inv; (case hc => rfl); (case hd => rfl); (case hb => first | rfl | assumption); (case hg => rfl))
    rw [ix1]
    refine x_part_58 _ h _ sz P lb W hN C2 (P k) 0 hPk.1 (by decide) ?_
    refine mT_s rfl rfl ?_
    (apply mT_getf; (case hc => rfl); (case ha => first | rfl | assumption); (case hf => first | rfl | assumption))
    (apply mT_getf; (case hc => rfl); (case ha => first | rfl | assumption); (case hf => first | rfl | assumption))
    refine mT_s rfl rfl ?_
    (apply mT_ialdK; (case hc => rfl); (case ha => first | rfl | assumption); (case hk => first | (simp only [ki_0, ki_1, ki_2, ki_3, ki_4, ki_5, ki_6, ki_7, ki_8, ki_9, ki_10, ki_11, ki_12, ki_17, ki_20, ki_21, ki_22, ki_42, ki_50, ki_58, ki_66, ki_74, ki_140, ki_174, ki_179, ki_184, ki_189, ki_441, ki_13, nI_add, pk_mul]; with_reducible rfl) | (simp only [ki_0, ki_1, ki_2, ki_3, ki_4, ki_5, ki_6, ki_7, ki_8, ki_9, ki_10, ki_11, ki_12, ki_17, ki_20, ki_21, ki_22, ki_42, ki_50, ki_58, ki_66, ki_74, ki_140, ki_174, ki_179, ki_184, ki_189, ki_441, ki_13, ix1, nI_add, pk_mul]; with_reducible rfl) | (simp only [ki_0, ki_1, ki_2, ki_3, ki_4, ki_5, ki_6, ki_7, ki_8, ki_9, ki_10, ki_11, ki_12, ki_17, ki_20, ki_21, ki_22, ki_42, ki_50, ki_58, ki_66, ki_74, ki_140, ki_174, ki_179, ki_184, ki_189, ki_441, ki_13, ix1, ix2, nI_add, pk_mul]; with_reducible rfl) | (simp only [ki_0, ki_1, ki_2, ki_3, ki_4, ki_5, ki_6, ki_7, ki_8, ki_9, ki_10, ki_11, ki_12, ki_17, ki_20, ki_21, ki_22, ki_42, ki_50, ki_58, ki_66, ki_74, ki_140, ki_174, ki_179, ki_184, ki_189, ki_441, ki_13, ix1, ix2, ix3, nI_add, pk_mul]; with_reducible rfl) | (simp (disch := omega) only [upd_n, ki_0, ki_1, ki_2, ki_3, ki_4, ki_5, ki_6, ki_7, ki_8, ki_9, ki_10, ki_11, ki_12, ki_17, ki_20, ki_21, ki_22, ki_42, ki_50, ki_58, ki_66, ki_74, ki_140, ki_174, ki_179, ki_184, ki_189, ki_441, ki_13, ix1, nI_add, pk_mul]; with_reducible rfl) | (simp (disch := omega) only [upd_n, ki_0, ki_1, ki_2, ki_3, ki_4, ki_5, ki_6, ki_7, ki_8, ki_9, ki_10, ki_11, ki_12, ki_17, ki_20, ki_21, ki_22, ki_42, ki_50, ki_58, ki_66, ki_74, ki_140, ki_174, ki_179, ki_184, ki_189, ki_441, ki_13, ix1, ix2, nI_add, pk_mul]; with_reducible rfl) | rfl); (case hlt => first | decide | omega); (case hn => first | decide | omega))
    refine mT_c rfl rfl ?_
    rw [ix1]
    refine x_cMenOne _ _ _ (P k) hPk.1 ?_
    iterate 6 refine mT_s rfl rfl ?_
    rw [nI_1, nL_32 (show P k / 20 + 1 ≤ 1000 by have := hPk.1; omega)]
    exact ih (k + 1) (by omega)
theorem x_menOfOne_58 (d : Nat) (Q : Option Value → mH → Prop) (p1 q1 g pl : Nat) (cnt : Bool) (sz : Nat) (P lb : Nat → Nat) (W : Nat → Int64) (h : mH) (hN : 87 ≤ m_nx h) (D0 : rDu h 58 54 p1 q1 g pl cnt) (C2 : cCl h 58 sz P lb W) (hS0 : cS W 0) (K : Q (some (.long (FW W (fun _ m _ => lN m)))) h) : mT0 (d + 1) z_X2_menOfOne 0 (m_init z_X2_menOfOne [.ref 53]) [] h Q := by
  iterate 4 refine mT_s rfl rfl ?_
  refine x_mO_L58 d Q p1 q1 g pl cnt sz P lb W h hN D0 C2 hS0 ?_ sz 0 (by omega)
  rw [← FW_list C2.2.2.2.2 hS0 (by decide) (fun _ m _ => lN m)] at K
  refine (congrArg (fun z => Q (some (.long z)) h) (sL_congr (fun j hj => ?_))).mp K
  exact Int64.zero_add _
theorem x_sO_L58 (d : Nat) (Q : Option Value → mH → Prop) (i : Nat → Int32) (iv : Value) (s : Nat → Int32) (l : List Tok) (le mo : Nat) (hle : le ≤ 99) (hmo : mo ≤ 99) (p q g pl : Nat) (hp : p < 5) (hq : q < 5) (hg : g < 20000) (cnt : Bool) (sz : Nat) (P lb : Nat → Nat) (W : Nat → Int64) (h0 : mH) (B0 : rBs 21 h0 i iv s l le mo) (D0 : rDu h0 58 54 p q g pl cnt) (C0 : cCl h0 58 sz P lb W) (hS0 : cS W 0) (K : ∀ h2, (∀ c, c ≠ 30 → h2 c = h0 c) → (∃ f, h2 30 = .inl (0, 5, .inl f)) → Q (some (.long (sL (fun j => W (P j * 13 + 0) * stW (a_od s l p q) g 0 (P j / 20 + 1) (P j % 20 + 1)) sz))) h2) : ∀ (r k : Nat) (h : mH) (x4 x5 x6 : Option Value), k + r = sz → (∀ c, c ≠ 30 → h c = h0 c) → (∃ f, h 30 = .inl (0, 5, .inl f)) → mT0 (d + 4) z_X2_stakeOfOne 4 [some (.ref 53), some (.long (sL (fun j => W (P j * 13 + 0) * stW (a_od s l p q) g 0 (P j / 20 + 1) (P j % 20 + 1)) k)), none, some (.int (nI k)), x4, x5, x6] [] h Q := by
  intro r
  induction r with
  | zero =>
    intro k h x4 x5 x6 hk fh h9
    have B := B0.d5 (h2 := h) (fun c z1 z2 => fh c z1) h9
    obtain ⟨hR, hN, -, -, -, -, -, -⟩ := id B
    have hD : h 53 = _ := (fh 53 (by decide)).trans D0
    have C2 := C0.c (h2 := h) (fun c z1 z2 => fh c (by omega))
    obtain ⟨hC1, ⟨pf, hpf, ep⟩, -, -, hI⟩ := id C2
    have hC1 : h 58 = .inr (1, [.ref 59, .int (nI sz), .ref 60, .ref 61]) := hC1
    have hpf : h 59 = _ := hpf
    have hszle := hI.le
    iterate 2 refine mT_s rfl rfl ?_
    (apply mT_getf; (case hc => rfl); (case ha => first | rfl | assumption); (case hf => first | rfl | assumption))
    (apply mT_getf; (case hc => rfl); (case ha => first | rfl | assumption); (case hf => first | rfl | assumption))
    refine mT_icmp_ge rfl (fun _ => ?_) (fun c => absurd (nI_le (a := sz) (b := k) (by omega) (by omega)) c)
    refine mT_s rfl rfl ?_
    refine mT_ret rfl rfl ?_
    obtain rfl : k = sz := by omega
    exact K h fh h9
  | succ r ih =>
    intro k h x4 x5 x6 hk fh h9
    have B := B0.d5 (h2 := h) (fun c z1 z2 => fh c z1) h9
    obtain ⟨hR, hN, -, -, -, -, -, -⟩ := id B
    have hD : h 53 = _ := (fh 53 (by decide)).trans D0
    have C2 := C0.c (h2 := h) (fun c z1 z2 => fh c (by omega))
    obtain ⟨hC1, ⟨pf, hpf, ep⟩, -, -, hI⟩ := id C2
    have hC1 : h 58 = .inr (1, [.ref 59, .int (nI sz), .ref 60, .ref 61]) := hC1
    have hpf : h 59 = _ := hpf
    have hszle := hI.le
    iterate 2 refine mT_s rfl rfl ?_
    (apply mT_getf; (case hc => rfl); (case ha => first | rfl | assumption); (case hf => first | rfl | assumption))
    (apply mT_getf; (case hc => rfl); (case ha => first | rfl | assumption); (case hf => first | rfl | assumption))
    have ix1 := ep k (by omega)
    have hPk := hI.2.2.1 k (by omega)
    refine mT_icmp_ge rfl (fun c => absurd c (nI_ge (a := k) (b := sz) (by omega) (by omega))) (fun _ => ?_)
    refine mT_s rfl rfl ?_
    (apply mT_getf; (case hc => rfl); (case ha => first | rfl | assumption); (case hf => first | rfl | assumption))
    (apply mT_getf; (case hc => rfl); (case ha => first | rfl | assumption); (case hf => first | rfl | assumption))
    refine mT_s rfl rfl ?_
    (apply mT_ialdK; (case hc => rfl); (case ha => first | rfl | assumption); (case hk => first | (simp only [ki_0, ki_1, ki_2, ki_3, ki_4, ki_5, ki_6, ki_7, ki_8, ki_9, ki_10, ki_11, ki_12, ki_17, ki_20, ki_21, ki_22, ki_42, ki_50, ki_58, ki_66, ki_74, ki_140, ki_174, ki_179, ki_184, ki_189, ki_441, ki_13, nI_add, pk_mul]; with_reducible rfl) | (simp only [ki_0, ki_1, ki_2, ki_3, ki_4, ki_5, ki_6, ki_7, ki_8, ki_9, ki_10, ki_11, ki_12, ki_17, ki_20, ki_21, ki_22, ki_42, ki_50, ki_58, ki_66, ki_74, ki_140, ki_174, ki_179, ki_184, ki_189, ki_441, ki_13, ix1, nI_add, pk_mul]; with_reducible rfl) | (simp only [ki_0, ki_1, ki_2, ki_3, ki_4, ki_5, ki_6, ki_7, ki_8, ki_9, ki_10, ki_11, ki_12, ki_17, ki_20, ki_21, ki_22, ki_42, ki_50, ki_58, ki_66, ki_74, ki_140, ki_174, ki_179, ki_184, ki_189, ki_441, ki_13, ix1, ix2, nI_add, pk_mul]; with_reducible rfl) | (simp only [ki_0, ki_1, ki_2, ki_3, ki_4, ki_5, ki_6, ki_7, ki_8, ki_9, ki_10, ki_11, ki_12, ki_17, ki_20, ki_21, ki_22, ki_42, ki_50, ki_58, ki_66, ki_74, ki_140, ki_174, ki_179, ki_184, ki_189, ki_441, ki_13, ix1, ix2, ix3, nI_add, pk_mul]; with_reducible rfl) | (simp (disch := omega) only [upd_n, ki_0, ki_1, ki_2, ki_3, ki_4, ki_5, ki_6, ki_7, ki_8, ki_9, ki_10, ki_11, ki_12, ki_17, ki_20, ki_21, ki_22, ki_42, ki_50, ki_58, ki_66, ki_74, ki_140, ki_174, ki_179, ki_184, ki_189, ki_441, ki_13, ix1, nI_add, pk_mul]; with_reducible rfl) | (simp (disch := omega) only [upd_n, ki_0, ki_1, ki_2, ki_3, ki_4, ki_5, ki_6, ki_7, ki_8, ki_9, ki_10, ki_11, ki_12, ki_17, ki_20, ki_21, ki_22, ki_42, ki_50, ki_58, ki_66, ki_74, ki_140, ki_174, ki_179, ki_184, ki_189, ki_441, ki_13, ix1, ix2, nI_add, pk_mul]; with_reducible rfl) | rfl); (case hlt => first | decide | omega); (case hn => first | decide | omega))
    refine mT_c rfl rfl ?_
    rw [ix1]
    refine x_cMenOne _ _ _ (P k) hPk.1 ?_
    iterate 2 refine mT_s rfl rfl ?_
    (apply mT_getf; (case hc => rfl); (case ha => first | rfl | assumption); (case hf => first | rfl | assumption))
    (apply mT_getf; (case hc => rfl); (case ha => first | rfl | assumption); (case hf => first | rfl | assumption))
    refine mT_s rfl rfl ?_
    (apply mT_ialdK; (case hc => rfl); (case ha => first | rfl | assumption); (case hk => first | (simp only [ki_0, ki_1, ki_2, ki_3, ki_4, ki_5, ki_6, ki_7, ki_8, ki_9, ki_10, ki_11, ki_12, ki_17, ki_20, ki_21, ki_22, ki_42, ki_50, ki_58, ki_66, ki_74, ki_140, ki_174, ki_179, ki_184, ki_189, ki_441, ki_13, nI_add, pk_mul]; with_reducible rfl) | (simp only [ki_0, ki_1, ki_2, ki_3, ki_4, ki_5, ki_6, ki_7, ki_8, ki_9, ki_10, ki_11, ki_12, ki_17, ki_20, ki_21, ki_22, ki_42, ki_50, ki_58, ki_66, ki_74, ki_140, ki_174, ki_179, ki_184, ki_189, ki_441, ki_13, ix1, nI_add, pk_mul]; with_reducible rfl) | (simp only [ki_0, ki_1, ki_2, ki_3, ki_4, ki_5, ki_6, ki_7, ki_8, ki_9, ki_10, ki_11, ki_12, ki_17, ki_20, ki_21, ki_22, ki_42, ki_50, ki_58, ki_66, ki_74, ki_140, ki_174, ki_179, ki_184, ki_189, ki_441, ki_13, ix1, ix2, nI_add, pk_mul]; with_reducible rfl) | (simp only [ki_0, ki_1, ki_2, ki_3, ki_4, ki_5, ki_6, ki_7, ki_8, ki_9, ki_10, ki_11, ki_12, ki_17, ki_20, ki_21, ki_22, ki_42, ki_50, ki_58, ki_66, ki_74, ki_140, ki_174, ki_179, ki_184, ki_189, ki_441, ki_13, ix1, ix2, ix3, nI_add, pk_mul]; with_reducible rfl) | (simp (disch := omega) only [upd_n, ki_0, ki_1, ki_2, ki_3, ki_4, ki_5, ki_6, ki_7, ki_8, ki_9, ki_10, ki_11, ki_12, ki_17, ki_20, ki_21, ki_22, ki_42, ki_50, ki_58, ki_66, ki_74, ki_140, ki_174, ki_179, ki_184, ki_189, ki_441, ki_13, ix1, nI_add, pk_mul]; with_reducible rfl) | (simp (disch := omega) only [upd_n, ki_0, ki_1, ki_2, ki_3, ki_4, ki_5, ki_6, ki_7, ki_8, ki_9, ki_10, ki_11, ki_12, ki_17, ki_20, ki_21, ki_22, ki_42, ki_50, ki_58, ki_66, ki_74, ki_140, ki_174, ki_179, ki_184, ki_189, ki_441, ki_13, ix1, ix2, nI_add, pk_mul]; with_reducible rfl) | rfl); (case hlt => first | decide | omega); (case hn => first | decide | omega))
    refine mT_c rfl rfl ?_
    rw [ix1]
    refine x_cMenOther _ _ _ (P k) hPk.1 ?_
    iterate 2 refine mT_s rfl rfl ?_
    (apply mT_getf; (case hc => rfl); (case ha => first | rfl | assumption); (case hf => first | rfl | assumption))
    refine mT_s rfl rfl ?_
    (apply mT_getf; (case hc => rfl); (case ha => first | rfl | assumption); (case hf => first | rfl | assumption))
    refine mT_s rfl rfl ?_
    (apply mT_getf; (case hc => rfl); (case ha => first | rfl | assumption); (case hf => first | rfl | assumption))
    iterate 3 refine mT_s rfl rfl ?_
    (apply mT_getf; (case hc => rfl); (case ha => first | rfl | assumption); (case hf => first | rfl | assumption))
    (apply mT_inv; (case hc => rfl); (case hd => rfl); (case hb => first | rfl | assumption); (case hg => rfl))
    refine x_oddsOf_21 _ h _ i iv s l le mo B p q (P k / 20 + 1) (P k % 20 + 1) g hp hq (by omega) (fun h2 r2 => ?_)
    have hod := (a_od_n s l p q (P k / 20 + 1) (P k % 20 + 1) g).2.2
    have D2 : h2 53 = _ := (r2.1 53 (by decide)).trans hD
    have C3 := C2.c (h2 := h2) (fun c z1 z2 => r2.1 c (by omega))
    have hC12 : h2 58 = _ := (r2.1 58 (by decide)).trans hC1
    have hpf2 : h2 59 = _ := (r2.1 59 (by decide)).trans hpf
    have hN2 : 87 ≤ m_nx h2 := nx_eq (r2.1 0 (by decide)) hN
    iterate 3 refine mT_s rfl rfl ?_
    (apply mT_getf; (case hc => rfl); (case ha => first | rfl | assumption); (case hf => first | rfl | assumption))
    refine mT_s rfl rfl ?_
    (apply mT_getf; (case hc => rfl); (case ha => first | rfl | assumption); (case hf => first | rfl | assumption))
    (apply mT_getf; (case hc => rfl); (case ha => first | rfl | assumption); (case hf => first | rfl | assumption))
    refine mT_s rfl rfl ?_
    (apply mT_ialdK; (case hc => rfl); (case ha => first | rfl | assumption); (case hk => first | (simp only [ki_0, ki_1, ki_2, ki_3, ki_4, ki_5, ki_6, ki_7, ki_8, ki_9, ki_10, ki_11, ki_12, ki_17, ki_20, ki_21, ki_22, ki_42, ki_50, ki_58, ki_66, ki_74, ki_140, ki_174, ki_179, ki_184, ki_189, ki_441, ki_13, nI_add, pk_mul]; with_reducible rfl) | (simp only [ki_0, ki_1, ki_2, ki_3, ki_4, ki_5, ki_6, ki_7, ki_8, ki_9, ki_10, ki_11, ki_12, ki_17, ki_20, ki_21, ki_22, ki_42, ki_50, ki_58, ki_66, ki_74, ki_140, ki_174, ki_179, ki_184, ki_189, ki_441, ki_13, ix1, nI_add, pk_mul]; with_reducible rfl) | (simp only [ki_0, ki_1, ki_2, ki_3, ki_4, ki_5, ki_6, ki_7, ki_8, ki_9, ki_10, ki_11, ki_12, ki_17, ki_20, ki_21, ki_22, ki_42, ki_50, ki_58, ki_66, ki_74, ki_140, ki_174, ki_179, ki_184, ki_189, ki_441, ki_13, ix1, ix2, nI_add, pk_mul]; with_reducible rfl) | (simp only [ki_0, ki_1, ki_2, ki_3, ki_4, ki_5, ki_6, ki_7, ki_8, ki_9, ki_10, ki_11, ki_12, ki_17, ki_20, ki_21, ki_22, ki_42, ki_50, ki_58, ki_66, ki_74, ki_140, ki_174, ki_179, ki_184, ki_189, ki_441, ki_13, ix1, ix2, ix3, nI_add, pk_mul]; with_reducible rfl) | (simp (disch := omega) only [upd_n, ki_0, ki_1, ki_2, ki_3, ki_4, ki_5, ki_6, ki_7, ki_8, ki_9, ki_10, ki_11, ki_12, ki_17, ki_20, ki_21, ki_22, ki_42, ki_50, ki_58, ki_66, ki_74, ki_140, ki_174, ki_179, ki_184, ki_189, ki_441, ki_13, ix1, nI_add, pk_mul]; with_reducible rfl) | (simp (disch := omega) only [upd_n, ki_0, ki_1, ki_2, ki_3, ki_4, ki_5, ki_6, ki_7, ki_8, ki_9, ki_10, ki_11, ki_12, ki_17, ki_20, ki_21, ki_22, ki_42, ki_50, ki_58, ki_66, ki_74, ki_140, ki_174, ki_179, ki_184, ki_189, ki_441, ki_13, ix1, ix2, nI_add, pk_mul]; with_reducible rfl) | rfl); (case hlt => first | decide | omega); (case hn => first | decide | omega))
    refine mT_s rfl rfl ?_
    (apply mT_inv; (case hc => rfl); (case hd => rfl); (case hb => first | rfl | assumption); (case hg => rfl))
    rw [ix1]
    refine x_part_58 _ h2 _ sz P lb W hN2 C3 (P k) 0 hPk.1 (by decide) ?_
    iterate 15 refine mT_s rfl rfl ?_
    rw [nI_1, stk (e := (a_od s l p q) (P k / 20 + 1) (P k % 20 + 1) g) (m := P k / 20 + 1) (n := P k % 20 + 1) (by omega) (by omega) (by omega)]
    exact ih (k + 1) h2 _ _ _ (by omega) (fun c z => (r2.1 c z).trans (fh c z)) r2.2
theorem x_stakeOfOne_58 (d : Nat) (Q : Option Value → mH → Prop) (i : Nat → Int32) (iv : Value) (s : Nat → Int32) (l : List Tok) (le mo : Nat) (hle : le ≤ 99) (hmo : mo ≤ 99) (p q g pl : Nat) (hp : p < 5) (hq : q < 5) (hg : g < 20000) (cnt : Bool) (sz : Nat) (P lb : Nat → Nat) (W : Nat → Int64) (h0 : mH) (B0 : rBs 21 h0 i iv s l le mo) (D0 : rDu h0 58 54 p q g pl cnt) (C0 : cCl h0 58 sz P lb W) (hS0 : cS W 0) (K : ∀ h2, (∀ c, c ≠ 30 → h2 c = h0 c) → (∃ f, h2 30 = .inl (0, 5, .inl f)) → Q (some (.long (FW W (stW (a_od s l p q) g)))) h2) : mT0 (d + 4) z_X2_stakeOfOne 0 (m_init z_X2_stakeOfOne [.ref 53]) [] h0 Q := by
  iterate 4 refine mT_s rfl rfl ?_
  refine x_sO_L58 d Q i iv s l le mo hle hmo p q g pl hp hq hg cnt sz P lb W h0 B0 D0 C0 hS0 (fun h2 f2 h9 => ?_) sz 0 h0 _ _ _ (by omega) (fun _ _ => rfl) B0.2.2.2.2.2.2.2
  have K := K h2 f2 h9
  rw [← FW_list C0.2.2.2.2 hS0 (by decide) (stW (a_od s l p q) g)] at K
  refine (congrArg (fun z => Q (some (.long z)) h2) (sL_congr (fun j hj => ?_))).mp K
  exact Int64.zero_add _