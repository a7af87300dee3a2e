/-! By program (wip/whole/book*.py) and hand. -/
theorem lt_7 {x : Int32} : x < 7 ↔ x ≤ 6 := by
  rw [Int32.lt_iff_toInt_lt, Int32.le_iff_toInt_le, show (7 : Int32).toInt = 7 from rfl, show (6 : Int32).toInt = 6 from rfl]
  omega
theorem okP_no {s : Nat → Int32} {x : Int32} {n : Nat} (hn5 : n ≤ 5) (hn6 : s 6 = nI n) (h : okP s x) : ∃ j : Nat, j < n ∧ x = nI j := by
  obtain ⟨h0, h1⟩ := h
  rw [hn6] at h1
  cases n with
  | zero => exact absurd (Int32.le_trans h0 h1) (by decide)
  | succ m =>
    rw [nI_pred] at h1
    obtain ⟨j, hj, ej⟩ := i_nat h0 h1 (by omega)
    exact ⟨j, by omega, ej⟩
theorem x_isNobody (d : Nat) (h : mH) (Q : Option Value → mH → Prop) (it : Int32) (hX : h 20 = .inr (9, xObj it)) (i : Nat → Int32) (iv : Value) (hR : h 21 = .inr (7, rObj 21 i iv)) (s : Nat → Int32) (n : Nat) (hn5 : n ≤ 5) (hn6 : s 6 = nI n) (hi0 : i 0 = nI n)  (x : Int32) (k1 : ¬ okP s x → Q (some (.int 1)) h) (k0 : ∀ j, j < 5 → x = nI j → okP s x → Q (some (.int 0)) h) : mT0 d z_X9_isNobody 0 (m_init z_X9_isNobody [.ref 20, .int x]) [] h Q := by
  refine mT_s rfl rfl ?_
  refine mT_if_lt rfl (fun c1 => ?_) (fun c1 => ?_)
  · iterate 2 refine mT_s rfl rfl ?_
    refine mT_ret rfl rfl ?_
    exact k1 (fun z => absurd c1 (Int32.not_lt.mpr z.1))
  · iterate 2 refine mT_s rfl rfl ?_
    (apply mT_getf; (case hc => rfl); (case ha => first | rfl | assumption); (case hf => first | rfl | assumption))
    (apply mT_getf; (case hc => rfl); (case ha => first | rfl | assumption); (case hf => first | rfl | assumption))
    refine mT_icmp_lt rfl (fun c12 => ?_) (fun c12 => ?_)
    · refine mT_s rfl rfl ?_
      refine mT_ret rfl rfl ?_
      obtain ⟨j, hj, hxj⟩ := nI_of c1
      rw [hi0, hxj] at c12
      have hjn := (nI_ltI hj (by omega)).mp c12
      exact k0 j (by omega) hxj (okP_of hn6 hn5 hjn hxj)
    · iterate 2 refine mT_s rfl rfl ?_
      refine mT_ret rfl rfl ?_
      exact k1 (fun z => by
        obtain ⟨j, hj, hxj⟩ := okP_no hn5 hn6 z
        rw [hi0, hxj] at c12
        exact c12 (nI_lt hj (by omega)))

theorem x_refusal (d : Nat) (h : mH) (Q : Option Value → mH → Prop) (it : Int32) (hX : h 20 = .inr (9, xObj it)) (i : Nat → Int32) (iv : Value) (hR : h 21 = .inr (7, rObj 21 i iv)) (s : Nat → Int32) (n : Nat) (hn5 : n ≤ 5) (hn6 : s 6 = nI n) (hi0 : i 0 = nI n)  (x y : Int32) (kN : ¬ (okP s x ∧ okP s y) → Q (some (.int (-1))) h) (kB : okP s x → okP s y → x = y → Q (some (.int (-2))) h) (k : ∀ a b : Nat, a < 5 → b < 5 → x = nI a → y = nI b → okP s x → okP s y → a ≠ b → Q (some (.int 0)) h) : mT0 (d + 1) z_X9_refusal 0 (m_init z_X9_refusal [.ref 20, .int x, .int y]) [] h Q := by
  iterate 2 refine mT_s rfl rfl ?_
  (apply mT_inv; (case hc => rfl); (case hd => rfl); (case hb => first | rfl | assumption); (case hg => rfl))
  refine x_isNobody _ h _ it hX i iv hR s n hn5 hn6 hi0 _ (fun v2 => ?_) (fun j2 hj2 e2 v2 => ?_)
  · iterate 2 refine mT_s rfl rfl ?_
    refine mT_ret rfl rfl ?_
    exact kN (fun z => v2 z.1)
  · iterate 3 refine mT_s rfl rfl ?_
    (apply mT_inv; (case hc => rfl); (case hd => rfl); (case hb => first | rfl | assumption); (case hg => rfl))
    refine x_isNobody _ h _ it hX i iv hR s n hn5 hn6 hi0 _ (fun v10 => ?_) (fun j10 hj10 e10 v10 => ?_)
    · iterate 2 refine mT_s rfl rfl ?_
      refine mT_ret rfl rfl ?_
      exact kN (fun z => v10 z.2)
    · iterate 3 refine mT_s rfl rfl ?_
      refine mT_icmp_ne rfl (fun c20 => ?_) (fun c20 => ?_)
      · refine mT_s rfl rfl ?_
        refine mT_ret rfl rfl ?_
        exact k j2 j10 hj2 hj10 e2 e10 v2 v10 (fun z => c20 (by rw [e2, e10, z]))
      · iterate 2 refine mT_s rfl rfl ?_
        refine mT_ret rfl rfl ?_
        exact kB v2 v10 c20

theorem x_isNoKind (d : Nat) (h : mH) (Q : Option Value → mH → Prop)  (x : Int32) (k1 : ¬ (0 ≤ x ∧ x ≤ 6) → Q (some (.int 1)) h) (k0 : 0 ≤ x → x ≤ 6 → Q (some (.int 0)) h) : mT0 d z_X9_isNoKind 0 (m_init z_X9_isNoKind [.int x]) [] h Q := by
  refine mT_s rfl rfl ?_
  refine mT_if_lt rfl (fun c1 => ?_) (fun c1 => ?_)
  · iterate 2 refine mT_s rfl rfl ?_
    refine mT_ret rfl rfl ?_
    exact k1 (fun z => absurd c1 (Int32.not_lt.mpr z.1))
  · iterate 2 refine mT_s rfl rfl ?_
    refine mT_icmp_lt rfl (fun c7 => ?_) (fun c7 => ?_)
    · refine mT_s rfl rfl ?_
      refine mT_ret rfl rfl ?_
      exact k0 (Int32.not_lt.mp c1) (lt_7.mp c7)
    · iterate 2 refine mT_s rfl rfl ?_
      refine mT_ret rfl rfl ?_
      exact k1 (fun z => c7 (lt_7.mpr z.2))

theorem x_isNoMen (d : Nat) (h : mH) (Q : Option Value → mH → Prop)  (x : Int32) (k1 : ¬ (1 ≤ x ∧ x ≤ 20) → Q (some (.int 1)) h) (k0 : 1 ≤ x → x ≤ 20 → Q (some (.int 0)) h) : mT0 d z_X9_isNoMen 0 (m_init z_X9_isNoMen [.int x]) [] h Q := by
  iterate 2 refine mT_s rfl rfl ?_
  refine mT_icmp_lt rfl (fun c2 => ?_) (fun c2 => ?_)
  · iterate 2 refine mT_s rfl rfl ?_
    refine mT_ret rfl rfl ?_
    exact k1 (fun z => absurd c2 (Int32.not_lt.mpr z.1))
  · iterate 2 refine mT_s rfl rfl ?_
    refine mT_icmp_le rfl (fun c8 => ?_) (fun c8 => ?_)
    · refine mT_s rfl rfl ?_
      refine mT_ret rfl rfl ?_
      exact k0 (Int32.not_lt.mp c2) c8
    · iterate 2 refine mT_s rfl rfl ?_
      refine mT_ret rfl rfl ?_
      exact k1 (fun z => c8 z.2)

theorem x_isNoPart (d : Nat) (h : mH) (Q : Option Value → mH → Prop)  (x : Int32) (k1 : ¬ (0 ≤ x ∧ x ≤ 1) → Q (some (.int 1)) h) (k0 : 0 ≤ x ∧ x ≤ 1 → Q (some (.int 0)) h) : mT0 d z_X9_isNoPart 0 (m_init z_X9_isNoPart [.int x]) [] h Q := by
  refine mT_s rfl rfl ?_
  refine mT_if_eq rfl (fun c1 => ?_) (fun c1 => ?_)
  · refine mT_s rfl rfl ?_
    refine mT_ret rfl rfl ?_
    subst c1
    exact k0 (by decide)
  · iterate 2 refine mT_s rfl rfl ?_
    refine mT_icmp_eq rfl (fun c6 => ?_) (fun c6 => ?_)
    · refine mT_s rfl rfl ?_
      refine mT_ret rfl rfl ?_
      subst c6
      exact k0 (by decide)
    · iterate 2 refine mT_s rfl rfl ?_
      refine mT_ret rfl rfl ?_
      exact k1 (fun z => by
        obtain ⟨j, hj, e⟩ := i_nat (n := 1) z.1 z.2 (by omega)
        have : j = 0 ∨ j = 1 := by omega
        rcases this with rfl | rfl
        · exact c1 e
        · exact c6 e)

theorem x_pow_L (d : Nat) (h : mH) (Q : Option Value → mH → Prop) (n : Nat) (hn : n < 2 ^ 31) (K : Q (some (.long (lN (10 ^ n)))) h) : ∀ (r k : Nat) , k + r = n → mT0 d z_X9_powerOfTen 4 [some (.int (nI n)), some (.long (lN (10 ^ k))), none, some (.int (nI k))] [] h Q := by
  intro r
  induction r with
  | zero =>
    intro k  hk 
    iterate 2 refine mT_s rfl rfl ?_
    refine mT_icmp_ge rfl (fun _ => ?_) (fun c => absurd (nI_le (a := n) (b := k) (by omega) (by omega)) c)
    refine mT_s rfl rfl ?_
    refine mT_ret rfl rfl ?_
    rw [show k = n by omega]
    exact K
  | succ r ih =>
    intro k  hk 
    iterate 2 refine mT_s rfl rfl ?_
    refine mT_icmp_ge rfl (fun c => absurd c (nI_ge (a := k) (b := n) (by omega) (by omega))) (fun _ => ?_)
    iterate 6 refine mT_s rfl rfl ?_
    rw [show lN (10 ^ k) * 10 = lN (10 ^ (k + 1)) from by rw [Nat.pow_succ, ← lN_mul]; rfl, nI_1]
    exact ih (k + 1) (by omega)
theorem x_pow (d : Nat) (h : mH) (Q : Option Value → mH → Prop)  (n : Nat) (hn : n < 2 ^ 31) (K : Q (some (.long (lN (10 ^ n)))) h) : mT0 d z_X9_powerOfTen 0 (m_init z_X9_powerOfTen [.int (nI n)]) [] h Q := by
  iterate 4 refine mT_s rfl rfl ?_
  exact x_pow_L d h Q n hn K n 0 (by omega)

theorem iL_abs2 {u : Int} (hu : u.natAbs < 2 ^ 62) : (if 0 < iL u then iL u else -iL u) = lN u.natAbs := by
  rw [← iL_abs hu]
  by_cases h : 0 < iL u
  · rw [if_pos h, if_pos (Int64.le_of_lt h)]
  · rw [if_neg h]
    by_cases h2 : 0 ≤ iL u
    · rw [if_pos h2, Int64.le_antisymm (Int64.not_lt.mp h) h2]
      rfl
    · rw [if_neg h2]
theorem half_rem {a b r : Nat} (hb : 0 < b) (hba : b ≤ a) (h : a * b < 2 ^ (r + 1)) : b * (a % b) < 2 ^ r := by
  have h1 : 2 * (a % b) ≤ a := by
    have h2 := Nat.div_add_mod a b
    have h3 := Nat.mod_lt a hb
    have h4 : 1 ≤ a / b := Nat.div_pos hba hb
    have h5 := Nat.mul_le_mul_left b h4
    omega
  have h6 := Nat.mul_le_mul_left b h1
  rw [Nat.mul_left_comm] at h6
  rw [Nat.pow_succ, Nat.mul_comm a b] at h
  omega
theorem x_part_L (d : Nat) (h : mH) (Q : Option Value → mH → Prop) (u : Int) (low : Nat) (part : Int32) (hl : 0 < low) (hl2 : low < 2 ^ 62) (K : Q (some (.long (v_low u low part))) h) : ∀ (r k a b : Nat) (x10 x11 : Option Value), k + r + 1 ≤ 200 → b ≤ a → a < 2 ^ 62 → b < 2 ^ 62 → a * b < 2 ^ r → Nat.gcd a b = Nat.gcd u.natAbs low → mT0 d z_X9_partOf 12 [some (.long (iL u)), none, some (.long (lN low)), none, some (.int part), some (.long (lN a)), none, some (.long (lN b)), none, some (.int (nI k)), x10, x11] [] h Q := by
  have h0 : 0 < Nat.gcd u.natAbs low := Nat.gcd_pos_of_pos_right _ hl
  intro r
  induction r with
  | zero =>
    intro k a b x10 x11 hk hba ha hb hab hg
    have hg0 : 0 < Nat.gcd a b := hg ▸ h0
    iterate 2 refine mT_s rfl rfl ?_
    refine mT_icmp_ge rfl (fun c => absurd c (nI_ge (a := k) (b := 200) (by omega) (by omega))) (fun _ => ?_)
    iterate 3 refine mT_s rfl rfl ?_
    refine mT_if_eq rfl (fun c24 => ?_) (fun c24 => ?_)
    · have hb0 : b = 0 := (pk_lEQ (by omega) (by decide)).mp ((lg_cmp_eq _ _).mp c24)
      subst hb0
      rw [Nat.gcd_zero_right] at hg
      subst hg
      iterate 3 refine mT_s rfl rfl ?_
      refine mT_if_ne rfl (fun _ => ?_) (fun c => absurd ((lg_cmp_eq _ _).mp c) (lN_ne0 (by omega) (by omega)))
      refine mT_s rfl rfl ?_
      refine mT_if_ne rfl (fun c61 => ?_) (fun c61 => ?_)
      · iterate 2 refine mT_s rfl rfl ?_
        (apply mT_ldiv; (case hc => rfl); (case hy => first | assumption | exact lN_ne0 (by omega) (by omega)))
        refine mT_ret rfl rfl ?_
        unfold v_low at K
        rw [if_neg c61] at K
        exact K
      · iterate 3 refine mT_s rfl rfl ?_
        (apply mT_ldiv; (case hc => rfl); (case hy => first | assumption | exact lN_ne0 (by omega) (by omega)))
        refine mT_ret rfl rfl ?_
        unfold v_low at K
        rw [if_pos c61] at K
        exact K
    · have hbz : 0 < b := by
        rcases Nat.eq_zero_or_pos b with z | z
        · subst z; exact absurd ((lg_cmp_eq _ _).mpr rfl) c24
        · exact z
      exfalso
      have h9 := Nat.mul_pos (Nat.lt_of_lt_of_le hbz hba) hbz
      omega
  | succ r ih =>
    intro k a b x10 x11 hk hba ha hb hab hg
    have hg0 : 0 < Nat.gcd a b := hg ▸ h0
    iterate 2 refine mT_s rfl rfl ?_
    refine mT_icmp_ge rfl (fun c => absurd c (nI_ge (a := k) (b := 200) (by omega) (by omega))) (fun _ => ?_)
    iterate 3 refine mT_s rfl rfl ?_
    refine mT_if_eq rfl (fun c24 => ?_) (fun c24 => ?_)
    · have hb0 : b = 0 := (pk_lEQ (by omega) (by decide)).mp ((lg_cmp_eq _ _).mp c24)
      subst hb0
      rw [Nat.gcd_zero_right] at hg
      subst hg
      iterate 3 refine mT_s rfl rfl ?_
      refine mT_if_ne rfl (fun _ => ?_) (fun c => absurd ((lg_cmp_eq _ _).mp c) (lN_ne0 (by omega) (by omega)))
      refine mT_s rfl rfl ?_
      refine mT_if_ne rfl (fun c61 => ?_) (fun c61 => ?_)
      · iterate 2 refine mT_s rfl rfl ?_
        (apply mT_ldiv; (case hc => rfl); (case hy => first | assumption | exact lN_ne0 (by omega) (by omega)))
        refine mT_ret rfl rfl ?_
        unfold v_low at K
        rw [if_neg c61] at K
        exact K
      · iterate 3 refine mT_s rfl rfl ?_
        (apply mT_ldiv; (case hc => rfl); (case hy => first | assumption | exact lN_ne0 (by omega) (by omega)))
        refine mT_ret rfl rfl ?_
        unfold v_low at K
        rw [if_pos c61] at K
        exact K
    · have hbz : 0 < b := by
        rcases Nat.eq_zero_or_pos b with z | z
        · subst z; exact absurd ((lg_cmp_eq _ _).mpr rfl) c24
        · exact z
      iterate 2 refine mT_s rfl rfl ?_
      (apply mT_lrem; (case hc => rfl); (case hy => first | assumption | exact lN_ne0 (by omega) (by omega)))
      iterate 7 refine mT_s rfl rfl ?_
      rw [pk_lRem (by omega) hbz (by omega), nI_1]
      have h8 := Nat.mod_lt a hbz
      exact ih (k + 1) b (a % b) _ _ (by omega) (by omega) hb (by omega) (half_rem hbz hba hab) ((gcd_step a b).symm.trans hg)
theorem x_part_1 (d : Nat) (h : mH) (Q : Option Value → mH → Prop) (u : Int) (low : Nat) (part : Int32) (hl : 0 < low) (hl2 : low < 2 ^ 62) (K : Q (some (.long (v_low u low part))) h) (hu : u.natAbs < 2 ^ 62) (hl4 : low < 2 ^ 41) : mT0 d z_X9_partOf 12 [some (.long (iL u)), none, some (.long (lN low)), none, some (.int part), some (.long (lN u.natAbs)), none, some (.long (lN low)), none, some (.int 0), none, none] [] h Q := by
  have h8 := Nat.mod_lt u.natAbs hl
  have hl62 : low < 2 ^ 62 := by omega
  have h81 : u.natAbs % low ≤ low := by omega
  have h82 : u.natAbs % low < 2 ^ 62 := by omega
  have h84 : u.natAbs % low < 2 ^ 41 := Nat.lt_trans h8 hl4
  have h83 : low * (u.natAbs % low) < 2 ^ (41 + 41) := by
    rw [Nat.pow_add]
    exact Nat.mul_lt_mul_of_lt_of_lt hl4 h84
  iterate 2 refine mT_s rfl rfl ?_
  refine mT_icmp_ge rfl (fun c => absurd c (by decide)) (fun _ => ?_)
  iterate 3 refine mT_s rfl rfl ?_
  refine mT_if_eq rfl (fun c => absurd ((lg_cmp_eq _ _).mp c) (lN_ne0 hl (by omega))) (fun _ => ?_)
  iterate 2 refine mT_s rfl rfl ?_
  (apply mT_lrem; (case hc => rfl); (case hy => first | assumption | exact lN_ne0 (by omega) (by omega)))
  iterate 7 refine mT_s rfl rfl ?_
  rw [pk_lRem (by omega) hl (by omega), show (0 : Int32) + 1 = nI 1 by decide]
  exact x_part_L d h Q u low part hl hl62 K (41 + 41) 1 low (u.natAbs % low) _ _ (by omega) h81 hl62 h82 h83 (gcd_step u.natAbs low).symm
theorem x_partOf (d : Nat) (h : mH) (Q : Option Value → mH → Prop)  (u : Int) (hu : u.natAbs < 2 ^ 62) (low : Nat) (part : Int32) (hl : 0 < low) (hl4 : low < 2 ^ 41) (K : Q (some (.long (v_low u low part))) h) : mT0 d z_X9_partOf 0 (m_init z_X9_partOf [.long (iL u), .long (lN low), .int part]) [] h Q := by
  iterate 7 refine mT_s rfl rfl ?_
  have z := x_part_1 d h Q u low part hl (by omega) K hu hl4
  rw [← iL_abs2 hu] at z
  exact z
