/-! By program (wip/whole/book*.py) and hand. -/
theorem v_push_k (kd v men mq gm row lift : Int32) :
    (kd = 1 → v + lift + (if men < mq then 2 else 0) = v_push kd v men mq gm row lift) ∧ (kd = 4 → v + lift + (if men < mq then 2 else 0) + 1 = v_push kd v men mq gm row lift) ∧
    (kd = 2 → v + lift - (if men < 4 then 9 else 0) = v_push kd v men mq gm row lift) ∧ (kd = 5 → v + 2 ≤ gm → v + lift = v_push kd v men mq gm row lift) ∧
    (kd = 5 → ¬ v + 2 ≤ gm → v + lift - (if men < 4 then 9 else 0) = v_push kd v men mq gm row lift) ∧ (kd = 3 → v + lift - (if gm < 3 then 1 else 0) = v_push kd v men mq gm row lift) ∧
    (kd = 6 → v + lift - (if gm < 3 then 1 else 0) + row - 4 = v_push kd v men mq gm row lift) ∧ (¬ kd = 1 → ¬ kd = 2 → ¬ kd = 3 → ¬ kd = 4 → ¬ kd = 5 → ¬ kd = 6 → v + lift = v_push kd v men mq gm row lift) := by
  refine ⟨fun h => ?_, fun h => ?_, fun h => ?_, fun h h2 => ?_, fun h h2 => ?_, fun h => ?_, fun h => ?_, fun h1 h2 h3 h4 h5 h6 => ?_⟩
  · subst h
    have e1 : u_1 1 men mq = if men < mq then 2 else 0 := by unfold u_1; simp
    have e2 : u_2 1 = 0 := by decide
    have e3 : u_3 1 v gm men = 0 := by unfold u_3; simp
    have e4 : u_4 1 gm = 0 := by unfold u_4; simp
    have e5 : u_5 1 row = 0 := by unfold u_5; simp
    unfold v_push
    rw [e1, e2, e3, e4, e5]
    generalize (if men < mq then (2 : Int32) else 0) = z
    grind
  · subst h
    have e1 : u_1 4 men mq = if men < mq then 2 else 0 := by unfold u_1; simp
    have e2 : u_2 4 = 1 := by decide
    have e3 : u_3 4 v gm men = 0 := by unfold u_3; simp
    have e4 : u_4 4 gm = 0 := by unfold u_4; simp
    have e5 : u_5 4 row = 0 := by unfold u_5; simp
    unfold v_push
    rw [e1, e2, e3, e4, e5]
    generalize (if men < mq then (2 : Int32) else 0) = z
    grind
  · subst h
    have e1 : u_1 2 men mq = 0 := by unfold u_1; simp
    have e2 : u_2 2 = 0 := by decide
    have e3 : u_3 2 v gm men = if men < 4 then 9 else 0 := by unfold u_3; simp
    have e4 : u_4 2 gm = 0 := by unfold u_4; simp
    have e5 : u_5 2 row = 0 := by unfold u_5; simp
    unfold v_push
    rw [e1, e2, e3, e4, e5]
    generalize (if men < 4 then (9 : Int32) else 0) = z
    grind
  · subst h
    have e1 : u_1 5 men mq = 0 := by unfold u_1; simp
    have e2 : u_2 5 = 0 := by decide
    have e3 : u_3 5 v gm men = 0 := if_neg (fun z => z.1.elim (by decide) (fun y => absurd h2 (Int32.not_le.mpr y.2)))
    have e4 : u_4 5 gm = 0 := by unfold u_4; simp
    have e5 : u_5 5 row = 0 := by unfold u_5; simp
    unfold v_push
    rw [e1, e2, e3, e4, e5]
    grind
  · subst h
    have e1 : u_1 5 men mq = 0 := by unfold u_1; simp
    have e2 : u_2 5 = 0 := by decide
    have e3 : u_3 5 v gm men = if men < 4 then 9 else 0 := by
      unfold u_3
      by_cases c : men < 4
      · rw [if_pos c, if_pos ⟨Or.inr ⟨rfl, Int32.not_le.mp h2⟩, c⟩]
      · rw [if_neg c, if_neg (fun z => c z.2)]
    have e4 : u_4 5 gm = 0 := by unfold u_4; simp
    have e5 : u_5 5 row = 0 := by unfold u_5; simp
    unfold v_push
    rw [e1, e2, e3, e4, e5]
    generalize (if men < 4 then (9 : Int32) else 0) = z
    grind
  · subst h
    have e1 : u_1 3 men mq = 0 := by unfold u_1; simp
    have e2 : u_2 3 = 0 := by decide
    have e3 : u_3 3 v gm men = 0 := by unfold u_3; simp
    have e4 : u_4 3 gm = if gm < 3 then 1 else 0 := by unfold u_4; simp
    have e5 : u_5 3 row = 0 := by unfold u_5; simp
    unfold v_push
    rw [e1, e2, e3, e4, e5]
    generalize (if gm < 3 then (1 : Int32) else 0) = z
    grind
  · subst h
    have e1 : u_1 6 men mq = 0 := by unfold u_1; simp
    have e2 : u_2 6 = 0 := by decide
    have e3 : u_3 6 v gm men = 0 := by unfold u_3; simp
    have e4 : u_4 6 gm = if gm < 3 then 1 else 0 := by unfold u_4; simp
    have e5 : u_5 6 row = row - 4 := by unfold u_5; simp
    unfold v_push
    rw [e1, e2, e3, e4, e5]
    generalize (if gm < 3 then (1 : Int32) else 0) = z
    grind
  · have e1 : u_1 kd men mq = 0 := if_neg (fun z => z.1.elim h1 h4)
    have e2 : u_2 kd = 0 := if_neg h4
    have e3 : u_3 kd v gm men = 0 := if_neg (fun z => z.1.elim h2 (fun y => h5 y.1))
    have e4 : u_4 kd gm = 0 := if_neg (fun z => z.1.elim h3 h6)
    have e5 : u_5 kd row = 0 := if_neg h6
    unfold v_push
    rw [e1, e2, e3, e4, e5]
    grind
theorem x_push_k_21 (d : Nat) (h : mH) (Q : Option Value → mH → Prop) (i : Nat → Int32) (iv : Value) (hR : h 21 = .inr (7, rObj 21 i iv)) (hN : 87 ≤ m_nx h) (s : Nat → Int32) (p m o g : Nat) (hp : p < 5) (hg2 : g < 2 ^ 31) (hK : rAr h 22 5 12 s) (hV5 : rAr h 23 5 17 s) (hW : rAr h 25 20 22 s) (lf : Int32) (K : Q (some (.int (v_push (s (12 + p)) (s (17 + p)) (nI m) (nI o) (nI g) (s (22 + 4 * p + g % 4)) lf))) h) : mT0 (d + 1) z_X7_pushOf 75 [some (.ref 21), some (.int (nI p)), some (.int (nI m)), some (.int (nI o)), some (.int (nI g)), some (.int (s (17 + p) + lf))] [] h Q := by
  obtain ⟨fk, hk, ek⟩ := hK
  obtain ⟨fv, hv, ev⟩ := hV5
  obtain ⟨fw, hw, ew⟩ := hW
  have ekp := ek p hp
  have evp := ev p hp
  have ix1 : nI g - nI g / nI 4 * nI 4 = nI (g % 4) := pk_rem hg2 (by decide) (by decide)
  refine mT_s rfl rfl ?_
  (apply mT_getf; (case hc => rfl); (case ha => first | rfl | assumption); (case hf => first | rfl | assumption))
  refine mT_s rfl rfl ?_
  (apply mT_ialdK; (case hc => rfl); (case ha => first | rfl | assumption); (case hk => first | (simp only [ki_0, ki_1, ki_2, ki_3, ki_4, ki_5, ki_6, ki_7, ki_8, ki_9, ki_10, ki_11, ki_12, ki_17, ki_20, ki_21, ki_22, ki_42, ki_50, ki_58, ki_66, ki_74, ki_140, ki_174, ki_179, ki_184, ki_189, ki_441, nI_add, pk_mul]; with_reducible rfl) | (simp only [ki_0, ki_1, ki_2, ki_3, ki_4, ki_5, ki_6, ki_7, ki_8, ki_9, ki_10, ki_11, ki_12, ki_17, ki_20, ki_21, ki_22, ki_42, ki_50, ki_58, ki_66, ki_74, ki_140, ki_174, ki_179, ki_184, ki_189, ki_441, ix1, nI_add, pk_mul]; with_reducible rfl) | (simp only [ki_0, ki_1, ki_2, ki_3, ki_4, ki_5, ki_6, ki_7, ki_8, ki_9, ki_10, ki_11, ki_12, ki_17, ki_20, ki_21, ki_22, ki_42, ki_50, ki_58, ki_66, ki_74, ki_140, ki_174, ki_179, ki_184, ki_189, ki_441, ix1, ix2, nI_add, pk_mul]; with_reducible rfl) | (simp only [ki_0, ki_1, ki_2, ki_3, ki_4, ki_5, ki_6, ki_7, ki_8, ki_9, ki_10, ki_11, ki_12, ki_17, ki_20, ki_21, ki_22, ki_42, ki_50, ki_58, ki_66, ki_74, ki_140, ki_174, ki_179, ki_184, ki_189, ki_441, ix1, ix2, ix3, nI_add, pk_mul]; with_reducible rfl) | (simp (disch := omega) only [upd_n, ki_0, ki_1, ki_2, ki_3, ki_4, ki_5, ki_6, ki_7, ki_8, ki_9, ki_10, ki_11, ki_12, ki_17, ki_20, ki_21, ki_22, ki_42, ki_50, ki_58, ki_66, ki_74, ki_140, ki_174, ki_179, ki_184, ki_189, ki_441, ix1, nI_add, pk_mul]; with_reducible rfl) | (simp (disch := omega) only [upd_n, ki_0, ki_1, ki_2, ki_3, ki_4, ki_5, ki_6, ki_7, ki_8, ki_9, ki_10, ki_11, ki_12, ki_17, ki_20, ki_21, ki_22, ki_42, ki_50, ki_58, ki_66, ki_74, ki_140, ki_174, ki_179, ki_184, ki_189, ki_441, ix1, ix2, nI_add, pk_mul]; with_reducible rfl) | rfl); (case hlt => first | decide | omega); (case hn => first | decide | omega))
  rw [ekp]
  refine mT_tswc (v := 1) (t := 120) rfl rfl rfl (fun c81_1 => ?_) (fun c81_1 => ?_)
  · iterate 3 refine mT_s rfl rfl ?_
    refine mT_c rfl rfl ?_
    refine x_masterly _ h _ _ _ ?_
    refine mT_s rfl rfl ?_
    refine mT_ret rfl rfl ?_
    have U := v_push_k (s (12 + p)) (s (17 + p)) (nI m) (nI o) (nI g) (s (22 + 4 * p + g % 4)) lf
    rw [← U.1 c81_1] at K
    exact K
  refine mT_tswc (v := 2) (t := 140) rfl rfl rfl (fun c81_2 => ?_) (fun c81_2 => ?_)
  · iterate 2 refine mT_s rfl rfl ?_
    refine mT_c rfl rfl ?_
    refine x_slyly _ h _ _ ?_
    refine mT_s rfl rfl ?_
    refine mT_ret rfl rfl ?_
    have U := v_push_k (s (12 + p)) (s (17 + p)) (nI m) (nI o) (nI g) (s (22 + 4 * p + g % 4)) lf
    rw [← U.2.2.1 c81_2] at K
    exact K
  refine mT_tswc (v := 3) (t := 174) rfl rfl rfl (fun c81_3 => ?_) (fun c81_3 => ?_)
  · iterate 2 refine mT_s rfl rfl ?_
    refine mT_c rfl rfl ?_
    refine x_newly _ h _ _ ?_
    refine mT_s rfl rfl ?_
    refine mT_ret rfl rfl ?_
    have U := v_push_k (s (12 + p)) (s (17 + p)) (nI m) (nI o) (nI g) (s (22 + 4 * p + g % 4)) lf
    rw [← U.2.2.2.2.2.1 c81_3] at K
    exact K
  refine mT_tswc (v := 4) (t := 129) rfl rfl rfl (fun c81_4 => ?_) (fun c81_4 => ?_)
  · iterate 3 refine mT_s rfl rfl ?_
    refine mT_c rfl rfl ?_
    refine x_masterly _ h _ _ _ ?_
    iterate 3 refine mT_s rfl rfl ?_
    refine mT_ret rfl rfl ?_
    have U := v_push_k (s (12 + p)) (s (17 + p)) (nI m) (nI o) (nI g) (s (22 + 4 * p + g % 4)) lf
    rw [← U.2.1 c81_4] at K
    exact K
  refine mT_tswc (v := 5) (t := 148) rfl rfl rfl (fun c81_5 => ?_) (fun c81_5 => ?_)
  · iterate 2 refine mT_s rfl rfl ?_
    (apply mT_getf; (case hc => rfl); (case ha => first | rfl | assumption); (case hf => first | rfl | assumption))
    refine mT_s rfl rfl ?_
    (apply mT_ialdK; (case hc => rfl); (case ha => first | rfl | assumption); (case hk => first | (simp only [ki_0, ki_1, ki_2, ki_3, ki_4, ki_5, ki_6, ki_7, ki_8, ki_9, ki_10, ki_11, ki_12, ki_17, ki_20, ki_21, ki_22, ki_42, ki_50, ki_58, ki_66, ki_74, ki_140, ki_174, ki_179, ki_184, ki_189, ki_441, nI_add, pk_mul]; with_reducible rfl) | (simp only [ki_0, ki_1, ki_2, ki_3, ki_4, ki_5, ki_6, ki_7, ki_8, ki_9, ki_10, ki_11, ki_12, ki_17, ki_20, ki_21, ki_22, ki_42, ki_50, ki_58, ki_66, ki_74, ki_140, ki_174, ki_179, ki_184, ki_189, ki_441, ix1, nI_add, pk_mul]; with_reducible rfl) | (simp only [ki_0, ki_1, ki_2, ki_3, ki_4, ki_5, ki_6, ki_7, ki_8, ki_9, ki_10, ki_11, ki_12, ki_17, ki_20, ki_21, ki_22, ki_42, ki_50, ki_58, ki_66, ki_74, ki_140, ki_174, ki_179, ki_184, ki_189, ki_441, ix1, ix2, nI_add, pk_mul]; with_reducible rfl) | (simp only [ki_0, ki_1, ki_2, ki_3, ki_4, ki_5, ki_6, ki_7, ki_8, ki_9, ki_10, ki_11, ki_12, ki_17, ki_20, ki_21, ki_22, ki_42, ki_50, ki_58, ki_66, ki_74, ki_140, ki_174, ki_179, ki_184, ki_189, ki_441, ix1, ix2, ix3, nI_add, pk_mul]; with_reducible rfl) | (simp (disch := omega) only [upd_n, ki_0, ki_1, ki_2, ki_3, ki_4, ki_5, ki_6, ki_7, ki_8, ki_9, ki_10, ki_11, ki_12, ki_17, ki_20, ki_21, ki_22, ki_42, ki_50, ki_58, ki_66, ki_74, ki_140, ki_174, ki_179, ki_184, ki_189, ki_441, ix1, nI_add, pk_mul]; with_reducible rfl) | (simp (disch := omega) only [upd_n, ki_0, ki_1, ki_2, ki_3, ki_4, ki_5, ki_6, ki_7, ki_8, ki_9, ki_10, ki_11, ki_12, ki_17, ki_20, ki_21, ki_22, ki_42, ki_50, ki_58, ki_66, ki_74, ki_140, ki_174, ki_179, ki_184, ki_189, ki_441, ix1, ix2, nI_add, pk_mul]; with_reducible rfl) | rfl); (case hlt => first | decide | omega); (case hn => first | decide | omega))
    iterate 2 refine mT_s rfl rfl ?_
    refine mT_icmp_lt rfl (fun c158 => ?_) (fun c158 => ?_)
    · rw [evp] at c158
      iterate 2 refine mT_s rfl rfl ?_
      refine mT_c rfl rfl ?_
      refine x_slyly _ h _ _ ?_
      refine mT_s rfl rfl ?_
      refine mT_ret rfl rfl ?_
      have U := v_push_k (s (12 + p)) (s (17 + p)) (nI m) (nI o) (nI g) (s (22 + 4 * p + g % 4)) lf
      rw [← U.2.2.2.2.1 c81_5 (Int32.not_le.mpr c158)] at K
      exact K
    · rw [evp] at c158
      iterate 2 refine mT_s rfl rfl ?_
      refine mT_ret rfl rfl ?_
      have U := v_push_k (s (12 + p)) (s (17 + p)) (nI m) (nI o) (nI g) (s (22 + 4 * p + g % 4)) lf
      rw [← U.2.2.2.1 c81_5 (Int32.not_lt.mp c158)] at K
      exact K
  refine mT_tswc (v := 6) (t := 183) rfl rfl rfl (fun c81_6 => ?_) (fun c81_6 => ?_)
  · iterate 2 refine mT_s rfl rfl ?_
    refine mT_c rfl rfl ?_
    refine x_newly _ h _ _ ?_
    iterate 2 refine mT_s rfl rfl ?_
    (apply mT_getf; (case hc => rfl); (case ha => first | rfl | assumption); (case hf => first | rfl | assumption))
    iterate 7 refine mT_s rfl rfl ?_
    (apply mT_ialdK; (case hc => rfl); (case ha => first | rfl | assumption); (case hk => first | (simp only [ki_0, ki_1, ki_2, ki_3, ki_4, ki_5, ki_6, ki_7, ki_8, ki_9, ki_10, ki_11, ki_12, ki_17, ki_20, ki_21, ki_22, ki_42, ki_50, ki_58, ki_66, ki_74, ki_140, ki_174, ki_179, ki_184, ki_189, ki_441, nI_add, pk_mul]; with_reducible rfl) | (simp only [ki_0, ki_1, ki_2, ki_3, ki_4, ki_5, ki_6, ki_7, ki_8, ki_9, ki_10, ki_11, ki_12, ki_17, ki_20, ki_21, ki_22, ki_42, ki_50, ki_58, ki_66, ki_74, ki_140, ki_174, ki_179, ki_184, ki_189, ki_441, ix1, nI_add, pk_mul]; with_reducible rfl) | (simp only [ki_0, ki_1, ki_2, ki_3, ki_4, ki_5, ki_6, ki_7, ki_8, ki_9, ki_10, ki_11, ki_12, ki_17, ki_20, ki_21, ki_22, ki_42, ki_50, ki_58, ki_66, ki_74, ki_140, ki_174, ki_179, ki_184, ki_189, ki_441, ix1, ix2, nI_add, pk_mul]; with_reducible rfl) | (simp only [ki_0, ki_1, ki_2, ki_3, ki_4, ki_5, ki_6, ki_7, ki_8, ki_9, ki_10, ki_11, ki_12, ki_17, ki_20, ki_21, ki_22, ki_42, ki_50, ki_58, ki_66, ki_74, ki_140, ki_174, ki_179, ki_184, ki_189, ki_441, ix1, ix2, ix3, nI_add, pk_mul]; with_reducible rfl) | (simp (disch := omega) only [upd_n, ki_0, ki_1, ki_2, ki_3, ki_4, ki_5, ki_6, ki_7, ki_8, ki_9, ki_10, ki_11, ki_12, ki_17, ki_20, ki_21, ki_22, ki_42, ki_50, ki_58, ki_66, ki_74, ki_140, ki_174, ki_179, ki_184, ki_189, ki_441, ix1, nI_add, pk_mul]; with_reducible rfl) | (simp (disch := omega) only [upd_n, ki_0, ki_1, ki_2, ki_3, ki_4, ki_5, ki_6, ki_7, ki_8, ki_9, ki_10, ki_11, ki_12, ki_17, ki_20, ki_21, ki_22, ki_42, ki_50, ki_58, ki_66, ki_74, ki_140, ki_174, ki_179, ki_184, ki_189, ki_441, ix1, ix2, nI_add, pk_mul]; with_reducible rfl) | rfl); (case hlt => first | decide | omega); (case hn => first | decide | omega))
    iterate 3 refine mT_s rfl rfl ?_
    refine mT_ret rfl rfl ?_
    have U := v_push_k (s (12 + p)) (s (17 + p)) (nI m) (nI o) (nI g) (s (22 + 4 * p + g % 4)) lf
    rw [← U.2.2.2.2.2.2.1 c81_6] at K
    rw [ew (p * 4 + g % 4) (by omega), show 22 + (p * 4 + g % 4) = 22 + 4 * p + g % 4 by omega]
    exact K
  refine mT_tswd rfl (by have z0 := sw_ne (v := 1) (n := 1) rfl c81_1; have z1 := sw_ne (v := 2) (n := 2) rfl c81_2; have z2 := sw_ne (v := 3) (n := 3) rfl c81_3; have z3 := sw_ne (v := 4) (n := 4) rfl c81_4; have z4 := sw_ne (v := 5) (n := 5) rfl c81_5; have z5 := sw_ne (v := 6) (n := 6) rfl c81_6; omega) ?_
  refine mT_s rfl rfl ?_
  refine mT_ret rfl rfl ?_
  have U := v_push_k (s (12 + p)) (s (17 + p)) (nI m) (nI o) (nI g) (s (22 + 4 * p + g % 4)) lf
  rw [← U.2.2.2.2.2.2.2 c81_1 c81_2 c81_3 c81_4 c81_5 c81_6] at K
  exact K
theorem x_push_k_41 (d : Nat) (h : mH) (Q : Option Value → mH → Prop) (i : Nat → Int32) (iv : Value) (hR : h 41 = .inr (7, rObj 41 i iv)) (hN : 87 ≤ m_nx h) (s : Nat → Int32) (p m o g : Nat) (hp : p < 5) (hg2 : g < 2 ^ 31) (hK : rAr h 42 5 12 s) (hV5 : rAr h 43 5 17 s) (hW : rAr h 45 20 22 s) (lf : Int32) (K : Q (some (.int (v_push (s (12 + p)) (s (17 + p)) (nI m) (nI o) (nI g) (s (22 + 4 * p + g % 4)) lf))) h) : mT0 (d + 1) z_X7_pushOf 75 [some (.ref 41), some (.int (nI p)), some (.int (nI m)), some (.int (nI o)), some (.int (nI g)), some (.int (s (17 + p) + lf))] [] h Q := by
  obtain ⟨fk, hk, ek⟩ := hK
  obtain ⟨fv, hv, ev⟩ := hV5
  obtain ⟨fw, hw, ew⟩ := hW
  have ekp := ek p hp
  have evp := ev p hp
  have ix1 : nI g - nI g / nI 4 * nI 4 = nI (g % 4) := pk_rem hg2 (by decide) (by decide)
  refine mT_s rfl rfl ?_
  (apply mT_getf; (case hc => rfl); (case ha => first | rfl | assumption); (case hf => first | rfl | assumption))
  refine mT_s rfl rfl ?_
  (apply mT_ialdK; (case hc => rfl); (case ha => first | rfl | assumption); (case hk => first | (simp only [ki_0, ki_1, ki_2, ki_3, ki_4, ki_5, ki_6, ki_7, ki_8, ki_9, ki_10, ki_11, ki_12, ki_17, ki_20, ki_21, ki_22, ki_42, ki_50, ki_58, ki_66, ki_74, ki_140, ki_174, ki_179, ki_184, ki_189, ki_441, nI_add, pk_mul]; with_reducible rfl) | (simp only [ki_0, ki_1, ki_2, ki_3, ki_4, ki_5, ki_6, ki_7, ki_8, ki_9, ki_10, ki_11, ki_12, ki_17, ki_20, ki_21, ki_22, ki_42, ki_50, ki_58, ki_66, ki_74, ki_140, ki_174, ki_179, ki_184, ki_189, ki_441, ix1, nI_add, pk_mul]; with_reducible rfl) | (simp only [ki_0, ki_1, ki_2, ki_3, ki_4, ki_5, ki_6, ki_7, ki_8, ki_9, ki_10, ki_11, ki_12, ki_17, ki_20, ki_21, ki_22, ki_42, ki_50, ki_58, ki_66, ki_74, ki_140, ki_174, ki_179, ki_184, ki_189, ki_441, ix1, ix2, nI_add, pk_mul]; with_reducible rfl) | (simp only [ki_0, ki_1, ki_2, ki_3, ki_4, ki_5, ki_6, ki_7, ki_8, ki_9, ki_10, ki_11, ki_12, ki_17, ki_20, ki_21, ki_22, ki_42, ki_50, ki_58, ki_66, ki_74, ki_140, ki_174, ki_179, ki_184, ki_189, ki_441, ix1, ix2, ix3, nI_add, pk_mul]; with_reducible rfl) | (simp (disch := omega) only [upd_n, ki_0, ki_1, ki_2, ki_3, ki_4, ki_5, ki_6, ki_7, ki_8, ki_9, ki_10, ki_11, ki_12, ki_17, ki_20, ki_21, ki_22, ki_42, ki_50, ki_58, ki_66, ki_74, ki_140, ki_174, ki_179, ki_184, ki_189, ki_441, ix1, nI_add, pk_mul]; with_reducible rfl) | (simp (disch := omega) only [upd_n, ki_0, ki_1, ki_2, ki_3, ki_4, ki_5, ki_6, ki_7, ki_8, ki_9, ki_10, ki_11, ki_12, ki_17, ki_20, ki_21, ki_22, ki_42, ki_50, ki_58, ki_66, ki_74, ki_140, ki_174, ki_179, ki_184, ki_189, ki_441, ix1, ix2, nI_add, pk_mul]; with_reducible rfl) | rfl); (case hlt => first | decide | omega); (case hn => first | decide | omega))
  rw [ekp]
  refine mT_tswc (v := 1) (t := 120) rfl rfl rfl (fun c81_1 => ?_) (fun c81_1 => ?_)
  · iterate 3 refine mT_s rfl rfl ?_
    refine mT_c rfl rfl ?_
    refine x_masterly _ h _ _ _ ?_
    refine mT_s rfl rfl ?_
    refine mT_ret rfl rfl ?_
    have U := v_push_k (s (12 + p)) (s (17 + p)) (nI m) (nI o) (nI g) (s (22 + 4 * p + g % 4)) lf
    rw [← U.1 c81_1] at K
    exact K
  refine mT_tswc (v := 2) (t := 140) rfl rfl rfl (fun c81_2 => ?_) (fun c81_2 => ?_)
  · iterate 2 refine mT_s rfl rfl ?_
    refine mT_c rfl rfl ?_
    refine x_slyly _ h _ _ ?_
    refine mT_s rfl rfl ?_
    refine mT_ret rfl rfl ?_
    have U := v_push_k (s (12 + p)) (s (17 + p)) (nI m) (nI o) (nI g) (s (22 + 4 * p + g % 4)) lf
    rw [← U.2.2.1 c81_2] at K
    exact K
  refine mT_tswc (v := 3) (t := 174) rfl rfl rfl (fun c81_3 => ?_) (fun c81_3 => ?_)
  · iterate 2 refine mT_s rfl rfl ?_
    refine mT_c rfl rfl ?_
    refine x_newly _ h _ _ ?_
    refine mT_s rfl rfl ?_
    refine mT_ret rfl rfl ?_
    have U := v_push_k (s (12 + p)) (s (17 + p)) (nI m) (nI o) (nI g) (s (22 + 4 * p + g % 4)) lf
    rw [← U.2.2.2.2.2.1 c81_3] at K
    exact K
  refine mT_tswc (v := 4) (t := 129) rfl rfl rfl (fun c81_4 => ?_) (fun c81_4 => ?_)
  · iterate 3 refine mT_s rfl rfl ?_
    refine mT_c rfl rfl ?_
    refine x_masterly _ h _ _ _ ?_
    iterate 3 refine mT_s rfl rfl ?_
    refine mT_ret rfl rfl ?_
    have U := v_push_k (s (12 + p)) (s (17 + p)) (nI m) (nI o) (nI g) (s (22 + 4 * p + g % 4)) lf
    rw [← U.2.1 c81_4] at K
    exact K
  refine mT_tswc (v := 5) (t := 148) rfl rfl rfl (fun c81_5 => ?_) (fun c81_5 => ?_)
  · iterate 2 refine mT_s rfl rfl ?_
    (apply mT_getf; (case hc => rfl); (case ha => first | rfl | assumption); (case hf => first | rfl | assumption))
    refine mT_s rfl rfl ?_
    (apply mT_ialdK; (case hc => rfl); (case ha => first | rfl | assumption); (case hk => first | (simp only [ki_0, ki_1, ki_2, ki_3, ki_4, ki_5, ki_6, ki_7, ki_8, ki_9, ki_10, ki_11, ki_12, ki_17, ki_20, ki_21, ki_22, ki_42, ki_50, ki_58, ki_66, ki_74, ki_140, ki_174, ki_179, ki_184, ki_189, ki_441, nI_add, pk_mul]; with_reducible rfl) | (simp only [ki_0, ki_1, ki_2, ki_3, ki_4, ki_5, ki_6, ki_7, ki_8, ki_9, ki_10, ki_11, ki_12, ki_17, ki_20, ki_21, ki_22, ki_42, ki_50, ki_58, ki_66, ki_74, ki_140, ki_174, ki_179, ki_184, ki_189, ki_441, ix1, nI_add, pk_mul]; with_reducible rfl) | (simp only [ki_0, ki_1, ki_2, ki_3, ki_4, ki_5, ki_6, ki_7, ki_8, ki_9, ki_10, ki_11, ki_12, ki_17, ki_20, ki_21, ki_22, ki_42, ki_50, ki_58, ki_66, ki_74, ki_140, ki_174, ki_179, ki_184, ki_189, ki_441, ix1, ix2, nI_add, pk_mul]; with_reducible rfl) | (simp only [ki_0, ki_1, ki_2, ki_3, ki_4, ki_5, ki_6, ki_7, ki_8, ki_9, ki_10, ki_11, ki_12, ki_17, ki_20, ki_21, ki_22, ki_42, ki_50, ki_58, ki_66, ki_74, ki_140, ki_174, ki_179, ki_184, ki_189, ki_441, ix1, ix2, ix3, nI_add, pk_mul]; with_reducible rfl) | (simp (disch := omega) only [upd_n, ki_0, ki_1, ki_2, ki_3, ki_4, ki_5, ki_6, ki_7, ki_8, ki_9, ki_10, ki_11, ki_12, ki_17, ki_20, ki_21, ki_22, ki_42, ki_50, ki_58, ki_66, ki_74, ki_140, ki_174, ki_179, ki_184, ki_189, ki_441, ix1, nI_add, pk_mul]; with_reducible rfl) | (simp (disch := omega) only [upd_n, ki_0, ki_1, ki_2, ki_3, ki_4, ki_5, ki_6, ki_7, ki_8, ki_9, ki_10, ki_11, ki_12, ki_17, ki_20, ki_21, ki_22, ki_42, ki_50, ki_58, ki_66, ki_74, ki_140, ki_174, ki_179, ki_184, ki_189, ki_441, ix1, ix2, nI_add, pk_mul]; with_reducible rfl) | rfl); (case hlt => first | decide | omega); (case hn => first | decide | omega))
    iterate 2 refine mT_s rfl rfl ?_
    refine mT_icmp_lt rfl (fun c158 => ?_) (fun c158 => ?_)
    · rw [evp] at c158
      iterate 2 refine mT_s rfl rfl ?_
      refine mT_c rfl rfl ?_
      refine x_slyly _ h _ _ ?_
      refine mT_s rfl rfl ?_
      refine mT_ret rfl rfl ?_
      have U := v_push_k (s (12 + p)) (s (17 + p)) (nI m) (nI o) (nI g) (s (22 + 4 * p + g % 4)) lf
      rw [← U.2.2.2.2.1 c81_5 (Int32.not_le.mpr c158)] at K
      exact K
    · rw [evp] at c158
      iterate 2 refine mT_s rfl rfl ?_
      refine mT_ret rfl rfl ?_
      have U := v_push_k (s (12 + p)) (s (17 + p)) (nI m) (nI o) (nI g) (s (22 + 4 * p + g % 4)) lf
      rw [← U.2.2.2.1 c81_5 (Int32.not_lt.mp c158)] at K
      exact K
  refine mT_tswc (v := 6) (t := 183) rfl rfl rfl (fun c81_6 => ?_) (fun c81_6 => ?_)
  · iterate 2 refine mT_s rfl rfl ?_
    refine mT_c rfl rfl ?_
    refine x_newly _ h _ _ ?_
    iterate 2 refine mT_s rfl rfl ?_
    (apply mT_getf; (case hc => rfl); (case ha => first | rfl | assumption); (case hf => first | rfl | assumption))
    iterate 7 refine mT_s rfl rfl ?_
    (apply mT_ialdK; (case hc => rfl); (case ha => first | rfl | assumption); (case hk => first | (simp only [ki_0, ki_1, ki_2, ki_3, ki_4, ki_5, ki_6, ki_7, ki_8, ki_9, ki_10, ki_11, ki_12, ki_17, ki_20, ki_21, ki_22, ki_42, ki_50, ki_58, ki_66, ki_74, ki_140, ki_174, ki_179, ki_184, ki_189, ki_441, nI_add, pk_mul]; with_reducible rfl) | (simp only [ki_0, ki_1, ki_2, ki_3, ki_4, ki_5, ki_6, ki_7, ki_8, ki_9, ki_10, ki_11, ki_12, ki_17, ki_20, ki_21, ki_22, ki_42, ki_50, ki_58, ki_66, ki_74, ki_140, ki_174, ki_179, ki_184, ki_189, ki_441, ix1, nI_add, pk_mul]; with_reducible rfl) | (simp only [ki_0, ki_1, ki_2, ki_3, ki_4, ki_5, ki_6, ki_7, ki_8, ki_9, ki_10, ki_11, ki_12, ki_17, ki_20, ki_21, ki_22, ki_42, ki_50, ki_58, ki_66, ki_74, ki_140, ki_174, ki_179, ki_184, ki_189, ki_441, ix1, ix2, nI_add, pk_mul]; with_reducible rfl) | (simp only [ki_0, ki_1, ki_2, ki_3, ki_4, ki_5, ki_6, ki_7, ki_8, ki_9, ki_10, ki_11, ki_12, ki_17, ki_20, ki_21, ki_22, ki_42, ki_50, ki_58, ki_66, ki_74, ki_140, ki_174, ki_179, ki_184, ki_189, ki_441, ix1, ix2, ix3, nI_add, pk_mul]; with_reducible rfl) | (simp (disch := omega) only [upd_n, ki_0, ki_1, ki_2, ki_3, ki_4, ki_5, ki_6, ki_7, ki_8, ki_9, ki_10, ki_11, ki_12, ki_17, ki_20, ki_21, ki_22, ki_42, ki_50, ki_58, ki_66, ki_74, ki_140, ki_174, ki_179, ki_184, ki_189, ki_441, ix1, nI_add, pk_mul]; with_reducible rfl) | (simp (disch := omega) only [upd_n, ki_0, ki_1, ki_2, ki_3, ki_4, ki_5, ki_6, ki_7, ki_8, ki_9, ki_10, ki_11, ki_12, ki_17, ki_20, ki_21, ki_22, ki_42, ki_50, ki_58, ki_66, ki_74, ki_140, ki_174, ki_179, ki_184, ki_189, ki_441, ix1, ix2, nI_add, pk_mul]; with_reducible rfl) | rfl); (case hlt => first | decide | omega); (case hn => first | decide | omega))
    iterate 3 refine mT_s rfl rfl ?_
    refine mT_ret rfl rfl ?_
    have U := v_push_k (s (12 + p)) (s (17 + p)) (nI m) (nI o) (nI g) (s (22 + 4 * p + g % 4)) lf
    rw [← U.2.2.2.2.2.2.1 c81_6] at K
    rw [ew (p * 4 + g % 4) (by omega), show 22 + (p * 4 + g % 4) = 22 + 4 * p + g % 4 by omega]
    exact K
  refine mT_tswd rfl (by have z0 := sw_ne (v := 1) (n := 1) rfl c81_1; have z1 := sw_ne (v := 2) (n := 2) rfl c81_2; have z2 := sw_ne (v := 3) (n := 3) rfl c81_3; have z3 := sw_ne (v := 4) (n := 4) rfl c81_4; have z4 := sw_ne (v := 5) (n := 5) rfl c81_5; have z5 := sw_ne (v := 6) (n := 6) rfl c81_6; omega) ?_
  refine mT_s rfl rfl ?_
  refine mT_ret rfl rfl ?_
  have U := v_push_k (s (12 + p)) (s (17 + p)) (nI m) (nI o) (nI g) (s (22 + 4 * p + g % 4)) lf
  rw [← U.2.2.2.2.2.2.2 c81_1 c81_2 c81_3 c81_4 c81_5 c81_6] at K
  exact K