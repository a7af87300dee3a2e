/-! By program (wip/whole/book*.py) and hand. -/
theorem off_abs : ∀ a, a < 10 → (if (0 : Int32) ≤ nI a - 5 then nI a - 5 else 0 - (nI a - 5)) = nI (nOff a) := by decide
theorem nE_10 {od : Nat → Nat} (h : od 1 ≤ 9) : nE od 20 1 1 10 = nE od 20 1 0 99 := by
  have h1 : nOff (od 1) < 10 := by unfold nOff; split <;> omega
  show (if nOff (od 1) < 10 then _ else _) = (if nOff (od 1) < 99 then _ else _)
  rw [if_pos h1, if_pos (by omega)]
theorem x_even_L (d : Nat) (Q : Option Value → mH → Prop) (it : Int32) (i : Nat → Int32) (iv : Value) (s : Nat → Int32) (l : List Tok) (le mo nb : Nat) (wi lo : Nat → Nat) (mm : Nat → Nat) (g p q : Nat) (hs : s_at s mm g = s) (hg : g ≤ 9999) (hp : p < 5) (hq : q < 5) : ∀ (r k : Nat) (h : mH) (b gap : Nat) (x7 : Option Value), k + r = 21 → b ≤ 20 → gap ≤ 10 → h 20 = .inr (9, xObj it) → XR 21 h i iv s l le mo nb wi lo → (∀ h2, rQ 30 h h2 → Q (some (.int (nI (nE (fun m => a_od s l p q m (mm q) g) r k b gap)))) h2) → mT0 (d + 4) z_X9_even 23 [some (.ref 20), some (.int (nI p)), some (.int (nI q)), some (.int 0), some (.int (nI b)), some (.int (nI gap)), some (.int (nI k)), x7] [] h Q := by
  intro r
  induction r with
  | zero =>
    intro k h b gap x7 hk hb hga hX X K
    obtain ⟨B, XM, XT, XA, XB, XL, i0, i1, i2, i3, i4, i5⟩ := id X
    obtain ⟨hR, hN, hV, hwt, hK, hV5, hW, h9⟩ := id B
    obtain ⟨fm, hm, em⟩ := id XM
    have emq : fm q = nI (mm q) := (em q hq).trans (by rw [← s_at_m s mm g hq, hs])
    have hg1 : i 1 = nI g := i1.trans (by rw [← hs]; rfl)
    iterate 2 refine mT_s rfl rfl ?_
    refine mT_icmp_gt rfl (fun _ => ?_) (fun c => absurd (show nI 20 < nI k from nI_lt (by omega) (by omega)) c)
    refine mT_s rfl rfl ?_
    refine mT_ret rfl rfl ?_
    exact K h (rQ.rfl' h9)
  | succ r ih =>
    intro k h b gap x7 hk hb hga hX X K
    obtain ⟨B, XM, XT, XA, XB, XL, i0, i1, i2, i3, i4, i5⟩ := id X
    obtain ⟨hR, hN, hV, hwt, hK, hV5, hW, h9⟩ := id B
    obtain ⟨fm, hm, em⟩ := id XM
    have emq : fm q = nI (mm q) := (em q hq).trans (by rw [← s_at_m s mm g hq, hs])
    have hg1 : i 1 = nI g := i1.trans (by rw [← hs]; rfl)
    iterate 2 refine mT_s rfl rfl ?_
    refine mT_icmp_gt rfl (fun c => absurd ((nI_ltI (a := 20) (b := k) (by omega) (by omega)).mp c) (by omega)) (fun _ => ?_)
    refine mT_s rfl rfl ?_
    (apply mT_getf; (case hc => rfl); (case ha => first | rfl | assumption); (case hf => first | rfl | assumption))
    iterate 4 refine mT_s rfl rfl ?_
    (apply mT_getf; (case hc => rfl); (case ha => first | rfl | assumption); (case hf => first | rfl | assumption))
    (apply mT_getf; (case hc => rfl); (case ha => first | rfl | assumption); (case hf => first | rfl | assumption))
    refine mT_s rfl rfl ?_
    (apply mT_ialdK; (case hc => rfl); (case ha => first | rfl | assumption); (case hk => first | (simp only [ki_0, ki_1, ki_2, ki_3, ki_4, ki_5, ki_6, ki_7, ki_8, ki_9, ki_10, ki_11, ki_12, ki_17, ki_20, ki_21, ki_22, ki_42, ki_50, ki_58, ki_66, ki_74, ki_140, ki_174, ki_179, ki_184, ki_189, ki_441, nI_add, pk_mul]; with_reducible rfl) | (simp only [ki_0, ki_1, ki_2, ki_3, ki_4, ki_5, ki_6, ki_7, ki_8, ki_9, ki_10, ki_11, ki_12, ki_17, ki_20, ki_21, ki_22, ki_42, ki_50, ki_58, ki_66, ki_74, ki_140, ki_174, ki_179, ki_184, ki_189, ki_441, ix1, nI_add, pk_mul]; with_reducible rfl) | (simp only [ki_0, ki_1, ki_2, ki_3, ki_4, ki_5, ki_6, ki_7, ki_8, ki_9, ki_10, ki_11, ki_12, ki_17, ki_20, ki_21, ki_22, ki_42, ki_50, ki_58, ki_66, ki_74, ki_140, ki_174, ki_179, ki_184, ki_189, ki_441, ix1, ix2, nI_add, pk_mul]; with_reducible rfl) | (simp only [ki_0, ki_1, ki_2, ki_3, ki_4, ki_5, ki_6, ki_7, ki_8, ki_9, ki_10, ki_11, ki_12, ki_17, ki_20, ki_21, ki_22, ki_42, ki_50, ki_58, ki_66, ki_74, ki_140, ki_174, ki_179, ki_184, ki_189, ki_441, ix1, ix2, ix3, nI_add, pk_mul]; with_reducible rfl) | (simp (disch := omega) only [upd_n, ki_0, ki_1, ki_2, ki_3, ki_4, ki_5, ki_6, ki_7, ki_8, ki_9, ki_10, ki_11, ki_12, ki_17, ki_20, ki_21, ki_22, ki_42, ki_50, ki_58, ki_66, ki_74, ki_140, ki_174, ki_179, ki_184, ki_189, ki_441, ix1, nI_add, pk_mul]; with_reducible rfl) | (simp (disch := omega) only [upd_n, ki_0, ki_1, ki_2, ki_3, ki_4, ki_5, ki_6, ki_7, ki_8, ki_9, ki_10, ki_11, ki_12, ki_17, ki_20, ki_21, ki_22, ki_42, ki_50, ki_58, ki_66, ki_74, ki_140, ki_174, ki_179, ki_184, ki_189, ki_441, ix1, ix2, nI_add, pk_mul]; with_reducible rfl) | rfl); (case hlt => first | decide | omega); (case hn => first | decide | omega))
    refine mT_s rfl rfl ?_
    (apply mT_getf; (case hc => rfl); (case ha => first | rfl | assumption); (case hf => first | rfl | assumption))
    (apply mT_getf; (case hc => rfl); (case ha => first | rfl | assumption); (case hf => first | rfl | assumption))
    (apply mT_inv; (case hc => rfl); (case hd => rfl); (case hb => first | rfl | assumption); (case hg => rfl))
    rw [emq, hg1]
    refine x_oddsOf_21 _ h _ i iv s l le mo B p q k (mm q) g hp hq (by omega) (fun h2 r2 => ?_)
    have hod := (a_od_n s l p q k (mm q) g).2.2
    have hof : nOff (a_od s l p q k (mm q) g) ≤ 5 := by unfold nOff; split <;> omega
    have hX2 : h2 20 = _ := (r2.1 20 (by decide)).trans hX
    have X2 := X.q r2
    iterate 6 refine mT_s rfl rfl ?_
    refine mT_icmp_ge rfl (fun c68 => ?_) (fun c68 => ?_)
    · rw [off_abs _ (by omega)] at c68
      have c68 : ¬ nOff (a_od s l p q k (mm q) g) < gap := fun z => absurd ((nI_leI (by omega) (by omega)).mp c68) (by omega)
      iterate 2 refine mT_s rfl rfl ?_
      unfold nE at K
      rw [if_neg c68] at K
      rw [nI_1]
      exact ih (k + 1) h2 b gap _ (by omega) (by omega) (by omega) hX2 X2 (fun h3 r3 => K h3 (r2.tr r3))
    · rw [off_abs _ (by omega)] at c68
      have c68 : nOff (a_od s l p q k (mm q) g) < gap := Nat.lt_of_not_le (fun z => c68 ((nI_leI (by omega) (by omega)).mpr z))
      rw [off_abs _ (by omega)]
      iterate 6 refine mT_s rfl rfl ?_
      unfold nE at K
      rw [if_pos c68] at K
      rw [nI_1]
      exact ih (k + 1) h2 k (nOff (a_od s l p q k (mm q) g)) _ (by omega) (by omega) (by omega) hX2 X2 (fun h3 r3 => K h3 (r2.tr r3))
theorem x_evenP (d : Nat) (h : mH) (Q : Option Value → mH → Prop) (it : Int32) (hX : h 20 = .inr (9, xObj it)) (i : Nat → Int32) (iv : Value) (s : Nat → Int32) (hI : s_Inv s) (l : List Tok) (le mo nb : Nat) (wi lo : Nat → Nat) (X : XR 21 h i iv s l le mo nb wi lo)  (mm : Nat → Nat) (g : Nat) (hmm : ∀ j, j < 5 → mm j ≤ 20) (hs : s_at s mm g = s) (hg : g ≤ 9999) (x y : Int32) (kN : ¬ (okP s x ∧ okP s y) → Q (some (.int (-1))) h) (kB : okP s x → okP s y → x = y → Q (some (.int (-2))) h) (k : ∀ a b : Nat, a < 5 → b < 5 → x = nI a → y = nI b → okP s x → okP s y → a ≠ b → ∀ h2 i2, (∀ a, a ≤ 20 ∨ 31 ≤ a → h2 a = h a) → XR 21 h2 i2 iv s l le mo nb wi lo → Q (some (.int (nI (nE (fun m => a_od s l a b m (mm b) g) 20 1 0 99)))) h2) : mT0 (d + 4) z_X9_even 0 (m_init z_X9_even [.ref 20, .int x, .int y]) [] h Q := by
  obtain ⟨B, XM, XT, XA, XB, XL, i0, i1, i2, i3, i4, i5⟩ := id X
  obtain ⟨hR, hN, hV, hwt, hK, hV5, hW, h9⟩ := id B
  obtain ⟨n9, hn5, hn6⟩ := hI.1
  have hi0 := i0.trans hn6
  obtain ⟨fk, hk, ek⟩ := id hK
  obtain ⟨fv, hv, ev⟩ := id hV5
  obtain ⟨fm, hm, em⟩ := id XM
  obtain ⟨fw, hw, ew⟩ := id hW
  obtain ⟨ft, ht, et⟩ := id XT
  obtain ⟨fa, hfa, ea⟩ := id XA
  obtain ⟨fb, hb, eb⟩ := id XB
  obtain ⟨fl, hfl, el⟩ := id XL
  have M : rMn 21 h mm := ⟨fm, hm, fun j hj => (em j hj).trans (by rw [← s_at_m s mm g hj, hs])⟩
  have hg1 : i 1 = nI g := i1.trans (by rw [← hs]; rfl)
  iterate 3 refine mT_s rfl rfl ?_
  (apply mT_inv; (case hc => rfl); (case hd => rfl); (case hb => first | rfl | assumption); (case hg => rfl))
  refine x_refusal _ h _ it hX i iv hR s n9 hn5 hn6 hi0 x y (fun v => ?_) (fun v w e => ?_) (fun a b ha hb ix1 ix2 va vb hab => ?_)
  · iterate 4 refine mT_s rfl rfl ?_
    refine mT_ret rfl rfl ?_
    exact kN v
  · iterate 4 refine mT_s rfl rfl ?_
    refine mT_ret rfl rfl ?_
    exact kB v w e
  · iterate 9 refine mT_s rfl rfl ?_
    rw [ix1, ix2]
    refine x_even_L d Q it i iv s l le mo nb wi lo mm g a b hs hg ha hb 20 1 h 1 10 _ (by omega) (by omega) (by omega) hX X (fun h2 r2 => ?_)
    rw [nE_10 (a_od_n s l a b 1 (mm b) g).2.2]
    exact k a b ha hb ix1 ix2 va vb hab h2 i (fun c z => r2.1 c (by omega)) (X.q r2)
