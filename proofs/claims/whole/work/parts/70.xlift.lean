/-! By program (wip/whole/book*.py) and hand. -/
/-- the class's cells of an inn -/
def cTs (l : List Tok) : List Int32 := l.flatMap cT
theorem cTs_cons (x : Tok) (l : List Tok) : cTs (x :: l) = cT x ++ cTs l := rfl
/-- a row of truths as a number -/
def bV : List Bool → Nat
  | [] => 0
  | b :: r => cond b 1 0 + 2 * bV r
theorem bV_lt : ∀ l : List Bool, bV l < 2 ^ l.length
  | [] => by decide
  | b :: r => by
    have := bV_lt r
    show cond b 1 0 + 2 * bV r < 2 ^ (r.length + 1)
    rw [Nat.pow_succ]
    cases b
    · show 0 + _ < _; omega
    · show 1 + _ < _; omega
theorem bV_l {l : List Bool} {k : Nat} (h : l.length ≤ k) : bV l < 2 ^ k := Nat.lt_of_lt_of_le (bV_lt l) (Nat.pow_le_pow_right (by decide) h)
theorem x_not {R : Nat} (h : R < 4096) (b : Bool) : nI (cond b 1 0 + 2 * R) ^^^ 1 = nI (cond (!b) 1 0 + 2 * R) := by
  have h9 : ∀ P : Fin 64, ∀ S : Fin 64, ∀ b : Bool, nI (cond b 1 0 + 2 * (64 * P.val + S.val)) ^^^ 1 = nI (cond (!b) 1 0 + 2 * (64 * P.val + S.val)) := by decide +kernel
  have := h9 ⟨R / 64, by omega⟩ ⟨R % 64, by omega⟩ b
  simp only [Nat.div_add_mod] at this
  exact this
theorem x_and {R : Nat} (h : R < 2048) (b c : Bool) : (nI (cond b 1 0 + 2 * (cond c 1 0 + 2 * R)) >>> (1 &&& 31)) &&& (nI (cond b 1 0 + 2 * (cond c 1 0 + 2 * R)) ||| -2) = nI (cond (c && b) 1 0 + 2 * R) := by
  have h9 : ∀ P : Fin 32, ∀ S : Fin 64, ∀ b c : Bool, (nI (cond b 1 0 + 2 * (cond c 1 0 + 2 * (64 * P.val + S.val))) >>> (1 &&& 31)) &&& (nI (cond b 1 0 + 2 * (cond c 1 0 + 2 * (64 * P.val + S.val))) ||| -2) = nI (cond (c && b) 1 0 + 2 * (64 * P.val + S.val)) := by decide +kernel
  have := h9 ⟨R / 64, by omega⟩ ⟨R % 64, by omega⟩ b c
  simp only [Nat.div_add_mod] at this
  exact this
theorem x_or {R : Nat} (h : R < 2048) (b c : Bool) : (nI (cond b 1 0 + 2 * (cond c 1 0 + 2 * R)) >>> (1 &&& 31)) ||| (nI (cond b 1 0 + 2 * (cond c 1 0 + 2 * R)) &&& 1) = nI (cond (c || b) 1 0 + 2 * R) := by
  have h9 : ∀ P : Fin 32, ∀ S : Fin 64, ∀ b c : Bool, (nI (cond b 1 0 + 2 * (cond c 1 0 + 2 * (64 * P.val + S.val))) >>> (1 &&& 31)) ||| (nI (cond b 1 0 + 2 * (cond c 1 0 + 2 * (64 * P.val + S.val))) &&& 1) = nI (cond (c || b) 1 0 + 2 * (64 * P.val + S.val)) := by decide +kernel
  have := h9 ⟨R / 64, by omega⟩ ⟨R % 64, by omega⟩ b c
  simp only [Nat.div_add_mod] at this
  exact this
theorem x_push {R : Nat} (h : R < 4096) (b : Bool) : (nI R <<< (1 &&& 31)) ||| bI b = nI (cond b 1 0 + 2 * R) := by
  have h9 : ∀ P : Fin 64, ∀ S : Fin 64, ∀ b : Bool, (nI (64 * P.val + S.val) <<< (1 &&& 31)) ||| bI b = nI (cond b 1 0 + 2 * (64 * P.val + S.val)) := by decide +kernel
  have := h9 ⟨R / 64, by omega⟩ ⟨R % 64, by omega⟩ b
  simp only [Nat.div_add_mod] at this
  exact this
theorem x_passes (d : Nat) (h : mH) (Q : Option Value → mH → Prop)  (fa : Nat) (f : Nat → Int32) (hf : h fa = .inl (0, 5, .inl f)) (w c v : Nat) (hw : w < 5) (hc : c < 3) (hv : v < 100) (K : Q (some (.int (bI (v_test f w c v)))) h) : mT0 d z_X3_passes 0 (m_init z_X3_passes [.int (nI ((w * 3 + c) * 100 + v)), .ref fa]) [] h Q := by
  have e1 : nI ((w * 3 + c) * 100 + v) - nI ((w * 3 + c) * 100 + v) / nI 100 * nI 100 = nI v := by rw [pk_rem (by omega) (by omega) (by omega)]; exact congrArg nI (by omega)
  have e2 : nI ((w * 3 + c) * 100 + v) / nI 100 - nI ((w * 3 + c) * 100 + v) / nI 100 / nI 3 * nI 3 = nI c := by rw [pk_div (by omega) (by omega) (by omega), pk_rem (by omega) (by omega) (by omega)]; exact congrArg nI (by omega)
  have ix1 : nI ((w * 3 + c) * 100 + v) / 300 - nI ((w * 3 + c) * 100 + v) / 300 / nI 5 * nI 5 = nI w := by rw [show (300 : Int32) = nI 300 from rfl, pk_div (by omega) (by omega) (by omega), pk_rem (by omega) (by omega) (by omega)]; exact congrArg nI (by omega)
  iterate 16 refine mT_s rfl rfl ?_
  (apply mT_ialdK; (case hc => rfl); (case ha => first | rfl | assumption); (case hk => first | (simp only [ki_0, ki_1, ki_2, ki_3, ki_4, ki_5, ki_6, ki_7, ki_8, ki_9, ki_10, ki_11, ki_12, ki_17, ki_20, ki_21, ki_22, ki_42, ki_50, ki_58, ki_66, ki_74, ki_140, ki_174, ki_179, ki_184, ki_189, ki_441, nI_add, pk_mul]; with_reducible rfl) | (simp only [ki_0, ki_1, ki_2, ki_3, ki_4, ki_5, ki_6, ki_7, ki_8, ki_9, ki_10, ki_11, ki_12, ki_17, ki_20, ki_21, ki_22, ki_42, ki_50, ki_58, ki_66, ki_74, ki_140, ki_174, ki_179, ki_184, ki_189, ki_441, ix1, nI_add, pk_mul]; with_reducible rfl) | (simp only [ki_0, ki_1, ki_2, ki_3, ki_4, ki_5, ki_6, ki_7, ki_8, ki_9, ki_10, ki_11, ki_12, ki_17, ki_20, ki_21, ki_22, ki_42, ki_50, ki_58, ki_66, ki_74, ki_140, ki_174, ki_179, ki_184, ki_189, ki_441, ix1, ix2, nI_add, pk_mul]; with_reducible rfl) | (simp only [ki_0, ki_1, ki_2, ki_3, ki_4, ki_5, ki_6, ki_7, ki_8, ki_9, ki_10, ki_11, ki_12, ki_17, ki_20, ki_21, ki_22, ki_42, ki_50, ki_58, ki_66, ki_74, ki_140, ki_174, ki_179, ki_184, ki_189, ki_441, ix1, ix2, ix3, nI_add, pk_mul]; with_reducible rfl) | (simp (disch := omega) only [upd_n, ki_0, ki_1, ki_2, ki_3, ki_4, ki_5, ki_6, ki_7, ki_8, ki_9, ki_10, ki_11, ki_12, ki_17, ki_20, ki_21, ki_22, ki_42, ki_50, ki_58, ki_66, ki_74, ki_140, ki_174, ki_179, ki_184, ki_189, ki_441, ix1, nI_add, pk_mul]; with_reducible rfl) | (simp (disch := omega) only [upd_n, ki_0, ki_1, ki_2, ki_3, ki_4, ki_5, ki_6, ki_7, ki_8, ki_9, ki_10, ki_11, ki_12, ki_17, ki_20, ki_21, ki_22, ki_42, ki_50, ki_58, ki_66, ki_74, ki_140, ki_174, ki_179, ki_184, ki_189, ki_441, ix1, ix2, nI_add, pk_mul]; with_reducible rfl) | rfl); (case hlt => first | decide | omega); (case hn => first | decide | omega))
  iterate 2 refine mT_s rfl rfl ?_
  refine mT_if_ne rfl (fun c24 => ?_) (fun c24 => ?_)
  · have c0 : ¬ c = 0 := fun z => c24 (e2.trans (congrArg nI z))
    iterate 2 refine mT_s rfl rfl ?_
    refine mT_icmp_ne rfl (fun c41 => ?_) (fun c41 => ?_)
    · have c1 : ¬ c = 1 := fun z => c41 (e2.trans (congrArg nI z))
      iterate 2 refine mT_s rfl rfl ?_
      refine mT_icmp_le rfl (fun c59 => ?_) (fun c59 => ?_)
      · have c59 : f w ≤ nI v := by rw [← e1]; exact c59
        refine mT_s rfl rfl ?_
        refine mT_ret rfl rfl ?_
        have e : bI (v_test f w c v) = 0 := by
          unfold v_test
          rw [if_neg c0, if_neg c1, decide_eq_false (Int32.not_lt.mpr c59)]
          rfl
        rw [e] at K
        exact K
      · have c59 : ¬ f w ≤ nI v := by rw [← e1]; exact c59
        iterate 2 refine mT_s rfl rfl ?_
        refine mT_ret rfl rfl ?_
        have e : bI (v_test f w c v) = 1 := by
          unfold v_test
          rw [if_neg c0, if_neg c1, decide_eq_true (Int32.not_le.mp c59)]
          rfl
        rw [e] at K
        exact K
    · have c1 : c = 1 := (nI_eq (b := 1) (by omega) (by omega)).mp (e2.symm.trans c41)
      iterate 2 refine mT_s rfl rfl ?_
      refine mT_icmp_ne rfl (fun c47 => ?_) (fun c47 => ?_)
      · have c47 : ¬ f w = nI v := by rw [← e1]; exact c47
        refine mT_s rfl rfl ?_
        refine mT_ret rfl rfl ?_
        have e : bI (v_test f w c v) = 0 := by
          unfold v_test
          rw [if_neg c0, if_pos c1, decide_eq_false c47]
          rfl
        rw [e] at K
        exact K
      · have c47 : f w = nI v := by rw [← e1]; exact c47
        iterate 2 refine mT_s rfl rfl ?_
        refine mT_ret rfl rfl ?_
        have e : bI (v_test f w c v) = 1 := by
          unfold v_test
          rw [if_neg c0, if_pos c1, decide_eq_true c47]
          rfl
        rw [e] at K
        exact K
  · have c0 : c = 0 := (nI_eq (b := 0) (by omega) (by omega)).mp (e2.symm.trans c24)
    iterate 2 refine mT_s rfl rfl ?_
    refine mT_icmp_ge rfl (fun c30 => ?_) (fun c30 => ?_)
    · have c30 : nI v ≤ f w := by rw [← e1]; exact c30
      refine mT_s rfl rfl ?_
      refine mT_ret rfl rfl ?_
      have e : bI (v_test f w c v) = 0 := by
        unfold v_test
        rw [if_pos c0, decide_eq_false (Int32.not_lt.mpr c30)]
        rfl
      rw [e] at K
      exact K
    · have c30 : ¬ nI v ≤ f w := by rw [← e1]; exact c30
      iterate 2 refine mT_s rfl rfl ?_
      refine mT_ret rfl rfl ?_
      have e : bI (v_test f w c v) = 1 := by
        unfold v_test
        rw [if_pos c0, decide_eq_true (Int32.not_le.mp c30)]
        rfl
      rw [e] at K
      exact K

/-- a code of cells lies from a place on -/
def cA (cd : Nat → Int32) : Nat → List Int32 → Prop
  | _, [] => True
  | k, x :: l => cd k = x ∧ cA cd (k + 1) l
theorem cA_app {cd : Nat → Int32} : ∀ {l m : List Int32} {k : Nat}, cA cd k (l ++ m) → cA cd k l ∧ cA cd (k + l.length) m
  | [], _, _, h => ⟨trivial, h⟩
  | x :: l, m, k, h => by
    obtain ⟨h1, h2⟩ := cA_app h.2
    exact ⟨⟨h.1, h1⟩, by rw [show k + (x :: l).length = k + 1 + l.length by rw [List.length_cons]; omega]; exact h2⟩
theorem x_lift_L (d : Nat) (h : mH) (Q : Option Value → mH → Prop) (ia ca fa n : Nat) (x1 x2 : Value) (hia : h ia = .inr (3, [x1, x2, .ref ca])) (cd : Nat → Int32) (hca : h ca = .inl (0, n, .inl cd)) (hn : n ≤ 100) (f : Nat → Int32) (hf : h fa = .inl (0, 5, .inl f)) (v : Int32) (K : Q (some (.int v)) h)  : ∀ (l : List Tok) (st : List Bool) (sum : Int32) (idx : Nat), w_toks st.length l → st.length ≤ 13 → cA cd idx (cTs l) → idx + (cTs l).length = n → v_toks f l st sum = v → mT0 (d + 1) z_X3_lift 7 [some (.ref ia), some (.ref fa), some (.int sum), some (.int (nI (bV st))), some (.int (nI idx))] [] h Q := by
  intro l
  induction l with
  | nil =>
    intro st sum idx hW hk13 hcd hl hv
    iterate 2 refine mT_s rfl rfl ?_
    (apply mT_getf; (case hc => rfl); (case ha => first | rfl | assumption); (case hf => first | rfl | assumption))
    (apply mT_alen; (case hc => rfl); (case ha => first | rfl | assumption))
    refine mT_icmp_ge rfl (fun _ => ?_) (fun c => absurd (nI_le (a := n) (b := idx) (by have : idx + 0 = n := hl; omega) (by omega)) c)
    refine mT_s rfl rfl ?_
    refine mT_ret rfl rfl ?_
    have hv : sum = v := hv
    rw [hv]
    exact K
  | cons x l ih =>
    intro st sum idx hW hk13 hcd hl hv
    rcases x with ⟨w, c, v9⟩ | ⟨k | ⟨b9, n9⟩⟩
    · obtain ⟨hw, hc, hv9, hk, hW⟩ := hW
      have hx : cd idx = nI ((w * 3 + c) * 100 + v9) := hcd.1
      have hcd2 := hcd.2
      have hl : idx + (1 + (cTs l).length) = n := by rw [← hl, cTs_cons, List.length_append]; rfl
      iterate 2 refine mT_s rfl rfl ?_
      (apply mT_getf; (case hc => rfl); (case ha => first | rfl | assumption); (case hf => first | rfl | assumption))
      (apply mT_alen; (case hc => rfl); (case ha => first | rfl | assumption))
      refine mT_icmp_ge rfl (fun c => absurd c (nI_ge (a := idx) (b := n) (by omega) (by omega))) (fun _ => ?_)
      refine mT_s rfl rfl ?_
      (apply mT_getf; (case hc => rfl); (case ha => first | rfl | assumption); (case hf => first | rfl | assumption))
      refine mT_s rfl rfl ?_
      (apply mT_ialdK; (case hc => rfl); (case ha => first | rfl | assumption); (case hk => first | (simp only [ki_0, ki_1, ki_2, ki_3, ki_4, ki_5, ki_6, ki_7, ki_8, ki_9, ki_10, ki_11, ki_12, ki_17, ki_20, ki_21, ki_22, ki_42, ki_50, ki_58, ki_66, ki_74, ki_140, ki_174, ki_179, ki_184, ki_189, ki_441, nI_add, pk_mul]; with_reducible rfl) | (simp only [ki_0, ki_1, ki_2, ki_3, ki_4, ki_5, ki_6, ki_7, ki_8, ki_9, ki_10, ki_11, ki_12, ki_17, ki_20, ki_21, ki_22, ki_42, ki_50, ki_58, ki_66, ki_74, ki_140, ki_174, ki_179, ki_184, ki_189, ki_441, ix1, nI_add, pk_mul]; with_reducible rfl) | (simp only [ki_0, ki_1, ki_2, ki_3, ki_4, ki_5, ki_6, ki_7, ki_8, ki_9, ki_10, ki_11, ki_12, ki_17, ki_20, ki_21, ki_22, ki_42, ki_50, ki_58, ki_66, ki_74, ki_140, ki_174, ki_179, ki_184, ki_189, ki_441, ix1, ix2, nI_add, pk_mul]; with_reducible rfl) | (simp only [ki_0, ki_1, ki_2, ki_3, ki_4, ki_5, ki_6, ki_7, ki_8, ki_9, ki_10, ki_11, ki_12, ki_17, ki_20, ki_21, ki_22, ki_42, ki_50, ki_58, ki_66, ki_74, ki_140, ki_174, ki_179, ki_184, ki_189, ki_441, ix1, ix2, ix3, nI_add, pk_mul]; with_reducible rfl) | (simp (disch := omega) only [upd_n, ki_0, ki_1, ki_2, ki_3, ki_4, ki_5, ki_6, ki_7, ki_8, ki_9, ki_10, ki_11, ki_12, ki_17, ki_20, ki_21, ki_22, ki_42, ki_50, ki_58, ki_66, ki_74, ki_140, ki_174, ki_179, ki_184, ki_189, ki_441, ix1, nI_add, pk_mul]; with_reducible rfl) | (simp (disch := omega) only [upd_n, ki_0, ki_1, ki_2, ki_3, ki_4, ki_5, ki_6, ki_7, ki_8, ki_9, ki_10, ki_11, ki_12, ki_17, ki_20, ki_21, ki_22, ki_42, ki_50, ki_58, ki_66, ki_74, ki_140, ki_174, ki_179, ki_184, ki_189, ki_441, ix1, ix2, nI_add, pk_mul]; with_reducible rfl) | rfl); (case hlt => first | decide | omega); (case hn => first | decide | omega))
      rw [hx]
      refine mT_tswd rfl (Or.inr (by rw [nI_toInt (by omega)]; omega)) ?_
      iterate 4 refine mT_s rfl rfl ?_
      (apply mT_getf; (case hc => rfl); (case ha => first | rfl | assumption); (case hf => first | rfl | assumption))
      refine mT_s rfl rfl ?_
      (apply mT_ialdK; (case hc => rfl); (case ha => first | rfl | assumption); (case hk => first | (simp only [ki_0, ki_1, ki_2, ki_3, ki_4, ki_5, ki_6, ki_7, ki_8, ki_9, ki_10, ki_11, ki_12, ki_17, ki_20, ki_21, ki_22, ki_42, ki_50, ki_58, ki_66, ki_74, ki_140, ki_174, ki_179, ki_184, ki_189, ki_441, nI_add, pk_mul]; with_reducible rfl) | (simp only [ki_0, ki_1, ki_2, ki_3, ki_4, ki_5, ki_6, ki_7, ki_8, ki_9, ki_10, ki_11, ki_12, ki_17, ki_20, ki_21, ki_22, ki_42, ki_50, ki_58, ki_66, ki_74, ki_140, ki_174, ki_179, ki_184, ki_189, ki_441, ix1, nI_add, pk_mul]; with_reducible rfl) | (simp only [ki_0, ki_1, ki_2, ki_3, ki_4, ki_5, ki_6, ki_7, ki_8, ki_9, ki_10, ki_11, ki_12, ki_17, ki_20, ki_21, ki_22, ki_42, ki_50, ki_58, ki_66, ki_74, ki_140, ki_174, ki_179, ki_184, ki_189, ki_441, ix1, ix2, nI_add, pk_mul]; with_reducible rfl) | (simp only [ki_0, ki_1, ki_2, ki_3, ki_4, ki_5, ki_6, ki_7, ki_8, ki_9, ki_10, ki_11, ki_12, ki_17, ki_20, ki_21, ki_22, ki_42, ki_50, ki_58, ki_66, ki_74, ki_140, ki_174, ki_179, ki_184, ki_189, ki_441, ix1, ix2, ix3, nI_add, pk_mul]; with_reducible rfl) | (simp (disch := omega) only [upd_n, ki_0, ki_1, ki_2, ki_3, ki_4, ki_5, ki_6, ki_7, ki_8, ki_9, ki_10, ki_11, ki_12, ki_17, ki_20, ki_21, ki_22, ki_42, ki_50, ki_58, ki_66, ki_74, ki_140, ki_174, ki_179, ki_184, ki_189, ki_441, ix1, nI_add, pk_mul]; with_reducible rfl) | (simp (disch := omega) only [upd_n, ki_0, ki_1, ki_2, ki_3, ki_4, ki_5, ki_6, ki_7, ki_8, ki_9, ki_10, ki_11, ki_12, ki_17, ki_20, ki_21, ki_22, ki_42, ki_50, ki_58, ki_66, ki_74, ki_140, ki_174, ki_179, ki_184, ki_189, ki_441, ix1, ix2, nI_add, pk_mul]; with_reducible rfl) | rfl); (case hlt => first | decide | omega); (case hn => first | decide | omega))
      refine mT_s rfl rfl ?_
      refine mT_c rfl rfl ?_
      rw [hx]
      refine x_passes _ h _ fa f hf w c v9 hw hc hv9 ?_
      iterate 4 refine mT_s rfl rfl ?_
      rw [x_push (show bV st < 4096 from bV_l (k := 12) (by omega)) (v_test f w c v9), nI_1]
      exact ih (v_test f w c v9 :: st) sum (idx + 1) hW (by simp only [List.length_cons]; omega) hcd2 (by omega) hv
    · rcases k with _ | k
      · obtain ⟨hk, hW⟩ := hW
        have hx : cd idx = -1 := hcd.1
        have hcd2 := hcd.2
        have hl : idx + (1 + (cTs l).length) = n := by rw [← hl, cTs_cons, List.length_append]; rfl
        rcases st with _ | ⟨b, st⟩
        · exact absurd hk (by decide)
        simp only [List.length_cons] at hk13
        iterate 2 refine mT_s rfl rfl ?_
        (apply mT_getf; (case hc => rfl); (case ha => first | rfl | assumption); (case hf => first | rfl | assumption))
        (apply mT_alen; (case hc => rfl); (case ha => first | rfl | assumption))
        refine mT_icmp_ge rfl (fun c => absurd c (nI_ge (a := idx) (b := n) (by omega) (by omega))) (fun _ => ?_)
        refine mT_s rfl rfl ?_
        (apply mT_getf; (case hc => rfl); (case ha => first | rfl | assumption); (case hf => first | rfl | assumption))
        refine mT_s rfl rfl ?_
        (apply mT_ialdK; (case hc => rfl); (case ha => first | rfl | assumption); (case hk => first | (simp only [ki_0, ki_1, ki_2, ki_3, ki_4, ki_5, ki_6, ki_7, ki_8, ki_9, ki_10, ki_11, ki_12, ki_17, ki_20, ki_21, ki_22, ki_42, ki_50, ki_58, ki_66, ki_74, ki_140, ki_174, ki_179, ki_184, ki_189, ki_441, nI_add, pk_mul]; with_reducible rfl) | (simp only [ki_0, ki_1, ki_2, ki_3, ki_4, ki_5, ki_6, ki_7, ki_8, ki_9, ki_10, ki_11, ki_12, ki_17, ki_20, ki_21, ki_22, ki_42, ki_50, ki_58, ki_66, ki_74, ki_140, ki_174, ki_179, ki_184, ki_189, ki_441, ix1, nI_add, pk_mul]; with_reducible rfl) | (simp only [ki_0, ki_1, ki_2, ki_3, ki_4, ki_5, ki_6, ki_7, ki_8, ki_9, ki_10, ki_11, ki_12, ki_17, ki_20, ki_21, ki_22, ki_42, ki_50, ki_58, ki_66, ki_74, ki_140, ki_174, ki_179, ki_184, ki_189, ki_441, ix1, ix2, nI_add, pk_mul]; with_reducible rfl) | (simp only [ki_0, ki_1, ki_2, ki_3, ki_4, ki_5, ki_6, ki_7, ki_8, ki_9, ki_10, ki_11, ki_12, ki_17, ki_20, ki_21, ki_22, ki_42, ki_50, ki_58, ki_66, ki_74, ki_140, ki_174, ki_179, ki_184, ki_189, ki_441, ix1, ix2, ix3, nI_add, pk_mul]; with_reducible rfl) | (simp (disch := omega) only [upd_n, ki_0, ki_1, ki_2, ki_3, ki_4, ki_5, ki_6, ki_7, ki_8, ki_9, ki_10, ki_11, ki_12, ki_17, ki_20, ki_21, ki_22, ki_42, ki_50, ki_58, ki_66, ki_74, ki_140, ki_174, ki_179, ki_184, ki_189, ki_441, ix1, nI_add, pk_mul]; with_reducible rfl) | (simp (disch := omega) only [upd_n, ki_0, ki_1, ki_2, ki_3, ki_4, ki_5, ki_6, ki_7, ki_8, ki_9, ki_10, ki_11, ki_12, ki_17, ki_20, ki_21, ki_22, ki_42, ki_50, ki_58, ki_66, ki_74, ki_140, ki_174, ki_179, ki_184, ki_189, ki_441, ix1, ix2, nI_add, pk_mul]; with_reducible rfl) | rfl); (case hlt => first | decide | omega); (case hn => first | decide | omega))
        rw [hx]
        refine mT_s rfl rfl ?_
        iterate 7 refine mT_s rfl rfl ?_
        rw [show nI (bV (b :: st)) ^^^ 1 = nI (bV ((!b) :: st)) from x_not (show bV st < 4096 from bV_l (k := 12) (by omega)) b, nI_1]
        exact ih ((!b) :: st) sum (idx + 1) hW (by simp only [List.length_cons] at hk13 ⊢; omega) hcd2 (by omega) hv
      · have hW2 : 1 < st.length ∧ w_toks (st.length - 1) l := by
          cases k with
          | zero => exact hW
          | succ k => exact hW
        obtain ⟨hk, hW3⟩ := hW2
        clear hW
        rcases st with _ | ⟨b, st⟩
        · exact absurd hk (by decide)
        rcases st with _ | ⟨c, st⟩
        · exact absurd hk (by simp)
        simp only [List.length_cons] at hk13
        rcases k with _ | k
        · have hx : cd idx = -2 := hcd.1
          have hcd2 := hcd.2
          have hl : idx + (1 + (cTs l).length) = n := by rw [← hl, cTs_cons, List.length_append]; rfl
          iterate 2 refine mT_s rfl rfl ?_
          (apply mT_getf; (case hc => rfl); (case ha => first | rfl | assumption); (case hf => first | rfl | assumption))
          (apply mT_alen; (case hc => rfl); (case ha => first | rfl | assumption))
          refine mT_icmp_ge rfl (fun c => absurd c (nI_ge (a := idx) (b := n) (by omega) (by omega))) (fun _ => ?_)
          refine mT_s rfl rfl ?_
          (apply mT_getf; (case hc => rfl); (case ha => first | rfl | assumption); (case hf => first | rfl | assumption))
          refine mT_s rfl rfl ?_
          (apply mT_ialdK; (case hc => rfl); (case ha => first | rfl | assumption); (case hk => first | (simp only [ki_0, ki_1, ki_2, ki_3, ki_4, ki_5, ki_6, ki_7, ki_8, ki_9, ki_10, ki_11, ki_12, ki_17, ki_20, ki_21, ki_22, ki_42, ki_50, ki_58, ki_66, ki_74, ki_140, ki_174, ki_179, ki_184, ki_189, ki_441, nI_add, pk_mul]; with_reducible rfl) | (simp only [ki_0, ki_1, ki_2, ki_3, ki_4, ki_5, ki_6, ki_7, ki_8, ki_9, ki_10, ki_11, ki_12, ki_17, ki_20, ki_21, ki_22, ki_42, ki_50, ki_58, ki_66, ki_74, ki_140, ki_174, ki_179, ki_184, ki_189, ki_441, ix1, nI_add, pk_mul]; with_reducible rfl) | (simp only [ki_0, ki_1, ki_2, ki_3, ki_4, ki_5, ki_6, ki_7, ki_8, ki_9, ki_10, ki_11, ki_12, ki_17, ki_20, ki_21, ki_22, ki_42, ki_50, ki_58, ki_66, ki_74, ki_140, ki_174, ki_179, ki_184, ki_189, ki_441, ix1, ix2, nI_add, pk_mul]; with_reducible rfl) | (simp only [ki_0, ki_1, ki_2, ki_3, ki_4, ki_5, ki_6, ki_7, ki_8, ki_9, ki_10, ki_11, ki_12, ki_17, ki_20, ki_21, ki_22, ki_42, ki_50, ki_58, ki_66, ki_74, ki_140, ki_174, ki_179, ki_184, ki_189, ki_441, ix1, ix2, ix3, nI_add, pk_mul]; with_reducible rfl) | (simp (disch := omega) only [upd_n, ki_0, ki_1, ki_2, ki_3, ki_4, ki_5, ki_6, ki_7, ki_8, ki_9, ki_10, ki_11, ki_12, ki_17, ki_20, ki_21, ki_22, ki_42, ki_50, ki_58, ki_66, ki_74, ki_140, ki_174, ki_179, ki_184, ki_189, ki_441, ix1, nI_add, pk_mul]; with_reducible rfl) | (simp (disch := omega) only [upd_n, ki_0, ki_1, ki_2, ki_3, ki_4, ki_5, ki_6, ki_7, ki_8, ki_9, ki_10, ki_11, ki_12, ki_17, ki_20, ki_21, ki_22, ki_42, ki_50, ki_58, ki_66, ki_74, ki_140, ki_174, ki_179, ki_184, ki_189, ki_441, ix1, ix2, nI_add, pk_mul]; with_reducible rfl) | rfl); (case hlt => first | decide | omega); (case hn => first | decide | omega))
          rw [hx]
          refine mT_s rfl rfl ?_
          iterate 11 refine mT_s rfl rfl ?_
          rw [nI_1]
          refine (congrArg (fun z => mT0 (d + 1) z_X3_lift 7 [some (.ref ia), some (.ref fa), some (.int sum), some (.int z), some (.int (nI (idx + 1)))] [] h Q) (x_and (show bV st < 2048 from bV_l (k := 11) (by omega)) b c)).mpr ?_
          exact ih ((c && b) :: st) sum (idx + 1) hW3 (by simp only [List.length_cons] at hk13 ⊢; omega) hcd2 (by omega) hv
        · have hx : cd idx = -3 := hcd.1
          have hcd2 := hcd.2
          have hl : idx + (1 + (cTs l).length) = n := by rw [← hl, cTs_cons, List.length_append]; rfl
          iterate 2 refine mT_s rfl rfl ?_
          (apply mT_getf; (case hc => rfl); (case ha => first | rfl | assumption); (case hf => first | rfl | assumption))
          (apply mT_alen; (case hc => rfl); (case ha => first | rfl | assumption))
          refine mT_icmp_ge rfl (fun c => absurd c (nI_ge (a := idx) (b := n) (by omega) (by omega))) (fun _ => ?_)
          refine mT_s rfl rfl ?_
          (apply mT_getf; (case hc => rfl); (case ha => first | rfl | assumption); (case hf => first | rfl | assumption))
          refine mT_s rfl rfl ?_
          (apply mT_ialdK; (case hc => rfl); (case ha => first | rfl | assumption); (case hk => first | (simp only [ki_0, ki_1, ki_2, ki_3, ki_4, ki_5, ki_6, ki_7, ki_8, ki_9, ki_10, ki_11, ki_12, ki_17, ki_20, ki_21, ki_22, ki_42, ki_50, ki_58, ki_66, ki_74, ki_140, ki_174, ki_179, ki_184, ki_189, ki_441, nI_add, pk_mul]; with_reducible rfl) | (simp only [ki_0, ki_1, ki_2, ki_3, ki_4, ki_5, ki_6, ki_7, ki_8, ki_9, ki_10, ki_11, ki_12, ki_17, ki_20, ki_21, ki_22, ki_42, ki_50, ki_58, ki_66, ki_74, ki_140, ki_174, ki_179, ki_184, ki_189, ki_441, ix1, nI_add, pk_mul]; with_reducible rfl) | (simp only [ki_0, ki_1, ki_2, ki_3, ki_4, ki_5, ki_6, ki_7, ki_8, ki_9, ki_10, ki_11, ki_12, ki_17, ki_20, ki_21, ki_22, ki_42, ki_50, ki_58, ki_66, ki_74, ki_140, ki_174, ki_179, ki_184, ki_189, ki_441, ix1, ix2, nI_add, pk_mul]; with_reducible rfl) | (simp only [ki_0, ki_1, ki_2, ki_3, ki_4, ki_5, ki_6, ki_7, ki_8, ki_9, ki_10, ki_11, ki_12, ki_17, ki_20, ki_21, ki_22, ki_42, ki_50, ki_58, ki_66, ki_74, ki_140, ki_174, ki_179, ki_184, ki_189, ki_441, ix1, ix2, ix3, nI_add, pk_mul]; with_reducible rfl) | (simp (disch := omega) only [upd_n, ki_0, ki_1, ki_2, ki_3, ki_4, ki_5, ki_6, ki_7, ki_8, ki_9, ki_10, ki_11, ki_12, ki_17, ki_20, ki_21, ki_22, ki_42, ki_50, ki_58, ki_66, ki_74, ki_140, ki_174, ki_179, ki_184, ki_189, ki_441, ix1, nI_add, pk_mul]; with_reducible rfl) | (simp (disch := omega) only [upd_n, ki_0, ki_1, ki_2, ki_3, ki_4, ki_5, ki_6, ki_7, ki_8, ki_9, ki_10, ki_11, ki_12, ki_17, ki_20, ki_21, ki_22, ki_42, ki_50, ki_58, ki_66, ki_74, ki_140, ki_174, ki_179, ki_184, ki_189, ki_441, ix1, ix2, nI_add, pk_mul]; with_reducible rfl) | rfl); (case hlt => first | decide | omega); (case hn => first | decide | omega))
          rw [hx]
          refine mT_s rfl rfl ?_
          iterate 11 refine mT_s rfl rfl ?_
          rw [nI_1]
          refine (congrArg (fun z => mT0 (d + 1) z_X3_lift 7 [some (.ref ia), some (.ref fa), some (.int sum), some (.int z), some (.int (nI (idx + 1)))] [] h Q) (x_or (show bV st < 2048 from bV_l (k := 11) (by omega)) b c)).mpr ?_
          exact ih ((c || b) :: st) sum (idx + 1) hW3 (by simp only [List.length_cons] at hk13 ⊢; omega) hcd2 (by omega) hv
    · obtain ⟨hk, hn9, hW⟩ := hW
      rcases st with _ | ⟨b, st⟩
      · exact absurd hk (by decide)
      rcases st with _ | ⟨c, st⟩
      · cases b9 with
        | false =>
          have hx : cd idx = -4 := hcd.1
          have hx2 : cd (idx + 1) = nI n9 := hcd.2.1
          have hcd3 := hcd.2.2
          have hl : idx + (2 + (cTs l).length) = n := by rw [← hl, cTs_cons, List.length_append]; rfl
          cases b with
          | true =>
            iterate 2 refine mT_s rfl rfl ?_
            (apply mT_getf; (case hc => rfl); (case ha => first | rfl | assumption); (case hf => first | rfl | assumption))
            (apply mT_alen; (case hc => rfl); (case ha => first | rfl | assumption))
            refine mT_icmp_ge rfl (fun c => absurd c (nI_ge (a := idx) (b := n) (by omega) (by omega))) (fun _ => ?_)
            refine mT_s rfl rfl ?_
            (apply mT_getf; (case hc => rfl); (case ha => first | rfl | assumption); (case hf => first | rfl | assumption))
            refine mT_s rfl rfl ?_
            (apply mT_ialdK; (case hc => rfl); (case ha => first | rfl | assumption); (case hk => first | (simp only [ki_0, ki_1, ki_2, ki_3, ki_4, ki_5, ki_6, ki_7, ki_8, ki_9, ki_10, ki_11, ki_12, ki_17, ki_20, ki_21, ki_22, ki_42, ki_50, ki_58, ki_66, ki_74, ki_140, ki_174, ki_179, ki_184, ki_189, ki_441, nI_add, pk_mul]; with_reducible rfl) | (simp only [ki_0, ki_1, ki_2, ki_3, ki_4, ki_5, ki_6, ki_7, ki_8, ki_9, ki_10, ki_11, ki_12, ki_17, ki_20, ki_21, ki_22, ki_42, ki_50, ki_58, ki_66, ki_74, ki_140, ki_174, ki_179, ki_184, ki_189, ki_441, ix1, nI_add, pk_mul]; with_reducible rfl) | (simp only [ki_0, ki_1, ki_2, ki_3, ki_4, ki_5, ki_6, ki_7, ki_8, ki_9, ki_10, ki_11, ki_12, ki_17, ki_20, ki_21, ki_22, ki_42, ki_50, ki_58, ki_66, ki_74, ki_140, ki_174, ki_179, ki_184, ki_189, ki_441, ix1, ix2, nI_add, pk_mul]; with_reducible rfl) | (simp only [ki_0, ki_1, ki_2, ki_3, ki_4, ki_5, ki_6, ki_7, ki_8, ki_9, ki_10, ki_11, ki_12, ki_17, ki_20, ki_21, ki_22, ki_42, ki_50, ki_58, ki_66, ki_74, ki_140, ki_174, ki_179, ki_184, ki_189, ki_441, ix1, ix2, ix3, nI_add, pk_mul]; with_reducible rfl) | (simp (disch := omega) only [upd_n, ki_0, ki_1, ki_2, ki_3, ki_4, ki_5, ki_6, ki_7, ki_8, ki_9, ki_10, ki_11, ki_12, ki_17, ki_20, ki_21, ki_22, ki_42, ki_50, ki_58, ki_66, ki_74, ki_140, ki_174, ki_179, ki_184, ki_189, ki_441, ix1, nI_add, pk_mul]; with_reducible rfl) | (simp (disch := omega) only [upd_n, ki_0, ki_1, ki_2, ki_3, ki_4, ki_5, ki_6, ki_7, ki_8, ki_9, ki_10, ki_11, ki_12, ki_17, ki_20, ki_21, ki_22, ki_42, ki_50, ki_58, ki_66, ki_74, ki_140, ki_174, ki_179, ki_184, ki_189, ki_441, ix1, ix2, nI_add, pk_mul]; with_reducible rfl) | rfl); (case hlt => first | decide | omega); (case hn => first | decide | omega))
            rw [hx]
            refine mT_s rfl rfl ?_
            iterate 4 refine mT_s rfl rfl ?_
            (apply mT_getf; (case hc => rfl); (case ha => first | rfl | assumption); (case hf => first | rfl | assumption))
            (apply mT_alen; (case hc => rfl); (case ha => first | rfl | assumption))
            rw [nI_1]
            refine mT_icmp_ge rfl (fun c => absurd c (nI_ge (a := idx + 1) (b := n) (by omega) (by omega))) (fun _ => ?_)
            iterate 2 refine mT_s rfl rfl ?_
            refine mT_icmp_ne rfl (fun c => absurd rfl c) (fun _ => ?_)
            refine mT_s rfl rfl ?_
            (apply mT_getf; (case hc => rfl); (case ha => first | rfl | assumption); (case hf => first | rfl | assumption))
            refine mT_s rfl rfl ?_
            (apply mT_ialdK; (case hc => rfl); (case ha => first | rfl | assumption); (case hk => first | (simp only [ki_0, ki_1, ki_2, ki_3, ki_4, ki_5, ki_6, ki_7, ki_8, ki_9, ki_10, ki_11, ki_12, ki_17, ki_20, ki_21, ki_22, ki_42, ki_50, ki_58, ki_66, ki_74, ki_140, ki_174, ki_179, ki_184, ki_189, ki_441, nI_add, pk_mul]; with_reducible rfl) | (simp only [ki_0, ki_1, ki_2, ki_3, ki_4, ki_5, ki_6, ki_7, ki_8, ki_9, ki_10, ki_11, ki_12, ki_17, ki_20, ki_21, ki_22, ki_42, ki_50, ki_58, ki_66, ki_74, ki_140, ki_174, ki_179, ki_184, ki_189, ki_441, ix1, nI_add, pk_mul]; with_reducible rfl) | (simp only [ki_0, ki_1, ki_2, ki_3, ki_4, ki_5, ki_6, ki_7, ki_8, ki_9, ki_10, ki_11, ki_12, ki_17, ki_20, ki_21, ki_22, ki_42, ki_50, ki_58, ki_66, ki_74, ki_140, ki_174, ki_179, ki_184, ki_189, ki_441, ix1, ix2, nI_add, pk_mul]; with_reducible rfl) | (simp only [ki_0, ki_1, ki_2, ki_3, ki_4, ki_5, ki_6, ki_7, ki_8, ki_9, ki_10, ki_11, ki_12, ki_17, ki_20, ki_21, ki_22, ki_42, ki_50, ki_58, ki_66, ki_74, ki_140, ki_174, ki_179, ki_184, ki_189, ki_441, ix1, ix2, ix3, nI_add, pk_mul]; with_reducible rfl) | (simp (disch := omega) only [upd_n, ki_0, ki_1, ki_2, ki_3, ki_4, ki_5, ki_6, ki_7, ki_8, ki_9, ki_10, ki_11, ki_12, ki_17, ki_20, ki_21, ki_22, ki_42, ki_50, ki_58, ki_66, ki_74, ki_140, ki_174, ki_179, ki_184, ki_189, ki_441, ix1, nI_add, pk_mul]; with_reducible rfl) | (simp (disch := omega) only [upd_n, ki_0, ki_1, ki_2, ki_3, ki_4, ki_5, ki_6, ki_7, ki_8, ki_9, ki_10, ki_11, ki_12, ki_17, ki_20, ki_21, ki_22, ki_42, ki_50, ki_58, ki_66, ki_74, ki_140, ki_174, ki_179, ki_184, ki_189, ki_441, ix1, ix2, nI_add, pk_mul]; with_reducible rfl) | rfl); (case hlt => first | decide | omega); (case hn => first | decide | omega))
            iterate 8 refine mT_s rfl rfl ?_
            rw [hx2, nI_1]
            exact ih [] _ (idx + 2) hW (Nat.zero_le _) hcd3 (by omega) hv
          | false =>
            iterate 2 refine mT_s rfl rfl ?_
            (apply mT_getf; (case hc => rfl); (case ha => first | rfl | assumption); (case hf => first | rfl | assumption))
            (apply mT_alen; (case hc => rfl); (case ha => first | rfl | assumption))
            refine mT_icmp_ge rfl (fun c => absurd c (nI_ge (a := idx) (b := n) (by omega) (by omega))) (fun _ => ?_)
            refine mT_s rfl rfl ?_
            (apply mT_getf; (case hc => rfl); (case ha => first | rfl | assumption); (case hf => first | rfl | assumption))
            refine mT_s rfl rfl ?_
            (apply mT_ialdK; (case hc => rfl); (case ha => first | rfl | assumption); (case hk => first | (simp only [ki_0, ki_1, ki_2, ki_3, ki_4, ki_5, ki_6, ki_7, ki_8, ki_9, ki_10, ki_11, ki_12, ki_17, ki_20, ki_21, ki_22, ki_42, ki_50, ki_58, ki_66, ki_74, ki_140, ki_174, ki_179, ki_184, ki_189, ki_441, nI_add, pk_mul]; with_reducible rfl) | (simp only [ki_0, ki_1, ki_2, ki_3, ki_4, ki_5, ki_6, ki_7, ki_8, ki_9, ki_10, ki_11, ki_12, ki_17, ki_20, ki_21, ki_22, ki_42, ki_50, ki_58, ki_66, ki_74, ki_140, ki_174, ki_179, ki_184, ki_189, ki_441, ix1, nI_add, pk_mul]; with_reducible rfl) | (simp only [ki_0, ki_1, ki_2, ki_3, ki_4, ki_5, ki_6, ki_7, ki_8, ki_9, ki_10, ki_11, ki_12, ki_17, ki_20, ki_21, ki_22, ki_42, ki_50, ki_58, ki_66, ki_74, ki_140, ki_174, ki_179, ki_184, ki_189, ki_441, ix1, ix2, nI_add, pk_mul]; with_reducible rfl) | (simp only [ki_0, ki_1, ki_2, ki_3, ki_4, ki_5, ki_6, ki_7, ki_8, ki_9, ki_10, ki_11, ki_12, ki_17, ki_20, ki_21, ki_22, ki_42, ki_50, ki_58, ki_66, ki_74, ki_140, ki_174, ki_179, ki_184, ki_189, ki_441, ix1, ix2, ix3, nI_add, pk_mul]; with_reducible rfl) | (simp (disch := omega) only [upd_n, ki_0, ki_1, ki_2, ki_3, ki_4, ki_5, ki_6, ki_7, ki_8, ki_9, ki_10, ki_11, ki_12, ki_17, ki_20, ki_21, ki_22, ki_42, ki_50, ki_58, ki_66, ki_74, ki_140, ki_174, ki_179, ki_184, ki_189, ki_441, ix1, nI_add, pk_mul]; with_reducible rfl) | (simp (disch := omega) only [upd_n, ki_0, ki_1, ki_2, ki_3, ki_4, ki_5, ki_6, ki_7, ki_8, ki_9, ki_10, ki_11, ki_12, ki_17, ki_20, ki_21, ki_22, ki_42, ki_50, ki_58, ki_66, ki_74, ki_140, ki_174, ki_179, ki_184, ki_189, ki_441, ix1, ix2, nI_add, pk_mul]; with_reducible rfl) | rfl); (case hlt => first | decide | omega); (case hn => first | decide | omega))
            rw [hx]
            refine mT_s rfl rfl ?_
            iterate 4 refine mT_s rfl rfl ?_
            (apply mT_getf; (case hc => rfl); (case ha => first | rfl | assumption); (case hf => first | rfl | assumption))
            (apply mT_alen; (case hc => rfl); (case ha => first | rfl | assumption))
            rw [nI_1]
            refine mT_icmp_ge rfl (fun c => absurd c (nI_ge (a := idx + 1) (b := n) (by omega) (by omega))) (fun _ => ?_)
            iterate 2 refine mT_s rfl rfl ?_
            refine mT_icmp_ne rfl (fun _ => ?_) (fun c => absurd c (by decide))
            iterate 8 refine mT_s rfl rfl ?_
            rw [nI_1]
            exact ih [] _ (idx + 2) hW (Nat.zero_le _) hcd3 (by omega) hv
        | true =>
          have hx : cd idx = -4 := hcd.1
          have hx2 : cd (idx + 1) = -nI n9 := hcd.2.1
          have hcd3 := hcd.2.2
          have hl : idx + (2 + (cTs l).length) = n := by rw [← hl, cTs_cons, List.length_append]; rfl
          cases b with
          | true =>
            iterate 2 refine mT_s rfl rfl ?_
            (apply mT_getf; (case hc => rfl); (case ha => first | rfl | assumption); (case hf => first | rfl | assumption))
            (apply mT_alen; (case hc => rfl); (case ha => first | rfl | assumption))
            refine mT_icmp_ge rfl (fun c => absurd c (nI_ge (a := idx) (b := n) (by omega) (by omega))) (fun _ => ?_)
            refine mT_s rfl rfl ?_
            (apply mT_getf; (case hc => rfl); (case ha => first | rfl | assumption); (case hf => first | rfl | assumption))
            refine mT_s rfl rfl ?_
            (apply mT_ialdK; (case hc => rfl); (case ha => first | rfl | assumption); (case hk => first | (simp only [ki_0, ki_1, ki_2, ki_3, ki_4, ki_5, ki_6, ki_7, ki_8, ki_9, ki_10, ki_11, ki_12, ki_17, ki_20, ki_21, ki_22, ki_42, ki_50, ki_58, ki_66, ki_74, ki_140, ki_174, ki_179, ki_184, ki_189, ki_441, nI_add, pk_mul]; with_reducible rfl) | (simp only [ki_0, ki_1, ki_2, ki_3, ki_4, ki_5, ki_6, ki_7, ki_8, ki_9, ki_10, ki_11, ki_12, ki_17, ki_20, ki_21, ki_22, ki_42, ki_50, ki_58, ki_66, ki_74, ki_140, ki_174, ki_179, ki_184, ki_189, ki_441, ix1, nI_add, pk_mul]; with_reducible rfl) | (simp only [ki_0, ki_1, ki_2, ki_3, ki_4, ki_5, ki_6, ki_7, ki_8, ki_9, ki_10, ki_11, ki_12, ki_17, ki_20, ki_21, ki_22, ki_42, ki_50, ki_58, ki_66, ki_74, ki_140, ki_174, ki_179, ki_184, ki_189, ki_441, ix1, ix2, nI_add, pk_mul]; with_reducible rfl) | (simp only [ki_0, ki_1, ki_2, ki_3, ki_4, ki_5, ki_6, ki_7, ki_8, ki_9, ki_10, ki_11, ki_12, ki_17, ki_20, ki_21, ki_22, ki_42, ki_50, ki_58, ki_66, ki_74, ki_140, ki_174, ki_179, ki_184, ki_189, ki_441, ix1, ix2, ix3, nI_add, pk_mul]; with_reducible rfl) | (simp (disch := omega) only [upd_n, ki_0, ki_1, ki_2, ki_3, ki_4, ki_5, ki_6, ki_7, ki_8, ki_9, ki_10, ki_11, ki_12, ki_17, ki_20, ki_21, ki_22, ki_42, ki_50, ki_58, ki_66, ki_74, ki_140, ki_174, ki_179, ki_184, ki_189, ki_441, ix1, nI_add, pk_mul]; with_reducible rfl) | (simp (disch := omega) only [upd_n, ki_0, ki_1, ki_2, ki_3, ki_4, ki_5, ki_6, ki_7, ki_8, ki_9, ki_10, ki_11, ki_12, ki_17, ki_20, ki_21, ki_22, ki_42, ki_50, ki_58, ki_66, ki_74, ki_140, ki_174, ki_179, ki_184, ki_189, ki_441, ix1, ix2, nI_add, pk_mul]; with_reducible rfl) | rfl); (case hlt => first | decide | omega); (case hn => first | decide | omega))
            rw [hx]
            refine mT_s rfl rfl ?_
            iterate 4 refine mT_s rfl rfl ?_
            (apply mT_getf; (case hc => rfl); (case ha => first | rfl | assumption); (case hf => first | rfl | assumption))
            (apply mT_alen; (case hc => rfl); (case ha => first | rfl | assumption))
            rw [nI_1]
            refine mT_icmp_ge rfl (fun c => absurd c (nI_ge (a := idx + 1) (b := n) (by omega) (by omega))) (fun _ => ?_)
            iterate 2 refine mT_s rfl rfl ?_
            refine mT_icmp_ne rfl (fun c => absurd rfl c) (fun _ => ?_)
            refine mT_s rfl rfl ?_
            (apply mT_getf; (case hc => rfl); (case ha => first | rfl | assumption); (case hf => first | rfl | assumption))
            refine mT_s rfl rfl ?_
            (apply mT_ialdK; (case hc => rfl); (case ha => first | rfl | assumption); (case hk => first | (simp only [ki_0, ki_1, ki_2, ki_3, ki_4, ki_5, ki_6, ki_7, ki_8, ki_9, ki_10, ki_11, ki_12, ki_17, ki_20, ki_21, ki_22, ki_42, ki_50, ki_58, ki_66, ki_74, ki_140, ki_174, ki_179, ki_184, ki_189, ki_441, nI_add, pk_mul]; with_reducible rfl) | (simp only [ki_0, ki_1, ki_2, ki_3, ki_4, ki_5, ki_6, ki_7, ki_8, ki_9, ki_10, ki_11, ki_12, ki_17, ki_20, ki_21, ki_22, ki_42, ki_50, ki_58, ki_66, ki_74, ki_140, ki_174, ki_179, ki_184, ki_189, ki_441, ix1, nI_add, pk_mul]; with_reducible rfl) | (simp only [ki_0, ki_1, ki_2, ki_3, ki_4, ki_5, ki_6, ki_7, ki_8, ki_9, ki_10, ki_11, ki_12, ki_17, ki_20, ki_21, ki_22, ki_42, ki_50, ki_58, ki_66, ki_74, ki_140, ki_174, ki_179, ki_184, ki_189, ki_441, ix1, ix2, nI_add, pk_mul]; with_reducible rfl) | (simp only [ki_0, ki_1, ki_2, ki_3, ki_4, ki_5, ki_6, ki_7, ki_8, ki_9, ki_10, ki_11, ki_12, ki_17, ki_20, ki_21, ki_22, ki_42, ki_50, ki_58, ki_66, ki_74, ki_140, ki_174, ki_179, ki_184, ki_189, ki_441, ix1, ix2, ix3, nI_add, pk_mul]; with_reducible rfl) | (simp (disch := omega) only [upd_n, ki_0, ki_1, ki_2, ki_3, ki_4, ki_5, ki_6, ki_7, ki_8, ki_9, ki_10, ki_11, ki_12, ki_17, ki_20, ki_21, ki_22, ki_42, ki_50, ki_58, ki_66, ki_74, ki_140, ki_174, ki_179, ki_184, ki_189, ki_441, ix1, nI_add, pk_mul]; with_reducible rfl) | (simp (disch := omega) only [upd_n, ki_0, ki_1, ki_2, ki_3, ki_4, ki_5, ki_6, ki_7, ki_8, ki_9, ki_10, ki_11, ki_12, ki_17, ki_20, ki_21, ki_22, ki_42, ki_50, ki_58, ki_66, ki_74, ki_140, ki_174, ki_179, ki_184, ki_189, ki_441, ix1, ix2, nI_add, pk_mul]; with_reducible rfl) | rfl); (case hlt => first | decide | omega); (case hn => first | decide | omega))
            iterate 8 refine mT_s rfl rfl ?_
            rw [hx2, nI_1]
            exact ih [] _ (idx + 2) hW (Nat.zero_le _) hcd3 (by omega) hv
          | false =>
            iterate 2 refine mT_s rfl rfl ?_
            (apply mT_getf; (case hc => rfl); (case ha => first | rfl | assumption); (case hf => first | rfl | assumption))
            (apply mT_alen; (case hc => rfl); (case ha => first | rfl | assumption))
            refine mT_icmp_ge rfl (fun c => absurd c (nI_ge (a := idx) (b := n) (by omega) (by omega))) (fun _ => ?_)
            refine mT_s rfl rfl ?_
            (apply mT_getf; (case hc => rfl); (case ha => first | rfl | assumption); (case hf => first | rfl | assumption))
            refine mT_s rfl rfl ?_
            (apply mT_ialdK; (case hc => rfl); (case ha => first | rfl | assumption); (case hk => first | (simp only [ki_0, ki_1, ki_2, ki_3, ki_4, ki_5, ki_6, ki_7, ki_8, ki_9, ki_10, ki_11, ki_12, ki_17, ki_20, ki_21, ki_22, ki_42, ki_50, ki_58, ki_66, ki_74, ki_140, ki_174, ki_179, ki_184, ki_189, ki_441, nI_add, pk_mul]; with_reducible rfl) | (simp only [ki_0, ki_1, ki_2, ki_3, ki_4, ki_5, ki_6, ki_7, ki_8, ki_9, ki_10, ki_11, ki_12, ki_17, ki_20, ki_21, ki_22, ki_42, ki_50, ki_58, ki_66, ki_74, ki_140, ki_174, ki_179, ki_184, ki_189, ki_441, ix1, nI_add, pk_mul]; with_reducible rfl) | (simp only [ki_0, ki_1, ki_2, ki_3, ki_4, ki_5, ki_6, ki_7, ki_8, ki_9, ki_10, ki_11, ki_12, ki_17, ki_20, ki_21, ki_22, ki_42, ki_50, ki_58, ki_66, ki_74, ki_140, ki_174, ki_179, ki_184, ki_189, ki_441, ix1, ix2, nI_add, pk_mul]; with_reducible rfl) | (simp only [ki_0, ki_1, ki_2, ki_3, ki_4, ki_5, ki_6, ki_7, ki_8, ki_9, ki_10, ki_11, ki_12, ki_17, ki_20, ki_21, ki_22, ki_42, ki_50, ki_58, ki_66, ki_74, ki_140, ki_174, ki_179, ki_184, ki_189, ki_441, ix1, ix2, ix3, nI_add, pk_mul]; with_reducible rfl) | (simp (disch := omega) only [upd_n, ki_0, ki_1, ki_2, ki_3, ki_4, ki_5, ki_6, ki_7, ki_8, ki_9, ki_10, ki_11, ki_12, ki_17, ki_20, ki_21, ki_22, ki_42, ki_50, ki_58, ki_66, ki_74, ki_140, ki_174, ki_179, ki_184, ki_189, ki_441, ix1, nI_add, pk_mul]; with_reducible rfl) | (simp (disch := omega) only [upd_n, ki_0, ki_1, ki_2, ki_3, ki_4, ki_5, ki_6, ki_7, ki_8, ki_9, ki_10, ki_11, ki_12, ki_17, ki_20, ki_21, ki_22, ki_42, ki_50, ki_58, ki_66, ki_74, ki_140, ki_174, ki_179, ki_184, ki_189, ki_441, ix1, ix2, nI_add, pk_mul]; with_reducible rfl) | rfl); (case hlt => first | decide | omega); (case hn => first | decide | omega))
            rw [hx]
            refine mT_s rfl rfl ?_
            iterate 4 refine mT_s rfl rfl ?_
            (apply mT_getf; (case hc => rfl); (case ha => first | rfl | assumption); (case hf => first | rfl | assumption))
            (apply mT_alen; (case hc => rfl); (case ha => first | rfl | assumption))
            rw [nI_1]
            refine mT_icmp_ge rfl (fun c => absurd c (nI_ge (a := idx + 1) (b := n) (by omega) (by omega))) (fun _ => ?_)
            iterate 2 refine mT_s rfl rfl ?_
            refine mT_icmp_ne rfl (fun _ => ?_) (fun c => absurd c (by decide))
            iterate 8 refine mT_s rfl rfl ?_
            rw [nI_1]
            exact ih [] _ (idx + 2) hW (Nat.zero_le _) hcd3 (by omega) hv
      · exact absurd hk (by simp only [List.length_cons]; omega)
theorem x_lift (d : Nat) (h : mH) (Q : Option Value → mH → Prop) (ia ca fa n : Nat) (x1 x2 : Value) (hia : h ia = .inr (3, [x1, x2, .ref ca])) (cd : Nat → Int32) (hca : h ca = .inl (0, n, .inl cd)) (hn : n ≤ 100) (f : Nat → Int32) (hf : h fa = .inl (0, 5, .inl f)) (v : Int32) (K : Q (some (.int v)) h)  (l : List Tok) (hW : w_toks 0 l) (hcd : cA cd 0 (cTs l)) (hl : (cTs l).length = n) (hv : v_toks f l [] 0 = v) : mT0 (d + 1) z_X3_lift 0 (m_init z_X3_lift [.ref ia, .ref fa]) [] h Q := by
  iterate 6 refine mT_s rfl rfl ?_
  exact x_lift_L d h Q ia ca fa n x1 x2 hia cd hca hn f hf v K l [] 0 0 hW (Nat.zero_le _) hcd (by omega) hv
