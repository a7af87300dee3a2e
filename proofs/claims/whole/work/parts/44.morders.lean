/-! By program (wip/whole/book*.py) and hand. -/
def nPop (n : Nat) : Nat := n % 2 + n / 2 % 2 + n / 4 % 2 + n / 8 % 2 + n / 16 % 2
theorem bit_1 {a q : Nat} (ha : a < 32) (hq : q < 5) : (nI a >>> (nI q &&& 31)) &&& 1 = nI (a / 2 ^ q % 2) := by
  have h : ∀ a : Fin 32, ∀ q : Fin 5, (nI a >>> (nI q &&& 31)) &&& 1 = nI (a / 2 ^ q.val % 2) := by decide +kernel
  exact h ⟨a, ha⟩ ⟨q, hq⟩
theorem bit_2 {a q : Nat} (ha : a < 32) (hq : q < 5) (h1 : a / 2 ^ q % 2 = 1) : nI a &&& ((1 <<< (nI q &&& 31)) ^^^ (-1)) = nI (a - 2 ^ q) ∧ nPop (a - 2 ^ q) + 1 = nPop a ∧ ∀ j : Nat, j < 5 → (a - 2 ^ q) / 2 ^ j % 2 = 1 → a / 2 ^ j % 2 = 1 ∧ j ≠ q := by
  have h : ∀ a : Fin 32, ∀ q : Fin 5, a.val / 2 ^ q.val % 2 = 1 → nI a &&& ((1 <<< (nI q &&& 31)) ^^^ (-1)) = nI (a - 2 ^ q.val) ∧ nPop (a - 2 ^ q.val) + 1 = nPop a ∧ ∀ j : Fin 5, (a.val - 2 ^ q.val) / 2 ^ j.val % 2 = 1 → a.val / 2 ^ j.val % 2 = 1 ∧ j.val ≠ q.val := by decide +kernel
  obtain ⟨x, y, z⟩ := h ⟨a, ha⟩ ⟨q, hq⟩ h1
  exact ⟨x, y, fun j hj hh => z ⟨j, hj⟩ hh⟩
theorem pop_0 {a : Nat} (ha : a < 32) : nPop a = 0 ↔ a = 0 := by
  have h : ∀ a : Fin 32, nPop a = 0 ↔ a.val = 0 := by decide +kernel
  exact h ⟨a, ha⟩
def nFo {α : Type} (b : Nat → α → α) : Nat → Nat → α → α
  | 0, _, st => st
  | r + 1, q, st => nFo b r (q + 1) (b q st)
/-- the search through the rows of others -/
def nOr (n : Nat) (val : List Nat → Nat) : Nat → Nat → List Nat → Int × List Nat → Int × List Nat
  | 0, _, row, st => if st.1 < val row then (val row, row) else st
  | f + 1, left, row, st => nFo (fun q st => if left / 2 ^ q % 2 = 1 then nOr n val f (left - 2 ^ q) (row ++ [q]) st else st) n 0 st
theorem nFo_inv {α : Type} {P : α → Prop} {b : Nat → α → α} (hb : ∀ q a, P a → P (b q a)) : ∀ {r q : Nat} {a : α}, P a → P (nFo b r q a)
  | 0, _, _, h => h
  | r + 1, q, a, h => nFo_inv hb (r := r) (q := q + 1) (hb q a h)
theorem nOr_inv {n : Nat} {val : List Nat → Nat} {B : Int} (hv : ∀ row, (val row : Int) ≤ B) : ∀ {f left : Nat} {row : List Nat} {st : Int × List Nat}, (-1 ≤ st.1 ∧ st.1 ≤ B) → (-1 ≤ (nOr n val f left row st).1 ∧ (nOr n val f left row st).1 ≤ B)
  | 0, left, row, st, h => by
    unfold nOr
    split
    · exact ⟨by show (-1 : Int) ≤ (val row : Int); omega, hv row⟩
    · exact h
  | f + 1, left, row, st, h => by
    unfold nOr
    refine nFo_inv (P := fun a : Int × List Nat => -1 ≤ a.1 ∧ a.1 ≤ B) (fun q a ha => ?_) h
    show -1 ≤ (if _ then _ else _ : Int × List Nat).1 ∧ _
    split
    · exact nOr_inv hv ha
    · exact ha
theorem iL_toInt {u : Int} (h1 : -(2 ^ 62) ≤ u) (h2 : u < 2 ^ 62) : (iL u).toInt = u := by
  unfold iL
  exact Int64.toInt_ofInt_of_le (by omega) (by omega)
theorem iL_lt {u v : Int} (h1 : -(2 ^ 62) ≤ u) (h2 : u < 2 ^ 62) (h3 : -(2 ^ 62) ≤ v) (h4 : v < 2 ^ 62) : iL u < iL v ↔ u < v := by
  rw [Int64.lt_iff_toInt_lt, iL_toInt h1 h2, iL_toInt h3 h4]
theorem nW_le {od : Nat → Nat → Nat → Nat → Nat} {fw mr : Nat → Nat} {om qs : Nat → Nat} (hod : ∀ q m o g, od q m o g ≤ 9) : ∀ r k g m, nW od fw mr om qs r k g m ≤ 9 * r * 10 ^ r
  | 0, k, g, m => Nat.zero_le _
  | r + 1, k, g, m => by
    have h1 := nW_le hod (fw := fw) (mr := mr) (om := om) (qs := qs) r (k + 1) (g + 1) (fw m)
    have h2 := nW_le hod (fw := fw) (mr := mr) (om := om) (qs := qs) r (k + 1) (g + 1) (mr m)
    have h3 := hod (qs k) m (om (qs k)) g
    have h4 := mix_le (k := od (qs k) m (om (qs k)) g) (by omega) h1 h2
    have h5 := Nat.mul_le_mul_right (10 ^ r) h3
    show _ * (10 ^ r + _) + _ ≤ 9 * (r + 1) * (10 ^ (r + 1))
    rw [Nat.mul_add, Nat.pow_succ]
    have h6 : 9 * (r + 1) * (10 ^ r * 10) = 10 * (9 * r * 10 ^ r) + 90 * 10 ^ r := by
      rw [show 9 * (r + 1) = 9 * r + 9 by omega, Nat.add_mul, Nat.mul_comm (10 ^ r) 10, Nat.mul_left_comm]
      omega
    omega
/-- the best row lies in the cells -/
def BO (f : Nat → Int32) (row : List Nat) : Prop := ∀ j, j < 4 → f j = if j < row.length then nI (row.getD j 0) else -5
def v_row (s : Nat → Int32) (l : List Tok) (le mo p : Nat) (mm : Nat → Nat) (g : Nat) (row : List Nat) : Nat := nW (a_od s l p) (n_few le) (n_mor mo) mm (fun j => row.getD j 0) row.length 0 g (mm p)
theorem v_row_le (s : Nat → Int32) (l : List Tok) (le mo p : Nat) (mm : Nat → Nat) (g : Nat) (row : List Nat) (h : row.length ≤ 4) : v_row s l le mo p mm g row ≤ 360000 := by
  have h1 := nW_le (fw := n_few le) (mr := n_mor mo) (om := mm) (qs := fun j => row.getD j 0) (fun q m o g => (a_od_n s l p q m o g).2.2) row.length 0 g (mm p)
  have h2 : row.length = 0 ∨ row.length = 1 ∨ row.length = 2 ∨ row.length = 3 ∨ row.length = 4 := by omega
  unfold v_row
  rcases h2 with e | e | e | e | e <;> rw [e] at h1 ⊢ <;> exact Nat.le_trans h1 (by decide)
theorem getD_e {l : List Nat} {j : Nat} (hj : j < l.length) : l.getD j 0 = l[j] := by
  simp [List.getD_eq_getElem?_getD, hj]
theorem getD_mem {l : List Nat} {j : Nat} (hj : j < l.length) : l.getD j 0 ∈ l := by
  rw [getD_e hj]
  exact List.getElem_mem hj
def oOK (s : Nat → Int32) (l : List Tok) (le mo : Nat) (p : Nat) (n : Nat) (mm : Nat → Nat) (g o t d : Nat) (f : Nat) : Prop := ∀ (left : Nat) (row : List Nat) (h : mH) (i : Nat → Int32) (pd : Int64) (st : Int × List Nat) (boF ordF : Nat → Int32) (Q : Option Value → mH → Prop), left < 32 → nPop left = f → row.length + f ≤ 4 → (∀ q ∈ row, q < 5 ∧ q ≠ p) → (∀ q, q < 5 → left / 2 ^ q % 2 = 1 → q ≠ p) → h 76 = .inr (10, mObj i o t pd (iL st.1)) → h 77 = .inl (0, 889, .inl (s_at s mm g)) → 87 ≤ m_nx h → (∃ f, h 80 = .inl (0, 5, .inl f)) → (∃ g, h 81 = .inl (2, 64, .inl g)) → h 84 = .inl (0, 4, .inl ordF) → h 85 = .inl (0, 4, .inl boF) → (0 ≤ st.1 → BO boF st.2) → (-1 ≤ st.1 ∧ st.1 ≤ 360000) → (∀ j, j < row.length → ordF j = nI (row.getD j 0)) → (∀ h2 ordF2 boF2, rX [76, 77, 80, 81, 84, 85] h h2 → h2 76 = .inr (10, mObj i o t pd (iL (nOr n (fun row => if row.length ≤ 4 then v_row s l le mo p mm g row else 0) f left row st).1)) → h2 77 = .inl (0, 889, .inl (s_at s mm g)) → h2 84 = .inl (0, 4, .inl ordF2) → h2 85 = .inl (0, 4, .inl boF2) → (0 ≤ (nOr n (fun row => if row.length ≤ 4 then v_row s l le mo p mm g row else 0) f left row st).1 → BO boF2 (nOr n (fun row => if row.length ≤ 4 then v_row s l le mo p mm g row else 0) f left row st).2) → (∀ j, j < row.length → ordF2 j = ordF j) → Q none h2) → mT0 (d + f + 8) z_X10_ordersFrom 0 (m_init z_X10_ordersFrom [.ref 76, .int (nI p), .int (nI left), .int (nI row.length)]) [] h Q
theorem e_ord_cp (d : Nat) (h : mH) (Q : Option Value → mH → Prop) (i : Nat → Int32) (o t : Nat) (pd bw : Int64) (hM : h 76 = .inr (10, mObj i o t pd bw)) (hN : 87 ≤ m_nx h) (p lf : Int32) (k0 : Nat) (hk0 : k0 ≤ 4) (w4 w5 : Option Value) (ordF : Nat → Int32) (h84 : h 84 = .inl (0, 4, .inl ordF)) (K : ∀ f : Nat → Int32, (∀ j, j < 4 → f j = if j < k0 then ordF j else -5) → Q none (m_up h 85 (.inl (0, 4, .inl f)))) : ∀ (r k : Nat) (f : Nat → Int32), k + r = 4 → (∀ j, j < k → f j = if j < k0 then ordF j else -5) → mT0 d z_X10_ordersFrom 32 [some (.ref 76), some (.int p), some (.int lf), some (.int (nI k0)), w4, w5, some (.int (nI k))] [] (m_up h 85 (.inl (0, 4, .inl f))) Q := by
  intro r
  induction r with
  | zero =>
    intro k f  hk hf
    iterate 2 refine mT_s rfl rfl ?_
    refine mT_icmp_ge rfl (fun _ => ?_) (fun c => absurd (nI_le (a := 4) (b := k) (by omega) (by omega)) c)
    refine mT_ret rfl rfl ?_
    exact K f (fun j hj => hf j (by omega))
  | succ r ih =>
    intro k f  hk hf
    iterate 2 refine mT_s rfl rfl ?_
    refine mT_icmp_ge rfl (fun c => absurd c (nI_ge (a := k) (b := 4) (by omega) (by omega))) (fun _ => ?_)
    refine mT_s rfl rfl ?_
    (apply mT_getf; (case hc => rfl); (case ha => first | rfl | assumption); (case hf => first | rfl | assumption))
    iterate 3 refine mT_s rfl rfl ?_
    refine mT_icmp_ge rfl (fun c47 => ?_) (fun c47 => ?_)
    · refine mT_s rfl rfl ?_
      (apply mT_iastK; (case hc => rfl); (case ha => first | rfl | assumption); (case hk => first | (simp only [ki_0, ki_1, ki_2, ki_3, ki_4, ki_5, ki_6, ki_7, ki_8, ki_9, ki_10, ki_11, ki_12, ki_17, ki_20, ki_21, ki_22, ki_42, ki_50, ki_58, ki_66, ki_74, ki_140, ki_174, ki_179, ki_184, ki_189, ki_441, nI_add, pk_mul]; with_reducible rfl) | (simp only [ki_0, ki_1, ki_2, ki_3, ki_4, ki_5, ki_6, ki_7, ki_8, ki_9, ki_10, ki_11, ki_12, ki_17, ki_20, ki_21, ki_22, ki_42, ki_50, ki_58, ki_66, ki_74, ki_140, ki_174, ki_179, ki_184, ki_189, ki_441, ix1, nI_add, pk_mul]; with_reducible rfl) | (simp only [ki_0, ki_1, ki_2, ki_3, ki_4, ki_5, ki_6, ki_7, ki_8, ki_9, ki_10, ki_11, ki_12, ki_17, ki_20, ki_21, ki_22, ki_42, ki_50, ki_58, ki_66, ki_74, ki_140, ki_174, ki_179, ki_184, ki_189, ki_441, ix1, ix2, nI_add, pk_mul]; with_reducible rfl) | (simp only [ki_0, ki_1, ki_2, ki_3, ki_4, ki_5, ki_6, ki_7, ki_8, ki_9, ki_10, ki_11, ki_12, ki_17, ki_20, ki_21, ki_22, ki_42, ki_50, ki_58, ki_66, ki_74, ki_140, ki_174, ki_179, ki_184, ki_189, ki_441, ix1, ix2, ix3, nI_add, pk_mul]; with_reducible rfl) | (simp (disch := omega) only [upd_n, ki_0, ki_1, ki_2, ki_3, ki_4, ki_5, ki_6, ki_7, ki_8, ki_9, ki_10, ki_11, ki_12, ki_17, ki_20, ki_21, ki_22, ki_42, ki_50, ki_58, ki_66, ki_74, ki_140, ki_174, ki_179, ki_184, ki_189, ki_441, ix1, nI_add, pk_mul]; with_reducible rfl) | (simp (disch := omega) only [upd_n, ki_0, ki_1, ki_2, ki_3, ki_4, ki_5, ki_6, ki_7, ki_8, ki_9, ki_10, ki_11, ki_12, ki_17, ki_20, ki_21, ki_22, ki_42, ki_50, ki_58, ki_66, ki_74, ki_140, ki_174, ki_179, ki_184, ki_189, ki_441, ix1, ix2, nI_add, pk_mul]; with_reducible rfl) | rfl); (case hlt => first | decide | omega); (case hn => decide); (case hN => assumption); (case hg => rfl))
      iterate 2 refine mT_s rfl rfl ?_
      rw [m_up_up, nI_1]
      refine ih (k + 1) _ (by omega) (fun j hj => ?_)
      by_cases e : j = k
      · subst e
        rw [upd_s, if_neg (fun z => nI_ge (a := j) (b := k0) z (by omega) c47)]
      · rw [upd_n _ _ e]
        exact hf j (by omega)
    · refine mT_s rfl rfl ?_
      (apply mT_getf; (case hc => rfl); (case ha => first | rfl | assumption); (case hf => first | rfl | assumption))
      refine mT_s rfl rfl ?_
      (apply mT_ialdK; (case hc => rfl); (case ha => first | rfl | assumption); (case hk => first | (simp only [ki_0, ki_1, ki_2, ki_3, ki_4, ki_5, ki_6, ki_7, ki_8, ki_9, ki_10, ki_11, ki_12, ki_17, ki_20, ki_21, ki_22, ki_42, ki_50, ki_58, ki_66, ki_74, ki_140, ki_174, ki_179, ki_184, ki_189, ki_441, nI_add, pk_mul]; with_reducible rfl) | (simp only [ki_0, ki_1, ki_2, ki_3, ki_4, ki_5, ki_6, ki_7, ki_8, ki_9, ki_10, ki_11, ki_12, ki_17, ki_20, ki_21, ki_22, ki_42, ki_50, ki_58, ki_66, ki_74, ki_140, ki_174, ki_179, ki_184, ki_189, ki_441, ix1, nI_add, pk_mul]; with_reducible rfl) | (simp only [ki_0, ki_1, ki_2, ki_3, ki_4, ki_5, ki_6, ki_7, ki_8, ki_9, ki_10, ki_11, ki_12, ki_17, ki_20, ki_21, ki_22, ki_42, ki_50, ki_58, ki_66, ki_74, ki_140, ki_174, ki_179, ki_184, ki_189, ki_441, ix1, ix2, nI_add, pk_mul]; with_reducible rfl) | (simp only [ki_0, ki_1, ki_2, ki_3, ki_4, ki_5, ki_6, ki_7, ki_8, ki_9, ki_10, ki_11, ki_12, ki_17, ki_20, ki_21, ki_22, ki_42, ki_50, ki_58, ki_66, ki_74, ki_140, ki_174, ki_179, ki_184, ki_189, ki_441, ix1, ix2, ix3, nI_add, pk_mul]; with_reducible rfl) | (simp (disch := omega) only [upd_n, ki_0, ki_1, ki_2, ki_3, ki_4, ki_5, ki_6, ki_7, ki_8, ki_9, ki_10, ki_11, ki_12, ki_17, ki_20, ki_21, ki_22, ki_42, ki_50, ki_58, ki_66, ki_74, ki_140, ki_174, ki_179, ki_184, ki_189, ki_441, ix1, nI_add, pk_mul]; with_reducible rfl) | (simp (disch := omega) only [upd_n, ki_0, ki_1, ki_2, ki_3, ki_4, ki_5, ki_6, ki_7, ki_8, ki_9, ki_10, ki_11, ki_12, ki_17, ki_20, ki_21, ki_22, ki_42, ki_50, ki_58, ki_66, ki_74, ki_140, ki_174, ki_179, ki_184, ki_189, ki_441, ix1, ix2, nI_add, pk_mul]; with_reducible rfl) | rfl); (case hlt => first | decide | omega); (case hn => decide))
      refine mT_s rfl rfl ?_
      (apply mT_iastK; (case hc => rfl); (case ha => first | rfl | assumption); (case hk => first | (simp only [ki_0, ki_1, ki_2, ki_3, ki_4, ki_5, ki_6, ki_7, ki_8, ki_9, ki_10, ki_11, ki_12, ki_17, ki_20, ki_21, ki_22, ki_42, ki_50, ki_58, ki_66, ki_74, ki_140, ki_174, ki_179, ki_184, ki_189, ki_441, nI_add, pk_mul]; with_reducible rfl) | (simp only [ki_0, ki_1, ki_2, ki_3, ki_4, ki_5, ki_6, ki_7, ki_8, ki_9, ki_10, ki_11, ki_12, ki_17, ki_20, ki_21, ki_22, ki_42, ki_50, ki_58, ki_66, ki_74, ki_140, ki_174, ki_179, ki_184, ki_189, ki_441, ix1, nI_add, pk_mul]; with_reducible rfl) | (simp only [ki_0, ki_1, ki_2, ki_3, ki_4, ki_5, ki_6, ki_7, ki_8, ki_9, ki_10, ki_11, ki_12, ki_17, ki_20, ki_21, ki_22, ki_42, ki_50, ki_58, ki_66, ki_74, ki_140, ki_174, ki_179, ki_184, ki_189, ki_441, ix1, ix2, nI_add, pk_mul]; with_reducible rfl) | (simp only [ki_0, ki_1, ki_2, ki_3, ki_4, ki_5, ki_6, ki_7, ki_8, ki_9, ki_10, ki_11, ki_12, ki_17, ki_20, ki_21, ki_22, ki_42, ki_50, ki_58, ki_66, ki_74, ki_140, ki_174, ki_179, ki_184, ki_189, ki_441, ix1, ix2, ix3, nI_add, pk_mul]; with_reducible rfl) | (simp (disch := omega) only [upd_n, ki_0, ki_1, ki_2, ki_3, ki_4, ki_5, ki_6, ki_7, ki_8, ki_9, ki_10, ki_11, ki_12, ki_17, ki_20, ki_21, ki_22, ki_42, ki_50, ki_58, ki_66, ki_74, ki_140, ki_174, ki_179, ki_184, ki_189, ki_441, ix1, nI_add, pk_mul]; with_reducible rfl) | (simp (disch := omega) only [upd_n, ki_0, ki_1, ki_2, ki_3, ki_4, ki_5, ki_6, ki_7, ki_8, ki_9, ki_10, ki_11, ki_12, ki_17, ki_20, ki_21, ki_22, ki_42, ki_50, ki_58, ki_66, ki_74, ki_140, ki_174, ki_179, ki_184, ki_189, ki_441, ix1, ix2, nI_add, pk_mul]; with_reducible rfl) | rfl); (case hlt => first | decide | omega); (case hn => decide); (case hN => assumption); (case hg => rfl))
      iterate 2 refine mT_s rfl rfl ?_
      rw [m_up_up, nI_1]
      refine ih (k + 1) _ (by omega) (fun j hj => ?_)
      by_cases e : j = k
      · subst e
        rw [upd_s, if_pos ((nI_ltI (by omega) (by omega)).mp (Int32.not_le.mp c47))]
      · rw [upd_n _ _ e]
        exact hf j (by omega)
theorem oOK_0 (s : Nat → Int32) (l : List Tok) (le mo : Nat) (p : Nat) (n : Nat) (mm : Nat → Nat) (g o t d : Nat) (hG : sG s l le mo) (hp : p < 5) (hmm : ∀ j, j < 5 → mm j ≤ 20) (hg : g < 10100) : oOK s l le mo p n mm g o t d 0 := by
  intro left row h i pd st boF ordF Q hle hpop hlen hrow hbit hM h77 hN h80 h81 h84 h85 hBO hst hoF K
  obtain rfl := (pop_0 hle).mp hpop
  refine mT_s rfl rfl ?_
  refine mT_if_ne rfl (fun c => absurd rfl c) (fun _ => ?_)
  iterate 4 refine mT_s rfl rfl ?_
  (apply mT_inv; (case hc => rfl); (case hd => rfl); (case hb => first | rfl | assumption); (case hg => rfl))
  refine mT0_d (e := d + 0 + (7 - row.length - 3) + row.length + 3) (by omega) ?_
  refine e_wonBy s o t (iL st.1) hG p hp mm (fun j => row.getD j 0) ordF row.length (by omega) (fun j hj => ⟨(hrow _ (getD_mem hj)).1, (hrow _ (getD_mem hj)).2, hoF j hj⟩) _ row.length 0 h i pd _ mm g hmm (fun _ _ _ => rfl) h84 (by omega) (by omega) hM h77 hN h80 h81 (fun h3 hr3 h773 => ?_)
  have h764 : h3 76 = _ := (hr3.1 76 (by decide)).trans hM
  have hN3 : 87 ≤ m_nx h3 := by rw [hr3.nx (by decide)]; exact hN
  have h844 : h3 84 = _ := (hr3.1 84 (by decide)).trans h84
  have h854 : h3 85 = _ := (hr3.1 85 (by decide)).trans h85
  iterate 3 refine mT_s rfl rfl ?_
  (apply mT_getf; (case hc => rfl); (case ha => first | rfl | assumption); (case hf => first | rfl | assumption))
  refine mT_s rfl rfl ?_
  refine mT_if_le rfl (fun c20 => ?_) (fun c20 => ?_)
  · refine mT_ret rfl rfl ?_
    have hv := v_row_le s l le mo p mm g row (by omega)
    have c20 : iL (v_row s l le mo p mm g row : Int) ≤ iL st.1 := (lg_cmp_le _ _).mp c20
    have e0 : nOr n (fun row => if row.length ≤ 4 then v_row s l le mo p mm g row else 0) 0 0 row st = st := by
      show (if st.1 < ((if row.length ≤ 4 then v_row s l le mo p mm g row else 0 : Nat) : Int) then _ else st) = _
      rw [if_pos (show row.length ≤ 4 by omega), if_neg (fun z => absurd ((iL_lt (by omega) (by omega) (by omega) (by omega)).mpr z) (Int64.not_lt.mpr c20))]
    refine K h3 ordF boF (hr3.mono (by decide)) ?_ h773 h844 h854 ?_ (fun _ _ => rfl)
    · rw [e0]; exact h764
    · rw [e0]; exact hBO
  · iterate 2 refine mT_s rfl rfl ?_
    (apply mT_putfN; (case hc => rfl); (case ha => first | rfl | assumption); (case hN => assumption); (case hg => rfl))
    iterate 2 refine mT_s rfl rfl ?_
    have hv := v_row_le s l le mo p mm g row (by omega)
    have c20 : iL st.1 < iL (v_row s l le mo p mm g row : Int) := Int64.not_le.mp (fun z => c20 ((lg_cmp_le _ _).mpr z))
    have e0 : nOr n (fun row => if row.length ≤ 4 then v_row s l le mo p mm g row else 0) 0 0 row st = ((v_row s l le mo p mm g row : Int), row) := by
      show (if st.1 < ((if row.length ≤ 4 then v_row s l le mo p mm g row else 0 : Nat) : Int) then ((((if row.length ≤ 4 then v_row s l le mo p mm g row else 0 : Nat) : Int)), row) else st) = _
      rw [if_pos (show row.length ≤ 4 by omega), if_pos ((iL_lt (by omega) (by omega) (by omega) (by omega)).mp c20)]
    rw [e0] at K
    have := e_ord_cp (d + 0 + 8) (m_up h3 76 (.inr (10, mObj i o t pd (iL (v_row s l le mo p mm g row : Int))))) Q i o t pd _ rfl hN3 (nI p) (nI 0) row.length (by omega) (some (.long (lN (v_row s l le mo p mm g row)))) none ordF h844 (fun f hf => K _ ordF f (((hr3.mono (by decide)).up (k := 76) (by decide) (by decide) (by decide)).up (k := 85) (by decide) (by decide) (by decide)) rfl h773 h844 rfl (fun _ j hj => by
      rw [hf j hj]
      by_cases z : j < row.length
      · rw [if_pos z, if_pos z, hoF j z]
      · rw [if_neg z, if_neg z]) (fun _ _ => rfl)) 4 0 boF (by omega) (fun j hj => absurd hj (by omega))
    rw [m_up_id (show m_up h3 76 (.inr (10, mObj i o t pd (iL (v_row s l le mo p mm g row : Int)))) 85 = .inl (0, 4, .inl boF) from h854)] at this
    exact this
set_option maxHeartbeats 4000000 in
theorem oOK_L (s : Nat → Int32) (l : List Tok) (le mo : Nat) (p : Nat) (n : Nat) (mm : Nat → Nat) (g o t d : Nat) (hG : sG s l le mo) (hp : p < 5) (hmm : ∀ j, j < 5 → mm j ≤ 20) (hg : g < 10100) (hn5 : n ≤ 5) (hn6 : s_at s mm g 6 = nI n) (f left : Nat) (row : List Nat) (i : Nat → Int32) (pd : Int64) (Q : Option Value → mH → Prop) (ihf : oOK s l le mo p n mm g o t d f) (hle : left < 32) (hpop : nPop left = f + 1) (hlen : row.length + (f + 1) ≤ 4) (hrow : ∀ q ∈ row, q < 5 ∧ q ≠ p) (hbit : ∀ q, q < 5 → left / 2 ^ q % 2 = 1 → q ≠ p) : ∀ (r q : Nat) (h : mH) (st : Int × List Nat) (boF ordF : Nat → Int32) (x5 x6 : Option Value), q + r = n → h 76 = .inr (10, mObj i o t pd (iL st.1)) → h 77 = .inl (0, 889, .inl (s_at s mm g)) → 87 ≤ m_nx h → (∃ f, h 80 = .inl (0, 5, .inl f)) → (∃ g, h 81 = .inl (2, 64, .inl g)) → h 84 = .inl (0, 4, .inl ordF) → h 85 = .inl (0, 4, .inl boF) → (0 ≤ st.1 → BO boF st.2) → (-1 ≤ st.1 ∧ st.1 ≤ 360000) → (∀ j, j < row.length → ordF j = nI (row.getD j 0)) → (∀ h2 ordF2 boF2, rX [76, 77, 80, 81, 84, 85] h h2 → h2 76 = .inr (10, mObj i o t pd (iL (nFo (fun q st => if left / 2 ^ q % 2 = 1 then nOr n (fun row => if row.length ≤ 4 then v_row s l le mo p mm g row else 0) f (left - 2 ^ q) (row ++ [q]) st else st) r q st).1)) → h2 77 = .inl (0, 889, .inl (s_at s mm g)) → h2 84 = .inl (0, 4, .inl ordF2) → h2 85 = .inl (0, 4, .inl boF2) → (0 ≤ (nFo (fun q st => if left / 2 ^ q % 2 = 1 then nOr n (fun row => if row.length ≤ 4 then v_row s l le mo p mm g row else 0) f (left - 2 ^ q) (row ++ [q]) st else st) r q st).1 → BO boF2 (nFo (fun q st => if left / 2 ^ q % 2 = 1 then nOr n (fun row => if row.length ≤ 4 then v_row s l le mo p mm g row else 0) f (left - 2 ^ q) (row ++ [q]) st else st) r q st).2) → (∀ j, j < row.length → ordF2 j = ordF j) → Q none h2) → mT0 (d + (f + 1) + 8) z_X10_ordersFrom 73 [some (.ref 76), some (.int (nI p)), some (.int (nI left)), some (.int (nI row.length)), some (.int (nI q)), x5, x6] [] h Q := by
  intro r
  induction r with
  | zero =>
    intro q h st boF ordF x5 x6 hq hM h77 hN h80 h81 h84 h85 hBO hst hoF K
    iterate 2 refine mT_s rfl rfl ?_
    (apply mT_getf; (case hc => rfl); (case ha => first | rfl | assumption); (case hf => first | rfl | assumption))
    refine mT_s rfl rfl ?_
    (apply mT_ialdK; (case hc => rfl); (case ha => first | rfl | assumption); (case hk => first | (simp only [ki_0, ki_1, ki_2, ki_3, ki_4, ki_5, ki_6, ki_7, ki_8, ki_9, ki_10, ki_11, ki_12, ki_17, ki_20, ki_21, ki_22, ki_42, ki_50, ki_58, ki_66, ki_74, ki_140, ki_174, ki_179, ki_184, ki_189, ki_441, nI_add, pk_mul]; with_reducible rfl) | (simp only [ki_0, ki_1, ki_2, ki_3, ki_4, ki_5, ki_6, ki_7, ki_8, ki_9, ki_10, ki_11, ki_12, ki_17, ki_20, ki_21, ki_22, ki_42, ki_50, ki_58, ki_66, ki_74, ki_140, ki_174, ki_179, ki_184, ki_189, ki_441, ix1, nI_add, pk_mul]; with_reducible rfl) | (simp only [ki_0, ki_1, ki_2, ki_3, ki_4, ki_5, ki_6, ki_7, ki_8, ki_9, ki_10, ki_11, ki_12, ki_17, ki_20, ki_21, ki_22, ki_42, ki_50, ki_58, ki_66, ki_74, ki_140, ki_174, ki_179, ki_184, ki_189, ki_441, ix1, ix2, nI_add, pk_mul]; with_reducible rfl) | (simp only [ki_0, ki_1, ki_2, ki_3, ki_4, ki_5, ki_6, ki_7, ki_8, ki_9, ki_10, ki_11, ki_12, ki_17, ki_20, ki_21, ki_22, ki_42, ki_50, ki_58, ki_66, ki_74, ki_140, ki_174, ki_179, ki_184, ki_189, ki_441, ix1, ix2, ix3, nI_add, pk_mul]; with_reducible rfl) | (simp (disch := omega) only [upd_n, ki_0, ki_1, ki_2, ki_3, ki_4, ki_5, ki_6, ki_7, ki_8, ki_9, ki_10, ki_11, ki_12, ki_17, ki_20, ki_21, ki_22, ki_42, ki_50, ki_58, ki_66, ki_74, ki_140, ki_174, ki_179, ki_184, ki_189, ki_441, ix1, nI_add, pk_mul]; with_reducible rfl) | (simp (disch := omega) only [upd_n, ki_0, ki_1, ki_2, ki_3, ki_4, ki_5, ki_6, ki_7, ki_8, ki_9, ki_10, ki_11, ki_12, ki_17, ki_20, ki_21, ki_22, ki_42, ki_50, ki_58, ki_66, ki_74, ki_140, ki_174, ki_179, ki_184, ki_189, ki_441, ix1, ix2, nI_add, pk_mul]; with_reducible rfl) | rfl); (case hlt => first | decide | omega); (case hn => decide))
    rw [hn6]
    refine mT_icmp_ge rfl (fun _ => ?_) (fun c => absurd (nI_le (by omega) (by omega)) c)
    refine mT_ret rfl rfl ?_
    exact K h ordF boF (rX.rfl' h80 h81) hM h77 h84 h85 hBO (fun _ _ => rfl)
  | succ r ih =>
    intro q h st boF ordF x5 x6 hq hM h77 hN h80 h81 h84 h85 hBO hst hoF K
    have hq5 : q < 5 := by omega
    iterate 2 refine mT_s rfl rfl ?_
    (apply mT_getf; (case hc => rfl); (case ha => first | rfl | assumption); (case hf => first | rfl | assumption))
    refine mT_s rfl rfl ?_
    (apply mT_ialdK; (case hc => rfl); (case ha => first | rfl | assumption); (case hk => first | (simp only [ki_0, ki_1, ki_2, ki_3, ki_4, ki_5, ki_6, ki_7, ki_8, ki_9, ki_10, ki_11, ki_12, ki_17, ki_20, ki_21, ki_22, ki_42, ki_50, ki_58, ki_66, ki_74, ki_140, ki_174, ki_179, ki_184, ki_189, ki_441, nI_add, pk_mul]; with_reducible rfl) | (simp only [ki_0, ki_1, ki_2, ki_3, ki_4, ki_5, ki_6, ki_7, ki_8, ki_9, ki_10, ki_11, ki_12, ki_17, ki_20, ki_21, ki_22, ki_42, ki_50, ki_58, ki_66, ki_74, ki_140, ki_174, ki_179, ki_184, ki_189, ki_441, ix1, nI_add, pk_mul]; with_reducible rfl) | (simp only [ki_0, ki_1, ki_2, ki_3, ki_4, ki_5, ki_6, ki_7, ki_8, ki_9, ki_10, ki_11, ki_12, ki_17, ki_20, ki_21, ki_22, ki_42, ki_50, ki_58, ki_66, ki_74, ki_140, ki_174, ki_179, ki_184, ki_189, ki_441, ix1, ix2, nI_add, pk_mul]; with_reducible rfl) | (simp only [ki_0, ki_1, ki_2, ki_3, ki_4, ki_5, ki_6, ki_7, ki_8, ki_9, ki_10, ki_11, ki_12, ki_17, ki_20, ki_21, ki_22, ki_42, ki_50, ki_58, ki_66, ki_74, ki_140, ki_174, ki_179, ki_184, ki_189, ki_441, ix1, ix2, ix3, nI_add, pk_mul]; with_reducible rfl) | (simp (disch := omega) only [upd_n, ki_0, ki_1, ki_2, ki_3, ki_4, ki_5, ki_6, ki_7, ki_8, ki_9, ki_10, ki_11, ki_12, ki_17, ki_20, ki_21, ki_22, ki_42, ki_50, ki_58, ki_66, ki_74, ki_140, ki_174, ki_179, ki_184, ki_189, ki_441, ix1, nI_add, pk_mul]; with_reducible rfl) | (simp (disch := omega) only [upd_n, ki_0, ki_1, ki_2, ki_3, ki_4, ki_5, ki_6, ki_7, ki_8, ki_9, ki_10, ki_11, ki_12, ki_17, ki_20, ki_21, ki_22, ki_42, ki_50, ki_58, ki_66, ki_74, ki_140, ki_174, ki_179, ki_184, ki_189, ki_441, ix1, ix2, nI_add, pk_mul]; with_reducible rfl) | rfl); (case hlt => first | decide | omega); (case hn => decide))
    rw [hn6]
    refine mT_icmp_ge rfl (fun c => absurd c (nI_ge (by omega) (by omega))) (fun _ => ?_)
    iterate 6 refine mT_s rfl rfl ?_
    refine mT_icmp_ne rfl (fun c92 => ?_) (fun c92 => ?_)
    · rw [bit_1 hle hq5] at c92
      have c92 : ¬ left / 2 ^ q % 2 = 1 := fun z => c92 (congrArg nI z)
      iterate 2 refine mT_s rfl rfl ?_
      rw [nI_1]
      unfold nFo at K
      rw [if_neg c92] at K
      exact ih (q + 1) h st boF ordF _ _ (by omega) hM h77 hN h80 h81 h84 h85 hBO hst hoF K
    · rw [bit_1 hle hq5] at c92
      have c92 : left / 2 ^ q % 2 = 1 := (nI_eq (b := 1) (by omega) (by omega)).mp c92
      refine mT_s rfl rfl ?_
      (apply mT_getf; (case hc => rfl); (case ha => first | rfl | assumption); (case hf => first | rfl | assumption))
      iterate 2 refine mT_s rfl rfl ?_
      (apply mT_iastK; (case hc => rfl); (case ha => first | rfl | assumption); (case hk => first | (simp only [ki_0, ki_1, ki_2, ki_3, ki_4, ki_5, ki_6, ki_7, ki_8, ki_9, ki_10, ki_11, ki_12, ki_17, ki_20, ki_21, ki_22, ki_42, ki_50, ki_58, ki_66, ki_74, ki_140, ki_174, ki_179, ki_184, ki_189, ki_441, nI_add, pk_mul]; with_reducible rfl) | (simp only [ki_0, ki_1, ki_2, ki_3, ki_4, ki_5, ki_6, ki_7, ki_8, ki_9, ki_10, ki_11, ki_12, ki_17, ki_20, ki_21, ki_22, ki_42, ki_50, ki_58, ki_66, ki_74, ki_140, ki_174, ki_179, ki_184, ki_189, ki_441, ix1, nI_add, pk_mul]; with_reducible rfl) | (simp only [ki_0, ki_1, ki_2, ki_3, ki_4, ki_5, ki_6, ki_7, ki_8, ki_9, ki_10, ki_11, ki_12, ki_17, ki_20, ki_21, ki_22, ki_42, ki_50, ki_58, ki_66, ki_74, ki_140, ki_174, ki_179, ki_184, ki_189, ki_441, ix1, ix2, nI_add, pk_mul]; with_reducible rfl) | (simp only [ki_0, ki_1, ki_2, ki_3, ki_4, ki_5, ki_6, ki_7, ki_8, ki_9, ki_10, ki_11, ki_12, ki_17, ki_20, ki_21, ki_22, ki_42, ki_50, ki_58, ki_66, ki_74, ki_140, ki_174, ki_179, ki_184, ki_189, ki_441, ix1, ix2, ix3, nI_add, pk_mul]; with_reducible rfl) | (simp (disch := omega) only [upd_n, ki_0, ki_1, ki_2, ki_3, ki_4, ki_5, ki_6, ki_7, ki_8, ki_9, ki_10, ki_11, ki_12, ki_17, ki_20, ki_21, ki_22, ki_42, ki_50, ki_58, ki_66, ki_74, ki_140, ki_174, ki_179, ki_184, ki_189, ki_441, ix1, nI_add, pk_mul]; with_reducible rfl) | (simp (disch := omega) only [upd_n, ki_0, ki_1, ki_2, ki_3, ki_4, ki_5, ki_6, ki_7, ki_8, ki_9, ki_10, ki_11, ki_12, ki_17, ki_20, ki_21, ki_22, ki_42, ki_50, ki_58, ki_66, ki_74, ki_140, ki_174, ki_179, ki_184, ki_189, ki_441, ix1, ix2, nI_add, pk_mul]; with_reducible rfl) | rfl); (case hlt => first | decide | omega); (case hn => decide); (case hN => assumption); (case hg => rfl))
      iterate 12 refine mT_s rfl rfl ?_
      (apply mT_inv; (case hc => rfl); (case hd => rfl); (case hb => first | rfl | assumption); (case hg => rfl))
      rw [(bit_2 hle hq5 c92).1, nI_1]
      have hqp := hbit q hq5 c92
      have hB2 := (bit_2 hle hq5 c92).2
      have hlen2 : (row ++ [q]).length = row.length + 1 := by rw [List.length_append]; rfl
      rw [← hlen2]
      refine ihf (left - 2 ^ q) (row ++ [q]) (m_up h 84 (.inl (0, 4, .inl (upd ordF row.length (nI q))))) i pd st boF (upd ordF row.length (nI q)) _ (Nat.lt_of_le_of_lt (Nat.sub_le _ _) hle) (by omega) (by omega) ?_ (fun j hj hh => hbit j hj (hB2.2 j hj hh).1) hM h77 hN h80 h81 rfl h85 hBO hst ?_ (fun h3 ordF2 boF2 hr3 hM3 h773 h843 h853 hBO3 hoF3 => ?_)
      · intro j hj
        rcases List.mem_append.mp hj with z | z
        · exact hrow j z
        · rw [List.mem_singleton.mp z]
          exact ⟨hq5, hqp⟩
      · intro j hj
        by_cases e : j = row.length
        · subst e
          rw [upd_s, getD_e hj, List.getElem_append_right (Nat.le_refl _)]
          exact congrArg nI (by simp)
        · have hj2 : j < row.length := by omega
          rw [upd_n _ _ e, hoF j hj2, getD_e hj2, getD_e hj, List.getElem_append_left hj2]
      have hN3 : 87 ≤ m_nx h3 := by rw [hr3.nx (by decide)]; exact hN
      iterate 2 refine mT_s rfl rfl ?_
      rw [nI_1]
      unfold nFo at K
      rw [if_pos c92] at K
      have hst3 := nOr_inv (n := n) (val := (fun row => if row.length ≤ 4 then v_row s l le mo p mm g row else 0)) (B := 360000) (fun row => by
        show ((if row.length ≤ 4 then v_row s l le mo p mm g row else 0 : Nat) : Int) ≤ 360000
        split
        · rename_i z
          have := v_row_le s l le mo p mm g row z
          omega
        · decide) (f := f) (left := left - 2 ^ q) (row := row ++ [q]) hst
      refine ih (q + 1) h3 _ boF2 ordF2 _ _ (by omega) hM3 h773 hN3 hr3.2.1 hr3.2.2 h843 h853 hBO3 hst3 (fun j hj => ?_) (fun h4 ordF4 boF4 hr4 hM4 h774 h844 h854 hBO4 hoF4 => ?_)
      · rw [hoF3 j (by omega), upd_n _ _ (by omega)]
        exact hoF j hj
      · refine K h4 ordF4 boF4 (rX.tr (((rX.rfl' h80 h81).up (k := 84) (by decide) (by decide) (by decide)).tr hr3) hr4) hM4 h774 h844 h854 hBO4 (fun j hj => ?_)
        rw [hoF4 j hj, hoF3 j (by omega), upd_n _ _ (by omega)]
theorem oOK_S (s : Nat → Int32) (l : List Tok) (le mo : Nat) (p : Nat) (n : Nat) (mm : Nat → Nat) (g o t d : Nat) (hG : sG s l le mo) (hp : p < 5) (hmm : ∀ j, j < 5 → mm j ≤ 20) (hg : g < 10100) (hn5 : n ≤ 5) (hn6 : s_at s mm g 6 = nI n) (f : Nat) (ihf : oOK s l le mo p n mm g o t d f) : oOK s l le mo p n mm g o t d (f + 1) := by
  intro left row h i pd st boF ordF Q hle hpop hlen hrow hbit hM h77 hN h80 h81 h84 h85 hBO hst hoF K
  have hl0 : ¬ nI left = 0 := fun z => by
    have := (nI_eq (a := left) (b := 0) (by omega) (by omega)).mp z
    subst this
    exact absurd hpop (by unfold nPop; omega)
  refine mT_s rfl rfl ?_
  refine mT_if_ne rfl (fun _ => ?_) (fun c => absurd c hl0)
  iterate 2 refine mT_s rfl rfl ?_
  exact oOK_L s l le mo p n mm g o t d hG hp hmm hg hn5 hn6 f left row i pd Q ihf hle hpop hlen hrow hbit n 0 h st boF ordF _ _ (by omega) hM h77 hN h80 h81 h84 h85 hBO hst hoF K
theorem oOK_all (s : Nat → Int32) (l : List Tok) (le mo : Nat) (p : Nat) (n : Nat) (mm : Nat → Nat) (g o t d : Nat) (hG : sG s l le mo) (hp : p < 5) (hmm : ∀ j, j < 5 → mm j ≤ 20) (hg : g < 10100) (hn5 : n ≤ 5) (hn6 : s_at s mm g 6 = nI n) : ∀ f, oOK s l le mo p n mm g o t d f
  | 0 => oOK_0 s l le mo p n mm g o t d hG hp hmm hg
  | f + 1 => oOK_S s l le mo p n mm g o t d hG hp hmm hg hn5 hn6 f (oOK_all s l le mo p n mm g o t d hG hp hmm hg hn5 hn6 f)