/-! By program (wip/whole/book*.py) and hand. -/
theorem x_bitCount (d : Nat) (h : mH) (Q : Option Value → mH → Prop) (a : Nat) (ha : a < 32) (K : Q (some (.int (nI (nPop a)))) h) : mT0 d z_J6_bitCount_0f7a4 0 (m_init z_J6_bitCount_0f7a4 [.int (nI a)]) [] h Q := by
  have h9 : ∀ a : Fin 32, mT0 d z_J6_bitCount_0f7a4 0 (m_init z_J6_bitCount_0f7a4 [.int (nI a.val)]) [] h (fun v h2 => v = some (.int (nI (nPop a.val))) ∧ h2 = h) := by
    intro a
    iterate 41 refine mT_s rfl rfl ?_
    refine mT_ret rfl rfl ?_
    refine ⟨?_, rfl⟩
    have h8 : ∀ a : Fin 32, ((((((((nI a.val - (((nI a.val).toUInt32 >>> ((1 : Int32).toUInt32 &&& Int32.toUInt32 31)).toInt32 &&& 1431655765)) &&& 858993459) + ((((nI a.val - (((nI a.val).toUInt32 >>> ((1 : Int32).toUInt32 &&& Int32.toUInt32 31)).toInt32 &&& 1431655765))).toUInt32 >>> ((2 : Int32).toUInt32 &&& Int32.toUInt32 31)).toInt32 &&& 858993459)) + (((((nI a.val - (((nI a.val).toUInt32 >>> ((1 : Int32).toUInt32 &&& Int32.toUInt32 31)).toInt32 &&& 1431655765)) &&& 858993459) + ((((nI a.val - (((nI a.val).toUInt32 >>> ((1 : Int32).toUInt32 &&& Int32.toUInt32 31)).toInt32 &&& 1431655765))).toUInt32 >>> ((2 : Int32).toUInt32 &&& Int32.toUInt32 31)).toInt32 &&& 858993459))).toUInt32 >>> ((4 : Int32).toUInt32 &&& Int32.toUInt32 31)).toInt32) &&& 252645135) + (((((((nI a.val - (((nI a.val).toUInt32 >>> ((1 : Int32).toUInt32 &&& Int32.toUInt32 31)).toInt32 &&& 1431655765)) &&& 858993459) + ((((nI a.val - (((nI a.val).toUInt32 >>> ((1 : Int32).toUInt32 &&& Int32.toUInt32 31)).toInt32 &&& 1431655765))).toUInt32 >>> ((2 : Int32).toUInt32 &&& Int32.toUInt32 31)).toInt32 &&& 858993459)) + (((((nI a.val - (((nI a.val).toUInt32 >>> ((1 : Int32).toUInt32 &&& Int32.toUInt32 31)).toInt32 &&& 1431655765)) &&& 858993459) + ((((nI a.val - (((nI a.val).toUInt32 >>> ((1 : Int32).toUInt32 &&& Int32.toUInt32 31)).toInt32 &&& 1431655765))).toUInt32 >>> ((2 : Int32).toUInt32 &&& Int32.toUInt32 31)).toInt32 &&& 858993459))).toUInt32 >>> ((4 : Int32).toUInt32 &&& Int32.toUInt32 31)).toInt32) &&& 252645135)).toUInt32 >>> ((8 : Int32).toUInt32 &&& Int32.toUInt32 31)).toInt32) + ((((((((nI a.val - (((nI a.val).toUInt32 >>> ((1 : Int32).toUInt32 &&& Int32.toUInt32 31)).toInt32 &&& 1431655765)) &&& 858993459) + ((((nI a.val - (((nI a.val).toUInt32 >>> ((1 : Int32).toUInt32 &&& Int32.toUInt32 31)).toInt32 &&& 1431655765))).toUInt32 >>> ((2 : Int32).toUInt32 &&& Int32.toUInt32 31)).toInt32 &&& 858993459)) + (((((nI a.val - (((nI a.val).toUInt32 >>> ((1 : Int32).toUInt32 &&& Int32.toUInt32 31)).toInt32 &&& 1431655765)) &&& 858993459) + ((((nI a.val - (((nI a.val).toUInt32 >>> ((1 : Int32).toUInt32 &&& Int32.toUInt32 31)).toInt32 &&& 1431655765))).toUInt32 >>> ((2 : Int32).toUInt32 &&& Int32.toUInt32 31)).toInt32 &&& 858993459))).toUInt32 >>> ((4 : Int32).toUInt32 &&& Int32.toUInt32 31)).toInt32) &&& 252645135) + (((((((nI a.val - (((nI a.val).toUInt32 >>> ((1 : Int32).toUInt32 &&& Int32.toUInt32 31)).toInt32 &&& 1431655765)) &&& 858993459) + ((((nI a.val - (((nI a.val).toUInt32 >>> ((1 : Int32).toUInt32 &&& Int32.toUInt32 31)).toInt32 &&& 1431655765))).toUInt32 >>> ((2 : Int32).toUInt32 &&& Int32.toUInt32 31)).toInt32 &&& 858993459)) + (((((nI a.val - (((nI a.val).toUInt32 >>> ((1 : Int32).toUInt32 &&& Int32.toUInt32 31)).toInt32 &&& 1431655765)) &&& 858993459) + ((((nI a.val - (((nI a.val).toUInt32 >>> ((1 : Int32).toUInt32 &&& Int32.toUInt32 31)).toInt32 &&& 1431655765))).toUInt32 >>> ((2 : Int32).toUInt32 &&& Int32.toUInt32 31)).toInt32 &&& 858993459))).toUInt32 >>> ((4 : Int32).toUInt32 &&& Int32.toUInt32 31)).toInt32) &&& 252645135)).toUInt32 >>> ((8 : Int32).toUInt32 &&& Int32.toUInt32 31)).toInt32)).toUInt32 >>> ((16 : Int32).toUInt32 &&& Int32.toUInt32 31)).toInt32) &&& 63) = nI (nPop a.val) := by decide +kernel
    exact congrArg (fun z => some (Value.int z)) (h8 a)
  obtain ⟨n, v, h2, hr, rfl, rfl⟩ := h9 ⟨a, ha⟩
  exact ⟨n, _, _, hr, K⟩
/-- a set's bits that are no players' -/
theorem set_no {y : Int32} {n : Nat} (hn : n ≤ 5) (h : y &&& (((1 <<< (nI n &&& 31)) - 1) ^^^ (-1)) = 0) : ∃ left : Nat, left < 2 ^ n ∧ y = nI left := by
  have hm : ∀ n : Fin 6, (((1 : Int32) <<< (nI n.val &&& 31)) - 1).toBitVec.toNat = 2 ^ n.val - 1 := by decide +kernel
  have hm := hm ⟨n, by omega⟩
  generalize ((1 : Int32) <<< (nI n &&& 31)) - 1 = m at h hm
  have e : y = y &&& m := by
    apply Int32.toBitVec_inj.mp
    have hb : y.toBitVec &&& (m.toBitVec ^^^ (-1 : Int32).toBitVec) = 0#32 := congrArg Int32.toBitVec h
    rw [Int32.toBitVec_and]
    apply BitVec.eq_of_getLsbD_eq
    intro i hi
    have hi2 := congrArg (fun z => BitVec.getLsbD z i) hb
    have h1 : (-1 : Int32).toBitVec = BitVec.allOnes 32 := by decide
    rw [h1] at hi2
    simp only [BitVec.getLsbD_and, BitVec.getLsbD_xor, BitVec.getLsbD_allOnes, BitVec.getLsbD_zero, hi, decide_true] at hi2
    rw [BitVec.getLsbD_and]
    revert hi2
    cases y.toBitVec.getLsbD i <;> cases m.toBitVec.getLsbD i <;> decide
  refine ⟨y.toBitVec.toNat % 2 ^ n, Nat.mod_lt _ (Nat.two_pow_pos n), ?_⟩
  rw [← pk_and y n hm]
  exact e
theorem set_yes {left n : Nat} (hn : n ≤ 5) (h : left < 2 ^ n) : nI left &&& (((1 <<< (nI n &&& 31)) - 1) ^^^ (-1)) = 0 := by
  have h9 : ∀ n : Fin 6, ∀ a : Fin 32, a.val < 2 ^ n.val → nI a.val &&& (((1 <<< (nI n.val &&& 31)) - 1) ^^^ (-1)) = 0 := by decide +kernel
  exact h9 ⟨n, by omega⟩ ⟨left, Nat.lt_of_lt_of_le h (Nat.pow_le_pow_right (n := 2) (by decide) hn)⟩ h
/-- what is won in all by a row that begins so: gained so far, and by how the men are spread -/
def oG (od : Nat → Nat → Nat → Nat → Nat) (fw mr om : Nat → Nat) (g m0 : Nat) (row : List Nat) (D : Nat → Int64) (G : Int64) : Prop := ∀ (r : Nat) (qs : Nat → Nat), (∀ j, j < row.length → qs j = row.getD j 0) → lN (nW od fw mr om qs (row.length + r) 0 g m0) = G * lN (10 ^ r) + sL (fun m => D m * lN (nW od fw mr om qs r row.length (g + row.length) m)) 21
theorem oG_0 {od : Nat → Nat → Nat → Nat → Nat} {fw mr om : Nat → Nat} {g m0 : Nat} {D : Nat → Int64} (hm : m0 ≤ 20) (hD : ∀ j, j < 21 → D j = if j = m0 then 1 else 0) : oG od fw mr om g m0 [] D 0 := by
  intro r qs _
  rw [sL_one _ (show m0 < 21 by omega) (fun k hk hkj => by rw [hD k hk, if_neg hkj, Int64.zero_mul])]
  rw [hD m0 (by omega), if_pos rfl, Int64.one_mul, Int64.zero_mul, Int64.zero_add]
  show lN (nW od fw mr om qs (0 + r) 0 g m0) = _
  rw [Nat.zero_add]
  rfl
theorem oG_S {od : Nat → Nat → Nat → Nat → Nat} {fw mr om : Nat → Nat} {g m0 q : Nat} {row : List Nat} {D E : Nat → Int64} {G S : Int64} (H : oG od fw mr om g m0 row D G) (hJ : oJ (fun j => od q j (om q) (g + row.length)) fw mr D 21 E S) : oG od fw mr om g m0 (row ++ [q]) E (G * 10 + S) := by
  intro r qs hqs
  have hlen : (row ++ [q]).length = row.length + 1 := by rw [List.length_append]; rfl
  rw [hlen] at hqs ⊢
  have hq : qs row.length = q := by
    rw [hqs _ (Nat.lt_succ_self _), getD_e (by rw [hlen]; exact Nat.lt_succ_self _), List.getElem_append_right (Nat.le_refl _)]
    simp
  have h0 := H (r + 1) qs (fun j hj => by rw [hqs j (by omega), getD_e (by rw [hlen]; omega), getD_e hj, List.getElem_append_left hj])
  rw [show row.length + 1 + r = row.length + (r + 1) by omega, h0]
  obtain ⟨-, h2, h3⟩ := hJ
  have e1 : sL (fun m => D m * lN (nW od fw mr om qs (r + 1) row.length (g + row.length) m)) 21 = lN (10 ^ r) * S + sL (fun m => E m * lN (nW od fw mr om qs r (row.length + 1) (g + (row.length + 1)) m)) 21 := by
    rw [h2 (fun m => lN (nW od fw mr om qs r (row.length + 1) (g + (row.length + 1)) m)), h3, ← sL_mul, ← sL_add]
    refine sL_congr (fun k _ => ?_)
    show D k * lN (od (qs row.length) k (om (qs row.length)) (g + row.length) * (10 ^ r + nW od fw mr om qs r (row.length + 1) (g + row.length + 1) (fw k)) + (10 - od (qs row.length) k (om (qs row.length)) (g + row.length)) * nW od fw mr om qs r (row.length + 1) (g + row.length + 1) (mr k)) = _
    rw [hq, ← lN_add, ← lN_mul, ← lN_mul, ← lN_add]
    show _ = lN (10 ^ r) * (D k * lN (od q k (om q) (g + row.length))) + D k * (lN (od q k (om q) (g + row.length)) * lN (nW od fw mr om qs r (row.length + 1) (g + row.length + 1) (fw k)) + lN (10 - od q k (om q) (g + row.length)) * lN (nW od fw mr om qs r (row.length + 1) (g + row.length + 1) (mr k)))
    grind
  rw [e1, Nat.pow_succ, ← lN_mul, show lN 10 = 10 from rfl]
  grind
theorem oG_end {od : Nat → Nat → Nat → Nat → Nat} {fw mr om : Nat → Nat} {g m0 : Nat} {row : List Nat} {D : Nat → Int64} {G : Int64} (H : oG od fw mr om g m0 row D G) : G = lN (nW od fw mr om (fun j => row.getD j 0) row.length 0 g m0) := by
  have h := H 0 (fun j => row.getD j 0) (fun _ _ => rfl)
  rw [sL_zero (fun k _ => by show D k * lN 0 = 0; rw [show lN 0 = 0 from rfl, Int64.mul_zero]), Nat.add_zero] at h
  rw [h, Int64.add_zero, show lN (10 ^ 0) = 1 from rfl, Int64.mul_one]
def BX (f : Nat → Int32) (row : List Nat) : Prop := ∀ j, j < row.length → f j = nI (row.getD j 0)
/-- all that the search needs of the heap -/
def rOX (h : mH) (i : Nat → Int32) (iv : Value) (s : Nat → Int32) (l : List Tok) (le mo : Nat) (mm : Nat → Nat) (sz : Nat) (me : Int64) (p : Nat) : Prop := rBs 21 h i iv s l le mo ∧ rMn 21 h mm ∧ rOr h sz me p ∧ rQs h ∧ ∀ a, 67 ≤ a → a ≤ 71 → ∃ E, rSp h a E
theorem rOX.c {h h2 : mH} {i : Nat → Int32} {iv : Value} {s : Nat → Int32} {l : List Tok} {le mo : Nat} {mm : Nat → Nat} {sz : Nat} {me me2 : Int64} {p : Nat} (x : rOX h i iv s l le mo mm sz me p) (hh : ∀ c, c ≠ 30 → c < 63 ∨ 71 < c → h2 c = h c) (h9 : ∃ f, h2 30 = .inl (0, 5, .inl f)) (hO : rOr h2 sz me2 p) (h66 : h2 66 = h 66) (hS : ∀ a, 67 ≤ a → a ≤ 71 → ∃ E, rSp h2 a E) : rOX h2 i iv s l le mo mm sz me2 p := by
  obtain ⟨x1, x2, x3, x4, x5⟩ := x
  refine ⟨x1.d5 (fun a z1 z2 => hh a z1 (by omega)) h9, x2.c (hh 24 (by decide) (by decide)), hO, ?_, hS⟩
  unfold rQs
  rw [h66]
  exact x4

theorem x_isNoSet (d : Nat) (h : mH) (Q : Option Value → mH → Prop)  (it : Int32) (hX : h 20 = .inr (9, xObj it)) (i : Nat → Int32) (iv : Value) (hR : h 21 = .inr (7, rObj 21 i iv)) (n : Nat) (hn5 : n ≤ 5) (hi0 : i 0 = nI n) (p : Nat) (hp : p < n) (y : Int32) (k1 : ¬ okSet n p y → Q (some (.int 1)) h) (k0 : ∀ left : Nat, left < 2 ^ n → y = nI left → left / 2 ^ p % 2 = 0 → Q (some (.int 0)) h) : mT0 (d + 1) z_X9_isNoSet 0 (m_init z_X9_isNoSet [.ref 20, .int (nI p), .int y]) [] h Q := by
  iterate 2 refine mT_s rfl rfl ?_
  (apply mT_getf; (case hc => rfl); (case ha => first | rfl | assumption); (case hf => first | rfl | assumption))
  (apply mT_getf; (case hc => rfl); (case ha => first | rfl | assumption); (case hf => first | rfl | assumption))
  iterate 9 refine mT_s rfl rfl ?_
  refine mT_if_ne rfl (fun c17 => ?_) (fun c17 => ?_)
  · rw [hi0] at c17
    iterate 2 refine mT_s rfl rfl ?_
    refine mT_ret rfl rfl ?_
    exact k1 (fun ⟨left, z1, z2, z3⟩ => c17 (by rw [z2]; exact set_yes hn5 z1))
  · rw [hi0] at c17
    obtain ⟨left9, hl9, hy9⟩ := set_no hn5 c17
    have hl32 : left9 < 32 := Nat.lt_of_lt_of_le hl9 (Nat.pow_le_pow_right (n := 2) (by decide) hn5)
    iterate 5 refine mT_s rfl rfl ?_
    refine mT_if_ne rfl (fun c25 => ?_) (fun c25 => ?_)
    · rw [hy9, bit_n (by omega) (by omega)] at c25
      have c25 : ¬ left9 / 2 ^ p % 2 = 0 := fun z => c25 (congrArg nI z)
      iterate 2 refine mT_s rfl rfl ?_
      refine mT_ret rfl rfl ?_
      exact k1 (fun ⟨left, z1, z2, z3⟩ => c25 (by have h32 : left < 32 := Nat.lt_of_lt_of_le z1 (Nat.pow_le_pow_right (n := 2) (by decide) hn5); have e : left = left9 := (nI_eq (by omega) (by omega)).mp (by rw [← z2, hy9]); rw [← e]; exact z3))
    · rw [hy9, bit_n (by omega) (by omega)] at c25
      have c25 := (nI_eq (b := 0) (by omega) (by omega)).mp c25
      refine mT_s rfl rfl ?_
      refine mT_c rfl rfl ?_
      rw [hy9]
      refine x_bitCount _ h _ left9 hl32 ?_
      refine mT_s rfl rfl ?_
      have hp4 := pop_le hn5 hp hl9 c25
      refine mT_icmp_le rfl (fun _ => ?_) (fun c => absurd (nI_le (b := 4) hp4 (by omega)) c)
      refine mT_s rfl rfl ?_
      refine mT_ret rfl rfl ?_
      exact k0 left9 hl9 hy9 c25
