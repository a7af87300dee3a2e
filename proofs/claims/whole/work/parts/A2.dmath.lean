/-! Two who play on, in the class: what the clouds hold. -/
theorem nx_eq {h h2 : mH} (hh : h2 0 = h 0) (hN : 87 ≤ m_nx h) : 87 ≤ m_nx h2 := by
  have : m_nx h2 = m_nx h := by
    unfold m_nx
    rw [hh]
  rw [this]
  exact hN
def rDu (h : mH) (a b p q g pl : Nat) (cnt : Bool) : Prop := h 53 = .inr (2, [.ref a, .ref b, .ref 21, .int (nI p), .int (nI q), .int (nI g), .int (nI pl), .int (bI cnt)])
def hAB (a b : Nat) : Prop := (a = 54 ∧ b = 58) ∨ (a = 58 ∧ b = 54)
theorem dc_at (φ : Nat → Nat → Nat → Int64) {p w : Nat} (hw : w < 13) : dc φ (p * 13 + w) = φ w (p / 20 + 1) (p % 20 + 1) := by
  unfold dc
  rw [show (p * 13 + w) % 13 = w by omega, show (p * 13 + w) / 13 = p by omega]
theorem FW_list {sz : Nat} {P lb : Nat → Nat} {W : Nat → Int64} {M : Nat} (hI : cI sz P lb W) (hS : cS W M) (hM : M ≤ 12) (φ : Nat → Nat → Nat → Int64) : sL (fun j => sL (fun w => W (P j * 13 + w) * φ w (P j / 20 + 1) (P j % 20 + 1)) (M + 1)) sz = FW W φ := by
  unfold FW
  rw [hI.sum (dc φ)]
  refine sL_congr (fun j hj => ?_)
  have hp := (hI.2.2.1 j hj).1
  have e1 : sL (fun w => W (P j * 13 + w) * dc φ (P j * 13 + w)) 13 = sL (fun w => W (P j * 13 + w) * φ w (P j / 20 + 1) (P j % 20 + 1)) 13 := sL_congr (fun w hw => by
    show W (P j * 13 + w) * dc φ (P j * 13 + w) = _
    rw [dc_at φ hw])
  show sL (fun w => W (P j * 13 + w) * φ w (P j / 20 + 1) (P j % 20 + 1)) (M + 1) = sL (fun w => W (P j * 13 + w) * dc φ (P j * 13 + w)) 13
  rw [e1]
  refine (sL_short (by omega) (fun k h1 h2 => ?_)).symm
  have hz : W (P j * 13 + k) = 0 := by
    by_cases z : W (P j * 13 + k) = 0
    · exact z
    · have := hS (P j * 13 + k) (by omega) z
      omega
  show W (P j * 13 + k) * _ = 0
  rw [hz, Int64.zero_mul]
theorem FW_zero (W : Nat → Int64) (φ : Nat → Nat → Nat → Int64) {u w : Nat} (hu : u < 400) (hw : w < 13) : W (u * 13 + w) * φ w (u / 20 + 1) (u % 20 + 1) + FW (vp_updL W (u * 13 + w) 0) φ = FW W φ := by
  have h := FW_upd W φ (-(W (u * 13 + w))) hu hw
  rw [show W (u * 13 + w) + -(W (u * 13 + w)) = 0 from Int64.add_right_neg _] at h
  rw [h]
  grind
theorem min_11 {a : Nat} (h : a ≤ 11) : (if (11 : Int32) < nI a then (11 : Int32) else nI a) = nI a := by
  have z : ¬ (11 : Int32) < nI a := fun z => absurd ((nI_ltI (a := 11) (by omega) (by omega)).mp z) (by omega)
  rw [if_neg z]
theorem lN_10 {k : Nat} (h : k ≤ 10) : iL (10 - (k : Int)) = lN (10 - k) := by
  rw [← iL_N]
  exact congrArg iL (by omega)
/-- the weights: games to come, whoever has won how many -/
theorem tC_eG {od : Nat → Nat → Nat → Nat} {fw mr : Nat → Nat} {st : Nat → Nat → Nat → Nat → Option Int} {n g w m o : Nat} (hod : ∀ m o g, od m o g ≤ 9) (h : st (n + 1) w m o = none) : iL (eG od fw mr st rw_no (n + 1) g w m o) = tC true od fw mr g (fun w m o => iL (eG od fw mr st rw_no n (g + 1) w m o)) w m o := by
  rw [tO_eG h]
  have := hod m o g
  unfold tO tC
  rw [if_neg (fun z => absurd z.1 (by decide)), lN_10 (by omega), iL_N]
  rfl
theorem eG_w {od : Nat → Nat → Nat → Nat} {fw mr : Nat → Nat} {st : Nat → Nat → Nat → Nat → Option Int} {rw : Nat → Nat → Nat → Nat → Int} (h : ∀ n w w2 m o, st n w m o = st n w2 m o) : ∀ n g w w2 m o, eG od fw mr st rw n g w m o = eG od fw mr st rw n g w2 m o
  | 0, g, w, w2, m, o => by
    show (st 0 w m o).getD 0 = (st 0 w2 m o).getD 0
    rw [h 0 w w2]
  | n + 1, g, w, w2, m, o => by
    cases e : st (n + 1) w m o with
    | some v => rw [eG_some e, eG_some ((h _ w2 w m o).trans e)]
    | none => rw [eG_none e, eG_none ((h _ w2 w m o).trans e), eG_w h n (g + 1) (w + 1) (w2 + 1), eG_w h n (g + 1) w w2]
/-- nothing is counted -/
theorem tC_w0 {od : Nat → Nat → Nat → Nat} {fw mr : Nat → Nat} {st : Nat → Nat → Nat → Nat → Option Int} {n g m o : Nat} (hod : ∀ m o g, od m o g ≤ 9) (hw : ∀ n w w2 m o, st n w m o = st n w2 m o) (h : st (n + 1) 0 m o = none) : iL (eG od fw mr st rw_no (n + 1) g 0 m o) = tC false od fw mr g (fun w m o => iL (eG od fw mr st rw_no n (g + 1) 0 m o)) 0 m o := by
  rw [tC_eG hod h]
  unfold tC
  dsimp only [cond]
  rw [eG_w hw n (g + 1) (0 + 1) 0]
theorem tC_stakes {od : Nat → Nat → Nat → Nat} {fw mr : Nat → Nat} {n g m o : Nat} (hod : ∀ m o g, od m o g ≤ 9) : iL (eG od fw mr st_no (rw_st od) (n + 1) g 0 m o) = lN (10 ^ n) * iL (od m o g * o - (10 - od m o g) * m) + tC false od fw mr g (fun w m o => iL (eG od fw mr st_no (rw_st od) n (g + 1) 0 m o)) 0 m o := by
  rw [tO_stakes]
  have := hod m o g
  unfold tO tC tP
  rw [if_neg (fun z => absurd z.1 (by decide)), if_neg (fun z => absurd z.1 (by decide)), lN_10 (by omega)]
  dsimp only [cond]
  rw [eG_w (fun _ _ _ _ _ => rfl) n (g + 1) (0 + 1) 0]
  rfl
