/-! Games by all ways: weights carried back. -/
theorem sL_S (f : Nat → Int64) (n : Nat) : sL f (n + 1) = sL f n + f n := rfl
theorem sN_S (f : Nat → Nat) (n : Nat) : sN f (n + 1) = sN f n + f n := rfl
def dk (φ : Nat → Nat → Nat → Int64) (k : Nat) : Int64 := φ (k / 441) (k / 21 % 21) (k % 21)
def tO (od : Nat → Nat → Nat → Nat) (fw mr : Nat → Nat) (stop : Bool) (g : Nat) (φ : Nat → Nat → Nat → Int64) : Nat → Nat → Nat → Int64 := fun w m n => if stop = true ∧ m = 1 then 10 * φ w m n else iL (od m n g) * φ (w + 1) (fw m) (mr n) + iL (10 - od m n g) * φ w (mr m) (fw n)
def tP (od : Nat → Nat → Nat → Nat) (stop : Bool) (g : Nat) : Nat → Nat → Nat → Int64 := fun _ m n => if stop = true ∧ m = 1 then 0 else iL (od m n g * n - (10 - od m n g) * m)
def gIx (w m n : Nat) : Nat := 441 * w + 21 * m + n
theorem gIx_d {w m n : Nat} (hm : m ≤ 20) (hn : n ≤ 20) (φ : Nat → Nat → Nat → Int64) : dk φ (gIx w m n) = φ w m n := by
  unfold dk gIx
  rw [show (441 * w + 21 * m + n) / 441 = w by omega, show (441 * w + 21 * m + n) / 21 % 21 = m by omega, show (441 * w + 21 * m + n) % 21 = n by omega]
/-- what the new row holds when so many places of the old one are done -/
def gI (od : Nat → Nat → Nat → Nat) (fw mr : Nat → Nat) (stop : Bool) (g : Nat) (A : Nat → Int64) (A2 : Nat → Nat) (pd0 : Int64) (G k : Nat) (C : Nat → Int64) (pd : Int64) : Prop :=
  (∀ φ : Nat → Nat → Nat → Int64, sL (fun j => C j * dk φ j) 5733 = sL (fun j => A j * dk (tO od fw mr stop g φ) j) k) ∧ pd = pd0 * 10 + sL (fun j => A j * dk (tP od stop g) j) k ∧
  ∃ C2 : Nat → Nat, (∀ j, j < 5733 → C j = lN (C2 j)) ∧ sN C2 5733 ≤ 10 * sN A2 k ∧ ∀ j, C2 j ≠ 0 → j / 441 ≤ G + 1
theorem gI_skip {od : Nat → Nat → Nat → Nat} {fw mr : Nat → Nat} {stop : Bool} {g : Nat} {A : Nat → Int64} {A2 : Nat → Nat} {pd0 : Int64} {G k : Nat} {C : Nat → Int64} {pd : Int64} (h : gI od fw mr stop g A A2 pd0 G k C pd) (hA : A k = 0) : gI od fw mr stop g A A2 pd0 G (k + 1) C pd := by
  obtain ⟨h1, h2, C2, h3, h4, h5⟩ := h
  refine ⟨fun φ => ?_, ?_, C2, h3, ?_, h5⟩
  · rw [h1 φ, sL_S _ k, hA, Int64.zero_mul, Int64.add_zero]
  · rw [h2, sL_S _ k, hA, Int64.zero_mul, Int64.add_zero]
  · rw [sN_S _ k]
    omega
theorem gI_stop {od : Nat → Nat → Nat → Nat} {fw mr : Nat → Nat} {g : Nat} {A : Nat → Int64} {A2 : Nat → Nat} {pd0 : Int64} {G k : Nat} {C : Nat → Int64} {pd : Int64} (h : gI od fw mr true g A A2 pd0 G k C pd) (hk : k < 5733) (hA : A k = lN (A2 k)) (hG : k / 441 ≤ G) (hm : k / 21 % 21 = 1) : gI od fw mr true g A A2 pd0 G (k + 1) (vp_updL C k (C k + 10 * A k)) pd := by
  obtain ⟨h1, h2, C2, h3, h4, h5⟩ := h
  refine ⟨fun φ => ?_, ?_, updM C2 k (C2 k + 10 * A2 k), fun j hj => ?_, ?_, fun j hj => ?_⟩
  · have e : dk (tO od fw mr true g φ) k = 10 * dk φ k := by
      unfold dk tO
      rw [if_pos ⟨rfl, hm⟩]
    rw [sL_upd C (dk φ) _ hk, h1 φ, sL_S _ k, e, Int64.mul_comm 10 (A k), Int64.mul_assoc]
  · have e : dk (tP od true g) k = 0 := by
      unfold dk tP
      rw [if_pos ⟨rfl, hm⟩]
    rw [h2, sL_S _ k, e, Int64.mul_zero, Int64.add_zero]
  · by_cases e : j = k
    · subst e
      rw [pk_uLs, updM_s, h3 j hj, hA, ← lN_add, ← lN_mul]
      rfl
    · rw [pk_uLn e, updM_n C2 e]
      exact h3 j hj
  · rw [sN_upd C2 _ hk, sN_S A2 k]
    omega
  · by_cases e : j = k
    · subst e; omega
    · rw [updM_n C2 e] at hj
      exact h5 j hj
theorem gI_go {od : Nat → Nat → Nat → Nat} {fw mr : Nat → Nat} {stop : Bool} {g : Nat} {A : Nat → Int64} {A2 : Nat → Nat} {pd0 : Int64} {G k : Nat} {C : Nat → Int64} {pd : Int64} (h : gI od fw mr stop g A A2 pd0 G k C pd) (hk : k < 5733) (hA : A k = lN (A2 k)) (hG : k / 441 ≤ G) (hG2 : G ≤ 11) (hns : ¬ (stop = true ∧ k / 21 % 21 = 1))
    {m n fm mn fn mm e : Nat} (hm : k / 21 % 21 = m) (hn : k % 21 = n) (he : e = od m n g) (he9 : e ≤ 10) (h1m : fm = fw m) (h2m : mn = mr n) (h3m : mm = mr m) (h4m : fn = fw n) (b1 : fm ≤ 20) (b2 : mn ≤ 20) (b3 : mm ≤ 20) (b4 : fn ≤ 20) {x1 x2 x3 : Int64} (hx1 : x1 = iL e) (hx2 : x2 = iL (10 - e)) (hx3 : x3 = iL (e * n - (10 - e) * m)) :
    gI od fw mr stop g A A2 pd0 G (k + 1) (vp_updL (vp_updL C (gIx (k / 441 + 1) fm mn) (C (gIx (k / 441 + 1) fm mn) + x1 * A k)) (gIx (k / 441) mm fn) (vp_updL C (gIx (k / 441 + 1) fm mn) (C (gIx (k / 441 + 1) fm mn) + x1 * A k) (gIx (k / 441) mm fn) + x2 * A k)) (pd + A k * x3) := by
  obtain ⟨h1, h2, C2, h3, h4, h5⟩ := h
  have i1 : gIx (k / 441 + 1) fm mn < 5733 := by unfold gIx; omega
  have i2 : gIx (k / 441) mm fn < 5733 := by unfold gIx; omega
  have hc1 : ∀ j, j < 5733 → vp_updL C (gIx (k / 441 + 1) fm mn) (C (gIx (k / 441 + 1) fm mn) + x1 * A k) j = lN (updM C2 (gIx (k / 441 + 1) fm mn) (C2 (gIx (k / 441 + 1) fm mn) + e * A2 k) j) := by
    intro j hj
    by_cases z : j = gIx (k / 441 + 1) fm mn
    · rw [z, pk_uLs, updM_s, h3 _ i1, hA, hx1, ← lN_add, ← lN_mul]
      rfl
    · rw [pk_uLn z, updM_n C2 z]
      exact h3 j hj
  refine ⟨fun φ => ?_, ?_, updM (updM C2 (gIx (k / 441 + 1) fm mn) (C2 (gIx (k / 441 + 1) fm mn) + e * A2 k)) (gIx (k / 441) mm fn) (updM C2 (gIx (k / 441 + 1) fm mn) (C2 (gIx (k / 441 + 1) fm mn) + e * A2 k) (gIx (k / 441) mm fn) + (10 - e) * A2 k), fun j hj => ?_, ?_, fun j hj => ?_⟩
  · rw [sL_upd _ (dk φ) _ i2, sL_upd C (dk φ) _ i1, h1 φ, gIx_d b1 b2, gIx_d b3 b4]
    have e9 : dk (tO od fw mr stop g φ) k = iL e * φ (k / 441 + 1) fm mn + iL (10 - e) * φ (k / 441) mm fn := by
      unfold dk tO
      rw [if_neg hns, hm, hn, ← he, ← h1m, ← h2m, ← h3m, ← h4m]
    rw [sL_S _ k, e9, hx1, hx2]
    generalize sL (fun j => A j * dk (tO od fw mr stop g φ) j) k = S
    generalize φ (k / 441 + 1) fm mn = y1
    generalize φ (k / 441) mm fn = y2
    generalize A k = a
    generalize iL (10 - e) = z2
    generalize iL e = z1
    grind
  · have e9 : dk (tP od stop g) k = iL (e * n - (10 - e) * m) := by
      unfold dk tP
      rw [if_neg hns, hm, hn, ← he]
    rw [h2, sL_S _ k, e9, hx3, Int64.add_assoc]
  · by_cases z : j = gIx (k / 441) mm fn
    · rw [z, pk_uLs, updM_s, hc1 _ i2, hA, hx2, ← lN_add, ← lN_mul]
      congr 2
      rw [← iL_N]
      exact congrArg iL (by omega)
    · rw [pk_uLn z, updM_n _ z]
      exact hc1 j hj
  · rw [sN_upd _ _ i2, sN_upd C2 _ i1, sN_S A2 k]
    have : e * A2 k + (10 - e) * A2 k = 10 * A2 k := by rw [← Nat.add_mul, show e + (10 - e) = 10 by omega]
    omega
  · by_cases z : j = gIx (k / 441) mm fn
    · rw [z]; unfold gIx; omega
    · rw [updM_n _ z] at hj
      by_cases z2 : j = gIx (k / 441 + 1) fm mn
      · rw [z2]; unfold gIx; omega
      · rw [updM_n C2 z2] at hj
        exact h5 j hj
theorem stk {e m n : Nat} (he : e ≤ 10) (hm : m ≤ 20) (hn : n ≤ 20) : (nI e * nI n - ((10 : Int32) - nI e) * nI m).toInt64 = iL (e * n - (10 - e) * m) := by
  have h : ∀ e : Fin 11, ∀ m n : Fin 21, (nI e * nI n - ((10 : Int32) - nI e) * nI m).toInt64 = iL ((e.val : Int) * n.val - (10 - (e.val : Int)) * m.val) := by decide +kernel
  exact h ⟨e, by omega⟩ ⟨m, by omega⟩ ⟨n, by omega⟩
theorem gI_0 {od : Nat → Nat → Nat → Nat} {fw mr : Nat → Nat} {stop : Bool} {g : Nat} {A : Nat → Int64} {A2 : Nat → Nat} {pd0 : Int64} {G : Nat} {C : Nat → Int64} (hC : ∀ j, j < 5733 → C j = 0) : gI od fw mr stop g A A2 pd0 G 0 C (pd0 * 10) := by
  refine ⟨fun φ => ?_, (Int64.add_zero _).symm, fun _ => 0, hC, ?_, fun j hj => absurd rfl hj⟩
  · rw [sL_zero (fun j hj => by rw [hC j hj, Int64.zero_mul])]
    rfl
  · have : ∀ n, sN (fun _ => 0) n = 0 := fun n => by
      induction n with
      | zero => rfl
      | succ n ih => show sN _ n + 0 = 0; rw [ih]
    rw [this]
    exact Nat.zero_le _
/-- after so many games -/
def gJ (od : Nat → Nat → Nat → Nat) (fw mr : Nat → Nat) (stop : Bool) (g m0 n0 J : Nat) (j : Nat) (A : Nat → Int64) (A2 : Nat → Nat) (pd : Int64) : Prop :=
  (∀ k, k < 5733 → A k = lN (A2 k)) ∧ sN A2 5733 ≤ 10 ^ j ∧ (∀ k, A2 k ≠ 0 → k / 441 ≤ j) ∧
  (∀ ψ : Nat → Nat → Nat → Nat → Int64, (∀ i, i < j → ∀ w m n, m ≤ 20 → n ≤ 20 → ψ i w m n = tO od fw mr stop (g + i) (ψ (i + 1)) w m n) → sL (fun k => A k * dk (ψ j) k) 5733 = ψ 0 0 m0 n0) ∧
  ∀ ψ : Nat → Nat → Nat → Nat → Int64, (∀ i, i < j → ∀ w m n, m ≤ 20 → n ≤ 20 → ψ i w m n = iL ((10 ^ (J - 1 - i) : Nat) : Int) * tP od stop (g + i) w m n + tO od fw mr stop (g + i) (ψ (i + 1)) w m n) → pd * iL ((10 ^ (J - j) : Nat) : Int) + sL (fun k => A k * dk (ψ j) k) 5733 = ψ 0 0 m0 n0
theorem dk_c {φ χ : Nat → Nat → Nat → Int64} (h : ∀ w m n, m ≤ 20 → n ≤ 20 → φ w m n = χ w m n) (k : Nat) : dk φ k = dk χ k := h _ _ _ (by omega) (by omega)
theorem sL_mul (f : Nat → Int64) (c : Int64) : ∀ n, sL (fun k => c * f k) n = c * sL f n
  | 0 => Int64.mul_zero.symm
  | n + 1 => by
    show sL (fun k => c * f k) n + c * f n = c * (sL f n + f n)
    rw [sL_mul f c n, Int64.mul_add]
theorem gJ_S {od : Nat → Nat → Nat → Nat} {fw mr : Nat → Nat} {stop : Bool} {g m0 n0 J j : Nat} {A C : Nat → Int64} {A2 : Nat → Nat} {pd pd2 : Int64} (h : gJ od fw mr stop g m0 n0 J j A A2 pd) (hj : j < J) (hI : gI od fw mr stop (g + j) A A2 pd j 5733 C pd2) : ∃ C2, gJ od fw mr stop g m0 n0 J (j + 1) C C2 pd2 := by
  obtain ⟨h1, h2, h3, h4, h5⟩ := h
  obtain ⟨i1, i2, C2, i3, i4, i5⟩ := hI
  refine ⟨C2, i3, by rw [Nat.pow_succ]; omega, i5, fun ψ hψ => ?_, fun ψ hψ => ?_⟩
  · rw [i1 (ψ (j + 1)), ← h4 ψ (fun i hi => hψ i (by omega))]
    exact sL_congr (fun k _ => congrArg (A k * ·) (dk_c (fun w m n hm hn => (hψ j (by omega) w m n hm hn).symm) k))
  · rw [i1 (ψ (j + 1)), ← h5 ψ (fun i hi => hψ i (by omega)), i2]
    have e1 : sL (fun k => A k * dk (ψ j) k) 5733 = iL ((10 ^ (J - 1 - j) : Nat) : Int) * sL (fun k => A k * dk (tP od stop (g + j)) k) 5733 + sL (fun k => A k * dk (tO od fw mr stop (g + j) (ψ (j + 1))) k) 5733 := by
      rw [← sL_mul, ← sL_add]
      refine sL_congr (fun k _ => ?_)
      rw [dk_c (hψ j (by omega)) k]
      show A k * (_ * dk (tP od stop (g + j)) k + dk (tO od fw mr stop (g + j) (ψ (j + 1))) k) = _
      grind
    rw [e1, show J - j = (J - 1 - j) + 1 by omega, show J - (j + 1) = J - 1 - j by omega, Nat.pow_succ, Int.natCast_mul, iL_mul]
    show _ = pd * (_ * 10) + _
    grind
theorem gJ_0 {od : Nat → Nat → Nat → Nat} {fw mr : Nat → Nat} {stop : Bool} {g m0 n0 J : Nat} {A : Nat → Int64} (hm : m0 ≤ 20) (hn : n0 ≤ 20) (hA : ∀ k, k < 5733 → A k = if k = 21 * m0 + n0 then 1 else 0) : gJ od fw mr stop g m0 n0 J 0 A (fun k => if k = 21 * m0 + n0 then 1 else 0) 0 := by
  have hi : gIx 0 m0 n0 = 21 * m0 + n0 := by unfold gIx; omega
  have hs : ∀ φ : Nat → Nat → Nat → Int64, sL (fun k => A k * dk φ k) 5733 = φ 0 m0 n0 := by
    intro φ
    rw [sL_one _ (show 21 * m0 + n0 < 5733 by omega) (fun k hk hkj => by rw [hA k hk, if_neg hkj, Int64.zero_mul])]
    show A (21 * m0 + n0) * dk φ (21 * m0 + n0) = _
    rw [hA _ (by omega), if_pos rfl, ← hi, gIx_d hm hn, Int64.one_mul]
  refine ⟨fun k hk => ?_, ?_, fun k hk => ?_, fun ψ _ => hs (ψ 0), fun ψ _ => ?_⟩
  · rw [hA k hk]
    show _ = lN (if k = 21 * m0 + n0 then 1 else 0)
    split <;> rfl
  · have : ∀ n, sN (fun k => if k = 21 * m0 + n0 then 1 else 0) n = if 21 * m0 + n0 < n then 1 else 0 := by
      intro n
      induction n with
      | zero => rw [if_neg (by omega)]; rfl
      | succ n ih =>
        rw [sN_S _ n, ih]
        split <;> split <;> split <;> omega
    rw [this]
    split <;> omega
  · have : k = 21 * m0 + n0 := by
      by_cases e : k = 21 * m0 + n0
      · exact e
      · exact absurd (if_neg e) hk
    omega
  · rw [hs, Int64.zero_mul, Int64.zero_add]
theorem iL_od (k : Nat) (a b : Int) : iL (k : Int) * iL a + iL (10 - k) * iL b = iL (k * a + (10 - k) * b) := by
  rw [iL_add, iL_mul, iL_mul]
/-- games without an end ahead -/
theorem tO_eG {od : Nat → Nat → Nat → Nat} {fw mr : Nat → Nat} {st : Nat → Nat → Nat → Nat → Option Int} {n g w m o : Nat} (h : st (n + 1) w m o = none) : iL (eG od fw mr st rw_no (n + 1) g w m o) = tO od fw mr false g (fun w m o => iL (eG od fw mr st rw_no n (g + 1) w m o)) w m o := by
  rw [eG_none h]
  unfold tO rw_no
  rw [if_neg (fun z => absurd z.1 (by decide)), iL_od, Int.zero_add]
theorem tO_ends {od : Nat → Nat → Nat → Nat} {fw mr : Nat → Nat} {n g w m o : Nat} : iL (eG od fw mr st_ends rw_no (n + 1) g w m o) = tO od fw mr true g (fun w m o => iL (eG od fw mr st_ends rw_no n (g + 1) w m o)) w m o := by
  unfold tO
  by_cases h : m = 1
  · rw [if_pos ⟨rfl, h⟩]
    show iL _ = 10 * iL (eG od fw mr st_ends rw_no n (g + 1) w m o)
    rw [eG_some (n := n + 1) (v := ((10 ^ (n + 1) : Nat) : Int)) (by unfold st_ends; rw [if_pos h]), eG_some (n := n) (v := ((10 ^ n : Nat) : Int)) (by unfold st_ends; rw [if_pos h]), Nat.pow_succ, Nat.mul_comm, Int.natCast_mul, iL_mul]
    rfl
  · rw [if_neg (fun z => h z.2), eG_none (by unfold st_ends; rw [if_neg h]), iL_od]
    unfold rw_no
    rw [Int.zero_add]
theorem tO_stakes {od : Nat → Nat → Nat → Nat} {fw mr : Nat → Nat} {n g w m o : Nat} : iL (eG od fw mr st_no (rw_st od) (n + 1) g w m o) = iL ((10 ^ n : Nat) : Int) * tP od false g w m o + tO od fw mr false g (fun w m o => iL (eG od fw mr st_no (rw_st od) n (g + 1) w m o)) w m o := by
  rw [eG_none rfl]
  unfold tO tP rw_st
  rw [if_neg (fun z => absurd z.1 (by decide)), if_neg (fun z => absurd z.1 (by decide)), iL_od, ← iL_mul, ← iL_add, Int.add_assoc]
theorem eG_bound {od : Nat → Nat → Nat → Nat} {fw mr : Nat → Nat} {st : Nat → Nat → Nat → Nat → Option Int} {rw : Nat → Nat → Nat → Nat → Int} {B R : Nat} (hod : ∀ m o g, od m o g ≤ 9) (hfw : ∀ m, m ≤ 20 → fw m ≤ 20) (hmr : ∀ m, mr m ≤ 20)
    (hst : ∀ n w m o v, m ≤ 20 → st n w m o = some v → v.natAbs ≤ B * 10 ^ n) (hrw : ∀ n g m o, m ≤ 20 → o ≤ 20 → (rw n g m o).natAbs ≤ R * 10 ^ n) : ∀ n g w m o, m ≤ 20 → o ≤ 20 → (eG od fw mr st rw n g w m o).natAbs ≤ (B + n * R) * 10 ^ n
  | 0, g, w, m, o, hm, ho => by
    show ((st 0 w m o).getD 0).natAbs ≤ _
    cases h : st 0 w m o with
    | none => exact Nat.zero_le _
    | some v =>
      have := hst 0 w m o v hm h
      show v.natAbs ≤ _
      rw [Nat.zero_mul, Nat.add_zero]
      exact this
  | n + 1, g, w, m, o, hm, ho => by
    cases h : st (n + 1) w m o with
    | some v =>
      rw [eG_some h]
      exact Nat.le_trans (hst _ w m o v hm h) (Nat.mul_le_mul_right _ (Nat.le_add_right _ _))
    | none =>
      rw [eG_none h]
      have h1 := eG_bound hod hfw hmr hst hrw n (g + 1) (w + 1) (fw m) (mr o) (hfw m hm) (hmr o)
      have h2 := eG_bound hod hfw hmr hst hrw n (g + 1) w (mr m) (fw o) (hmr m) (hfw o ho)
      have h3 := hrw n g m o hm ho
      have h4 := mix_le (k := od m o g) (Nat.le_trans (hod m o g) (by decide)) h1 h2
      have h5 : (od m o g * eG od fw mr st rw n (g + 1) (w + 1) (fw m) (mr o)).natAbs = od m o g * (eG od fw mr st rw n (g + 1) (w + 1) (fw m) (mr o)).natAbs := by rw [Int.natAbs_mul, Int.natAbs_natCast]
      have h6 : ((10 - od m o g : Int) * eG od fw mr st rw n (g + 1) w (mr m) (fw o)).natAbs = (10 - od m o g) * (eG od fw mr st rw n (g + 1) w (mr m) (fw o)).natAbs := by
        rw [Int.natAbs_mul]
        congr 1
        have := hod m o g
        omega
      have h7 : (B + (n + 1) * R) * 10 ^ (n + 1) = 10 * ((B + n * R) * 10 ^ n) + 10 * (R * 10 ^ n) := by
        rw [Nat.pow_succ, show B + (n + 1) * R = (B + n * R) + R by rw [Nat.add_mul, Nat.one_mul, Nat.add_assoc], Nat.add_mul, Nat.mul_comm (10 ^ n) 10, Nat.mul_left_comm, Nat.mul_left_comm R]
      have h8 := Int.natAbs_add_le (rw n g m o + od m o g * eG od fw mr st rw n (g + 1) (w + 1) (fw m) (mr o)) ((10 - od m o g : Int) * eG od fw mr st rw n (g + 1) w (mr m) (fw o))
      have h9 := Int.natAbs_add_le (rw n g m o) (od m o g * eG od fw mr st rw n (g + 1) (w + 1) (fw m) (mr o))
      omega
