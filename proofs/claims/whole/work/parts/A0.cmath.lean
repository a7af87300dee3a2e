/-! Clouds: pairs of men with their parts. -/
theorem ki_13 : (13 : Int32) = nI 13 := rfl
def dc (φ : Nat → Nat → Nat → Int64) (k : Nat) : Int64 := φ (k % 13) (k / 13 / 20 + 1) (k / 13 % 20 + 1)
def FW (W : Nat → Int64) (φ : Nat → Nat → Nat → Int64) : Int64 := sL (fun k => W k * dc φ k) 5200
theorem FW_upd (W : Nat → Int64) (φ : Nat → Nat → Nat → Int64) (x : Int64) {u w : Nat} (hu : u < 400) (hw : w < 13) : FW (vp_updL W (u * 13 + w) (W (u * 13 + w) + x)) φ = FW W φ + x * φ w (u / 20 + 1) (u % 20 + 1) := by
  unfold FW
  rw [sL_upd W (dc φ) x (show u * 13 + w < 5200 by omega)]
  unfold dc
  rw [show (u * 13 + w) % 13 = w by omega, show (u * 13 + w) / 13 = u by omega]
theorem FW_z {W : Nat → Int64} {φ : Nat → Nat → Nat → Int64} (h : ∀ k, k < 5200 → W k = 0) : FW W φ = 0 := sL_zero (fun k hk => by rw [h k hk, Int64.zero_mul])
theorem FW_c {W : Nat → Int64} {φ χ : Nat → Nat → Nat → Int64} (h : ∀ k, k < 5200 → W k ≠ 0 → dc φ k = dc χ k) : FW W φ = FW W χ := by
  unfold FW
  refine sL_congr (fun k hk => ?_)
  by_cases z : W k = 0
  · show W k * _ = W k * _
    rw [z, Int64.zero_mul, Int64.zero_mul]
  · show W k * _ = W k * _
    rw [h k hk z]
theorem sL_app (g : Nat → Int64) (a : Nat) : ∀ b, sL g (a + b) = sL g a + sL (fun w => g (a + w)) b
  | 0 => (Int64.add_zero _).symm
  | b + 1 => by
    show sL g (a + b) + g (a + b) = sL g a + (sL (fun w => g (a + w)) b + g (a + b))
    rw [sL_app g a b, Int64.add_assoc]
theorem sL_nest (g : Nat → Int64) : ∀ n, sL g (n * 13) = sL (fun p => sL (fun w => g (p * 13 + w)) 13) n
  | 0 => rfl
  | n + 1 => by
    rw [show (n + 1) * 13 = n * 13 + 13 by omega, sL_app g (n * 13) 13, sL_nest g n]
    rfl
def cI (sz : Nat) (P lb : Nat → Nat) (W : Nat → Int64) : Prop := (∀ p, p < 400 → lb p ≤ 1) ∧ sN lb 400 = sz ∧ (∀ j, j < sz → P j < 400 ∧ lb (P j) = 1) ∧ (∀ p, p < 400 → lb p = 1 → ∃ j, j < sz ∧ P j = p) ∧ (∀ k, k < 5200 → lb (k / 13) = 0 → W k = 0) ∧ ∀ f : Nat → Int64, sL (fun p => if lb p = 1 then f p else 0) 400 = sL (fun j => f (P j)) sz
theorem sN_max {f : Nat → Nat} : ∀ {n : Nat}, (∀ k, k < n → f k ≤ 1) → sN f n ≤ n
  | 0, _ => Nat.le_refl _
  | n + 1, h => by
    have h1 := sN_max (f := f) (n := n) (fun k hk => h k (by omega))
    have h2 := h n (by omega)
    rw [sN_S]
    omega
theorem sN_zero {f : Nat → Nat} : ∀ {n : Nat}, (∀ k, k < n → f k = 0) → sN f n = 0
  | 0, _ => rfl
  | n + 1, h => by
    rw [sN_S, sN_zero (f := f) (n := n) (fun k hk => h k (by omega)), h n (by omega)]
theorem cI.le {sz : Nat} {P lb : Nat → Nat} {W : Nat → Int64} (h : cI sz P lb W) : sz ≤ 400 := by
  rw [← h.2.1]
  exact sN_max h.1
theorem cI.set {sz : Nat} {P lb : Nat → Nat} {W : Nat → Int64} (h : cI sz P lb W) {p w : Nat} {x : Int64} (hw : w < 13) (hl : lb p = 1) : cI sz P lb (vp_updL W (p * 13 + w) x) := by
  obtain ⟨h1, h2, h3, h4, h5, h6⟩ := h
  refine ⟨h1, h2, h3, h4, fun k hk hz => ?_, h6⟩
  by_cases e : k = p * 13 + w
  · subst e
    rw [show (p * 13 + w) / 13 = p by omega] at hz
    omega
  · rw [pk_uLn e]
    exact h5 k hk hz
theorem sL_ext1 (f : Nat → Int64) (lb : Nat → Nat) {p : Nat} (hl : lb p = 0) : ∀ {n : Nat}, p < n → sL (fun q => if updM lb p 1 q = 1 then f q else 0) n = sL (fun q => if lb q = 1 then f q else 0) n + f p
  | n + 1, hp => by
    rw [sL_S _ n, sL_S _ n]
    by_cases e : p = n
    · subst e
      rw [updM_s, if_pos rfl, hl, if_neg (by decide), Int64.add_zero]
      congr 1
      refine sL_congr (fun k hk => ?_)
      rw [updM_n _ (show k ≠ p by omega)]
    · rw [sL_ext1 f lb hl (n := n) (by omega), updM_n _ (show n ≠ p from fun z => e z.symm)]
      rw [Int64.add_assoc, Int64.add_assoc, Int64.add_comm (f p)]
theorem cI.add {sz : Nat} {P lb : Nat → Nat} {W : Nat → Int64} (h : cI sz P lb W) {p : Nat} (hp : p < 400) (hl : lb p = 0) : cI (sz + 1) (updM P sz p) (updM lb p 1) W ∧ sz < 400 := by
  obtain ⟨h1, h2, h3, h4, h5, h6⟩ := h
  have hs : sN (updM lb p 1) 400 = sz + 1 := by
    have := sN_upd lb 1 hp
    rw [hl, h2] at this
    exact this
  have hm : ∀ q, q < 400 → updM lb p 1 q ≤ 1 := fun q hq => by
    by_cases e : q = p
    · rw [e, updM_s]; exact Nat.le_refl _
    · rw [updM_n _ e]; exact h1 q hq
  have hlt : sz + 1 ≤ 400 := by
    rw [← hs]
    exact sN_max hm
  refine ⟨⟨hm, hs, fun j hj => ?_, fun q hq hq1 => ?_, fun k hk hz => ?_, fun f => ?_⟩, by omega⟩
  · by_cases e : j = sz
    · subst e
      rw [updM_s]
      exact ⟨hp, updM_s _ _ _⟩
    · rw [updM_n _ e]
      obtain ⟨z1, z2⟩ := h3 j (by omega)
      exact ⟨z1, by rw [updM_n _ (fun z => by rw [z, hl] at z2; cases z2)]; exact z2⟩
  · by_cases e : q = p
    · subst e
      exact ⟨sz, Nat.lt_succ_self _, updM_s _ _ _⟩
    · rw [updM_n _ e] at hq1
      obtain ⟨j, hj, hj2⟩ := h4 q hq hq1
      exact ⟨j, by omega, by rw [updM_n _ (by omega)]; exact hj2⟩
  · by_cases e : k / 13 = p
    · rw [e, updM_s] at hz
      cases hz
    · rw [updM_n _ e] at hz
      exact h5 k hk hz
  · rw [sL_ext1 f lb hl hp, h6 f, sL_S _ sz, updM_s]
    congr 1
    exact sL_congr (fun j hj => by rw [updM_n _ (by omega)])
/-- a sum over all is one over the listed -/
theorem cI.sum {sz : Nat} {P lb : Nat → Nat} {W : Nat → Int64} (h : cI sz P lb W) (g : Nat → Int64) : sL (fun k => W k * g k) 5200 = sL (fun j => sL (fun w => W (P j * 13 + w) * g (P j * 13 + w)) 13) sz := by
  rw [← h.2.2.2.2.2 (fun p => sL (fun w => W (p * 13 + w) * g (p * 13 + w)) 13), show (5200 : Nat) = 400 * 13 from rfl, sL_nest]
  refine sL_congr (fun p hp => ?_)
  show sL (fun w => W (p * 13 + w) * g (p * 13 + w)) 13 = if lb p = 1 then _ else 0
  by_cases e : lb p = 1
  · rw [if_pos e]
  · rw [if_neg e]
    have := h.1 p hp
    exact sL_zero (fun w hw => by rw [h.2.2.2.2.1 (p * 13 + w) (by omega) (by rw [show (p * 13 + w) / 13 = p by omega]; omega), Int64.zero_mul])
/-- a cloud lies at c -/
def cCl (h : mH) (c sz : Nat) (P lb : Nat → Nat) (W : Nat → Int64) : Prop := h c = .inr (1, [.ref (c + 1), .int (nI sz), .ref (c + 2), .ref (c + 3)]) ∧ (∃ pf, h (c + 1) = .inl (0, 400, .inl pf) ∧ ∀ j, j < sz → pf j = nI (P j)) ∧ (∃ lf, h (c + 2) = .inl (2, 400, .inl lf) ∧ ∀ p, p < 400 → lf p = nI (lb p)) ∧ h (c + 3) = .inl (1, 5200, .inr (.inl W)) ∧ cI sz P lb W
theorem cCl.c {h h2 : mH} {c sz : Nat} {P lb : Nat → Nat} {W : Nat → Int64} (x : cCl h c sz P lb W) (hh : ∀ a, c ≤ a → a ≤ c + 3 → h2 a = h a) : cCl h2 c sz P lb W := by
  obtain ⟨x1, ⟨pf, x2, x3⟩, ⟨lf, x4, x5⟩, x6, x7⟩ := x
  exact ⟨(hh c (by omega) (by omega)).trans x1, ⟨pf, (hh _ (by omega) (by omega)).trans x2, x3⟩, ⟨lf, (hh _ (by omega) (by omega)).trans x4, x5⟩, (hh _ (by omega) (by omega)).trans x6, x7⟩
def cZ (h : mH) (c : Nat) : Prop := ∃ P lb W, cCl h c 0 P lb W ∧ ∀ k, k < 5200 → W k = 0
theorem cZ.c {h h2 : mH} {c : Nat} (x : cZ h c) (hh : ∀ a, c ≤ a → a ≤ c + 3 → h2 a = h a) : cZ h2 c := by
  obtain ⟨P, lb, W, x1, x2⟩ := x
  exact ⟨P, lb, W, x1.c hh, x2⟩
/-- nothing is in a cloud -/
theorem cI_0 {lb P : Nat → Nat} {W : Nat → Int64} (hl : ∀ p, p < 400 → lb p = 0) (hW : ∀ k, k < 5200 → W k = 0) : cI 0 P lb W := by
  refine ⟨fun p hp => ?_, sN_zero hl, fun j hj => absurd hj (Nat.not_lt_zero _), fun p hp h1 => ?_, fun k hk _ => hW k hk, fun f => ?_⟩
  · rw [hl p hp]
    exact Nat.zero_le _
  · rw [hl p hp] at h1
    exact absurd h1 (by decide)
  · refine sL_zero (fun p hp => ?_)
    show (if lb p = 1 then f p else 0) = 0
    rw [hl p hp, if_neg (by decide)]
def pq (m o : Nat) : Nat := (m - 1) * 20 + (o - 1)
theorem pq_ok {m o : Nat} (hm : 1 ≤ m ∧ m ≤ 20) (ho : 1 ≤ o ∧ o ≤ 20) : pq m o < 400 ∧ pq m o / 20 + 1 = m ∧ pq m o % 20 + 1 = o := by
  unfold pq
  omega
/-- one game on, carried back -/
def tC (cnt : Bool) (od : Nat → Nat → Nat → Nat) (fw mr : Nat → Nat) (g : Nat) (φ : Nat → Nat → Nat → Int64) : Nat → Nat → Nat → Int64 := fun w m o => lN (od m o g) * φ (cond cnt (w + 1) 0) (fw m) (mr o) + lN (10 - od m o g) * φ w (mr m) (fw o)
/-- none has won more -/
def cS (W : Nat → Int64) (G : Nat) : Prop := ∀ k, k < 5200 → W k ≠ 0 → k % 13 ≤ G
theorem cS_upd {W : Nat → Int64} {G u w : Nat} {x : Int64} (h : cS W G) (hw : w ≤ G) (h13 : w < 13) : cS (vp_updL W (u * 13 + w) x) G := by
  intro k hk hz
  by_cases e : k = u * 13 + w
  · subst e
    omega
  · rw [pk_uLn e] at hz
    exact h k hk hz
theorem sL_short {f : Nat → Int64} {a : Nat} : ∀ {n : Nat}, a ≤ n → (∀ k, a ≤ k → k < n → f k = 0) → sL f n = sL f a
  | 0, ha, _ => by rw [show a = 0 by omega]
  | n + 1, ha, h => by
    by_cases e : a = n + 1
    · rw [e]
    · rw [sL_S f n, h n (by omega) (by omega), Int64.add_zero]
      exact sL_short (by omega) (fun k h1 h2 => h k h1 (by omega))
