/-! By program (wip/whole/book*.py) and hand. -/
/-- the duel's objects: where the clouds lie by turns -/
def dW (h : mH) (p q g pl : Nat) (cnt : Bool) (W : Nat → Int64) : Prop := ∃ a b sz P lb, hAB a b ∧ rDu h a b p q g pl cnt ∧ cCl h a sz P lb W ∧ cZ h b
def rDuS (h : mH) : Prop := ∃ a b, hAB a b ∧ (∃ (v : Value) (x1 x2 x3 x4 x5 : Int32), h 53 = .inr (2, [.ref a, .ref b, v, .int x1, .int x2, .int x3, .int x4, .int x5])) ∧ (∃ sz P lb W, cCl h a sz P lb W) ∧ cZ h b
theorem dW.idle {h : mH} {p q g pl : Nat} {cnt : Bool} {W : Nat → Int64} (x : dW h p q g pl cnt W) : rDuS h := by
  obtain ⟨a, b, sz, P, lb, x1, x2, x3, x4⟩ := x
  exact ⟨a, b, x1, ⟨_, _, _, _, _, _, x2⟩, ⟨_, _, _, _, x3⟩, x4⟩
theorem dW.sh {h : mH} {p q g pl : Nat} {cnt : Bool} {W : Nat → Int64} (x : dW h p q g pl cnt W) : ∃ fs, h 53 = .inr (2, fs) := by
  obtain ⟨a, b, sz, P, lb, x1, x2, x3, x4⟩ := x
  exact ⟨_, x2⟩
theorem rDuS.sh {h : mH} (x : rDuS h) : ∃ fs, h 53 = .inr (2, fs) := by
  obtain ⟨a, b, ab, ⟨v, x1, x2, x3, x4, x5, e⟩, -⟩ := x
  exact ⟨_, e⟩
theorem hAB.r {a b : Nat} (x : hAB a b) : 54 ≤ a ∧ a + 3 ≤ 61 ∧ 54 ≤ b ∧ b + 3 ≤ 61 ∧ (a + 3 < b ∨ b + 3 < a) := by
  rcases x with ⟨rfl, rfl⟩ | ⟨rfl, rfl⟩ <;> decide
theorem hAB.sw {a b : Nat} (x : hAB a b) : hAB b a := by
  rcases x with ⟨rfl, rfl⟩ | ⟨rfl, rfl⟩
  · exact Or.inr ⟨rfl, rfl⟩
  · exact Or.inl ⟨rfl, rfl⟩
theorem y_begins (d : Nat) (h : mH) (Q : Option Value → mH → Prop) (i : Nat → Int32) (iv : Value) (s : Nat → Int32) (l : List Tok) (le mo : Nat) (hle : le ≤ 99) (hmo : mo ≤ 99) (B : rBs 21 h i iv s l le mo) (mm : Nat → Nat) (M : rMn 21 h mm) (p q g : Nat) (hp : p < 5) (hq : q < 5) (hi1 : i 1 = nI g) (hmp : 1 ≤ mm p ∧ mm p ≤ 20) (hmq : 1 ≤ mm q ∧ mm q ≤ 20) (cnt : Bool) (S : rDuS h) (K : ∀ h2 W2, (∀ c, c < 53 ∨ 61 < c → h2 c = h c) → dW h2 p q g 0 cnt W2 → (∀ φ : Nat → Nat → Nat → Int64, FW W2 φ = φ 0 (mm p) (mm q)) → cS W2 0 → Q none h2) : mT0 (d + 2) z_X2_begins 0 (m_init z_X2_begins [.ref 53, .ref 21, .int (nI p), .int (nI q), .int (bI cnt)]) [] h Q := by
  obtain ⟨a, b, ab, D0, ⟨sz, P, lb, W, C0⟩, Z0⟩ := S
  have ab2 := ab
  rcases ab with ⟨rfl, rfl⟩ | ⟨rfl, rfl⟩
  · exact x_begins_54 d h Q i iv s l le mo hle hmo B mm M p q g hp hq hi1 hmp hmq cnt sz P lb W D0 C0 Z0 (fun h2 sz2 P2 lb2 W2 f2 D2 C2 Z2 hF hS => K h2 W2 f2 ⟨_, _, _, _, _, ab2, D2, C2, Z2⟩ hF hS)
  · exact x_begins_58 d h Q i iv s l le mo hle hmo B mm M p q g hp hq hi1 hmp hmq cnt sz P lb W D0 C0 Z0 (fun h2 sz2 P2 lb2 W2 f2 D2 C2 Z2 hF hS => K h2 W2 f2 ⟨_, _, _, _, _, ab2, D2, C2, Z2⟩ hF hS)
theorem y_goesOn (d : Nat) (Q : Option Value → mH → Prop) (i : Nat → Int32) (iv : Value) (s : Nat → Int32) (l : List Tok) (le mo : Nat) (hle : le ≤ 99) (hmo : mo ≤ 99) (p q g pl : Nat) (hp : p < 5) (hq : q < 5) (hg : g < 20000) (hpl : pl ≤ 11) (cnt : Bool) (W : Nat → Int64) (h0 : mH) (B0 : rBs 21 h0 i iv s l le mo) (D : dW h0 p q g pl cnt W) (hS0 : cS W (cond cnt pl 0)) (K : ∀ h2 W2, (∀ c, c ≠ 30 → c < 53 ∨ 61 < c → h2 c = h0 c) → (∃ f, h2 30 = .inl (0, 5, .inl f)) → dW h2 p q (g + 1) (pl + 1) cnt W2 → (∀ φ : Nat → Nat → Nat → Int64, FW W2 φ = FW W (tC cnt (a_od s l p q) (n_few le) (n_mor mo) g φ)) → cS W2 (cond cnt (pl + 1) 0) → Q none h2) : mT0 (d + 6) z_X2_goesOn 0 (m_init z_X2_goesOn [.ref 53]) [] h0 Q := by
  obtain ⟨a, b, sz, P, lb, ab, D0, C0, Z0⟩ := D
  have ab2 := ab.sw
  rcases ab with ⟨rfl, rfl⟩ | ⟨rfl, rfl⟩
  · exact x_goesOn_54 d Q i iv s l le mo hle hmo p q g pl hp hq hg hpl cnt sz P lb W h0 B0 D0 C0 hS0 Z0 (fun h2 sz2 P2 lb2 W2 f2 h9 D2 C2 Z2 hF hS => K h2 W2 f2 h9 ⟨_, _, _, _, _, ab2, D2, C2, Z2⟩ hF hS)
  · exact x_goesOn_58 d Q i iv s l le mo hle hmo p q g pl hp hq hg hpl cnt sz P lb W h0 B0 D0 C0 hS0 Z0 (fun h2 sz2 P2 lb2 W2 f2 h9 D2 C2 Z2 hF hS => K h2 W2 f2 h9 ⟨_, _, _, _, _, ab2, D2, C2, Z2⟩ hF hS)
theorem y_takesWon (d : Nat) (Q : Option Value → mH → Prop) (p q g pl : Nat) (cnt : Bool) (W : Nat → Int64) (h0 : mH) (hN0 : 87 ≤ m_nx h0) (D : dW h0 p q g pl cnt W) (w : Nat) (hw13 : w < 13) (K : ∀ h2 S W2, (∀ c, c < 54 ∨ 61 < c → h2 c = h0 c) → dW h2 p q g pl cnt W2 → (∀ (φ : Nat → Nat → Nat → Int64) (c : Int64), (∀ m o, φ w m o = c) → S * c + FW W2 φ = FW W φ) → (∀ k, k < 5200 → W2 k ≠ 0 → W k ≠ 0) → (∀ k, k < 5200 → k % 13 = w → W2 k = 0) → Q (some (.long S)) h2) : mT0 (d + 1) z_X2_takesWon 0 (m_init z_X2_takesWon [.ref 53, .int (nI w)]) [] h0 Q := by
  obtain ⟨a, b, sz, P, lb, ab, D0, C0, Z0⟩ := D
  have ab2 := ab
  rcases ab with ⟨rfl, rfl⟩ | ⟨rfl, rfl⟩
  · exact x_takesWon_54 d Q p q g pl cnt sz P lb W h0 hN0 D0 C0 w hw13 (fun h2 S W2 f2 C2 hV hZ hY => K h2 S W2 (fun c z => f2 c (by omega)) ⟨_, _, _, _, _, ab2, (f2 53 (by decide)).trans D0, C2, Z0.c (fun c z1 z2 => f2 c (by omega))⟩ hV hZ hY)
  · exact x_takesWon_58 d Q p q g pl cnt sz P lb W h0 hN0 D0 C0 w hw13 (fun h2 S W2 f2 C2 hV hZ hY => K h2 S W2 (fun c z => f2 c (by omega)) ⟨_, _, _, _, _, ab2, (f2 53 (by decide)).trans D0, C2, Z0.c (fun c z1 z2 => f2 c (by omega))⟩ hV hZ hY)
theorem y_takesEnded (d : Nat) (Q : Option Value → mH → Prop) (p q g pl : Nat) (cnt : Bool) (W : Nat → Int64) (h0 : mH) (hN0 : 87 ≤ m_nx h0) (D : dW h0 p q g pl cnt W) (K : ∀ h2 S W2, (∀ c, c < 54 ∨ 61 < c → h2 c = h0 c) → dW h2 p q g pl cnt W2 → (∀ (φ : Nat → Nat → Nat → Int64) (c : Int64), (∀ o, φ 0 1 o = c) → S * c + FW W2 φ = FW W φ) → (∀ k, k < 5200 → W2 k ≠ 0 → W k ≠ 0) → (∀ k, k < 5200 → (k % 13 = 0 ∧ k / 13 / 20 + 1 = 1) → W2 k = 0) → Q (some (.long S)) h2) : mT0 (d + 1) z_X2_takesEnded 0 (m_init z_X2_takesEnded [.ref 53]) [] h0 Q := by
  obtain ⟨a, b, sz, P, lb, ab, D0, C0, Z0⟩ := D
  have ab2 := ab
  rcases ab with ⟨rfl, rfl⟩ | ⟨rfl, rfl⟩
  · exact x_takesEnded_54 d Q p q g pl cnt sz P lb W h0 hN0 D0 C0 (fun h2 S W2 f2 C2 hV hZ hY => K h2 S W2 (fun c z => f2 c (by omega)) ⟨_, _, _, _, _, ab2, (f2 53 (by decide)).trans D0, C2, Z0.c (fun c z1 z2 => f2 c (by omega))⟩ hV hZ hY)
  · exact x_takesEnded_58 d Q p q g pl cnt sz P lb W h0 hN0 D0 C0 (fun h2 S W2 f2 C2 hV hZ hY => K h2 S W2 (fun c z => f2 c (by omega)) ⟨_, _, _, _, _, ab2, (f2 53 (by decide)).trans D0, C2, Z0.c (fun c z1 z2 => f2 c (by omega))⟩ hV hZ hY)
theorem y_menOfOne (d : Nat) (Q : Option Value → mH → Prop) (p q g pl : Nat) (cnt : Bool) (W : Nat → Int64) (h : mH) (hN : 87 ≤ m_nx h) (D : dW h p q g pl cnt W) (hS0 : cS W 0) (K : Q (some (.long (FW W (fun _ m _ => lN m)))) h) : mT0 (d + 1) z_X2_menOfOne 0 (m_init z_X2_menOfOne [.ref 53]) [] h Q := by
  obtain ⟨a, b, sz, P, lb, ab, D0, C0, Z0⟩ := D
  rcases ab with ⟨rfl, rfl⟩ | ⟨rfl, rfl⟩
  · exact x_menOfOne_54 d Q p q g pl cnt sz P lb W h hN D0 C0 hS0 K
  · exact x_menOfOne_58 d Q p q g pl cnt sz P lb W h hN D0 C0 hS0 K
theorem y_stakeOfOne (d : Nat) (Q : Option Value → mH → Prop) (i : Nat → Int32) (iv : Value) (s : Nat → Int32) (l : List Tok) (le mo : Nat) (hle : le ≤ 99) (hmo : mo ≤ 99) (p q g pl : Nat) (hp : p < 5) (hq : q < 5) (hg : g < 20000) (cnt : Bool) (W : Nat → Int64) (h0 : mH) (B0 : rBs 21 h0 i iv s l le mo) (D : dW h0 p q g pl cnt W) (hS0 : cS W 0) (K : ∀ h2, (∀ c, c ≠ 30 → h2 c = h0 c) → (∃ f, h2 30 = .inl (0, 5, .inl f)) → dW h2 p q g pl cnt W → Q (some (.long (FW W (stW (a_od s l p q) g)))) h2) : mT0 (d + 4) z_X2_stakeOfOne 0 (m_init z_X2_stakeOfOne [.ref 53]) [] h0 Q := by
  obtain ⟨a, b, sz, P, lb, ab, D0, C0, Z0⟩ := D
  have ab2 := ab
  rcases ab with ⟨rfl, rfl⟩ | ⟨rfl, rfl⟩
  · exact x_stakeOfOne_54 d Q i iv s l le mo hle hmo p q g pl hp hq hg cnt sz P lb W h0 B0 D0 C0 hS0 (fun h2 f2 h9 => K h2 f2 h9 ⟨_, _, _, _, _, ab2, (f2 53 (by decide)).trans D0, C0.c (fun c z1 z2 => f2 c (by omega)), Z0.c (fun c z1 z2 => f2 c (by omega))⟩)
  · exact x_stakeOfOne_58 d Q i iv s l le mo hle hmo p q g pl hp hq hg cnt sz P lb W h0 B0 D0 C0 hS0 (fun h2 f2 h9 => K h2 f2 h9 ⟨_, _, _, _, _, ab2, (f2 53 (by decide)).trans D0, C0.c (fun c z1 z2 => f2 c (by omega)), Z0.c (fun c z1 z2 => f2 c (by omega))⟩)
theorem FW_none {W : Nat → Int64} {φ : Nat → Nat → Nat → Int64} (h : ∀ k, k < 5200 → W k ≠ 0 → dc φ k = 0) : FW W φ = 0 := sL_zero (fun k hk => by
  show W k * dc φ k = 0
  by_cases z : W k = 0
  · rw [z, Int64.zero_mul]
  · rw [h k hk z, Int64.mul_zero])
theorem FW_lin (W : Nat → Int64) (c : Int64) (φ χ : Nat → Nat → Nat → Int64) : FW W (fun w m o => c * φ w m o + χ w m o) = c * FW W φ + FW W χ := by
  unfold FW
  rw [← sL_mul, ← sL_add]
  refine sL_congr (fun k _ => ?_)
  show W k * (c * dc φ k + dc χ k) = c * (W k * dc φ k) + W k * dc χ k
  grind
theorem lN_pow (n : Nat) : lN (10 ^ (n + 1)) = lN (10 ^ n) * 10 := by
  rw [Nat.pow_succ, ← lN_mul]
  rfl
theorem x_wi_L (d : Nat) (Q : Option Value → mH → Prop) (it : Int32) (i : Nat → Int32) (iv : Value) (s : Nat → Int32) (l : List Tok) (le mo : Nat) (hle : le ≤ 99) (hmo : mo ≤ 99) (p q g N : Nat) (hp : p < 5) (hq : q < 5) (hg : g ≤ 9999) (h0 : mH) (hX0 : h0 20 = .inr (9, xObj it)) (B0 : rBs 21 h0 i iv s l le mo) (T : Int64) (hN12 : N ≤ 12) (w0 : Nat) (part : Int32) (K : ∀ h2 W2, (∀ c, c ≠ 30 → c < 53 ∨ 61 < c → h2 c = h0 c) → (∃ f, h2 30 = .inl (0, 5, .inl f)) → dW h2 p q (g + N) N true W2 → FW W2 (fun w m o => iL (eG (a_od s l p q) (n_few le) (n_mor mo) (st_wins w0) rw_no (N - N) (g + N) w m o)) = T → mT0 (d + 7) z_X9_wins 78 [some (.ref 20), some (.int (nI p)), some (.int (nI q)), some (.int (nI N)), some (.int (nI w0)), some (.int part), some (.int (nI N))] [] h2 Q) : ∀ (r k : Nat) (h : mH) (W : Nat → Int64), k + r = N → (∀ c, c ≠ 30 → c < 53 ∨ 61 < c → h c = h0 c) → (∃ f, h 30 = .inl (0, 5, .inl f)) → dW h p q (g + k) k true W → FW W (fun w m o => iL (eG (a_od s l p q) (n_few le) (n_mor mo) (st_wins w0) rw_no (N - k) (g + k) w m o)) = T → cS W k → mT0 (d + 7) z_X9_wins 59 [some (.ref 20), some (.int (nI p)), some (.int (nI q)), some (.int (nI N)), some (.int (nI w0)), some (.int part), some (.int (nI k))] [] h Q := by
  intro r
  induction r with
  | zero =>
    intro k h W hk fh h9 D hF hS
    have B := B0.d5 (h2 := h) (fun c z1 z2 => fh c z1 (by omega)) h9
    obtain ⟨hR, hN, -, -, -, -, -, -⟩ := id B
    have hX : h 20 = _ := (fh 20 (by decide) (by decide)).trans hX0
    have hodb : ∀ m o g, a_od s l p q m o g ≤ 9 := fun m o g => (a_od_n s l p q m o g).2.2
    obtain ⟨fs53, hD53⟩ := D.sh
    iterate 2 refine mT_s rfl rfl ?_
    refine mT_icmp_ge rfl (fun _ => ?_) (fun c => absurd (nI_le (a := N) (b := k) (by omega) (by omega)) c)
    obtain rfl : k = N := by omega
    exact K h W fh h9 D hF
  | succ r ih =>
    intro k h W hk fh h9 D hF hS
    have B := B0.d5 (h2 := h) (fun c z1 z2 => fh c z1 (by omega)) h9
    obtain ⟨hR, hN, -, -, -, -, -, -⟩ := id B
    have hX : h 20 = _ := (fh 20 (by decide) (by decide)).trans hX0
    have hodb : ∀ m o g, a_od s l p q m o g ≤ 9 := fun m o g => (a_od_n s l p q m o g).2.2
    obtain ⟨fs53, hD53⟩ := D.sh
    iterate 2 refine mT_s rfl rfl ?_
    refine mT_icmp_ge rfl (fun c => absurd c (nI_ge (a := k) (b := N) (by omega) (by omega))) (fun _ => ?_)
    refine mT_s rfl rfl ?_
    (apply mT_getf; (case hc => rfl); (case ha => first | rfl | assumption); (case hf => first | rfl | assumption))
    (apply mT_inv; (case hc => rfl); (case hd => rfl); (case hb => first | rfl | assumption); (case hg => rfl))
    refine y_goesOn d _ i iv s l le mo hle hmo p q (g + k) k hp hq (by omega) (by omega) true W h B D hS (fun h2 W2 f2 h92 D2 hF2 hS2 => ?_)
    have hX2 : h2 20 = _ := (f2 20 (by decide) (by decide)).trans hX
    have hN2 : 87 ≤ m_nx h2 := nx_eq (f2 0 (by decide) (by decide)) hN
    have fh2 : ∀ c, c ≠ 30 → c < 53 ∨ 61 < c → h2 c = h0 c := fun c z1 z2 => (f2 c z1 z2).trans (fh c z1 z2)
    obtain ⟨fs532, hD532⟩ := D2.sh
    iterate 2 refine mT_s rfl rfl ?_
    rw [nI_1]
    refine ih (k + 1) h2 W2 (by omega) fh2 h92 D2 ?_ hS2
    rw [hF2, ← hF]
    refine congrArg (FW W) ?_
    funext w m o
    show _ = iL (eG _ _ _ _ _ (N - k) (g + k) w m o)
    rw [show N - k = (N - (k + 1)) + 1 by omega, tC_eG hodb rfl]
    rfl
theorem x_me_L (d : Nat) (Q : Option Value → mH → Prop) (it : Int32) (i : Nat → Int32) (iv : Value) (s : Nat → Int32) (l : List Tok) (le mo : Nat) (hle : le ≤ 99) (hmo : mo ≤ 99) (p q g N : Nat) (hp : p < 5) (hq : q < 5) (hg : g ≤ 9999) (h0 : mH) (hX0 : h0 20 = .inr (9, xObj it)) (B0 : rBs 21 h0 i iv s l le mo) (T : Int64) (hN12 : N ≤ 12) (part : Int32) (K : ∀ h2 W2, (∀ c, c ≠ 30 → c < 53 ∨ 61 < c → h2 c = h0 c) → (∃ f, h2 30 = .inl (0, 5, .inl f)) → dW h2 p q (g + N) N false W2 → FW W2 (fun w m o => iL (eG (a_od s l p q) (n_few le) (n_mor mo) st_mean rw_no (N - N) (g + N) 0 m o)) = T → cS W2 0 → mT0 (d + 7) z_X9_mean 67 [some (.ref 20), some (.int (nI p)), some (.int (nI q)), some (.int (nI N)), some (.int part), some (.int (nI N))] [] h2 Q) : ∀ (r k : Nat) (h : mH) (W : Nat → Int64), k + r = N → (∀ c, c ≠ 30 → c < 53 ∨ 61 < c → h c = h0 c) → (∃ f, h 30 = .inl (0, 5, .inl f)) → dW h p q (g + k) k false W → FW W (fun w m o => iL (eG (a_od s l p q) (n_few le) (n_mor mo) st_mean rw_no (N - k) (g + k) 0 m o)) = T → cS W 0 → mT0 (d + 7) z_X9_mean 48 [some (.ref 20), some (.int (nI p)), some (.int (nI q)), some (.int (nI N)), some (.int part), some (.int (nI k))] [] h Q := by
  intro r
  induction r with
  | zero =>
    intro k h W hk fh h9 D hF hS
    have B := B0.d5 (h2 := h) (fun c z1 z2 => fh c z1 (by omega)) h9
    obtain ⟨hR, hN, -, -, -, -, -, -⟩ := id B
    have hX : h 20 = _ := (fh 20 (by decide) (by decide)).trans hX0
    have hodb : ∀ m o g, a_od s l p q m o g ≤ 9 := fun m o g => (a_od_n s l p q m o g).2.2
    obtain ⟨fs53, hD53⟩ := D.sh
    iterate 2 refine mT_s rfl rfl ?_
    refine mT_icmp_ge rfl (fun _ => ?_) (fun c => absurd (nI_le (a := N) (b := k) (by omega) (by omega)) c)
    obtain rfl : k = N := by omega
    exact K h W fh h9 D hF hS
  | succ r ih =>
    intro k h W hk fh h9 D hF hS
    have B := B0.d5 (h2 := h) (fun c z1 z2 => fh c z1 (by omega)) h9
    obtain ⟨hR, hN, -, -, -, -, -, -⟩ := id B
    have hX : h 20 = _ := (fh 20 (by decide) (by decide)).trans hX0
    have hodb : ∀ m o g, a_od s l p q m o g ≤ 9 := fun m o g => (a_od_n s l p q m o g).2.2
    obtain ⟨fs53, hD53⟩ := D.sh
    iterate 2 refine mT_s rfl rfl ?_
    refine mT_icmp_ge rfl (fun c => absurd c (nI_ge (a := k) (b := N) (by omega) (by omega))) (fun _ => ?_)
    refine mT_s rfl rfl ?_
    (apply mT_getf; (case hc => rfl); (case ha => first | rfl | assumption); (case hf => first | rfl | assumption))
    (apply mT_inv; (case hc => rfl); (case hd => rfl); (case hb => first | rfl | assumption); (case hg => rfl))
    refine y_goesOn d _ i iv s l le mo hle hmo p q (g + k) k hp hq (by omega) (by omega) false W h B D hS (fun h2 W2 f2 h92 D2 hF2 hS2 => ?_)
    have hX2 : h2 20 = _ := (f2 20 (by decide) (by decide)).trans hX
    have hN2 : 87 ≤ m_nx h2 := nx_eq (f2 0 (by decide) (by decide)) hN
    have fh2 : ∀ c, c ≠ 30 → c < 53 ∨ 61 < c → h2 c = h0 c := fun c z1 z2 => (f2 c z1 z2).trans (fh c z1 z2)
    obtain ⟨fs532, hD532⟩ := D2.sh
    iterate 2 refine mT_s rfl rfl ?_
    rw [nI_1]
    refine ih (k + 1) h2 W2 (by omega) fh2 h92 D2 ?_ hS2
    rw [hF2, ← hF]
    refine FW_c (fun j hj hn => ?_)
    have hw0 := hS j hj hn
    unfold dc
    rw [show j % 13 = 0 by omega]
    show _ = iL (eG _ _ _ _ _ (N - k) (g + k) 0 _ _)
    rw [show N - k = (N - (k + 1)) + 1 by omega, tC_w0 hodb (fun n w w2 m o => by cases n <;> rfl) rfl]
    rfl
theorem x_se_L (d : Nat) (Q : Option Value → mH → Prop) (it : Int32) (i : Nat → Int32) (iv : Value) (s : Nat → Int32) (l : List Tok) (le mo : Nat) (hle : le ≤ 99) (hmo : mo ≤ 99) (p q g N : Nat) (hp : p < 5) (hq : q < 5) (hg : g ≤ 9999) (h0 : mH) (hX0 : h0 20 = .inr (9, xObj it)) (B0 : rBs 21 h0 i iv s l le mo) (T : Int64) (hN12 : N ≤ 12) (w0 : Nat) (hw0 : w0 < 13) (part : Int32) (K : ∀ h2 W2 E, (∀ c, c ≠ 30 → c < 53 ∨ 61 < c → h2 c = h0 c) → (∃ f, h2 30 = .inl (0, 5, .inl f)) → dW h2 p q (g + N) N true W2 → E * lN (10 ^ (N - N)) + FW W2 (fun w m o => iL (eG (a_od s l p q) (n_few le) (n_mor mo) (st_first w0) rw_no (N - N) (g + N) w m o)) = T → (∀ j, j < 5200 → W2 j ≠ 0 → ¬ j % 13 = w0) → mT0 (d + 7) z_X9_series 95 [some (.ref 20), some (.int (nI p)), some (.int (nI q)), some (.int (nI w0)), some (.int part), some (.int (nI N)), some (.long E), none, some (.int (nI N))] [] h2 Q) : ∀ (r k : Nat) (h : mH) (W : Nat → Int64) (E : Int64), k + r = N → (∀ c, c ≠ 30 → c < 53 ∨ 61 < c → h c = h0 c) → (∃ f, h 30 = .inl (0, 5, .inl f)) → dW h p q (g + k) k true W → E * lN (10 ^ (N - k)) + FW W (fun w m o => iL (eG (a_od s l p q) (n_few le) (n_mor mo) (st_first w0) rw_no (N - k) (g + k) w m o)) = T → cS W k → (∀ j, j < 5200 → W j ≠ 0 → ¬ j % 13 = w0) → mT0 (d + 7) z_X9_series 58 [some (.ref 20), some (.int (nI p)), some (.int (nI q)), some (.int (nI w0)), some (.int part), some (.int (nI N)), some (.long E), none, some (.int (nI k))] [] h Q := by
  intro r
  induction r with
  | zero =>
    intro k h W E hk fh h9 D hF hS hZ
    have B := B0.d5 (h2 := h) (fun c z1 z2 => fh c z1 (by omega)) h9
    obtain ⟨hR, hN, -, -, -, -, -, -⟩ := id B
    have hX : h 20 = _ := (fh 20 (by decide) (by decide)).trans hX0
    have hodb : ∀ m o g, a_od s l p q m o g ≤ 9 := fun m o g => (a_od_n s l p q m o g).2.2
    obtain ⟨fs53, hD53⟩ := D.sh
    iterate 2 refine mT_s rfl rfl ?_
    refine mT_icmp_ge rfl (fun _ => ?_) (fun c => absurd (nI_le (a := N) (b := k) (by omega) (by omega)) c)
    obtain rfl : k = N := by omega
    exact K h W E fh h9 D hF hZ
  | succ r ih =>
    intro k h W E hk fh h9 D hF hS hZ
    have B := B0.d5 (h2 := h) (fun c z1 z2 => fh c z1 (by omega)) h9
    obtain ⟨hR, hN, -, -, -, -, -, -⟩ := id B
    have hX : h 20 = _ := (fh 20 (by decide) (by decide)).trans hX0
    have hodb : ∀ m o g, a_od s l p q m o g ≤ 9 := fun m o g => (a_od_n s l p q m o g).2.2
    obtain ⟨fs53, hD53⟩ := D.sh
    iterate 2 refine mT_s rfl rfl ?_
    refine mT_icmp_ge rfl (fun c => absurd c (nI_ge (a := k) (b := N) (by omega) (by omega))) (fun _ => ?_)
    refine mT_s rfl rfl ?_
    (apply mT_getf; (case hc => rfl); (case ha => first | rfl | assumption); (case hf => first | rfl | assumption))
    (apply mT_inv; (case hc => rfl); (case hd => rfl); (case hb => first | rfl | assumption); (case hg => rfl))
    refine y_goesOn d _ i iv s l le mo hle hmo p q (g + k) k hp hq (by omega) (by omega) true W h B D hS (fun h2 W2 f2 h92 D2 hF2 hS2 => ?_)
    have hX2 : h2 20 = _ := (f2 20 (by decide) (by decide)).trans hX
    have hN2 : 87 ≤ m_nx h2 := nx_eq (f2 0 (by decide) (by decide)) hN
    have fh2 : ∀ c, c ≠ 30 → c < 53 ∨ 61 < c → h2 c = h0 c := fun c z1 z2 => (f2 c z1 z2).trans (fh c z1 z2)
    obtain ⟨fs532, hD532⟩ := D2.sh
    iterate 4 refine mT_s rfl rfl ?_
    (apply mT_getf; (case hc => rfl); (case ha => first | rfl | assumption); (case hf => first | rfl | assumption))
    refine mT_s rfl rfl ?_
    (apply mT_inv; (case hc => rfl); (case hd => rfl); (case hb => first | rfl | assumption); (case hg => rfl))
    refine y_takesWon _ _ p q (g + k + 1) (k + 1) true W2 h2 hN2 D2 w0 (by omega) (fun h3 S W3 f3 D3 hV3 hn3 hZ3 => ?_)
    have fh3 : ∀ c, c ≠ 30 → c < 53 ∨ 61 < c → h3 c = h0 c := fun c z1 z2 => (f3 c (by omega)).trans (fh2 c z1 z2)
    have h93 : ∃ f, h3 30 = .inl (0, 5, .inl f) := by rw [f3 30 (by decide)]; exact h92
    iterate 4 refine mT_s rfl rfl ?_
    rw [nI_1]
    refine ih (k + 1) h3 W3 _ (by omega) fh3 h93 D3 ?_ (fun j hj hn => hS2 j hj (hn3 j hj hn)) (fun j hj hn z => hn (hZ3 j hj z))
    have hq1 := hV3 (fun w m o => iL (eG (a_od s l p q) (n_few le) (n_mor mo) (st_first w0) rw_no (N - (k + 1)) (g + (k + 1)) w m o)) (lN (10 ^ (N - (k + 1)))) (fun m o => by
      show iL (eG _ _ _ _ _ _ _ w0 m o) = _
      rw [eG_some (show st_first w0 _ w0 m o = some _ from if_pos rfl)]
      rfl)
    have hq2 : FW W2 (fun w m o => iL (eG (a_od s l p q) (n_few le) (n_mor mo) (st_first w0) rw_no (N - (k + 1)) (g + (k + 1)) w m o)) = FW W (fun w m o => iL (eG (a_od s l p q) (n_few le) (n_mor mo) (st_first w0) rw_no (N - k) (g + k) w m o)) := by
      rw [hF2]
      refine FW_c (fun j hj hn => ?_)
      have hjw := hZ j hj hn
      unfold dc
      show _ = iL (eG _ _ _ _ _ (N - k) (g + k) _ _ _)
      rw [show N - k = (N - (k + 1)) + 1 by omega, tC_eG hodb (show st_first w0 _ (j % 13) _ _ = none from if_neg hjw)]
      rfl
    rw [hq2] at hq1
    rw [← hF, ← hq1, show N - k = (N - (k + 1)) + 1 by omega, lN_pow]
    grind
theorem x_en_L (d : Nat) (Q : Option Value → mH → Prop) (it : Int32) (i : Nat → Int32) (iv : Value) (s : Nat → Int32) (l : List Tok) (le mo : Nat) (hle : le ≤ 99) (hmo : mo ≤ 99) (p q g N : Nat) (hp : p < 5) (hq : q < 5) (hg : g ≤ 9999) (h0 : mH) (hX0 : h0 20 = .inr (9, xObj it)) (B0 : rBs 21 h0 i iv s l le mo) (T : Int64) (hN12 : N ≤ 12) (part : Int32) (K : ∀ h2 W2 E, (∀ c, c ≠ 30 → c < 53 ∨ 61 < c → h2 c = h0 c) → (∃ f, h2 30 = .inl (0, 5, .inl f)) → dW h2 p q (g + N) N false W2 → E * lN (10 ^ (N - N)) + FW W2 (fun w m o => iL (eG (a_od s l p q) (n_few le) (n_mor mo) st_ends rw_no (N - N) (g + N) 0 m o)) = T → cS W2 0 → (∀ j, j < 5200 → W2 j ≠ 0 → ¬ j / 13 / 20 + 1 = 1) → mT0 (d + 7) z_X9_ends 92 [some (.ref 20), some (.int (nI p)), some (.int (nI q)), some (.int (nI N)), some (.int part), some (.long E), none, some (.int (nI N))] [] h2 Q) : ∀ (r k : Nat) (h : mH) (W : Nat → Int64) (E : Int64), k + r = N → (∀ c, c ≠ 30 → c < 53 ∨ 61 < c → h c = h0 c) → (∃ f, h 30 = .inl (0, 5, .inl f)) → dW h p q (g + k) k false W → E * lN (10 ^ (N - k)) + FW W (fun w m o => iL (eG (a_od s l p q) (n_few le) (n_mor mo) st_ends rw_no (N - k) (g + k) 0 m o)) = T → cS W 0 → (∀ j, j < 5200 → W j ≠ 0 → ¬ j / 13 / 20 + 1 = 1) → mT0 (d + 7) z_X9_ends 57 [some (.ref 20), some (.int (nI p)), some (.int (nI q)), some (.int (nI N)), some (.int part), some (.long E), none, some (.int (nI k))] [] h Q := by
  intro r
  induction r with
  | zero =>
    intro k h W E hk fh h9 D hF hS hZ
    have B := B0.d5 (h2 := h) (fun c z1 z2 => fh c z1 (by omega)) h9
    obtain ⟨hR, hN, -, -, -, -, -, -⟩ := id B
    have hX : h 20 = _ := (fh 20 (by decide) (by decide)).trans hX0
    have hodb : ∀ m o g, a_od s l p q m o g ≤ 9 := fun m o g => (a_od_n s l p q m o g).2.2
    obtain ⟨fs53, hD53⟩ := D.sh
    iterate 2 refine mT_s rfl rfl ?_
    refine mT_icmp_ge rfl (fun _ => ?_) (fun c => absurd (nI_le (a := N) (b := k) (by omega) (by omega)) c)
    obtain rfl : k = N := by omega
    exact K h W E fh h9 D hF hS hZ
  | succ r ih =>
    intro k h W E hk fh h9 D hF hS hZ
    have B := B0.d5 (h2 := h) (fun c z1 z2 => fh c z1 (by omega)) h9
    obtain ⟨hR, hN, -, -, -, -, -, -⟩ := id B
    have hX : h 20 = _ := (fh 20 (by decide) (by decide)).trans hX0
    have hodb : ∀ m o g, a_od s l p q m o g ≤ 9 := fun m o g => (a_od_n s l p q m o g).2.2
    obtain ⟨fs53, hD53⟩ := D.sh
    iterate 2 refine mT_s rfl rfl ?_
    refine mT_icmp_ge rfl (fun c => absurd c (nI_ge (a := k) (b := N) (by omega) (by omega))) (fun _ => ?_)
    refine mT_s rfl rfl ?_
    (apply mT_getf; (case hc => rfl); (case ha => first | rfl | assumption); (case hf => first | rfl | assumption))
    (apply mT_inv; (case hc => rfl); (case hd => rfl); (case hb => first | rfl | assumption); (case hg => rfl))
    refine y_goesOn d _ i iv s l le mo hle hmo p q (g + k) k hp hq (by omega) (by omega) false W h B D hS (fun h2 W2 f2 h92 D2 hF2 hS2 => ?_)
    have hX2 : h2 20 = _ := (f2 20 (by decide) (by decide)).trans hX
    have hN2 : 87 ≤ m_nx h2 := nx_eq (f2 0 (by decide) (by decide)) hN
    have fh2 : ∀ c, c ≠ 30 → c < 53 ∨ 61 < c → h2 c = h0 c := fun c z1 z2 => (f2 c z1 z2).trans (fh c z1 z2)
    obtain ⟨fs532, hD532⟩ := D2.sh
    iterate 4 refine mT_s rfl rfl ?_
    (apply mT_getf; (case hc => rfl); (case ha => first | rfl | assumption); (case hf => first | rfl | assumption))
    (apply mT_inv; (case hc => rfl); (case hd => rfl); (case hb => first | rfl | assumption); (case hg => rfl))
    refine y_takesEnded _ _ p q (g + k + 1) (k + 1) false W2 h2 hN2 D2 (fun h3 S W3 f3 D3 hV3 hn3 hZ3 => ?_)
    have fh3 : ∀ c, c ≠ 30 → c < 53 ∨ 61 < c → h3 c = h0 c := fun c z1 z2 => (f3 c (by omega)).trans (fh2 c z1 z2)
    have h93 : ∃ f, h3 30 = .inl (0, 5, .inl f) := by rw [f3 30 (by decide)]; exact h92
    iterate 4 refine mT_s rfl rfl ?_
    rw [nI_1]
    refine ih (k + 1) h3 W3 _ (by omega) fh3 h93 D3 ?_ (fun j hj hn => hS2 j hj (hn3 j hj hn)) (fun j hj hn z => hn (hZ3 j hj ⟨by have := hS2 j hj (hn3 j hj hn); dsimp only [cond] at this; omega, z⟩))
    have hq1 := hV3 (fun w m o => iL (eG (a_od s l p q) (n_few le) (n_mor mo) st_ends rw_no (N - (k + 1)) (g + (k + 1)) 0 m o)) (lN (10 ^ (N - (k + 1)))) (fun o => by
      show iL (eG _ _ _ _ _ _ _ 0 1 o) = _
      rw [eG_some (show st_ends _ 0 1 o = some _ from if_pos rfl)]
      rfl)
    have hq2 : FW W2 (fun w m o => iL (eG (a_od s l p q) (n_few le) (n_mor mo) st_ends rw_no (N - (k + 1)) (g + (k + 1)) 0 m o)) = FW W (fun w m o => iL (eG (a_od s l p q) (n_few le) (n_mor mo) st_ends rw_no (N - k) (g + k) 0 m o)) := by
      rw [hF2]
      refine FW_c (fun j hj hn => ?_)
      have hjw := hZ j hj hn
      have hw0 := hS j hj hn
      unfold dc
      rw [show j % 13 = 0 by omega]
      show _ = iL (eG _ _ _ _ _ (N - k) (g + k) 0 _ _)
      rw [show N - k = (N - (k + 1)) + 1 by omega, tC_w0 hodb (fun _ _ _ _ _ => rfl) (show st_ends _ 0 (j / 13 / 20 + 1) _ = none from if_neg hjw)]
      rfl
    rw [hq2] at hq1
    rw [← hF, ← hq1, show N - k = (N - (k + 1)) + 1 by omega, lN_pow]
    grind
theorem x_st_L (d : Nat) (Q : Option Value → mH → Prop) (it : Int32) (i : Nat → Int32) (iv : Value) (s : Nat → Int32) (l : List Tok) (le mo : Nat) (hle : le ≤ 99) (hmo : mo ≤ 99) (p q g N : Nat) (hp : p < 5) (hq : q < 5) (hg : g ≤ 9999) (h0 : mH) (hX0 : h0 20 = .inr (9, xObj it)) (B0 : rBs 21 h0 i iv s l le mo) (T : Int64) (hN12 : N ≤ 12) (part : Int32) (K : ∀ h2 W2 E, (∀ c, c ≠ 30 → c < 53 ∨ 61 < c → h2 c = h0 c) → (∃ f, h2 30 = .inl (0, 5, .inl f)) → dW h2 p q (g + N) N false W2 → E * lN (10 ^ (N - N)) + FW W2 (fun w m o => iL (eG (a_od s l p q) (n_few le) (n_mor mo) st_no (rw_st (a_od s l p q)) (N - N) (g + N) 0 m o)) = T → mT0 (d + 7) z_X9_stakes 86 [some (.ref 20), some (.int (nI p)), some (.int (nI q)), some (.int (nI N)), some (.int part), some (.long E), none, some (.int (nI N))] [] h2 Q) : ∀ (r k : Nat) (h : mH) (W : Nat → Int64) (E : Int64), k + r = N → (∀ c, c ≠ 30 → c < 53 ∨ 61 < c → h c = h0 c) → (∃ f, h 30 = .inl (0, 5, .inl f)) → dW h p q (g + k) k false W → E * lN (10 ^ (N - k)) + FW W (fun w m o => iL (eG (a_od s l p q) (n_few le) (n_mor mo) st_no (rw_st (a_od s l p q)) (N - k) (g + k) 0 m o)) = T → cS W 0 → mT0 (d + 7) z_X9_stakes 51 [some (.ref 20), some (.int (nI p)), some (.int (nI q)), some (.int (nI N)), some (.int part), some (.long E), none, some (.int (nI k))] [] h Q := by
  intro r
  induction r with
  | zero =>
    intro k h W E hk fh h9 D hF hS
    have B := B0.d5 (h2 := h) (fun c z1 z2 => fh c z1 (by omega)) h9
    obtain ⟨hR, hN, -, -, -, -, -, -⟩ := id B
    have hX : h 20 = _ := (fh 20 (by decide) (by decide)).trans hX0
    have hodb : ∀ m o g, a_od s l p q m o g ≤ 9 := fun m o g => (a_od_n s l p q m o g).2.2
    obtain ⟨fs53, hD53⟩ := D.sh
    iterate 2 refine mT_s rfl rfl ?_
    refine mT_icmp_ge rfl (fun _ => ?_) (fun c => absurd (nI_le (a := N) (b := k) (by omega) (by omega)) c)
    obtain rfl : k = N := by omega
    exact K h W E fh h9 D hF
  | succ r ih =>
    intro k h W E hk fh h9 D hF hS
    have B := B0.d5 (h2 := h) (fun c z1 z2 => fh c z1 (by omega)) h9
    obtain ⟨hR, hN, -, -, -, -, -, -⟩ := id B
    have hX : h 20 = _ := (fh 20 (by decide) (by decide)).trans hX0
    have hodb : ∀ m o g, a_od s l p q m o g ≤ 9 := fun m o g => (a_od_n s l p q m o g).2.2
    obtain ⟨fs53, hD53⟩ := D.sh
    iterate 2 refine mT_s rfl rfl ?_
    refine mT_icmp_ge rfl (fun c => absurd c (nI_ge (a := k) (b := N) (by omega) (by omega))) (fun _ => ?_)
    iterate 4 refine mT_s rfl rfl ?_
    (apply mT_getf; (case hc => rfl); (case ha => first | rfl | assumption); (case hf => first | rfl | assumption))
    (apply mT_inv; (case hc => rfl); (case hd => rfl); (case hb => first | rfl | assumption); (case hg => rfl))
    refine y_stakeOfOne _ _ i iv s l le mo hle hmo p q (g + k) k hp hq (by omega) false W h B D hS (fun h1 f1 h91 D1 => ?_)
    have hX1 : h1 20 = _ := (f1 20 (by decide)).trans hX
    have hN1 : 87 ≤ m_nx h1 := nx_eq (f1 0 (by decide)) hN
    have B1 := B.d5 (h2 := h1) (fun c z1 z2 => f1 c z1) h91
    obtain ⟨fs531, hD531⟩ := D1.sh
    iterate 3 refine mT_s rfl rfl ?_
    (apply mT_getf; (case hc => rfl); (case ha => first | rfl | assumption); (case hf => first | rfl | assumption))
    (apply mT_inv; (case hc => rfl); (case hd => rfl); (case hb => first | rfl | assumption); (case hg => rfl))
    refine y_goesOn _ _ i iv s l le mo hle hmo p q (g + k) k hp hq (by omega) (by omega) false W h1 B1 D1 hS (fun h2 W2 f2 h92 D2 hF2 hS2 => ?_)
    have hX2 : h2 20 = _ := (f2 20 (by decide) (by decide)).trans hX1
    have hN2 : 87 ≤ m_nx h2 := nx_eq (f2 0 (by decide) (by decide)) hN1
    have fh2 : ∀ c, c ≠ 30 → c < 53 ∨ 61 < c → h2 c = h0 c := fun c z1 z2 => (f2 c z1 z2).trans ((f1 c z1).trans (fh c z1 z2))
    obtain ⟨fs532, hD532⟩ := D2.sh
    iterate 2 refine mT_s rfl rfl ?_
    rw [nI_1]
    refine ih (k + 1) h2 W2 _ (by omega) fh2 h92 D2 ?_ hS2
    have hq2 : FW W (fun w m o => iL (eG (a_od s l p q) (n_few le) (n_mor mo) st_no (rw_st (a_od s l p q)) (N - k) (g + k) 0 m o)) = lN (10 ^ (N - (k + 1))) * FW W (stW (a_od s l p q) (g + k)) + FW W2 (fun w m o => iL (eG (a_od s l p q) (n_few le) (n_mor mo) st_no (rw_st (a_od s l p q)) (N - (k + 1)) (g + (k + 1)) 0 m o)) := by
      rw [hF2, ← FW_lin]
      refine FW_c (fun j hj hn => ?_)
      have hw0 := hS j hj hn
      unfold dc
      rw [show j % 13 = 0 by omega]
      show iL (eG _ _ _ _ _ (N - k) (g + k) 0 _ _) = _
      rw [show N - k = (N - (k + 1)) + 1 by omega, tC_stakes hodb]
      rfl
    rw [← hF, hq2, show N - k = (N - (k + 1)) + 1 by omega, lN_pow]
    grind