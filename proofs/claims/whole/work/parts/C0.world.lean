/-! All that lies in the heap between two calls. -/
/-- what a state of the reference keeps -/
def SV (s : Nat → Int32) (l : List Tok) (le mo nb : Nat) (bA bB : Nat → Nat) (bW : Nat → Bool) : Prop := s_Inv s ∧ sG s l le mo ∧ sB s nb bA bB bW ∧ (∃ nt ta, sTa s nt ta) ∧ (∃ (n : Nat) (mm : Nat → Nat) (g : Nat), s 6 = nI n ∧ n ≤ 5 ∧ (∀ j, j < 5 → mm j ≤ 20) ∧ (∀ j, j < n → 1 ≤ mm j) ∧ s_at s mm g = s ∧ g ≤ 9999) ∧ (∀ j, j < 5 → sK s j) ∧ (∀ j, j < 5 → ∃ m : Nat, m < 7 ∧ s (12 + j) = nI m) ∧ (s 11 = -1 ∨ ∃ a act : Nat, s 11 = nI a ∧ s 7 = nI act ∧ a < act ∧ act ≤ 5)
/-- a room of the class holds a state -/
def CR (r : Nat) (h : mH) (s : Nat → Int32) (l : List Tok) (le mo nb : Nat) (bA bB : Nat → Nat) (bW : Nat → Bool) : Prop := ∃ i iv, XR r h i iv s l le mo nb (b_w bA bB bW) (b_w bB bA bW)
def CIm (h : mH) (s : Nat → Int32) : Prop := ∃ l le mo nb bA bB bW, CR 31 h s l le mo nb bA bB bW ∧ SV s l le mo nb bA bB bW
/-- the class's objects but its room -/
def CXR (h : mH) (it : Int32) (s2 tr : Nat → Int32) (c9 : Nat) : Prop := h 20 = .inr (9, xObj it) ∧ rSh 31 h ∧ (¬ it = 0 → CIm h s2) ∧ rSh 41 h ∧ rRdS h ∧ rDuS h ∧ (∃ v1 : Value, ∃ v2 v3 : Int32, h 62 = .inr (5, [v1, .int v2, .int v3])) ∧ rOrS h ∧ (∃ v1 : Value, ∃ v2 v3 : Int32, h 72 = .inr (8, [.ref 73, v1, .int v2, .int v3])) ∧ (∃ wf, h 73 = .inl (0, 13, .inl wf)) ∧ (∃ k0 n0 v0 : Int32, h 74 = .inr (0, [.ref 75, .int (nI c9), .int k0, .int n0, .int v0])) ∧ h 75 = .inl (0, 20, .inl tr)
/-- the reference's -/
def MX (h : mH) (s s2 : Nat → Int32) (it : Int32) (tr : Nat → Int32) (c9 : Nat) : Prop := ∃ (ir : Nat → Int32) (o t : Nat) (pd bw : Int64), h 76 = .inr (10, mObj ir o t pd bw) ∧ h 77 = .inl (0, 889, .inl s) ∧ (∃ f, h 78 = .inl (0, 889, .inl f) ∧ (¬ it = 0 → ∀ j, j < 889 → f j = s2 j)) ∧ (ir 4 = 0 ↔ it = 0) ∧ (∃ f, h 79 = .inl (0, 6, .inl f)) ∧ (∃ f, h 80 = .inl (0, 5, .inl f)) ∧ (∃ g, h 81 = .inl (2, 64, .inl g)) ∧ hOT o t ∧ (∃ A : Nat → Int64, h o = .inl (1, 5733, .inr (.inl A))) ∧ (∃ C : Nat → Int64, h t = .inl (1, 5733, .inr (.inl C))) ∧ (∃ f, h 84 = .inl (0, 4, .inl f)) ∧ (∃ f, h 85 = .inl (0, 4, .inl f)) ∧ h 86 = .inl (0, 20, .inl tr) ∧ ir 20 = nI c9
/-- what is the same for both -/
def CM (L : Nat) (xs : Nat → Int32) (h : mH) : Prop := hS L xs h ∧ 87 ≤ m_nx h ∧ ∀ a, m_nx h ≤ a → h a = .inr (99, [])
def WP (L : Nat) (xs : Nat → Int32) (B U : Nat) (it : Int32) (s s2 tr : Nat → Int32) (c9 : Nat) (l : List Tok) (le mo nb : Nat) (bA bB : Nat → Nat) (bW : Nat → Bool) (h : mH) : Prop := c9 < 60 ∧ SV s l le mo nb bA bB bW ∧ CR 21 h s l le mo nb bA bB bW ∧ CXR h it s2 tr c9 ∧ MX h s s2 it tr c9 ∧ CM L xs h ∧ m_nx h ≤ B ∧ m_us h ≤ U
def WW (L : Nat) (xs : Nat → Int32) (B U : Nat) (h : mH) : Prop := ∃ it s s2 tr c9 l le mo nb bA bB bW, WP L xs B U it s s2 tr c9 l le mo nb bA bB bW h
theorem CM.c {L : Nat} {xs : Nat → Int32} {h h2 : mH} (x : CM L xs h) (hh : ∀ a, a < 20 ∨ 86 < a → h2 a = h a) : CM L xs h2 ∧ m_nx h2 = m_nx h ∧ m_us h2 = m_us h := by
  obtain ⟨x1, x2, x3⟩ := x
  have n := nx_of (hh 0 (by decide))
  refine ⟨⟨fun a a1 a2 => (hh a (by omega)).trans (x1 a a1 a2), by rw [n]; exact x2, fun a ha => ?_⟩, n, us_of (hh 1 (by decide))⟩
  rw [n] at ha
  exact (hh a (by omega)).trans (x3 a ha)
theorem rSh.c {r : Nat} {h h2 : mH} (x : rSh r h) (hh : ∀ a, r ≤ a → a ≤ r + 9 → h2 a = h a) : rSh r h2 := by
  obtain ⟨⟨i, iv, x0⟩, ⟨f1, x1⟩, ⟨f2, x2⟩, ⟨f3, x3⟩, ⟨f4, x4⟩, ⟨f5, x5⟩, ⟨f6, x6⟩, ⟨f7, x7⟩, ⟨f8, x8⟩, ⟨f9, x9⟩⟩ := x
  exact ⟨⟨i, iv, (hh _ (by omega) (by omega)).trans x0⟩, ⟨f1, (hh _ (by omega) (by omega)).trans x1⟩, ⟨f2, (hh _ (by omega) (by omega)).trans x2⟩, ⟨f3, (hh _ (by omega) (by omega)).trans x3⟩, ⟨f4, (hh _ (by omega) (by omega)).trans x4⟩, ⟨f5, (hh _ (by omega) (by omega)).trans x5⟩, ⟨f6, (hh _ (by omega) (by omega)).trans x6⟩, ⟨f7, (hh _ (by omega) (by omega)).trans x7⟩, ⟨f8, (hh _ (by omega) (by omega)).trans x8⟩, ⟨f9, (hh _ (by omega) (by omega)).trans x9⟩⟩
theorem rI_t {h h2 : mH} {iv : Value} {l : List Tok} {le mo : Nat} (top : ∀ a, m_nx h ≤ a → h a = .inr (99, [])) (hh : ∀ a, 87 ≤ a → a < m_nx h → h2 a = h a) (x : rI h iv l le mo) : rI h2 iv l le mo := by
  rcases x with z | ⟨a, code, e, ha, h1, h2', h3, h4⟩
  · exact Or.inl z
  · have l1 : a < m_nx h := by
      rcases Nat.lt_or_ge a (m_nx h) with z | z
      · exact z
      · have := (top a z).symm.trans h1
        cases this
    have l2 : a + 1 < m_nx h := by
      rcases Nat.lt_or_ge (a + 1) (m_nx h) with z | z
      · exact z
      · have := (top (a + 1) z).symm.trans h2'
        cases this
    exact Or.inr ⟨a, code, e, ha, (hh a ha l1).trans h1, (hh (a + 1) (Nat.le_succ_of_le ha) l2).trans h2', h3, h4⟩
theorem XR.t {r : Nat} {h h2 : mH} {i : Nat → Int32} {iv : Value} {s : Nat → Int32} {l : List Tok} {le mo nb : Nat} {wi lo : Nat → Nat} (X : XR r h i iv s l le mo nb wi lo) (top : ∀ a, m_nx h ≤ a → h a = .inr (99, [])) (hh : ∀ a, r ≤ a → a ≤ r + 9 → h2 a = h a) (hN : 87 ≤ m_nx h2) (h87 : ∀ a, 87 ≤ a → a < m_nx h → h2 a = h a) : XR r h2 i iv s l le mo nb wi lo := by
  obtain ⟨⟨b1, b2, b3, b4, b5, b6, b7, ⟨f9, b8⟩⟩, x1, x2, x3, x4, x5, x6⟩ := X
  exact ⟨⟨(hh _ (by omega) (by omega)).trans b1, hN, rI_t top h87 b3, b4, rAr_c (hh _ (by omega) (by omega)) b5, rAr_c (hh _ (by omega) (by omega)) b6, rAr_c (hh _ (by omega) (by omega)) b7, ⟨f9, (hh _ (by omega) (by omega)).trans b8⟩⟩, rAr_c (hh _ (by omega) (by omega)) x1, rAr_c (hh _ (by omega) (by omega)) x2, rAr_c (hh _ (by omega) (by omega)) x3, rBk_c (hh _ (by omega) (by omega)) x4, rBk_c (hh _ (by omega) (by omega)) x5, x6⟩
/-- the room says nothing of the rows of the inns -/
theorem XR.e {r : Nat} {h : mH} {i : Nat → Int32} {iv : Value} {s s2 : Nat → Int32} {l : List Tok} {le mo nb : Nat} {wi lo : Nat → Nat} (X : XR r h i iv s l le mo nb wi lo) (hs : ∀ j, j < 174 → j ≠ 11 → s2 j = s j) : XR r h i iv s2 l le mo nb wi lo := by
  obtain ⟨⟨b1, b2, b3, b4, b5, b6, b7, b8⟩, x1, x2, x3, x4, x5, i0, i1, i2, i3, i4, i5⟩ := X
  exact ⟨⟨b1, b2, b3, b4, rA_s b5 (fun j hj => hs _ (by omega) (by omega)), rA_s b6 (fun j hj => hs _ (by omega) (by omega)), rA_s b7 (fun j hj => hs _ (by omega) (by omega)), b8⟩, rA_s x1 (fun j hj => hs _ (by omega) (by omega)), rA_s x2 (fun j hj => hs _ (by omega) (by omega)), rA_s x3 (fun j hj => hs _ (by omega) (by omega)), x4, x5, i0.trans (hs _ (by omega) (by omega)).symm, i1.trans (hs _ (by omega) (by omega)).symm, i2.trans (hs _ (by omega) (by omega)).symm, i3.trans (hs _ (by omega) (by omega)).symm, i4.trans (hs _ (by omega) (by omega)).symm, i5.trans (hs _ (by omega) (by omega)).symm⟩
theorem CIm.t {h h2 : mH} {s : Nat → Int32} (x : CIm h s) (top : ∀ a, m_nx h ≤ a → h a = .inr (99, [])) (hh : ∀ a, 31 ≤ a → a ≤ 40 → h2 a = h a) (hN : 87 ≤ m_nx h2) (h87 : ∀ a, 87 ≤ a → a < m_nx h → h2 a = h a) : CIm h2 s := by
  obtain ⟨l, le, mo, nb, bA, bB, bW, ⟨i, iv, X⟩, S⟩ := x
  exact ⟨l, le, mo, nb, bA, bB, bW, ⟨i, iv, X.t top hh hN h87⟩, S⟩
theorem CXR.t {h h2 : mH} {it : Int32} {s2 tr : Nat → Int32} {c9 : Nat} (x : CXR h it s2 tr c9) (top : ∀ a, m_nx h ≤ a → h a = .inr (99, [])) (hN : 87 ≤ m_nx h2) (h87 : ∀ a, 87 ≤ a → a < m_nx h → h2 a = h a) (e20 : h2 20 = h 20) (e31 : ∀ a, 31 ≤ a → a ≤ 40 → h2 a = h a) (x41 : rSh 41 h2) (x51 : rRdS h2) (x53 : rDuS h2) (x62 : ∃ v1 : Value, ∃ v2 v3 : Int32, h2 62 = .inr (5, [v1, .int v2, .int v3])) (x63 : rOrS h2) (x72 : ∃ v1 : Value, ∃ v2 v3 : Int32, h2 72 = .inr (8, [.ref 73, v1, .int v2, .int v3])) (x73 : ∃ wf, h2 73 = .inl (0, 13, .inl wf)) (e74 : h2 74 = h 74) (e75 : h2 75 = h 75) : CXR h2 it s2 tr c9 := by
  obtain ⟨y1, y2, y3, y4, y5, y6, y7, y8, y9, y10, ⟨k0, n0, v0, y11⟩, y12⟩ := x
  exact ⟨e20.trans y1, y2.c e31, fun z => (y3 z).t top e31 hN h87, x41, x51, x53, x62, x63, x72, x73, ⟨k0, n0, v0, e74.trans y11⟩, e75.trans y12⟩
section
variable {L : Nat} {xs : Nat → Int32} {B U : Nat} {it : Int32} {s s2 tr : Nat → Int32} {c9 : Nat} {l : List Tok} {le mo nb : Nat} {bA bB : Nat → Nat} {bW : Nat → Bool} {h h2 : mH}
theorem CXR.c62 (x : CXR h it s2 tr c9) : ∃ v1 : Value, ∃ v2 v3 : Int32, h 62 = .inr (5, [v1, .int v2, .int v3]) := x.2.2.2.2.2.2.1
theorem CXR.c72 (x : CXR h it s2 tr c9) : ∃ v1 : Value, ∃ v2 v3 : Int32, h 72 = .inr (8, [.ref 73, v1, .int v2, .int v3]) := x.2.2.2.2.2.2.2.2.1
theorem CXR.c73 (x : CXR h it s2 tr c9) : ∃ wf, h 73 = .inl (0, 13, .inl wf) := x.2.2.2.2.2.2.2.2.2.1
theorem CXR.f1 (x : CXR h it s2 tr c9) (m : CM L xs h) (f : ∀ a, a ≤ 20 ∨ 31 ≤ a → h2 a = h a) : CXR h2 it s2 tr c9 := by
  obtain ⟨v1, v2, v3, e62⟩ := x.c62
  obtain ⟨w1, w2, w3, e72⟩ := x.c72
  obtain ⟨wf, e73⟩ := x.c73
  exact x.t m.2.2 (nx_eq (f 0 (by decide)) m.2.1) (fun a a1 _ => f a (by omega)) (f 20 (by decide)) (fun a a1 a2 => f a (by omega)) (x.2.2.2.1.c (fun a a1 a2 => f a (by omega))) (x.2.2.2.2.1.c (fun a a1 a2 => f a (by omega))) (x.2.2.2.2.2.1.c (fun a a1 a2 => f a (by omega))) ⟨v1, v2, v3, (f 62 (by decide)).trans e62⟩ (x.2.2.2.2.2.2.2.1.c (fun a a1 a2 => f a (by omega))) ⟨w1, w2, w3, (f 72 (by decide)).trans e72⟩ ⟨wf, (f 73 (by decide)).trans e73⟩ (f 74 (by decide)) (f 75 (by decide))
theorem CXR.f62 (x : CXR h it s2 tr c9) (m : CM L xs h) (f : ∀ a, a ≠ 30 → a ≠ 62 → h2 a = h a) (y : ∃ v1 : Value, ∃ v2 v3 : Int32, h2 62 = .inr (5, [v1, .int v2, .int v3])) : CXR h2 it s2 tr c9 := by
  obtain ⟨w1, w2, w3, e72⟩ := x.c72
  obtain ⟨wf, e73⟩ := x.c73
  exact x.t m.2.2 (nx_eq (f 0 (by decide) (by decide)) m.2.1) (fun a a1 _ => f a (by omega) (by omega)) (f 20 (by decide) (by decide)) (fun a a1 a2 => f a (by omega) (by omega)) (x.2.2.2.1.c (fun a a1 a2 => f a (by omega) (by omega))) (x.2.2.2.2.1.c (fun a a1 a2 => f a (by omega) (by omega))) (x.2.2.2.2.2.1.c (fun a a1 a2 => f a (by omega) (by omega))) y (x.2.2.2.2.2.2.2.1.c (fun a a1 a2 => f a (by omega) (by omega))) ⟨w1, w2, w3, (f 72 (by decide) (by decide)).trans e72⟩ ⟨wf, (f 73 (by decide) (by decide)).trans e73⟩ (f 74 (by decide) (by decide)) (f 75 (by decide) (by decide))
theorem CXR.f41 (x : CXR h it s2 tr c9) (m : CM L xs h) (f : ∀ c, c < 41 ∨ 50 < c → h2 c = h c) (y : rSh 41 h2) : CXR h2 it s2 tr c9 := by
  obtain ⟨v1, v2, v3, e62⟩ := x.c62
  obtain ⟨w1, w2, w3, e72⟩ := x.c72
  obtain ⟨wf, e73⟩ := x.c73
  exact x.t m.2.2 (nx_eq (f 0 (by decide)) m.2.1) (fun a a1 _ => f a (by omega)) (f 20 (by decide)) (fun a a1 a2 => f a (by omega)) y (x.2.2.2.2.1.c (fun a a1 a2 => f a (by omega))) (x.2.2.2.2.2.1.c (fun a a1 a2 => f a (by omega))) ⟨v1, v2, v3, (f 62 (by decide)).trans e62⟩ (x.2.2.2.2.2.2.2.1.c (fun a a1 a2 => f a (by omega))) ⟨w1, w2, w3, (f 72 (by decide)).trans e72⟩ ⟨wf, (f 73 (by decide)).trans e73⟩ (f 74 (by decide)) (f 75 (by decide))
theorem CXR.f73 (x : CXR h it s2 tr c9) (m : CM L xs h) (f : ∀ c, c < 41 ∨ (50 < c ∧ c ≠ 72 ∧ c ≠ 73) → h2 c = h c) (y : rSh 41 h2) (y2 : ∃ v1 : Value, ∃ v2 v3 : Int32, h2 72 = .inr (8, [.ref 73, v1, .int v2, .int v3])) (y3 : ∃ wf, h2 73 = .inl (0, 13, .inl wf)) : CXR h2 it s2 tr c9 := by
  obtain ⟨v1, v2, v3, e62⟩ := x.c62
  exact x.t m.2.2 (nx_eq (f 0 (by decide)) m.2.1) (fun a a1 _ => f a (by omega)) (f 20 (by decide)) (fun a a1 a2 => f a (by omega)) y (x.2.2.2.2.1.c (fun a a1 a2 => f a (by omega))) (x.2.2.2.2.2.1.c (fun a a1 a2 => f a (by omega))) ⟨v1, v2, v3, (f 62 (by decide)).trans e62⟩ (x.2.2.2.2.2.2.2.1.c (fun a a1 a2 => f a (by omega))) y2 y3 (f 74 (by decide)) (f 75 (by decide))
theorem CXR.f63 (x : CXR h it s2 tr c9) (m : CM L xs h) (f : ∀ c, c ≠ 30 → c < 63 ∨ 71 < c → h2 c = h c) (y : rOrS h2) : CXR h2 it s2 tr c9 := by
  obtain ⟨v1, v2, v3, e62⟩ := x.c62
  obtain ⟨w1, w2, w3, e72⟩ := x.c72
  obtain ⟨wf, e73⟩ := x.c73
  exact x.t m.2.2 (nx_eq (f 0 (by decide) (by decide)) m.2.1) (fun a a1 _ => f a (by omega) (by omega)) (f 20 (by decide) (by decide)) (fun a a1 a2 => f a (by omega) (by omega)) (x.2.2.2.1.c (fun a a1 a2 => f a (by omega) (by omega))) (x.2.2.2.2.1.c (fun a a1 a2 => f a (by omega) (by omega))) (x.2.2.2.2.2.1.c (fun a a1 a2 => f a (by omega) (by omega))) ⟨v1, v2, v3, (f 62 (by decide) (by decide)).trans e62⟩ y ⟨w1, w2, w3, (f 72 (by decide) (by decide)).trans e72⟩ ⟨wf, (f 73 (by decide) (by decide)).trans e73⟩ (f 74 (by decide) (by decide)) (f 75 (by decide) (by decide))
theorem CXR.f53 (x : CXR h it s2 tr c9) (m : CM L xs h) (f : ∀ c, c ≠ 30 → c < 53 ∨ 61 < c → h2 c = h c) (y : rDuS h2) : CXR h2 it s2 tr c9 := by
  obtain ⟨v1, v2, v3, e62⟩ := x.c62
  obtain ⟨w1, w2, w3, e72⟩ := x.c72
  obtain ⟨wf, e73⟩ := x.c73
  exact x.t m.2.2 (nx_eq (f 0 (by decide) (by decide)) m.2.1) (fun a a1 _ => f a (by omega) (by omega)) (f 20 (by decide) (by decide)) (fun a a1 a2 => f a (by omega) (by omega)) (x.2.2.2.1.c (fun a a1 a2 => f a (by omega) (by omega))) (x.2.2.2.2.1.c (fun a a1 a2 => f a (by omega) (by omega))) y ⟨v1, v2, v3, (f 62 (by decide) (by decide)).trans e62⟩ (x.2.2.2.2.2.2.2.1.c (fun a a1 a2 => f a (by omega) (by omega))) ⟨w1, w2, w3, (f 72 (by decide) (by decide)).trans e72⟩ ⟨wf, (f 73 (by decide) (by decide)).trans e73⟩ (f 74 (by decide) (by decide)) (f 75 (by decide) (by decide))
/-- the reference's call: the class's objects stay -/
theorem CXR.fe (x : CXR h it s2 tr c9) (m : CM L xs h) (f : ∀ a, a < 76 ∨ 86 < a → h2 a = h a) : CXR h2 it s2 tr c9 := by
  obtain ⟨v1, v2, v3, e62⟩ := x.c62
  obtain ⟨w1, w2, w3, e72⟩ := x.c72
  obtain ⟨wf, e73⟩ := x.c73
  exact x.t m.2.2 (nx_eq (f 0 (by decide)) m.2.1) (fun a a1 _ => f a (by omega)) (f 20 (by decide)) (fun a a1 a2 => f a (by omega)) (x.2.2.2.1.c (fun a a1 a2 => f a (by omega))) (x.2.2.2.2.1.c (fun a a1 a2 => f a (by omega))) (x.2.2.2.2.2.1.c (fun a a1 a2 => f a (by omega))) ⟨v1, v2, v3, (f 62 (by decide)).trans e62⟩ (x.2.2.2.2.2.2.2.1.c (fun a a1 a2 => f a (by omega))) ⟨w1, w2, w3, (f 72 (by decide)).trans e72⟩ ⟨wf, (f 73 (by decide)).trans e73⟩ (f 74 (by decide)) (f 75 (by decide))
theorem CR.fe (x : CR 21 h s l le mo nb bA bB bW) (m : CM L xs h) (f : ∀ a, a < 76 ∨ 86 < a → h2 a = h a) : CR 21 h2 s l le mo nb bA bB bW := by
  obtain ⟨i, iv, X⟩ := x
  exact ⟨i, iv, X.t m.2.2 (fun a a1 a2 => f a (by omega)) (nx_eq (f 0 (by decide)) m.2.1) (fun a a1 _ => f a (by omega))⟩
/-- the class's call: the reference's stay -/
theorem MX.fx (x : MX h s s2 it tr c9) (f : ∀ a, 76 ≤ a → a ≤ 86 → h2 a = h a) : MX h2 s s2 it tr c9 := by
  obtain ⟨ir, o, t, pd, bw, x1, x2, ⟨f78, x3, x4⟩, x5, ⟨f79, x6⟩, ⟨f80, x7⟩, ⟨f81, x8⟩, x9, ⟨A, x10⟩, ⟨C, x11⟩, ⟨f84, x12⟩, ⟨f85, x13⟩, x14, x15⟩ := x
  have ho : 76 ≤ o ∧ o ≤ 86 ∧ 76 ≤ t ∧ t ≤ 86 := by rcases x9 with ⟨rfl, rfl⟩ | ⟨rfl, rfl⟩ <;> decide
  exact ⟨ir, o, t, pd, bw, (f 76 (by decide) (by decide)).trans x1, (f 77 (by decide) (by decide)).trans x2, ⟨f78, (f 78 (by decide) (by decide)).trans x3, x4⟩, x5, ⟨f79, (f 79 (by decide) (by decide)).trans x6⟩, ⟨f80, (f 80 (by decide) (by decide)).trans x7⟩, ⟨f81, (f 81 (by decide) (by decide)).trans x8⟩, x9, ⟨A, (f o ho.1 ho.2.1).trans x10⟩, ⟨C, (f t ho.2.2.1 ho.2.2.2).trans x11⟩, ⟨f84, (f 84 (by decide) (by decide)).trans x12⟩, ⟨f85, (f 85 (by decide) (by decide)).trans x13⟩, (f 86 (by decide) (by decide)).trans x14, x15⟩
theorem WP.x (W : WP L xs B U it s s2 tr c9 l le mo nb bA bB bW h) (f : ∀ a, a < 20 ∨ 75 < a → h2 a = h a) (X : CR 21 h2 s l le mo nb bA bB bW) (C : CXR h2 it s2 tr c9) : WP L xs B U it s s2 tr c9 l le mo nb bA bB bW h2 := by
  obtain ⟨w1, w2, w3, w4, w5, w6, w7, w8⟩ := W
  obtain ⟨m1, m2, m3⟩ := w6.c (h2 := h2) (fun a ha => f a (by omega))
  exact ⟨w1, w2, X, C, w5.fx (fun a a1 a2 => f a (by omega)), m1, by rw [m2]; exact w7, by rw [m3]; exact w8⟩
theorem WP.e (W : WP L xs B U it s s2 tr c9 l le mo nb bA bB bW h) (f : ∀ a, a < 76 ∨ 86 < a → h2 a = h a) (M : MX h2 s s2 it tr c9) : WW L xs (B + 2) (U + 103) h2 := by
  obtain ⟨w1, w2, w3, w4, w5, w6, w7, w8⟩ := W
  obtain ⟨m1, m2, m3⟩ := w6.c (h2 := h2) (fun a ha => f a (by omega))
  exact ⟨it, s, s2, tr, c9, l, le, mo, nb, bA, bB, bW, w1, w2, w3.fe w6 f, w4.fe w6 f, M, m1, by omega, by omega⟩
end
noncomputable def aI {α : Type} (P : Prop) (a b : α) : α := @ite _ P (Classical.propDecidable P) a b
theorem aI_p {α : Type} {P : Prop} {a b : α} (h : P) : aI P a b = a := by
  unfold aI
  exact if_pos h
theorem aI_n {α : Type} {P : Prop} {a b : α} (h : ¬ P) : aI P a b = b := by
  unfold aI
  exact if_neg h
