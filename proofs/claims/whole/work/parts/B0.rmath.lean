/-! The class's reader: what its code is. -/
theorem cTs_app : ∀ a b : List Tok, cTs (a ++ b) = cTs a ++ cTs b
  | [], _ => rfl
  | x :: a, b => by
    show cT x ++ cTs (a ++ b) = (cT x ++ cTs a) ++ cTs b
    rw [cTs_app a b, List.append_assoc]
theorem cTs_1 (x : Tok) : cTs [x] = cT x := List.append_nil _
theorem cA_c {cd cd2 : Nat → Int32} : ∀ {l : List Int32} {k : Nat}, (∀ j, k ≤ j → j < k + l.length → cd2 j = cd j) → cA cd k l → cA cd2 k l
  | [], _, _, _ => trivial
  | x :: l, k, h, hc => by
    refine ⟨(h k (Nat.le_refl _) (by rw [List.length_cons]; omega)).trans hc.1, cA_c (fun j h1 h2 => h j (by omega) (by rw [List.length_cons]; omega)) hc.2⟩
theorem cA_join {cd : Nat → Int32} {b : List Int32} : ∀ {a : List Int32} {k : Nat}, cA cd k a → cA cd (k + a.length) b → cA cd k (a ++ b)
  | [], _, _, h => h
  | x :: a, k, h1, h2 => ⟨h1.1, cA_join h1.2 (by rw [List.length_cons, show k + (a.length + 1) = k + 1 + a.length by omega] at h2; exact h2)⟩
/-- so many cells more -/
def cN (k0 : Nat) (cd cd2 : Nat → Int32) (k2 : Nat) (l : List Tok) : Prop := k2 = k0 + (cTs l).length ∧ cA cd2 k0 (cTs l) ∧ ∀ j, j < k0 → cd2 j = cd j
theorem cN.rfl' {k0 : Nat} {cd : Nat → Int32} : cN k0 cd cd k0 [] := ⟨rfl, trivial, fun _ _ => rfl⟩
theorem cN.tr {k0 k2 k3 : Nat} {cd cd2 cd3 : Nat → Int32} {a b : List Tok} (x : cN k0 cd cd2 k2 a) (y : cN k2 cd2 cd3 k3 b) : cN k0 cd cd3 k3 (a ++ b) := by
  obtain ⟨x1, x2, x3⟩ := x
  obtain ⟨y1, y2, y3⟩ := y
  refine ⟨?_, ?_, fun j hj => (y3 j (by omega)).trans (x3 j hj)⟩
  · rw [y1, x1, cTs_app, List.length_append, Nat.add_assoc]
  · rw [cTs_app]
    exact cA_join (cA_c (fun j _ h2 => y3 j (by omega)) x2) (by rw [← x1]; exact y2)
theorem cN_1 {k : Nat} {cd : Nat → Int32} {x : Tok} {v : Int32} (h : cT x = [v]) : cN k cd (upd cd k v) (k + 1) [x] := by
  refine ⟨?_, ?_, fun j hj => upd_n _ _ (by omega)⟩
  · rw [cTs_1, h]; rfl
  · rw [cTs_1, h]; exact ⟨upd_s _ _ _, trivial⟩
theorem cN_2 {k : Nat} {cd : Nat → Int32} {x : Tok} {v w : Int32} (h : cT x = [v, w]) : cN k cd (upd (upd cd k v) (k + 1) w) (k + 2) [x] := by
  refine ⟨?_, ?_, fun j hj => by rw [upd_n _ _ (by omega), upd_n _ _ (by omega)]⟩
  · rw [cTs_1, h]; rfl
  · rw [cTs_1, h]
    exact ⟨by rw [upd_n _ _ (by omega), upd_s], upd_s _ _ _, trivial⟩
/-- a cell a token -/
def tN (l : List Tok) : Prop := (cTs l).length = l.length
theorem tN_app {a b : List Tok} (x : tN a) (y : tN b) : tN (a ++ b) := by
  unfold tN at x y ⊢
  rw [cTs_app, List.length_append, List.length_append, x, y]
theorem tN_1 {x : Tok} (h : (cT x).length = 1) : tN [x] := by
  unfold tN
  rw [cTs_1, h]
  rfl
def pN (r : pR) : Prop := r.1 = true → tN r.2.2
theorem pTest_n (g : Nat → Int32) (p : Nat) : pN (pTest g p) := by
  unfold pTest
  cases pAb (g p) with
  | none => exact fun z => absurd (show false = true from z) (by decide)
  | some w =>
    cases pCm (g (p + 1)) with
    | none => exact fun z => absurd (show false = true from z) (by decide)
    | some c => exact fun _ => tN_1 rfl
theorem pLoop_n {F : Nat → pR} {g : Nat → Int32} {c : Int32} {k : Nat} (hk : k = 1 ∨ k = 2) (hF : ∀ p, pN (F p)) : ∀ {n : Nat} {r : pR}, pN r → pN (pLoop F g c k n r)
  | 0, _, hr => hr
  | n + 1, r, hr => by
    unfold pLoop
    split
    · rename_i z
      refine pLoop_n hk hF (fun w => ?_)
      exact tN_app (tN_app (hr z.1) (hF _ w)) (tN_1 (by rcases hk with rfl | rfl <;> rfl))
    · exact hr
theorem pEv_n {F : Nat → pR} {g : Nat → Int32} (hF : ∀ p, pN (F p)) (p : Nat) : pN (pEv F g p) := pLoop_n (Or.inl rfl) hF (hF p)
theorem pSo_n {F : Nat → pR} {g : Nat → Int32} (hF : ∀ p, pN (F p)) (p : Nat) : pN (pSo F g p) := pLoop_n (Or.inr rfl) (pEv_n hF) (pEv_n hF p)
theorem pF_n (g : Nat → Int32) : ∀ lf p, pN (pF g lf p)
  | 0, p => by
    unfold pF
    split
    · exact fun z => absurd (show false = true from z) (by decide)
    · exact pTest_n g p
  | lf + 1, p => by
    unfold pF
    split
    · exact fun w => tN_app (pF_n g lf (p + 1) w) (tN_1 rfl)
    · split
      · split
        · rename_i y
          exact fun _ => pSo_n (pF_n g lf) (p + 1) y.1
        · exact fun z => absurd z (by show ¬ false = true; decide)
      · exact pTest_n g p
theorem pLoop_stop {F : Nat → pR} {g : Nat → Int32} {c : Int32} {k n : Nat} {r : pR} (h : ¬ (r.1 = true ∧ g r.2.1 = c)) : pLoop F g c k n r = r := by
  cases n with
  | zero => rfl
  | succ n => unfold pLoop; rw [if_neg h]
theorem pLoop_go {F : Nat → pR} {g : Nat → Int32} {c : Int32} {k n : Nat} {r : pR} (h : r.1 = true ∧ g r.2.1 = c) : pLoop F g c k (n + 1) r = pLoop F g c k n ((F (r.2.1 + 1)).1, (F (r.2.1 + 1)).2.1, r.2.2 ++ (F (r.2.1 + 1)).2.2 ++ [.inr (.inl k)]) := by
  rw [pLoop, if_pos h]
/-- the reader, at a place -/
def rRd (h : mH) (p : Nat) (lf mf : Int32) (cd : Nat → Int32) (k e : Nat) : Prop := h 51 = .inr (6, [.int (nI p), .int lf, .int mf, .ref 52, .int (nI k), .ref 26, .int (nI e)]) ∧ h 52 = .inl (0, 100, .inl cd) ∧ k ≤ 100
def rTp (h : mH) (g : Nat → Int32) (e : Nat) : Prop := (∃ tf, h 26 = .inl (0, 100, .inl tf) ∧ ∀ p, p < e → tf p = g p) ∧ gOk g e ∧ e ≤ 100 ∧ 87 ≤ m_nx h
theorem rTp.c {h h2 : mH} {g : Nat → Int32} {e : Nat} (x : rTp h g e) (hh : ∀ a, a ≠ 51 → a ≠ 52 → h2 a = h a) : rTp h2 g e := by
  obtain ⟨⟨tf, x1, x2⟩, x3, x4, x5⟩ := x
  exact ⟨⟨tf, (hh 26 (by decide) (by decide)).trans x1, x2⟩, x3, x4, nx_eq (hh 0 (by decide) (by decide)) x5⟩
def oSp (z d op e : Nat) (g : Nat → Int32) (F : Nat → pR) : Prop := ∀ (h : mH) (p k0 : Nat) (lf mf : Int32) (cd : Nat → Int32) (Q : Option Value → mH → Prop), rRd h p lf mf cd k0 e → rTp h g e → p ≤ e → k0 ≤ p → (∀ h2 cd2 k2, (∀ a, a ≠ 51 → a ≠ 52 → h2 a = h a) → rRd h2 (F p).2.1 lf mf cd2 k2 e → ((F p).1 = true → cN k0 cd cd2 k2 (F p).2.2) → Q (some (.int (bI (F p).1))) h2) → mT0 d z 0 (m_init z [.ref 51, .int (nI op)]) [] h Q
