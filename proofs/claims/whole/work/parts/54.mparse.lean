/-! The parser, by itself. -/
abbrev isDig (c : Int32) : Prop := 48 ≤ c ∧ c ≤ 57

def dv (c : Int32) : Nat := (c - 48).toNatClampNeg
def pNum (g : Nat → Int32) (p : Nat) : Bool × Nat × Nat := if isDig (g p) then (if 0 < dv (g p) ∧ isDig (g (p + 1)) then (true, p + 2, 10 * dv (g p) + dv (g (p + 1))) else (true, p + 1, dv (g p))) else (false, p, 0)
def pAb (c : Int32) : Option Nat := if c = 112 then some 0 else if c = 107 then some 1 else if c = 109 then some 2 else if c = 111 then some 3 else if c = 103 then some 4 else none
def pCm (c : Int32) : Option Nat := if c = 60 then some 0 else if c = 61 then some 1 else if c = 62 then some 2 else none
abbrev pR : Type := Bool × Nat × List Tok
def pTest (g : Nat → Int32) (p : Nat) : pR := match pAb (g p) with
  | none => (false, p, [])
  | some w => match pCm (g (p + 1)) with
    | none => (false, p + 1, [])
    | some c => ((pNum g (p + 2)).1, (pNum g (p + 2)).2.1, [.inl (w, c, (pNum g (p + 2)).2.2)])
def pLoop (F : Nat → pR) (g : Nat → Int32) (c : Int32) (k : Nat) : Nat → pR → pR
  | 0, r => r
  | n + 1, r => if r.1 = true ∧ g r.2.1 = c then pLoop F g c k n ((F (r.2.1 + 1)).1, (F (r.2.1 + 1)).2.1, r.2.2 ++ (F (r.2.1 + 1)).2.2 ++ [.inr (.inl k)]) else r
def pEv (F : Nat → pR) (g : Nat → Int32) (p : Nat) : pR := pLoop F g 38 1 101 (F p)
def pSo (F : Nat → pR) (g : Nat → Int32) (p : Nat) : pR := pLoop (pEv F g) g 124 2 101 (pEv F g p)
def pF (g : Nat → Int32) : Nat → Nat → pR
  | 0, p => if g p = 33 ∨ g p = 40 then (false, p, []) else pTest g p
  | lf + 1, p => if g p = 33 then ((pF g lf (p + 1)).1, (pF g lf (p + 1)).2.1, (pF g lf (p + 1)).2.2 ++ [.inr (.inl 0)])
    else if g p = 40 then (if (pSo (pF g lf) g (p + 1)).1 = true ∧ g (pSo (pF g lf) g (p + 1)).2.1 = 41 then (true, (pSo (pF g lf) g (p + 1)).2.1 + 1, (pSo (pF g lf) g (p + 1)).2.2) else (false, (pSo (pF g lf) g (p + 1)).2.1, (pSo (pF g lf) g (p + 1)).2.2))
    else pTest g p
/-- how far a reader goes, and how many steps it leaves: signs are there below e alone -/
def pOk (e : Nat) (p : Nat) (r : pR) : Prop := p ≤ r.2.1 ∧ (p ≤ e → r.2.1 ≤ e) ∧ (r.1 = true → p + 1 ≤ r.2.1 ∧ r.2.2.length + p ≤ r.2.1)
def gOk (g : Nat → Int32) (e : Nat) : Prop := ∀ p, e ≤ p → g p = -1
theorem gOk.lt {g : Nat → Int32} {e p : Nat} (h : gOk g e) {c : Int32} (hc : g p = c) (h1 : ¬ c = -1) : p < e := by
  rcases Nat.lt_or_ge p e with z | z
  · exact z
  · exact absurd (hc.symm.trans (h p z)) h1
theorem gOk.dig {g : Nat → Int32} {e p : Nat} (h : gOk g e) (hd : isDig (g p)) : p < e := by
  rcases Nat.lt_or_ge p e with z | z
  · exact z
  · rw [h p z] at hd
    exact absurd hd (by decide)
theorem dv_lt {c : Int32} (h : isDig c) : dv c ≤ 9 ∧ c - 48 = nI (dv c) := by
  obtain ⟨h1, h2⟩ := h
  obtain ⟨j, hj, rfl⟩ := i_nat (n := 57) (Int32.le_trans (by decide) h1) h2 (by omega)
  have h48 : 48 ≤ j := (nI_leI (a := 48) (b := j) (by omega) (by omega)).mp h1
  have e : nI j - 48 = nI (j - 48) := by rw [show (48 : Int32) = nI 48 from rfl, pk_sub h48]
  unfold dv
  rw [e, i_cl _ (by omega)]
  exact ⟨by omega, rfl⟩
theorem pNum_ok {g : Nat → Int32} {e p : Nat} (h : gOk g e) : p ≤ (pNum g p).2.1 ∧ (p ≤ e → (pNum g p).2.1 ≤ e) ∧ (pNum g p).2.2 < 100 ∧ ((pNum g p).1 = true → p + 1 ≤ (pNum g p).2.1) := by
  unfold pNum
  by_cases h1 : isDig (g p)
  · have a1 := h.dig h1
    have b1 := dv_lt h1
    rw [if_pos h1]
    by_cases h2 : 0 < dv (g p) ∧ isDig (g (p + 1))
    · have a2 := h.dig h2.2
      have b2 := dv_lt h2.2
      rw [if_pos h2]
      exact ⟨by show p ≤ p + 2; omega, fun _ => by show p + 2 ≤ e; omega, by show 10 * _ + _ < 100; omega, fun _ => by show p + 1 ≤ p + 2; omega⟩
    · rw [if_neg h2]
      exact ⟨by show p ≤ p + 1; omega, fun _ => by show p + 1 ≤ e; omega, by show dv _ < 100; omega, fun _ => Nat.le_refl _⟩
  · rw [if_neg h1]
    exact ⟨Nat.le_refl _, fun h => h, by show 0 < 100; decide, fun z => absurd (show false = true from z) (by decide)⟩
theorem pAb_some {c : Int32} {w : Nat} (h : pAb c = some w) : w < 5 ∧ ¬ c = -1 := by
  unfold pAb at h
  repeat' split at h
  all_goals first | (cases h; rename_i z; subst z; exact ⟨by decide, by decide⟩) | cases h
theorem pCm_some {c : Int32} {w : Nat} (h : pCm c = some w) : w < 3 ∧ ¬ c = -1 := by
  unfold pCm at h
  repeat' split at h
  all_goals first | (cases h; rename_i z; subst z; exact ⟨by decide, by decide⟩) | cases h
theorem pTest_ok {g : Nat → Int32} {e p : Nat} (h : gOk g e) : pOk e p (pTest g p) := by
  unfold pTest
  cases h1 : pAb (g p) with
  | none => exact ⟨Nat.le_refl _, fun z => z, fun z => absurd (show false = true from z) (by decide)⟩
  | some w =>
    have a1 := h.lt rfl (pAb_some h1).2
    cases h2 : pCm (g (p + 1)) with
    | none => exact ⟨by show p ≤ p + 1; omega, fun _ => by show p + 1 ≤ e; omega, fun z => absurd (show false = true from z) (by decide)⟩
    | some c =>
      have a2 := h.lt rfl (pCm_some h2).2
      obtain ⟨b1, b2, b3, b4⟩ := pNum_ok (p := p + 2) h
      exact ⟨by show p ≤ (pNum g (p + 2)).2.1; omega, fun _ => b2 (by omega), fun z => by
        have := b4 z
        show p + 1 ≤ (pNum g (p + 2)).2.1 ∧ 1 + p ≤ (pNum g (p + 2)).2.1
        omega⟩
theorem pLoop_ok {F : Nat → pR} {g : Nat → Int32} {e : Nat} {c : Int32} {k p : Nat} (h : gOk g e) (hc : ¬ c = -1) (hF : ∀ p, pOk e p (F p)) : ∀ {n : Nat} {r : pR}, pOk e p r → pOk e p (pLoop F g c k n r)
  | 0, _, hr => hr
  | n + 1, r, hr => by
    unfold pLoop
    split
    · rename_i z
      have a1 := h.lt z.2 hc
      obtain ⟨b1, b2, b3⟩ := hF (r.2.1 + 1)
      obtain ⟨c1, c2, c3⟩ := hr
      refine pLoop_ok h hc hF ⟨?_, fun hp => ?_, fun w => ?_⟩
      · show p ≤ (F (r.2.1 + 1)).2.1
        omega
      · exact b2 (by omega)
      · have d1 := b3 w
        have d2 := c3 z.1
        show p + 1 ≤ (F (r.2.1 + 1)).2.1 ∧ (r.2.2 ++ (F (r.2.1 + 1)).2.2 ++ [Sum.inr (Sum.inl k)]).length + p ≤ (F (r.2.1 + 1)).2.1
        rw [List.length_append, List.length_append, List.length_singleton]
        omega
    · exact hr
theorem pEv_ok {F : Nat → pR} {g : Nat → Int32} {e : Nat} (h : gOk g e) (hF : ∀ p, pOk e p (F p)) (p : Nat) : pOk e p (pEv F g p) := pLoop_ok h (by decide) hF (hF p)
theorem pSo_ok {F : Nat → pR} {g : Nat → Int32} {e : Nat} (h : gOk g e) (hF : ∀ p, pOk e p (F p)) (p : Nat) : pOk e p (pSo F g p) := pLoop_ok h (by decide) (pEv_ok h hF) (pEv_ok h hF p)
theorem pF_ok {g : Nat → Int32} {e : Nat} (h : gOk g e) : ∀ lf p, pOk e p (pF g lf p)
  | 0, p => by
    unfold pF
    split
    · exact ⟨Nat.le_refl _, fun z => z, fun z => absurd (show false = true from z) (by decide)⟩
    · exact pTest_ok h
  | lf + 1, p => by
    unfold pF
    split
    · rename_i z
      have a1 := h.lt z (by decide)
      obtain ⟨b1, b2, b3⟩ := pF_ok h lf (p + 1)
      refine ⟨?_, fun _ => b2 (by omega), fun w => ?_⟩
      · show p ≤ (pF g lf (p + 1)).2.1
        omega
      · have := b3 w
        show p + 1 ≤ (pF g lf (p + 1)).2.1 ∧ ((pF g lf (p + 1)).2.2 ++ [Sum.inr (Sum.inl 0)]).length + p ≤ (pF g lf (p + 1)).2.1
        rw [List.length_append, List.length_singleton]
        omega
    · split
      · rename_i z2 z
        have a1 := h.lt z (by decide)
        obtain ⟨b1, b2, b3⟩ := pSo_ok h (pF_ok h lf) (p + 1)
        split
        · rename_i y
          have a2 := h.lt y.2 (by decide)
          have := b3 y.1
          refine ⟨?_, fun _ => ?_, fun _ => ⟨?_, ?_⟩⟩
          · show p ≤ (pSo (pF g lf) g (p + 1)).2.1 + 1
            omega
          · show (pSo (pF g lf) g (p + 1)).2.1 + 1 ≤ e
            omega
          · show p + 1 ≤ (pSo (pF g lf) g (p + 1)).2.1 + 1
            omega
          · show (pSo (pF g lf) g (p + 1)).2.2.length + p ≤ (pSo (pF g lf) g (p + 1)).2.1 + 1
            omega
        · refine ⟨?_, fun _ => b2 (by omega), fun w => absurd w (by show ¬ false = true; decide)⟩
          show p ≤ (pSo (pF g lf) g (p + 1)).2.1
          omega
      · exact pTest_ok h
/-- well made, with so much room of the stack -/
def pW (D : Nat) (r : pR) : Prop := r.1 = true → ∀ k rest, k + D ≤ 13 → w_toks (k + 1) rest → w_toks k (r.2.2 ++ rest)
theorem pTest_w {g : Nat → Int32} {e p : Nat} (h : gOk g e) : pW 1 (pTest g p) := by
  unfold pTest
  cases h1 : pAb (g p) with
  | none => exact fun z => absurd (show false = true from z) (by decide)
  | some w =>
    cases h2 : pCm (g (p + 1)) with
    | none => exact fun z => absurd (show false = true from z) (by decide)
    | some c => exact fun _ k rest hk hr => ⟨(pAb_some h1).1, (pCm_some h2).1, (pNum_ok (p := p + 2) h).2.2.1, by omega, hr⟩
theorem pLoop_w {F : Nat → pR} {g : Nat → Int32} {c : Int32} {k D : Nat} (hk : k = 1 ∨ k = 2) (hF : ∀ p, pW D (F p)) : ∀ {n : Nat} {r : pR}, pW (D + 1) r → pW (D + 1) (pLoop F g c k n r)
  | 0, _, hr => hr
  | n + 1, r, hr => by
    unfold pLoop
    split
    · rename_i z
      refine pLoop_w hk hF (fun w j rest hj hrest => ?_)
      show w_toks j (r.2.2 ++ (F (r.2.1 + 1)).2.2 ++ [Sum.inr (Sum.inl k)] ++ rest)
      rw [List.append_assoc, List.append_assoc]
      refine hr z.1 j _ hj (hF _ w (j + 1) _ (by omega) ?_)
      rcases hk with rfl | rfl <;> exact ⟨by omega, hrest⟩
    · exact hr
theorem pW.mono {D E : Nat} {r : pR} (h : pW D r) (hD : D ≤ E) : pW E r := fun z k rest hk hr => h z k rest (by omega) hr
theorem pEv_w {F : Nat → pR} {g : Nat → Int32} {D : Nat} (hF : ∀ p, pW D (F p)) (p : Nat) : pW (D + 1) (pEv F g p) := pLoop_w (Or.inl rfl) hF ((hF p).mono (Nat.le_succ _))
theorem pSo_w {F : Nat → pR} {g : Nat → Int32} {D : Nat} (hF : ∀ p, pW D (F p)) (p : Nat) : pW (D + 2) (pSo F g p) := pLoop_w (Or.inr rfl) (pEv_w hF) ((pEv_w hF p).mono (Nat.le_succ _))
theorem pF_w {g : Nat → Int32} {e : Nat} (h : gOk g e) : ∀ lf p, pW (2 * lf + 1) (pF g lf p)
  | 0, p => by
    unfold pF
    split
    · exact fun z => absurd (show false = true from z) (by decide)
    · exact pTest_w h
  | lf + 1, p => by
    unfold pF
    split
    · intro w k rest hk hr
      show w_toks k ((pF g lf (p + 1)).2.2 ++ [Sum.inr (Sum.inl 0)] ++ rest)
      rw [List.append_assoc]
      exact pF_w h lf (p + 1) w k _ (by omega) ⟨by omega, hr⟩
    · split
      · split
        · rename_i y
          intro _ k rest hk hr
          exact pSo_w (pF_w h lf) (p + 1) y.1 k rest (by omega) hr
        · exact fun z => absurd z (by show ¬ false = true; decide)
      · exact (pTest_w h).mono (by omega)
