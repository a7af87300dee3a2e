/-! Rows for rows of truths; what an inn is. -/
section
variable {d y pc nx : Nat} {w : Value} {ls : mL} {r : List Value} {h : mH} {Q : Option Value → mH → Prop} {a k n : Nat} {i x : Int32} {f : Nat → Int32}
theorem mT_baldK (hc : m_cd y pc = some (.baload, nx, [], w)) (ha : h a = .inl (2, n, .inl f)) (hk : i = nI k) (hlt : k < n) (hn : n ≤ 100000) (K : mT0 d y nx ls (.int (f k) :: r) h Q) : mT0 d y pc ls (.int i :: .ref a :: r) h Q := by
  subst hk
  refine mT_bald hc ha (m_in_nI hlt hn) ?_
  rw [nI_clamp (by omega)]
  exact K
theorem mT_bastK (hc : m_cd y pc = some (.bastore, nx, [], w)) (ha : h a = .inl (2, n, .inl f)) (hk : i = nI k) (hlt : k < n) (hn : n ≤ 100000) (hN : 87 ≤ m_nx h) (hg : (Nat.ble 20 a && Nat.ble (a + 1) 87) = true) (hb : x = 0 ∨ x = 1) (K : mT0 d y nx ls r (m_up h a (.inl (2, n, .inl (upd f k x)))) Q) : mT0 d y pc ls (.int x :: .int i :: .ref a :: r) h Q := by
  subst hk
  simp only [Bool.and_eq_true] at hg
  refine mT_bast hc ha (m_in_nI hlt hn) ?_ ?_
  · simp only [Bool.and_eq_true]
    exact ⟨hg.1, Nat.ble_eq_true_of_le (Nat.le_trans (Nat.le_of_ble_eq_true hg.2) hN)⟩
  · rw [nI_clamp (by omega)]
    rcases hb with rfl | rfl
    · exact K
    · exact K
end
/-- a step of an inn: a test (which, how, number); 0 not, 1 and, 2 or; what lifts (or ducks) -/
abbrev Tok : Type := (Nat × Nat × Nat) ⊕ (Nat ⊕ (Bool × Nat))
def rT : Tok → Int32
  | .inl (w, c, v) => nI (w + 8 * c + 32 * v)
  | .inr (.inl 0) => -1
  | .inr (.inl 1) => -2
  | .inr (.inl _) => -3
  | .inr (.inr (false, n)) => -10 - nI n
  | .inr (.inr (true, n)) => -200 - nI n
def cT : Tok → List Int32
  | .inl (w, c, v) => [nI ((w * 3 + c) * 100 + v)]
  | .inr (.inl 0) => [-1]
  | .inr (.inl 1) => [-2]
  | .inr (.inl _) => [-3]
  | .inr (.inr (false, n)) => [-4, nI n]
  | .inr (.inr (true, n)) => [-4, -nI n]
def bI (b : Bool) : Int32 := cond b 1 0
def v_test (f : Nat → Int32) (w c v : Nat) : Bool := if c = 0 then decide (f w < nI v) else if c = 1 then decide (f w = nI v) else decide (nI v < f w)
/-- one step: the truths (the last one ahead) and the sum -/
def v_tok (f : Nat → Int32) (st : List Bool) (x : Int32) : Tok → List Bool × Int32
  | .inl (w, c, v) => (v_test f w c v :: st, x)
  | .inr (.inl 0) => (match st with | [] => [] | b :: r => (!b) :: r, x)
  | .inr (.inl 1) => (match st with | b :: c :: r => (c && b) :: r | r => r, x)
  | .inr (.inl _) => (match st with | b :: c :: r => (c || b) :: r | r => r, x)
  | .inr (.inr (k, n)) => ([], x + (match st with | true :: _ => (cond k (-nI n) (nI n)) | _ => 0))
def v_toks (f : Nat → Int32) : List Tok → List Bool → Int32 → Int32
  | [], _, x => x
  | t :: l, st, x => v_toks f l (v_tok f st x t).1 (v_tok f st x t).2
/-- well made, with so many truths held -/
def w_toks : Nat → List Tok → Prop
  | k, [] => k = 0
  | k, .inl (w, c, v) :: l => w < 5 ∧ c < 3 ∧ v < 100 ∧ k < 13 ∧ w_toks (k + 1) l
  | k, .inr (.inl 0) :: l => 0 < k ∧ w_toks k l
  | k, .inr (.inl _) :: l => 1 < k ∧ w_toks (k - 1) l
  | k, .inr (.inr (_, n)) :: l => k = 1 ∧ n < 100 ∧ w_toks 0 l
/-- the truths lie in the row -/
def t_S (g : Nat → Int32) : List Bool → Prop
  | [] => True
  | b :: r => g r.length = bI b ∧ t_S g r
theorem t_S_upd {g : Nat → Int32} {k : Nat} {x : Int32} : ∀ {r : List Bool}, r.length ≤ k → t_S g r → t_S (upd g k x) r
  | [], _, _ => trivial
  | b :: r, hk, h => ⟨by rw [upd_n g x (show r.length ≠ k by simp only [List.length_cons] at hk; omega)]; exact h.1, t_S_upd (by simp only [List.length_cons] at hk; omega) h.2⟩
