/-! By program (wip/whole/book*.py) and hand. -/
/-- what the tests of an inn are about -/
def v_by (s : Nat → Int32) (p q : Nat) : Nat → Int32
  | 0 => nI p
  | 1 => s (12 + p)
  | 2 => s (1 + p)
  | 3 => s (1 + q)
  | _ => s 0 - s 0 / 10 * 10
theorem v_toks_c (f f' : Nat → Int32) (hf : ∀ k, k < 5 → f k = f' k) : ∀ (l : List Tok) (k : Nat) (st : List Bool) (x : Int32), w_toks k l → v_toks f l st x = v_toks f' l st x
  | [], _, _, _, _ => rfl
  | .inl (w, c, v) :: l, k, st, x, h => by
    have e : v_test f w c v = v_test f' w c v := by unfold v_test; rw [hf w h.1]
    show v_toks f l (v_test f w c v :: st) x = v_toks f' l (v_test f' w c v :: st) x
    rw [e]
    exact v_toks_c f f' hf l _ _ _ h.2.2.2.2
  | .inr (.inl 0) :: l, k, st, x, h => v_toks_c f f' hf l _ _ _ h.2
  | .inr (.inl 1) :: l, k, st, x, h => v_toks_c f f' hf l _ _ _ h.2
  | .inr (.inl (n + 2)) :: l, k, st, x, h => v_toks_c f f' hf l _ _ _ h.2
  | .inr (.inr (b, n)) :: l, k, st, x, h => v_toks_c f f' hf l _ _ _ h.2.2
/-- the inn that holds, by its steps -/
def s_L (s : Nat → Int32) (l : List Tok) : Prop := w_toks 0 l ∧ l.length ≤ 140 ∧ ((s 11 = -1 ∧ l = []) ∨ ∃ a : Nat, a < 5 ∧ s 11 = nI a ∧ s (184 + a) = nI l.length ∧ t_C s (189 + 140 * a) l)
/-- the heap but for the rows of lifted -/
def rO (h h2 : mH) : Prop := (∀ a, a ≠ 80 → a ≠ 81 → h2 a = h a) ∧ (∃ f, h2 80 = .inl (0, 5, .inl f)) ∧ ∃ g, h2 81 = .inl (2, 64, .inl g)