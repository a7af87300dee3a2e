/-! Numbers: sums of longs, games by all ways. -/
def iL (x : Int) : Int64 := Int64.ofInt x
theorem iL_add (a b : Int) : iL (a + b) = iL a + iL b := Int64.ofInt_add a b
theorem iL_mul (a b : Int) : iL (a * b) = iL a * iL b := Int64.ofInt_mul a b
theorem iL_N (n : Nat) : iL (n : Int) = lN n := rfl
theorem iL_0 : iL 0 = 0 := rfl
theorem iL_1 : iL 1 = 1 := rfl
theorem iL_10 : iL 10 = 10 := rfl
theorem iL_sub (a b : Int) : iL (a - b) = iL a - iL b := Int64.ofInt_sub a b
/-- the sum of the first n -/
def sL (f : Nat → Int64) : Nat → Int64
  | 0 => 0
  | n + 1 => sL f n + f n
theorem sL_congr {f g : Nat → Int64} : ∀ {n : Nat}, (∀ k, k < n → f k = g k) → sL f n = sL g n
  | 0, _ => rfl
  | n + 1, h => by
    show sL f n + f n = sL g n + g n
    rw [sL_congr (fun k hk => h k (by omega)), h n (by omega)]
theorem sL_zero {f : Nat → Int64} : ∀ {n : Nat}, (∀ k, k < n → f k = 0) → sL f n = 0
  | 0, _ => rfl
  | n + 1, h => by
    show sL f n + f n = 0
    rw [sL_zero (fun k hk => h k (by omega)), h n (by omega)]
    rfl
theorem sL_one (f : Nat → Int64) {j : Nat} : ∀ {n : Nat}, j < n → (∀ k, k < n → k ≠ j → f k = 0) → sL f n = f j
  | 0, h, _ => absurd h (by omega)
  | n + 1, h, hz => by
    show sL f n + f n = f j
    by_cases e : j = n
    · subst e
      rw [sL_zero (fun k hk => hz k (by omega) (by omega)), Int64.zero_add]
    · rw [sL_one f (show j < n by omega) (fun k hk hkj => hz k (by omega) hkj), hz n (by omega) (by omega), Int64.add_zero]
theorem sL_upd (A φ : Nat → Int64) (x : Int64) {j : Nat} : ∀ {n : Nat}, j < n → sL (fun k => vp_updL A j (A j + x) k * φ k) n = sL (fun k => A k * φ k) n + x * φ j
  | 0, h => absurd h (by omega)
  | n + 1, h => by
    show sL (fun k => vp_updL A j (A j + x) k * φ k) n + vp_updL A j (A j + x) n * φ n = sL (fun k => A k * φ k) n + A n * φ n + x * φ j
    by_cases e : j = n
    · subst e
      rw [pk_uLs, sL_congr (g := fun k => A k * φ k) (fun k hk => by rw [pk_uLn (show k ≠ j by omega)])]
      grind
    · rw [pk_uLn (show n ≠ j by omega), sL_upd A φ x (show j < n by omega)]
      grind
theorem sL_add (f g : Nat → Int64) : ∀ n, sL (fun k => f k + g k) n = sL f n + sL g n
  | 0 => rfl
  | n + 1 => by
    show sL (fun k => f k + g k) n + (f n + g n) = sL f n + f n + (sL g n + g n)
    rw [sL_add f g n]
    grind
/-- the sum of the first n counts -/
def sN (f : Nat → Nat) : Nat → Nat
  | 0 => 0
  | n + 1 => sN f n + f n
def updM (f : Nat → Nat) (k x : Nat) : Nat → Nat := fun j => if j = k then x else f j
theorem sN_upd (A : Nat → Nat) (x : Nat) {j : Nat} : ∀ {n : Nat}, j < n → sN (updM A j (A j + x)) n = sN A n + x
  | 0, h => absurd h (by omega)
  | n + 1, h => by
    show sN (updM A j (A j + x)) n + updM A j (A j + x) n = sN A n + A n + x
    by_cases e : j = n
    · subst e
      have : sN (updM A j (A j + x)) j = sN A j := by
        have h9 : ∀ m, m ≤ j → sN (updM A j (A j + x)) m = sN A m := by
          intro m
          induction m with
          | zero => intro _; rfl
          | succ m ih =>
            intro hm
            show sN (updM A j (A j + x)) m + updM A j (A j + x) m = sN A m + A m
            rw [ih (by omega), show updM A j (A j + x) m = A m from if_neg (by omega)]
        exact h9 j (Nat.le_refl _)
      rw [this, show updM A j (A j + x) j = A j + x from if_pos rfl]
      omega
    · rw [show updM A j (A j + x) n = A n from if_neg (by omega), sN_upd A x (show j < n by omega)]
      omega
theorem sN_le (A : Nat → Nat) : ∀ {n j : Nat}, j < n → A j ≤ sN A n
  | 0, _, h => absurd h (by omega)
  | n + 1, j, h => by
    show A j ≤ sN A n + A n
    by_cases e : j = n
    · subst e; omega
    · have := sN_le A (show j < n by omega)
      omega
/-- all ways of so many games: what is in the mean (as parts of ten a game) at the end; st may end them, rw is gained ahead of each -/
def eG (od : Nat → Nat → Nat → Nat) (fw mr : Nat → Nat) (st : Nat → Nat → Nat → Nat → Option Int) (rw : Nat → Nat → Nat → Nat → Int) : Nat → Nat → Nat → Nat → Nat → Int
  | 0, _, w, m, o => (st 0 w m o).getD 0
  | n + 1, g, w, m, o => match st (n + 1) w m o with
    | some v => v
    | none => rw n g m o + od m o g * eG od fw mr st rw n (g + 1) (w + 1) (fw m) (mr o) + (10 - od m o g) * eG od fw mr st rw n (g + 1) w (mr m) (fw o)
def st_wins (W : Nat) : Nat → Nat → Nat → Nat → Option Int
  | 0, w, _, _ => some (if w = W then 1 else 0)
  | _ + 1, _, _, _ => none
def st_mean : Nat → Nat → Nat → Nat → Option Int
  | 0, _, m, _ => some m
  | _ + 1, _, _, _ => none
def st_ends (n _ m _ : Nat) : Option Int := if m = 1 then some ((10 ^ n : Nat) : Int) else none
def st_first (k n w _ _ : Nat) : Option Int := if w = k then some ((10 ^ n : Nat) : Int) else none
def st_no (_ _ _ _ : Nat) : Option Int := none
def rw_no (_ _ _ _ : Nat) : Int := 0
def rw_st (od : Nat → Nat → Nat → Nat) (n g m o : Nat) : Int := ((10 ^ n : Nat) : Int) * (od m o g * o - (10 - od m o g) * m)
