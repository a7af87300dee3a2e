/-! Odds of the other one. -/
/-- an int that is small -/
def sm (x : Int32) (B : Nat) : Prop := ∃ z : Int, x = Int32.ofInt z ∧ z.natAbs ≤ B
theorem sm.add {x y : Int32} {A B : Nat} (h1 : sm x A) (h2 : sm y B) : sm (x + y) (A + B) := by
  obtain ⟨a, rfl, ha⟩ := h1
  obtain ⟨b, rfl, hb⟩ := h2
  exact ⟨a + b, (Int32.ofInt_add a b).symm, by omega⟩
theorem sm.sub {x y : Int32} {A B : Nat} (h1 : sm x A) (h2 : sm y B) : sm (x - y) (A + B) := by
  obtain ⟨a, rfl, ha⟩ := h1
  obtain ⟨b, rfl, hb⟩ := h2
  exact ⟨a - b, (Int32.ofInt_sub a b).symm, by omega⟩
theorem sm.mono {x : Int32} {A B : Nat} (h : sm x A) (hAB : A ≤ B) : sm x B := by
  obtain ⟨z, e, hz⟩ := h
  exact ⟨z, e, Nat.le_trans hz hAB⟩
theorem sm_n {n B : Nat} (h : n ≤ B) : sm (nI n) B := ⟨n, rfl, by rw [Int.natAbs_natCast]; exact h⟩
theorem sm_neg {n B : Nat} (h : n ≤ B) : sm (-nI n) B := ⟨-(n : Int), (Int32.ofInt_neg n).symm, by omega⟩
theorem sm_ite {c : Prop} [Decidable c] {a b : Int32} {B : Nat} (ha : sm a B) (hb : sm b B) : sm (if c then a else b) B := by
  split
  · exact ha
  · exact hb
theorem sm_toks (f : Nat → Int32) : ∀ (l : List Tok) (k : Nat) (st : List Bool) (x : Int32) (B : Nat), w_toks k l → sm x B → sm (v_toks f l st x) (B + 100 * l.length)
  | [], _, _, _, _, _, hx => hx
  | .inl (w, c, v) :: l, k, st, x, B, h, hx => (sm_toks f l _ _ x B h.2.2.2.2 hx).mono (by rw [List.length_cons]; omega)
  | .inr (.inl 0) :: l, k, st, x, B, h, hx => (sm_toks f l _ _ x B h.2 hx).mono (by rw [List.length_cons]; omega)
  | .inr (.inl 1) :: l, k, st, x, B, h, hx => (sm_toks f l _ _ x B h.2 hx).mono (by rw [List.length_cons]; omega)
  | .inr (.inl (n + 2)) :: l, k, st, x, B, h, hx => (sm_toks f l _ _ x B h.2 hx).mono (by rw [List.length_cons]; omega)
  | .inr (.inr (b, n)) :: l, k, st, x, B, h, hx => by
    have hn := h.2.1
    have hy : sm (match st with | true :: _ => (cond b (-nI n) (nI n)) | _ => 0) 100 := by
      split
      · cases b
        · exact sm_n (by omega)
        · exact sm_neg (by omega)
      · exact sm_n (n := 0) (by omega)
    exact (sm_toks f l 0 [] _ (B + 100) h.2.2 (hx.add hy)).mono (by rw [List.length_cons]; omega)
/-- kinds, strengths and rows are small -/
def sK (s : Nat → Int32) (p : Nat) : Prop := sm (s (17 + p)) 9 ∧ ∀ j, j < 4 → sm (s (22 + 4 * p + j)) 9
theorem sm_push {s : Nat → Int32} {l : List Tok} (hw : w_toks 0 l) (hl : l.length ≤ 140) {p m o g : Nat} (hk : sK s p) : sm (a_push s l p m o g) 15000 := by
  unfold a_push v_push
  have h1 := sm_toks (a_by s p m o g) l 0 [] 0 0 hw (sm_n (n := 0) (by omega))
  have e1 : sm (u_1 (s (12 + p)) (nI m) (nI o)) 2 := sm_ite (sm_n (n := 2) (by omega)) (sm_n (n := 0) (by omega))
  have e2 : sm (u_2 (s (12 + p))) 1 := sm_ite (sm_n (n := 1) (by omega)) (sm_n (n := 0) (by omega))
  have e3 : sm (u_3 (s (12 + p)) (s (17 + p)) (nI g) (nI m)) 9 := sm_ite (sm_n (n := 9) (by omega)) (sm_n (n := 0) (by omega))
  have e4 : sm (u_4 (s (12 + p)) (nI g)) 1 := sm_ite (sm_n (n := 1) (by omega)) (sm_n (n := 0) (by omega))
  have e5 : sm (u_5 (s (12 + p)) (s (22 + 4 * p + g % 4))) 13 := sm_ite ((hk.2 (g % 4) (by omega)).sub (sm_n (n := 4) (B := 4) (by omega))) (sm_n (n := 0) (by omega))
  exact ((((((h1.add hk.1).add e1).add e2).sub e3).sub e4).add e5).mono (by omega)
theorem clamp_sym {x : Int32} (h : sm x 1000000) : v_clamp (10 - x) = 10 - v_clamp x := by
  obtain ⟨z, rfl, hz⟩ := h
  have t1 : (Int32.ofInt z).toInt = z := Int32.toInt_ofInt_of_le (by omega) (by omega)
  have e : (10 : Int32) - Int32.ofInt z = Int32.ofInt (10 - z) := (Int32.ofInt_sub 10 z).symm
  have t2 : (Int32.ofInt (10 - z)).toInt = 10 - z := Int32.toInt_ofInt_of_le (by omega) (by omega)
  rw [e]
  unfold v_clamp
  have a1 : Int32.ofInt z < 1 ↔ z < 1 := by rw [Int32.lt_iff_toInt_lt, t1]; exact Iff.rfl
  have a2 : (9 : Int32) < Int32.ofInt z ↔ 9 < z := by rw [Int32.lt_iff_toInt_lt, t1]; exact Iff.rfl
  have a3 : Int32.ofInt (10 - z) < 1 ↔ 10 - z < 1 := by rw [Int32.lt_iff_toInt_lt, t2]; exact Iff.rfl
  have a4 : (9 : Int32) < Int32.ofInt (10 - z) ↔ 9 < 10 - z := by rw [Int32.lt_iff_toInt_lt, t2]; exact Iff.rfl
  by_cases c1 : z < 1
  · rw [if_pos (a1.mpr c1), if_neg (fun y => by have := a3.mp y; omega), if_pos (a4.mpr (by omega))]
    rfl
  · rw [if_neg (fun y => c1 (a1.mp y))]
    by_cases c2 : 9 < z
    · rw [if_pos (a2.mpr c2), if_pos (a3.mpr (by omega))]
      rfl
    · rw [if_neg (fun y => c2 (a2.mp y)), if_neg (fun y => by have := a3.mp y; omega), if_neg (fun y => by have := a4.mp y; omega)]
      exact e.symm
theorem half_sym {m o : Nat} (hm : m ≤ 20) (ho : o ≤ 20) : (nI o - nI m) / 2 = -((nI m - nI o) / 2) ∧ sm ((nI m - nI o) / 2) 100 := by
  have h : ∀ m o : Fin 21, (nI o.val - nI m.val) / 2 = -((nI m.val - nI o.val) / 2) ∧ (nI m.val - nI o.val) / 2 = Int32.ofInt ((nI m.val - nI o.val) / 2).toInt ∧ ((nI m.val - nI o.val) / 2).toInt.natAbs ≤ 100 := by decide +kernel
  obtain ⟨h1, h2, h3⟩ := h ⟨m, by omega⟩ ⟨o, by omega⟩
  exact ⟨h1, _, h2, h3⟩
theorem od_sym {s : Nat → Int32} {l : List Tok} (hw : w_toks 0 l) (hl : l.length ≤ 140) {p q m o g : Nat} (hp : sK s p) (hq : sK s q) (hm : m ≤ 20) (ho : o ≤ 20) : a_od s l q p o m g = 10 - a_od s l p q m o g := by
  obtain ⟨h1, h2⟩ := half_sym hm ho
  have s1 := sm_push hw hl (m := m) (o := o) (g := g) hp
  have s2 := sm_push hw hl (m := o) (o := m) (g := g) hq
  have hx : sm (5 + a_push s l p m o g - a_push s l q o m g + (nI m - nI o) / 2) 1000000 := ((((sm_n (n := 5) (B := 5) (by omega)).add s1).sub s2).add h2).mono (by omega)
  have e : a_oI s l q p o m g = 10 - a_oI s l p q m o g := by
    unfold a_oI
    rw [← clamp_sym hx, h1]
    congr 1
    generalize a_push s l p m o g = a
    generalize a_push s l q o m g = b
    generalize (nI m - nI o) / 2 = c
    grind
  obtain ⟨x1, x2, x3⟩ := a_od_n s l p q m o g
  obtain ⟨y1, y2, y3⟩ := a_od_n s l q p o m g
  rw [x1, y1, show (10 : Int32) = nI 10 from rfl, pk_sub (by omega)] at e
  exact (nI_eq (by omega) (by omega)).mp e
theorem nT_swap {od : Nat → Nat → Nat → Nat → Nat → Nat} {le mo who : Nat} (h9 : ∀ p q m o g, od p q m o g ≤ 9) {n : Nat} {mm : Nat → Nat} {g p q : Nat} {qs : List Nat} (hpq : p ≠ q) (hs : od q p (mm q) (mm p) g = 10 - od p q (mm p) (mm q) g) : nT od le mo who n mm g q p qs = nT od le mo who n mm g p q qs := by
  have h := h9 p q (mm p) (mm q) g
  cases n with
  | zero =>
    unfold nT
    rw [hs]
    by_cases c : who = p
    · rw [if_neg (fun z => hpq (c.symm.trans z)), if_pos c, if_pos c]
      omega
    · by_cases c2 : who = q
      · rw [if_pos c2, if_neg c, if_pos c2]
      · rw [if_neg c2, if_neg c, if_neg c, if_neg c2]
  | succ n =>
    rw [nT, nT, hs, show 10 - (10 - od p q (mm p) (mm q) g) = od p q (mm p) (mm q) g by omega, Nat.add_comm]
