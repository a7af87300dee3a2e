/-! From the law's entry into the small machine. -/
def k_tab (l : List Int32) : Nat → Int32 := fun j => l.getD j 0
def k_ABOVE : List Int32 := [-1, 0, 0, 0, 1, 2, 3]
def k_MOVES : List Int32 := [0, 1, 0, 0, 1, 5, 0]
def k_BETS : List Int32 := [0, 0, 2, 0, 0, 2, 6]
def k_TELLS : List Int32 := [0, 0, 0, 3, 4, 0, 3]
def k_len : List Nat := [5, 3, 4, 4, 5, 5]
def k_byt : List (List Int32) := [[112, 107, 109, 111, 103], [60, 61, 62], [105, 102, 116, 32], [101, 115, 115, 32], [100, 117, 99, 107, 32], [109, 111, 114, 101, 32]]
def k_str (i : Nat) : Term := .string "FewerManModel" (match i with
  | 0 => 98
  | 1 => 104
  | 2 => 116
  | 3 => 122
  | 4 => 130
  | _ => 132)
/-- the constant part of the heap, for a script -/
def k_hc (L : Nat) (xs : Nat → Int32) : mH := fun a => match a with
  | 2 => .inl (0, L, .inl xs)
  | 3 => .inl (0, 7, .inl (k_tab k_ABOVE))
  | 4 => .inl (0, 7, .inl (k_tab k_MOVES))
  | 5 => .inl (0, 7, .inl (k_tab k_BETS))
  | 6 => .inl (0, 7, .inl (k_tab k_TELLS))
  | 7 => .inr (11, [.ref 13, .int 0])
  | 8 => .inr (11, [.ref 14, .int 0])
  | 9 => .inr (11, [.ref 15, .int 0])
  | 10 => .inr (11, [.ref 16, .int 0])
  | 11 => .inr (11, [.ref 17, .int 0])
  | 12 => .inr (11, [.ref 18, .int 0])
  | 13 => .inl (4, 5, .inl (k_tab (k_byt.getD 0 [])))
  | 14 => .inl (4, 3, .inl (k_tab (k_byt.getD 1 [])))
  | 15 => .inl (4, 4, .inl (k_tab (k_byt.getD 2 [])))
  | 16 => .inl (4, 4, .inl (k_tab (k_byt.getD 3 [])))
  | 17 => .inl (4, 5, .inl (k_tab (k_byt.getD 4 [])))
  | 18 => .inl (4, 5, .inl (k_tab (k_byt.getD 5 [])))
  | _ => .inr (99, [])
/-- the heap as the law begins -/
def k_h0 (L : Nat) (xs : Nat → Int32) : mH := fun a => match a with
  | 0 => .inr (20, [])
  | 1 => .inr (100, [])
  | a => k_hc L xs a
theorem k_tabOf {args : Array Value} {s : State} {C n : String} {l : List Int32} {A : Nat → Prop} (hl : l.length = 7) (harr : (Cond.arrayOf (.static C n "[I") .int).before args s = true) (hlen : (Cond.eq (.length (.static C n "[I")) (.int 7)).before args s = true)
    (hel : ∀ j : Nat, j < 7 → (Cond.eq (.elem (.static C n "[I") (.int (Int32.ofNat j))) (.int (k_tab l j))).before args s = true) (hA : ∀ a : Nat, a < s.heap.size → ¬ A a) : ∃ t : Nat, (Term.static C n "[I").eval args s none [] s = some (.ref t) ∧ va_T .int t 7 (fun j => .int (k_tab l j)) A s s.heap :=
  va_Tof (by decide) harr (va_eqt hlen) (fun j hj => va_eqt (hel j hj)) hA
theorem k_Tlt {ty : FieldType} {t N : Nat} {f : Nat → Value} {A : Nat → Prop} {U : State} {H : Heap} (h : va_T ty t N f A U H) : t < H.size := by
  obtain ⟨cell, h1, -⟩ := h
  exact (Array.getElem?_eq_some_iff.mp h1).1
theorem k_Olt {E : String} {t : Nat} {A : Nat → Prop} {U : State} {H : Heap} (h : va_O E t A U H) : t < H.size := by
  obtain ⟨cell, h1, -⟩ := h
  exact (Array.getElem?_eq_some_iff.mp h1).1
theorem k_side {P : mP} {l : Launch} (hM : ∀ (p : Program) (e : Env) (R : Room) (s : State) (m : MethodId) (args : Array Value) (below : List Frame) (meth : Method) (c : Code) (nm : MethodName) (bs : ByteArray) (mx nx0 us0 : Nat) (Q : State → Prop) (pc pc' : Nat) (ls ls' : mL) (st st' : List Value) (h h' : mH), m_Cx P p R s m args meth c nm bs mx → decode bs pc = .ok (.multianewarray 18 2, 4) → nm.cls = "FewerMan$Orders" → m_newm (pc + 4) ls st h = some (.inl (pc', ls', st', h')) → m_nx h' ≤ nx0 + R.cells → m_us h' ≤ us0 + R.slots → m_Ok P p l e R s m args below meth c mx nx0 us0 Q pc' ls' st' h' → m_Ok P p l e R s m args below meth c mx nx0 us0 Q pc ls st h) : m_Side P l := by
  refine ⟨fun s args hK hts at_ t _ ht => ?_, hM⟩
  rcases ht with ⟨rfl, rfl⟩ | ⟨rfl, rfl⟩ | ⟨rfl, rfl⟩
  · exact (hK.1.2 0 (P.2.1 0, .int) rfl).2
  · exact (hK.1.2 1 (P.2.1 1, .long) rfl).2
  · exact (hK.1.2 2 (P.2.1 2, .boolean) rfl).2
theorem k_kn {s : State} {args : Array Value} (hts : ∀ w ∈ lw_tbl, w.before args s = true) : ∃ (dC : Nat → ClassId) (dI : Nat → Nat → Nat), ∀ (k : Nat) (q : vw_C), vwCl[k]? = some q → u_Kn s q.1 q.2.1 q.2.2 (dC k) (dI k) := by
  have hin : ∀ {w : Jvm.Cond}, w ∈ m_tbl → w ∈ lw_tbl := fun h => (List.mem_filter.mp h).1
  sorry
