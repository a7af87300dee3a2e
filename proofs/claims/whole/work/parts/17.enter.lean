/-! From the law's entry into the small machine. -/
def k_tab (l : List Int32) : Nat → Int32 := fun j => l.getD j 0
def k_ABOVE : List Int32 := [-1, 0, 0, 0, 1, 2, 3]
def k_MOVES : List Int32 := [0, 1, 0, 0, 1, 5, 0]
def k_BETS : List Int32 := [0, 0, 2, 0, 0, 2, 6]
def k_TELLS : List Int32 := [0, 0, 0, 3, 4, 0, 3]
def k_len : List Nat := [5, 3, 4, 4, 5, 5]
def k_byt : List (List Int32) := [[112, 107, 109, 111, 103], [60, 61, 62], [105, 102, 116, 32], [101, 115, 115, 32], [100, 117, 99, 107, 32], [109, 111, 114, 101, 32]]
def k_str (i : Nat) : Term := .string "FewerManModel" (match i with
  | 0 => 98
  | 1 => 104
  | 2 => 116
  | 3 => 122
  | 4 => 130
  | _ => 132)
/-- the constant part of the heap, for a script -/
def k_hc (L : Nat) (xs : Nat → Int32) : mH := fun a => match a with
  | 2 => .inl (0, L, .inl xs)
  | 3 => .inl (0, 7, .inl (k_tab k_ABOVE))
  | 4 => .inl (0, 7, .inl (k_tab k_MOVES))
  | 5 => .inl (0, 7, .inl (k_tab k_BETS))
  | 6 => .inl (0, 7, .inl (k_tab k_TELLS))
  | 7 => .inr (11, [.ref 13, .int 0])
  | 8 => .inr (11, [.ref 14, .int 0])
  | 9 => .inr (11, [.ref 15, .int 0])
  | 10 => .inr (11, [.ref 16, .int 0])
  | 11 => .inr (11, [.ref 17, .int 0])
  | 12 => .inr (11, [.ref 18, .int 0])
  | 13 => .inl (4, 5, .inl (k_tab (k_byt.getD 0 [])))
  | 14 => .inl (4, 3, .inl (k_tab (k_byt.getD 1 [])))
  | 15 => .inl (4, 4, .inl (k_tab (k_byt.getD 2 [])))
  | 16 => .inl (4, 4, .inl (k_tab (k_byt.getD 3 [])))
  | 17 => .inl (4, 5, .inl (k_tab (k_byt.getD 4 [])))
  | 18 => .inl (4, 5, .inl (k_tab (k_byt.getD 5 [])))
  | _ => .inr (99, [])
/-- the heap as the law begins -/
def k_h0 (L : Nat) (xs : Nat → Int32) : mH := fun a => match a with
  | 0 => .inr (20, [])
  | 1 => .inr (100, [])
  | a => k_hc L xs a
theorem k_tabOf {args : Array Value} {s : State} {C n : String} {l : List Int32} {A : Nat → Prop} (hl : l.length = 7) (harr : (Cond.arrayOf (.static C n "[I") .int).before args s = true) (hlen : (Cond.eq (.length (.static C n "[I")) (.int 7)).before args s = true)
    (hel : ∀ j : Nat, j < 7 → (Cond.eq (.elem (.static C n "[I") (.int (Int32.ofNat j))) (.int (k_tab l j))).before args s = true) (hA : ∀ a : Nat, a < s.heap.size → ¬ A a) : ∃ t : Nat, (Term.static C n "[I").eval args s none [] s = some (.ref t) ∧ va_T .int t 7 (fun j => .int (k_tab l j)) A s s.heap :=
  va_Tof (by decide) harr (va_eqt hlen) (fun j hj => va_eqt (hel j hj)) hA
theorem k_Tlt {ty : FieldType} {t N : Nat} {f : Nat → Value} {A : Nat → Prop} {U : State} {H : Heap} (h : va_T ty t N f A U H) : t < H.size := by
  obtain ⟨cell, h1, -⟩ := h
  exact (Array.getElem?_eq_some_iff.mp h1).1
theorem k_Olt {E : String} {t : Nat} {A : Nat → Prop} {U : State} {H : Heap} (h : va_O E t A U H) : t < H.size := by
  obtain ⟨cell, h1, -⟩ := h
  exact (Array.getElem?_eq_some_iff.mp h1).1
theorem k_side {P : mP} {l : Launch} (hM : ∀ (p : Program) (e : Env) (R : Room) (s : State) (m : MethodId) (args : Array Value) (below : List Frame) (meth : Method) (c : Code) (nm : MethodName) (bs : ByteArray) (mx nx0 us0 : Nat) (Q : State → Prop) (pc pc' : Nat) (ls ls' : mL) (st st' : List Value) (h h' : mH), m_Cx P p R s m args meth c nm bs mx → decode bs pc = .ok (.multianewarray 18 2, 4) → nm.cls = "FewerMan$Orders" → m_newm (pc + 4) ls st h = some (.inl (pc', ls', st', h')) → m_nx h' ≤ nx0 + R.cells → m_us h' ≤ us0 + R.slots → m_Ok P p l e R s m args below meth c mx nx0 us0 Q pc' ls' st' h' → m_Ok P p l e R s m args below meth c mx nx0 us0 Q pc ls st h) : m_Side P l := by
  refine ⟨fun s args hK hts at_ t _ ht => ?_, hM⟩
  rcases ht with ⟨rfl, rfl⟩ | ⟨rfl, rfl⟩ | ⟨rfl, rfl⟩
  · exact (hK.1.2 0 (P.2.1 0, .int) rfl).2
  · exact (hK.1.2 1 (P.2.1 1, .long) rfl).2
  · exact (hK.1.2 2 (P.2.1 2, .boolean) rfl).2
theorem k_kn {s : State} {args : Array Value} (hts : ∀ w ∈ lw_tbl, w.before args s = true) : ∃ (dC : Nat → ClassId) (dI : Nat → Nat → Nat), ∀ (k : Nat) (q : vw_C), vwCl[k]? = some q → u_Kn s q.1 q.2.1 q.2.2 (dC k) (dI k) := by
  obtain ⟨c0, i0, h0⟩ := u_known (C := RX0) (T := TX0) (N := 5) (n := 5) hts inX0 (hts (.instantiable RX0 5) (by decide +kernel))
  obtain ⟨c1, i1, h1⟩ := u_known (C := RX1) (T := TX1) (N := 4) (n := 4) hts inX1 (hts (.instantiable RX1 4) (by decide +kernel))
  obtain ⟨c2, i2, h2⟩ := u_known (C := RX2) (T := TX2) (N := 8) (n := 8) hts inX2 (hts (.instantiable RX2 8) (by decide +kernel))
  obtain ⟨c3, i3, h3⟩ := u_known (C := RX3) (T := TX3) (N := 3) (n := 3) hts inX3 (hts (.instantiable RX3 3) (by decide +kernel))
  obtain ⟨c4, i4, h4⟩ := u_known (C := RX4) (T := TX4) (N := 7) (n := 7) hts inX4 (hts (.instantiable RX4 7) (by decide +kernel))
  obtain ⟨c5, i5, h5⟩ := u_known (C := RX5) (T := TX5) (N := 3) (n := 3) hts inX5 (hts (.instantiable RX5 3) (by decide +kernel))
  obtain ⟨c6, i6, h6⟩ := u_known (C := RX6) (T := TX6) (N := 7) (n := 7) hts inX6 (hts (.instantiable RX6 7) (by decide +kernel))
  obtain ⟨c7, i7, h7⟩ := u_known (C := RX7) (T := TX7) (N := 16) (n := 16) hts inX7 (hts (.instantiable RX7 16) (by decide +kernel))
  obtain ⟨c8, i8, h8⟩ := u_known (C := RX8) (T := TX8) (N := 4) (n := 4) hts inX8 (hts (.instantiable RX8 4) (by decide +kernel))
  obtain ⟨c9, i9, h9⟩ := u_known (C := RX9) (T := TX9) (N := 10) (n := 10) hts inX9 (hts (.instantiable RX9 10) (by decide +kernel))
  obtain ⟨c10, i10, h10⟩ := u_known (C := RX10) (T := TX10) (N := 24) (n := 24) hts inX10 (hts (.instantiable RX10 24) (by decide +kernel))
  refine ⟨fun k => ([c0, c1, c2, c3, c4, c5, c6, c7, c8, c9, c10] : List ClassId).getD k c0, fun k => ([i0, i1, i2, i3, i4, i5, i6, i7, i8, i9, i10] : List (Nat → Nat)).getD k i0, ?_⟩
  intro k q hq
  match k, hq with
  | 0, hq => cases hq; exact h0
  | 1, hq => cases hq; exact h1
  | 2, hq => cases hq; exact h2
  | 3, hq => cases hq; exact h3
  | 4, hq => cases hq; exact h4
  | 5, hq => cases hq; exact h5
  | 6, hq => cases hq; exact h6
  | 7, hq => cases hq; exact h7
  | 8, hq => cases hq; exact h8
  | 9, hq => cases hq; exact h9
  | 10, hq => cases hq; exact h10
  | k + 11, hq => simp [vwCl] at hq
/-- array classes -/
theorem k_arr {s : State} {args : Array Value} {ty : FieldType} (h : (Cond.arrayClass ty).before args s = true) (hn : ∀ C, ty ≠ .object C) : ∃ c : ClassId, ArrOfT s c ty ∧ va_RA s c ty := by
  obtain ⟨c, k, comp, h1, h2, h3⟩ := Cond.arrayClass_spec h
  refine ⟨c, fun n z => ⟨(fun q hq => by cases hq), k, h2, comp, h3⟩, ?_⟩
  cases ty <;> first | exact h1 | exact absurd rfl (hn _)
theorem k_arr2 {s : State} {args : Array Value} (h : (Cond.arrayOver (.array .long)).before args s = true) : ∃ c : ClassId, ArrOfT s c (.array .long) ∧ va_RA s c (.array .long) := by
  unfold Cond.before Cond.holds at h
  simp only [Cond.value, beq_iff_eq] at h
  cases hc : s.vm.findClass (FieldType.array .long).toString with
  | none => rw [hc] at h; cases h
  | some comp =>
    rw [hc, Option.bind_some] at h
    obtain ⟨c, hi, hk2⟩ := Option.bind_eq_some_iff.mp h
    obtain ⟨k, hk, hb⟩ := Option.map_eq_some_iff.mp hk2
    obtain ⟨hlt, hp, -⟩ := Array.findIdx?_eq_some_iff_getElem.mp hi
    rw [(Array.getElem?_eq_some_iff.mp hk).2] at hp
    cases hkind : k.kind with
    | array component ty =>
      rw [hkind] at hb hp
      simp at hb hp
      exact ⟨c, fun n z => ⟨(fun q hq => by cases hq), k, hk, comp, by rw [hkind, hp, hb.1]⟩, hb.2⟩
    | _ => rw [hkind] at hb; simp at hb
set_option maxHeartbeats 8000000 in
/-- what is known where the law begins -/
theorem k_start {s : State} {b L : Nat} {xs : Nat → Int32} (hts : ∀ w ∈ lw_tbl, w.before #[Value.ref b] s = true) (hX : va_X b L xs s s.heap) (hbl : b < s.heap.size) (hL : L ≤ 3072) (hgv : (Jvm.Cond.and given_1 narrow_1).before #[Value.ref b] s = true) :
    ∃ P : mP, m_okP P ∧ m_K P s ∧ P.2.2.1 = s.heap.size ∧ P.2.2.2.2.2 = k_hc L xs ∧ m_mv P (.ref 2) = .ref b := by
  have hs := flat_of_before _ hgv
  have hA : ∀ a : Nat, a < s.heap.size → ¬ (fun q : Nat => s.heap.size ≤ q) a := fun a h => Nat.not_le.mpr h
  obtain ⟨dC, dI, hkn⟩ := k_kn hts
  obtain ⟨a0, u0, v0⟩ := k_arr (ty := .int) (hts (.arrayClass .int) (by decide +kernel)) (fun C h => by cases h)
  obtain ⟨a1, u1, v1⟩ := k_arr (ty := .long) (hts (.arrayClass .long) (by decide +kernel)) (fun C h => by cases h)
  obtain ⟨a2, u2, v2⟩ := k_arr (ty := .boolean) (hts (.arrayClass .boolean) (by decide +kernel)) (fun C h => by cases h)
  obtain ⟨a3, u3, v3⟩ := k_arr2 (hts (.arrayOver (.array .long)) (by decide +kernel))
  obtain ⟨t3, e3, T3⟩ := k_tabOf (C := "FewerMan") (n := "ABOVE") (l := k_ABOVE) (A := fun q : Nat => s.heap.size ≤ q) rfl (hs _ (by decide +kernel)) (hs _ (by decide +kernel)) (fun j hj => match j, hj with
    | 0, _ => hs _ (by decide +kernel)
    | 1, _ => hs _ (by decide +kernel)
    | 2, _ => hs _ (by decide +kernel)
    | 3, _ => hs _ (by decide +kernel)
    | 4, _ => hs _ (by decide +kernel)
    | 5, _ => hs _ (by decide +kernel)
    | 6, _ => hs _ (by decide +kernel)
    | j + 7, hj => absurd hj (by omega)) hA
  obtain ⟨t4, e4, T4⟩ := k_tabOf (C := "FewerMan$Acts") (n := "MOVES") (l := k_MOVES) (A := fun q : Nat => s.heap.size ≤ q) rfl (hs _ (by decide +kernel)) (hs _ (by decide +kernel)) (fun j hj => match j, hj with
    | 0, _ => hs _ (by decide +kernel)
    | 1, _ => hs _ (by decide +kernel)
    | 2, _ => hs _ (by decide +kernel)
    | 3, _ => hs _ (by decide +kernel)
    | 4, _ => hs _ (by decide +kernel)
    | 5, _ => hs _ (by decide +kernel)
    | 6, _ => hs _ (by decide +kernel)
    | j + 7, hj => absurd hj (by omega)) hA
  obtain ⟨t5, e5, T5⟩ := k_tabOf (C := "FewerMan$Acts") (n := "BETS") (l := k_BETS) (A := fun q : Nat => s.heap.size ≤ q) rfl (hs _ (by decide +kernel)) (hs _ (by decide +kernel)) (fun j hj => match j, hj with
    | 0, _ => hs _ (by decide +kernel)
    | 1, _ => hs _ (by decide +kernel)
    | 2, _ => hs _ (by decide +kernel)
    | 3, _ => hs _ (by decide +kernel)
    | 4, _ => hs _ (by decide +kernel)
    | 5, _ => hs _ (by decide +kernel)
    | 6, _ => hs _ (by decide +kernel)
    | j + 7, hj => absurd hj (by omega)) hA
  obtain ⟨t6, e6, T6⟩ := k_tabOf (C := "FewerMan$Acts") (n := "TELLS") (l := k_TELLS) (A := fun q : Nat => s.heap.size ≤ q) rfl (hs _ (by decide +kernel)) (hs _ (by decide +kernel)) (fun j hj => match j, hj with
    | 0, _ => hs _ (by decide +kernel)
    | 1, _ => hs _ (by decide +kernel)
    | 2, _ => hs _ (by decide +kernel)
    | 3, _ => hs _ (by decide +kernel)
    | 4, _ => hs _ (by decide +kernel)
    | 5, _ => hs _ (by decide +kernel)
    | 6, _ => hs _ (by decide +kernel)
    | j + 7, hj => absurd hj (by omega)) hA
  obtain ⟨adK, adV, ⟨hSS, hSne⟩, hSe⟩ := vk_Sof (args := #[Value.ref b]) (s := s) (N := 6) (tm := k_str) (len := k_len) (byt := k_byt) (A := fun q : Nat => s.heap.size ≤ q)
    (fun i hi => match i, hi with
    | 0, _ => by decide
    | 1, _ => by decide
    | 2, _ => by decide
    | 3, _ => by decide
    | 4, _ => by decide
    | 5, _ => by decide
    | i + 6, hi => absurd hi (by omega))
    (fun i hi => match i, hi with
    | 0, _ => hs _ (by decide +kernel)
    | 1, _ => hs _ (by decide +kernel)
    | 2, _ => hs _ (by decide +kernel)
    | 3, _ => hs _ (by decide +kernel)
    | 4, _ => hs _ (by decide +kernel)
    | 5, _ => hs _ (by decide +kernel)
    | i + 6, hi => absurd hi (by omega))
    (fun i hi => match i, hi with
    | 0, _ => hs _ (by decide +kernel)
    | 1, _ => hs _ (by decide +kernel)
    | 2, _ => hs _ (by decide +kernel)
    | 3, _ => hs _ (by decide +kernel)
    | 4, _ => hs _ (by decide +kernel)
    | 5, _ => hs _ (by decide +kernel)
    | i + 6, hi => absurd hi (by omega))
    (fun i hi => match i, hi with
    | 0, _ => hs _ (by decide +kernel)
    | 1, _ => hs _ (by decide +kernel)
    | 2, _ => hs _ (by decide +kernel)
    | 3, _ => hs _ (by decide +kernel)
    | 4, _ => hs _ (by decide +kernel)
    | 5, _ => hs _ (by decide +kernel)
    | i + 6, hi => absurd hi (by omega))
    (fun i hi => match i, hi with
    | 0, _ => hs _ (by decide +kernel)
    | 1, _ => hs _ (by decide +kernel)
    | 2, _ => hs _ (by decide +kernel)
    | 3, _ => hs _ (by decide +kernel)
    | 4, _ => hs _ (by decide +kernel)
    | 5, _ => hs _ (by decide +kernel)
    | i + 6, hi => absurd hi (by omega))
    (fun i hi => match i, hi with
      | 0, _ => fun j hj => match j, hj with
        | 0, _ => hs _ (by decide +kernel)
        | 1, _ => hs _ (by decide +kernel)
        | 2, _ => hs _ (by decide +kernel)
        | 3, _ => hs _ (by decide +kernel)
        | 4, _ => hs _ (by decide +kernel)
        | j + 5, hj => absurd hj (by show ¬ j + 5 < 5; omega)
      | 1, _ => fun j hj => match j, hj with
        | 0, _ => hs _ (by decide +kernel)
        | 1, _ => hs _ (by decide +kernel)
        | 2, _ => hs _ (by decide +kernel)
        | j + 3, hj => absurd hj (by show ¬ j + 3 < 3; omega)
      | 2, _ => fun j hj => match j, hj with
        | 0, _ => hs _ (by decide +kernel)
        | 1, _ => hs _ (by decide +kernel)
        | 2, _ => hs _ (by decide +kernel)
        | 3, _ => hs _ (by decide +kernel)
        | j + 4, hj => absurd hj (by show ¬ j + 4 < 4; omega)
      | 3, _ => fun j hj => match j, hj with
        | 0, _ => hs _ (by decide +kernel)
        | 1, _ => hs _ (by decide +kernel)
        | 2, _ => hs _ (by decide +kernel)
        | 3, _ => hs _ (by decide +kernel)
        | j + 4, hj => absurd hj (by show ¬ j + 4 < 4; omega)
      | 4, _ => fun j hj => match j, hj with
        | 0, _ => hs _ (by decide +kernel)
        | 1, _ => hs _ (by decide +kernel)
        | 2, _ => hs _ (by decide +kernel)
        | 3, _ => hs _ (by decide +kernel)
        | 4, _ => hs _ (by decide +kernel)
        | j + 5, hj => absurd hj (by show ¬ j + 5 < 5; omega)
      | 5, _ => fun j hj => match j, hj with
        | 0, _ => hs _ (by decide +kernel)
        | 1, _ => hs _ (by decide +kernel)
        | 2, _ => hs _ (by decide +kernel)
        | 3, _ => hs _ (by decide +kernel)
        | 4, _ => hs _ (by decide +kernel)
        | j + 5, hj => absurd hj (by show ¬ j + 5 < 5; omega)
      | i + 6, hi => absurd hi (by omega))
    (fun i j hi hj hne => match i, j, hi, hj, hne with
      | 0, 0, _, _, hne => absurd rfl hne
      | 0, 1, _, _, _ => Or.inl (hs _ (by decide +kernel))
      | 0, 2, _, _, _ => Or.inr (hs _ (by decide +kernel))
      | 0, 3, _, _, _ => Or.inl (hs _ (by decide +kernel))
      | 0, 4, _, _, _ => Or.inl (hs _ (by decide +kernel))
      | 0, 5, _, _, _ => Or.inl (hs _ (by decide +kernel))
      | 1, 0, _, _, _ => Or.inr (hs _ (by decide +kernel))
      | 1, 1, _, _, hne => absurd rfl hne
      | 1, 2, _, _, _ => Or.inr (hs _ (by decide +kernel))
      | 1, 3, _, _, _ => Or.inl (hs _ (by decide +kernel))
      | 1, 4, _, _, _ => Or.inl (hs _ (by decide +kernel))
      | 1, 5, _, _, _ => Or.inl (hs _ (by decide +kernel))
      | 2, 0, _, _, _ => Or.inl (hs _ (by decide +kernel))
      | 2, 1, _, _, _ => Or.inl (hs _ (by decide +kernel))
      | 2, 2, _, _, hne => absurd rfl hne
      | 2, 3, _, _, _ => Or.inl (hs _ (by decide +kernel))
      | 2, 4, _, _, _ => Or.inl (hs _ (by decide +kernel))
      | 2, 5, _, _, _ => Or.inl (hs _ (by decide +kernel))
      | 3, 0, _, _, _ => Or.inr (hs _ (by decide +kernel))
      | 3, 1, _, _, _ => Or.inr (hs _ (by decide +kernel))
      | 3, 2, _, _, _ => Or.inr (hs _ (by decide +kernel))
      | 3, 3, _, _, hne => absurd rfl hne
      | 3, 4, _, _, _ => Or.inl (hs _ (by decide +kernel))
      | 3, 5, _, _, _ => Or.inl (hs _ (by decide +kernel))
      | 4, 0, _, _, _ => Or.inr (hs _ (by decide +kernel))
      | 4, 1, _, _, _ => Or.inr (hs _ (by decide +kernel))
      | 4, 2, _, _, _ => Or.inr (hs _ (by decide +kernel))
      | 4, 3, _, _, _ => Or.inr (hs _ (by decide +kernel))
      | 4, 4, _, _, hne => absurd rfl hne
      | 4, 5, _, _, _ => Or.inl (hs _ (by decide +kernel))
      | 5, 0, _, _, _ => Or.inr (hs _ (by decide +kernel))
      | 5, 1, _, _, _ => Or.inr (hs _ (by decide +kernel))
      | 5, 2, _, _, _ => Or.inr (hs _ (by decide +kernel))
      | 5, 3, _, _, _ => Or.inr (hs _ (by decide +kernel))
      | 5, 4, _, _, _ => Or.inr (hs _ (by decide +kernel))
      | 5, 5, _, _, hne => absurd rfl hne
      | i + 6, _, hi, _, _ => absurd hi (by omega)
      | _, j + 6, _, hj, _ => absurd hj (by omega)) hA
  have hZ := va_Zof (C := "java/lang/String") (n := "COMPACT_STRINGS") (d := "Z") (v := .int 1) (A := fun q : Nat => s.heap.size ≤ q) (hts (.laysStatic "java/lang/String" "COMPACT_STRINGS" "Z") (by decide +kernel)) (hts (.initialized "java/lang/String") (by decide +kernel)) (va_eqi (hs _ (by decide +kernel))) hA
  have hZq := va_Zqof (C := "jdk/internal/util/Preconditions") (n := "SIOOBE_FORMATTER") (d := "Ljava/util/function/BiFunction;") (A := fun q : Nat => s.heap.size ≤ q) (hts (.laysStatic "jdk/internal/util/Preconditions" "SIOOBE_FORMATTER" "Ljava/util/function/BiFunction;") (by decide +kernel)) (hts (.initialized "jdk/internal/util/Preconditions") (by decide +kernel)) (hs _ (by decide +kernel)) hA
  obtain ⟨w19, h19, hz19⟩ : ∃ w : Value, (w = .null ∨ ∃ t, w = .ref t) ∧ va_Z "jdk/internal/util/Preconditions" "SIOOBE_FORMATTER" "Ljava/util/function/BiFunction;" w (fun q : Nat => s.heap.size ≤ q) s s.heap := by
    rcases hZq with h | ⟨t, h⟩
    · exact ⟨_, Or.inl rfl, h⟩
    · exact ⟨_, Or.inr ⟨t, rfl⟩, h⟩
  have hTX : va_T .int b L (fun j => .int (xs j)) (fun q : Nat => s.heap.size ≤ q) s s.heap := by
    obtain ⟨scr, g1, g2, g3, g4, g5⟩ := hX
    exact ⟨scr, g1, g2, g3, by omega, by rw [g4], g5, Nat.not_le.mpr hbl⟩
  let cst : Nat → Nat := fun a => match a with
    | 2 => b
    | 3 => t3
    | 4 => t4
    | 5 => t5
    | 6 => t6
    | 7 => adK 0
    | 8 => adK 1
    | 9 => adK 2
    | 10 => adK 3
    | 11 => adK 4
    | 12 => adK 5
    | 13 => adV 0
    | 14 => adV 1
    | 15 => adV 2
    | 16 => adV 3
    | 17 => adV 4
    | 18 => adV 5
    | _ => 0
  let P : mP := ((dC, dI), (fun k => if k = 0 then a0 else if k = 1 then a1 else if k = 2 then a2 else a3), s.heap.size, cst, w19, k_hc L xs)
  refine ⟨P, ⟨h19, ?_, rfl, ?_⟩, ⟨⟨hkn, ?_⟩, ⟨?_, ?_⟩, ?_, ?_, ?_, ?_, ?_⟩, rfl, rfl, rfl⟩
  · intro a ha
    show cst a < s.heap.size
    match a, ha with
    | 0, _ => show 0 < _; omega
    | 1, _ => show 0 < _; omega
    | 2, _ => exact hbl
    | 3, _ => exact k_Tlt T3
    | 4, _ => exact k_Tlt T4
    | 5, _ => exact k_Tlt T5
    | 6, _ => exact k_Tlt T6
    | 7, _ => exact k_Olt (hSS 0 (by decide)).1
    | 8, _ => exact k_Olt (hSS 1 (by decide)).1
    | 9, _ => exact k_Olt (hSS 2 (by decide)).1
    | 10, _ => exact k_Olt (hSS 3 (by decide)).1
    | 11, _ => exact k_Olt (hSS 4 (by decide)).1
    | 12, _ => exact k_Olt (hSS 5 (by decide)).1
    | 13, _ => exact k_Tlt (hSS 0 (by decide)).2.2.2
    | 14, _ => exact k_Tlt (hSS 1 (by decide)).2.2.2
    | 15, _ => exact k_Tlt (hSS 2 (by decide)).2.2.2
    | 16, _ => exact k_Tlt (hSS 3 (by decide)).2.2.2
    | 17, _ => exact k_Tlt (hSS 4 (by decide)).2.2.2
    | 18, _ => exact k_Tlt (hSS 5 (by decide)).2.2.2
    | 19, _ => show 0 < _; omega
    | a + 20, ha => omega
  · intro a h2 h20
    match a, h2, h20 with
    | 0, h2, _ => omega
    | 1, h2, _ => omega
    | 2, _, _ => exact Or.inl ⟨_, _, rfl⟩
    | 3, _, _ => exact Or.inl ⟨_, _, rfl⟩
    | 4, _, _ => exact Or.inl ⟨_, _, rfl⟩
    | 5, _, _ => exact Or.inl ⟨_, _, rfl⟩
    | 6, _, _ => exact Or.inl ⟨_, _, rfl⟩
    | 7, _, _ => exact Or.inr (Or.inr (Or.inl ⟨_, rfl⟩))
    | 8, _, _ => exact Or.inr (Or.inr (Or.inl ⟨_, rfl⟩))
    | 9, _, _ => exact Or.inr (Or.inr (Or.inl ⟨_, rfl⟩))
    | 10, _, _ => exact Or.inr (Or.inr (Or.inl ⟨_, rfl⟩))
    | 11, _, _ => exact Or.inr (Or.inr (Or.inl ⟨_, rfl⟩))
    | 12, _, _ => exact Or.inr (Or.inr (Or.inl ⟨_, rfl⟩))
    | 13, _, _ => exact Or.inr (Or.inl ⟨_, _, rfl⟩)
    | 14, _, _ => exact Or.inr (Or.inl ⟨_, _, rfl⟩)
    | 15, _, _ => exact Or.inr (Or.inl ⟨_, _, rfl⟩)
    | 16, _, _ => exact Or.inr (Or.inl ⟨_, _, rfl⟩)
    | 17, _, _ => exact Or.inr (Or.inl ⟨_, _, rfl⟩)
    | 18, _, _ => exact Or.inr (Or.inl ⟨_, _, rfl⟩)
    | 19, _, _ => exact Or.inr (Or.inr (Or.inr ⟨_, rfl⟩))
    | a + 20, _, h20 => omega
  · intro k q hq
    match k, hq with
    | 0, hq => cases hq; exact ⟨u0, v0⟩
    | 1, hq => cases hq; exact ⟨u1, v1⟩
    | 2, hq => cases hq; exact ⟨u2, v2⟩
    | 3, hq => cases hq; exact ⟨u3, v3⟩
    | k + 4, hq => simp [m_tys] at hq
  · intro q hq
    simp only [m_nestM, List.mem_cons, List.not_mem_nil, or_false] at hq
    rcases hq with rfl | rfl | rfl | rfl | rfl | rfl | rfl | rfl <;> exact va_Nw.of rfl (hts _ (by decide +kernel))
  · exact ⟨va_Nw.of rfl (hts _ (by decide +kernel)), hts (.arrayOver (.array .long)) (by decide +kernel)⟩
  · intro q hq
    simp only [m_stats, List.mem_cons, List.not_mem_nil, or_false] at hq
    rcases hq with rfl | rfl | rfl | rfl | rfl | rfl
    · exact va_Zref (hts (.laysStatic "FewerMan" "ABOVE" "[I") (by decide +kernel)) (hts (.initialized "FewerMan") (by decide +kernel)) e3 hA
    · exact va_Zref (hts (.laysStatic "FewerMan$Acts" "MOVES" "[I") (by decide +kernel)) (hts (.initialized "FewerMan$Acts") (by decide +kernel)) e4 hA
    · exact va_Zref (hts (.laysStatic "FewerMan$Acts" "BETS" "[I") (by decide +kernel)) (hts (.initialized "FewerMan$Acts") (by decide +kernel)) e5 hA
    · exact va_Zref (hts (.laysStatic "FewerMan$Acts" "TELLS" "[I") (by decide +kernel)) (hts (.initialized "FewerMan$Acts") (by decide +kernel)) e6 hA
    · exact hZ
    · exact hz19
  · intro q hq
    simp only [m_strs, List.mem_cons, List.not_mem_nil, or_false] at hq
    rcases hq with rfl | rfl | rfl | rfl | rfl | rfl
    · exact vk_R.of (hts _ (by decide +kernel)) (hSe 0 (by decide))
    · exact vk_R.of (hts _ (by decide +kernel)) (hSe 1 (by decide))
    · exact vk_R.of (hts _ (by decide +kernel)) (hSe 2 (by decide))
    · exact vk_R.of (hts _ (by decide +kernel)) (hSe 3 (by decide))
    · exact vk_R.of (hts _ (by decide +kernel)) (hSe 4 (by decide))
    · exact vk_R.of (hts _ (by decide +kernel)) (hSe 5 (by decide))
  · intro a n f ha he
    match a, ha, he with
    | 2, _, he => cases he; exact hTX
    | 3, _, he => cases he; exact T3
    | 4, _, he => cases he; exact T4
    | 5, _, he => cases he; exact T5
    | 6, _, he => cases he; exact T6
    | 0, _, he => cases he
    | 1, _, he => cases he
    | 7, _, he => cases he
    | 8, _, he => cases he
    | 9, _, he => cases he
    | 10, _, he => cases he
    | 11, _, he => cases he
    | 12, _, he => cases he
    | 13, _, he => cases he
    | 14, _, he => cases he
    | 15, _, he => cases he
    | 16, _, he => cases he
    | 17, _, he => cases he
    | 18, _, he => cases he
    | 19, _, he => cases he
    | a + 20, ha, _ => omega
  · intro a n f ha he
    match a, ha, he with
    | 13, _, he => cases he; exact (hSS 0 (by decide)).2.2.2
    | 14, _, he => cases he; exact (hSS 1 (by decide)).2.2.2
    | 15, _, he => cases he; exact (hSS 2 (by decide)).2.2.2
    | 16, _, he => cases he; exact (hSS 3 (by decide)).2.2.2
    | 17, _, he => cases he; exact (hSS 4 (by decide)).2.2.2
    | 18, _, he => cases he; exact (hSS 5 (by decide)).2.2.2
    | 0, _, he => cases he
    | 1, _, he => cases he
    | 2, _, he => cases he
    | 3, _, he => cases he
    | 4, _, he => cases he
    | 5, _, he => cases he
    | 6, _, he => cases he
    | 7, _, he => cases he
    | 8, _, he => cases he
    | 9, _, he => cases he
    | 10, _, he => cases he
    | 11, _, he => cases he
    | 12, _, he => cases he
    | 19, _, he => cases he
    | a + 20, ha, _ => omega
  · intro a fs ha he
    match a, ha, he with
    | 7, _, he => cases he; exact ⟨(hSS 0 (by decide)).1, _, _, rfl, (hSS 0 (by decide)).2.2.1, (hSS 0 (by decide)).2.1⟩
    | 8, _, he => cases he; exact ⟨(hSS 1 (by decide)).1, _, _, rfl, (hSS 1 (by decide)).2.2.1, (hSS 1 (by decide)).2.1⟩
    | 9, _, he => cases he; exact ⟨(hSS 2 (by decide)).1, _, _, rfl, (hSS 2 (by decide)).2.2.1, (hSS 2 (by decide)).2.1⟩
    | 10, _, he => cases he; exact ⟨(hSS 3 (by decide)).1, _, _, rfl, (hSS 3 (by decide)).2.2.1, (hSS 3 (by decide)).2.1⟩
    | 11, _, he => cases he; exact ⟨(hSS 4 (by decide)).1, _, _, rfl, (hSS 4 (by decide)).2.2.1, (hSS 4 (by decide)).2.1⟩
    | 12, _, he => cases he; exact ⟨(hSS 5 (by decide)).1, _, _, rfl, (hSS 5 (by decide)).2.2.1, (hSS 5 (by decide)).2.1⟩
    | 0, _, he => cases he
    | 1, _, he => cases he
    | 2, _, he => cases he
    | 3, _, he => cases he
    | 4, _, he => cases he
    | 5, _, he => cases he
    | 6, _, he => cases he
    | 13, _, he => cases he
    | 14, _, he => cases he
    | 15, _, he => cases he
    | 16, _, he => cases he
    | 17, _, he => cases he
    | 18, _, he => cases he
    | 19, _, he => cases he
    | a + 20, ha, _ => omega
/-- what the pure part owes: on every script the law's code, run by the small machine, comes to 1 in its room -/
def k_Runs : Prop := ∀ (L : Nat) (xs : Nat → Int32), L ≤ 3072 → mT0 40 z_L_law 0 (m_init z_L_law [.ref 2]) [] (k_h0 L xs) (fun v h' => v = some (.int 1) ∧ m_nx h' ≤ 600020 ∧ m_us h' ≤ 7302350)
