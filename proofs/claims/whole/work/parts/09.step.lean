section Step
variable (P : mP) (p : Program) (l : Launch) (e : Env) (R : Room) (s : State) (m : MethodId) (args : Array Value) (below : List Frame) (meth : Method) (c : Code)
def m_Cx (nm : MethodName) (bs : ByteArray) (mx : Nat) : Prop := p.tables.exec = Jvm.exec ∧ c.code = bs ∧ c.maxLocals = mx ∧ s.vm.findClass nm.cls = some m.cls ∧ (nm.name = "<init>" → meth.name = "<init>") ∧ (∀ w ∈ m_tbl, w.before args s = true) ∧ m_K P s ∧ m_okP P ∧ P.2.2.1 ≤ s.heap.size ∧ 1 ≤ R.frames ∧ 60 ≤ R.locals
def m_Pt (mx nx0 us0 : Nat) (ls : mL) (h : mH) (H : Heap) (locs : List Loc) (cells slots : Nat) (Ls : Array Slot) : Prop := m_HR P h H ∧ m_LR P Ls mx ls ∧ va_S (m_A P) s.heap H locs ∧ cells + nx0 = m_nx h ∧ slots + us0 = m_us h
def m_Ok (mx nx0 us0 : Nat) (Q : State → Prop) (pc : Nat) (ls : mL) (st : List Value) (h : mH) : Prop := ∀ (H : Heap) (locs : List Loc) (cells slots : Nat) (Ls : Array Slot), m_Pt P s mx nx0 us0 ls h H locs cells slots Ls → W p l e R s m args below meth c H locs cells slots Q (F0 m pc Ls (st.map (m_mv P)))
end Step
section StepLaws
variable {P : mP} {p : Program} {l : Launch} {e : Env} {R : Room} {s : State} {m : MethodId} {args : Array Value} {below : List Frame} {meth : Method} {c : Code} {nm : MethodName} {bs : ByteArray} {mx nx0 us0 : Nat} {Q : State → Prop} {rt : Option FieldType}
variable {pc nx pc' len : Nat} {ops : List Nat} {v : Value} {ls ls' : mL} {st st' : List Value} {h h' : mH}
theorem s_push {n : Nat} {v : Value} (row : ∀ {H : Heap} {locs : List Loc} {cells slots : Nat} {Ls : Array Slot} {rest : List Value}, va_S (m_A P) s.heap H locs → W p l e R s m args below meth c H locs cells slots Q (F0 m (pc + n) Ls (m_mv P v :: rest)) → W p l e R s m args below meth c H locs cells slots Q (F0 m pc Ls rest))
    (hn : nx = pc + n) (hs : (some (.inl (nx, ls, v :: st, h)) : Option mR) = some (.inl (pc', ls', st', h'))) (K : m_Ok P p l e R s m args below meth c mx nx0 us0 Q pc' ls' st' h') : m_Ok P p l e R s m args below meth c mx nx0 us0 Q pc ls st h := by
  cases hs
  subst hn
  intro H locs cells slots Ls hp
  exact row hp.2.2.1 (K H locs cells slots Ls hp)
theorem s_bi {f : Int32 → Int32 → Int32} (row : ∀ {H : Heap} {locs : List Loc} {cells slots : Nat} {Ls : Array Slot} {rest : List Value} {x y : Int32}, W p l e R s m args below meth c H locs cells slots Q (F0 m (pc + 1) Ls (.int (f x y) :: rest)) → W p l e R s m args below meth c H locs cells slots Q (F0 m pc Ls (.int y :: .int x :: rest)))
    (hn : nx = pc + 1) (hs : m_bi nx ls st h f = some (.inl (pc', ls', st', h'))) (K : m_Ok P p l e R s m args below meth c mx nx0 us0 Q pc' ls' st' h') : m_Ok P p l e R s m args below meth c mx nx0 us0 Q pc ls st h := by
  unfold m_bi at hs
  split at hs
  · cases hs
    subst hn
    exact fun H locs cells slots Ls hp => row (K H locs cells slots Ls hp)
  · cases hs
theorem s_bd {f : Int32 → Int32 → Int32} (row : ∀ {H : Heap} {locs : List Loc} {cells slots : Nat} {Ls : Array Slot} {rest : List Value} {x y : Int32}, ¬ y = 0 → W p l e R s m args below meth c H locs cells slots Q (F0 m (pc + 1) Ls (.int (f x y) :: rest)) → W p l e R s m args below meth c H locs cells slots Q (F0 m pc Ls (.int y :: .int x :: rest)))
    (hn : nx = pc + 1) (hs : m_bd nx ls st h f = some (.inl (pc', ls', st', h'))) (K : m_Ok P p l e R s m args below meth c mx nx0 us0 Q pc' ls' st' h') : m_Ok P p l e R s m args below meth c mx nx0 us0 Q pc ls st h := by
  unfold m_bd at hs
  split at hs
  · rename_i y x r
    by_cases hy : y = 0
    · rw [decide_eq_true hy] at hs
      cases hs
    · rw [decide_eq_false hy] at hs
      cases hs
      subst hn
      exact fun H locs cells slots Ls hp => row hy (K H locs cells slots Ls hp)
  · cases hs
theorem s_bl {f : Int64 → Int64 → Int64} (row : ∀ {H : Heap} {locs : List Loc} {cells slots : Nat} {Ls : Array Slot} {rest : List Value} {x y : Int64}, W p l e R s m args below meth c H locs cells slots Q (F0 m (pc + 1) Ls (.long (f x y) :: rest)) → W p l e R s m args below meth c H locs cells slots Q (F0 m pc Ls (.long y :: .long x :: rest)))
    (hn : nx = pc + 1) (hs : m_bl nx ls st h f = some (.inl (pc', ls', st', h'))) (K : m_Ok P p l e R s m args below meth c mx nx0 us0 Q pc' ls' st' h') : m_Ok P p l e R s m args below meth c mx nx0 us0 Q pc ls st h := by
  unfold m_bl at hs
  split at hs
  · cases hs
    subst hn
    exact fun H locs cells slots Ls hp => row (K H locs cells slots Ls hp)
  · cases hs
theorem s_bld {f : Int64 → Int64 → Int64} (row : ∀ {H : Heap} {locs : List Loc} {cells slots : Nat} {Ls : Array Slot} {rest : List Value} {x y : Int64}, ¬ y = 0 → W p l e R s m args below meth c H locs cells slots Q (F0 m (pc + 1) Ls (.long (f x y) :: rest)) → W p l e R s m args below meth c H locs cells slots Q (F0 m pc Ls (.long y :: .long x :: rest)))
    (hn : nx = pc + 1) (hs : m_bld nx ls st h f = some (.inl (pc', ls', st', h'))) (K : m_Ok P p l e R s m args below meth c mx nx0 us0 Q pc' ls' st' h') : m_Ok P p l e R s m args below meth c mx nx0 us0 Q pc ls st h := by
  unfold m_bld at hs
  split at hs
  · rename_i y x r
    by_cases hy : y = 0
    · rw [decide_eq_true hy] at hs
      cases hs
    · rw [decide_eq_false hy] at hs
      cases hs
      subst hn
      exact fun H locs cells slots Ls hp => row hy (K H locs cells slots Ls hp)
  · cases hs
theorem s_ui {f : Int32 → Int32} (row : ∀ {H : Heap} {locs : List Loc} {cells slots : Nat} {Ls : Array Slot} {rest : List Value} {x : Int32}, W p l e R s m args below meth c H locs cells slots Q (F0 m (pc + 1) Ls (.int (f x) :: rest)) → W p l e R s m args below meth c H locs cells slots Q (F0 m pc Ls (.int x :: rest)))
    (hn : nx = pc + 1) (hs : m_ui nx ls st h f = some (.inl (pc', ls', st', h'))) (K : m_Ok P p l e R s m args below meth c mx nx0 us0 Q pc' ls' st' h') : m_Ok P p l e R s m args below meth c mx nx0 us0 Q pc ls st h := by
  unfold m_ui at hs
  split at hs
  · cases hs
    subst hn
    exact fun H locs cells slots Ls hp => row (K H locs cells slots Ls hp)
  · cases hs
theorem s_ldi {k n : Nat} (row : ∀ {H : Heap} {locs : List Loc} {cells slots : Nat} {Ls : Array Slot} {rest : List Value} {x : Int32}, Ls[k]? = some (.val (.int x)) → W p l e R s m args below meth c H locs cells slots Q (F0 m (pc + n) Ls (.int x :: rest)) → W p l e R s m args below meth c H locs cells slots Q (F0 m pc Ls rest))
    (hn : nx = pc + n) (hs : m_ldi nx [k] ls st h = some (.inl (pc', ls', st', h'))) (K : m_Ok P p l e R s m args below meth c mx nx0 us0 Q pc' ls' st' h') : m_Ok P p l e R s m args below meth c mx nx0 us0 Q pc ls st h := by
  simp only [m_ldi, m_nth_eq] at hs
  split at hs
  · rename_i x hx
    cases hs
    subst hn
    exact fun H locs cells slots Ls hp => row (hp.2.1.2.2.2 k _ hx (Or.inl rfl)) (K H locs cells slots Ls hp)
  · cases hs
theorem s_ldl {k n : Nat} (row : ∀ {H : Heap} {locs : List Loc} {cells slots : Nat} {Ls : Array Slot} {rest : List Value} {x : Int64}, Ls[k]? = some (.val (.long x)) → W p l e R s m args below meth c H locs cells slots Q (F0 m (pc + n) Ls (.long x :: rest)) → W p l e R s m args below meth c H locs cells slots Q (F0 m pc Ls rest))
    (hn : nx = pc + n) (hs : m_ldl nx [k] ls st h = some (.inl (pc', ls', st', h'))) (K : m_Ok P p l e R s m args below meth c mx nx0 us0 Q pc' ls' st' h') : m_Ok P p l e R s m args below meth c mx nx0 us0 Q pc ls st h := by
  simp only [m_ldl, m_nth_eq] at hs
  split at hs
  · rename_i x hx
    split at hs
    · rename_i hx2
      cases hs
      subst hn
      exact fun H locs cells slots Ls hp => row (hp.2.1.2.2.2 k _ hx (Or.inr hx2)) (K H locs cells slots Ls hp)
    · cases hs
  · cases hs
theorem s_lda {k n : Nat} (hP : m_okP P) (row : ∀ {H : Heap} {locs : List Loc} {cells slots : Nat} {Ls : Array Slot} {rest : List Value} {x : Nat}, Ls[k]? = some (.val (.ref x)) → W p l e R s m args below meth c H locs cells slots Q (F0 m (pc + n) Ls (.ref x :: rest)) → W p l e R s m args below meth c H locs cells slots Q (F0 m pc Ls rest))
    (row2 : ∀ {H : Heap} {locs : List Loc} {cells slots : Nat} {Ls : Array Slot} {rest : List Value}, Ls[k]? = some (.val .null) → W p l e R s m args below meth c H locs cells slots Q (F0 m (pc + n) Ls (.null :: rest)) → W p l e R s m args below meth c H locs cells slots Q (F0 m pc Ls rest))
    (hn : nx = pc + n) (hs : m_lda nx [k] ls st h = some (.inl (pc', ls', st', h'))) (K : m_Ok P p l e R s m args below meth c mx nx0 us0 Q pc' ls' st' h') : m_Ok P p l e R s m args below meth c mx nx0 us0 Q pc ls st h := by
  simp only [m_lda, m_nth_eq] at hs
  split at hs
  · rename_i x hx
    cases hs
    subst hn
    intro H locs cells slots Ls hp
    have h1 := hp.2.1.2.2.2 k _ hx (Or.inl rfl)
    have h2 := K H locs cells slots Ls hp
    rw [List.map_cons] at h2
    by_cases h19 : x = 19
    · have e : m_mv P (.ref x) = P.2.2.2.2.1 := by show (if x = 19 then _ else _) = _; rw [if_pos h19]
      rw [e] at h1 h2
      rcases hP.1 with q | ⟨t, q⟩
      · rw [q] at h1 h2
        exact row2 h1 h2
      · rw [q] at h1 h2
        exact row h1 h2
    · have e : m_mv P (.ref x) = .ref (m_rho P x) := by show (if x = 19 then _ else _) = _; rw [if_neg h19]
      rw [e] at h1 h2
      exact row h1 h2
  · rename_i hx
    cases hs
    subst hn
    exact fun H locs cells slots Ls hp => row2 (hp.2.1.2.2.2 k _ hx (Or.inl rfl)) (K H locs cells slots Ls hp)
  · cases hs
theorem s_sti {k n : Nat} (hP : m_okP P) (row : ∀ {H : Heap} {locs : List Loc} {cells slots : Nat} {Ls : Array Slot} {rest : List Value} {x : Int32} {nL : Nat} {lv : List (Nat × Value)}, lv_has Ls nL lv → k < nL → (∀ Ls' : Array Slot, lv_has Ls' nL ((k, Value.int x) :: lv.filter (fun q => !(q.1 == k) && !(q.1 + 1 == k && q.2.category == 2))) → W p l e R s m args below meth c H locs cells slots Q (F0 m (pc + n) Ls' rest)) → W p l e R s m args below meth c H locs cells slots Q (F0 m pc Ls (.int x :: rest)))
    (hn : nx = pc + n) (hs : m_sti nx [k] ls st h = some (.inl (pc', ls', st', h'))) (K : m_Ok P p l e R s m args below meth c mx nx0 us0 Q pc' ls' st' h') : m_Ok P p l e R s m args below meth c mx nx0 us0 Q pc ls st h := by
  unfold m_sti at hs
  split at hs
  · rename_i k2 x r he
    cases he
    cases hk : Nat.ble (k + 1) ls.length with
    | false => rw [hk] at hs; cases hs
    | true =>
      rw [hk] at hs
      cases hs
      subst hn
      intro H locs cells slots Ls hp
      have hk2 : k < ls.length := Nat.le_of_ble_eq_true hk
      exact row (hp.2.1.has) (by rw [← hp.2.1.1]; exact hk2) (fun Ls' hl => K H locs cells slots Ls' ⟨hp.1, hp.2.1.set1 hP hk2 rfl hl, hp.2.2⟩)
  · cases hs
theorem s_stl {k n : Nat} (hP : m_okP P) (row : ∀ {H : Heap} {locs : List Loc} {cells slots : Nat} {Ls : Array Slot} {rest : List Value} {x : Int64} {nL : Nat} {lv : List (Nat × Value)}, lv_has Ls nL lv → k + 1 < nL → (∀ Ls' : Array Slot, lv_has Ls' nL ((k, Value.long x) :: lv.filter (fun q => !(q.1 == k) && (!(q.1 == k + 1) && !(q.1 + 1 == k && q.2.category == 2)))) → W p l e R s m args below meth c H locs cells slots Q (F0 m (pc + n) Ls' rest)) → W p l e R s m args below meth c H locs cells slots Q (F0 m pc Ls (.long x :: rest)))
    (hn : nx = pc + n) (hs : m_stl nx [k] ls st h = some (.inl (pc', ls', st', h'))) (K : m_Ok P p l e R s m args below meth c mx nx0 us0 Q pc' ls' st' h') : m_Ok P p l e R s m args below meth c mx nx0 us0 Q pc ls st h := by
  unfold m_stl at hs
  split at hs
  · rename_i k2 x r he
    cases he
    cases hk : Nat.ble (k + 2) ls.length with
    | false => rw [hk] at hs; cases hs
    | true =>
      rw [hk] at hs
      cases hs
      subst hn
      intro H locs cells slots Ls hp
      have hk2 : k + 1 < ls.length := Nat.le_of_ble_eq_true hk
      exact row (hp.2.1.has) (by rw [← hp.2.1.1]; exact hk2) (fun Ls' hl => K H locs cells slots Ls' ⟨hp.1, hp.2.1.set2 hP hk2 rfl hl, hp.2.2⟩)
  · cases hs
theorem s_sta {k n : Nat} (hP : m_okP P) (row : ∀ {H : Heap} {locs : List Loc} {cells slots : Nat} {Ls : Array Slot} {rest : List Value} {x : Nat} {nL : Nat} {lv : List (Nat × Value)}, lv_has Ls nL lv → k < nL → (∀ Ls' : Array Slot, lv_has Ls' nL ((k, Value.ref x) :: lv.filter (fun q => !(q.1 == k) && !(q.1 + 1 == k && q.2.category == 2))) → W p l e R s m args below meth c H locs cells slots Q (F0 m (pc + n) Ls' rest)) → W p l e R s m args below meth c H locs cells slots Q (F0 m pc Ls (.ref x :: rest)))
    (row2 : ∀ {H : Heap} {locs : List Loc} {cells slots : Nat} {Ls : Array Slot} {rest : List Value} {nL : Nat} {lv : List (Nat × Value)}, lv_has Ls nL lv → k < nL → (∀ Ls' : Array Slot, lv_has Ls' nL ((k, Value.null) :: lv.filter (fun q => !(q.1 == k) && !(q.1 + 1 == k && q.2.category == 2))) → W p l e R s m args below meth c H locs cells slots Q (F0 m (pc + n) Ls' rest)) → W p l e R s m args below meth c H locs cells slots Q (F0 m pc Ls (.null :: rest)))
    (hn : nx = pc + n) (hs : m_sta nx [k] ls st h = some (.inl (pc', ls', st', h'))) (K : m_Ok P p l e R s m args below meth c mx nx0 us0 Q pc' ls' st' h') : m_Ok P p l e R s m args below meth c mx nx0 us0 Q pc ls st h := by
  unfold m_sta at hs
  split at hs
  · rename_i k2 x r he
    cases he
    cases hk : Nat.ble (k + 1) ls.length with
    | false => rw [hk] at hs; cases hs
    | true =>
      rw [hk] at hs
      cases hs
      subst hn
      intro H locs cells slots Ls hp
      have hk2 : k < ls.length := Nat.le_of_ble_eq_true hk
      have goal : ∀ w, m_mv P (.ref x) = w → (w = .null ∨ ∃ t, w = .ref t) → W p l e R s m args below meth c H locs cells slots Q (F0 m pc Ls (w :: st'.map (m_mv P))) := by
        intro w hw hww
        have K2 : ∀ Ls' : Array Slot, lv_has Ls' mx ((k, w) :: (m_prs P ls).filter (fun q => !(q.1 == k) && !(q.1 + 1 == k && q.2.category == 2))) → W p l e R s m args below meth c H locs cells slots Q (F0 m (pc + n) Ls' (st'.map (m_mv P))) := by
          intro Ls' hl
          rw [← hw] at hl
          exact K H locs cells slots Ls' ⟨hp.1, hp.2.1.set1 hP hk2 rfl hl, hp.2.2⟩
        have hmx : k < mx := by rw [← hp.2.1.1]; exact hk2
        rcases hww with q | ⟨t, q⟩
        · subst q
          exact row2 (hp.2.1.has) hmx K2
        · subst q
          exact row (hp.2.1.has) hmx K2
      refine goal _ rfl ?_
      by_cases h19 : x = 19
      · have e : m_mv P (.ref x) = P.2.2.2.2.1 := by show (if x = 19 then _ else _) = _; rw [if_pos h19]
        rw [e]
        exact hP.1
      · have e : m_mv P (.ref x) = .ref (m_rho P x) := by show (if x = 19 then _ else _) = _; rw [if_neg h19]
        rw [e]
        exact Or.inr ⟨_, rfl⟩
  · rename_i k2 r he
    cases he
    cases hk : Nat.ble (k + 1) ls.length with
    | false => rw [hk] at hs; cases hs
    | true =>
      rw [hk] at hs
      cases hs
      subst hn
      intro H locs cells slots Ls hp
      have hk2 : k < ls.length := Nat.le_of_ble_eq_true hk
      exact row2 (hp.2.1.has) (by rw [← hp.2.1.1]; exact hk2) (fun Ls' hl => K H locs cells slots Ls' ⟨hp.1, hp.2.1.set1 hP hk2 rfl hl, hp.2.2⟩)
  · cases hs
end StepLaws
