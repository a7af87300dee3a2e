/-! What the small machine's states say of the real ones. -/
abbrev mP : Type := va_G × (Nat → ClassId) × Nat × (Nat → Nat) × Value × mH
section Rel
variable (P : mP)
def m_rho (a : Nat) : Nat := if a < 20 then P.2.2.2.1 a else P.2.2.1 + (a - 20)
def m_mv (v : Value) : Value := match v with
  | .ref a => if a = 19 then P.2.2.2.2.1 else .ref (m_rho P a)
  | .int x => .int x
  | .long x => .long x
  | .float x => .float x
  | .double x => .double x
  | .null => .null
  | .retAddr x => .retAddr x
def m_mA (x : vp_A) : vp_A := match x with
  | (n, .inr (.inr (.inr (.inr f)))) => (n, .inr (.inr (.inr (.inr fun j => (f j).map (m_rho P)))))
  | (n, .inl f) => (n, .inl f)
  | (n, .inr (.inl f)) => (n, .inr (.inl f))
  | (n, .inr (.inr (.inl f))) => (n, .inr (.inr (.inl f)))
  | (n, .inr (.inr (.inr (.inl f)))) => (n, .inr (.inr (.inr (.inl f))))
def m_mC (c : mE) : va_E := match c with
  | .inl (t, x) => .inl (P.2.1 t, m_mA P x)
  | .inr (ci, fs) => .inr (ci, fs.map (m_mv P))
def m_tys : List (ClassId × FieldType) := [(P.2.1 0, .int), (P.2.1 1, .long), (P.2.1 2, .boolean), (P.2.1 3, .array .long)]
def m_A : Nat → Prop := fun q => P.2.2.1 ≤ q
def m_HR (h : mH) (H : Heap) : Prop := H.size = P.2.2.1 + (m_nx h - 20) ∧ 20 ≤ m_nx h ∧ (∀ a, 20 ≤ a → a < m_nx h → va_at P.1 vwCl (m_rho P a, m_mC P (h a)) H) ∧ (∀ a, 2 ≤ a → a < 20 → h a = P.2.2.2.2.2 a) ∧ (∃ q, h 0 = .inr (q, [])) ∧ (∃ q, 100 ≤ q ∧ h 1 = .inr (q, [])) ∧ ∀ a, m_nx h ≤ a → h a = .inr (99, [])
def m_LR (Ls : Array Slot) (mx : Nat) (ls : mL) : Prop := ls.length = mx ∧ Ls.size = mx ∧ lv_wf Ls ∧ ∀ (k : Nat) (v : Value), ls[k]? = some (some v) → (v.category = 1 ∨ ls[k + 1]? = some none) → Ls[k]? = some (.val (m_mv P v))
def m_pr (ls : mL) (k : Nat) : Option (Nat × Value) := match ls[k]? with
  | some (some v) => if v.category = 1 ∨ ls[k + 1]? = some none then some (k, m_mv P v) else none
  | _ => none
def m_prs (ls : mL) : List (Nat × Value) := (List.range ls.length).filterMap (m_pr P ls)
end Rel
theorem m_nth_eq {α : Type} : ∀ (l : List α) (k : Nat), m_nth l k = l[k]?
  | [], k => by simp [m_nth]
  | a :: l, 0 => by simp [m_nth]
  | a :: l, k + 1 => by simp [m_nth, m_nth_eq l k]
theorem m_cat_eq : ∀ (l : List Value), m_cat l = (l.map fun v => v.category).sum
  | [] => rfl
  | v :: l => by simp [m_cat, m_cat_eq l]
section Known
variable (P : mP)
def m_K (U : State) : Prop :=
  va_K P.1 vwCl (m_tys P) U ∧
  ((∀ q ∈ m_nestM, va_Nw (.methodLinkNest q.1 q.2.1 q.2.2 "FewerMan") U) ∧ va_Nw (.fieldLinkNest "FewerMan$Acts" 51 "FewerMan" "ABOVE" "[I" "FewerMan") U ∧ (Cond.arrayOver (.array .long)).before #[] U = true) ∧
  (∀ q ∈ m_stats, va_Z q.1 q.2.1 q.2.2.1 (m_mv P q.2.2.2) (m_A P) U U.heap) ∧
  (∀ q ∈ m_strs, vk_R q.1 q.2.1 q.2.2.1 (m_rho P q.2.2.2) U) ∧
  (∀ (a n : Nat) (f : Nat → Int32), a < 20 → P.2.2.2.2.2 a = .inl (0, n, .inl f) → va_T .int (m_rho P a) n (fun j => .int (f j)) (m_A P) U U.heap) ∧
  (∀ (a n : Nat) (f : Nat → Int32), a < 20 → P.2.2.2.2.2 a = .inl (4, n, .inl f) → va_T .byte (m_rho P a) n (fun j => .int (f j)) (m_A P) U U.heap) ∧
  ∀ (a : Nat) (fs : List Value), a < 20 → P.2.2.2.2.2 a = .inr (11, fs) → va_O "java/lang/String" (m_rho P a) (m_A P) U U.heap ∧ ∃ x y, fs = [x, y] ∧ va_OF "java/lang/String" "value" "[B" (m_mv P x) (m_rho P a) (m_A P) U U.heap ∧ va_OF "java/lang/String" "coder" "B" (m_mv P y) (m_rho P a) (m_A P) U U.heap
/-- what is asked of the constant part -/
def m_okP : Prop := (P.2.2.2.2.1 = .null ∨ ∃ t, P.2.2.2.2.1 = .ref t) ∧ (∀ a, a < 20 → P.2.2.2.1 a < P.2.2.1) ∧ P.2.2.2.2.2 19 = .inr (99, []) ∧
  ∀ a, 2 ≤ a → a < 20 → (∃ n f, P.2.2.2.2.2 a = .inl (0, n, .inl f)) ∨ (∃ n f, P.2.2.2.2.2 a = .inl (4, n, .inl f)) ∨ (∃ fs, P.2.2.2.2.2 a = .inr (11, fs)) ∨ ∃ fs, P.2.2.2.2.2 a = .inr (99, fs)
end Known
theorem m_over_moved {u U : State} (hvm : u.vm.Alike U.vm) (h : (Cond.arrayOver (.array .long)).before #[] u = true) : (Cond.arrayOver (.array .long)).before #[] U = true := by
  unfold Cond.before Cond.holds at h
  simp only [Cond.value, beq_iff_eq] at h
  cases hc : u.vm.findClass (FieldType.array .long).toString with
  | none => rw [hc] at h; cases h
  | some comp =>
    rw [hc, Option.bind_some] at h
    obtain ⟨c, hi, hk2⟩ := Option.bind_eq_some_iff.mp h
    obtain ⟨k, hk, hb⟩ := Option.map_eq_some_iff.mp hk2
    obtain ⟨k', hk', he⟩ := hvm.2.2 _ _ hk
    have hi' : (U.vm.classes.findIdx? fun (x : Class) => match x.kind with | .array component _ => component == comp | _ => false) = some c := by
      have e1 := va_idx_bare U.vm comp
      have e2 := va_idx_bare u.vm comp
      have e3 : U.vm.bare = u.vm.bare := by first | exact hvm.bare_eq | exact hvm.bare_eq.symm
      rw [e3] at e1
      exact e1.symm.trans (e2.trans hi)
    cases hkind : k.kind with
    | array component ty =>
      rw [hkind] at hb
      simp at hb
      have hkind' : k'.kind = .array component ty := by rw [he]; exact hkind
      have f1 : U.vm.findClass (FieldType.array .long).toString = some comp := by rw [hvm.findClass]; exact hc
      have f2 : U.vm.findClass ("[" ++ (FieldType.array .long).toString) = some c := by rw [hvm.findClass]; exact hb.2
      unfold Cond.before Cond.holds
      simp only [Cond.value]
      rw [f1, Option.bind_some]
      refine (congrArg (fun o : Option Nat => (o.bind (fun c => (U.vm.classes[c]?).map fun (k : Class) => match k.kind with | .array _ ty => decide (ty = FieldType.array .long) && decide (U.vm.findClass ("[" ++ (FieldType.array .long).toString) = some c) | _ => false) == some true)) hi').trans ?_
      simp [hk', hkind', f2, hb.1]
    | _ => rw [hkind] at hb; simp at hb
theorem m_K.warm {P : mP} {s U : State} {locs : List Loc} (h : m_K P s) (hW : s.WarmedH U.vm) (hS : va_S (m_A P) s.heap U.heap locs) : m_K P U := by
  obtain ⟨h1, ⟨h2, h2b, h2c⟩, h3, h4, h5, h6, h7⟩ := h
  have hal : s.vm.Alike U.vm := hW.alike
  have hq : ∀ a : Nat, a < s.heap.size → ¬ m_A P a → U.heap[a]? = s.heap[a]? := hS.2.1
  refine ⟨va_K.moved hal h1, ⟨fun q hq' => va_Nw.warmM hW (h2 q hq'), va_Nw.warmF hW h2b, m_over_moved hal h2c⟩, fun q hq' => va_Z.moved hal ((h3 q hq').kept hq), fun q hq' => vk_R.warm hW (h4 q hq'), fun a n f ha he => va_T.moved hal ((h5 a n f ha he).kept hq), fun a n f ha he => va_T.moved hal ((h6 a n f ha he).kept hq), fun a fs ha he => ?_⟩
  obtain ⟨g1, x, y, g2, g3, g4⟩ := h7 a fs ha he
  exact ⟨va_O.moved hal (g1.kept hq), x, y, g2, va_OF.moved hal (g3.kept hq), va_OF.moved hal (g4.kept hq)⟩
theorem m_K.same {P : mP} {s U : State} (h : m_K P s) (hv : U.vm = s.vm) (hh : U.heap = s.heap) : m_K P U := by
  obtain ⟨h1, ⟨h2, h2b, h2c⟩, h3, h4, h5, h6, h7⟩ := h
  have hal : s.vm.Alike U.vm := by rw [hv]; exact Vm.Alike.refl _
  have hq : ∀ a : Nat, a < s.heap.size → ¬ m_A P a → U.heap[a]? = s.heap[a]? := fun a _ _ => by rw [hh]
  refine ⟨va_K.moved hal h1, ⟨fun q hq' => va_Nw.same rfl hv.symm (h2 q hq'), va_Nw.same rfl hv.symm h2b, m_over_moved hal h2c⟩, fun q hq' => va_Z.moved hal ((h3 q hq').kept hq), fun q hq' => vk_R.same hv (h4 q hq'), fun a n f ha he => va_T.moved hal ((h5 a n f ha he).kept hq), fun a n f ha he => va_T.moved hal ((h6 a n f ha he).kept hq), fun a fs ha he => ?_⟩
  obtain ⟨g1, x, y, g2, g3, g4⟩ := h7 a fs ha he
  exact ⟨va_O.moved hal (g1.kept hq), x, y, g2, va_OF.moved hal (g3.kept hq), va_OF.moved hal (g4.kept hq)⟩
theorem m_mv_cat {P : mP} (hP : m_okP P) (v : Value) : (m_mv P v).category = v.category := by
  cases v with
  | ref a =>
    unfold m_mv
    dsimp only
    split
    · rcases hP.1 with h | ⟨t, h⟩ <;> rw [h] <;> rfl
    · rfl
  | _ => rfl
theorem m_mv_sum {P : mP} (hP : m_okP P) (l : List Value) : ((l.map (m_mv P)).map fun v => v.category).sum = m_cat l := by
  rw [m_cat_eq, List.map_map]
  congr 1
  apply List.map_congr_left
  intro v _
  exact m_mv_cat hP v
theorem m_prs_mem {P : mP} {ls : mL} {k : Nat} {v : Value} (h1 : ls[k]? = some (some v)) (h2 : v.category = 1 ∨ ls[k + 1]? = some none) : (k, m_mv P v) ∈ m_prs P ls := by
  unfold m_prs
  refine List.mem_filterMap.mpr ⟨k, List.mem_range.mpr ((List.getElem?_eq_some_iff.mp h1).1), ?_⟩
  unfold m_pr
  rw [h1]
  dsimp only
  rw [if_pos h2]
theorem m_LR.has {P : mP} {Ls : Array Slot} {mx : Nat} {ls : mL} (h : m_LR P Ls mx ls) : lv_has Ls mx (m_prs P ls) := by
  obtain ⟨-, h1, h2, h3⟩ := h
  refine ⟨h1, h2, fun q hq => ?_⟩
  unfold m_prs at hq
  obtain ⟨k, -, hk⟩ := List.mem_filterMap.mp hq
  unfold m_pr at hk
  split at hk
  · rename_i v hv
    split at hk
    · rename_i hc
      cases hk
      exact h3 k v hv hc
    · cases hk
  · cases hk
theorem m_LR.set1 {P : mP} (hP : m_okP P) {Ls Ls' : Array Slot} {mx i : Nat} {ls : mL} {v : Value} (h : m_LR P Ls mx ls) (hi : i < ls.length) (hv : v.category = 1)
    (h' : lv_has Ls' mx ((i, m_mv P v) :: (m_prs P ls).filter (fun q => !(q.1 == i) && !(q.1 + 1 == i && q.2.category == 2)))) : m_LR P Ls' mx (ls.set i (some v)) := by
  obtain ⟨g1, g2, g3⟩ := h'
  refine ⟨by rw [List.length_set]; exact h.1, g1, g2, fun k w hk hw => ?_⟩
  by_cases hki : k = i
  · subst hki
    rw [List.getElem?_set_self hi] at hk
    cases hk
    exact g3 (k, m_mv P v) List.mem_cons_self
  · rw [List.getElem?_set_ne (Ne.symm hki)] at hk
    have hw2 : w.category = 1 ∨ (k + 1 ≠ i ∧ ls[k + 1]? = some none) := by
      rcases hw with hw | hw
      · exact Or.inl hw
      · by_cases hk1 : k + 1 = i
        · rw [hk1, List.getElem?_set_self hi] at hw
          cases hw
        · rw [List.getElem?_set_ne (Ne.symm hk1)] at hw
          exact Or.inr ⟨hk1, hw⟩
    refine g3 (k, m_mv P w) (List.mem_cons_of_mem _ (List.mem_filter.mpr ⟨m_prs_mem hk (hw2.imp id And.right), ?_⟩))
    have hb1 : (k == i) = false := by simpa using hki
    rcases hw2 with hc | ⟨hk1, -⟩
    · simp [hb1, m_mv_cat hP, hc]
    · have hb2 : (k + 1 == i) = false := by simpa using hk1
      simp [hb1, hb2]
theorem m_LR.set2 {P : mP} (hP : m_okP P) {Ls Ls' : Array Slot} {mx i : Nat} {ls : mL} {v : Value} (h : m_LR P Ls mx ls) (hi : i + 1 < ls.length) (hv : v.category = 2)
    (h' : lv_has Ls' mx ((i, m_mv P v) :: (m_prs P ls).filter (fun q => !(q.1 == i) && (!(q.1 == i + 1) && !(q.1 + 1 == i && q.2.category == 2))))) : m_LR P Ls' mx ((ls.set i (some v)).set (i + 1) none) := by
  obtain ⟨g1, g2, g3⟩ := h'
  refine ⟨by rw [List.length_set, List.length_set]; exact h.1, g1, g2, fun k w hk hw => ?_⟩
  have hk2 : k ≠ i + 1 := fun e => by
    rw [e, List.getElem?_set_self (by rw [List.length_set]; exact hi)] at hk
    cases hk
  rw [List.getElem?_set_ne (Ne.symm hk2)] at hk
  by_cases hki : k = i
  · subst hki
    rw [List.getElem?_set_self (by omega)] at hk
    cases hk
    exact g3 (k, m_mv P v) List.mem_cons_self
  · rw [List.getElem?_set_ne (Ne.symm hki)] at hk
    have hw2 : w.category = 1 ∨ (k + 1 ≠ i ∧ ls[k + 1]? = some none) := by
      rcases hw with hw | hw
      · exact Or.inl hw
      · rw [List.getElem?_set_ne (show i + 1 ≠ k + 1 by omega)] at hw
        by_cases hk1 : k + 1 = i
        · rw [hk1, List.getElem?_set_self (by omega)] at hw
          cases hw
        · rw [List.getElem?_set_ne (Ne.symm hk1)] at hw
          exact Or.inr ⟨hk1, hw⟩
    refine g3 (k, m_mv P w) (List.mem_cons_of_mem _ (List.mem_filter.mpr ⟨m_prs_mem hk (hw2.imp id And.right), ?_⟩))
    have hb1 : (k == i) = false := by simpa using hki
    have hb3 : (k == i + 1) = false := by simpa using hk2
    rcases hw2 with hc | ⟨hk1, -⟩
    · simp [hb1, hb3, m_mv_cat hP, hc]
    · have hb2 : (k + 1 == i) = false := by simpa using hk1
      simp [hb1, hb2, hb3]
theorem m_lay_get {P : mP} (hP : m_okP P) : ∀ (vs : List Value) (i k : Nat) (v : Value), (m_lay vs)[k]? = some (some v) → (i + k, m_mv P v) ∈ lv_args i (vs.map (m_mv P)) := by
  intro vs
  induction vs with
  | nil =>
    intro i k v h
    simp [m_lay] at h
  | cons a vs ih =>
    intro i k v h
    have hc := m_mv_cat hP a
    have one : ∀ (z : Option Value), a.category = 1 → m_lay (a :: vs) = z :: m_lay vs → (∀ w, z = some w → w = a) → (i + k, m_mv P v) ∈ lv_args i ((a :: vs).map (m_mv P)) := by
      intro z h1 h2 h3
      rw [h2] at h
      rw [List.map_cons, lv_args, hc, if_neg (by omega)]
      cases k with
      | zero =>
        rw [List.getElem?_cons_zero] at h
        cases h3 v (Option.some.inj h)
        exact List.mem_cons_self
      | succ k =>
        rw [List.getElem?_cons_succ] at h
        refine List.mem_cons_of_mem _ ?_
        have := ih (i + 1) k v h
        rwa [show i + (k + 1) = i + 1 + k by omega]
    have two : ∀ (z : Option Value), a.category = 2 → m_lay (a :: vs) = z :: none :: m_lay vs → (∀ w, z = some w → w = a) → (i + k, m_mv P v) ∈ lv_args i ((a :: vs).map (m_mv P)) := by
      intro z h1 h2 h3
      rw [h2] at h
      rw [List.map_cons, lv_args, hc, if_pos h1]
      cases k with
      | zero =>
        rw [List.getElem?_cons_zero] at h
        cases h3 v (Option.some.inj h)
        exact List.mem_cons_self
      | succ k =>
        rw [List.getElem?_cons_succ] at h
        cases k with
        | zero => rw [List.getElem?_cons_zero] at h; cases h
        | succ k =>
          rw [List.getElem?_cons_succ] at h
          refine List.mem_cons_of_mem _ ?_
          have := ih (i + 2) k v h
          rwa [show i + (k + 1 + 1) = i + 2 + k by omega]
    cases a with
    | int x => exact one _ rfl rfl (fun w h => (Option.some.inj h).symm)
    | long x => exact two _ rfl rfl (fun w h => (Option.some.inj h).symm)
    | float x => exact one _ rfl rfl (fun w h => by cases h)
    | double x => exact two _ rfl rfl (fun w h => by cases h)
    | null => exact one _ rfl rfl (fun w h => (Option.some.inj h).symm)
    | ref x => exact one _ rfl rfl (fun w h => (Option.some.inj h).symm)
    | retAddr x => exact one _ rfl rfl (fun w h => by cases h)
theorem m_lay_len : ∀ (vs : List Value), (m_lay vs).length = m_cat vs := by
  intro vs
  induction vs with
  | nil => rfl
  | cons a vs ih => cases a <;> simp [m_lay, m_cat, ih, Value.category] <;> omega
theorem m_lg_len {P : mP} (hP : m_okP P) : ∀ (vs : List Value), (lg_sl (vs.map (m_mv P))).length = m_cat vs := by
  intro vs
  induction vs with
  | nil => rfl
  | cons a vs ih =>
    have h : (lg_sl ((a :: vs).map (m_mv P))).length = (if (m_mv P a).category = 2 then 2 else 1) + (lg_sl (vs.map (m_mv P))).length := by
      simp only [lg_sl, List.map_cons, List.flatMap_cons, List.length_append]
      split <;> simp
    rw [h, ih, m_mv_cat hP]
    cases a <;> simp [m_cat, Value.category]
/-- the locals of a method that begins -/
theorem m_LR.entry {P : mP} (hP : m_okP P) {z : Nat} {vs : List Value} (h : m_cat vs ≤ m_max z) :
    m_LR P ((lg_sl (vs.map (m_mv P)) ++ List.replicate (m_max z - (lg_sl (vs.map (m_mv P))).length) Slot.unset).toArray) (m_max z) (m_init z vs) := by
  have hl := lv_entry (vs.map (m_mv P)) (n := m_max z) (by rw [m_lg_len hP]; exact h)
  obtain ⟨h1, h2, h3⟩ := hl
  refine ⟨?_, h1, h2, fun k v hk _ => ?_⟩
  · unfold m_init m_fill
    rw [List.length_append, List.length_replicate, m_lay_len]
    omega
  · have hk' : (m_lay vs)[k]? = some (some v) := by
      unfold m_init m_fill at hk
      by_cases hlt : k < (m_lay vs).length
      · rwa [List.getElem?_append_left hlt] at hk
      · rw [List.getElem?_append_right (by omega)] at hk
        rw [List.getElem?_replicate] at hk
        split at hk <;> cases hk
    have := h3 _ (m_lay_get hP vs 0 k v hk')
    simpa using this
