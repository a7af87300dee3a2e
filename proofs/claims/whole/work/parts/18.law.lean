/-! THE CLAIM OUT OF ONE WALK OF THE LAW'S BODY. Your part is whole_start (and what it stands on); all else here is the same for every law, but numbers. -/
def R_law : String := "FewerManLaw"
def lw_P (b : Addr) (xs : List Int32) (args : Array Value) (s : State) : Prop := args = #[.ref b] ∧ s.IntsAt b xs ∧ xs.length ≤ 3072 ∧ (Jvm.Cond.and given_1 narrow_1).before args s = true
def lw_Q (_ : Array Value) (s : State) (o : Outcome) (t : State) : Prop := o = .returned (some (.int 1)) ∧ Framed s o t [] 600000 7302250
def lw_Z (below : List Frame) (a : Array Value) (s : State) : State → Prop := fun t => ∃ o, t.status = .running ∧ Ended t below o ∧ lw_Q a s o t
/-- the law's own end, with 1 on the stack, nothing written that was there before, its room as the claim has it -/
theorem lw_ret {p : Program} {l : Launch} {e : Env} {s : State} {m : MethodId} {below : List Frame} {meth : Method} {c : Code} {b : Nat} (hx : p.tables.exec = Jvm.exec) (hb : c.code = code) (hr : meth.sig.returnType = ret) (hlocks : meth.locks = false) {pc : Nat} {H : Heap} {ls : Array Slot} (hdg : decode code pc = .ok (.ireturn, 1)) : W p l e room_1 s m #[Value.ref b] below meth c H [] 600000 7302250 (lw_Z below #[Value.ref b] s) (F0 m pc ls [.int 1]) := by
  intro T hT X
  obtain ⟨fs, hret, hrun, hended, hW, hframe⟩ := X.leave (v := some (.int 1)) (hlocks := hlocks) (fun h => by rw [hr] at h; cases h)
  have hmeth' : T.vm.method? m = some meth := X.method'
  refine ⟨T.setFrames fs, ?_, .returned (some (.int 1)), hrun, hended, rfl, ⟨_, rfl⟩, hW, hframe⟩
  jvm_step X.here [X.here.top, hx, hb, hdg, hmeth', hr, ret, narrow_b1]
  (try refine ⟨rfl, ?_⟩); (try refine ⟨rfl, ?_⟩)
  first | (intro acts; rw [hret _ acts rfl rfl rfl]) | rw [hret _ _ rfl rfl rfl]
  exact Steps.refl _
/-- what holds at the law's entry: the machine, the code, the tables' words (any of lw_tbl by 'hts w (by decide +kernel)'), the script of L ints xs at the cell b, what the Statement gives of the start (any of its parts by flat_of_before) -/
def lw_At (p : Program) (s : State) (m : MethodId) (meth : Method) (c : Code) (b L : Nat) (xs : Nat → Int32) : Prop :=
  p.tables.exec = Jvm.exec ∧ c.code = code ∧ meth.sig.returnType = ret ∧ c.maxLocals = 4 ∧ s.vm.findClass R_law = some m.cls ∧ (∀ w ∈ lw_tbl, w.before #[Value.ref b] s = true) ∧ va_X b L xs s s.heap ∧ b < s.heap.size ∧ meth.locks = false ∧ (Jvm.Cond.and given_1 narrow_1).before #[Value.ref b] s = true

theorem k_whole {p : Program} {e : Env} {s : State} {m : MethodId} {below : List Frame} {meth : Method} {c : Code} (l : Launch) {b L : Nat} {xs : Nat → Int32} (hL : L ≤ 3072) (C0 : lw_At p s m meth c b L xs) (hRuns : k_Runs) : W p l e room_1 s m #[Value.ref b] below meth c s.heap [] 0 0 (lw_Z below #[Value.ref b] s) (entryFrame m ([Value.ref b] : List Value).toArray 4) := by
  obtain ⟨hx, hb, hr, hml, hown, hts, hX, hbl, hlocks, hgv⟩ := id C0
  obtain ⟨P, hP, hK, hbase, hhc, hmv⟩ := k_start hts hX hbl hL hgv
  obtain ⟨n, v, h', hrun, rfl, hcn, hus⟩ := hRuns L xs hL
  have hq : m_meth z_L_law = some (yL_law, cL_law, 4, some .boolean) := rfl
  have C : m_Cx P p room_1 s m #[Value.ref b] meth c yL_law cL_law 4 := ⟨hx, hb, hml, hown, fun h9 => absurd h9 (by decide), fun w hw => hts w (List.mem_filter.mp hw).1, hK, hP, by rw [hbase]; exact Nat.le_refl _, by decide, by decide⟩
  have hR : m_HR P (k_h0 L xs) s.heap := by
    refine ⟨by rw [hbase]; rfl, Nat.le_refl 20, fun a h1 h2 => absurd h2 (by show ¬ a < 20; omega), fun a h1 h2 => ?_, ⟨_, rfl⟩, ⟨100, by decide, rfl⟩, fun a ha => ?_⟩
    · rw [hhc]
      match a, h1, h2 with
      | 0, h1, _ => omega
      | 1, h1, _ => omega
      | a + 2, _, _ => rfl
    · have ha : 20 ≤ a := ha
      obtain ⟨a, rfl⟩ : ∃ z, a = z + 20 := ⟨a - 20, by omega⟩
      rfl
  have hLR := m_LR.entry (z := z_L_law) (vs := [.ref 2]) hP (by decide)
  rw [show m_max z_L_law = 4 from rfl] at hLR
  have hmap : ([.ref 2] : List Value).map (m_mv P) = [.ref b] := by rw [List.map_cons, hmv]; rfl
  rw [hmap] at hLR
  rw [lg_entry_eq]
  refine m_frame hP m_all_right (m_side P l) n 40 z_L_law (yL_law, cL_law, 4, some .boolean) p e room_1 s m #[Value.ref b] below meth c 20 100 _ 0 (m_init z_L_law [.ref 2]) [] (k_h0 L xs) _ h' hq C (by decide) (by decide) hrun hcn hus ?_ s.heap [] 0 0 _ ⟨hR, hLR, va_S.rf, rfl, rfl⟩
  intro H locs cells slots Ls pc' nx len i ops w ls' st' hp hdg ok hs
  have e1 := hp.2.2.2.1
  have e2 := hp.2.2.2.2
  rcases m_end_of hs with rfl | rfl | rfl
  · obtain ⟨rfl, c9, ty, rfl, hrt, hty⟩ := ok
    simp only [m_st1, m_ret] at hs
    split at hs
    · obtain ⟨hg, hs⟩ := m_cond_some hs
      cases hs
      refine va_forget (fun q hq => by have := hp.2.2.1.2.2 q hq; unfold m_A at this; rw [hbase] at this; exact this) ?_
      refine W.widen (k := 600000) (n := 7302250) (by omega) (by omega) ?_
      exact lw_ret hx hb hr hlocks hdg
    · cases hs
  · simp only [m_st1] at hs
    split at hs
    · cases hs
    · cases hs
  · simp only [m_st1] at hs
    split at hs
    · cases hs
    · cases hs
