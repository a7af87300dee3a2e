/-! Calls, and a whole method. -/
def m_rm (d mc ms : Nat) : Room := { frames := d + 1, cells := mc, slots := ms, locals := 60 * (d + 1) }
def m_Pc (P : mP) (h : mH) (vs : List Value) : Array Value → State → Prop := va_Pc (vs.map (m_mv P)) (fun U => m_HR P h U.heap ∧ m_K P U)
def m_Qc (P : mP) (v : Option Value) (h' : mH) : Array Value → State → Outcome → State → Prop := fun _ st o t => o = .returned (v.map (m_mv P)) ∧ m_HR P h' t.heap ∧ st.heap.size ≤ t.heap.size ∧ ∀ q : Nat, q < st.heap.size → ¬ m_A P q → t.heap[q]? = st.heap[q]?
def m_ws (q : mM) : List Jvm.Cond := .code q.1 q.2.1 q.2.2.1 q.2.2.2 :: m_tbl
theorem m_Pc.blind (P : mP) (h : mH) (vs : List Value) : FrameBlind (m_Pc P h vs) := fun _ _ _ _ ⟨h1, h2, h3⟩ => ⟨h1, h2, h3.same rfl rfl⟩
def m_End (P : mP) (p : Program) (l : Launch) (e : Env) (R : Room) (s : State) (m : MethodId) (args : Array Value) (below : List Frame) (meth : Method) (c : Code) (q : mM) (mx nx0 us0 : Nat) (Q : State → Prop) (v : Option Value) (h' : mH) : Prop :=
  ∀ (H : Heap) (locs : List Loc) (cells slots : Nat) (Ls : Array Slot) (pc' nx len : Nat) (i : Instr) (ops : List Nat) (w : Value) (ls' : mL) (st' : List Value), m_Pt P s mx nx0 us0 ls' h' H locs cells slots Ls → decode q.2.1 pc' = .ok (i, len) → m_okI q.1 q.2.2.2 pc' i nx ops w len → m_st1 i nx ops w ls' st' h' = some (.inr (.inr v)) → W p l e R s m args below meth c H locs cells slots Q (F0 m pc' Ls (st'.map (m_mv P)))
/-- what is asked of the tables beyond the lines: new arrays' classes, rows of rows -/
def m_Side (P : mP) (l : Launch) : Prop :=
  (∀ (s : State) (args : Array Value), m_K P s → (∀ w ∈ m_tbl, w.before args s = true) → ∀ (at_ : ArrayType) (t : Nat), Cond.arrayClass (newarray.typeOf at_) ∈ m_tbl → ((t = 0 ∧ at_ = .int) ∨ (t = 1 ∧ at_ = .long) ∨ (t = 2 ∧ at_ = .boolean)) → s.vm.findClass ("[" ++ (newarray.typeOf at_).toString) = some (P.2.1 t)) ∧
  ∀ (p : Program) (e : Env) (R : Room) (s : State) (m : MethodId) (args : Array Value) (below : List Frame) (meth : Method) (c : Code) (nm : MethodName) (bs : ByteArray) (mx nx0 us0 : Nat) (Q : State → Prop) (pc pc' : Nat) (ls ls' : mL) (st st' : List Value) (h h' : mH), m_Cx P p R s m args meth c nm bs mx → decode bs pc = .ok (.multianewarray 18 2, 4) → nm.cls = "FewerMan$Orders" → m_newm (pc + 4) ls st h = some (.inl (pc', ls', st', h')) → m_nx h' ≤ nx0 + R.cells → m_us h' ≤ us0 + R.slots → m_Ok P p l e R s m args below meth c mx nx0 us0 Q pc' ls' st' h' → m_Ok P p l e R s m args below meth c mx nx0 us0 Q pc ls st h
def m_Frame (P : mP) (l : Launch) (n : Nat) : Prop := ∀ (d y : Nat) (q : mM) (p : Program) (e : Env) (R : Room) (s : State) (m : MethodId) (args : Array Value) (below : List Frame) (meth : Method) (c : Code) (nx0 us0 : Nat) (Q : State → Prop) (pc : Nat) (ls : mL) (st : List Value) (h : mH) (v : Option Value) (h' : mH),
  m_meth y = some q → m_Cx P p R s m args meth c q.1 q.2.1 q.2.2.1 → d + 1 ≤ R.frames → 60 * (d + 1) ≤ R.locals → m_run n d y pc ls st h = some (v, h') → m_nx h' ≤ nx0 + R.cells → m_us h' ≤ us0 + R.slots → m_End P p l e R s m args below meth c q q.2.2.1 nx0 us0 Q v h' → m_Ok P p l e R s m args below meth c q.2.2.1 nx0 us0 Q pc ls st h
theorem m_meth_max {z : Nat} {q : mM} (h : m_meth z = some q) : m_max z = q.2.2.1 := by
  unfold m_max
  rw [h]
theorem m_met {P : mP} {l : Launch} {n : Nat} (hF : m_Frame P l n) (hP : m_okP P) {d z k : Nat} {q : mM} {vs : List Value} {h h' : mH} {v : Option Value} (hq : m_meth z = some q) (hk : m_calls q k) (hr : m_run n d z 0 (m_init z vs) [] h = some (v, h')) (hcat : m_cat vs ≤ m_max z) :
    Met l q.1 (m_ws q) (m_rm d (m_nx h' - m_nx h) (m_us h' - m_us h)) (m_Pc P h vs) (m_Qc P v h') (m_nx h' - m_nx h) (m_us h' - m_us h) (m_A P) := by
  have hg := m_grow _ _ _ _ _ _ _ _ _ hr
  refine Met.ofW (cc := q.2.1) (maxL := q.2.2.1) (ret := q.2.2.2) hk.2.2.2.2.1 rfl ?_
  intro p e s m args below meth c s₁ B hml hv
  obtain ⟨rfl, hR, hK⟩ := hv
  have hts : ∀ w ∈ m_ws q, w.before (vs.map (m_mv P)).toArray s = true := atoms_spec (ws := m_ws q) B.pre
  have hts' : ∀ w ∈ m_tbl, w.before (vs.map (m_mv P)).toArray s = true := fun w hw => hts w (List.mem_cons_of_mem _ hw)
  have hown : s.vm.findClass q.1.cls = some m.cls := findClass_of_methodNamed B.named
  have hlocks := B.notSynchronized
  have hbase : P.2.2.1 ≤ s.heap.size := by rw [hR.1]; omega
  have C : m_Cx P p (headSpec (m_ws q) (m_rm d (m_nx h' - m_nx h) (m_us h' - m_us h))).room s m (vs.map (m_mv P)).toArray meth c q.1 q.2.1 q.2.2.1 :=
    ⟨B.exec, B.bytes, hml, hown, fun h9 => (name_of_methodNamed B.named B.method).1.trans h9, hts', hK, hP, hbase, by show 1 ≤ d + 1; omega, by show 60 ≤ 60 * (d + 1); omega⟩
  rw [lg_entry_eq]
  have hLR := m_LR.entry hP hcat
  rw [m_meth_max hq] at hLR
  refine hF d z q p e _ s m _ below meth c (m_nx h) (m_us h) _ 0 (m_init z vs) [] h v h' hq C (Nat.le_refl _) (Nat.le_refl _) hr (by show _ ≤ m_nx h + (m_nx h' - m_nx h); omega) (by show _ ≤ m_us h + (m_us h' - m_us h); omega) ?_ s.heap [] 0 0 _ ⟨hR, hLR, va_S.rf, by omega, by omega⟩
  intro H locs cells slots Ls pc' nx len i ops w ls' st' hp hdg ok hs
  have e1 : cells = m_nx h' - m_nx h := by have := hp.2.2.2.1; omega
  have e2 : slots = m_us h' - m_us h := by have := hp.2.2.2.2; omega
  subst e1
  subst e2
  have hQ : ∀ t : State, t.heap = H → s.WarmedH t.vm → m_Qc P v h' (vs.map (m_mv P)).toArray s (.returned (v.map (m_mv P))) t := fun t ht _ => ⟨rfl, by rw [ht]; exact hp.1, by rw [ht]; exact hp.2.2.1.1, fun q h1 h2 => by rw [ht]; exact hp.2.2.1.2.1 q h1 h2⟩
  have hf : ∀ q ∈ locs, m_A P q.base := hp.2.2.1.2.2
  rcases m_end_of hs with rfl | rfl | rfl
  · obtain ⟨rfl, c9, ty, rfl, hrt, hty⟩ := ok
    simp only [m_st1, m_ret] at hs
    split at hs
    · rename_i c8 x he
      cases he
      obtain ⟨hg, hs⟩ := m_cond_some hs
      cases hs
      have hn : narrow ty (.int x) = .int x := by
        rcases hty with ⟨rfl, rfl⟩ | ⟨rfl, rfl⟩ | ⟨rfl, rfl⟩ | ⟨rfl, rfl⟩
        · rfl
        · simp only [m_rok, Bool.or_eq_true, decide_eq_true_eq] at hg
          rcases hg with rfl | rfl <;> decide +kernel
        · simpa only [m_rok, decide_eq_true_eq] using hg
        · simpa only [m_rok, decide_eq_true_eq] using hg
      exact W.zret (ty := ty) B.exec B.bytes (B.returns.trans hrt) hn hQ hf hdg
    · cases hs
  · obtain ⟨rfl, hrt⟩ := ok
    simp only [m_st1] at hs
    split at hs
    · cases hs
      exact W.lret B.exec B.bytes (B.returns.trans hrt) hQ hf hdg
    · cases hs
  · obtain ⟨rfl, hrt⟩ := ok
    simp only [m_st1] at hs
    split at hs
    · cases hs
      exact W.vret B.exec B.bytes (B.returns.trans hrt) hQ hf hdg
    · cases hs
theorem m_cont {P : mP} {p : Program} {l : Launch} {e : Env} {R : Room} {s : State} {m : MethodId} {args a : Array Value} {below : List Frame} {meth : Method} {c : Code} {H : Heap} {locs : List Loc} {cells slots mc ms pc : Nat} {Q : State → Prop} {Ls : Array Slot} {st0 rest : List Value} {v : Option Value} {h' : mH}
    (hr : va_Run p l e R s m args below meth c H locs cells slots mc ms (F0 m pc Ls st0) rest (m_Qc P v h' a) (m_A P)) (hS : va_S (m_A P) s.heap H locs)
    (kk : ∀ (H1 : Heap) (locs1 : List Loc), m_HR P h' H1 → va_S (m_A P) s.heap H1 locs1 → W p l e R s m args below meth c H1 locs1 (cells + mc) (slots + ms) Q (F0 m (pc + 3) Ls ((v.map (m_mv P)).toList ++ rest))) : W p l e R s m args below meth c H locs cells slots Q (F0 m pc Ls st0) := by
  intro T hT X
  obtain ⟨v1, st₀, t, T', L, h0, X', hL, e1, e2, ⟨hv, hR, hz, hk⟩, st⟩ := hr T hT X
  cases hv
  rw [h0] at hz hk
  obtain ⟨t2, a1, b1⟩ := kk t.heap (locs ++ L) hR ⟨Nat.le_trans hS.1 hz, fun q h1 h2 => by rw [hk q (Nat.lt_of_lt_of_le h1 hS.1) h2]; exact hS.2.1 q h1 h2, fun q hq => by
      rcases List.mem_append.mp hq with h | h
      · exact hS.2.2 q h
      · exact hL q h⟩ T' e1 X'
  exact ⟨t2, st t2 a1, b1⟩
/-- where a receiver lies -/
theorem m_HR.objc {P : mP} (hP : m_okP P) {h : mH} {H : Heap} {a ci : Nat} {fs : List Value} {q : vw_C} (hR : m_HR P h H) (ha : h a = .inr (ci, fs)) (hq : vwCl[ci]? = some q) : 20 ≤ a ∧ a < m_nx h := by
  have hci := m_cls_lt hq
  obtain ⟨h1, h2, h3, h4, ⟨q5, h5⟩, ⟨q6, hq6, h6⟩, h7⟩ := hR
  by_cases h20 : a < 20
  · exfalso
    rcases Nat.lt_or_ge a 2 with z | z
    · rcases (show a = 0 ∨ a = 1 by omega) with rfl | rfl
      · rw [h5] at ha
        cases ha
        have : m_nx h = ci := by unfold m_nx; rw [h5]
        omega
      · rw [h6] at ha
        cases ha
        omega
    · have e := (h4 a z h20).symm.trans ha
      rcases hP.2.2.2 a z h20 with ⟨n2, f, w⟩ | ⟨n2, f, w⟩ | ⟨gs, w⟩ | ⟨gs, w⟩ <;> rw [w] at e <;> cases e <;> omega
  · refine ⟨by omega, ?_⟩
    rcases Nat.lt_or_ge a (m_nx h) with z | z
    · exact z
    · rw [h7 a z] at ha
      cases ha
      omega
theorem m_HR.strc {P : mP} {h : mH} {H : Heap} {a : Nat} {fs : List Value} (hR : m_HR P h H) (ha : h a = .inr (11, fs)) : 2 ≤ a ∧ a < 20 := by
  obtain ⟨h1, h2, h3, h4, ⟨q5, h5⟩, ⟨q6, hq6, h6⟩, h7⟩ := hR
  by_cases h20 : a < 20
  · refine ⟨?_, h20⟩
    rcases Nat.lt_or_ge a 2 with z | z
    · exfalso
      rcases (show a = 0 ∨ a = 1 by omega) with rfl | rfl
      · rw [h5] at ha
        cases ha
        have : m_nx h = 11 := by unfold m_nx; rw [h5]
        omega
      · rw [h6] at ha
        cases ha
        omega
    · exact z
  · exfalso
    rcases Nat.lt_or_ge a (m_nx h) with z | z
    · have := h3 a (by omega) z
      rw [ha] at this
      obtain ⟨r9, h9, -⟩ := this
      simp [vwCl] at h9
    · rw [h7 a z] at ha
      cases ha
theorem m_good_app {a : List Jvm.Cond} {q : mM} (ha : ∀ w ∈ a, w ∈ m_tbl) (hq : Cond.code q.1 q.2.1 q.2.2.1 q.2.2.2 ∈ m_tbl) : GoodIn m_tbl (a ++ m_ws q) := by
  intro w hw
  rcases List.mem_append.mp hw with h | h
  · exact m_tbl_good w (ha w h)
  · rcases List.mem_cons.mp h with h | h
    · rw [h]
      exact m_tbl_good _ hq
    · exact m_tbl_good w h
theorem m_toList {P : mP} (v : Option Value) (r : List Value) : ((v.toList ++ r).map (m_mv P)) = (v.map (m_mv P)).toList ++ r.map (m_mv P) := by
  cases v <;> simp
theorem m_frame {P : mP} {l : Launch} (hP : m_okP P) (hAll : m_AllRight) (hSide : m_Side P l) : ∀ n, m_Frame P l n := by
  intro n
  induction n with
  | zero => intro d y q p e R s m args below meth c nx0 us0 Q pc ls st h v h' _ _ _ _ hr; cases hr
  | succ n ih =>
    intro d y q p e R s m args below meth c nx0 us0 Q pc ls st h v h' hq C hfr hlo hr hcn hus hEnd
    obtain ⟨hx, hb, hml, hown, hname, hts, hK, -, hbase, -⟩ := id C
    unfold m_run at hr
    cases hcd : m_cd y pc with
    | none => rw [hcd] at hr; cases hr
    | some e9 =>
      obtain ⟨len, hdg, ok⟩ := hAll y q hq pc e9 hcd
      obtain ⟨i, nx, ops, w⟩ := e9
      rw [hcd] at hr
      dsimp only at hr hdg ok
      cases hs : m_st1 i nx ops w ls st h with
      | none => rw [hs] at hr; cases hr
      | some z =>
        rw [hs] at hr
        rcases z with ⟨pc', ls', st', h2⟩ | ⟨z, vs, pc', r⟩ | v2
        · dsimp only at hr
          have hg := m_grow _ _ _ _ _ _ _ _ _ hr
          have K := ih d y q p e R s m args below meth c nx0 us0 Q pc' ls' st' h2 v h' hq C hfr hlo hr hcn hus hEnd
          exact m_step (hSide.1 s args hK hts) (fun g1 g2 g3 => hSide.2 p e R s m args below meth c q.1 q.2.1 q.2.2.1 nx0 us0 Q pc pc' ls ls' st st' h h2 C g1 g2 g3 (Nat.le_trans hg.1 hcn) (Nat.le_trans hg.2 hus) K) C hdg ok hs (Nat.le_trans hg.1 hcn) (Nat.le_trans hg.2 hus) K
        · cases d with
          | zero => cases hr
          | succ d =>
            dsimp only at hr
            cases hr2 : m_run n d z 0 (m_init z vs) [] h with
            | none => rw [hr2] at hr; cases hr
            | some q2 =>
              obtain ⟨v3, h3⟩ := q2
              rw [hr2] at hr
              dsimp only at hr
              have hg := m_grow _ _ _ _ _ _ _ _ _ hr
              have hg0 := m_grow _ _ _ _ _ _ _ _ _ hr2
              have K := ih (d + 1) y q p e R s m args below meth c nx0 us0 Q pc' ls (v3.toList ++ r) h3 v h' hq C hfr hlo hr hcn hus hEnd
              have kk : ∀ {H : Heap} {locs : List Loc} {cells slots : Nat} {Ls : Array Slot}, m_Pt P s q.2.2.1 nx0 us0 ls h H locs cells slots Ls → pc' = pc + 3 → ∀ (H1 : Heap) (locs1 : List Loc), m_HR P h3 H1 → va_S (m_A P) s.heap H1 locs1 → W p l e R s m args below meth c H1 locs1 (cells + (m_nx h3 - m_nx h)) (slots + (m_us h3 - m_us h)) Q (F0 m (pc + 3) Ls ((v3.map (m_mv P)).toList ++ r.map (m_mv P))) := by
                intro H locs cells slots Ls hp hpc H1 locs1 g1 g2
                have k := K H1 locs1 (cells + (m_nx h3 - m_nx h)) (slots + (m_us h3 - m_us h)) Ls ⟨g1, hp.2.1, g2, by have := hp.2.2.2.1; have := hg0.1; omega, by have := hp.2.2.2.2; have := hg0.2; omega⟩
                rw [hpc, m_toList] at k
                exact k
              have fits : ∀ {H : Heap} {locs : List Loc} {cells slots : Nat} {Ls : Array Slot}, m_Pt P s q.2.2.1 nx0 us0 ls h H locs cells slots Ls → cells + (m_nx h3 - m_nx h) ≤ R.cells ∧ slots + (m_us h3 - m_us h) ≤ R.slots := by
                intro H locs cells slots Ls hp
                have a1 := hp.2.2.2.1
                have a2 := hp.2.2.2.2
                have b1 := hg.1
                have b2 := hg.2
                have b3 := hg0.1
                have b4 := hg0.2
                exact ⟨by omega, by omega⟩
              have pre : ∀ {H : Heap} {locs : List Loc} {cells slots : Nat} {Ls : Array Slot}, m_Pt P s q.2.2.1 nx0 us0 ls h H locs cells slots Ls → ∀ U : State, U.heap = H → s.WarmedH U.vm → m_Pc P h vs (vs.map (m_mv P)).toArray U := by
                intro H locs cells slots Ls hp U hU hW
                exact ⟨rfl, by rw [hU]; exact hp.1, hK.warm hW (by rw [hU]; exact hp.2.2.1)⟩
              rcases m_calls_of hs with ⟨j, rfl⟩ | ⟨j, rfl⟩ | ⟨j, rfl⟩
              · -- a method of an object
                obtain ⟨rfl, hn, z2, k, ci, q2, rfl, hq2, hcs, hci, w1, w2, w3, w4⟩ := ok
                simp only [m_st1, m_inv] at hs
                split at hs
                · rename_i b r2 hd
                  split at hs
                  · rename_i cj fs hb2
                    obtain ⟨hcj, hs2⟩ := m_cond_some hs
                    have hcj := Nat.eq_of_beq_eq_true hcj
                    clear hs
                    subst hcj
                    obtain ⟨rfl, rfl, rfl, rfl, hc8, hmx⟩ := m_call_eq hs2
                    have hlen : (st.take k).length = k := by
                      rw [List.length_take]
                      have : (st.drop k).length ≠ 0 := by rw [hd]; simp
                      rw [List.length_drop] at this
                      omega
                    intro H locs cells slots Ls hp
                    have hR := hp.1
                    have h19 : b ≠ 19 := by
                      intro z9
                      subst z9
                      rw [m_ne19 hP hR] at hb2
                      cases hb2
                      rcases hci with ⟨r9, h9, -⟩ | ⟨h9, -⟩
                      · simp [vwCl] at h9
                      · cases h9
                    have hst : st.map (m_mv P) = ((st.take k).reverse.map (m_mv P)).reverse ++ .ref (m_rho P b) :: r.map (m_mv P) := by
                      rw [← m_mv_ref (P := P) h19, List.map_reverse, List.reverse_reverse, ← List.map_cons, ← List.map_append, ← hd, List.take_append_drop]
                    have recv : ∃ cellB : Cell, H[m_rho P b]? = some cellB ∧ cellB.vm.isStatics = false ∧ s.vm.findClass q2.1.cls = some cellB.cls := by
                      rcases hci with ⟨r9, h9, h8⟩ | ⟨h9, h8⟩
                      · have h7 : 20 ≤ b ∧ b < m_nx h := m_HR.objc hP hR hb2 h9
                        have hat : va_at P.1 vwCl (m_rho P b, .inr (cj, fs.map (m_mv P))) H := by
                          have := hR.2.2.1 b h7.1 h7.2
                          rw [hb2] at this
                          exact this
                        rw [← h8]
                        exact va_recv hK.1 (m_one hat) h9 (q0 := 0) rfl
                      · subst h9
                        rw [h8]
                        have h7 : 2 ≤ b ∧ b < 20 := m_HR.strc hR hb2
                        exact va_Orecv (hK.2.2.2.2.2.2 b fs h7.2 ((hR.2.2.2.1 b h7.1 h7.2).symm.trans hb2)).1 hp.2.2.1
                    rw [hst]
                    refine m_cont (va_runV (Ts := m_tbl) (own := q.1.cls) (C := q2.1.cls) (As := (st.take k).reverse.map (m_mv P)) (rest := r.map (m_mv P)) ⟨hx, hb, hml, hown, hts⟩ (m_met ih hP hq2 hcs hr2 hmx) (cwV k hts (m_good_app (fun w hw => ?_) hcs.1) rfl rfl rfl ⟨rfl, hcs.2.1, hcs.2.2.1, hcs.2.2.2.1⟩ ⟨hfr, ?_⟩) ⟨m_Pc.blind P h _, recv, fun U hU hW => ?_⟩ rfl (by rw [List.length_map, List.length_reverse, hlen]) hp.2.1.2.1 rfl (lv_room (by rw [m_mv_sum hP]; exact hc8)) hdg (fits hp)) hp.2.2.1 (kk hp hn)
                    · simp only [List.mem_cons, List.not_mem_nil, or_false] at hw
                      rcases hw with rfl | rfl | rfl | rfl <;> assumption
                    · have := hcs.2.2.2.2.2
                      show 8 + (q2.2.2.1 + 11) + 60 * (d + 1) ≤ R.locals
                      omega
                    · have := pre hp U hU hW
                      rw [List.map_cons, m_mv_ref h19] at this
                      exact this
                  · cases hs
                · cases hs
              · -- a static method
                obtain ⟨rfl, hn, ⟨k, rfl, -⟩ | ⟨rfl, -⟩ | ⟨z2, k, q2, rfl, hq2, hcs, w1, w2, w3⟩⟩ := ok
                · exfalso
                  simp only [m_st1, m_invs] at hs
                  exact m_mth_n hs
                · exfalso
                  simp only [m_st1, m_invs, m_copy] at hs
                  split at hs
                  · split at hs
                    · obtain ⟨-, hs⟩ := m_cond_some hs
                      cases hs
                    · cases hs
                  · cases hs
                · simp only [m_st1, m_invs] at hs
                  obtain ⟨hkl, hs2⟩ := m_cond_some hs
                  clear hs
                  have hkl := Nat.le_of_ble_eq_true hkl
                  obtain ⟨rfl, rfl, rfl, rfl, hc8, hmx⟩ := m_call_eq hs2
                  have hlen : (st.take k).length = k := by
                    rw [List.length_take]
                    omega
                  intro H locs cells slots Ls hp
                  have hst : st.map (m_mv P) = ((st.take k).reverse.map (m_mv P)).reverse ++ (st.drop k).map (m_mv P) := by
                    rw [List.map_reverse, List.reverse_reverse, ← List.map_append, List.take_append_drop]
                  rw [hst]
                  refine m_cont (va_runS (Ts := m_tbl) (own := q.1.cls) (As := (st.take k).reverse.map (m_mv P)) (rest := (st.drop k).map (m_mv P)) ⟨hx, hb, hml, hown, hts⟩ (m_met ih hP hq2 hcs hr2 hmx) ⟨callB_of k hts (m_good_app (a := []) (fun w hw => by cases hw) hcs.1) rfl rfl rfl (hts _ w3) (hts _ w1) ⟨hcs.2.1, hcs.2.2.1, hcs.2.2.2.1⟩ ⟨hfr, ?_⟩, hts _ w2⟩ ⟨m_Pc.blind P h _, fun U hU hW => pre hp U hU hW⟩ rfl (by rw [List.length_map, List.length_reverse, hlen]) hp.2.1.2.1 rfl (lv_room (by rw [m_mv_sum hP]; exact hc8)) hdg (fits hp)) hp.2.2.1 (kk hp hn)
                  have := hcs.2.2.2.2.2
                  show 8 + (q2.2.2.1 + 11) + 60 * (d + 1) ≤ R.locals
                  omega
              · -- a constructor
                obtain ⟨rfl, hn, ⟨rfl, -⟩ | ⟨z2, k, q2, rfl, hq2, hcs, hini, hret, w1, w2, w3⟩⟩ := ok
                · exfalso
                  simp only [m_st1, m_invi] at hs
                  split at hs
                  · obtain ⟨-, hs⟩ := m_cond_some hs
                    cases hs
                  · cases hs
                · simp only [m_st1, m_invi] at hs
                  split at hs
                  · rename_i b r2 hd
                    obtain ⟨hb20, hs2⟩ := m_cond_some hs
                    clear hs
                    obtain ⟨rfl, rfl, rfl, rfl, hc8, hmx⟩ := m_call_eq hs2
                    have h19 : m_mv P (.ref b) = .ref (m_rho P b) := m_mv_20 hb20
                    have hlen : (st.take k).length = k := by
                      rw [List.length_take]
                      have : (st.drop k).length ≠ 0 := by rw [hd]; simp
                      rw [List.length_drop] at this
                      omega
                    intro H locs cells slots Ls hp
                    have hst : st.map (m_mv P) = ((st.take k).reverse.map (m_mv P)).reverse ++ .ref (m_rho P b) :: r.map (m_mv P) := by
                      rw [← h19, List.map_reverse, List.reverse_reverse, ← List.map_cons, ← List.map_append, ← hd, List.take_append_drop]
                    rw [hst]
                    have hM := m_met ih hP hq2 hcs hr2 hmx
                    obtain ⟨y2, bs2, mx2, rt2⟩ := q2
                    have hret : rt2 = none := hret
                    subst hret
                    have hroom : 8 + (mx2 + 11) + 60 * (d + 1) ≤ R.locals := by
                      have : mx2 ≤ 40 := hcs.2.2.2.2.2
                      omega
                    have hpre : PreS s H (m_Pc P h (.ref b :: (st.take k).reverse)) (.ref (m_rho P b) :: (st.take k).reverse.map (m_mv P)) := ⟨m_Pc.blind P h _, fun U hU hW => by
                      have := pre hp U hU hW
                      rw [List.map_cons, h19] at this
                      exact this⟩
                    rcases w3 with w3 | w3
                    · exact m_cont (va_runI (Ts := m_tbl) (own := q.1.cls) (As := (st.take k).reverse.map (m_mv P)) (rest := r.map (m_mv P)) ⟨hx, hb, hml, hown, hts⟩ hM (cwI k hts (m_good_app (a := []) (fun w hw => by cases hw) hcs.1) rfl rfl rfl (hts _ w2) (hts _ w3) (hts _ w1) hini ⟨hcs.2.1, hcs.2.2.1, hcs.2.2.2.1⟩ ⟨hfr, hroom⟩) hpre rfl (by rw [List.length_map, List.length_reverse, hlen]) hp.2.1.2.1 rfl (lv_room (by rw [m_mv_sum hP]; exact hc8)) hdg (fits hp)) hp.2.2.1 (kk hp hn)
                    · exact m_cont (va_runIN (Ts := m_tbl) (own := q.1.cls) (host := "FewerMan") (As := (st.take k).reverse.map (m_mv P)) (rest := r.map (m_mv P)) ⟨hx, hb, hml, hown, hts⟩ hM ⟨va_cnB k hts (m_good_app (a := []) (fun w hw => by cases hw) hcs.1) rfl rfl rfl (hK.2.1.1 _ w3) (hts _ w2) ⟨hcs.2.1, hcs.2.2.1, hcs.2.2.2.1⟩ ⟨hfr, hroom⟩, hini, hts _ w1⟩ hpre rfl (by rw [List.length_map, List.length_reverse, hlen]) hp.2.1.2.1 rfl (lv_room (by rw [m_mv_sum hP]; exact hc8)) hdg (fits hp)) hp.2.2.1 (kk hp hn)
                  · cases hs
        · cases hr
          intro H locs cells slots Ls hp
          exact hEnd H locs cells slots Ls pc nx len i ops w ls st hp hdg ok hs
