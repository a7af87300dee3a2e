/-! Steps that read or write the heap. -/
theorem m_up_self (h : mH) (a : Nat) (c : mE) : m_up h a c a = c := by simp [m_up]
theorem m_up_ne (h : mH) {a b : Nat} (c : mE) (hb : b ≠ a) : m_up h a c b = h b := by
  have : Nat.beq b a = false := by
    cases hq : Nat.beq b a with
    | false => rfl
    | true => exact absurd (Nat.eq_of_beq_eq_true hq) hb
  simp [m_up, this]
theorem m_up_nx (h : mH) {a : Nat} (c : mE) (ha : 20 ≤ a) : m_nx (m_up h a c) = m_nx h := by unfold m_nx; rw [m_up_ne h c (by omega)]
theorem m_up_us (h : mH) {a : Nat} (c : mE) (ha : 20 ≤ a) : m_us (m_up h a c) = m_us h := by unfold m_us; rw [m_up_ne h c (by omega)]
theorem m_rho_lo {P : mP} (hP : m_okP P) {a : Nat} (ha : a < 20) : m_rho P a < P.2.2.1 := by unfold m_rho; rw [if_pos ha]; exact hP.2.1 a ha
theorem m_rho_hi {P : mP} {a : Nat} (ha : 20 ≤ a) : m_rho P a = P.2.2.1 + (a - 20) := by unfold m_rho; rw [if_neg (by omega)]
theorem m_HR.put {P : mP} {h : mH} {H H' : Heap} {a : Nat} {c : mE} (hR : m_HR P h H) (ha : 20 ≤ a) (hb : a < m_nx h) (he : va_at P.1 vwCl (m_rho P a, m_mC P c) H') (z : H'.size = H.size) (oq : ∀ q : Nat, q ≠ m_rho P a → H'[q]? = H[q]?) : m_HR P (m_up h a c) H' := by
  obtain ⟨h1, h2, h3, h4, ⟨q5, h5⟩, ⟨q6, hq6, h6⟩, h7⟩ := hR
  have e := m_up_nx h c ha
  refine ⟨by rw [e, z]; exact h1, by rw [e]; exact h2, fun b hb1 hb2 => ?_, fun b hb1 hb2 => by rw [m_up_ne h c (by omega)]; exact h4 b hb1 hb2, ⟨q5, by rw [m_up_ne h c (by omega)]; exact h5⟩, ⟨q6, hq6, by rw [m_up_ne h c (by omega)]; exact h6⟩, fun b hb1 => ?_⟩
  · rw [e] at hb2
    by_cases hba : b = a
    · subst hba
      rw [m_up_self]
      exact he
    · rw [m_up_ne h c hba]
      exact (h3 b hb1 hb2).kept (oq _ (by rw [m_rho_hi hb1, m_rho_hi ha]; omega))
  · rw [e] at hb1
    rw [m_up_ne h c (by omega)]
    exact h7 b hb1
theorem m_HR.live {P : mP} {h : mH} {H : Heap} {a : Nat} {x : Nat × vp_A} (hR : m_HR P h H) (ha : h a = .inl x) : (20 ≤ a ∧ a < m_nx h) ∨ (2 ≤ a ∧ a < 20) := by
  obtain ⟨h1, h2, h3, h4, ⟨q5, h5⟩, ⟨q6, hq6, h6⟩, h7⟩ := hR
  by_cases h20 : a < 20
  · refine Or.inr ⟨?_, h20⟩
    rcases Nat.lt_or_ge a 2 with q | q
    · rcases (show a = 0 ∨ a = 1 by omega) with rfl | rfl
      · rw [h5] at ha; cases ha
      · rw [h6] at ha; cases ha
    · exact q
  · refine Or.inl ⟨by omega, ?_⟩
    rcases Nat.lt_or_ge a (m_nx h) with q | q
    · exact q
    · rw [h7 a q] at ha; cases ha
theorem m_HR.cell {P : mP} {h : mH} {H : Heap} {a : Nat} {x : Nat × vp_A} (hR : m_HR P h H) (ha : h a = .inl x) (h20 : 20 ≤ a) (hn : a < m_nx h) : H[m_rho P a]? = some (vp_cell (P.2.1 x.1) (m_mA P x.2)) := by
  have := hR.2.2.1 a h20 hn
  rw [ha] at this
  exact this
theorem m_S.put {P : mP} {s : State} {H H' : Heap} {locs : List Loc} {a k : Nat} (hS : va_S (m_A P) s.heap H locs) (z : H'.size = H.size) (oq : ∀ q : Nat, q ≠ m_rho P a → H'[q]? = H[q]?) (ha : 20 ≤ a) : va_S (m_A P) s.heap H' (locs ++ [⟨m_rho P a, k⟩]) := hS.put z oq (by show P.2.2.1 ≤ _; rw [m_rho_hi ha]; omega)
theorem m_in_vp {i : Int32} {n : Nat} (h : m_in i n = true) : vp_in i n := by
  simp only [m_in, Bool.and_eq_true, Bool.not_eq_true', decide_eq_false_iff_not] at h
  rintro (q | q)
  · exact h.1 q
  · have := Nat.le_of_ble_eq_true h.2
    omega
theorem m_mv_ref {P : mP} {a : Nat} (h : a ≠ 19) : m_mv P (.ref a) = .ref (m_rho P a) := by show (if a = 19 then _ else _) = _; rw [if_neg h]
theorem m_ne19 {P : mP} (hP : m_okP P) {h : mH} {H : Heap} (hR : m_HR P h H) : h 19 = .inr (99, []) := (hR.2.2.2.1 19 (by omega) (by omega)).trans hP.2.2.1
theorem m_inl19 {P : mP} (hP : m_okP P) {h : mH} {H : Heap} {a : Nat} {x : Nat × vp_A} (hR : m_HR P h H) (ha : h a = .inl x) : a ≠ 19 := by
  rintro rfl
  rw [m_ne19 hP hR] at ha
  cases ha
theorem m_one {D : va_G} {H : Heap} {a : Nat} {x : va_E} (h : va_at D vwCl (a, x) H) : va_P D vwCl [(a, x)] H := fun k q hk => by
  have h0 : k < 1 := (List.getElem?_eq_some_iff.mp hk).1
  rw [show k = 0 by omega] at hk
  cases hk
  exact h
section HeapLaws
variable {P : mP} {p : Program} {l : Launch} {e : Env} {R : Room} {s : State} {m : MethodId} {args : Array Value} {below : List Frame} {meth : Method} {c : Code} {nm : MethodName} {bs : ByteArray} {mx nx0 us0 : Nat} {Q : State → Prop} {rt : Option FieldType}
variable {pc nx pc' len : Nat} {ops : List Nat} {v : Value} {ls ls' : mL} {st st' : List Value} {h h' : mH}
theorem s_iald (C : m_Cx P p R s m args meth c nm bs mx) (hdg : decode bs pc = .ok (.iaload, 1)) (hn : nx = pc + 1) (hs : m_iald nx ls st h = some (.inl (pc', ls', st', h'))) (K : m_Ok P p l e R s m args below meth c mx nx0 us0 Q pc' ls' st' h') : m_Ok P p l e R s m args below meth c mx nx0 us0 Q pc ls st h := by
  unfold m_iald at hs
  split at hs
  · rename_i i a r
    split at hs
    · rename_i n f ha
      cases hi : m_in i n with
      | false => rw [hi] at hs; cases hs
      | true =>
        rw [hi] at hs
        cases hs
        subst hn
        intro H locs cells slots Ls hp
        obtain ⟨hx, hb, hml, hown, hname, hts, hK, hP, hbase, -⟩ := C
        have hR := hp.1
        rw [List.map_cons, List.map_cons, m_mv_ref (m_inl19 hP hR ha)]
        rcases hR.live ha with ⟨h20, hn⟩ | ⟨h2, h20⟩
        · exact va_iald (D := P.1) (cl := vwCl) (tys := m_tys P) hx hb hK.1 (m_one (x := .inl (P.2.1 0, n, .inl f)) (hR.cell ha h20 hn)) 0 0 rfl rfl (m_in_vp hi) hdg (K H locs cells slots Ls hp)
        · exact va_ti hx hb (hK.2.2.2.2.1 a n f h20 ((hR.2.2.2.1 a h2 h20).symm.trans ha)) hp.2.2.1 (m_in_vp hi) rfl hdg (K H locs cells slots Ls hp)
    · cases hs
  · cases hs
theorem s_bald (C : m_Cx P p R s m args meth c nm bs mx) (hdg : decode bs pc = .ok (.baload, 1)) (hn : nx = pc + 1) (hs : m_bald nx ls st h = some (.inl (pc', ls', st', h'))) (K : m_Ok P p l e R s m args below meth c mx nx0 us0 Q pc' ls' st' h') : m_Ok P p l e R s m args below meth c mx nx0 us0 Q pc ls st h := by
  obtain ⟨hx, hb, hml, hown, hname, hts, hK, hP, hbase, -⟩ := C
  unfold m_bald at hs
  split at hs
  · rename_i i a r
    split at hs
    · rename_i n f ha
      cases hi : m_in i n with
      | false => rw [hi] at hs; cases hs
      | true =>
        rw [hi] at hs
        cases hs
        subst hn
        intro H locs cells slots Ls hp
        have hR := hp.1
        rw [List.map_cons, List.map_cons, m_mv_ref (m_inl19 hP hR ha)]
        rcases hR.live ha with ⟨h20, hn⟩ | ⟨h2, h20⟩
        · exact va_zald (D := P.1) (cl := vwCl) (tys := m_tys P) hx hb hK.1 (m_one (x := .inl (P.2.1 2, n, .inl f)) (hR.cell ha h20 hn)) 0 2 rfl rfl (m_in_vp hi) hdg (K H locs cells slots Ls hp)
        · have e := (hR.2.2.2.1 a h2 h20).symm.trans ha
          rcases hP.2.2.2 a h2 h20 with ⟨n, f, q⟩ | ⟨n, f, q⟩ | ⟨fs, q⟩ | ⟨fs, q⟩ <;> rw [q] at e <;> cases e
    · rename_i n f ha
      cases hi : (m_in i n && Nat.ble (a + 1) 20) with
      | false => rw [hi] at hs; cases hs
      | true =>
        rw [hi] at hs
        cases hs
        subst hn
        simp only [Bool.and_eq_true] at hi
        obtain ⟨hi, h20⟩ := hi
        have h20 : a < 20 := Nat.le_of_ble_eq_true h20
        intro H locs cells slots Ls hp
        have hR := hp.1
        rw [List.map_cons, List.map_cons, m_mv_ref (m_inl19 hP hR ha)]
        rcases hR.live ha with ⟨h2, -⟩ | ⟨h2, -⟩
        · exact absurd h2 (Nat.not_le.mpr h20)
        · exact va_tb hx hb (hK.2.2.2.2.2.1 a n f h20 ((hR.2.2.2.1 a h2 h20).symm.trans ha)) hp.2.2.1 (m_in_vp hi) rfl hdg (K H locs cells slots Ls hp)
    · cases hs
  · cases hs
theorem s_lald (C : m_Cx P p R s m args meth c nm bs mx) (hdg : decode bs pc = .ok (.laload, 1)) (hn : nx = pc + 1) (hs : m_lald nx ls st h = some (.inl (pc', ls', st', h'))) (K : m_Ok P p l e R s m args below meth c mx nx0 us0 Q pc' ls' st' h') : m_Ok P p l e R s m args below meth c mx nx0 us0 Q pc ls st h := by
  obtain ⟨hx, hb, hml, hown, hname, hts, hK, hP, hbase, -⟩ := C
  unfold m_lald at hs
  split at hs
  · rename_i i a r
    split at hs
    · rename_i n f ha
      cases hi : m_in i n with
      | false => rw [hi] at hs; cases hs
      | true =>
        rw [hi] at hs
        cases hs
        subst hn
        intro H locs cells slots Ls hp
        have hR := hp.1
        rw [List.map_cons, List.map_cons, m_mv_ref (m_inl19 hP hR ha)]
        rcases hR.live ha with ⟨h20, hn⟩ | ⟨h2, h20⟩
        · exact va_lald (D := P.1) (cl := vwCl) (tys := m_tys P) hx hb hK.1 (m_one (x := .inl (P.2.1 1, n, .inr (.inl f))) (hR.cell ha h20 hn)) 0 1 rfl rfl (m_in_vp hi) hdg (K H locs cells slots Ls hp)
        · have e := (hR.2.2.2.1 a h2 h20).symm.trans ha
          rcases hP.2.2.2 a h2 h20 with ⟨n, f, q⟩ | ⟨n, f, q⟩ | ⟨fs, q⟩ | ⟨fs, q⟩ <;> rw [q] at e <;> cases e
    · cases hs
  · cases hs
theorem s_aald (C : m_Cx P p R s m args meth c nm bs mx) (hdg : decode bs pc = .ok (.aaload, 1)) (hn : nx = pc + 1) (hs : m_aald nx ls st h = some (.inl (pc', ls', st', h'))) (K : m_Ok P p l e R s m args below meth c mx nx0 us0 Q pc' ls' st' h') : m_Ok P p l e R s m args below meth c mx nx0 us0 Q pc ls st h := by
  obtain ⟨hx, hb, hml, hown, hname, hts, hK, hP, hbase, -⟩ := C
  unfold m_aald at hs
  split at hs
  · rename_i i a r
    split at hs
    · rename_i n f ha
      cases hi : m_in i n with
      | false => rw [hi] at hs; cases hs
      | true =>
        rw [hi] at hs
        cases hf : f i.toNatClampNeg with
        | none => rw [hf] at hs; cases hs
        | some b =>
          rw [hf] at hs
          cases hb20 : Nat.ble 20 b with
          | false => simp only [hb20, cond_true, cond_false] at hs; cases hs
          | true =>
            simp only [hb20, cond_true] at hs
            cases hs
            subst hn
            intro H locs cells slots Ls hp
            have hR := hp.1
            have hb2 : 20 ≤ b := Nat.le_of_ble_eq_true hb20
            have k := K H locs cells slots Ls hp
            rw [List.map_cons, m_mv_ref (show b ≠ 19 by omega)] at k
            rw [List.map_cons, List.map_cons, m_mv_ref (m_inl19 hP hR ha)]
            rcases hR.live ha with ⟨h20, hn⟩ | ⟨h2, h20⟩
            · have hc : H[m_rho P a]? = some (arrV (P.2.1 3) n (fun j => va_rf ((f j).map (m_rho P)))) := hR.cell ha h20 hn
              have hlt : i.toNatClampNeg < n := Nat.not_le.mp fun q => m_in_vp hi (Or.inr q)
              exact W.aald (v := .ref (m_rho P b)) (ty := .array .long) hx hb hc ((hK.1.2 3 (P.2.1 3, .array .long) rfl).1 n (fun j => va_rf ((f j).map (m_rho P)))) rfl (fun q => by cases q) (by show ¬ (i < 0 ∨ (arrV _ _ _).slots.size ≤ _); rw [arrV_size]; exact m_in_vp hi) (by show (arrV _ _ _).slots[_]? = _; rw [arrV_read _ _ hlt, hf]; rfl) rfl rfl hdg k
            · have e := (hR.2.2.2.1 a h2 h20).symm.trans ha
              rcases hP.2.2.2 a h2 h20 with ⟨n, f, q⟩ | ⟨n, f, q⟩ | ⟨fs, q⟩ | ⟨fs, q⟩ <;> rw [q] at e <;> cases e
    · cases hs
  · cases hs
theorem s_iast (C : m_Cx P p R s m args meth c nm bs mx) (hdg : decode bs pc = .ok (.iastore, 1)) (hn : nx = pc + 1) (hs : m_iast nx ls st h = some (.inl (pc', ls', st', h'))) (K : m_Ok P p l e R s m args below meth c mx nx0 us0 Q pc' ls' st' h') : m_Ok P p l e R s m args below meth c mx nx0 us0 Q pc ls st h := by
  obtain ⟨hx, hb, hml, hown, hname, hts, hK, hP, hbase, -⟩ := C
  unfold m_iast at hs
  split at hs
  · rename_i x i a r
    split at hs
    · rename_i n f ha
      cases hg : (m_in i n && Nat.ble 20 a && Nat.ble (a + 1) (m_nx h)) with
      | false => rw [hg] at hs; cases hs
      | true =>
        rw [hg] at hs
        cases hs
        subst hn
        simp only [Bool.and_eq_true] at hg
        obtain ⟨⟨hi, h20⟩, hn⟩ := hg
        have h20 := Nat.le_of_ble_eq_true h20
        have hn : a < m_nx h := Nat.le_of_ble_eq_true hn
        intro H locs cells slots Ls hp
        have hR := hp.1
        rw [List.map_cons, List.map_cons, List.map_cons, m_mv_ref (m_inl19 hP hR ha)]
        have hc : H[m_rho P a]? = some (vp_cell (P.2.1 0) (n, .inl f)) := hR.cell ha h20 hn
        refine W.iast hx hb hc ((hK.1.2 0 (P.2.1 0, .int) rfl).1 n (fun j => .int (f j))) (fun q => by cases q) (by show ¬ (i < 0 ∨ (arrV _ _ _).slots.size ≤ _); rw [arrV_size]; exact m_in_vp hi) rfl rfl hdg fun H1 e1 z oq => ?_
        refine K H1 _ cells slots Ls ⟨hR.put h20 hn ?_ z oq, hp.2.1, m_S.put hp.2.2.1 z oq h20, by rw [m_up_nx h _ h20]; exact hp.2.2.2.1, by rw [m_up_us h _ h20]; exact hp.2.2.2.2⟩
        show H1[_]? = some (vp_cell (P.2.1 0) (n, .inl (upd f i.toNatClampNeg x)))
        rw [e1]
        rw [vp_cell_i, vp_cell_i, arrV_store]
        congr 2
        funext q
        by_cases hq : q = i.toNatClampNeg
        · subst hq
          simp [updV, upd]
        · simp [updV, upd, hq]
    · cases hs
  · cases hs
theorem s_bast (C : m_Cx P p R s m args meth c nm bs mx) (hdg : decode bs pc = .ok (.bastore, 1)) (hn : nx = pc + 1) (hs : m_bast nx ls st h = some (.inl (pc', ls', st', h'))) (K : m_Ok P p l e R s m args below meth c mx nx0 us0 Q pc' ls' st' h') : m_Ok P p l e R s m args below meth c mx nx0 us0 Q pc ls st h := by
  obtain ⟨hx, hb, hml, hown, hname, hts, hK, hP, hbase, -⟩ := C
  unfold m_bast at hs
  split at hs
  · rename_i x i a r
    split at hs
    · rename_i n f ha
      cases hg : (m_in i n && Nat.ble 20 a && Nat.ble (a + 1) (m_nx h)) with
      | false => rw [hg] at hs; cases hs
      | true =>
        rw [hg] at hs
        cases hs
        subst hn
        simp only [Bool.and_eq_true] at hg
        obtain ⟨⟨hi, h20⟩, hn⟩ := hg
        have h20 := Nat.le_of_ble_eq_true h20
        have hn : a < m_nx h := Nat.le_of_ble_eq_true hn
        intro H locs cells slots Ls hp
        have hR := hp.1
        rw [List.map_cons, List.map_cons, List.map_cons, m_mv_ref (m_inl19 hP hR ha)]
        have hc : H[m_rho P a]? = some (vp_cell (P.2.1 2) (n, .inl f)) := hR.cell ha h20 hn
        refine W.zast hx hb hc ((hK.1.2 2 (P.2.1 2, .boolean) rfl).1 n (fun j => .int (f j))) (fun q => by cases q) (by show ¬ (i < 0 ∨ (arrV _ _ _).slots.size ≤ _); rw [arrV_size]; exact m_in_vp hi) rfl rfl hdg fun H1 e1 z oq => ?_
        refine K H1 _ cells slots Ls ⟨hR.put h20 hn ?_ z oq, hp.2.1, m_S.put hp.2.2.1 z oq h20, by rw [m_up_nx h _ h20]; exact hp.2.2.2.1, by rw [m_up_us h _ h20]; exact hp.2.2.2.2⟩
        show H1[_]? = some (vp_cell (P.2.1 2) (n, .inl (upd f i.toNatClampNeg (vp_nar .boolean x))))
        rw [e1]
        rw [vp_cell_i, vp_cell_i, arrV_store]
        congr 2
        funext q
        by_cases hq : q = i.toNatClampNeg
        · subst hq
          simp [updV, upd, vp_nar]
          try rfl
        · simp [updV, upd, hq]
    · cases hs
  · cases hs
theorem s_last (C : m_Cx P p R s m args meth c nm bs mx) (hdg : decode bs pc = .ok (.lastore, 1)) (hn : nx = pc + 1) (hs : m_last nx ls st h = some (.inl (pc', ls', st', h'))) (K : m_Ok P p l e R s m args below meth c mx nx0 us0 Q pc' ls' st' h') : m_Ok P p l e R s m args below meth c mx nx0 us0 Q pc ls st h := by
  obtain ⟨hx, hb, hml, hown, hname, hts, hK, hP, hbase, -⟩ := C
  unfold m_last at hs
  split at hs
  · rename_i x i a r
    split at hs
    · rename_i n f ha
      cases hg : (m_in i n && Nat.ble 20 a && Nat.ble (a + 1) (m_nx h)) with
      | false => rw [hg] at hs; cases hs
      | true =>
        rw [hg] at hs
        cases hs
        subst hn
        simp only [Bool.and_eq_true] at hg
        obtain ⟨⟨hi, h20⟩, hn⟩ := hg
        have h20 := Nat.le_of_ble_eq_true h20
        have hn : a < m_nx h := Nat.le_of_ble_eq_true hn
        intro H locs cells slots Ls hp
        have hR := hp.1
        rw [List.map_cons, List.map_cons, List.map_cons, m_mv_ref (m_inl19 hP hR ha)]
        have hc : H[m_rho P a]? = some (vp_cell (P.2.1 1) (n, .inr (.inl f))) := hR.cell ha h20 hn
        refine W.last hx hb hc ((hK.1.2 1 (P.2.1 1, .long) rfl).1 n (fun j => .long (f j))) (fun q => by cases q) (by show ¬ (i < 0 ∨ (arrV _ _ _).slots.size ≤ _); rw [arrV_size]; exact m_in_vp hi) rfl rfl hdg fun H1 e1 z oq => ?_
        refine K H1 _ cells slots Ls ⟨hR.put h20 hn ?_ z oq, hp.2.1, m_S.put hp.2.2.1 z oq h20, by rw [m_up_nx h _ h20]; exact hp.2.2.2.1, by rw [m_up_us h _ h20]; exact hp.2.2.2.2⟩
        show H1[_]? = some (vp_cell (P.2.1 1) (n, .inr (.inl (vp_updL f i.toNatClampNeg x))))
        rw [e1]
        rw [vp_cell_l, vp_cell_l, arrV_store]
        congr 2
        funext q
        by_cases hq : q = i.toNatClampNeg
        · subst hq
          simp [updV, vp_updL]
        · simp [updV, vp_updL, hq]
    · cases hs
  · cases hs
theorem s_alen (C : m_Cx P p R s m args meth c nm bs mx) (hdg : decode bs pc = .ok (.arraylength, 1)) (hn : nx = pc + 1) (hs : m_alen nx ls st h = some (.inl (pc', ls', st', h'))) (K : m_Ok P p l e R s m args below meth c mx nx0 us0 Q pc' ls' st' h') : m_Ok P p l e R s m args below meth c mx nx0 us0 Q pc ls st h := by
  obtain ⟨hx, hb, hml, hown, hname, hts, hK, hP, hbase, -⟩ := C
  unfold m_alen at hs
  split at hs
  · rename_i a r
    split at hs
    · rename_i n f ha
      cases hs
      subst hn
      intro H locs cells slots Ls hp
      have hR := hp.1
      rw [List.map_cons, m_mv_ref (m_inl19 hP hR ha)]
      rcases hR.live ha with ⟨h20, hn⟩ | ⟨h2, h20⟩
      · exact va_alen (D := P.1) (cl := vwCl) (tys := m_tys P) hx hb hK.1 (m_one (x := .inl (P.2.1 0, n, .inl f)) (hR.cell ha h20 hn)) 0 0 rfl (ty := .int) rfl rfl hdg (K H locs cells slots Ls hp)
      · exact va_tlen hx hb (hK.2.2.2.2.1 a n f h20 ((hR.2.2.2.1 a h2 h20).symm.trans ha)) hp.2.2.1 rfl hdg (K H locs cells slots Ls hp)
    · rename_i n f ha
      cases hi : Nat.ble (a + 1) 20 with
      | false => rw [hi] at hs; cases hs
      | true =>
        rw [hi] at hs
        cases hs
        subst hn
        have h20 : a < 20 := Nat.le_of_ble_eq_true hi
        intro H locs cells slots Ls hp
        have hR := hp.1
        rw [List.map_cons, m_mv_ref (m_inl19 hP hR ha)]
        rcases hR.live ha with ⟨h2, -⟩ | ⟨h2, -⟩
        · exact absurd h2 (Nat.not_le.mpr h20)
        · exact va_tlen hx hb (hK.2.2.2.2.2.1 a n f h20 ((hR.2.2.2.1 a h2 h20).symm.trans ha)) hp.2.2.1 rfl hdg (K H locs cells slots Ls hp)
    · cases hs
  · cases hs
end HeapLaws
