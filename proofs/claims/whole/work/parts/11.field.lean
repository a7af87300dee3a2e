/-! Fields. -/
theorem m_inX0 : ∀ w ∈ u_ws RX0 TX0 5, w ∈ m_tbl := fun w h => m_tbl_of (inX0 w h) (List.all_eq_true.mp (show (u_ws RX0 TX0 5).all goodWord = true by decide +kernel) w h)
theorem m_inX1 : ∀ w ∈ u_ws RX1 TX1 4, w ∈ m_tbl := fun w h => m_tbl_of (inX1 w h) (List.all_eq_true.mp (show (u_ws RX1 TX1 4).all goodWord = true by decide +kernel) w h)
theorem m_inX2 : ∀ w ∈ u_ws RX2 TX2 8, w ∈ m_tbl := fun w h => m_tbl_of (inX2 w h) (List.all_eq_true.mp (show (u_ws RX2 TX2 8).all goodWord = true by decide +kernel) w h)
theorem m_inX3 : ∀ w ∈ u_ws RX3 TX3 3, w ∈ m_tbl := fun w h => m_tbl_of (inX3 w h) (List.all_eq_true.mp (show (u_ws RX3 TX3 3).all goodWord = true by decide +kernel) w h)
theorem m_inX4 : ∀ w ∈ u_ws RX4 TX4 7, w ∈ m_tbl := fun w h => m_tbl_of (inX4 w h) (List.all_eq_true.mp (show (u_ws RX4 TX4 7).all goodWord = true by decide +kernel) w h)
theorem m_inX5 : ∀ w ∈ u_ws RX5 TX5 3, w ∈ m_tbl := fun w h => m_tbl_of (inX5 w h) (List.all_eq_true.mp (show (u_ws RX5 TX5 3).all goodWord = true by decide +kernel) w h)
theorem m_inX6 : ∀ w ∈ u_ws RX6 TX6 7, w ∈ m_tbl := fun w h => m_tbl_of (inX6 w h) (List.all_eq_true.mp (show (u_ws RX6 TX6 7).all goodWord = true by decide +kernel) w h)
theorem m_inX7 : ∀ w ∈ u_ws RX7 TX7 16, w ∈ m_tbl := fun w h => m_tbl_of (inX7 w h) (List.all_eq_true.mp (show (u_ws RX7 TX7 16).all goodWord = true by decide +kernel) w h)
theorem m_inX8 : ∀ w ∈ u_ws RX8 TX8 4, w ∈ m_tbl := fun w h => m_tbl_of (inX8 w h) (List.all_eq_true.mp (show (u_ws RX8 TX8 4).all goodWord = true by decide +kernel) w h)
theorem m_inX9 : ∀ w ∈ u_ws RX9 TX9 10, w ∈ m_tbl := fun w h => m_tbl_of (inX9 w h) (List.all_eq_true.mp (show (u_ws RX9 TX9 10).all goodWord = true by decide +kernel) w h)
theorem m_inX10 : ∀ w ∈ u_ws RX10 TX10 24, w ∈ m_tbl := fun w h => m_tbl_of (inX10 w h) (List.all_eq_true.mp (show (u_ws RX10 TX10 24).all goodWord = true by decide +kernel) w h)
theorem m_cls_in {ci : Nat} {q : vw_C} (h : vwCl[ci]? = some q) : ∀ w ∈ u_ws q.1 q.2.1 q.2.2, w ∈ m_tbl :=
  match ci, h with
  | 0, h => by cases h; exact m_inX0
  | 1, h => by cases h; exact m_inX1
  | 2, h => by cases h; exact m_inX2
  | 3, h => by cases h; exact m_inX3
  | 4, h => by cases h; exact m_inX4
  | 5, h => by cases h; exact m_inX5
  | 6, h => by cases h; exact m_inX6
  | 7, h => by cases h; exact m_inX7
  | 8, h => by cases h; exact m_inX8
  | 9, h => by cases h; exact m_inX9
  | 10, h => by cases h; exact m_inX10
  | k + 11, h => by simp [vwCl] at h

theorem m_cls_ty {ci : Nat} {q : vw_C} (h : vwCl[ci]? = some q) : ∃ ty : Nat → FieldType, (∀ k, k < q.2.2 → parseFieldDescriptor (q.2.1 k).2.2.1 = some (ty k)) ∧ (m_new ci).length = q.2.2 ∧ ∀ j, j < q.2.2 → defaultValue (ty j) = vp_V (m_new ci) j :=
  match ci, h with
  | 0, h => by cases h; exact ⟨tyX0, tyX0_ok, rfl, by decide +kernel⟩
  | 1, h => by cases h; exact ⟨tyX1, tyX1_ok, rfl, by decide +kernel⟩
  | 2, h => by cases h; exact ⟨tyX2, tyX2_ok, rfl, by decide +kernel⟩
  | 3, h => by cases h; exact ⟨tyX3, tyX3_ok, rfl, by decide +kernel⟩
  | 4, h => by cases h; exact ⟨tyX4, tyX4_ok, rfl, by decide +kernel⟩
  | 5, h => by cases h; exact ⟨tyX5, tyX5_ok, rfl, by decide +kernel⟩
  | 6, h => by cases h; exact ⟨tyX6, tyX6_ok, rfl, by decide +kernel⟩
  | 7, h => by cases h; exact ⟨tyX7, tyX7_ok, rfl, by decide +kernel⟩
  | 8, h => by cases h; exact ⟨tyX8, tyX8_ok, rfl, by decide +kernel⟩
  | 9, h => by cases h; exact ⟨tyX9, tyX9_ok, rfl, by decide +kernel⟩
  | 10, h => by cases h; exact ⟨tyX10, tyX10_ok, rfl, by decide +kernel⟩
  | k + 11, h => by simp [vwCl] at h

theorem m_cls_nm {ci : Nat} {q : vw_C} (h : vwCl[ci]? = some q) : ∀ a, a < q.2.2 → ∀ b, b < q.2.2 → a ≠ b → (q.2.1 a).2.1 ≠ (q.2.1 b).2.1 :=
  match ci, h with
  | 0, h => by cases h; exact nmX0
  | 1, h => by cases h; exact nmX1
  | 2, h => by cases h; exact nmX2
  | 3, h => by cases h; exact nmX3
  | 4, h => by cases h; exact nmX4
  | 5, h => by cases h; exact nmX5
  | 6, h => by cases h; exact nmX6
  | 7, h => by cases h; exact nmX7
  | 8, h => by cases h; exact nmX8
  | 9, h => by cases h; exact nmX9
  | 10, h => by cases h; exact nmX10
  | k + 11, h => by simp [vwCl] at h

theorem m_cls_lt {ci : Nat} {q : vw_C} (h : vwCl[ci]? = some q) : ci < 11 := (List.getElem?_eq_some_iff.mp h).1

theorem m_new_map {P : mP} (ci : Nat) : (m_new ci).map (m_mv P) = m_new ci := by
  unfold m_new
  split <;> rfl
/-- where an object lies -/
theorem m_HR.obj {P : mP} (hP : m_okP P) {h : mH} {H : Heap} {a ci k : Nat} {fs : List Value} {v : Value} {q : vw_C} (hR : m_HR P h H) (ha : h a = .inr (ci, fs)) (hq : vwCl[ci]? = some q) (hk : m_nth fs k = some v) : 20 ≤ a ∧ a < m_nx h := by
  have hci := m_cls_lt hq
  obtain ⟨h1, h2, h3, h4, ⟨q5, h5⟩, ⟨q6, hq6, h6⟩, h7⟩ := hR
  by_cases h20 : a < 20
  · exfalso
    rcases Nat.lt_or_ge a 2 with z | z
    · rcases (show a = 0 ∨ a = 1 by omega) with rfl | rfl
      · rw [h5] at ha
        cases ha
        rw [m_nth_eq] at hk
        cases hk
      · rw [h6] at ha
        cases ha
        rw [m_nth_eq] at hk
        cases hk
    · have e := (h4 a z h20).symm.trans ha
      rcases hP.2.2.2 a z h20 with ⟨n2, f, w⟩ | ⟨n2, f, w⟩ | ⟨gs, w⟩ | ⟨gs, w⟩ <;> rw [w] at e <;> cases e <;> omega
  · refine ⟨by omega, ?_⟩
    rcases Nat.lt_or_ge a (m_nx h) with z | z
    · exact z
    · rw [h7 a z] at ha
      cases ha
      omega
/-- where a text's object lies -/
theorem m_HR.str {P : mP} {h : mH} {H : Heap} {a k : Nat} {fs : List Value} {v : Value} (hR : m_HR P h H) (ha : h a = .inr (11, fs)) (hf : m_nth fs k = some v) : 2 ≤ a ∧ a < 20 := by
  obtain ⟨h1, h2, h3, h4, ⟨q5, h5⟩, ⟨q6, hq6, h6⟩, h7⟩ := hR
  by_cases h20 : a < 20
  · refine ⟨?_, h20⟩
    rcases Nat.lt_or_ge a 2 with z | z
    · exfalso
      rcases (show a = 0 ∨ a = 1 by omega) with rfl | rfl
      · rw [h5] at ha
        cases ha
        rw [m_nth_eq] at hf
        cases hf
      · rw [h6] at ha
        cases ha
        rw [m_nth_eq] at hf
        cases hf
    · exact z
  · exfalso
    rcases Nat.lt_or_ge a (m_nx h) with z | z
    · have := h3 a (by omega) z
      rw [ha] at this
      obtain ⟨r9, h9, -⟩ := this
      simp [vwCl] at h9
    · rw [h7 a z] at ha
      cases ha
section FieldLaws
variable {P : mP} {p : Program} {l : Launch} {e : Env} {R : Room} {s : State} {m : MethodId} {args : Array Value} {below : List Frame} {meth : Method} {c : Code} {nm : MethodName} {bs : ByteArray} {mx nx0 us0 : Nat} {Q : State → Prop} {rt : Option FieldType}
variable {pc nx pc' len : Nat} {ops : List Nat} {v : Value} {ls ls' : mL} {st st' : List Value} {h h' : mH}
theorem s_getf {j ci k : Nat} (C : m_Cx P p R s m args meth c nm bs mx) (hdg : decode bs pc = .ok (.getfield j, 3)) (hn : nx = pc + 3)
    (hw : (∃ q, vwCl[ci]? = some q ∧ k < q.2.2 ∧ Cond.fieldLink nm.cls j (q.2.1 k).1 (q.2.1 k).2.1 (q.2.1 k).2.2.1 ∈ m_tbl) ∨ (ci = 11 ∧ ((k = 0 ∧ Cond.fieldLink nm.cls j "java/lang/String" "value" "[B" ∈ m_tbl) ∨ (k = 1 ∧ Cond.fieldLink nm.cls j "java/lang/String" "coder" "B" ∈ m_tbl))))
    (hs : m_getf nx [ci, k] ls st h = some (.inl (pc', ls', st', h'))) (K : m_Ok P p l e R s m args below meth c mx nx0 us0 Q pc' ls' st' h') : m_Ok P p l e R s m args below meth c mx nx0 us0 Q pc ls st h := by
  obtain ⟨hx, hb, hml, hown, hname, hts, hK, hP, hbase, -⟩ := C
  unfold m_getf at hs
  split at hs
  · rename_i ci2 k2 a r he
    cases he
    split at hs
    · rename_i cj fs ha
      cases hc : Nat.beq cj ci with
      | false => rw [hc] at hs; cases hs
      | true =>
        have hc := Nat.eq_of_beq_eq_true hc
        subst hc
        simp only [Nat.beq_refl, cond_true] at hs
        cases hf : m_nth fs k with
        | none => rw [hf] at hs; cases hs
        | some v =>
          rw [hf] at hs
          cases hs
          subst hn
          intro H locs cells slots Ls hp
          have hR := hp.1
          rcases hw with ⟨q, hq, hk, hl⟩ | ⟨rfl, hw⟩
          · obtain ⟨h20, hn⟩ := hR.obj hP ha hq hf
            rw [List.map_cons, m_mv_ref (show a ≠ 19 by intro z; subst z; exact absurd h20 (by decide))]
            have hat : va_at P.1 vwCl (m_rho P a, .inr (cj, fs.map (m_mv P))) H := by
              have := hR.2.2.1 a h20 hn
              rw [ha] at this
              exact this
            exact va_get (D := P.1) (cl := vwCl) (tys := m_tys P) hx hb hts (m_cls_in hq) hown hK.1 (m_one hat) 0 rfl hq k hk (hts _ hl) (fun _ z => z) (v := m_mv P v) (by rw [List.getElem?_map, ← m_nth_eq, hf]; rfl) hdg (K H locs cells slots Ls hp)
          · have ha2 : 2 ≤ a ∧ a < 20 := hR.str ha hf
            have h19 : a ≠ 19 := by
              intro z
              subst z
              rw [m_ne19 hP hR] at ha
              cases ha
            rw [List.map_cons, m_mv_ref h19]
            obtain ⟨-, x, y, hxy, g1, g2⟩ := hK.2.2.2.2.2.2 a fs ha2.2 ((hR.2.2.2.1 a ha2.1 ha2.2).symm.trans ha)
            subst hxy
            rcases hw with ⟨rfl, hl⟩ | ⟨rfl, hl⟩
            · cases hf
              exact vk_getf hx hb g1 hp.2.2.1 hown (hts _ hl) (fun _ z => z) hdg (K H locs cells slots Ls hp)
            · cases hf
              exact vk_getf hx hb g2 hp.2.2.1 hown (hts _ hl) (fun _ z => z) hdg (K H locs cells slots Ls hp)
    · cases hs
  · cases hs
theorem m_fits_ok {tc : Nat} {ty : FieldType} {v : Value} (hP : m_okP P) (ht : m_tc tc ty) (hv : m_fits tc v = true) : narrow ty (m_mv P v) = m_mv P v ∧ fits ty (m_mv P v) = true := by
  rcases ht with ⟨rfl, rfl⟩ | ⟨rfl, rfl⟩ | ⟨rfl, rfl⟩ | ⟨rfl, ht⟩
  · cases v <;> simp [m_fits] at hv
    exact ⟨rfl, rfl⟩
  · cases v <;> simp [m_fits] at hv
    exact ⟨rfl, rfl⟩
  · cases v <;> simp [m_fits] at hv
    rcases hv with rfl | rfl
    · exact ⟨show narrow .boolean (.int 0) = .int 0 by decide +kernel, show fits .boolean (.int 0) = true by decide +kernel⟩
    · exact ⟨show narrow .boolean (.int 1) = .int 1 by decide +kernel, show fits .boolean (.int 1) = true by decide +kernel⟩
  · have h2 : m_mv P v = .null ∨ ∃ t, m_mv P v = .ref t := by
      cases v <;> simp [m_fits] at hv
      · exact Or.inl rfl
      · rename_i a
        by_cases h19 : a = 19
        · have e : m_mv P (.ref a) = P.2.2.2.2.1 := by show (if a = 19 then _ else _) = _; rw [if_pos h19]
          rw [e]
          exact hP.1
        · exact Or.inr ⟨_, m_mv_ref h19⟩
    rcases ht with ⟨C, rfl⟩ | ⟨t, rfl⟩ <;> rcases h2 with e | ⟨z, e⟩ <;> rw [e] <;> exact ⟨rfl, rfl⟩
theorem s_putf {j ci k tc : Nat} {q : vw_C} (C : m_Cx P p R s m args meth c nm bs mx) (hdg : decode bs pc = .ok (.putfield j, 3)) (hn : nx = pc + 3)
    (hq : vwCl[ci]? = some q) (hk : k < q.2.2) (hl : Cond.fieldLink nm.cls j (q.2.1 k).1 (q.2.1 k).2.1 (q.2.1 k).2.2.1 ∈ m_tbl) (hfin : (q.2.1 k).2.2.2 = false ∨ ((q.2.1 k).2.2.2 = true ∧ nm.name = "<init>" ∧ (q.2.1 k).1 = nm.cls)) {ty : FieldType} (hty : parseFieldDescriptor (q.2.1 k).2.2.1 = some ty) (htc : m_tc tc ty)
    (hs : m_putf nx [ci, k, tc] ls st h = some (.inl (pc', ls', st', h'))) (K : m_Ok P p l e R s m args below meth c mx nx0 us0 Q pc' ls' st' h') : m_Ok P p l e R s m args below meth c mx nx0 us0 Q pc ls st h := by
  obtain ⟨hx, hb, hml, hown, hname, hts, hK, hP, hbase, -⟩ := C
  unfold m_putf at hs
  split at hs
  · rename_i ci2 k2 tc2 v a r he
    cases he
    split at hs
    · rename_i cj fs ha
      cases hg : (Nat.beq cj ci && Nat.ble 20 a && Nat.ble (a + 1) (m_nx h) && Nat.ble (k + 1) fs.length && m_fits tc v) with
      | false => rw [hg] at hs; cases hs
      | true =>
        rw [hg] at hs
        cases hs
        subst hn
        simp only [Bool.and_eq_true] at hg
        obtain ⟨⟨⟨⟨g1, g2⟩, g3⟩, g4⟩, g5⟩ := hg
        have g1 := Nat.eq_of_beq_eq_true g1
        subst g1
        have h20 := Nat.le_of_ble_eq_true g2
        have hn : a < m_nx h := Nat.le_of_ble_eq_true g3
        have hlen : k < fs.length := Nat.le_of_ble_eq_true g4
        obtain ⟨hnar, hfit⟩ := m_fits_ok hP htc g5
        intro H locs cells slots Ls hp
        have hR := hp.1
        rw [List.map_cons, List.map_cons, m_mv_ref (show a ≠ 19 by intro z; subst z; exact absurd h20 (by decide))]
        have hat : va_at P.1 vwCl (m_rho P a, .inr (cj, fs.map (m_mv P))) H := by
          have := hR.2.2.1 a h20 hn
          rw [ha] at this
          exact this
        obtain ⟨ty0, hty0, -, -⟩ := m_cls_ty hq
        obtain ⟨C0, T0, N0⟩ := q
        have hap := va_apart (D := P.1) (cl := vwCl) (tys := m_tys P) (own := nm.cls) hts (m_cls_in hq) ty0 hty0 (m_cls_nm hq) hK.1 hq
        obtain ⟨r9, h9, cell, q1, q2, q3, q4⟩ := hat
        cases hq.symm.trans h9
        obtain ⟨hS, hfc, kC, hkC, hkind⟩ := hK.1.1 cj _ hq
        obtain ⟨cf, kf, fi, f, hi, hsl⟩ := hS k hk
        have hlay := hts _ (m_cls_in hq _ (u_in_lay hk))
        have hst := (u_facts hfc hkC (u_lays hts (m_cls_in hq) hk) hi).1
        have fin : ∀ H' : Heap, H'[m_rho P a]? = some (cell.setSlot f.slot (m_mv P v)) → H'.size = H.size → (∀ q, q ≠ m_rho P a → H'[q]? = H[q]?) → W p l e R s m args below meth c H' (locs ++ [⟨m_rho P a, f.slot⟩]) cells slots Q (F0 m (pc + 3) Ls (st'.map (m_mv P))) := by
          intro H' e1 e2 e3
          rw [hsl] at e1
          refine K H' _ cells slots Ls ⟨hR.put h20 hn ⟨_, hq, ?_⟩ e2 e3, hp.2.1, m_S.put hp.2.2.1 e2 e3 h20, by rw [m_up_nx h _ h20]; exact hp.2.2.2.1, by rw [m_up_us h _ h20]; exact hp.2.2.2.2⟩
          show t_OB _ _ _ _ H' (vp_V ((fs.set k v).map (m_mv P)))
          rw [List.map_set]
          exact t_OB.to (V := updV (vp_V (fs.map (m_mv P))) k (m_mv P v)) ⟨_, e1, q2, q3, t_set q4 hap hk _⟩ (fun j _ => vp_updV_set (by rw [List.length_map]; exact hlen) _ j)
        unfold u_lay at hlay
        rcases hfin with hfin | ⟨hfin, hin2, hdecl⟩
        · rw [if_neg (by rw [hfin]; decide)] at hlay
          have h6 := u_store hfc hkC hkind hlay hi hty hnar hfit
          exact W.putK hx hb (f := f) ⟨hown, hts _ hl, ⟨_, _, _, hi⟩, hst⟩ (by rw [q2]; exact h6) q1 q3 (by rw [hsl]; exact k2_hasslot (q4 k hk)) rfl rfl hdg fin
        · rw [if_pos hfin] at hlay
          have hcf : m.cls = cf := by
            obtain ⟨_, _, c', _, _, _, -, -, hf', -, -, -, hown2, -⟩ := Cond.laysFinal_spec hlay
            have e1 : c' = cf := by have := hi.symm.trans hf'; simp at this; exact this.1.symm
            have hdecl2 : (T0 k).1 = nm.cls := hdecl
            rw [hdecl2] at hown2
            rw [← e1]
            exact Option.some.inj (hown.symm.trans hown2)
          have h6 := u_fits hfc hkC hkind (Or.inr hlay) hi hty hnar hfit
          exact W.putFinK hx hb hown (hts _ hl) hi hst hcf (hname hin2) (by rw [q2]; exact h6) q1 q3 (by rw [hsl]; exact k2_hasslot (q4 k hk)) rfl rfl hdg fin
    · cases hs
  · cases hs
end FieldLaws
