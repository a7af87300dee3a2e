/-! New cells, and copies. -/
theorem m_HR.new {P : mP} {h : mH} {H H' : Heap} {c : mE} {sz : Nat} (hR : m_HR P h H) (he : va_at P.1 vwCl (H.size, m_mC P c) H') (z : H'.size = H.size + 1) (oq : ∀ q : Nat, q < H.size → H'[q]? = H[q]?) : m_HR P (m_al h c sz) H' ∧ m_nx (m_al h c sz) = m_nx h + 1 ∧ m_us (m_al h c sz) = m_us h + sz ∧ m_rho P (m_nx h) = H.size := by
  obtain ⟨h1, h2, h3, h4, ⟨q5, h5⟩, ⟨q6, hq6, h6⟩, h7⟩ := hR
  have e0 : ∀ b : Nat, b ≠ 0 → Nat.beq b 0 = false := fun b hb => by cases b with | zero => exact absurd rfl hb | succ b => rfl
  have eb : ∀ a b : Nat, b ≠ a → Nat.beq b a = false := fun a b hb => by
    cases hq : Nat.beq b a with
    | false => rfl
    | true => exact absurd (Nat.eq_of_beq_eq_true hq) hb
  have hat : ∀ b, b ≠ 0 → b ≠ 1 → b ≠ m_nx h → m_al h c sz b = h b := fun b b0 b1 b2 => by simp [m_al, eb _ _ b0, eb _ _ b1, eb _ _ b2]
  have hself : m_al h c sz (m_nx h) = c := by simp [m_al, eb 0 (m_nx h) (by omega), eb 1 (m_nx h) (by omega)]
  have hnx : m_nx (m_al h c sz) = m_nx h + 1 := rfl
  have hus : m_us h = q6 := by unfold m_us; rw [h6]
  have hrho : m_rho P (m_nx h) = H.size := by rw [m_rho_hi h2, h1]
  refine ⟨⟨by rw [hnx, z, h1]; omega, by rw [hnx]; omega, fun b hb1 hb2 => ?_, fun b hb1 hb2 => by rw [hat b (by omega) (by omega) (by omega)]; exact h4 b hb1 hb2, ⟨_, rfl⟩, ⟨_, by omega, rfl⟩, fun b hb => ?_⟩, hnx, rfl, hrho⟩
  · rw [hnx] at hb2
    by_cases hbn : b = m_nx h
    · subst hbn
      rw [hself, hrho]
      exact he
    · rw [hat b (by omega) (by omega) hbn]
      exact (h3 b hb1 (by omega)).kept (oq _ (by rw [m_rho_hi hb1, h1]; omega))
  · rw [hnx] at hb
    rw [hat b (by omega) (by omega) (by omega)]
    exact h7 b (by omega)
theorem m_S.new {P : mP} {s : State} {H H' : Heap} {locs : List Loc} (hS : va_S (m_A P) s.heap H locs) (z : H.size ≤ H'.size) (oq : ∀ q : Nat, q < H.size → H'[q]? = H[q]?) : va_S (m_A P) s.heap H' locs :=
  ⟨Nat.le_trans hS.1 z, fun q h1 h2 => (oq q (Nat.lt_of_lt_of_le h1 hS.1)).trans (hS.2.1 q h1 h2), hS.2.2⟩
section AllocLaws
variable {P : mP} {p : Program} {l : Launch} {e : Env} {R : Room} {s : State} {m : MethodId} {args : Array Value} {below : List Frame} {meth : Method} {c : Code} {nm : MethodName} {bs : ByteArray} {mx nx0 us0 : Nat} {Q : State → Prop} {rt : Option FieldType}
variable {pc nx pc' len : Nat} {ops : List Nat} {v : Value} {ls ls' : mL} {st st' : List Value} {h h' : mH}
theorem s_newo {j ci : Nat} {q : vw_C} (C : m_Cx P p R s m args meth c nm bs mx) (hdg : decode bs pc = .ok (.new j, 3)) (hn : nx = pc + 3) (hq : vwCl[ci]? = some q) (w1 : Cond.classLink nm.cls j q.1 ∈ m_tbl) (w2 : Cond.instantiable q.1 q.2.2 ∈ m_tbl) (w3 : Cond.initialized q.1 ∈ m_tbl)
    (hs : m_newo nx [ci] ls st h = some (.inl (pc', ls', st', h'))) (hc : m_nx h' ≤ nx0 + R.cells) (hu : m_us h' ≤ us0 + R.slots) (K : m_Ok P p l e R s m args below meth c mx nx0 us0 Q pc' ls' st' h') : m_Ok P p l e R s m args below meth c mx nx0 us0 Q pc ls st h := by
  obtain ⟨hx, hb, hml, hown, hname, hts, hK, hP, hbase, -⟩ := C
  simp only [m_newo] at hs
  cases hg : Nat.ble 20 (m_nx h) with
  | false => rw [hg] at hs; cases hs
  | true =>
    rw [hg] at hs
    cases hs
    subst hn
    have h20 := Nat.le_of_ble_eq_true hg
    intro H locs cells slots Ls hp
    have hR := hp.1
    obtain ⟨ty0, hty0, hlen, hdef⟩ := m_cls_ty hq
    obtain ⟨C0, T0, N0⟩ := q
    have hKn := hK.1.1 ci _ hq
    have e1 : m_nx (m_al h (.inr (ci, m_new ci)) (m_new ci).length) = m_nx h + 1 := rfl
    have e2 : m_us (m_al h (.inr (ci, m_new ci)) (m_new ci).length) = m_us h + (m_new ci).length := rfl
    have f1 := hp.2.2.2.1
    have f2 := hp.2.2.2.2
    have hlen : (m_new ci).length = N0 := hlen
    refine W.newcK hx hb hown (hts _ w1) (hts _ w2) (hts _ w3) rfl hdg (by omega) (by omega) hKn.2.1 rfl fun H1 kC hkC g1 z1 o1 => ?_
    have hat : va_at P.1 vwCl (H.size, m_mC P (.inr (ci, m_new ci))) H1 := by
      refine ⟨_, hq, ?_⟩
      show t_OB _ _ _ _ _ (vp_V ((m_new ci).map (m_mv P)))
      rw [m_new_map]
      exact (u_born ty0 hts (m_cls_in hq) hKn hkC g1 hty0).to hdef
    obtain ⟨a1, a2, a3, a4⟩ := hR.new (sz := (m_new ci).length) hat z1 o1
    have k := K H1 locs (cells + 1) (slots + N0) Ls ⟨a1, hp.2.1, m_S.new hp.2.2.1 (by omega) o1, by rw [a2]; omega, by rw [a3]; omega⟩
    rw [List.map_cons, m_mv_ref (by omega), a4] at k
    exact k
theorem s_newa {at_ : ArrayType} {t : Nat} {ty : FieldType} (C : m_Cx P p R s m args meth c nm bs mx) (hdg : decode bs pc = .ok (.newarray at_, 2)) (hn : nx = pc + 2) (hty : newarray.typeOf at_ = ty) (w1 : Cond.arrayClass (newarray.typeOf at_) ∈ m_tbl) (ht : s.vm.findClass ("[" ++ ty.toString) = some (P.2.1 t)) (hz : ∀ cA N, vp_cell cA (m_mA P (N, m_zero t)) = arrV cA N (fun _ => defaultValue ty)) (hcb : componentBytes ty ≤ 8)
    (hs : m_newa nx [t] ls st h = some (.inl (pc', ls', st', h'))) (hc : m_nx h' ≤ nx0 + R.cells) (hu : m_us h' ≤ us0 + R.slots) (K : m_Ok P p l e R s m args below meth c mx nx0 us0 Q pc' ls' st' h') : m_Ok P p l e R s m args below meth c mx nx0 us0 Q pc ls st h := by
  obtain ⟨hx, hb, hml, hown, hname, hts, hK, hP, hbase, -⟩ := C
  unfold m_newa at hs
  split at hs
  · rename_i t2 n r he
    cases he
    cases hg : (decide (0 ≤ n) && Nat.ble n.toNatClampNeg 100000 && Nat.ble 20 (m_nx h)) with
    | false => rw [hg] at hs; cases hs
    | true =>
      rw [hg] at hs
      cases hs
      subst hn
      subst hty
      simp only [Bool.and_eq_true, decide_eq_true_eq] at hg
      obtain ⟨⟨g1, g2⟩, g3⟩ := hg
      have h20 := Nat.le_of_ble_eq_true g3
      have hle := Nat.le_of_ble_eq_true g2
      intro H locs cells slots Ls hp
      have hR := hp.1
      have e1 : m_nx (m_al h (.inl (t, n.toNatClampNeg, m_zero t)) n.toNatClampNeg) = m_nx h + 1 := rfl
      have e2 : m_us (m_al h (.inl (t, n.toNatClampNeg, m_zero t)) n.toNatClampNeg) = m_us h + n.toNatClampNeg := rfl
      have f1 := hp.2.2.2.1
      have f2 := hp.2.2.2.2
      have hbytes : n.toNatClampNeg * componentBytes (newarray.typeOf at_) ≤ 536870912 := Nat.le_trans (Nat.mul_le_mul hle hcb) (Nat.le_of_ble_eq_true rfl)
      refine va_newaK hx hb (hts _ w1) rfl hdg (rest := r.map (m_mv P)) rfl (Int32.not_lt.mpr g1) rfl hbytes (by omega) (by omega) rfl fun H1 cA g4 z1 o1 g5 g6 => ?_
      have hcA : cA = P.2.1 t := Option.some.inj (g6.symm.trans ht)
      subst hcA
      have hat : va_at P.1 vwCl (H.size, m_mC P (.inl (t, n.toNatClampNeg, m_zero t))) H1 := by
        show H1[H.size]? = some (vp_cell (P.2.1 t) (m_mA P (n.toNatClampNeg, m_zero t)))
        rw [hz]
        exact g4
      obtain ⟨a1, a2, a3, a4⟩ := hR.new (sz := n.toNatClampNeg) hat z1 o1
      have k := K H1 locs (cells + 1) (slots + n.toNatClampNeg) Ls ⟨a1, hp.2.1, m_S.new hp.2.2.1 (by omega) o1, by rw [a2]; omega, by rw [a3]; omega⟩
      rw [List.map_cons, m_mv_ref (by omega), a4] at k
      exact k
  · cases hs
theorem s_copy {j : Nat} (C : m_Cx P p R s m args meth c nm bs mx) (hdg : decode bs pc = .ok (.invokestatic j, 3)) (hn : nx = pc + 3) (w1 : Cond.methodLink nm.cls j arraycopyName ∈ m_tbl) (w2 : Cond.native arraycopyName ∈ m_tbl) (w3 : Cond.static arraycopyName ∈ m_tbl) (w4 : Cond.initialized "java/lang/System" ∈ m_tbl)
    (hs : m_copy nx ls st h = some (.inl (pc', ls', st', h'))) (K : m_Ok P p l e R s m args below meth c mx nx0 us0 Q pc' ls' st' h') : m_Ok P p l e R s m args below meth c mx nx0 us0 Q pc ls st h := by
  obtain ⟨hx, hb, hml, hown, hname, hts, hK, hP, hbase, hfr, hlo⟩ := C
  unfold m_copy at hs
  split at hs
  · rename_i n dp b sp a r
    split at hs
    · rename_i n0 f n1 g ha hb'
      cases hg : (decide (0 ≤ sp) && decide (0 ≤ dp) && decide (0 ≤ n) && Nat.ble (sp.toNatClampNeg + n.toNatClampNeg) n0 && Nat.ble (dp.toNatClampNeg + n.toNatClampNeg) n1 && Nat.ble 20 a && Nat.ble (a + 1) (m_nx h) && Nat.ble 20 b && Nat.ble (b + 1) (m_nx h) && Nat.ble (m_cat r) 8) with
      | false => rw [hg] at hs; cases hs
      | true =>
        rw [hg] at hs
        cases hs
        subst hn
        simp only [Bool.and_eq_true, decide_eq_true_eq] at hg
        obtain ⟨⟨⟨⟨⟨⟨⟨⟨⟨g1, g2⟩, g3⟩, g4⟩, g5⟩, g6⟩, g7⟩, g8⟩, g9⟩, g10⟩ := hg
        have g4 := Nat.le_of_ble_eq_true g4
        have g5 := Nat.le_of_ble_eq_true g5
        have a20 := Nat.le_of_ble_eq_true g6
        have an : a < m_nx h := Nat.le_of_ble_eq_true g7
        have b20 := Nat.le_of_ble_eq_true g8
        have bn : b < m_nx h := Nat.le_of_ble_eq_true g9
        have g10 := Nat.le_of_ble_eq_true g10
        have h1 := Int32.not_lt.mpr g1
        have h2 := Int32.not_lt.mpr g2
        have h3 := Int32.not_lt.mpr g3
        intro H locs cells slots Ls hp
        have hR := hp.1
        rw [List.map_cons, List.map_cons, List.map_cons, List.map_cons, List.map_cons, m_mv_ref (m_inl19 hP hR ha), m_mv_ref (m_inl19 hP hR hb')]
        have nn : ∀ z : Int32, ¬ z < 0 → z.toInt = (z.toNatClampNeg : Int) := by
          intro z hz
          have hz0 : (0 : Int) ≤ z.toInt := by
            have := Int32.not_lt.mp hz
            simpa using Int32.le_iff_toInt_le.mp this
          show z.toInt = ((z.toInt.toNat : Nat) : Int)
          omega
        have hc0 : H[m_rho P a]? = some (vp_cell (P.2.1 0) (n0, .inl f)) := hR.cell ha a20 an
        have hc1 : H[m_rho P b]? = some (vp_cell (P.2.1 0) (n1, .inl g)) := hR.cell hb' b20 bn
        intro T hT X
        obtain ⟨-, k0, hk0, cm0, hkk0⟩ := (hK.1.2 0 (P.2.1 0, .int) rfl).1 n0 (fun j => .int (f j))
        obtain ⟨-, k1, hk1, cm1, hkk1⟩ := (hK.1.2 0 (P.2.1 0, .int) rfl).1 n1 (fun j => .int (g j))
        obtain ⟨vm', X', step⟩ := X.arraycopy hx hown (hts _ w1) (hts _ w2) (hts _ w3) (hts _ w4) (src := m_rho P a) (dst := m_rho P b) (cs := vp_cell (P.2.1 0) (n0, .inl f)) (cd := vp_cell (P.2.1 0) (n1, .inl g)) (srcPos := sp) (destPos := dp) (n := n) (by rw [hT]; exact hc0) (by rw [hT]; exact hc1)
          (fun _ h => by cases h) (fun _ h => by cases h) (fun h => by cases h) (fun h => by cases h) hk0 hk1 hkk0 hkk1 (by simp [refKind]) h1 h2 h3
          (by rw [nn sp h1, nn n h3]; show ¬ _ > ((arrV (P.2.1 0) n0 (fun j => .int (f j))).slots.size : Int); rw [arrV_size]; omega)
          (by rw [nn dp h2, nn n h3]; show ¬ _ > ((arrV (P.2.1 0) n1 (fun j => .int (g j))).slots.size : Int); rw [arrV_size]; omega)
          (fun vm₁ _ i hi => by
            have e : (vp_cell (P.2.1 0) (n0, .inl f)).slots.getD (sp.toNatClampNeg + i) .null = .int (f (sp.toNatClampNeg + i)) := by
              show (arrV (P.2.1 0) n0 (fun j => .int (f j))).slots.getD _ _ = _
              rw [Array.getD_eq_getD_getElem?, arrV_read _ _ (by omega)]
              rfl
            refine ⟨?_, ?_⟩
            · rw [e]; rfl
            · rw [e]; exact trivial)
          (g := F0 m pc Ls (.int n :: .int dp :: .ref (m_rho P b) :: .int sp :: .ref (m_rho P a) :: st'.map (m_mv P))) rfl (by show Ls.size = c.maxLocals; rw [hp.2.1.2.1, hml]) (rest := st'.map (m_mv P)) rfl (by rw [hb]; exact hdg) hfr (by
            show 2 * 0 + ((st'.map (m_mv P)).map fun v => v.category).sum + _ ≤ _
            rw [m_mv_sum hP]
            have : nativeFrameWords "java/lang/System" "arraycopy" 5 + 11 ≤ 50 := by decide +kernel
            omega)
        have e1 : copied (vp_cell (P.2.1 0) (n0, .inl f)) (vp_cell (P.2.1 0) (n1, .inl g)) sp dp n = vp_cell (P.2.1 0) (n1, .inl (va_cpy f g sp.toNatClampNeg dp.toNatClampNeg n.toNatClampNeg)) := va_copied (fun z => .int z) (P.2.1 0) (P.2.1 0) f g g4
        rw [e1] at X' step
        have hl : m_rho P b < H.size := (Array.getElem?_eq_some_iff.mp hc1).1
        have hheap : ((T.setVm vm').setCell (m_rho P b) (vp_cell (P.2.1 0) (n1, .inl (va_cpy f g sp.toNatClampNeg dp.toNatClampNeg n.toNatClampNeg)))).heap = H.setIfInBounds (m_rho P b) (vp_cell (P.2.1 0) (n1, .inl (va_cpy f g sp.toNatClampNeg dp.toNatClampNeg n.toNatClampNeg))) := by rw [← hT]; rfl
        have oq : ∀ q : Nat, q ≠ m_rho P b → (H.setIfInBounds (m_rho P b) (vp_cell (P.2.1 0) (n1, .inl (va_cpy f g sp.toNatClampNeg dp.toNatClampNeg n.toNatClampNeg))))[q]? = H[q]? := fun q hq => by simp [Array.getElem?_setIfInBounds, Ne.symm hq]
        have z : (H.setIfInBounds (m_rho P b) (vp_cell (P.2.1 0) (n1, .inl (va_cpy f g sp.toNatClampNeg dp.toNatClampNeg n.toNatClampNeg)))).size = H.size := by simp
        have hat : va_at P.1 vwCl (m_rho P b, m_mC P (.inl (0, n1, .inl (va_cpy f g sp.toNatClampNeg dp.toNatClampNeg n.toNatClampNeg)))) (H.setIfInBounds (m_rho P b) (vp_cell (P.2.1 0) (n1, .inl (va_cpy f g sp.toNatClampNeg dp.toNatClampNeg n.toNatClampNeg)))) := by
          show (H.setIfInBounds _ _)[m_rho P b]? = some (vp_cell (P.2.1 0) (n1, .inl (va_cpy f g sp.toNatClampNeg dp.toNatClampNeg n.toNatClampNeg)))
          simp [Array.getElem?_setIfInBounds, hl]
        obtain ⟨t, a1, b1⟩ := K _ _ cells slots Ls ⟨hR.put b20 bn hat z oq, hp.2.1, ⟨by simp; exact hp.2.2.1.1, fun q y1 y2 => by
            rw [oq q (fun e => y2 (by show P.2.2.1 ≤ q; rw [e, m_rho_hi b20]; omega))]
            exact hp.2.2.1.2.1 q y1 y2, fun q hq => by
            rcases List.mem_append.mp hq with y | y
            · exact hp.2.2.1.2.2 q y
            · obtain ⟨z, -, hz⟩ := List.mem_map.mp y
              rw [← hz]
              show P.2.2.1 ≤ m_rho P b
              rw [m_rho_hi b20]
              omega⟩, by rw [m_up_nx h _ b20]; exact hp.2.2.2.1, by rw [m_up_us h _ b20]; exact hp.2.2.2.2⟩ _ hheap X'
        exact ⟨t, step t a1, b1⟩
    · cases hs
  · cases hs
end AllocLaws
