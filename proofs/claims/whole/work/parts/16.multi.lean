/-! Rows of rows (vr_outer: as the printed names have it). -/
theorem vr_outer (c : ClassId) (N h0 : Nat) : ∀ i : Nat, Jvm.Free.Multi.outerC c N h0 i = arrV c N (fun j => va_rf (if j < i then some (h0 + 1 + j) else none))
  | 0 => by
    show ({ cls := c, slots := Array.replicate N .null, vm := .none } : Cell) = _
    rw [arrV_new]
    refine congrArg (arrV c N) (funext fun j => ?_)
    simp [va_rf]
  | i + 1 => by
    show (Jvm.Free.Multi.outerC c N h0 i).setSlot i (.ref (h0 + 1 + i)) = _
    rw [vr_outer c N h0 i, arrV_store]
    refine congrArg (arrV c N) (funext fun j => ?_)
    by_cases e : j = i
    · subst e
      simp [updV, va_rf]
    · by_cases h : j < i
      · simp [updV, e, h, Nat.lt_succ_of_lt h]
      · simp [updV, e, h, show ¬ j < i + 1 by omega]
theorem wd_along : (Cond.arrayClass .long : Jvm.Cond) ∈ m_tbl := m_tbl_of (by decide +kernel) rfl
theorem wd_mlink : (Cond.classLink "FewerMan$Orders" 18 ("[" ++ (FieldType.array .long).toString) : Jvm.Cond) ∈ m_tbl := m_tbl_of (by decide +kernel) rfl
theorem s_newm {P : mP} {p : Program} {l : Launch} {e : Env} {R : Room} {s : State} {m : MethodId} {args : Array Value} {below : List Frame} {meth : Method} {c : Code} {nm : MethodName} {bs : ByteArray} {mx nx0 us0 : Nat} {Q : State → Prop} {pc pc' : Nat} {ls ls' : mL} {st st' : List Value} {h h' : mH}
    (C : m_Cx P p R s m args meth c nm bs mx) (hdg : decode bs pc = .ok (.multianewarray 18 2, 4)) (hcls : nm.cls = "FewerMan$Orders") (hs : m_newm (pc + 4) ls st h = some (.inl (pc', ls', st', h'))) (hc : m_nx h' ≤ nx0 + R.cells) (hu : m_us h' ≤ us0 + R.slots) (K : m_Ok P p l e R s m args below meth c mx nx0 us0 Q pc' ls' st' h') : m_Ok P p l e R s m args below meth c mx nx0 us0 Q pc ls st h := by
  obtain ⟨hx, hb, hml, hown, hname, hts, hK, hP, hbase, hfr, hlo⟩ := C
  unfold m_newm at hs
  split at hs
  · rename_i k n r
    obtain ⟨hg, hs⟩ := m_cond_some hs
    cases hs
    simp only [Bool.and_eq_true, decide_eq_true_eq] at hg
    obtain ⟨⟨⟨⟨g1, g2⟩, g3⟩, g4⟩, g5⟩ := hg
    have g3 := Nat.le_of_ble_eq_true g3
    have g4 := Nat.le_of_ble_eq_true g4
    have h20 := Nat.le_of_ble_eq_true g5
    intro H locs cells slots Ls hp T hT X
    obtain ⟨q1, q2, q3, q4, ⟨q5, h5⟩, ⟨q6, hq6, h6⟩, q7⟩ := hp.1
    have f1 := hp.2.2.2.1
    have f2 := hp.2.2.2.2
    have e1 : m_nx (m_alm h n.toNatClampNeg k.toNatClampNeg) = m_nx h + 1 + n.toNatClampNeg := rfl
    have e2 : m_us (m_alm h n.toNatClampNeg k.toNatClampNeg) = m_us h + n.toNatClampNeg + n.toNatClampNeg * k.toNatClampNeg := rfl
    have hown' : s.vm.findClass "FewerMan$Orders" = some m.cls := by rw [← hcls]; exact hown
    obtain ⟨vm₁, cA, comp, hW, fA, fC, hO, hI, X', step⟩ := X.multianewarray2F hx hown' (hts _ wd_mlink) hK.2.1.2.2 (hts _ wd_along) (g := F0 m pc Ls (.int k :: .int n :: r.map (m_mv P))) rfl (by rw [hb]; exact hdg) rfl (Int32.not_lt.mpr g1) (Int32.not_lt.mpr g2) (by omega) (by show k.toNatClampNeg * 8 ≤ _; omega) (by omega) rfl rfl (by omega) (by omega)
    have hcA : cA = P.2.1 3 := Option.some.inj (fA.symm.trans (hK.1.2 3 (P.2.1 3, .array .long) rfl).2)
    have hcm : comp = P.2.1 1 := Option.some.inj (fC.symm.trans (hK.1.2 1 (P.2.1 1, .long) rfl).2)
    subst hcA
    subst hcm
    generalize hF : Jvm.Free.Multi.fill (T.setVm vm₁) (P.2.1 3) (P.2.1 1) n.toNatClampNeg k.toNatClampNeg (defaultValue .long) n.toNatClampNeg = F at X' step
    have hTh : (T.setVm vm₁).heap = H := hT
    obtain ⟨r1, r2, -, -⟩ := Jvm.Free.Multi.fill_facts (T.setVm vm₁) (P.2.1 3) (P.2.1 1) n.toNatClampNeg k.toNatClampNeg (defaultValue .long) n.toNatClampNeg
    rw [hF, hTh] at r1 r2
    have hold : ∀ x : Nat, x < H.size → F.heap[x]? = H[x]? := fun x hx9 => by
      have := Jvm.Free.Multi.fill_old (T.setVm vm₁) (P.2.1 3) (P.2.1 1) n.toNatClampNeg k.toNatClampNeg (defaultValue .long) (a := x) (by rw [hTh]; exact hx9) n.toNatClampNeg
      rw [hF, hTh] at this
      exact this
    have hrow : ∀ j : Nat, j < n.toNatClampNeg → F.heap[H.size + 1 + j]? = some (Jvm.Free.Multi.innerC (P.2.1 1) k.toNatClampNeg (defaultValue .long)) := fun j hj => by
      have := Jvm.Free.Multi.fill_inner (T.setVm vm₁) (P.2.1 3) (P.2.1 1) n.toNatClampNeg k.toNatClampNeg (defaultValue .long) n.toNatClampNeg j hj
      rw [hF, hTh] at this
      exact this
    have hz : Jvm.Free.Multi.innerC (P.2.1 1) k.toNatClampNeg (defaultValue .long) = vp_cell (P.2.1 1) (k.toNatClampNeg, .inr (.inl fun _ => 0)) := arrV_new _ _ _
    rw [vr_outer] at r2
    have eb : ∀ a b : Nat, b ≠ a → Nat.beq b a = false := fun a b hb => by
      cases hq : Nat.beq b a with
      | false => rfl
      | true => exact absurd (Nat.eq_of_beq_eq_true hq) hb
    have hrho : ∀ a : Nat, 20 ≤ a → m_rho P a = P.2.2.1 + (a - 20) := fun a ha => m_rho_hi ha
    have hlow : ∀ b : Nat, b ≠ 0 → b ≠ 1 → b < m_nx h ∨ m_nx h + 1 + n.toNatClampNeg ≤ b → m_alm h n.toNatClampNeg k.toNatClampNeg b = h b := fun b b0 b1 b2 => by
      have c1 : (Nat.ble (m_nx h + 1) b && Nat.ble (b + 1) (m_nx h + 1 + n.toNatClampNeg)) = false := by
        rcases b2 with b2 | b2
        · have : Nat.ble (m_nx h + 1) b = false := by
            cases hq : Nat.ble (m_nx h + 1) b with
            | false => rfl
            | true => have := Nat.le_of_ble_eq_true hq; omega
          rw [this]; rfl
        · have : Nat.ble (b + 1) (m_nx h + 1 + n.toNatClampNeg) = false := by
            cases hq : Nat.ble (b + 1) (m_nx h + 1 + n.toNatClampNeg) with
            | false => rfl
            | true => have := Nat.le_of_ble_eq_true hq; omega
          rw [this, Bool.and_false]
      have c2 : b ≠ m_nx h := by omega
      simp [m_alm, eb _ _ b0, eb _ _ b1, eb _ _ c2, c1]
    have hout : m_alm h n.toNatClampNeg k.toNatClampNeg (m_nx h) = .inl (3, n.toNatClampNeg, .inr (.inr (.inr (.inr fun i => if i < n.toNatClampNeg then some (m_nx h + 1 + i) else none)))) := by
      simp [m_alm, eb 0 (m_nx h) (by omega), eb 1 (m_nx h) (by omega)]
    have hin : ∀ j : Nat, j < n.toNatClampNeg → m_alm h n.toNatClampNeg k.toNatClampNeg (m_nx h + 1 + j) = .inl (1, k.toNatClampNeg, .inr (.inl fun _ => 0)) := fun j hj => by
      have c1 : (Nat.ble (m_nx h + 1) (m_nx h + 1 + j) && Nat.ble (m_nx h + 1 + j + 1) (m_nx h + 1 + n.toNatClampNeg)) = true := by
        rw [Bool.and_eq_true]
        exact ⟨Nat.ble_eq_true_of_le (by omega), Nat.ble_eq_true_of_le (by omega)⟩
      simp [m_alm, eb 0 (m_nx h + 1 + j) (by omega), eb 1 (m_nx h + 1 + j) (by omega), eb (m_nx h) (m_nx h + 1 + j) (by omega), c1]
    have hHR : m_HR P (m_alm h n.toNatClampNeg k.toNatClampNeg) F.heap := by
      refine ⟨by rw [e1, r1, q1]; omega, by rw [e1]; omega, fun a ha1 ha2 => ?_, fun a ha1 ha2 => by rw [hlow a (by omega) (by omega) (by omega)]; exact q4 a ha1 ha2, ⟨_, rfl⟩, ⟨_, by have : m_us h = q6 := (by unfold m_us; rw [h6]); omega, rfl⟩, fun a ha => by rw [e1] at ha; rw [hlow a (by omega) (by omega) (by omega)]; exact q7 a (by omega)⟩
      rw [e1] at ha2
      rcases Nat.lt_trichotomy a (m_nx h) with z | z | z
      · rw [hlow a (by omega) (by omega) (Or.inl z)]
        exact (q3 a ha1 z).kept (hold _ (by rw [hrho a ha1, q1]; omega))
      · subst z
        rw [hout, hrho _ ha1, ← q1]
        show F.heap[H.size]? = some (vp_cell (P.2.1 3) (n.toNatClampNeg, .inr (.inr (.inr (.inr fun j => ((if j < n.toNatClampNeg then some (m_nx h + 1 + j) else none : Option Nat)).map (m_rho P))))))
        rw [r2, vp_cell_q]
        refine congrArg some (congrArg (arrV _ _) (funext fun j => ?_))
        by_cases hj : j < n.toNatClampNeg
        · rw [if_pos hj, if_pos hj, Option.map_some, hrho _ (by omega), q1]
          congr 2
          omega
        · rw [if_neg hj, if_neg hj]
          rfl
      · obtain ⟨j, rfl⟩ : ∃ j, a = m_nx h + 1 + j := ⟨a - (m_nx h + 1), by omega⟩
        rw [hin j (by omega), hrho _ ha1]
        have e9 : P.2.2.1 + (m_nx h + 1 + j - 20) = H.size + 1 + j := by rw [q1]; omega
        rw [e9]
        show F.heap[H.size + 1 + j]? = some (vp_cell (P.2.1 1) (k.toNatClampNeg, .inr (.inl fun _ => 0)))
        rw [hrow j (by omega), hz]
    obtain ⟨t, a1, b1⟩ := K F.heap locs (cells + 1 + n.toNatClampNeg) (slots + n.toNatClampNeg + n.toNatClampNeg * k.toNatClampNeg) Ls ⟨hHR, hp.2.1, m_S.new hp.2.2.1 (by rw [r1]; omega) hold, by rw [e1]; omega, by rw [e2]; omega⟩ F rfl X'
    refine ⟨t, step t ?_, b1⟩
    have e : T.heap.size = H.size := by rw [hT]
    rw [e]
    rw [List.map_cons, m_mv_ref (by omega), hrho _ h20, ← q1] at a1
    exact a1
  · cases hs
theorem m_side (P : mP) (l : Launch) : m_Side P l := by
  refine ⟨fun s args hK hts at_ t _ ht => ?_, fun p e R s m args below meth c nm bs mx nx0 us0 Q pc pc' ls ls' st st' h h' C g1 g2 g3 g4 g5 K => s_newm C g1 g2 g3 g4 g5 K⟩
  rcases ht with ⟨rfl, rfl⟩ | ⟨rfl, rfl⟩ | ⟨rfl, rfl⟩
  · exact (hK.1.2 0 (P.2.1 0, .int) rfl).2
  · exact (hK.1.2 1 (P.2.1 1, .long) rfl).2
  · exact (hK.1.2 2 (P.2.1 2, .boolean) rfl).2
