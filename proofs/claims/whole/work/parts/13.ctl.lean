/-! Branches, jumps, the small steps over the stack: and all steps together. -/
section CtlLaws
variable {P : mP} {p : Program} {l : Launch} {e : Env} {R : Room} {s : State} {m : MethodId} {args : Array Value} {below : List Frame} {meth : Method} {c : Code} {nm : MethodName} {bs : ByteArray} {mx nx0 us0 : Nat} {Q : State → Prop} {rt : Option FieldType}
variable {pc nx pc' len : Nat} {ops : List Nat} {v : Value} {ls ls' : mL} {st st' : List Value} {h h' : mH}
theorem s_ifi {o : Int} {t : Nat} {cnd : ClassFile.Cond} (C : m_Cx P p R s m args meth c nm bs mx) (hdg : decode bs pc = .ok (.ifCond cnd o, 3)) (hn : nx = pc + 3) (ht : (pc : Int) + o = (t : Int))
    (hs : m_ifi nx [t] ls st h cnd = some (.inl (pc', ls', st', h'))) (K : m_Ok P p l e R s m args below meth c mx nx0 us0 Q pc' ls' st' h') : m_Ok P p l e R s m args below meth c mx nx0 us0 Q pc ls st h := by
  obtain ⟨hx, hb, -⟩ := C
  unfold m_ifi at hs
  split at hs
  · rename_i t2 x r he
    cases he
    subst hn
    intro H locs cells slots Ls hp
    rw [List.map_cons]
    have fin : ∀ (b : Bool), m_cmp cnd x 0 = b → W p l e R s m args below meth c H locs cells slots Q (F0 m (cond b t (pc + 3)) Ls (r.map (m_mv P))) := by
      intro b hb2
      rw [hb2] at hs
      cases b <;> (cases hs; exact K H locs cells slots Ls hp)
    cases cnd with
    | eq => exact lv_if_eq hx hb hdg ht (fun q => by have := fin true (decide_eq_true q); exact this) (fun q => by have := fin false (decide_eq_false q); exact this)
    | ne => exact lv_if_ne hx hb hdg ht (fun q => by have := fin true (decide_eq_true q); exact this) (fun q => by have := fin false (decide_eq_false (fun z => z q)); exact this)
    | lt => exact lv_if_lt hx hb hdg ht (fun q => by have := fin true (decide_eq_true q); exact this) (fun q => by have := fin false (decide_eq_false q); exact this)
    | ge => exact lv_if_ge hx hb hdg ht (fun q => by have := fin true (decide_eq_true q); exact this) (fun q => by have := fin false (decide_eq_false q); exact this)
    | gt => exact lv_if_gt hx hb hdg ht (fun q => by have := fin true (decide_eq_true q); exact this) (fun q => by have := fin false (decide_eq_false q); exact this)
    | le => exact lv_if_le hx hb hdg ht (fun q => by have := fin true (decide_eq_true q); exact this) (fun q => by have := fin false (decide_eq_false q); exact this)
  · cases hs
theorem s_ifc {o : Int} {t : Nat} {cnd : ClassFile.Cond} (C : m_Cx P p R s m args meth c nm bs mx) (hdg : decode bs pc = .ok (.if_icmp cnd o, 3)) (hn : nx = pc + 3) (ht : (pc : Int) + o = (t : Int))
    (hs : m_ifc nx [t] ls st h cnd = some (.inl (pc', ls', st', h'))) (K : m_Ok P p l e R s m args below meth c mx nx0 us0 Q pc' ls' st' h') : m_Ok P p l e R s m args below meth c mx nx0 us0 Q pc ls st h := by
  obtain ⟨hx, hb, -⟩ := C
  unfold m_ifc at hs
  split at hs
  · rename_i t2 y x r he
    cases he
    subst hn
    intro H locs cells slots Ls hp
    rw [List.map_cons, List.map_cons]
    have fin : ∀ (b : Bool), m_cmp cnd x y = b → W p l e R s m args below meth c H locs cells slots Q (F0 m (cond b t (pc + 3)) Ls (r.map (m_mv P))) := by
      intro b hb2
      rw [hb2] at hs
      cases b <;> (cases hs; exact K H locs cells slots Ls hp)
    cases cnd with
    | eq => exact lv_icmp_eq hx hb hdg ht (fun q => by have := fin true (decide_eq_true q); exact this) (fun q => by have := fin false (decide_eq_false q); exact this)
    | ne => exact lv_icmp_ne hx hb hdg ht (fun q => by have := fin true (decide_eq_true q); exact this) (fun q => by have := fin false (decide_eq_false (fun z => z q)); exact this)
    | lt => exact lv_icmp_lt hx hb hdg ht (fun q => by have := fin true (decide_eq_true q); exact this) (fun q => by have := fin false (decide_eq_false q); exact this)
    | ge => exact lv_icmp_ge hx hb hdg ht (fun q => by have := fin true (decide_eq_true q); exact this) (fun q => by have := fin false (decide_eq_false q); exact this)
    | gt => exact lv_icmp_gt hx hb hdg ht (fun q => by have := fin true (decide_eq_true q); exact this) (fun q => by have := fin false (decide_eq_false q); exact this)
    | le => exact lv_icmp_le hx hb hdg ht (fun q => by have := fin true (decide_eq_true q); exact this) (fun q => by have := fin false (decide_eq_false q); exact this)
  · cases hs
theorem m_mv_20 {a : Nat} (h : Nat.ble 20 a = true) : m_mv P (.ref a) = .ref (m_rho P a) := m_mv_ref (by have := Nat.le_of_ble_eq_true h; omega)
theorem s_ifnull {o : Int} {t : Nat} (C : m_Cx P p R s m args meth c nm bs mx) (hdg : decode bs pc = .ok (.ifnull o, 3)) (hn : nx = pc + 3) (ht : (pc : Int) + o = (t : Int))
    (hs : m_ifn nx [t] ls st h true = some (.inl (pc', ls', st', h'))) (K : m_Ok P p l e R s m args below meth c mx nx0 us0 Q pc' ls' st' h') : m_Ok P p l e R s m args below meth c mx nx0 us0 Q pc ls st h := by
  obtain ⟨hx, hb, -⟩ := C
  unfold m_ifn at hs
  split at hs
  · rename_i t2 r he
    cases he
    cases hs
    exact fun H locs cells slots Ls hp => lv_ifnullN hx hb hdg ht (K H locs cells slots Ls hp)
  · rename_i t2 a r he
    cases he
    cases hg : Nat.ble 20 a with
    | false => rw [hg] at hs; cases hs
    | true =>
      rw [hg] at hs
      cases hs
      subst hn
      intro H locs cells slots Ls hp
      rw [List.map_cons, m_mv_20 hg]
      exact lv_ifnull hx hb hdg (K H locs cells slots Ls hp)
  · cases hs
theorem s_ifnonnull {o : Int} {t : Nat} (C : m_Cx P p R s m args meth c nm bs mx) (hdg : decode bs pc = .ok (.ifnonnull o, 3)) (hn : nx = pc + 3) (ht : (pc : Int) + o = (t : Int))
    (hs : m_ifn nx [t] ls st h false = some (.inl (pc', ls', st', h'))) (K : m_Ok P p l e R s m args below meth c mx nx0 us0 Q pc' ls' st' h') : m_Ok P p l e R s m args below meth c mx nx0 us0 Q pc ls st h := by
  obtain ⟨hx, hb, -⟩ := C
  unfold m_ifn at hs
  split at hs
  · rename_i t2 r he
    cases he
    cases hs
    subst hn
    exact fun H locs cells slots Ls hp => lv_ifnonnullN hx hb hdg (K H locs cells slots Ls hp)
  · rename_i t2 a r he
    cases he
    cases hg : Nat.ble 20 a with
    | false => rw [hg] at hs; cases hs
    | true =>
      rw [hg] at hs
      cases hs
      intro H locs cells slots Ls hp
      rw [List.map_cons, m_mv_20 hg]
      exact lv_ifnonnull hx hb hdg ht (K H locs cells slots Ls hp)
  · cases hs
theorem s_tsw {dflt lo hi : Int} {offs : Array Int} {t : Nat} {ts : List Nat} (C : m_Cx P p R s m args meth c nm bs mx) (hdg : decode bs pc = .ok (.tableswitch dflt lo hi offs, len)) (ht : (pc : Int) + dflt = (t : Int)) (hts : offs.toList = ts.map (fun u : Nat => (u : Int) - (pc : Int)))
    (hs : m_tsw (t :: ts) ls st h lo hi = some (.inl (pc', ls', st', h'))) (K : m_Ok P p l e R s m args below meth c mx nx0 us0 Q pc' ls' st' h') : m_Ok P p l e R s m args below meth c mx nx0 us0 Q pc ls st h := by
  obtain ⟨hx, hb, -⟩ := C
  unfold m_tsw at hs
  split at hs
  · rename_i t2 ts2 x r he
    cases he
    intro H locs cells slots Ls hp
    rw [List.map_cons]
    by_cases hr : x.toInt < lo ∨ hi < x.toInt
    · rw [decide_eq_true hr] at hs
      cases hs
      exact lv_tableOut hx hb hdg hr ht (K H locs cells slots Ls hp)
    · rw [decide_eq_false hr] at hs
      cases hu : m_nth ts (x.toInt - lo).toNat with
      | none => rw [hu] at hs; cases hs
      | some u =>
        rw [hu] at hs
        cases hs
        refine lv_tableIn (off := (pc' : Int) - (pc : Int)) hx hb hdg (fun q => hr (Or.inl q)) (fun q => hr (Or.inr q)) ?_ (by omega) (K H locs cells slots Ls hp)
        rw [← Array.getElem?_toList, hts, List.getElem?_map, ← m_nth_eq, hu]
        rfl
  · cases hs
theorem s_lsw {dflt : Int} {ps : Array (Int × Int)} (C : m_Cx P p R s m args meth c nm bs mx) (hdg : decode bs pc = .ok (.lookupswitch dflt ps, len)) (hps : (ps.toList.zip (ps.toList.drop 1)).all (fun (a, next) => a.1 < next.1) = true)
    (hs : m_lsw [pc] ls st h dflt ps = some (.inl (pc', ls', st', h'))) (K : m_Ok P p l e R s m args below meth c mx nx0 us0 Q pc' ls' st' h') : m_Ok P p l e R s m args below meth c mx nx0 us0 Q pc ls st h := by
  obtain ⟨hx, hb, -⟩ := C
  unfold m_lsw at hs
  split at hs
  · rename_i pc2 x r he
    cases he
    intro H locs cells slots Ls hp
    rw [List.map_cons]
    by_cases hr : 0 ≤ (pc : Int) + Op.lookupswitch.offset ps.toList dflt x.toInt
    · rw [decide_eq_true hr] at hs
      cases hs
      exact lv_lookup hx hb hdg hps rfl (by omega) (K H locs cells slots Ls hp)
    · rw [decide_eq_false hr] at hs
      cases hs
  · cases hs
theorem s_goto {o : Int} {t : Nat} (C : m_Cx P p R s m args meth c nm bs mx) (hdg : decode bs pc = .ok (.goto o, 3)) (ht : (pc : Int) + o = (t : Int))
    (hs : m_goto [t] ls st h = some (.inl (pc', ls', st', h'))) (K : m_Ok P p l e R s m args below meth c mx nx0 us0 Q pc' ls' st' h') : m_Ok P p l e R s m args below meth c mx nx0 us0 Q pc ls st h := by
  obtain ⟨hx, hb, -⟩ := C
  cases hs
  exact fun H locs cells slots Ls hp => lv_goto hx hb hdg ht (K H locs cells slots Ls hp)
theorem s_obj {j : Nat} (C : m_Cx P p R s m args meth c nm bs mx) (hdg : decode bs pc = .ok (.invokespecial j, 3)) (hn : nx = pc + 3) (w1 : Cond.methodLink nm.cls j objectInit ∈ m_tbl) (w2 : Cond.instanceMethod objectInit ∈ m_tbl) (w3 : Cond.code objectInit ⟨#[0xb1]⟩ 1 none ∈ m_tbl)
    (hs : m_invi nx [] ls st h = some (.inl (pc', ls', st', h'))) (K : m_Ok P p l e R s m args below meth c mx nx0 us0 Q pc' ls' st' h') : m_Ok P p l e R s m args below meth c mx nx0 us0 Q pc ls st h := by
  obtain ⟨hx, hb, hml, hown, hname, hts, hK, hP, hbase, hfr, hlo⟩ := C
  simp only [m_invi] at hs
  split at hs
  · rename_i a r
    cases hg : (Nat.ble 20 a && Nat.ble (m_cat r) 8) with
    | false => rw [hg] at hs; cases hs
    | true =>
      rw [hg] at hs
      cases hs
      subst hn
      simp only [Bool.and_eq_true] at hg
      have g2 := Nat.le_of_ble_eq_true hg.2
      intro H locs cells slots Ls hp
      rw [List.map_cons, m_mv_20 hg.1]
      refine W.objInit hx hb hown (hts _ w1) (hts _ w2) (hts _ w3) rfl (by show Ls.size = c.maxLocals; rw [hp.2.1.2.1, hml]) rfl hdg hfr ?_ (K H locs cells slots Ls hp)
      show 2 * 0 + ((st'.map (m_mv P)).map fun v => v.category).sum + 12 ≤ R.locals
      rw [m_mv_sum hP]
      omega
  · cases hs
theorem m_cond_some {α : Type} {b : Bool} {x : Option α} {y : α} (h : cond b x none = some y) : b = true ∧ x = some y := by
  cases b
  · cases h
  · exact ⟨rfl, h⟩
theorem m_mth_h {k nx pc' : Nat} {ls ls' : mL} {st st' : List Value} {h h' : mH} (hs : m_mth nx ls st h k = some (.inl (pc', ls', st', h'))) : h' = h := by
  unfold m_mth at hs
  split at hs
  · unfold m_mth0 at hs
    split at hs
    · obtain ⟨-, hs⟩ := m_cond_some hs
      cases hs
      rfl
    · cases hs
  · unfold m_mth1 at hs
    split at hs
    · obtain ⟨-, hs⟩ := m_cond_some hs
      cases hs
      rfl
    · cases hs
  · unfold m_mth2 at hs
    split at hs
    · obtain ⟨-, hs⟩ := m_cond_some hs
      cases hs
      rfl
    · cases hs
  · unfold m_mth3 at hs
    split at hs
    · obtain ⟨-, hs⟩ := m_cond_some hs
      cases hs
      rfl
    · cases hs
  · unfold m_mth4 at hs
    split at hs
    · obtain ⟨-, hs⟩ := m_cond_some hs
      cases hs
      rfl
    · cases hs
  · cases hs
theorem m_mth_n {k nx : Nat} {ls : mL} {st : List Value} {h : mH} {z} (hs : m_mth nx ls st h k = some (.inr z)) : False := by
  unfold m_mth at hs
  split at hs
  · unfold m_mth0 at hs
    split at hs
    · obtain ⟨-, hs⟩ := m_cond_some hs
      cases hs
    · cases hs
  · unfold m_mth1 at hs
    split at hs
    · obtain ⟨-, hs⟩ := m_cond_some hs
      cases hs
    · cases hs
  · unfold m_mth2 at hs
    split at hs
    · obtain ⟨-, hs⟩ := m_cond_some hs
      cases hs
    · cases hs
  · unfold m_mth3 at hs
    split at hs
    · obtain ⟨-, hs⟩ := m_cond_some hs
      cases hs
    · cases hs
  · unfold m_mth4 at hs
    split at hs
    · obtain ⟨-, hs⟩ := m_cond_some hs
      cases hs
    · cases hs
  · cases hs
theorem s_math {j k : Nat} (C : m_Cx P p R s m args meth c nm bs mx) (hdg : decode bs pc = .ok (.invokestatic j, 3)) (hn : nx = pc + 3) (w0 : Cond.initialized "java/lang/Math" ∈ m_tbl) (hk : (k = 0 ∧ Cond.methodLink nm.cls j Lib.Math.max.name ∈ m_tbl ∧ Cond.static Lib.Math.max.name ∈ m_tbl ∧ Cond.code Lib.Math.max.name Lib.Math.max.code 2 (some .int) ∈ m_tbl) ∨
  (k = 1 ∧ Cond.methodLink nm.cls j Lib.Math.min.name ∈ m_tbl ∧ Cond.static Lib.Math.min.name ∈ m_tbl ∧ Cond.code Lib.Math.min.name Lib.Math.min.code 2 (some .int) ∈ m_tbl) ∨
  (k = 2 ∧ Cond.methodLink nm.cls j Lib.Math.abs.name ∈ m_tbl ∧ Cond.static Lib.Math.abs.name ∈ m_tbl ∧ Cond.code Lib.Math.abs.name Lib.Math.abs.code 1 (some .int) ∈ m_tbl) ∨
  (k = 3 ∧ Cond.methodLink nm.cls j Lib.MathLoose.abs_long.x ∈ m_tbl ∧ Cond.static Lib.MathLoose.abs_long.x ∈ m_tbl ∧ Cond.code Lib.MathLoose.abs_long.x Lib.MathLoose.abs_long.code 2 (some .long) ∈ m_tbl) ∨
  (k = 4 ∧ Cond.methodLink nm.cls j Lib.MathLoose.max_long.x ∈ m_tbl ∧ Cond.static Lib.MathLoose.max_long.x ∈ m_tbl ∧ Cond.code Lib.MathLoose.max_long.x Lib.MathLoose.max_long.code 4 (some .long) ∈ m_tbl))
    (hs : m_st1 (.invokestatic j) nx [k] v ls st h = some (.inl (pc', ls', st', h'))) (K : m_Ok P p l e R s m args below meth c mx nx0 us0 Q pc' ls' st' h') (hR2 : ∀ H locs cells slots Ls, m_Pt P s mx nx0 us0 ls h H locs cells slots Ls → cells ≤ R.cells ∧ slots ≤ R.slots) : m_Ok P p l e R s m args below meth c mx nx0 us0 Q pc ls st h := by
  obtain ⟨hx, hb, hml, hown, hname, hts, hK, hP, hbase, hfr, hlo⟩ := C
  have hs : m_mth nx ls st h k = some (.inl (pc', ls', st', h')) := hs
  intro H locs cells slots Ls hp
  have hsz : c.maxLocals = Ls.size := by rw [hml, hp.2.1.2.1]
  obtain ⟨k1, k2⟩ := hR2 H locs cells slots Ls hp
  have i0 := hts _ w0
  have room : ∀ (r : List Value), Nat.ble (m_cat r) 8 = true → ((r.map (m_mv P)).map fun v => v.category).sum + 15 ≤ R.locals := fun r hg => by
    have hg := Nat.le_of_ble_eq_true hg
    rw [m_mv_sum hP]
    omega
  rcases hk with ⟨rfl, w1, w2, w3⟩ | ⟨rfl, w1, w2, w3⟩ | ⟨rfl, w1, w2, w3⟩ | ⟨rfl, w1, w2, w3⟩ | ⟨rfl, w1, w2, w3⟩
  · have hs : m_mth0 nx ls st h = some (.inl (pc', ls', st', h')) := hs
    unfold m_mth0 at hs
    split at hs
    · obtain ⟨hg, hs⟩ := m_cond_some hs
      cases hs
      subst hn
      exact va_mmax hx hb hsz hown (hts _ w1) (hts _ w2) i0 (hts _ w3) hfr (Nat.le_trans (Nat.add_le_add_left (by decide) _) (room _ hg)) k1 k2 hdg (K H locs cells slots Ls hp)
    · cases hs
  · have hs : m_mth1 nx ls st h = some (.inl (pc', ls', st', h')) := hs
    unfold m_mth1 at hs
    split at hs
    · obtain ⟨hg, hs⟩ := m_cond_some hs
      cases hs
      subst hn
      exact va_mmin hx hb hsz hown (hts _ w1) (hts _ w2) i0 (hts _ w3) hfr (Nat.le_trans (Nat.add_le_add_left (by decide) _) (room _ hg)) k1 k2 hdg (K H locs cells slots Ls hp)
    · cases hs
  · have hs : m_mth2 nx ls st h = some (.inl (pc', ls', st', h')) := hs
    unfold m_mth2 at hs
    split at hs
    · obtain ⟨hg, hs⟩ := m_cond_some hs
      cases hs
      subst hn
      exact va_mabs hx hb hsz hown (hts _ w1) (hts _ w2) i0 (hts _ w3) hfr (Nat.le_trans (Nat.add_le_add_left (by decide) _) (room _ hg)) k1 k2 hdg (K H locs cells slots Ls hp)
    · cases hs
  · have hs : m_mth3 nx ls st h = some (.inl (pc', ls', st', h')) := hs
    unfold m_mth3 at hs
    split at hs
    · obtain ⟨hg, hs⟩ := m_cond_some hs
      cases hs
      subst hn
      exact va_mabs_long hx hb hsz hown (hts _ w1) (hts _ w2) i0 (hts _ w3) hfr (Nat.le_trans (Nat.add_le_add_left (by decide) _) (room _ hg)) k1 k2 hdg (K H locs cells slots Ls hp)
    · cases hs
  · have hs : m_mth4 nx ls st h = some (.inl (pc', ls', st', h')) := hs
    unfold m_mth4 at hs
    split at hs
    · obtain ⟨hg, hs⟩ := m_cond_some hs
      cases hs
      subst hn
      exact va_mmax_long hx hb hsz hown (hts _ w1) (hts _ w2) i0 (hts _ w3) hfr (room _ hg) k1 k2 hdg (K H locs cells slots Ls hp)
    · cases hs
theorem m_call_no {nx z : Nat} {as r : List Value} {x : mS} (hs : m_call nx z as r = some (.inl x)) : False := by
  unfold m_call at hs
  cases hg : (Nat.ble (m_cat r) 8 && Nat.ble (m_cat as) (m_max z)) <;> rw [hg] at hs <;> cases hs
theorem m_ccall_no {b : Bool} {nx z : Nat} {as r : List Value} {x : mS} (hs : cond b (m_call nx z as r) none = some (.inl x)) : False := by
  cases b
  · cases hs
  · exact m_call_no hs
set_option maxHeartbeats 4000000 in
/-- a step that is no call and no end -/
theorem m_step {i : Instr} {w : Value} (hA : ∀ (at_ : ArrayType) (t : Nat), Cond.arrayClass (newarray.typeOf at_) ∈ m_tbl → ((t = 0 ∧ at_ = .int) ∨ (t = 1 ∧ at_ = .long) ∨ (t = 2 ∧ at_ = .boolean)) → s.vm.findClass ("[" ++ (newarray.typeOf at_).toString) = some (P.2.1 t))
    (hM : decode bs pc = .ok (.multianewarray 18 2, 4) → nm.cls = "FewerMan$Orders" → m_newm (pc + 4) ls st h = some (.inl (pc', ls', st', h')) → m_Ok P p l e R s m args below meth c mx nx0 us0 Q pc ls st h)
    (C : m_Cx P p R s m args meth c nm bs mx) (hdg : decode bs pc = .ok (i, len)) (ok : m_okI nm rt pc i nx ops w len) (hs : m_st1 i nx ops w ls st h = some (.inl (pc', ls', st', h'))) (hc : m_nx h' ≤ nx0 + R.cells) (hu : m_us h' ≤ us0 + R.slots) (K : m_Ok P p l e R s m args below meth c mx nx0 us0 Q pc' ls' st' h') : m_Ok P p l e R s m args below meth c mx nx0 us0 Q pc ls st h := by
  obtain ⟨hx, hb, hml, hown, hname, hts, hK, hP, hbase, hfr, hlo⟩ := id C
  cases i
  case iconst n =>
    obtain ⟨rfl, hn, rfl⟩ := ok
    exact s_push (fun _ => lv_iconst hx hb hdg rfl) hn hs K
  case bipush n =>
    obtain ⟨rfl, hn, rfl⟩ := ok
    exact s_push (fun _ => lv_bipush hx hb hdg rfl) hn hs K
  case sipush n =>
    obtain ⟨rfl, hn, rfl⟩ := ok
    exact s_push (fun _ => lv_sipush hx hb hdg rfl) hn hs K
  case lconst n =>
    obtain ⟨rfl, hn, rfl⟩ := ok
    exact s_push (fun _ => lv_lconst hx hb hdg rfl) hn hs K
  case ldc j =>
    obtain ⟨rfl, hn, ⟨x, rfl, h1⟩ | ⟨tx, a, rfl, ha, h1⟩⟩ := ok
    · exact s_push (fun _ => lv_ldc hx hb hown (hts _ h1) hdg) hn hs K
    · refine s_push (fun _ => ?_) hn hs K
      rw [m_mv_ref (Nat.ne_of_lt ha)]
      exact va_ldcS hx hb hown (hK.2.2.2.1 _ h1) hdg
  case ldc_w j =>
    obtain ⟨rfl, hn, x, rfl, h1⟩ := ok
    exact s_push (fun _ => lv_ldcw hx hb hown (hts _ h1) hdg) hn hs K
  case ldc2_w j =>
    obtain ⟨rfl, hn, x, rfl, h1⟩ := ok
    exact s_push (fun _ => lv_ldc2 hx hb hown (hts _ h1) hdg) hn hs K
  case getstatic j =>
    obtain ⟨rfl, hn, C9, n9, d9, h1, h2 | ⟨h2, rfl, rfl, rfl, rfl⟩⟩ := ok
    · exact s_push (fun hS => va_gets hx hb (hK.2.2.1 _ h1) hS hown (hts _ h2) (fun _ z => z) hdg) hn hs K
    · refine s_push (fun hS => va_getsN (host := "FewerMan") hx hb (hK.2.2.1 _ h1) hS hown ?_ (fun _ z => z) hdg) hn hs K
      rw [h2]
      exact va_Nw.use rfl hK.2.1.2.1
  case iload k =>
    obtain ⟨rfl, hn, rfl⟩ := ok
    exact s_ldi (fun h1 => lv_iload hx hb hdg h1) hn hs K
  case iload_n k =>
    obtain ⟨rfl, hn, rfl⟩ := ok
    exact s_ldi (fun h1 => lv_iload_n hx hb hdg rfl h1) hn hs K
  case lload k =>
    obtain ⟨rfl, hn, rfl⟩ := ok
    exact s_ldl (fun h1 => lv_lload hx hb hdg h1) hn hs K
  case lload_n k =>
    obtain ⟨rfl, hn, rfl⟩ := ok
    exact s_ldl (fun h1 => lv_lload_n hx hb hdg rfl h1) hn hs K
  case aload k =>
    obtain ⟨rfl, hn, rfl⟩ := ok
    exact s_lda hP (fun h1 => lv_aload hx hb hdg h1) (fun h1 => lv_aloadN hx hb hdg h1) hn hs K
  case aload_n k =>
    obtain ⟨rfl, hn, rfl⟩ := ok
    exact s_lda hP (fun h1 => lv_aload_n hx hb hdg rfl h1) (fun h1 => lv_aload_nN hx hb hdg rfl h1) hn hs K
  case istore k =>
    obtain ⟨rfl, hn, rfl⟩ := ok
    exact s_sti hP (fun h1 h2 h3 => lv_istore hx hb hdg h1 h2 rfl h3) hn hs K
  case istore_n k =>
    obtain ⟨rfl, hn, rfl⟩ := ok
    exact s_sti hP (fun h1 h2 h3 => lv_istore_n hx hb hdg rfl h1 h2 rfl h3) hn hs K
  case lstore k =>
    obtain ⟨rfl, hn, rfl⟩ := ok
    exact s_stl hP (fun h1 h2 h3 => lv_lstore hx hb hdg h1 h2 rfl h3) hn hs K
  case lstore_n k =>
    obtain ⟨rfl, hn, rfl⟩ := ok
    exact s_stl hP (fun h1 h2 h3 => lv_lstore_n hx hb hdg rfl h1 h2 rfl h3) hn hs K
  case astore k =>
    obtain ⟨rfl, hn, rfl⟩ := ok
    exact s_sta hP (fun h1 h2 h3 => lv_astore hx hb hdg h1 h2 rfl h3) (fun h1 h2 h3 => lv_astoreN hx hb hdg h1 h2 rfl h3) hn hs K
  case astore_n k =>
    obtain ⟨rfl, hn, rfl⟩ := ok
    exact s_sta hP (fun h1 h2 h3 => lv_astore_n hx hb hdg rfl h1 h2 rfl h3) (fun h1 h2 h3 => lv_astore_nN hx hb hdg rfl h1 h2 rfl h3) hn hs K
  case iinc k n =>
    obtain ⟨rfl, hn, rfl, rfl⟩ := ok
    simp only [m_st1, m_inc, m_nth_eq] at hs
    split at hs
    · rename_i x hx2
      cases hs
      subst hn
      have hk : k < ls.length := (List.getElem?_eq_some_iff.mp hx2).1
      intro H locs cells slots Ls hp
      obtain ⟨k9, hk9⟩ := List.getElem?_of_mem (m_prs_mem (P := P) hx2 (Or.inl rfl))
      exact lv_iinc (k := k9) hx hb hdg hp.2.1.has hk9 rfl (by rw [← hp.2.1.1]; exact hk) rfl (fun Ls' hl => K H locs cells slots Ls' ⟨hp.1, hp.2.1.set1 hP hk rfl hl, hp.2.2⟩)
    · cases hs
  case iadd => obtain ⟨rfl, hn⟩ := ok; exact s_bi (fun k => lv_iadd hx hb hdg k) hn hs K
  case isub => obtain ⟨rfl, hn⟩ := ok; exact s_bi (fun k => lv_isub hx hb hdg k) hn hs K
  case imul => obtain ⟨rfl, hn⟩ := ok; exact s_bi (fun k => lv_imul hx hb hdg k) hn hs K
  case iand => obtain ⟨rfl, hn⟩ := ok; exact s_bi (fun k => lv_iand hx hb hdg k) hn hs K
  case ior => obtain ⟨rfl, hn⟩ := ok; exact s_bi (fun k => lv_ior hx hb hdg k) hn hs K
  case ixor => obtain ⟨rfl, hn⟩ := ok; exact s_bi (fun k => lv_ixor hx hb hdg k) hn hs K
  case ishl => obtain ⟨rfl, hn⟩ := ok; exact s_bi (fun k => lv_ishl hx hb hdg k) hn hs K
  case ishr => obtain ⟨rfl, hn⟩ := ok; exact s_bi (fun k => lv_ishr hx hb hdg k) hn hs K
  case iushr => obtain ⟨rfl, hn⟩ := ok; exact s_bi (fun k => lv_iushr hx hb hdg rfl k) hn hs K
  case idiv => obtain ⟨rfl, hn⟩ := ok; exact s_bd (fun h1 k => lv_idiv hx hb hdg h1 k) hn hs K
  case irem => obtain ⟨rfl, hn⟩ := ok; exact s_bd (fun h1 k => lv_irem hx hb hdg h1 k) hn hs K
  case ineg => obtain ⟨rfl, hn⟩ := ok; exact s_ui (fun k => lv_ineg hx hb hdg k) hn hs K
  case i2c => obtain ⟨rfl, hn⟩ := ok; exact s_ui (fun k => lv_i2c hx hb hdg rfl k) hn hs K
  case ladd => obtain ⟨rfl, hn⟩ := ok; exact s_bl (fun k => lv_ladd hx hb hdg k) hn hs K
  case lmul => obtain ⟨rfl, hn⟩ := ok; exact s_bl (fun k => lv_lmul hx hb hdg k) hn hs K
  case ldiv => obtain ⟨rfl, hn⟩ := ok; exact s_bld (fun h1 k => lv_ldiv hx hb hdg h1 k) hn hs K
  case lrem => obtain ⟨rfl, hn⟩ := ok; exact s_bld (fun h1 k => lv_lrem hx hb hdg h1 k) hn hs K
  case lneg =>
    obtain ⟨rfl, hn⟩ := ok
    simp only [m_st1] at hs
    split at hs
    · cases hs; subst hn; exact fun H locs cells slots Ls hp => lv_lneg hx hb hdg (K H locs cells slots Ls hp)
    · cases hs
  case i2l =>
    obtain ⟨rfl, hn⟩ := ok
    simp only [m_st1] at hs
    split at hs
    · cases hs; subst hn; exact fun H locs cells slots Ls hp => lv_i2l hx hb hdg rfl (K H locs cells slots Ls hp)
    · cases hs
  case lcmp =>
    obtain ⟨rfl, hn⟩ := ok
    simp only [m_st1] at hs
    split at hs
    · cases hs; subst hn; exact fun H locs cells slots Ls hp => W.lcmp hx hb hdg (K H locs cells slots Ls hp)
    · cases hs
  case dup =>
    obtain ⟨rfl, hn⟩ := ok
    simp only [m_st1] at hs
    split at hs
    · cases hs; subst hn; exact fun H locs cells slots Ls hp => lv_dup hx hb hdg (m_mv_cat hP _) (K H locs cells slots Ls hp)
    · cases hs; subst hn; exact fun H locs cells slots Ls hp => lv_dup hx hb hdg (m_mv_cat hP _) (K H locs cells slots Ls hp)
    · cases hs; subst hn; exact fun H locs cells slots Ls hp => lv_dup hx hb hdg (m_mv_cat hP _) (K H locs cells slots Ls hp)
    · cases hs
  case dup2 =>
    obtain ⟨rfl, hn⟩ := ok
    simp only [m_st1] at hs
    split at hs
    · cases hs; subst hn; exact fun H locs cells slots Ls hp => lv_dup2_11 hx hb hdg (m_mv_cat hP _) (m_mv_cat hP _) (K H locs cells slots Ls hp)
    · cases hs; subst hn; exact fun H locs cells slots Ls hp => lv_dup2_11 hx hb hdg (m_mv_cat hP _) (m_mv_cat hP _) (K H locs cells slots Ls hp)
    · cases hs; subst hn; exact fun H locs cells slots Ls hp => lv_dup2_2 hx hb hdg (m_mv_cat hP _) (K H locs cells slots Ls hp)
    · cases hs
  case pop =>
    obtain ⟨rfl, hn⟩ := ok
    simp only [m_st1] at hs
    split at hs
    · cases hs; subst hn; exact fun H locs cells slots Ls hp => lv_pop hx hb hdg (m_mv_cat hP _) (K H locs cells slots Ls hp)
    · cases hs
  case pop2 =>
    obtain ⟨rfl, hn⟩ := ok
    simp only [m_st1] at hs
    split at hs
    · cases hs; subst hn; exact fun H locs cells slots Ls hp => lv_pop2_2 hx hb hdg (m_mv_cat hP _) (K H locs cells slots Ls hp)
    · cases hs
  case ifCond cnd o => obtain ⟨rfl, hn, t, rfl, ht⟩ := ok; exact s_ifi C hdg hn ht hs K
  case if_icmp cnd o => obtain ⟨rfl, hn, t, rfl, ht⟩ := ok; exact s_ifc C hdg hn ht hs K
  case ifnull o => obtain ⟨rfl, hn, t, rfl, ht⟩ := ok; exact s_ifnull C hdg hn ht hs K
  case ifnonnull o => obtain ⟨rfl, hn, t, rfl, ht⟩ := ok; exact s_ifnonnull C hdg hn ht hs K
  case goto o => obtain ⟨rfl, t, rfl, ht⟩ := ok; exact s_goto C hdg ht hs K
  case tableswitch d lo hi offs => obtain ⟨t, ts, rfl, ht, hts2⟩ := ok; exact s_tsw C hdg ht hts2 hs K
  case lookupswitch d ps => obtain ⟨rfl, hps⟩ := ok; exact s_lsw C hdg hps hs K
  case getfield j => obtain ⟨rfl, hn, ci, k, rfl, hw⟩ := ok; exact s_getf C hdg hn hw hs K
  case putfield j => obtain ⟨rfl, hn, ci, k, tc, q, rfl, hq, hk, hl, hfin, ty, hty, htc⟩ := ok; exact s_putf C hdg hn hq hk hl hfin hty htc hs K
  case arraylength => obtain ⟨rfl, hn⟩ := ok; exact s_alen C hdg hn hs K
  case iaload => obtain ⟨rfl, hn⟩ := ok; exact s_iald C hdg hn hs K
  case baload => obtain ⟨rfl, hn⟩ := ok; exact s_bald C hdg hn hs K
  case laload => obtain ⟨rfl, hn⟩ := ok; exact s_lald C hdg hn hs K
  case aaload => obtain ⟨rfl, hn⟩ := ok; exact s_aald C hdg hn hs K
  case iastore => obtain ⟨rfl, hn⟩ := ok; exact s_iast C hdg hn hs K
  case bastore => obtain ⟨rfl, hn⟩ := ok; exact s_bast C hdg hn hs K
  case lastore => obtain ⟨rfl, hn⟩ := ok; exact s_last C hdg hn hs K
  case newarray at_ =>
    obtain ⟨rfl, hn, ht, hw⟩ := ok
    rcases ht with ⟨rfl, rfl⟩ | ⟨rfl, rfl⟩ | ⟨rfl, rfl⟩
    · exact s_newa C hdg hn rfl hw (hA .int 0 hw (Or.inl ⟨rfl, rfl⟩)) (fun _ _ => rfl) (by decide) hs hc hu K
    · exact s_newa C hdg hn rfl hw (hA .long 1 hw (Or.inr (Or.inl ⟨rfl, rfl⟩))) (fun _ _ => rfl) (by decide) hs hc hu K
    · exact s_newa C hdg hn rfl hw (hA .boolean 2 hw (Or.inr (Or.inr ⟨rfl, rfl⟩))) (fun _ _ => rfl) (by decide) hs hc hu K
  case new j => obtain ⟨rfl, hn, ci, q, rfl, hq, w1, w2, w3⟩ := ok; exact s_newo C hdg hn hq w1 w2 w3 hs hc hu K
  case multianewarray j k =>
    obtain ⟨rfl, hn, rfl, hcls, rfl⟩ := ok
    subst hn
    exact hM hdg hcls hs
  case invokestatic j =>
    obtain ⟨rfl, hn, ⟨k, rfl, w0, hk⟩ | ⟨rfl, w1, w2, w3, w4⟩ | ⟨z, n, q, rfl, -⟩⟩ := ok
    · exact s_math C hdg hn w0 hk hs K (fun H locs cells slots Ls hp => by
        have g1 := hp.2.2.2.1
        have g2 := hp.2.2.2.2
        have g3 : h' = h := m_mth_h (show m_mth nx ls st h _ = _ from hs)
        subst g3
        exact ⟨by omega, by omega⟩)
    · exact s_copy C hdg hn w1 w2 w3 w4 hs K
    · simp only [m_st1, m_invs] at hs
      exact (m_ccall_no hs).elim
  case invokespecial j =>
    obtain ⟨rfl, hn, ⟨rfl, w1, w2, w3⟩ | ⟨z, n, q, rfl, -⟩⟩ := ok
    · exact s_obj C hdg hn w1 w2 w3 hs K
    · simp only [m_st1, m_invi] at hs
      split at hs
      · exact (m_ccall_no hs).elim
      · cases hs
  case invokevirtual j =>
    simp only [m_st1, m_inv] at hs
    split at hs
    · split at hs
      · split at hs
        · exact (m_ccall_no hs).elim
        · cases hs
      · cases hs
    · cases hs
  case ireturn =>
    simp only [m_st1, m_ret] at hs
    split at hs
    · rename_i k x
      cases hg : m_rok k x <;> rw [hg] at hs <;> cases hs
    · cases hs
  case lreturn =>
    simp only [m_st1] at hs
    split at hs <;> cases hs
  case return_ =>
    simp only [m_st1] at hs
    split at hs <;> cases hs
  all_goals exact ok.elim
end CtlLaws
