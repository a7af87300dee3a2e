/-! By program (wip/whole/book*.py) and hand. -/
theorem sw_ne {x v : Int32} {n : Int} (hv : v.toInt = n) (h : ¬ x = v) : ¬ n = x.toInt := fun z => h (Int32.toInt_inj.mp (by rw [hv, z]))
section
variable {d y pc nx : Nat} {w : Value} {ls : mL} {r : List Value} {h : mH} {Q : Option Value → mH → Prop} {x : Int32}
theorem mT_lswc {dd : Int} {ps : Array (Int × Int)} {p0 : Nat} {v : Int32} {t : Nat} (hc : m_cd y pc = some (.lookupswitch dd ps, nx, [p0], w)) (ht : (p0 : Int) + Op.lookupswitch.offset ps.toList dd v.toInt = t) (k1 : x = v → mT0 d y t ls r h Q) (k2 : ¬ x = v → mT0 d y pc ls (.int x :: r) h Q) : mT0 d y pc ls (.int x :: r) h Q := by
  by_cases e : x = v
  · refine mT_s hc ?_ (k1 e)
    show m_lsw [p0] ls (.int x :: r) h dd ps = _
    unfold m_lsw
    dsimp only
    rw [e, ht, decide_eq_true (by omega)]
    rfl
  · exact k2 e
theorem mT_lswd {dd : Int} {ps : Array (Int × Int)} {p0 : Nat} {t : Nat} (hc : m_cd y pc = some (.lookupswitch dd ps, nx, [p0], w)) (ht : (p0 : Int) + Op.lookupswitch.offset ps.toList dd x.toInt = t) (k : mT0 d y t ls r h Q) : mT0 d y pc ls (.int x :: r) h Q := by
  refine mT_s hc ?_ k
  show m_lsw [p0] ls (.int x :: r) h dd ps = _
  unfold m_lsw
  dsimp only
  rw [ht, decide_eq_true (by omega)]
  rfl
theorem mT_tswc {dd : Int} {lo hi : Int} {arr : Array Int} {t0 : Nat} {ts : List Nat} {v : Int32} {t : Nat} (hc : m_cd y pc = some (.tableswitch dd lo hi arr, nx, t0 :: ts, w)) (hv : decide (v.toInt < lo ∨ hi < v.toInt) = false) (ht : m_nth ts (v.toInt - lo).toNat = some t) (k1 : x = v → mT0 d y t ls r h Q) (k2 : ¬ x = v → mT0 d y pc ls (.int x :: r) h Q) : mT0 d y pc ls (.int x :: r) h Q := by
  by_cases e : x = v
  · refine mT_s hc ?_ (k1 e)
    show m_tsw (t0 :: ts) ls (.int x :: r) h lo hi = _
    unfold m_tsw
    dsimp only
    rw [e, hv, ht]
    rfl
  · exact k2 e
theorem mT_tswd {dd : Int} {lo hi : Int} {arr : Array Int} {t0 : Nat} {ts : List Nat} (hc : m_cd y pc = some (.tableswitch dd lo hi arr, nx, t0 :: ts, w)) (hx : x.toInt < lo ∨ hi < x.toInt) (k : mT0 d y t0 ls r h Q) : mT0 d y pc ls (.int x :: r) h Q := by
  refine mT_s hc ?_ k
  show m_tsw (t0 :: ts) ls (.int x :: r) h lo hi = _
  unfold m_tsw
  dsimp only
  rw [decide_eq_true hx]
  rfl
end
/-- the rest of a word -/
def pSpk (g f : Nat → Int32) : Nat → Nat → Nat → Bool × Nat
  | 0, _, p => (true, p)
  | r + 1, k, p => if g p = f k then pSpk g f r (k + 1) (p + 1) else (false, p)
def pMuch (g f : Nat → Int32) (n p : Nat) (b : Bool) : pR :=
  if (pSpk g f n 0 p).1 = true then (if (pNum g (pSpk g f n 0 p).2).1 = true then (if g (pNum g (pSpk g f n 0 p).2).2.1 = 32 then
    ((pSo (pF g 5) g ((pNum g (pSpk g f n 0 p).2).2.1 + 1)).1, (pSo (pF g 5) g ((pNum g (pSpk g f n 0 p).2).2.1 + 1)).2.1, (pSo (pF g 5) g ((pNum g (pSpk g f n 0 p).2).2.1 + 1)).2.2 ++ [.inr (.inr (b, (pNum g (pSpk g f n 0 p).2).2.2))])
    else (false, (pNum g (pSpk g f n 0 p).2).2.1, [])) else (false, (pNum g (pSpk g f n 0 p).2).2.1, [])) else (false, (pSpk g f n 0 p).2, [])
def pTell (g f : Nat → Int32) (n p : Nat) : Bool × Nat × Nat := if (pSpk g f n 0 p).1 = true then pNum g (pSpk g f n 0 p).2 else (false, (pSpk g f n 0 p).2, 0)
theorem pSpk_ok {g f : Nat → Int32} {e : Nat} (h : gOk g e) : ∀ {r k p : Nat}, (∀ j, j < k + r → ¬ f j = -1) → p ≤ (pSpk g f r k p).2 ∧ (p ≤ e → (pSpk g f r k p).2 ≤ e) ∧ ((pSpk g f r k p).1 = true → p + r = (pSpk g f r k p).2)
  | 0, k, p, _ => ⟨Nat.le_refl _, fun z => z, fun _ => rfl⟩
  | r + 1, k, p, hf => by
    unfold pSpk
    split
    · rename_i z
      have a := h.lt z (hf k (by omega))
      obtain ⟨b1, b2, b3⟩ := pSpk_ok h (r := r) (k := k + 1) (p := p + 1) (fun j hj => hf j (by omega))
      exact ⟨by omega, fun _ => b2 (by omega), fun z => by have := b3 z; omega⟩
    · exact ⟨Nat.le_refl _, fun z => z, fun z => absurd (show false = true from z) (by decide)⟩
theorem e_spells_w (d : Nat) (s : Nat → Int32) (o t : Nat) (pd bw : Int64) (Q : Option Value → mH → Prop) (e : Nat) (t1 b n : Nat) (f : Nat → Int32) (h20 : Nat.ble (b + 1) 20 = true) (t20 : Nat.ble 1 t1 = true) (hn : n < 100) (hf : ∀ j, j < n → ∃ c : Nat, c < 128 ∧ f j = nI c) (t76 : t1 ≠ 76) (t77 : t1 ≠ 77)  : ∀ (r k : Nat) (h : mH) (i : Nat → Int32) (p : Nat), k + r = n → rC h i s o t pd bw e p true → h t1 = .inr (11, [.ref b, .int 0]) → h b = .inl (4, n, .inl f) → (∀ h2 i2, rZ h i o t pd bw h2 i2 s p true → Q none h2) → mT0 (d + 4) z_X10_spells 2 [some (.ref 76), some (.ref t1), some (.int (nI k))] [] h Q := by
  have h76b : b ≠ 76 := fun z => by subst z; cases h20
  have h77b : b ≠ 77 := fun z => by subst z; cases h20
  have h76a : t1 ≠ 76 := t76
  have h77a : t1 ≠ 77 := t77
  intro r
  induction r with
  | zero =>
    intro k h i p hk hc ht hb K
    obtain ⟨hM, h77, hN, ix1, h7, h8, he, hpe⟩ := id hc
    iterate 2 refine mT_s rfl rfl ?_
    (apply mT_inv; (case hc => rfl); (case hd => rfl); (case hb => first | rfl | assumption); (case hg => rfl))
    refine e_length _ h _ t1 b n f ht hb h20 t20 hn ?_
    refine mT_icmp_ge rfl (fun _ => ?_) (fun c => absurd (nI_le (a := n) (b := k) (by omega) (by omega)) c)
    refine mT_ret rfl rfl ?_
    exact K h i hc.z
  | succ r ih =>
    intro k h i p hk hc ht hb K
    obtain ⟨hM, h77, hN, ix1, h7, h8, he, hpe⟩ := id hc
    iterate 2 refine mT_s rfl rfl ?_
    (apply mT_inv; (case hc => rfl); (case hd => rfl); (case hb => first | rfl | assumption); (case hg => rfl))
    refine e_length _ h _ t1 b n f ht hb h20 t20 hn ?_
    refine mT_icmp_ge rfl (fun c => absurd c (nI_ge (a := k) (b := n) (by omega) (by omega))) (fun _ => ?_)
    iterate 3 refine mT_s rfl rfl ?_
    (apply mT_inv; (case hc => rfl); (case hd => rfl); (case hb => first | rfl | assumption); (case hg => rfl))
    obtain ⟨c, hc9, hfc⟩ := hf k (by omega)
    refine e_charAt _ h _ t1 b n f ht hb h20 t20 k (by omega) hn c hc9 hfc ?_
    (apply mT_inv; (case hc => rfl); (case hd => rfl); (case hb => first | rfl | assumption); (case hg => rfl))
    refine e_must_w _ h s i o t pd bw _ e p _ hc (fun h3 i3 z3 => ?_)
    obtain ⟨hM3, h773, hN3, -, -, -, -, -⟩ := id (z3.c hc hpe)
    iterate 2 refine mT_s rfl rfl ?_
    rw [nI_1]
    exact ih (k + 1) h3 i3 p (by omega) (z3.c hc hpe) ((z3.1 t1 h76a h77a).trans ht) ((z3.1 b h76b h77b).trans hb) (fun h4 i4 z4 => K h4 i4 (z3.tr z4))
theorem e_spells_L (d : Nat) (s : Nat → Int32) (o t : Nat) (pd bw : Int64) (Q : Option Value → mH → Prop) (e : Nat) (t1 b n : Nat) (f : Nat → Int32) (h20 : Nat.ble (b + 1) 20 = true) (t20 : Nat.ble 1 t1 = true) (hn : n < 100) (hf : ∀ j, j < n → ∃ c : Nat, c < 128 ∧ f j = nI c) (t76 : t1 ≠ 76) (t77 : t1 ≠ 77)  : ∀ (r k : Nat) (h : mH) (i : Nat → Int32) (p : Nat), k + r = n → rC h i s o t pd bw e p false → h t1 = .inr (11, [.ref b, .int 0]) → h b = .inl (4, n, .inl f) → (∀ h2 i2, rZ h i o t pd bw h2 i2 s (pSpk (sg s e) f r k p).2 (!(pSpk (sg s e) f r k p).1) → Q none h2) → mT0 (d + 4) z_X10_spells 2 [some (.ref 76), some (.ref t1), some (.int (nI k))] [] h Q := by
  have h76b : b ≠ 76 := fun z => by subst z; cases h20
  have h77b : b ≠ 77 := fun z => by subst z; cases h20
  have h76a : t1 ≠ 76 := t76
  have h77a : t1 ≠ 77 := t77
  intro r
  induction r with
  | zero =>
    intro k h i p hk hc ht hb K
    obtain ⟨hM, h77, hN, ix1, h7, h8, he, hpe⟩ := id hc
    iterate 2 refine mT_s rfl rfl ?_
    (apply mT_inv; (case hc => rfl); (case hd => rfl); (case hb => first | rfl | assumption); (case hg => rfl))
    refine e_length _ h _ t1 b n f ht hb h20 t20 hn ?_
    refine mT_icmp_ge rfl (fun _ => ?_) (fun c => absurd (nI_le (a := n) (b := k) (by omega) (by omega)) c)
    refine mT_ret rfl rfl ?_
    exact K h i hc.z
  | succ r ih =>
    intro k h i p hk hc ht hb K
    obtain ⟨hM, h77, hN, ix1, h7, h8, he, hpe⟩ := id hc
    iterate 2 refine mT_s rfl rfl ?_
    (apply mT_inv; (case hc => rfl); (case hd => rfl); (case hb => first | rfl | assumption); (case hg => rfl))
    refine e_length _ h _ t1 b n f ht hb h20 t20 hn ?_
    refine mT_icmp_ge rfl (fun c => absurd c (nI_ge (a := k) (b := n) (by omega) (by omega))) (fun _ => ?_)
    iterate 3 refine mT_s rfl rfl ?_
    (apply mT_inv; (case hc => rfl); (case hd => rfl); (case hb => first | rfl | assumption); (case hg => rfl))
    obtain ⟨c, hc9, hfc⟩ := hf k (by omega)
    refine e_charAt _ h _ t1 b n f ht hb h20 t20 k (by omega) hn c hc9 hfc ?_
    (apply mT_inv; (case hc => rfl); (case hd => rfl); (case hb => first | rfl | assumption); (case hg => rfl))
    rw [← hfc]
    refine e_must _ h s i o t pd bw _ e p _ hc (fun hm h3 i3 z3 => ?_) (fun hm h3 i3 z3 => ?_)
    · have hp1 : p + 1 ≤ e := (sg_ok s e).lt hm (by rw [hfc]; exact nI_nm (by omega))
      obtain ⟨hM3, h773, hN3, -, -, -, -, -⟩ := id (z3.c hc hp1)
      iterate 2 refine mT_s rfl rfl ?_
      rw [nI_1]
      unfold pSpk at K
      rw [if_pos hm] at K
      exact ih (k + 1) h3 i3 (p + 1) (by omega) (z3.c hc hp1) ((z3.1 t1 h76a h77a).trans ht) ((z3.1 b h76b h77b).trans hb) (fun h4 i4 z4 => K h4 i4 (z3.tr z4))
    · obtain ⟨hM3, h773, hN3, -, -, -, -, -⟩ := id (z3.c hc hpe)
      iterate 2 refine mT_s rfl rfl ?_
      rw [nI_1]
      unfold pSpk at K
      rw [if_neg hm] at K
      exact e_spells_w d s o t pd bw Q e t1 b n f h20 t20 hn hf t76 t77 r (k + 1) h3 i3 p (by omega) (z3.c hc hpe) ((z3.1 t1 h76a h77a).trans ht) ((z3.1 b h76b h77b).trans hb) (fun h4 i4 z4 => K h4 i4 (z3.tr z4))