/-! By program (wip/whole/book*.py) and hand. -/
theorem mT_retc {d y pc nx k : Nat} {w : Value} {ls : mL} {x : Int32} {h : mH} {Q : Option Value → mH → Prop} (hc : m_cd y pc = some (.ireturn, nx, [k], w)) (hr : m_rok k x = true) (K : Q (some (.int x)) h) : mT0 d y pc ls [.int x] h Q := by
  refine mT_ret hc ?_ K
  show cond (m_rok k x) _ _ = _
  rw [hr]
  rfl
theorem char_ok {c : Nat} (h : c < 128) : ((nI c &&& 255).toUInt32 % 65536).toInt32 = nI c ∧ m_rok 2 (nI c) = true := by
  have h9 : ∀ c : Fin 128, ((nI c &&& 255).toUInt32 % 65536).toInt32 = nI c ∧ m_rok 2 (nI c) = true := by decide +kernel
  exact h9 ⟨c, h⟩
theorem mT_baldK4 {d y pc nx a k n : Nat} {w : Value} {ls : mL} {r : List Value} {h : mH} {Q : Option Value → mH → Prop} {i : Int32} {f : Nat → Int32} (hc : m_cd y pc = some (.baload, nx, [], w)) (ha : h a = .inl (4, n, .inl f)) (hk : i = nI k) (hlt : k < n) (hn : n ≤ 100000) (h20 : Nat.ble (a + 1) 20 = true) (K : mT0 d y nx ls (.int (f k) :: r) h Q) : mT0 d y pc ls (.int i :: .ref a :: r) h Q := by
  subst hk
  refine mT_bald4 hc ha (m_in_nI hlt hn) h20 ?_
  rw [nI_clamp (by omega)]
  exact K
theorem e_coder (d : Nat) (h : mH) (Q : Option Value → mH → Prop) (t b n : Nat) (f : Nat → Int32) (ht : h t = .inr (11, [.ref b, .int 0])) (hb : h b = .inl (4, n, .inl f)) (h20 : Nat.ble (b + 1) 20 = true) (t20 : Nat.ble 1 t = true)  (K : Q (some (.int 0)) h) : mT0 d z_J0_coder_7d493 0 (m_init z_J0_coder_7d493 [.ref t]) [] h Q := by
  refine mT_s rfl rfl ?_
  refine mT_if_eq rfl (fun c => absurd c (by decide)) (fun _ => ?_)
  refine mT_s rfl rfl ?_
  (apply mT_getf; (case hc => rfl); (case ha => first | rfl | assumption); (case hf => first | rfl | assumption))
  refine mT_s rfl rfl ?_
  refine mT_ret rfl rfl ?_
  exact K

theorem e_isLatin1 (d : Nat) (h : mH) (Q : Option Value → mH → Prop) (t b n : Nat) (f : Nat → Int32) (ht : h t = .inr (11, [.ref b, .int 0])) (hb : h b = .inl (4, n, .inl f)) (h20 : Nat.ble (b + 1) 20 = true) (t20 : Nat.ble 1 t = true)  (K : Q (some (.int 1)) h) : mT0 d z_J0_isLatin1_aae02 0 (m_init z_J0_isLatin1_aae02 [.ref t]) [] h Q := by
  refine mT_s rfl rfl ?_
  refine mT_if_eq rfl (fun c => absurd c (by decide)) (fun _ => ?_)
  refine mT_s rfl rfl ?_
  (apply mT_getf; (case hc => rfl); (case ha => first | rfl | assumption); (case hf => first | rfl | assumption))
  refine mT_if_ne rfl (fun c => absurd rfl c) (fun _ => ?_)
  iterate 2 refine mT_s rfl rfl ?_
  refine mT_ret rfl rfl ?_
  exact K

theorem e_length (d : Nat) (h : mH) (Q : Option Value → mH → Prop) (t b n : Nat) (f : Nat → Int32) (ht : h t = .inr (11, [.ref b, .int 0])) (hb : h b = .inl (4, n, .inl f)) (h20 : Nat.ble (b + 1) 20 = true) (t20 : Nat.ble 1 t = true)  (hn : n < 100) (K : Q (some (.int (nI n))) h) : mT0 (d + 1) z_J0_length_8abf5 0 (m_init z_J0_length_8abf5 [.ref t]) [] h Q := by
  refine mT_s rfl rfl ?_
  (apply mT_getf; (case hc => rfl); (case ha => first | rfl | assumption); (case hf => first | rfl | assumption))
  (apply mT_alen4; (case hc => rfl); (case ha => assumption); (case h20 => assumption))
  refine mT_s rfl rfl ?_
  (apply mT_inv; (case hc => rfl); (case hd => rfl); (case hb => first | rfl | assumption); (case hg => rfl))
  refine e_coder _ h _ t b n f ht hb h20 t20 ?_
  have e9 : nI n >>> (0 &&& 31) = nI n := by
    have := sh_n (j := n) (n := 0) (by omega) (by omega)
    rw [Nat.pow_zero, Nat.div_one] at this
    exact this
  refine mT_s rfl rfl ?_
  refine mT_ret rfl rfl ?_
  show Q (some (.int (nI n >>> (0 &&& 31)))) h
  rw [e9]
  exact K

theorem e_chk3 (d : Nat) (h : mH) (Q : Option Value → mH → Prop)  (k n : Nat) (hk : k < n) (hn : n < 100) (K : Q (some (.int (nI k))) h) : mT0 d z_J3_checkIndex_8e157 0 (m_init z_J3_checkIndex_8e157 [.int (nI k), .int (nI n), .ref 19]) [] h Q := by
  refine mT_s rfl rfl ?_
  refine mT_if_lt rfl (fun c => absurd c (nI_pos (by omega))) (fun _ => ?_)
  iterate 2 refine mT_s rfl rfl ?_
  refine mT_icmp_lt rfl (fun _ => ?_) (fun c => absurd (nI_lt hk (by omega)) c)
  refine mT_s rfl rfl ?_
  refine mT_ret rfl rfl ?_
  exact K

theorem e_chk (d : Nat) (h : mH) (Q : Option Value → mH → Prop)  (k n : Nat) (hk : k < n) (hn : n < 100) (K : Q none h) : mT0 (d + 1) z_J0_checkIndex_df160 0 (m_init z_J0_checkIndex_df160 [.int (nI k), .int (nI n)]) [] h Q := by
  iterate 3 refine mT_s rfl rfl ?_
  refine mT_c rfl rfl ?_
  refine e_chk3 _ h _ k n hk hn ?_
  refine mT_s rfl rfl ?_
  refine mT_ret rfl rfl ?_
  exact K

theorem e_charAt1 (d : Nat) (h : mH) (Q : Option Value → mH → Prop) (t b n : Nat) (f : Nat → Int32) (ht : h t = .inr (11, [.ref b, .int 0])) (hb : h b = .inl (4, n, .inl f)) (h20 : Nat.ble (b + 1) 20 = true) (t20 : Nat.ble 1 t = true)  (k : Nat) (hk : k < n) (hn : n < 100) (c : Nat) (hc : c < 128) (hf : f k = nI c) (K : Q (some (.int (nI c))) h) : mT0 (d + 2) z_J1_charAt_3b067 0 (m_init z_J1_charAt_3b067 [.ref b, .int (nI k)]) [] h Q := by
  iterate 2 refine mT_s rfl rfl ?_
  (apply mT_alen4; (case hc => rfl); (case ha => assumption); (case h20 => assumption))
  refine mT_c rfl rfl ?_
  refine e_chk _ h _ k n hk hn ?_
  iterate 2 refine mT_s rfl rfl ?_
  (apply mT_baldK4; (case hc => rfl); (case ha => assumption); (case hk => rfl); (case hlt => assumption); (case hn => omega); (case h20 => assumption))
  rw [hf]
  iterate 3 refine mT_s rfl rfl ?_
  simp only [(char_ok hc).1]
  exact mT_retc rfl (char_ok hc).2 K
  

theorem e_charAt (d : Nat) (h : mH) (Q : Option Value → mH → Prop) (t b n : Nat) (f : Nat → Int32) (ht : h t = .inr (11, [.ref b, .int 0])) (hb : h b = .inl (4, n, .inl f)) (h20 : Nat.ble (b + 1) 20 = true) (t20 : Nat.ble 1 t = true)  (k : Nat) (hk : k < n) (hn : n < 100) (c : Nat) (hc : c < 128) (hf : f k = nI c) (K : Q (some (.int (nI c))) h) : mT0 (d + 3) z_J0_charAt_5068e 0 (m_init z_J0_charAt_5068e [.ref t, .int (nI k)]) [] h Q := by
  refine mT_s rfl rfl ?_
  (apply mT_inv; (case hc => rfl); (case hd => rfl); (case hb => first | rfl | assumption); (case hg => rfl))
  refine e_isLatin1 _ h _ t b n f ht hb h20 t20 ?_
  iterate 2 refine mT_s rfl rfl ?_
  (apply mT_getf; (case hc => rfl); (case ha => first | rfl | assumption); (case hf => first | rfl | assumption))
  refine mT_s rfl rfl ?_
  refine mT_c rfl rfl ?_
  refine e_charAt1 _ h _ t b n f ht hb h20 t20 k hk hn c hc hf ?_
  exact mT_retc rfl (char_ok hc).2 K
  

def sg (s : Nat → Int32) (e : Nat) : Nat → Int32 := fun p => if p < e then s (74 + p) else -1
theorem sg_ok (s : Nat → Int32) (e : Nat) : gOk (sg s e) e := fun p hp => if_neg (by omega)
/-- the reader stands at p, all right or not -/
def rC (h : mH) (i s : Nat → Int32) (o t : Nat) (pd bw : Int64) (e p : Nat) (w : Bool) : Prop := h 76 = .inr (10, mObj i o t pd bw) ∧ h 77 = .inl (0, 889, .inl s) ∧ 87 ≤ m_nx h ∧ i 6 = nI p ∧ i 7 = nI e ∧ i 8 = bI w ∧ e ≤ 100 ∧ p ≤ e
def rZ (h : mH) (i : Nat → Int32) (o t : Nat) (pd bw : Int64) (h2 : mH) (i2 s2 : Nat → Int32) (p : Nat) (w : Bool) : Prop := (∀ a, a ≠ 76 → a ≠ 77 → h2 a = h a) ∧ h2 76 = .inr (10, mObj i2 o t pd bw) ∧ h2 77 = .inl (0, 889, .inl s2) ∧ i2 6 = nI p ∧ i2 8 = bI w ∧ ∀ j, j ≠ 6 → j ≠ 8 → i2 j = i j
section
variable {h h2 h3 : mH} {i s i2 s2 i3 s3 : Nat → Int32} {o t : Nat} {pd bw : Int64} {e p p2 p3 : Nat} {w w2 w3 : Bool}
theorem rZ.nx (z : rZ h i o t pd bw h2 i2 s2 p2 w2) : m_nx h2 = m_nx h := by
  unfold m_nx
  rw [z.1 0 (by decide) (by decide)]
theorem rZ.tr (a : rZ h i o t pd bw h2 i2 s2 p2 w2) (b : rZ h2 i2 o t pd bw h3 i3 s3 p3 w3) : rZ h i o t pd bw h3 i3 s3 p3 w3 := ⟨fun k x y => (b.1 k x y).trans (a.1 k x y), b.2.1, b.2.2.1, b.2.2.2.1, b.2.2.2.2.1, fun j x y => (b.2.2.2.2.2 j x y).trans (a.2.2.2.2.2 j x y)⟩
theorem rC.z (c : rC h i s o t pd bw e p w) : rZ h i o t pd bw h i s p w := ⟨fun _ _ _ => rfl, c.1, c.2.1, c.2.2.2.1, c.2.2.2.2.2.1, fun _ _ _ => rfl⟩
theorem rZ.c (c : rC h i s o t pd bw e p w) (z : rZ h i o t pd bw h2 i2 s2 p2 w2) (hp : p2 ≤ e) : rC h2 i2 s2 o t pd bw e p2 w2 := ⟨z.2.1, z.2.2.1, by rw [z.nx]; exact c.2.2.1, z.2.2.2.1, (z.2.2.2.2.2 7 (by decide) (by decide)).trans c.2.2.2.2.1, z.2.2.2.2.1, c.2.2.2.2.2.2.1, hp⟩
theorem rZ.f5 (z : rZ h i o t pd bw h2 i2 s2 p2 w2) : i2 5 = i 5 := z.2.2.2.2.2 5 (by decide) (by decide)
theorem rZ.f9 (z : rZ h i o t pd bw h2 i2 s2 p2 w2) : i2 9 = i 9 := z.2.2.2.2.2 9 (by decide) (by decide)
end
/-- the fixed rows -/
def hS (L : Nat) (xs : Nat → Int32) (h : mH) : Prop := ∀ a, 2 ≤ a → a < 20 → h a = k_hc L xs a
theorem hS.z {L : Nat} {xs : Nat → Int32} {h h2 : mH} {i : Nat → Int32} {o t : Nat} {pd bw : Int64} {i2 s2 : Nat → Int32} {p2 : Nat} {w2 : Bool} (a : hS L xs h) (z : rZ h i o t pd bw h2 i2 s2 p2 w2) : hS L xs h2 := fun k h1 h2 => (z.1 k (by omega) (by omega)).trans (a k h1 h2)
theorem e_here (d : Nat) (h : mH) (s i : Nat → Int32) (o t : Nat) (pd bw : Int64) (Q : Option Value → mH → Prop) (e p : Nat)  (w : Bool) (hc : rC h i s o t pd bw e p w) (K : Q (some (.int (sg s e p))) h) : mT0 d z_X10_here 0 (m_init z_X10_here [.ref 76]) [] h Q := by
  obtain ⟨hM, h77, hN, ix1, h7, h8, he, hpe⟩ := id hc

  refine mT_s rfl rfl ?_
  (apply mT_getf; (case hc => rfl); (case ha => first | rfl | assumption); (case hf => first | rfl | assumption))
  refine mT_s rfl rfl ?_
  (apply mT_getf; (case hc => rfl); (case ha => first | rfl | assumption); (case hf => first | rfl | assumption))
  refine mT_icmp_ge rfl (fun c8 => ?_) (fun c8 => ?_)
  · rw [ix1, h7] at c8
    have c8 : ¬ p < e := fun z => nI_ge z (by omega) c8
    refine mT_s rfl rfl ?_
    refine mT_ret rfl rfl ?_
    unfold sg at K
    rw [if_neg c8] at K
    exact K
  · rw [ix1, h7] at c8
    have c8 : p < e := (nI_ltI (by omega) (by omega)).mp (Int32.not_le.mp c8)
    refine mT_s rfl rfl ?_
    (apply mT_getf; (case hc => rfl); (case ha => first | rfl | assumption); (case hf => first | rfl | assumption))
    iterate 2 refine mT_s rfl rfl ?_
    (apply mT_getf; (case hc => rfl); (case ha => first | rfl | assumption); (case hf => first | rfl | assumption))
    refine mT_s rfl rfl ?_
    (apply mT_ialdK; (case hc => rfl); (case ha => first | rfl | assumption); (case hk => first | (simp only [ki_0, ki_1, ki_2, ki_3, ki_4, ki_5, ki_6, ki_7, ki_8, ki_9, ki_10, ki_11, ki_12, ki_17, ki_20, ki_21, ki_22, ki_42, ki_50, ki_58, ki_66, ki_74, ki_140, ki_174, ki_179, ki_184, ki_189, ki_441, nI_add, pk_mul]; with_reducible rfl) | (simp only [ki_0, ki_1, ki_2, ki_3, ki_4, ki_5, ki_6, ki_7, ki_8, ki_9, ki_10, ki_11, ki_12, ki_17, ki_20, ki_21, ki_22, ki_42, ki_50, ki_58, ki_66, ki_74, ki_140, ki_174, ki_179, ki_184, ki_189, ki_441, ix1, nI_add, pk_mul]; with_reducible rfl) | (simp only [ki_0, ki_1, ki_2, ki_3, ki_4, ki_5, ki_6, ki_7, ki_8, ki_9, ki_10, ki_11, ki_12, ki_17, ki_20, ki_21, ki_22, ki_42, ki_50, ki_58, ki_66, ki_74, ki_140, ki_174, ki_179, ki_184, ki_189, ki_441, ix1, ix2, nI_add, pk_mul]; with_reducible rfl) | (simp only [ki_0, ki_1, ki_2, ki_3, ki_4, ki_5, ki_6, ki_7, ki_8, ki_9, ki_10, ki_11, ki_12, ki_17, ki_20, ki_21, ki_22, ki_42, ki_50, ki_58, ki_66, ki_74, ki_140, ki_174, ki_179, ki_184, ki_189, ki_441, ix1, ix2, ix3, nI_add, pk_mul]; with_reducible rfl) | (simp (disch := omega) only [upd_n, ki_0, ki_1, ki_2, ki_3, ki_4, ki_5, ki_6, ki_7, ki_8, ki_9, ki_10, ki_11, ki_12, ki_17, ki_20, ki_21, ki_22, ki_42, ki_50, ki_58, ki_66, ki_74, ki_140, ki_174, ki_179, ki_184, ki_189, ki_441, ix1, nI_add, pk_mul]; with_reducible rfl) | (simp (disch := omega) only [upd_n, ki_0, ki_1, ki_2, ki_3, ki_4, ki_5, ki_6, ki_7, ki_8, ki_9, ki_10, ki_11, ki_12, ki_17, ki_20, ki_21, ki_22, ki_42, ki_50, ki_58, ki_66, ki_74, ki_140, ki_174, ki_179, ki_184, ki_189, ki_441, ix1, ix2, nI_add, pk_mul]; with_reducible rfl) | rfl); (case hlt => first | decide | omega); (case hn => decide))
    refine mT_s rfl rfl ?_
    refine mT_ret rfl rfl ?_
    unfold sg at K
    rw [if_pos c8] at K
    exact K

theorem e_must (d : Nat) (h : mH) (s i : Nat → Int32) (o t : Nat) (pd bw : Int64) (Q : Option Value → mH → Prop) (e p : Nat)  (c : Int32) (hc : rC h i s o t pd bw e p false) (k1 : sg s e p = c → ∀ h2 i2, rZ h i o t pd bw h2 i2 s (p + 1) false → Q none h2) (k0 : ¬ sg s e p = c → ∀ h2 i2, rZ h i o t pd bw h2 i2 s p true → Q none h2) : mT0 (d + 1) z_X10_must 0 (m_init z_X10_must [.ref 76, .int c]) [] h Q := by
  obtain ⟨hM, h77, hN, ix1, h7, h8, he, hpe⟩ := id hc

  iterate 2 refine mT_s rfl rfl ?_
  (apply mT_getf; (case hc => rfl); (case ha => first | rfl | assumption); (case hf => first | rfl | assumption))
  refine mT_if_ne rfl (fun c => absurd h8 c) (fun _ => ?_)
  refine mT_s rfl rfl ?_
  (apply mT_inv; (case hc => rfl); (case hd => rfl); (case hb => first | rfl | assumption); (case hg => rfl))
  refine e_here _ h s i o t pd bw _ e p _ hc ?_
  refine mT_s rfl rfl ?_
  refine mT_icmp_eq rfl (fun c13 => ?_) (fun c13 => ?_)
  · refine mT_s rfl rfl ?_
    (apply mT_putfN; (case hc => rfl); (case ha => first | rfl | assumption); (case hN => assumption); (case hg => rfl))
    iterate 2 refine mT_s rfl rfl ?_
    (apply mT_getf; (case hc => rfl); (case ha => first | rfl | assumption); (case hf => first | rfl | assumption))
    refine mT_s rfl rfl ?_
    (apply mT_getf; (case hc => rfl); (case ha => first | rfl | assumption); (case hf => first | rfl | assumption))
    refine mT_if_eq rfl (fun _ => ?_) (fun c => absurd rfl c)
    iterate 2 refine mT_s rfl rfl ?_
    (apply mT_putfN; (case hc => rfl); (case ha => first | rfl | assumption); (case hN => assumption); (case hg => rfl))
    refine mT_ret rfl rfl ?_
    rw [m_up_up]
    exact k1 c13 _ (upd (upd i 8 0) 6 (i 6 + 1)) ⟨fun a x y => m_up_n x, rfl, h77, by rw [upd_s, ix1, nI_1], by rw [upd_n _ _ (by decide), upd_s]; rfl, fun j x y => by rw [upd_n _ _ x, upd_n _ _ y]⟩
  · iterate 2 refine mT_s rfl rfl ?_
    (apply mT_putfN; (case hc => rfl); (case ha => first | rfl | assumption); (case hN => assumption); (case hg => rfl))
    iterate 2 refine mT_s rfl rfl ?_
    (apply mT_getf; (case hc => rfl); (case ha => first | rfl | assumption); (case hf => first | rfl | assumption))
    refine mT_s rfl rfl ?_
    (apply mT_getf; (case hc => rfl); (case ha => first | rfl | assumption); (case hf => first | rfl | assumption))
    refine mT_if_eq rfl (fun c => absurd c (by decide)) (fun _ => ?_)
    iterate 3 refine mT_s rfl rfl ?_
    (apply mT_putfN; (case hc => rfl); (case ha => first | rfl | assumption); (case hN => assumption); (case hg => rfl))
    refine mT_ret rfl rfl ?_
    rw [m_up_up]
    exact k0 c13 _ (upd (upd i 8 1) 6 (i 6 + 0)) ⟨fun a x y => m_up_n x, rfl, h77, by rw [upd_s, ix1]; exact nI_add p 0, by rw [upd_n _ _ (by decide), upd_s]; rfl, fun j x y => by rw [upd_n _ _ x, upd_n _ _ y]⟩

theorem e_must_w (d : Nat) (h : mH) (s i : Nat → Int32) (o t : Nat) (pd bw : Int64) (Q : Option Value → mH → Prop) (e p : Nat)  (c : Int32) (hc : rC h i s o t pd bw e p true) (K : ∀ h2 i2, rZ h i o t pd bw h2 i2 s p true → Q none h2) : mT0 (d + 1) z_X10_must 0 (m_init z_X10_must [.ref 76, .int c]) [] h Q := by
  obtain ⟨hM, h77, hN, ix1, h7, h8, he, hpe⟩ := id hc

  iterate 2 refine mT_s rfl rfl ?_
  (apply mT_getf; (case hc => rfl); (case ha => first | rfl | assumption); (case hf => first | rfl | assumption))
  refine mT_if_ne rfl (fun _ => ?_) (fun c => absurd (h8.symm.trans c) (by decide))
  iterate 2 refine mT_s rfl rfl ?_
  (apply mT_putfN; (case hc => rfl); (case ha => first | rfl | assumption); (case hN => assumption); (case hg => rfl))
  iterate 2 refine mT_s rfl rfl ?_
  (apply mT_getf; (case hc => rfl); (case ha => first | rfl | assumption); (case hf => first | rfl | assumption))
  refine mT_s rfl rfl ?_
  (apply mT_getf; (case hc => rfl); (case ha => first | rfl | assumption); (case hf => first | rfl | assumption))
  refine mT_if_eq rfl (fun c => absurd c (by decide)) (fun _ => ?_)
  iterate 3 refine mT_s rfl rfl ?_
  (apply mT_putfN; (case hc => rfl); (case ha => first | rfl | assumption); (case hN => assumption); (case hg => rfl))
  refine mT_ret rfl rfl ?_
  rw [m_up_up]
  exact K _ (upd (upd i 8 1) 6 (i 6 + 0)) ⟨fun a x y => m_up_n x, rfl, h77, by rw [upd_s, ix1]; exact nI_add p 0, by rw [upd_n _ _ (by decide), upd_s]; rfl, fun j x y => by rw [upd_n _ _ x, upd_n _ _ y]⟩

theorem e_emits (d : Nat) (h : mH) (s i : Nat → Int32) (o t : Nat) (pd bw : Int64) (Q : Option Value → mH → Prop) (e p : Nat)  (v : Int32) (hc : rC h i s o t pd bw e p false) (act k0 : Nat) (ha : act < 5) (ix1 : i 5 = nI act) (ix2 : s (184 + act) = nI k0) (hk0 : k0 < 140) (K : Q none (m_up h 77 (.inl (0, 889, .inl (upd (upd s (189 + 140 * act + k0) v) (184 + act) (nI (k0 + 1))))))) : mT0 d z_X10_emits 0 (m_init z_X10_emits [.ref 76, .int v]) [] h Q := by
  obtain ⟨hM, h77, hN, ix9, h7, h8, he, hpe⟩ := id hc

  refine mT_s rfl rfl ?_
  (apply mT_getf; (case hc => rfl); (case ha => first | rfl | assumption); (case hf => first | rfl | assumption))
  refine mT_if_ne rfl (fun c => absurd h8 c) (fun _ => ?_)
  refine mT_s rfl rfl ?_
  (apply mT_getf; (case hc => rfl); (case ha => first | rfl | assumption); (case hf => first | rfl | assumption))
  iterate 3 refine mT_s rfl rfl ?_
  (apply mT_getf; (case hc => rfl); (case ha => first | rfl | assumption); (case hf => first | rfl | assumption))
  iterate 3 refine mT_s rfl rfl ?_
  (apply mT_getf; (case hc => rfl); (case ha => first | rfl | assumption); (case hf => first | rfl | assumption))
  iterate 2 refine mT_s rfl rfl ?_
  (apply mT_getf; (case hc => rfl); (case ha => first | rfl | assumption); (case hf => first | rfl | assumption))
  refine mT_s rfl rfl ?_
  (apply mT_ialdK; (case hc => rfl); (case ha => first | rfl | assumption); (case hk => first | (simp only [ki_0, ki_1, ki_2, ki_3, ki_4, ki_5, ki_6, ki_7, ki_8, ki_9, ki_10, ki_11, ki_12, ki_17, ki_20, ki_21, ki_22, ki_42, ki_50, ki_58, ki_66, ki_74, ki_140, ki_174, ki_179, ki_184, ki_189, ki_441, nI_add, pk_mul]; with_reducible rfl) | (simp only [ki_0, ki_1, ki_2, ki_3, ki_4, ki_5, ki_6, ki_7, ki_8, ki_9, ki_10, ki_11, ki_12, ki_17, ki_20, ki_21, ki_22, ki_42, ki_50, ki_58, ki_66, ki_74, ki_140, ki_174, ki_179, ki_184, ki_189, ki_441, ix1, nI_add, pk_mul]; with_reducible rfl) | (simp only [ki_0, ki_1, ki_2, ki_3, ki_4, ki_5, ki_6, ki_7, ki_8, ki_9, ki_10, ki_11, ki_12, ki_17, ki_20, ki_21, ki_22, ki_42, ki_50, ki_58, ki_66, ki_74, ki_140, ki_174, ki_179, ki_184, ki_189, ki_441, ix1, ix2, nI_add, pk_mul]; with_reducible rfl) | (simp only [ki_0, ki_1, ki_2, ki_3, ki_4, ki_5, ki_6, ki_7, ki_8, ki_9, ki_10, ki_11, ki_12, ki_17, ki_20, ki_21, ki_22, ki_42, ki_50, ki_58, ki_66, ki_74, ki_140, ki_174, ki_179, ki_184, ki_189, ki_441, ix1, ix2, ix3, nI_add, pk_mul]; with_reducible rfl) | (simp (disch := omega) only [upd_n, ki_0, ki_1, ki_2, ki_3, ki_4, ki_5, ki_6, ki_7, ki_8, ki_9, ki_10, ki_11, ki_12, ki_17, ki_20, ki_21, ki_22, ki_42, ki_50, ki_58, ki_66, ki_74, ki_140, ki_174, ki_179, ki_184, ki_189, ki_441, ix1, nI_add, pk_mul]; with_reducible rfl) | (simp (disch := omega) only [upd_n, ki_0, ki_1, ki_2, ki_3, ki_4, ki_5, ki_6, ki_7, ki_8, ki_9, ki_10, ki_11, ki_12, ki_17, ki_20, ki_21, ki_22, ki_42, ki_50, ki_58, ki_66, ki_74, ki_140, ki_174, ki_179, ki_184, ki_189, ki_441, ix1, ix2, nI_add, pk_mul]; with_reducible rfl) | rfl); (case hlt => first | decide | omega); (case hn => decide))
  iterate 2 refine mT_s rfl rfl ?_
  (apply mT_iastK; (case hc => rfl); (case ha => first | rfl | assumption); (case hk => first | (simp only [ki_0, ki_1, ki_2, ki_3, ki_4, ki_5, ki_6, ki_7, ki_8, ki_9, ki_10, ki_11, ki_12, ki_17, ki_20, ki_21, ki_22, ki_42, ki_50, ki_58, ki_66, ki_74, ki_140, ki_174, ki_179, ki_184, ki_189, ki_441, nI_add, pk_mul]; with_reducible rfl) | (simp only [ki_0, ki_1, ki_2, ki_3, ki_4, ki_5, ki_6, ki_7, ki_8, ki_9, ki_10, ki_11, ki_12, ki_17, ki_20, ki_21, ki_22, ki_42, ki_50, ki_58, ki_66, ki_74, ki_140, ki_174, ki_179, ki_184, ki_189, ki_441, ix1, nI_add, pk_mul]; with_reducible rfl) | (simp only [ki_0, ki_1, ki_2, ki_3, ki_4, ki_5, ki_6, ki_7, ki_8, ki_9, ki_10, ki_11, ki_12, ki_17, ki_20, ki_21, ki_22, ki_42, ki_50, ki_58, ki_66, ki_74, ki_140, ki_174, ki_179, ki_184, ki_189, ki_441, ix1, ix2, nI_add, pk_mul]; with_reducible rfl) | (simp only [ki_0, ki_1, ki_2, ki_3, ki_4, ki_5, ki_6, ki_7, ki_8, ki_9, ki_10, ki_11, ki_12, ki_17, ki_20, ki_21, ki_22, ki_42, ki_50, ki_58, ki_66, ki_74, ki_140, ki_174, ki_179, ki_184, ki_189, ki_441, ix1, ix2, ix3, nI_add, pk_mul]; with_reducible rfl) | (simp (disch := omega) only [upd_n, ki_0, ki_1, ki_2, ki_3, ki_4, ki_5, ki_6, ki_7, ki_8, ki_9, ki_10, ki_11, ki_12, ki_17, ki_20, ki_21, ki_22, ki_42, ki_50, ki_58, ki_66, ki_74, ki_140, ki_174, ki_179, ki_184, ki_189, ki_441, ix1, nI_add, pk_mul]; with_reducible rfl) | (simp (disch := omega) only [upd_n, ki_0, ki_1, ki_2, ki_3, ki_4, ki_5, ki_6, ki_7, ki_8, ki_9, ki_10, ki_11, ki_12, ki_17, ki_20, ki_21, ki_22, ki_42, ki_50, ki_58, ki_66, ki_74, ki_140, ki_174, ki_179, ki_184, ki_189, ki_441, ix1, ix2, nI_add, pk_mul]; with_reducible rfl) | rfl); (case hlt => first | decide | omega); (case hn => decide); (case hN => assumption); (case hg => rfl))
  refine mT_s rfl rfl ?_
  (apply mT_getf; (case hc => rfl); (case ha => first | rfl | assumption); (case hf => first | rfl | assumption))
  iterate 2 refine mT_s rfl rfl ?_
  (apply mT_getf; (case hc => rfl); (case ha => first | rfl | assumption); (case hf => first | rfl | assumption))
  iterate 2 refine mT_s rfl rfl ?_
  (apply mT_ialdK; (case hc => rfl); (case ha => first | rfl | assumption); (case hk => first | (simp only [ki_0, ki_1, ki_2, ki_3, ki_4, ki_5, ki_6, ki_7, ki_8, ki_9, ki_10, ki_11, ki_12, ki_17, ki_20, ki_21, ki_22, ki_42, ki_50, ki_58, ki_66, ki_74, ki_140, ki_174, ki_179, ki_184, ki_189, ki_441, nI_add, pk_mul]; with_reducible rfl) | (simp only [ki_0, ki_1, ki_2, ki_3, ki_4, ki_5, ki_6, ki_7, ki_8, ki_9, ki_10, ki_11, ki_12, ki_17, ki_20, ki_21, ki_22, ki_42, ki_50, ki_58, ki_66, ki_74, ki_140, ki_174, ki_179, ki_184, ki_189, ki_441, ix1, nI_add, pk_mul]; with_reducible rfl) | (simp only [ki_0, ki_1, ki_2, ki_3, ki_4, ki_5, ki_6, ki_7, ki_8, ki_9, ki_10, ki_11, ki_12, ki_17, ki_20, ki_21, ki_22, ki_42, ki_50, ki_58, ki_66, ki_74, ki_140, ki_174, ki_179, ki_184, ki_189, ki_441, ix1, ix2, nI_add, pk_mul]; with_reducible rfl) | (simp only [ki_0, ki_1, ki_2, ki_3, ki_4, ki_5, ki_6, ki_7, ki_8, ki_9, ki_10, ki_11, ki_12, ki_17, ki_20, ki_21, ki_22, ki_42, ki_50, ki_58, ki_66, ki_74, ki_140, ki_174, ki_179, ki_184, ki_189, ki_441, ix1, ix2, ix3, nI_add, pk_mul]; with_reducible rfl) | (simp (disch := omega) only [upd_n, ki_0, ki_1, ki_2, ki_3, ki_4, ki_5, ki_6, ki_7, ki_8, ki_9, ki_10, ki_11, ki_12, ki_17, ki_20, ki_21, ki_22, ki_42, ki_50, ki_58, ki_66, ki_74, ki_140, ki_174, ki_179, ki_184, ki_189, ki_441, ix1, nI_add, pk_mul]; with_reducible rfl) | (simp (disch := omega) only [upd_n, ki_0, ki_1, ki_2, ki_3, ki_4, ki_5, ki_6, ki_7, ki_8, ki_9, ki_10, ki_11, ki_12, ki_17, ki_20, ki_21, ki_22, ki_42, ki_50, ki_58, ki_66, ki_74, ki_140, ki_174, ki_179, ki_184, ki_189, ki_441, ix1, ix2, nI_add, pk_mul]; with_reducible rfl) | rfl); (case hlt => first | decide | omega); (case hn => decide))
  iterate 2 refine mT_s rfl rfl ?_
  (apply mT_iastK; (case hc => rfl); (case ha => first | rfl | assumption); (case hk => first | (simp only [ki_0, ki_1, ki_2, ki_3, ki_4, ki_5, ki_6, ki_7, ki_8, ki_9, ki_10, ki_11, ki_12, ki_17, ki_20, ki_21, ki_22, ki_42, ki_50, ki_58, ki_66, ki_74, ki_140, ki_174, ki_179, ki_184, ki_189, ki_441, nI_add, pk_mul]; with_reducible rfl) | (simp only [ki_0, ki_1, ki_2, ki_3, ki_4, ki_5, ki_6, ki_7, ki_8, ki_9, ki_10, ki_11, ki_12, ki_17, ki_20, ki_21, ki_22, ki_42, ki_50, ki_58, ki_66, ki_74, ki_140, ki_174, ki_179, ki_184, ki_189, ki_441, ix1, nI_add, pk_mul]; with_reducible rfl) | (simp only [ki_0, ki_1, ki_2, ki_3, ki_4, ki_5, ki_6, ki_7, ki_8, ki_9, ki_10, ki_11, ki_12, ki_17, ki_20, ki_21, ki_22, ki_42, ki_50, ki_58, ki_66, ki_74, ki_140, ki_174, ki_179, ki_184, ki_189, ki_441, ix1, ix2, nI_add, pk_mul]; with_reducible rfl) | (simp only [ki_0, ki_1, ki_2, ki_3, ki_4, ki_5, ki_6, ki_7, ki_8, ki_9, ki_10, ki_11, ki_12, ki_17, ki_20, ki_21, ki_22, ki_42, ki_50, ki_58, ki_66, ki_74, ki_140, ki_174, ki_179, ki_184, ki_189, ki_441, ix1, ix2, ix3, nI_add, pk_mul]; with_reducible rfl) | (simp (disch := omega) only [upd_n, ki_0, ki_1, ki_2, ki_3, ki_4, ki_5, ki_6, ki_7, ki_8, ki_9, ki_10, ki_11, ki_12, ki_17, ki_20, ki_21, ki_22, ki_42, ki_50, ki_58, ki_66, ki_74, ki_140, ki_174, ki_179, ki_184, ki_189, ki_441, ix1, nI_add, pk_mul]; with_reducible rfl) | (simp (disch := omega) only [upd_n, ki_0, ki_1, ki_2, ki_3, ki_4, ki_5, ki_6, ki_7, ki_8, ki_9, ki_10, ki_11, ki_12, ki_17, ki_20, ki_21, ki_22, ki_42, ki_50, ki_58, ki_66, ki_74, ki_140, ki_174, ki_179, ki_184, ki_189, ki_441, ix1, ix2, nI_add, pk_mul]; with_reducible rfl) | rfl); (case hlt => first | decide | omega); (case hn => decide); (case hN => assumption); (case hg => rfl))
  refine mT_ret rfl rfl ?_
  rw [m_up_up, upd_n s v (show 184 + act ≠ 189 + 140 * act + k0 by omega), ix2, nI_1]
  exact K

theorem e_emits_w (d : Nat) (h : mH) (s i : Nat → Int32) (o t : Nat) (pd bw : Int64) (Q : Option Value → mH → Prop) (e p : Nat)  (v : Int32) (hc : rC h i s o t pd bw e p true) (K : Q none h) : mT0 d z_X10_emits 0 (m_init z_X10_emits [.ref 76, .int v]) [] h Q := by
  obtain ⟨hM, h77, hN, ix1, h7, h8, he, hpe⟩ := id hc

  refine mT_s rfl rfl ?_
  (apply mT_getf; (case hc => rfl); (case ha => first | rfl | assumption); (case hf => first | rfl | assumption))
  refine mT_if_ne rfl (fun _ => ?_) (fun c => absurd (h8.symm.trans c) (by decide))
  refine mT_ret rfl rfl ?_
  exact K
