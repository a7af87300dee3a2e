/-! What a call changes in a state. -/
section
variable {s s2 : Nat → Int32} {l : List Tok} {le mo nb : Nat} {bA bB : Nat → Nat} {bW : Nat → Bool}
theorem t_C_r {s s2 : Nat → Int32} : ∀ {l : List Tok} {k : Nat}, (∀ j, k ≤ j → j < k + l.length → s2 j = s j) → t_C s k l → t_C s2 k l
  | [], _, _, _ => trivial
  | t :: l, k, h, x => by
    have y : s k = rT t ∧ t_C s (k + 1) l := x
    have e : (t :: l).length = l.length + 1 := rfl
    exact ⟨(h k (Nat.le_refl k) (by omega)).trans y.1, t_C_r (fun j h1 h2 => h j (by omega) (by omega)) y.2⟩
theorem sB.c (x : sB s nb bA bB bW) (h8 : s2 8 = s 8) (h : ∀ j, 42 ≤ j → j < 66 → s2 j = s j) : sB s2 nb bA bB bW := by
  obtain ⟨x1, x2, x3⟩ := x
  refine ⟨h8.trans x1, x2, fun k hk => ?_⟩
  obtain ⟨y1, y2, y3, y4⟩ := x3 k hk
  exact ⟨(h _ (by omega) (by omega)).trans y1, (h _ (by omega) (by omega)).trans y2, (h _ (by omega) (by omega)).trans y3, y4⟩
theorem sTa.c (x : ∃ nt ta, sTa s nt ta) (h9 : s2 9 = s 9) (h : ∀ j, 66 ≤ j → j < 74 → s2 j = s j) : ∃ nt ta, sTa s2 nt ta := by
  obtain ⟨nt, ta, x1, x2, x3⟩ := x
  refine ⟨nt, ta, h9.trans x1, x2, fun k hk => ?_⟩
  obtain ⟨y1, y2⟩ := x3 k hk
  exact ⟨(h _ (by omega) (by omega)).trans y1, y2⟩
theorem s_at_z {mm : Nat → Nat} {g : Nat} (hs : s_at s mm g = s) : s 0 = nI g := by
  have := congrFun hs 0
  unfold s_at at this
  rw [if_pos rfl] at this
  exact this.symm
theorem s_at_j {mm : Nat → Nat} {g j : Nat} (hs : s_at s mm g = s) (hj : j < 5) : s (1 + j) = nI (mm j) := by
  have := congrFun hs (1 + j)
  unfold s_at at this
  rw [if_neg (by omega), if_pos (by omega), Nat.add_sub_cancel_left] at this
  exact this.symm
theorem sAt.c (x : ∃ (n : Nat) (mm : Nat → Nat) (g : Nat), s 6 = nI n ∧ n ≤ 5 ∧ (∀ j, j < 5 → mm j ≤ 20) ∧ (∀ j, j < n → 1 ≤ mm j) ∧ s_at s mm g = s ∧ g ≤ 9999) (h : ∀ j, j ≤ 6 → s2 j = s j) : ∃ (n : Nat) (mm : Nat → Nat) (g : Nat), s2 6 = nI n ∧ n ≤ 5 ∧ (∀ j, j < 5 → mm j ≤ 20) ∧ (∀ j, j < n → 1 ≤ mm j) ∧ s_at s2 mm g = s2 ∧ g ≤ 9999 := by
  obtain ⟨n, mm, g, x1, x2, x3, x4, x5, x6⟩ := x
  exact ⟨n, mm, g, (h 6 (by decide)).trans x1, x2, x3, x4, s_at_id (fun j hj => (h _ (by omega)).trans (s_at_j x5 hj)) ((h 0 (by decide)).trans (s_at_z x5)), x6⟩
theorem sK.c (x : ∀ j, j < 5 → sK s j) (h : ∀ j, 17 ≤ j → j < 42 → s2 j = s j) : ∀ j, j < 5 → sK s2 j := by
  intro j hj
  obtain ⟨x1, x2⟩ := x j hj
  exact ⟨by rw [h _ (by omega) (by omega)]; exact x1, fun i hi => by rw [h _ (by omega) (by omega)]; exact x2 i hi⟩
theorem sKd.c (x : ∀ j, j < 5 → ∃ m : Nat, m < 7 ∧ s (12 + j) = nI m) (h : ∀ j, 12 ≤ j → j < 17 → s2 j = s j) : ∀ j, j < 5 → ∃ m : Nat, m < 7 ∧ s2 (12 + j) = nI m := by
  intro j hj
  obtain ⟨m, m1, m2⟩ := x j hj
  exact ⟨m, m1, (h _ (by omega) (by omega)).trans m2⟩
theorem s11.c (x : s 11 = -1 ∨ ∃ a act : Nat, s 11 = nI a ∧ s 7 = nI act ∧ a < act ∧ act ≤ 5) (e : s2 11 = s 11) (e7 : s2 7 = s 7) : s2 11 = -1 ∨ ∃ a act : Nat, s2 11 = nI a ∧ s2 7 = nI act ∧ a < act ∧ act ≤ 5 := by
  rw [e, e7]
  exact x
/-- all rows agree but some counts -/
theorem SV.inv (S : SV s l le mo nb bA bB bW) (h6 : s2 6 = s 6 ∨ ∃ n : Nat, n ≤ 5 ∧ s2 6 = nI n) (h7 : s2 7 = s 7 ∨ ∃ n : Nat, n ≤ 5 ∧ s2 7 = nI n) (h8 : s2 8 = s 8 ∨ ∃ n : Nat, n ≤ 8 ∧ s2 8 = nI n) (h9 : s2 9 = s 9 ∨ ∃ n : Nat, n ≤ 8 ∧ s2 9 = nI n) (h10 : s2 10 = s 10 ∨ ∃ n : Nat, n ≤ 100 ∧ s2 10 = nI n) (h0 : s2 0 = s 0 ∨ ∃ n : Nat, n ≤ 9999 ∧ s2 0 = nI n) (h11 : s2 11 = s 11 ∨ ∃ a : Nat, a < 5 ∧ s2 11 = nI a) : s_Inv s2 := by
  obtain ⟨⟨i6, i7, i8, i9, i10, i0, i11⟩, -⟩ := S
  refine ⟨?_, ?_, ?_, ?_, ?_, ?_, ?_⟩
  · rcases h6 with e | e
    · rw [e]; exact i6
    · exact e
  · rcases h7 with e | e
    · rw [e]; exact i7
    · exact e
  · rcases h8 with e | e
    · rw [e]; exact i8
    · exact e
  · rcases h9 with e | e
    · rw [e]; exact i9
    · exact e
  · rcases h10 with e | e
    · rw [e]; exact i10
    · exact e
  · rcases h0 with e | e
    · rw [e]; exact i0
    · exact e
  · rcases h11 with e | e
    · rw [e]; exact i11
    · exact Or.inr e
theorem SV.feed (S : SV s l le mo nb bA bB bW) (h : ∀ j, j ≠ 10 → j < 74 ∨ 174 ≤ j → s2 j = s j) (h10 : ∃ n : Nat, n ≤ 100 ∧ s2 10 = nI n) : SV s2 l le mo nb bA bB bW := by
  obtain ⟨hI, hG, hB, hT, hM, hK, hkd, h11⟩ := id S
  exact ⟨S.inv (Or.inl (h 6 (by decide) (by decide))) (Or.inl (h 7 (by decide) (by decide))) (Or.inl (h 8 (by decide) (by decide))) (Or.inl (h 9 (by decide) (by decide))) (Or.inr h10) (Or.inl (h 0 (by decide) (by decide))) (Or.inl (h 11 (by decide) (by decide))), sG_c (fun k hk => h k (by omega) (by omega)) (h 11 (by decide) (by decide)) hG, hB.c (h 8 (by decide) (by decide)) (fun j _ _ => h j (by omega) (by omega)), sTa.c hT (h 9 (by decide) (by decide)) (fun j _ _ => h j (by omega) (by omega)), sAt.c hM (fun j _ => h j (by omega) (by omega)), sK.c hK (fun j _ _ => h j (by omega) (by omega)), sKd.c hkd (fun j _ _ => h j (by omega) (by omega)), s11.c h11 (h 11 (by decide) (by decide)) (h 7 (by decide) (by decide))⟩
theorem s_at_n (s : Nat → Int32) (mm : Nat → Nat) (g : Nat) {j : Nat} (hj : 6 ≤ j) : s_at s mm g j = s j := by
  unfold s_at
  rw [if_neg (by omega), if_neg (by omega)]
theorem s_at_at (s : Nat → Int32) (mm : Nat → Nat) (g : Nat) : s_at (s_at s mm g) mm g = s_at s mm g := s_at_id (fun j hj => by unfold s_at; rw [if_neg (by omega), if_pos (by omega), Nat.add_sub_cancel_left]) rfl
theorem SV.m (S : SV s l le mo nb bA bB bW) {n : Nat} {mm : Nat → Nat} {g : Nat} (h6 : s 6 = nI n) (hn : n ≤ 5) (hmm : ∀ j, j < 5 → mm j ≤ 20) (hm1 : ∀ j, j < n → 1 ≤ mm j) (hg : g ≤ 9999) : SV (s_at s mm g) l le mo nb bA bB bW := by
  obtain ⟨hI, hG, hB, hT, hM, hK, hkd, h11⟩ := id S
  have h : ∀ j, 6 ≤ j → s_at s mm g j = s j := fun j hj => s_at_n s mm g hj
  exact ⟨S.inv (Or.inl (h 6 (by decide))) (Or.inl (h 7 (by decide))) (Or.inl (h 8 (by decide))) (Or.inl (h 9 (by decide))) (Or.inl (h 10 (by decide))) (Or.inr ⟨g, hg, rfl⟩) (Or.inl (h 11 (by decide))), sG_c (fun k hk => h k (by omega)) (h 11 (by decide)) hG, hB.c (h 8 (by decide)) (fun j _ _ => h j (by omega)), sTa.c hT (h 9 (by decide)) (fun j _ _ => h j (by omega)), ⟨n, mm, g, (h 6 (by decide)).trans h6, hn, hmm, hm1, s_at_at s mm g, hg⟩, sK.c hK (fun j _ _ => h j (by omega)), sKd.c hkd (fun j _ _ => h j (by omega)), s11.c h11 (h 11 (by decide)) (h 7 (by decide))⟩
theorem SV.row (S : SV s l le mo nb bA bB bW) {p k x : Nat} (hp : p < 5) (hk : k < 4) (hx : x ≤ 9) : SV (upd s (22 + 4 * p + k) (nI x)) l le mo nb bA bB bW := by
  obtain ⟨hI, hG, hB, hT, hM, hK, hkd, h11⟩ := id S
  have h : ∀ j, j < 22 ∨ 42 ≤ j → upd s (22 + 4 * p + k) (nI x) j = s j := fun j hj => upd_n _ _ (by omega)
  refine ⟨S.inv (Or.inl (h 6 (by decide))) (Or.inl (h 7 (by decide))) (Or.inl (h 8 (by decide))) (Or.inl (h 9 (by decide))) (Or.inl (h 10 (by decide))) (Or.inl (h 0 (by decide))) (Or.inl (h 11 (by decide))), sG_c (fun k hk => h k (by omega)) (h 11 (by decide)) hG, hB.c (h 8 (by decide)) (fun j _ _ => h j (by omega)), sTa.c hT (h 9 (by decide)) (fun j _ _ => h j (by omega)), sAt.c hM (fun j _ => h j (by omega)), ?_, sKd.c hkd (fun j _ _ => h j (by omega)), s11.c h11 (h 11 (by decide)) (h 7 (by decide))⟩
  intro j hj
  refine ⟨by rw [h _ (by omega)]; exact (hK j hj).1, fun i hi => ?_⟩
  by_cases e : 22 + 4 * j + i = 22 + 4 * p + k
  · rw [e, upd_s]
    exact sm_n hx
  · rw [upd_n _ _ e]
    exact (hK j hj).2 i hi
theorem SV.player (S : SV s l le mo nb bA bB bW) {n kd v : Nat} (h6 : s 6 = nI n) (hn : n < 5) (hkd9 : kd < 7) (hv : v ≤ 9) (e6 : s2 6 = nI (n + 1)) (e1 : s2 (1 + n) = 8) (e12 : s2 (12 + n) = nI kd) (e17 : s2 (17 + n) = nI v) (e22 : ∀ k, k < 4 → s2 (22 + 4 * n + k) = 4) (h : ∀ j, j ≠ 6 → j ≠ 1 + n → j ≠ 12 + n → j ≠ 17 + n → ¬ (22 + 4 * n ≤ j ∧ j < 26 + 4 * n) → s2 j = s j) : SV s2 l le mo nb bA bB bW := by
  obtain ⟨hI, hG, hB, hT, hM, hK, hkd, h11⟩ := id S
  have h' : ∀ j, j = 0 ∨ (6 < j ∧ j < 12) ∨ 42 ≤ j → s2 j = s j := fun j hj => h j (by omega) (by omega) (by omega) (by omega) (by omega)
  refine ⟨S.inv (Or.inr ⟨n + 1, by omega, e6⟩) (Or.inl (h' 7 (by decide))) (Or.inl (h' 8 (by decide))) (Or.inl (h' 9 (by decide))) (Or.inl (h' 10 (by decide))) (Or.inl (h' 0 (by decide))) (Or.inl (h' 11 (by decide))), sG_c (fun k hk => h' k (by omega)) (h' 11 (by decide)) hG, hB.c (h' 8 (by decide)) (fun j _ _ => h' j (by omega)), sTa.c hT (h' 9 (by decide)) (fun j _ _ => h' j (by omega)), ?_, ?_, ?_, s11.c h11 (h' 11 (by decide)) (h' 7 (by decide))⟩
  · obtain ⟨n', mm, g, x1, x2, x3, x4, x5, x6⟩ := hM
    have en : n' = n := (nI_eq (by omega) (by omega)).mp (x1.symm.trans h6)
    subst en
    refine ⟨n' + 1, updM mm n' 8, g, e6, by omega, fun j hj => ?_, fun j hj => ?_, s_at_id (fun j hj => ?_) ((h' 0 (by decide)).trans (s_at_z x5)), x6⟩
    · unfold updM
      split
      · omega
      · exact x3 j hj
    · unfold updM
      split
      · omega
      · exact x4 j (by omega)
    · unfold updM
      by_cases e : j = n'
      · rw [if_pos e, e]
        exact e1
      · rw [if_neg e]
        exact (h _ (by omega) (by omega) (by omega) (by omega) (by omega)).trans (s_at_j x5 hj)
  · intro j hj
    by_cases e : j = n
    · subst e
      exact ⟨by rw [e17]; exact sm_n hv, fun k hk => by rw [e22 k hk]; exact sm_n (n := 4) (by omega)⟩
    · refine ⟨by rw [h _ (by omega) (by omega) (by omega) (by omega) (by omega)]; exact (hK j hj).1, fun k hk => ?_⟩
      rw [h _ (by omega) (by omega) (by omega) (by omega) (by omega)]
      exact (hK j hj).2 k hk
  · intro j hj
    by_cases e : j = n
    · subst e
      exact ⟨kd, hkd9, e12⟩
    · obtain ⟨m, m1, m2⟩ := hkd j hj
      exact ⟨m, m1, (h _ (by omega) (by omega) (by omega) (by omega) (by omega)).trans m2⟩
theorem SV.tale (S : SV s l le mo nb bA bB bW) (h : ∀ j, j ≠ 9 → j < 66 ∨ 74 ≤ j → s2 j = s j) (hT : ∃ nt ta, sTa s2 nt ta) : SV s2 l le mo nb bA bB bW := by
  obtain ⟨hI, hG, hB, -, hM, hK, hkd, h11⟩ := id S
  have h9 : ∃ n : Nat, n ≤ 8 ∧ s2 9 = nI n := by
    obtain ⟨nt, ta, x1, x2, -⟩ := hT
    exact ⟨nt, x2, x1⟩
  exact ⟨S.inv (Or.inl (h 6 (by decide) (by decide))) (Or.inl (h 7 (by decide) (by decide))) (Or.inl (h 8 (by decide) (by decide))) (Or.inr h9) (Or.inl (h 10 (by decide) (by decide))) (Or.inl (h 0 (by decide) (by decide))) (Or.inl (h 11 (by decide) (by decide))), sG_c (fun k hk => h k (by omega) (by omega)) (h 11 (by decide) (by decide)) hG, hB.c (h 8 (by decide) (by decide)) (fun j _ _ => h j (by omega) (by omega)), hT, sAt.c hM (fun j _ => h j (by omega) (by omega)), sK.c hK (fun j _ _ => h j (by omega) (by omega)), sKd.c hkd (fun j _ _ => h j (by omega) (by omega)), s11.c h11 (h 11 (by decide) (by decide)) (h 7 (by decide) (by decide))⟩
theorem SV.book (S : SV s l le mo nb bA bB bW) {nb2 : Nat} {bA2 bB2 : Nat → Nat} {bW2 : Nat → Bool} (h : ∀ j, j ≠ 8 → j < 42 ∨ 66 ≤ j → s2 j = s j) (hB : sB s2 nb2 bA2 bB2 bW2) : SV s2 l le mo nb2 bA2 bB2 bW2 := by
  obtain ⟨hI, hG, -, hT, hM, hK, hkd, h11⟩ := id S
  exact ⟨S.inv (Or.inl (h 6 (by decide) (by decide))) (Or.inl (h 7 (by decide) (by decide))) (Or.inr ⟨nb2, hB.2.1, hB.1⟩) (Or.inl (h 9 (by decide) (by decide))) (Or.inl (h 10 (by decide) (by decide))) (Or.inl (h 0 (by decide) (by decide))) (Or.inl (h 11 (by decide) (by decide))), sG_c (fun k hk => h k (by omega) (by omega)) (h 11 (by decide) (by decide)) hG, hB, sTa.c hT (h 9 (by decide) (by decide)) (fun j _ _ => h j (by omega) (by omega)), sAt.c hM (fun j _ => h j (by omega) (by omega)), sK.c hK (fun j _ _ => h j (by omega) (by omega)), sKd.c hkd (fun j _ _ => h j (by omega) (by omega)), s11.c h11 (h 11 (by decide) (by decide)) (h 7 (by decide) (by decide))⟩
/-- what a refused inn writes lies outside the inn that holds -/
theorem SV.x (S : SV s l le mo nb bA bB bW) {act : Nat} (h7 : s 7 = nI act) (ha : act < 5) (t : tx act s s2) : SV s2 l le mo nb bA bB bW := by
  obtain ⟨hI, hG, hB, hT, hM, hK, hkd, h11⟩ := id S
  have h : ∀ j, j < 174 → s2 j = s j := fun j hj => t j (by omega) (by omega) (by omega) (by omega)
  refine ⟨S.inv (Or.inl (h 6 (by decide))) (Or.inl (h 7 (by decide))) (Or.inl (h 8 (by decide))) (Or.inl (h 9 (by decide))) (Or.inl (h 10 (by decide))) (Or.inl (h 0 (by decide))) (Or.inl (h 11 (by decide))), ?_, hB.c (h 8 (by decide)) (fun j _ _ => h j (by omega)), sTa.c hT (h 9 (by decide)) (fun j _ _ => h j (by omega)), sAt.c hM (fun j _ => h j (by omega)), sK.c hK (fun j _ _ => h j (by omega)), sKd.c hkd (fun j _ _ => h j (by omega)), s11.c h11 (h 11 (by decide)) (h 7 (by decide))⟩
  obtain ⟨⟨g1, g2, g3⟩, g4, ⟨g5, g6⟩, ⟨g7, g8⟩⟩ := hG
  have e11 := h 11 (by decide)
  rcases h11 with z | ⟨a, act2, z1, z2, z3, z4⟩
  · have f1 : ∀ w, f_tells s2 w = f_tells s w := fun w => by unfold f_tells; rw [e11, if_pos z, if_pos z]
    refine ⟨⟨g1, g2, ?_⟩, Or.inl (e11.trans z), ⟨(f1 _).trans g5, g6⟩, ⟨(f1 _).trans g7, g8⟩⟩
    rcases g3 with g3 | ⟨a, a1, a2, -⟩
    · exact Or.inl ⟨e11.trans g3.1, g3.2⟩
    · exact absurd (a2.symm.trans z) (nI_nm (by omega))
  · have ea : act2 = act := (nI_eq (by omega) (by omega)).mp (z2.symm.trans h7)
    subst ea
    have n1 : ¬ s 11 = -1 := fun z => nI_nm (k := a) (by omega) (z1.symm.trans z)
    have ec : (s 11).toNatClampNeg = a := by rw [z1, i_cl a (by omega)]
    have f1 : ∀ w, w = 174 ∨ w = 179 → f_tells s2 w = f_tells s w := fun w hw => by
      unfold f_tells
      rw [e11, if_neg n1, if_neg n1, ec]
      exact t _ (by omega) (by omega) (by omega) (by omega)
    refine ⟨⟨g1, g2, ?_⟩, Or.inr ⟨a, by omega, e11.trans z1⟩, ⟨(f1 _ (Or.inl rfl)).trans g5, g6⟩, ⟨(f1 _ (Or.inr rfl)).trans g7, g8⟩⟩
    rcases g3 with g3 | ⟨b, a1, a2, a3, a4⟩
    · exact absurd g3.1 n1
    · have eb : b = a := (nI_eq (by omega) (by omega)).mp (a2.symm.trans z1)
      subst eb
      exact Or.inr ⟨b, a1, e11.trans a2, (t _ (by omega) (by omega) (by omega) (by omega)).trans a3, t_C_r (fun j j1 j2 => t j (by omega) (by omega) (by omega) (by omega)) a4⟩
theorem SV.inn (S : SV s l le mo nb bA bB bW) {l2 : List Tok} {le2 mo2 act : Nat} (ha : act < 5) (h7 : s2 7 = nI (act + 1)) (h11 : s2 11 = nI act) (h10 : s2 10 = 0) (h : ∀ j, j < 174 → j ≠ 7 → j ≠ 10 → j ≠ 11 → s2 j = s j) (hL : s_L s2 l2) (h174 : s2 (174 + act) = nI le2) (h179 : s2 (179 + act) = nI mo2) (hle : le2 < 100) (hmo : mo2 < 100) : SV s2 l2 le2 mo2 nb bA bB bW := by
  obtain ⟨hI, hG, hB, hT, hM, hK, hkd, -⟩ := id S
  have n1 : ¬ s2 11 = -1 := fun z => nI_nm (k := act) (by omega) (h11.symm.trans z)
  have ec : (s2 11).toNatClampNeg = act := by rw [h11, i_cl act (by omega)]
  have f1 : ∀ w, f_tells s2 w = s2 (w + act) := fun w => by
    unfold f_tells
    rw [if_neg n1, ec]
  exact ⟨S.inv (Or.inl (h 6 (by decide) (by decide) (by decide) (by decide))) (Or.inr ⟨act + 1, by omega, h7⟩) (Or.inl (h 8 (by decide) (by decide) (by decide) (by decide))) (Or.inl (h 9 (by decide) (by decide) (by decide) (by decide))) (Or.inr ⟨0, by omega, h10⟩) (Or.inl (h 0 (by decide) (by decide) (by decide) (by decide))) (Or.inr ⟨act, ha, h11⟩), ⟨hL, Or.inr ⟨act, ha, h11⟩, ⟨(f1 _).trans h174, by omega⟩, ⟨(f1 _).trans h179, by omega⟩⟩, hB.c (h 8 (by decide) (by decide) (by decide) (by decide)) (fun j _ _ => h j (by omega) (by omega) (by omega) (by omega)), sTa.c hT (h 9 (by decide) (by decide) (by decide) (by decide)) (fun j _ _ => h j (by omega) (by omega) (by omega) (by omega)), sAt.c hM (fun j _ => h j (by omega) (by omega) (by omega) (by omega)), sK.c hK (fun j _ _ => h j (by omega) (by omega) (by omega) (by omega)), sKd.c hkd (fun j _ _ => h j (by omega) (by omega) (by omega) (by omega)), Or.inr ⟨act, act + 1, h11, h7, by omega, by omega⟩⟩
theorem SV.lt (S : SV s l le mo nb bA bB bW) (h : ∀ j, j < 889 → s2 j = s j) : SV s2 l le mo nb bA bB bW := by
  obtain ⟨hI, hG, hB, hT, hM, hK, hkd, h11⟩ := id S
  refine ⟨S.inv (Or.inl (h 6 (by decide))) (Or.inl (h 7 (by decide))) (Or.inl (h 8 (by decide))) (Or.inl (h 9 (by decide))) (Or.inl (h 10 (by decide))) (Or.inl (h 0 (by decide))) (Or.inl (h 11 (by decide))), ?_, hB.c (h 8 (by decide)) (fun j _ _ => h j (by omega)), sTa.c hT (h 9 (by decide)) (fun j _ _ => h j (by omega)), sAt.c hM (fun j _ => h j (by omega)), sK.c hK (fun j _ _ => h j (by omega)), sKd.c hkd (fun j _ _ => h j (by omega)), s11.c h11 (h 11 (by decide)) (h 7 (by decide))⟩
  obtain ⟨⟨g1, g2, g3⟩, g4, ⟨g5, g6⟩, ⟨g7, g8⟩⟩ := hG
  have e11 := h 11 (by decide)
  have f1 : ∀ w, w ≤ 179 → f_tells s2 w = f_tells s w := fun w hw => by
    unfold f_tells
    rw [e11]
    split
    · rfl
    · next z =>
      rcases g4 with y | ⟨a, a1, a2⟩
      · exact absurd y z
      · rw [a2, i_cl a (by omega)]
        exact h _ (by omega)
  refine ⟨⟨g1, g2, ?_⟩, ?_, ⟨(f1 _ (by decide)).trans g5, g6⟩, ⟨(f1 _ (by decide)).trans g7, g8⟩⟩
  · rcases g3 with g3 | ⟨b, a1, a2, a3, a4⟩
    · exact Or.inl ⟨e11.trans g3.1, g3.2⟩
    · exact Or.inr ⟨b, a1, e11.trans a2, (h _ (by omega)).trans a3, t_C_r (fun j j1 j2 => h j (by omega)) a4⟩
  · show s2 11 = -1 ∨ _
    rw [e11]
    exact g4
end
