/-! What each call leaves is a state again. -/
section
variable {s : Nat → Int32} {l : List Tok} {le mo nb : Nat} {bA bB : Nat → Nat} {bW : Nat → Bool}
theorem nI_p1 (e : Nat) : nI e + 1 = nI (e + 1) := by
  show nI e + nI 1 = nI (e + 1)
  simp only [nI_add]
theorem SV.g_feed (S : SV s l le mo nb bA bB bW) (x : Int32) : SV (f_feed s x).2 l le mo nb bA bB bW := by
  obtain ⟨e, he, h10⟩ := S.1.2.2.2.2.1
  unfold f_feed
  by_cases c1 : 0 ≤ x ∧ x ≤ 127
  · rw [if_pos c1]
    by_cases c2 : s 10 = 100
    · rw [if_pos c2]
      exact S
    · have e100 : e < 100 := by
        rcases Nat.lt_or_ge e 100 with z | z
        · exact z
        · exact absurd (by rw [h10, show e = 100 by omega]; rfl) c2
      rw [if_neg c2, h10, i_cl e (by omega), nI_p1]
      dsimp only
      exact S.feed (fun j h1 h2 => (upd_n _ _ h1).trans (upd_n _ _ (by omega))) ⟨e + 1, by omega, upd_s _ _ _⟩
  · rw [if_neg c1]
    exact S
theorem SV.g_men (S : SV s l le mo nb bA bB bW) (p x : Int32) : SV (f_men s p x).2 l le mo nb bA bB bW := by
  obtain ⟨n6, mm, g, hn6, hn5, hmm, hm1, hs, hg⟩ := S.2.2.2.2.1
  unfold f_men
  by_cases c1 : okP s p
  · rw [if_pos c1]
    obtain ⟨j, hj, rfl⟩ := okP_no hn5 hn6 c1
    by_cases c2 : 1 ≤ x ∧ x ≤ 20
    · rw [if_pos c2, i_cl j (by omega)]
      obtain ⟨k, hk, rfl⟩ := i_nat (n := 20) (Int32.le_trans (by decide) c2.1) c2.2 (by omega)
      have hk1 : 1 ≤ k := by
        rcases Nat.eq_zero_or_pos k with z | z
        · subst z
          exact absurd c2.1 (by decide)
        · exact z
      have e := s_at_um s mm g k (j := j) (by omega)
      rw [hs] at e
      show SV (upd s (1 + j) (nI k)) l le mo nb bA bB bW
      rw [e]
      refine S.m hn6 hn5 (fun i hi => ?_) (fun i hi => ?_) hg
      · unfold updM
        split
        · omega
        · exact hmm i hi
      · unfold updM
        split
        · omega
        · exact hm1 i hi
    · rw [if_neg c2]
      exact S
  · rw [if_neg c1]
    exact S
theorem SV.g_row (S : SV s l le mo nb bA bB bW) (p k x : Int32) : SV (f_row s p k x).2 l le mo nb bA bB bW := by
  obtain ⟨n6, hn5, hn6⟩ := S.1.1
  unfold f_row
  by_cases c1 : okP s p
  · rw [if_pos c1]
    obtain ⟨j, hj, rfl⟩ := okP_no hn5 hn6 c1
    by_cases c2 : 0 ≤ k ∧ k ≤ 3
    · rw [if_pos c2]
      obtain ⟨k, hk, rfl⟩ := i_nat (n := 3) c2.1 c2.2 (by omega)
      by_cases c3 : 0 ≤ x ∧ x ≤ 9
      · rw [if_pos c3]
        obtain ⟨x, hx, rfl⟩ := i_nat (n := 9) c3.1 c3.2 (by omega)
        rw [i_cl j (by omega), i_cl k (by omega)]
        split
        · exact S.row (by omega) (by omega) hx
        · exact S
      · rw [if_neg c3]
        exact S
    · rw [if_neg c2]
      exact S
  · rw [if_neg c1]
    exact S
theorem SV.g_player (S : SV s l le mo nb bA bB bW) (kd v : Int32) : SV (f_player s kd v).2 l le mo nb bA bB bW := by
  obtain ⟨n6, hn5, hn6⟩ := S.1.1
  unfold f_player
  by_cases c1 : 0 ≤ kd ∧ kd ≤ 6
  · rw [if_pos c1]
    obtain ⟨kd, hkd, rfl⟩ := i_nat (n := 6) c1.1 c1.2 (by omega)
    by_cases c2 : 0 ≤ v ∧ v ≤ 9
    · rw [if_pos c2]
      obtain ⟨v, hv, rfl⟩ := i_nat (n := 9) c2.1 c2.2 (by omega)
      by_cases c3 : s 6 = 5
      · rw [if_pos c3]
        exact S
      · have h5 : n6 < 5 := by
          rcases Nat.lt_or_ge n6 5 with z | z
          · exact z
          · exact absurd (by rw [hn6, show n6 = 5 by omega]; rfl) c3
        rw [if_neg c3, hn6, i_cl n6 (by omega), nI_p1]
        dsimp only
        refine S.player hn6 h5 (show kd < 7 by omega) hv (upd_s _ _ _) ?_ ?_ ?_ (fun k hk => ?_) (fun j j1 j2 j3 j4 j5 => ?_)
        · exact (upd_n _ _ (by omega)).trans ((if_neg (by omega)).trans (upd_s _ _ _))
        · exact (upd_n _ _ (by omega)).trans ((if_neg (by omega)).trans ((upd_n _ _ (by omega)).trans ((upd_n _ _ (by omega)).trans (upd_s _ _ _))))
        · exact (upd_n _ _ (by omega)).trans ((if_neg (by omega)).trans ((upd_n _ _ (by omega)).trans (upd_s _ _ _)))
        · exact (upd_n _ _ (by omega)).trans (if_pos (by omega))
        · exact (upd_n _ _ j1).trans ((if_neg j5).trans ((upd_n _ _ j2).trans ((upd_n _ _ j4).trans (upd_n _ _ j3))))
    · rw [if_neg c2]
      exact S
  · rw [if_neg c1]
    exact S
theorem SV.g_tale (S : SV s l le mo nb bA bB bW) (x : Int32) : SV (f_tale s x).2 l le mo nb bA bB bW := by
  obtain ⟨nt, ta, t1, t2, t3⟩ := S.2.2.2.1
  unfold f_tale
  by_cases c1 : x = -1
  · rw [if_pos c1]
    dsimp only
    exact S.tale (fun j j1 _ => upd_n _ _ j1) ⟨0, ta, upd_s _ _ _, by omega, fun k hk => absurd hk (by omega)⟩
  · rw [if_neg c1]
    by_cases c2 : 1 ≤ x ∧ x ≤ 20
    · rw [if_pos c2]
      obtain ⟨k, hk, rfl⟩ := i_nat (n := 20) (Int32.le_trans (by decide) c2.1) c2.2 (by omega)
      by_cases c3 : s 9 = 8
      · rw [if_pos c3]
        exact S
      · have h8 : nt < 8 := by
          rcases Nat.lt_or_ge nt 8 with z | z
          · exact z
          · exact absurd (by rw [t1, show nt = 8 by omega]; rfl) c3
        rw [if_neg c3, t1, i_cl nt (by omega), nI_p1]
        dsimp only
        refine S.tale (fun j j1 j2 => (upd_n _ _ j1).trans (upd_n _ _ (by omega))) ⟨nt + 1, updM ta nt k, upd_s _ _ _, by omega, fun i hi => ?_⟩
        unfold updM
        by_cases e : i = nt
        · subst e
          rw [if_pos rfl]
          exact ⟨(upd_n _ _ (by omega)).trans (upd_s _ _ _), hk⟩
        · rw [if_neg e]
          obtain ⟨y1, y2⟩ := t3 i (by omega)
          exact ⟨(upd_n _ _ (by omega)).trans ((upd_n _ _ (by omega)).trans y1), y2⟩
    · rw [if_neg c2]
      exact S
theorem fp_no {x y w : Int32} (v : ¬ (okP s x ∧ okP s y)) : f_play s x y w = (-1, s) := by
  unfold f_play
  by_cases c : okP s x
  · rw [if_pos c, if_neg (fun z => v ⟨c, z⟩)]
  · rw [if_neg c]
theorem fp_eq {x y w : Int32} (va : okP s x) (vb : okP s y) (e : x = y) : f_play s x y w = (-2, s) := by
  unfold f_play
  rw [if_pos va, if_pos vb, if_pos e]
theorem fp_g {x y w : Int32} (va : okP s x) (vb : okP s y) (e : x ≠ y) (g : s 0 = 9999) : f_play s x y w = (-3, s) := by
  unfold f_play
  rw [if_pos va, if_pos vb, if_neg e, if_pos g]
theorem f_plays_n (hG : sG s l le mo) {mm : Nat → Nat} {g : Nat} (hmm : ∀ j, j < 5 → mm j ≤ 20) (hs : s_at s mm g = s) {a b : Nat} (ha : a < 5) (hb : b < 5) (hab : a ≠ b) : f_plays s a b = s_at s (n_play le mo mm a b) (g + 1) := by
  have ea := hmm a ha
  have eb := hmm b hb
  have eF : f_fewer s (s (1 + a)) = nI (n_few le (mm a)) := by
    rw [s_at_j hs ha]
    exact f_fewer_n hG.2.2.1.1 hG.2.2.1.2 (by omega)
  have eG : f_more (upd s (1 + a) (nI (n_few le (mm a)))) (nI (mm b)) = nI (n_mor mo (mm b)) := by
    refine f_more_n ?_ hG.2.2.2.2 (by omega)
    refine Eq.trans ?_ hG.2.2.2.1
    unfold f_tells
    rw [upd_n _ _ (show 11 ≠ 1 + a by omega)]
    split
    · rfl
    · exact upd_n _ _ (by omega)
  have e1 := s_at_um s mm g (n_few le (mm a)) ha
  rw [hs] at e1
  unfold f_plays n_play
  rw [eF, upd_n _ _ (show 1 + b ≠ 1 + a by omega), s_at_j hs hb, eG, e1, s_at_um _ _ _ _ hb, s_at_z hs, nI_p1, s_at_ug]
theorem fp_w (hG : sG s l le mo) {mm : Nat → Nat} {g : Nat} (hmm : ∀ j, j < 5 → mm j ≤ 20) (hs : s_at s mm g = s) {a b : Nat} (ha : a < 5) (hb : b < 5) (hab : a ≠ b) (va : okP s (nI a)) (vb : okP s (nI b)) (hg : g < 9999) : f_play s (nI a) (nI b) 1 = (nI (n_play le mo mm a b a), s_at s (n_play le mo mm a b) (g + 1)) ∧ f_play s (nI a) (nI b) 0 = (nI (n_play le mo mm b a a), s_at s (n_play le mo mm b a) (g + 1)) := by
  have e1 : ¬ nI a = nI b := fun z => hab ((nI_eq (by omega) (by omega)).mp z)
  have e2 : ¬ s 0 = 9999 := fun z => by
    have := (nI_eq (a := g) (b := 9999) (by omega) (by omega)).mp ((s_at_z hs).symm.trans z)
    omega
  have ez : ∀ m2 : Nat → Nat, s_at s m2 (g + 1) (1 + a) = nI (m2 a) := fun m2 => by
    unfold s_at
    rw [if_neg (by omega), if_pos (by omega), Nat.add_sub_cancel_left]
  unfold f_play
  rw [if_pos va, if_pos vb, if_neg e1, if_neg e2, if_neg (by decide), if_pos va, if_pos vb, if_neg e1, if_neg e2, if_pos rfl, i_cl a (by omega), i_cl b (by omega), f_plays_n hG hmm hs ha hb hab, f_plays_n hG hmm hs hb ha (fun z => hab z.symm), ez, ez]
  exact ⟨rfl, rfl⟩
theorem n_play_bd {mm : Nat → Nat} {n a b : Nat} (hmm : ∀ j, j < 5 → mm j ≤ 20) (hm1 : ∀ j, j < n → 1 ≤ mm j) (ha : a < 5) (hb : b < n) (le mo : Nat) : (∀ j, j < 5 → n_play le mo mm a b j ≤ 20) ∧ ∀ j, j < n → 1 ≤ n_play le mo mm a b j := by
  refine ⟨fun j hj => ?_, fun j hj => ?_⟩
  · unfold n_play updM
    split
    · exact n_mor_le
    · split
      · exact n_few_le (hmm a ha)
      · exact hmm j hj
  · unfold n_play updM
    split
    · exact n_mor_pos (hm1 b hb)
    · split
      · exact n_few_pos _ _
      · exact hm1 j hj
theorem SV.g_play (S : SV s l le mo nb bA bB bW) (x y w : Int32) (hw : w = 0 ∨ w = 1) : SV (f_play s x y w).2 l le mo nb bA bB bW := by
  obtain ⟨n6, mm, g, hn6, hn5, hmm, hm1, hs, hg⟩ := S.2.2.2.2.1
  by_cases v : okP s x ∧ okP s y
  · by_cases e : x = y
    · rw [fp_eq v.1 v.2 e]
      exact S
    · by_cases g9 : s 0 = 9999
      · rw [fp_g v.1 v.2 e g9]
        exact S
      · have hg9 : g < 9999 := by
          rcases Nat.lt_or_ge g 9999 with z | z
          · exact z
          · exact absurd ((s_at_z hs).trans (by rw [show g = 9999 by omega]; rfl)) g9
        obtain ⟨a, ha, rfl⟩ := okP_no hn5 hn6 v.1
        obtain ⟨b, hb, rfl⟩ := okP_no hn5 hn6 v.2
        have hab : a ≠ b := fun z => e (by rw [z])
        obtain ⟨e1, e0⟩ := fp_w S.2.1 hmm hs (by omega) (by omega) hab v.1 v.2 hg9
        rcases hw with rfl | rfl
        · rw [e0]
          obtain ⟨y1, y2⟩ := n_play_bd hmm hm1 (show b < 5 by omega) ha le mo
          exact S.m hn6 hn5 y1 y2 (by omega)
        · rw [e1]
          obtain ⟨y1, y2⟩ := n_play_bd hmm hm1 (show a < 5 by omega) hb le mo
          exact S.m hn6 hn5 y1 y2 (by omega)
  · rw [fp_no v]
    exact S
theorem SV.bookM (S : SV s l le mo nb bA bB bW) {a b : Nat} (w : Bool) (ha : a < 5) (hb : b < 5) (hab : a ≠ b) (hnb : nb < 8) : SV (upd (upd (upd (upd s (42 + nb) (nI a)) (50 + nb) (nI b)) (58 + nb) (bI w)) 8 (nI (nb + 1))) l le mo (nb + 1) (updM bA nb a) (updM bB nb b) (fun k => if k = nb then w else bW k) := by
  obtain ⟨b1, b2, b3⟩ := S.2.2.1
  refine S.book (fun j j1 j2 => (upd_n _ _ j1).trans ((upd_n _ _ (by omega)).trans ((upd_n _ _ (by omega)).trans (upd_n _ _ (by omega))))) ⟨upd_s _ _ _, by omega, fun k hk => ?_⟩
  unfold updM
  dsimp only
  by_cases e : k = nb
  · subst e
    rw [if_pos rfl, if_pos rfl, if_pos rfl]
    exact ⟨(upd_n _ _ (by omega)).trans ((upd_n _ _ (by omega)).trans ((upd_n _ _ (by omega)).trans (upd_s _ _ _))), (upd_n _ _ (by omega)).trans ((upd_n _ _ (by omega)).trans (upd_s _ _ _)), (upd_n _ _ (by omega)).trans (upd_s _ _ _), ha, hb, hab⟩
  · rw [if_neg e, if_neg e, if_neg e]
    obtain ⟨y1, y2, y3, y4⟩ := b3 k (by omega)
    exact ⟨(upd_n _ _ (by omega)).trans ((upd_n _ _ (by omega)).trans ((upd_n _ _ (by omega)).trans ((upd_n _ _ (by omega)).trans y1))), (upd_n _ _ (by omega)).trans ((upd_n _ _ (by omega)).trans ((upd_n _ _ (by omega)).trans ((upd_n _ _ (by omega)).trans y2))), (upd_n _ _ (by omega)).trans ((upd_n _ _ (by omega)).trans ((upd_n _ _ (by omega)).trans ((upd_n _ _ (by omega)).trans y3))), y4⟩
theorem b_w_u (bA bB : Nat → Nat) (bW : Nat → Bool) (nb a b : Nat) (w : Bool) : b_w (updM bA nb a) (updM bB nb b) (fun k => if k = nb then w else bW k) = updM (b_w bA bB bW) nb (cond w a b) := by
  funext k
  unfold b_w updM
  dsimp only
  by_cases e : k = nb
  · rw [if_pos e, if_pos e, if_pos e, if_pos e]
  · rw [if_neg e, if_neg e, if_neg e, if_neg e]
theorem fb_r {y w : Int32} : f_book s (-1) y w = (0, upd s 8 0) := by
  unfold f_book
  rw [if_pos rfl]
theorem fb_no {x y w : Int32} (n : ¬ x = -1) (v : ¬ (okP s x ∧ okP s y)) : f_book s x y w = (-1, s) := by
  unfold f_book
  rw [if_neg n]
  by_cases c : okP s x
  · rw [if_pos c, if_neg (fun z => v ⟨c, z⟩)]
  · rw [if_neg c]
theorem fb_eq {x y w : Int32} (n : ¬ x = -1) (va : okP s x) (vb : okP s y) (e : x = y) : f_book s x y w = (-2, s) := by
  unfold f_book
  rw [if_neg n, if_pos va, if_pos vb, if_pos e]
theorem fb_8 {x y w : Int32} (n : ¬ x = -1) (va : okP s x) (vb : okP s y) (e : x ≠ y) (h8 : s 8 = 8) : f_book s x y w = (-4, s) := by
  unfold f_book
  rw [if_neg n, if_pos va, if_pos vb, if_neg e, if_pos h8]
theorem fb_w {x y w : Int32} (n : ¬ x = -1) (va : okP s x) (vb : okP s y) (e : x ≠ y) (h8 : s 8 = nI nb) (hnb : nb < 8) : f_book s x y w = (nI (nb + 1), upd (upd (upd (upd s (42 + nb) x) (50 + nb) y) (58 + nb) w) 8 (nI (nb + 1))) := by
  unfold f_book
  rw [if_neg n, if_pos va, if_pos vb, if_neg e, if_neg (fun z => by have := (nI_eq (a := nb) (b := 8) (by omega) (by omega)).mp (h8.symm.trans z); omega), h8, i_cl nb (by omega), nI_p1]
theorem SV.book0 (S : SV s l le mo nb bA bB bW) : SV (upd s 8 0) l le mo 0 bA bB bW := S.book (fun j j1 _ => upd_n _ _ j1) ⟨upd_s _ _ _, by omega, fun k hk => absurd hk (by omega)⟩
end
