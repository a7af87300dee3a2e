/-! States by men and game; fewer and more by numbers. -/
def n_few (le m : Nat) : Nat := if m - le < 1 then 1 else m - le
def n_mor (mo m : Nat) : Nat := if 20 < m + mo then 20 else m + mo
theorem n_few_le {le m : Nat} (h : m ≤ 20) : n_few le m ≤ 20 := by
  unfold n_few
  split <;> omega
theorem n_few_pos (le m : Nat) : 1 ≤ n_few le m := by
  unfold n_few
  split <;> omega
theorem n_mor_le {mo m : Nat} : n_mor mo m ≤ 20 := by
  unfold n_mor
  split <;> omega
theorem n_mor_pos {mo m : Nat} (h : 1 ≤ m) : 1 ≤ n_mor mo m := by
  unfold n_mor
  split <;> omega
theorem f_fewer_n {s : Nat → Int32} {le m : Nat} (h : f_tells s 174 = nI le) (hl : le ≤ 99) (hm : m ≤ 1000) : f_fewer s (nI m) = nI (n_few le m) := by
  unfold f_fewer n_few
  rw [h]
  by_cases c : m - le < 1
  · rw [if_pos c]
    by_cases c2 : m < le
    · rw [if_pos (Int32.lt_trans (pk_sneg (by omega) c2) (by decide))]
      rfl
    · rw [pk_sub (by omega), show m - le = 0 by omega]
      rfl
  · rw [if_neg c, pk_sub (by omega), if_neg (show ¬ nI (m - le) < 1 from Int32.not_lt.mpr (nI_le (a := 1) (by omega) (by omega)))]
theorem f_more_n {s : Nat → Int32} {mo m : Nat} (h : f_tells s 179 = nI mo) (hl : mo ≤ 99) (hm : m ≤ 1000) : f_more s (nI m) = nI (n_mor mo m) := by
  unfold f_more n_mor
  rw [h, nI_add]
  by_cases c : 20 < m + mo
  · rw [if_pos c, if_pos (show 20 < nI (m + mo) from nI_lt (a := 20) c (by omega))]
    rfl
  · rw [if_neg c, if_neg (show ¬ 20 < nI (m + mo) from Int32.not_lt.mpr (nI_le (b := 20) (by omega) (by omega)))]
def s_at (s : Nat → Int32) (mm : Nat → Nat) (g : Nat) : Nat → Int32 := fun k => if k = 0 then nI g else if k ≤ 5 then nI (mm (k - 1)) else s k
theorem s_at_0 (s : Nat → Int32) (mm : Nat → Nat) (g : Nat) : s_at s mm g 0 = nI g := rfl
theorem s_at_m (s : Nat → Int32) (mm : Nat → Nat) (g : Nat) {j : Nat} (hj : j < 5) : s_at s mm g (1 + j) = nI (mm j) := by
  unfold s_at
  rw [if_neg (by omega), if_pos (by omega), show 1 + j - 1 = j by omega]
theorem s_at_k (s : Nat → Int32) (mm : Nat → Nat) (g : Nat) {k : Nat} (hk : 6 ≤ k) : s_at s mm g k = s k := by
  unfold s_at
  rw [if_neg (by omega), if_neg (by omega)]
theorem s_at_um (s : Nat → Int32) (mm : Nat → Nat) (g x : Nat) {j : Nat} (hj : j < 5) : upd (s_at s mm g) (1 + j) (nI x) = s_at s (updM mm j x) g := by
  funext k
  unfold upd s_at updM
  by_cases e : k = 1 + j
  · subst e
    rw [if_pos rfl, if_neg (by omega), if_pos (by omega), if_pos (by omega)]
  · rw [if_neg e]
    by_cases e0 : k = 0
    · rw [if_pos e0, if_pos e0]
    · rw [if_neg e0, if_neg e0, if_neg (show ¬ k - 1 = j by omega)]
theorem s_at_ug (s : Nat → Int32) (mm : Nat → Nat) (g x : Nat) : upd (s_at s mm g) 0 (nI x) = s_at s mm x := by
  funext k
  unfold upd s_at
  by_cases e0 : k = 0
  · rw [if_pos e0, if_pos e0]
  · rw [if_neg e0, if_neg e0, if_neg e0]
theorem s_at_id {s : Nat → Int32} {mm : Nat → Nat} {g : Nat} (hm : ∀ j, j < 5 → s (1 + j) = nI (mm j)) (hg : s 0 = nI g) : s_at s mm g = s := by
  funext k
  unfold s_at
  by_cases e0 : k = 0
  · rw [if_pos e0, e0, hg]
  · rw [if_neg e0]
    by_cases e5 : k ≤ 5
    · rw [if_pos e5, ← hm (k - 1) (by omega), show 1 + (k - 1) = k by omega]
    · rw [if_neg e5]
theorem updM_s (f : Nat → Nat) (k x : Nat) : updM f k x k = x := if_pos rfl
theorem updM_n (f : Nat → Nat) {k j x : Nat} (h : j ≠ k) : updM f k x j = f j := if_neg h
theorem updM_u (f : Nat → Nat) (k x y : Nat) : updM (updM f k x) k y = updM f k y := by
  funext j
  unfold updM
  split <;> rfl
theorem updM_id (f : Nat → Nat) {k x : Nat} (h : f k = x) : updM f k x = f := by
  funext j
  unfold updM
  split
  · rename_i e; rw [e, h]
  · rfl
theorem updM_c (f : Nat → Nat) {j k x y : Nat} (h : j ≠ k) : updM (updM f j x) k y = updM (updM f k y) j x := by
  funext i
  unfold updM
  by_cases e : i = j
  · subst e
    rw [if_neg h, if_pos rfl, if_pos rfl]
  · rw [if_neg e, if_neg e]
theorem t_C_c {s s2 : Nat → Int32} (h : ∀ k, 189 ≤ k → s2 k = s k) : ∀ {l : List Tok} {k : Nat}, 189 ≤ k → t_C s k l → t_C s2 k l
  | [], _, _, _ => trivial
  | t :: l, k, hk, hc => ⟨(h k hk).trans hc.1, t_C_c h (by omega) hc.2⟩
theorem s_L_c {s s2 : Nat → Int32} {l : List Tok} (h : ∀ k, 184 ≤ k → s2 k = s k) (h11 : s2 11 = s 11) (hL : s_L s l) : s_L s2 l := by
  obtain ⟨hw, hl, hL⟩ := hL
  refine ⟨hw, hl, ?_⟩
  rw [h11]
  rcases hL with z | ⟨a, ha, hs, hm, hc⟩
  · exact Or.inl z
  · exact Or.inr ⟨a, ha, hs, (h (184 + a) (by omega)).trans hm, t_C_c (fun k hk => h k (by omega)) (by omega) hc⟩
/-- what holds through games: the inn, and how many men go and come -/
def sG (s : Nat → Int32) (l : List Tok) (le mo : Nat) : Prop := s_L s l ∧ s_T s ∧ (f_tells s 174 = nI le ∧ le ≤ 99) ∧ (f_tells s 179 = nI mo ∧ mo ≤ 99)
theorem f_tells_c {s s2 : Nat → Int32} {w : Nat} (h : ∀ k, w ≤ k → s2 k = s k) (h11 : s2 11 = s 11) : f_tells s2 w = f_tells s w := by
  unfold f_tells
  rw [h11, h _ (by omega)]
theorem sG_c {s s2 : Nat → Int32} {l : List Tok} {le mo : Nat} (h : ∀ k, 174 ≤ k → s2 k = s k) (h11 : s2 11 = s 11) (hL : sG s l le mo) : sG s2 l le mo :=
  ⟨s_L_c (fun k hk => h k (by omega)) h11 hL.1, by unfold s_T; rw [h11]; exact hL.2.1, by rw [f_tells_c h h11]; exact hL.2.2.1, by rw [f_tells_c (fun k hk => h k (by omega)) h11]; exact hL.2.2.2⟩
theorem sG_at {s : Nat → Int32} {l : List Tok} {le mo : Nat} (mm : Nat → Nat) (g : Nat) (hL : sG s l le mo) : sG (s_at s mm g) l le mo := sG_c (fun k hk => s_at_k s mm g (by omega)) (s_at_k s mm g (by omega)) hL
/-- odds by number -/
def a_od (s : Nat → Int32) (l : List Tok) (p q m o g : Nat) : Nat := (a_oI s l p q m o g).toNatClampNeg
theorem v_clamp_n (x : Int32) : ∃ k : Nat, 1 ≤ k ∧ k ≤ 9 ∧ v_clamp x = nI k := by
  unfold v_clamp
  by_cases c : x < 1
  · exact ⟨1, by omega, by omega, if_pos c⟩
  · rw [if_neg c]
    by_cases c2 : 9 < x
    · exact ⟨9, by omega, by omega, if_pos c2⟩
    · rw [if_neg c2]
      obtain ⟨k, hk, rfl⟩ := i_nat (n := 9) (Int32.le_trans (show (0 : Int32) ≤ 1 by decide) (Int32.not_lt.mp c)) (Int32.not_lt.mp c2) (by omega)
      refine ⟨k, ?_, hk, rfl⟩
      rcases Nat.eq_zero_or_pos k with z | z
      · subst z; exact absurd (by decide) c
      · exact z
theorem a_od_n (s : Nat → Int32) (l : List Tok) (p q m o g : Nat) : a_oI s l p q m o g = nI (a_od s l p q m o g) ∧ 1 ≤ a_od s l p q m o g ∧ a_od s l p q m o g ≤ 9 := by
  obtain ⟨k, h1, h9, e⟩ := v_clamp_n (5 + a_push s l p m o g - a_push s l q o m g + (nI m - nI o) / 2)
  have e2 : a_oI s l p q m o g = nI k := e
  unfold a_od
  rw [e2, i_cl k (by omega)]
  exact ⟨rfl, h1, h9⟩
theorem a_by_c {s s2 : Nat → Int32} {p m o g : Nat} (h : s2 (12 + p) = s (12 + p)) : a_by s2 p m o g = a_by s p m o g := by
  funext k
  match k with
  | 0 => rfl
  | 1 => exact h
  | 2 => rfl
  | 3 => rfl
  | k + 4 => rfl
theorem a_push_c {s s2 : Nat → Int32} (h : ∀ k, 12 ≤ k → s2 k = s k) (l : List Tok) (p m o g : Nat) : a_push s2 l p m o g = a_push s l p m o g := by
  unfold a_push
  rw [a_by_c (h _ (by omega)), h (12 + p) (by omega), h (17 + p) (by omega), h (22 + 4 * p + g % 4) (by omega)]
theorem a_od_c {s s2 : Nat → Int32} (h : ∀ k, 12 ≤ k → s2 k = s k) (l : List Tok) (p q m o g : Nat) : a_od s2 l p q m o g = a_od s l p q m o g := by
  unfold a_od a_oI
  rw [a_push_c h, a_push_c h]
theorem a_od_at (s : Nat → Int32) (mm : Nat → Nat) (G : Nat) (l : List Tok) (p q m o g : Nat) : a_od (s_at s mm G) l p q m o g = a_od s l p q m o g := a_od_c (fun k hk => s_at_k s mm G (by omega)) l p q m o g
/-- the heap but for some cells; lifted's rows are there -/
def rX (c : List Nat) (h h2 : mH) : Prop := (∀ a, a ∉ c → h2 a = h a) ∧ (∃ f, h2 80 = .inl (0, 5, .inl f)) ∧ ∃ g, h2 81 = .inl (2, 64, .inl g)
theorem rX.tr {c : List Nat} {h h2 h3 : mH} (a : rX c h h2) (b : rX c h2 h3) : rX c h h3 := ⟨fun k hk => (b.1 k hk).trans (a.1 k hk), b.2⟩
theorem rX.mono {c e : List Nat} {h h2 : mH} (a : rX c h h2) (he : ∀ k, k ∈ c → k ∈ e) : rX e h h2 := ⟨fun k hk => a.1 k (fun z => hk (he k z)), a.2⟩
theorem rO.rX {h h2 : mH} (a : rO h h2) : rX [77, 80, 81] h h2 := ⟨fun k hk => a.1 k (fun z => hk (by subst z; decide)) (fun z => hk (by subst z; decide)), a.2⟩
theorem rX.nx {c : List Nat} {h h2 : mH} (a : rX c h h2) (h0 : 0 ∉ c) : m_nx h2 = m_nx h := by
  unfold m_nx
  rw [a.1 0 h0]
theorem rX.up {c : List Nat} {h h2 : mH} (a : rX c h h2) {k : Nat} {e : mE} (hk : k ∈ c) (h80 : k ≠ 80) (h81 : k ≠ 81) : rX c h (m_up h2 k e) :=
  ⟨fun j hj => by rw [m_up_n (fun z => hj (by rw [z]; exact hk))]; exact a.1 j hj, by rw [m_up_n (Ne.symm h80)]; exact a.2.1, by rw [m_up_n (Ne.symm h81)]; exact a.2.2⟩
theorem rX.rfl' {c : List Nat} {h : mH} (h80 : ∃ f, h 80 = .inl (0, 5, .inl f)) (h81 : ∃ g, h 81 = .inl (2, 64, .inl g)) : rX c h h := ⟨fun _ _ => rfl, h80, h81⟩
theorem e_fewer_at (d : Nat) (h : mH) (s i : Nat → Int32) (o t : Nat) (pd bw : Int64) (Q : Option Value → mH → Prop) (mm : Nat → Nat) (g : Nat) (hM : h 76 = .inr (10, mObj i o t pd bw)) (h77 : h 77 = .inl (0, 889, .inl (s_at s mm g))) (hN : 87 ≤ m_nx h) {l : List Tok} {le mo : Nat} (hG : sG s l le mo) (x : Int32) (m : Nat) (hx : x = nI m) (hm : m ≤ 1000) (K : Q (some (.int (nI (n_few le m)))) h) : mT0 (d + 1) z_X10_fewer 0 (m_init z_X10_fewer [.ref 76, .int x]) [] h Q := by
  subst hx
  refine e_fewer d h (s_at s mm g) i o t pd bw Q hM h77 hN (sG_at mm g hG).2.1 (nI m) ?_
  rw [f_fewer_n (sG_at mm g hG).2.2.1.1 hG.2.2.1.2 hm]
  exact K
theorem e_moreOf_at (d : Nat) (h : mH) (s i : Nat → Int32) (o t : Nat) (pd bw : Int64) (Q : Option Value → mH → Prop) (mm : Nat → Nat) (g : Nat) (hM : h 76 = .inr (10, mObj i o t pd bw)) (h77 : h 77 = .inl (0, 889, .inl (s_at s mm g))) (hN : 87 ≤ m_nx h) {l : List Tok} {le mo : Nat} (hG : sG s l le mo) (x : Int32) (m : Nat) (hx : x = nI m) (hm : m ≤ 1000) (K : Q (some (.int (nI (n_mor mo m)))) h) : mT0 (d + 1) z_X10_moreOf 0 (m_init z_X10_moreOf [.ref 76, .int x]) [] h Q := by
  subst hx
  refine e_moreOf d h (s_at s mm g) i o t pd bw Q hM h77 hN (sG_at mm g hG).2.1 (nI m) ?_
  rw [f_more_n (sG_at mm g hG).2.2.2.1 hG.2.2.2.2 hm]
  exact K
theorem e_odds_at (d : Nat) (h : mH) (s i : Nat → Int32) (o t : Nat) (pd bw : Int64) (Q : Option Value → mH → Prop) (mm : Nat → Nat) (g : Nat) (hM : h 76 = .inr (10, mObj i o t pd bw)) (h77 : h 77 = .inl (0, 889, .inl (s_at s mm g))) (hN : 87 ≤ m_nx h) {l : List Tok} {le mo : Nat} (hG : sG s l le mo) (p q : Nat) (hp : p < 5) (hq : q < 5) (hg2 : g < 2 ^ 31) (h80 : ∃ f, h 80 = .inl (0, 5, .inl f)) (h81 : ∃ g, h 81 = .inl (2, 64, .inl g)) (K : ∀ h2, rX [77, 80, 81] h h2 → h2 77 = .inl (0, 889, .inl (s_at s mm g)) → Q (some (.int (nI (a_od s l p q (mm p) (mm q) g)))) h2) : mT0 (d + 2) z_X10_oddsOf 0 (m_init z_X10_oddsOf [.ref 76, .int (nI p), .int (nI q)]) [] h Q := by
  refine e_oddsOf d h (s_at s mm g) i o t pd bw Q hM h77 hN p q hp hq l (sG_at mm g hG).1 h80 h81 (mm p) (mm q) g (s_at_m s mm g hp) (s_at_m s mm g hq) rfl hg2 (fun h2 hr => ?_)
  have K := K h2 hr.rX ((hr.1 77 (by decide) (by decide)).trans h77)
  rw [(a_od_n (s_at s mm g) l p q (mm p) (mm q) g).1, a_od_at]
  exact K
def n_play (le mo : Nat) (mm : Nat → Nat) (w l : Nat) : Nat → Nat := updM (updM mm w (n_few le (mm w))) l (n_mor mo (mm l))
theorem e_plays_at (d : Nat) (h : mH) (s i : Nat → Int32) (o t : Nat) (pd bw : Int64) (Q : Option Value → mH → Prop) (mm : Nat → Nat) (g : Nat) (hM : h 76 = .inr (10, mObj i o t pd bw)) (h77 : h 77 = .inl (0, 889, .inl (s_at s mm g))) (hN : 87 ≤ m_nx h) {l : List Tok} {le mo : Nat} (hG : sG s l le mo) (w k : Nat) (hw : w < 5) (hk : k < 5) (hwk : w ≠ k) (h1 : mm w ≤ 1000) (h2 : mm k ≤ 1000) (K : Q none (m_up h 77 (.inl (0, 889, .inl (s_at s (n_play le mo mm w k) (g + 1)))))) : mT0 (d + 2) z_X10_plays 0 (m_init z_X10_plays [.ref 76, .int (nI w), .int (nI k)]) [] h Q := by
  refine e_plays d h (s_at s mm g) i o t pd bw Q hM h77 hN (sG_at mm g hG).2.1 (nI w) (nI k) w k rfl rfl hw hk ?_
  have e : f_plays (s_at s mm g) w k = s_at s (n_play le mo mm w k) (g + 1) := by
    unfold f_plays n_play
    rw [s_at_m s mm g hw, f_fewer_n (sG_at mm g hG).2.2.1.1 hG.2.2.1.2 h1, s_at_um s mm g _ hw, s_at_m s _ g hk, updM_n mm (Ne.symm hwk), f_more_n (sG_at _ g hG).2.2.2.1 hG.2.2.2.2 h2, s_at_um s _ g _ hk, s_at_0, nI_1, s_at_ug]
  rw [e]
  exact K
