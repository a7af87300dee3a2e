/-! A small machine of this proof's own: heaps are functions of small addresses, locals are lists; one step of it stands for one instruction. -/
abbrev mE : Type := (Nat × vp_A) ⊕ (Nat × List Value)
abbrev mH : Type := Nat → mE
abbrev mL : Type := List (Option Value)
/-- an instruction: itself, where it goes on, its resolved numbers, the constant that it pushes -/
abbrev mEnt : Type := Instr × Nat × List Nat × Value
abbrev mS : Type := Nat × mL × List Value × mH
abbrev mR : Type := mS ⊕ ((Nat × List Value × Nat × List Value) ⊕ Option Value)
abbrev mT (α : Type) : Type := Nat → Option α
abbrev mC : Type := mT mEnt
def m_nd {α : Type} (k : Nat) (l r : mT α) : mT α := fun pc => cond (Nat.ble k pc) (r pc) (l pc)
def m_lf {α : Type} (k : Nat) (e : α) : mT α := fun pc => cond (Nat.beq k pc) (some e) none
def m_no : mC := fun _ => none
def m_nd2 (k : Nat) (l r : Nat → mC) : Nat → mC := fun y => cond (Nat.ble k y) (r y) (l y)
def m_lf2 (k : Nat) (e : mC) : Nat → mC := fun y => cond (Nat.beq k y) e m_no
def m_nth {α : Type} : List α → Nat → Option α
  | [], _ => none
  | a :: l, n => match n with
    | 0 => some a
    | n + 1 => m_nth l n
def m_up (h : mH) (a : Nat) (c : mE) : mH := fun k => cond (Nat.beq k a) c (h k)
def m_nx (h : mH) : Nat := match h 0 with
  | .inr (n, _) => n
  | .inl _ => 0
def m_us (h : mH) : Nat := match h 1 with
  | .inr (n, _) => n
  | .inl _ => 0
/-- a cell more, of so many places -/
def m_al (h : mH) (c : mE) (sz : Nat) : mH := fun k => cond (Nat.beq k 0) (.inr (m_nx h + 1, [])) (cond (Nat.beq k 1) (.inr (m_us h + sz, [])) (cond (Nat.beq k (m_nx h)) c (h k)))
def m_cat : List Value → Nat
  | [] => 0
  | v :: r => v.category + m_cat r
def m_lay : List Value → mL
  | [] => []
  | .long x :: r => some (.long x) :: none :: m_lay r
  | .int x :: r => some (.int x) :: m_lay r
  | .ref x :: r => some (.ref x) :: m_lay r
  | .null :: r => some .null :: m_lay r
  | .double _ :: r => none :: none :: m_lay r
  | _ :: r => none :: m_lay r
def m_fill (n : Nat) (l : mL) : mL := l ++ List.replicate (n - l.length) none
def m_cmp (c : ClassFile.Cond) (x y : Int32) : Bool := match c with
  | .eq => decide (x = y)
  | .ne => decide (¬ x = y)
  | .lt => decide (x < y)
  | .ge => decide (y ≤ x)
  | .gt => decide (y < x)
  | .le => decide (x ≤ y)
/-- what a class's object holds when it is new -/
def m_new (ci : Nat) : List Value := match ci with
  | 0 => [.null, .int 0, .int 0, .int 0, .int 0]
  | 1 => [.null, .int 0, .null, .null]
  | 2 => [.null, .null, .null, .int 0, .int 0, .int 0, .int 0, .int 0]
  | 3 => [.int 0, .int 0, .null]
  | 4 => [.null, .int 0, .long 0, .null, .null, .null, .int 0]
  | 5 => [.null, .int 0, .int 0]
  | 6 => [.int 0, .int 0, .int 0, .null, .int 0, .null, .int 0]
  | 7 => [.int 0, .null, .null, .null, .null, .int 0, .int 0, .null, .null, .int 0, .null, .null, .int 0, .null, .int 0, .null]
  | 8 => [.null, .null, .int 0, .int 0]
  | 9 => [.null, .null, .null, .null, .null, .null, .null, .null, .null, .int 0]
  | 10 => [.int 0, .null, .null, .null, .int 0, .int 0, .int 0, .int 0, .int 0, .int 0, .null, .null, .null, .null, .long 0, .int 0, .null, .null, .long 0, .null, .int 0, .int 0, .int 0, .int 0]
  | _ => []
def m_in (i : Int32) (n : Nat) : Bool := !decide (i < 0) && Nat.ble (i.toNatClampNeg + 1) n
