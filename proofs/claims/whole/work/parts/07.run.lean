/-! One step, and runs of the small machine. -/
section Steps
variable (nx : Nat) (ops : List Nat) (ls : mL) (st : List Value) (h : mH)
def m_bi (f : Int32 → Int32 → Int32) : Option mR := match st with
  | .int y :: .int x :: r => some (.inl (nx, ls, .int (f x y) :: r, h))
  | _ => none
def m_bd (f : Int32 → Int32 → Int32) : Option mR := match st with
  | .int y :: .int x :: r => cond (decide (y = 0)) none (some (.inl (nx, ls, .int (f x y) :: r, h)))
  | _ => none
def m_ui (f : Int32 → Int32) : Option mR := match st with
  | .int x :: r => some (.inl (nx, ls, .int (f x) :: r, h))
  | _ => none
def m_bl (f : Int64 → Int64 → Int64) : Option mR := match st with
  | .long y :: .long x :: r => some (.inl (nx, ls, .long (f x y) :: r, h))
  | _ => none
def m_bld (f : Int64 → Int64 → Int64) : Option mR := match st with
  | .long y :: .long x :: r => cond (decide (y = 0)) none (some (.inl (nx, ls, .long (f x y) :: r, h)))
  | _ => none
def m_ldi : Option mR := match ops with
  | [k] => match m_nth ls k with
    | some (some (.int x)) => some (.inl (nx, ls, .int x :: st, h))
    | _ => none
  | _ => none
def m_ldl : Option mR := match ops with
  | [k] => match m_nth ls k with
    | some (some (.long x)) => match m_nth ls (k + 1) with
      | some none => some (.inl (nx, ls, .long x :: st, h))
      | _ => none
    | _ => none
  | _ => none
def m_lda : Option mR := match ops with
  | [k] => match m_nth ls k with
    | some (some (.ref x)) => some (.inl (nx, ls, .ref x :: st, h))
    | some (some .null) => some (.inl (nx, ls, .null :: st, h))
    | _ => none
  | _ => none
def m_sti : Option mR := match ops, st with
  | [k], .int x :: r => cond (Nat.ble (k + 1) ls.length) (some (.inl (nx, ls.set k (some (.int x)), r, h))) none
  | _, _ => none
def m_stl : Option mR := match ops, st with
  | [k], .long x :: r => cond (Nat.ble (k + 2) ls.length) (some (.inl (nx, (ls.set k (some (.long x))).set (k + 1) none, r, h))) none
  | _, _ => none
def m_sta : Option mR := match ops, st with
  | [k], .ref x :: r => cond (Nat.ble (k + 1) ls.length) (some (.inl (nx, ls.set k (some (.ref x)), r, h))) none
  | [k], .null :: r => cond (Nat.ble (k + 1) ls.length) (some (.inl (nx, ls.set k (some .null), r, h))) none
  | _, _ => none
def m_inc (v : Value) : Option mR := match ops, v with
  | [k], .int n => match m_nth ls k with
    | some (some (.int x)) => some (.inl (nx, ls.set k (some (.int (x + n))), st, h))
    | _ => none
  | _, _ => none
def m_ifi (c : ClassFile.Cond) : Option mR := match ops, st with
  | [t], .int x :: r => cond (m_cmp c x 0) (some (.inl (t, ls, r, h))) (some (.inl (nx, ls, r, h)))
  | _, _ => none
def m_ifc (c : ClassFile.Cond) : Option mR := match ops, st with
  | [t], .int y :: .int x :: r => cond (m_cmp c x y) (some (.inl (t, ls, r, h))) (some (.inl (nx, ls, r, h)))
  | _, _ => none
def m_ifn (b : Bool) : Option mR := match ops, st with
  | [t], .null :: r => cond b (some (.inl (t, ls, r, h))) (some (.inl (nx, ls, r, h)))
  | [t], .ref a :: r => cond (Nat.ble 20 a) (cond b (some (.inl (nx, ls, r, h))) (some (.inl (t, ls, r, h)))) none
  | _, _ => none
def m_goto : Option mR := match ops with
  | [t] => some (.inl (t, ls, st, h))
  | _ => none
def m_tsw (lo hi : Int) : Option mR := match ops, st with
  | t :: ts, .int x :: r => cond (decide (x.toInt < lo ∨ hi < x.toInt)) (some (.inl (t, ls, r, h))) (match m_nth ts (x.toInt - lo).toNat with
    | some u => some (.inl (u, ls, r, h))
    | none => none)
  | _, _ => none
def m_lsw (d : Int) (ps : Array (Int × Int)) : Option mR := match ops, st with
  | [pc], .int x :: r => cond (decide (0 ≤ (pc : Int) + Op.lookupswitch.offset ps.toList d x.toInt)) (some (.inl (((pc : Int) + Op.lookupswitch.offset ps.toList d x.toInt).toNat, ls, r, h))) none
  | _, _ => none
def m_getf : Option mR := match ops, st with
  | [ci, k], .ref a :: r => match h a with
    | .inr (cj, fs) => cond (Nat.beq cj ci) (match m_nth fs k with
      | some v => some (.inl (nx, ls, v :: r, h))
      | none => none) none
    | _ => none
  | _, _ => none
/-- what a field of a kind may hold: 0 int, 1 long, 2 boolean, else a reference -/
def m_fits (tc : Nat) (v : Value) : Bool := match tc, v with
  | 0, .int _ => true
  | 1, .long _ => true
  | 2, .int x => decide (x = 0) || decide (x = 1)
  | 3, .ref _ => true
  | 3, .null => true
  | _, _ => false
def m_putf : Option mR := match ops, st with
  | [ci, k, tc], v :: .ref a :: r => match h a with
    | .inr (cj, fs) => cond (Nat.beq cj ci && Nat.ble 20 a && Nat.ble (a + 1) (m_nx h) && Nat.ble (k + 1) fs.length && m_fits tc v) (some (.inl (nx, ls, r, m_up h a (.inr (cj, fs.set k v))))) none
    | _ => none
  | _, _ => none
def m_alen : Option mR := match st with
  | .ref a :: r => match h a with
    | .inl (0, n, .inl _) => some (.inl (nx, ls, .int (Int32.ofNat n) :: r, h))
    | .inl (4, n, .inl _) => cond (Nat.ble (a + 1) 20) (some (.inl (nx, ls, .int (Int32.ofNat n) :: r, h))) none
    | _ => none
  | _ => none
def m_iald : Option mR := match st with
  | .int i :: .ref a :: r => match h a with
    | .inl (0, n, .inl f) => cond (m_in i n) (some (.inl (nx, ls, .int (f i.toNatClampNeg) :: r, h))) none
    | _ => none
  | _ => none
def m_bald : Option mR := match st with
  | .int i :: .ref a :: r => match h a with
    | .inl (2, n, .inl f) => cond (m_in i n) (some (.inl (nx, ls, .int (f i.toNatClampNeg) :: r, h))) none
    | .inl (4, n, .inl f) => cond (m_in i n && Nat.ble (a + 1) 20) (some (.inl (nx, ls, .int (f i.toNatClampNeg) :: r, h))) none
    | _ => none
  | _ => none
def m_lald : Option mR := match st with
  | .int i :: .ref a :: r => match h a with
    | .inl (1, n, .inr (.inl f)) => cond (m_in i n) (some (.inl (nx, ls, .long (f i.toNatClampNeg) :: r, h))) none
    | _ => none
  | _ => none
def m_aald : Option mR := match st with
  | .int i :: .ref a :: r => match h a with
    | .inl (3, n, .inr (.inr (.inr (.inr f)))) => cond (m_in i n) (match f i.toNatClampNeg with
      | some b => cond (Nat.ble 20 b) (some (.inl (nx, ls, .ref b :: r, h))) none
      | none => none) none
    | _ => none
  | _ => none
def m_iast : Option mR := match st with
  | .int x :: .int i :: .ref a :: r => match h a with
    | .inl (0, n, .inl f) => cond (m_in i n && Nat.ble 20 a && Nat.ble (a + 1) (m_nx h)) (some (.inl (nx, ls, r, m_up h a (.inl (0, n, .inl (upd f i.toNatClampNeg x)))))) none
    | _ => none
  | _ => none
def m_bast : Option mR := match st with
  | .int x :: .int i :: .ref a :: r => match h a with
    | .inl (2, n, .inl f) => cond (m_in i n && Nat.ble 20 a && Nat.ble (a + 1) (m_nx h)) (some (.inl (nx, ls, r, m_up h a (.inl (2, n, .inl (upd f i.toNatClampNeg (vp_nar .boolean x))))))) none
    | _ => none
  | _ => none
def m_last : Option mR := match st with
  | .long x :: .int i :: .ref a :: r => match h a with
    | .inl (1, n, .inr (.inl f)) => cond (m_in i n && Nat.ble 20 a && Nat.ble (a + 1) (m_nx h)) (some (.inl (nx, ls, r, m_up h a (.inl (1, n, .inr (.inl (vp_updL f i.toNatClampNeg x))))))) none
    | _ => none
  | _ => none
def m_zero (t : Nat) : (Nat → Int32) ⊕ (Nat → Int64) ⊕ (Nat → UInt32) ⊕ (Nat → UInt64) ⊕ (Nat → Option Nat) := match t with
  | 1 => .inr (.inl fun _ => 0)
  | _ => .inl fun _ => 0
def m_newa : Option mR := match ops, st with
  | [t], .int n :: r => cond (decide (0 ≤ n) && Nat.ble n.toNatClampNeg 100000 && Nat.ble 20 (m_nx h)) (some (.inl (nx, ls, .ref (m_nx h) :: r, m_al h (.inl (t, n.toNatClampNeg, m_zero t)) n.toNatClampNeg))) none
  | _, _ => none
def m_newo : Option mR := match ops with
  | [ci] => cond (Nat.ble 20 (m_nx h)) (some (.inl (nx, ls, .ref (m_nx h) :: st, m_al h (.inr (ci, m_new ci)) (m_new ci).length))) none
  | _ => none
/-- rows of rows: the outer one, then so many of so many longs -/
def m_alm (n k : Nat) : mH := fun a => cond (Nat.beq a 0) (.inr (m_nx h + 1 + n, [])) (cond (Nat.beq a 1) (.inr (m_us h + n + n * k, []))
  (cond (Nat.beq a (m_nx h)) (.inl (3, n, .inr (.inr (.inr (.inr fun i => if i < n then some (m_nx h + 1 + i) else none)))))
  (cond (Nat.ble (m_nx h + 1) a && Nat.ble (a + 1) (m_nx h + 1 + n)) (.inl (1, k, .inr (.inl fun _ => 0))) (h a))))
def m_newm : Option mR := match st with
  | .int k :: .int n :: r => cond (decide (0 ≤ n) && decide (0 ≤ k) && Nat.ble n.toNatClampNeg 100 && Nat.ble k.toNatClampNeg 100 && Nat.ble 20 (m_nx h)) (some (.inl (nx, ls, .ref (m_nx h) :: r, m_alm h n.toNatClampNeg k.toNatClampNeg))) none
  | _ => none
def m_copy : Option mR := match st with
  | .int n :: .int dp :: .ref b :: .int sp :: .ref a :: r => match h a, h b with
    | .inl (0, n0, .inl f), .inl (0, n1, .inl g) => cond (decide (0 ≤ sp) && decide (0 ≤ dp) && decide (0 ≤ n) && Nat.ble (sp.toNatClampNeg + n.toNatClampNeg) n0 && Nat.ble (dp.toNatClampNeg + n.toNatClampNeg) n1 && Nat.ble 20 a && Nat.ble (a + 1) (m_nx h) && Nat.ble 20 b && Nat.ble (b + 1) (m_nx h) && Nat.ble (m_cat r) 8)
        (some (.inl (nx, ls, r, m_up h b (.inl (0, n1, .inl (va_cpy f g sp.toNatClampNeg dp.toNatClampNeg n.toNatClampNeg)))))) none
    | _, _ => none
  | _ => none
def m_max (z : Nat) : Nat := match m_meth z with
  | some (_, _, k, _) => k
  | none => 0
/-- a call: whose, with what, what is left -/
def m_call (z : Nat) (args r : List Value) : Option mR := cond (Nat.ble (m_cat r) 8 && Nat.ble (m_cat args) (m_max z)) (some (.inr (.inl (z, args, nx, r)))) none
def m_inv : Option mR := match ops with
  | [z, n, ci] => match st.drop n with
    | .ref b :: r => match h b with
      | .inr (cj, _) => cond (Nat.beq cj ci) (m_call nx z (.ref b :: (st.take n).reverse) r) none
      | _ => none
    | _ => none
  | _ => none
def m_mth0 : Option mR := match st with
  | .int y :: .int x :: r => cond (Nat.ble (m_cat r) 8) (some (.inl (nx, ls, .int (if x < y then y else x) :: r, h))) none
  | _ => none
def m_mth1 : Option mR := match st with
  | .int y :: .int x :: r => cond (Nat.ble (m_cat r) 8) (some (.inl (nx, ls, .int (if y < x then y else x) :: r, h))) none
  | _ => none
def m_mth2 : Option mR := match st with
  | .int x :: r => cond (Nat.ble (m_cat r) 8) (some (.inl (nx, ls, .int (if 0 ≤ x then x else 0 - x) :: r, h))) none
  | _ => none
def m_mth3 : Option mR := match st with
  | .long x :: r => cond (Nat.ble (m_cat r) 8) (some (.inl (nx, ls, .long (if 0 < x then x else -x) :: r, h))) none
  | _ => none
def m_mth4 : Option mR := match st with
  | .long y :: .long x :: r => cond (Nat.ble (m_cat r) 8) (some (.inl (nx, ls, .long (if y < x then x else y) :: r, h))) none
  | _ => none
/-- a static method of Math -/
def m_mth (k : Nat) : Option mR := match k with
  | 0 => m_mth0 nx ls st h
  | 1 => m_mth1 nx ls st h
  | 2 => m_mth2 nx ls st h
  | 3 => m_mth3 nx ls st h
  | 4 => m_mth4 nx ls st h
  | _ => none
def m_invs : Option mR := match ops with
  | [z, n] => cond (Nat.ble n st.length) (m_call nx z (st.take n).reverse (st.drop n)) none
  | [] => m_copy nx ls st h
  | [k] => m_mth nx ls st h k
  | _ => none
def m_invi : Option mR := match ops with
  | [z, n] => match st.drop n with
    | .ref b :: r => cond (Nat.ble 20 b) (m_call nx z (.ref b :: (st.take n).reverse) r) none
    | _ => none
  | [] => match st with
    | .ref b :: r => cond (Nat.ble 20 b && Nat.ble (m_cat r) 8) (some (.inl (nx, ls, r, h))) none
    | _ => none
  | _ => none
/-- an answer of a kind: 0 int, 1 boolean, 2 char, else byte -/
def m_rok (c : Nat) (x : Int32) : Bool := match c with
  | 0 => true
  | 1 => decide (x = 0) || decide (x = 1)
  | 2 => decide (narrow .char (.int x) = .int x)
  | _ => decide (narrow .byte (.int x) = .int x)
def m_ret : Option mR := match ops, st with
  | [c], [.int x] => cond (m_rok c x) (some (.inr (.inr (some (.int x))))) none
  | _, _ => none
end Steps
def m_st1 (i : Instr) (nx : Nat) (ops : List Nat) (v : Value) (ls : mL) (st : List Value) (h : mH) : Option mR := match i with
  | .iconst _ => some (.inl (nx, ls, v :: st, h))
  | .bipush _ => some (.inl (nx, ls, v :: st, h))
  | .sipush _ => some (.inl (nx, ls, v :: st, h))
  | .lconst _ => some (.inl (nx, ls, v :: st, h))
  | .ldc _ => some (.inl (nx, ls, v :: st, h))
  | .ldc_w _ => some (.inl (nx, ls, v :: st, h))
  | .ldc2_w _ => some (.inl (nx, ls, v :: st, h))
  | .getstatic _ => some (.inl (nx, ls, v :: st, h))
  | .iload _ => m_ldi nx ops ls st h
  | .iload_n _ => m_ldi nx ops ls st h
  | .lload _ => m_ldl nx ops ls st h
  | .lload_n _ => m_ldl nx ops ls st h
  | .aload _ => m_lda nx ops ls st h
  | .aload_n _ => m_lda nx ops ls st h
  | .istore _ => m_sti nx ops ls st h
  | .istore_n _ => m_sti nx ops ls st h
  | .lstore _ => m_stl nx ops ls st h
  | .lstore_n _ => m_stl nx ops ls st h
  | .astore _ => m_sta nx ops ls st h
  | .astore_n _ => m_sta nx ops ls st h
  | .iinc _ _ => m_inc nx ops ls st h v
  | .iadd => m_bi nx ls st h HAdd.hAdd
  | .isub => m_bi nx ls st h HSub.hSub
  | .imul => m_bi nx ls st h HMul.hMul
  | .iand => m_bi nx ls st h HAnd.hAnd
  | .ior => m_bi nx ls st h HOr.hOr
  | .ixor => m_bi nx ls st h HXor.hXor
  | .ishl => m_bi nx ls st h (fun x y => x <<< (y &&& 31))
  | .ishr => m_bi nx ls st h (fun x y => x >>> (y &&& 31))
  | .iushr => m_bi nx ls st h (fun x y => (x.toUInt32 >>> (y.toUInt32 &&& Int32.toUInt32 31)).toInt32)
  | .idiv => m_bd nx ls st h HDiv.hDiv
  | .irem => m_bd nx ls st h (fun x y => x - x / y * y)
  | .ineg => m_ui nx ls st h Neg.neg
  | .i2c => m_ui nx ls st h (fun x => (x.toUInt32 % 65536).toInt32)
  | .ladd => m_bl nx ls st h HAdd.hAdd
  | .lmul => m_bl nx ls st h HMul.hMul
  | .ldiv => m_bld nx ls st h HDiv.hDiv
  | .lrem => m_bld nx ls st h (fun x y => x - x / y * y)
  | .lneg => match st with
    | .long x :: r => some (.inl (nx, ls, .long (-x) :: r, h))
    | _ => none
  | .i2l => match st with
    | .int x :: r => some (.inl (nx, ls, .long x.toInt64 :: r, h))
    | _ => none
  | .lcmp => match st with
    | .long y :: .long x :: r => some (.inl (nx, ls, .int (lg_cmp x y) :: r, h))
    | _ => none
  | .dup => match st with
    | .int x :: r => some (.inl (nx, ls, .int x :: .int x :: r, h))
    | .ref x :: r => some (.inl (nx, ls, .ref x :: .ref x :: r, h))
    | .null :: r => some (.inl (nx, ls, .null :: .null :: r, h))
    | _ => none
  | .dup2 => match st with
    | .int y :: .ref x :: r => some (.inl (nx, ls, .int y :: .ref x :: .int y :: .ref x :: r, h))
    | .int y :: .int x :: r => some (.inl (nx, ls, .int y :: .int x :: .int y :: .int x :: r, h))
    | .long x :: r => some (.inl (nx, ls, .long x :: .long x :: r, h))
    | _ => none
  | .pop => match st with
    | .int _ :: r => some (.inl (nx, ls, r, h))
    | _ => none
  | .pop2 => match st with
    | .long _ :: r => some (.inl (nx, ls, r, h))
    | _ => none
  | .ifCond c _ => m_ifi nx ops ls st h c
  | .if_icmp c _ => m_ifc nx ops ls st h c
  | .ifnull _ => m_ifn nx ops ls st h true
  | .ifnonnull _ => m_ifn nx ops ls st h false
  | .goto _ => m_goto ops ls st h
  | .tableswitch _ lo hi _ => m_tsw ops ls st h lo hi
  | .lookupswitch d ps => m_lsw ops ls st h d ps
  | .getfield _ => m_getf nx ops ls st h
  | .putfield _ => m_putf nx ops ls st h
  | .arraylength => m_alen nx ls st h
  | .iaload => m_iald nx ls st h
  | .baload => m_bald nx ls st h
  | .laload => m_lald nx ls st h
  | .aaload => m_aald nx ls st h
  | .iastore => m_iast nx ls st h
  | .bastore => m_bast nx ls st h
  | .lastore => m_last nx ls st h
  | .newarray _ => m_newa nx ops ls st h
  | .new _ => m_newo nx ops ls st h
  | .multianewarray _ _ => m_newm nx ls st h
  | .invokevirtual _ => m_inv nx ops st h
  | .invokestatic _ => m_invs nx ops ls st h
  | .invokespecial _ => m_invi nx ops ls st h
  | .ireturn => m_ret ops st
  | .lreturn => match st with
    | [.long x] => some (.inr (.inr (some (.long x))))
    | _ => none
  | .return_ => match st with
    | [] => some (.inr (.inr none))
    | _ => none
  | _ => none
def m_init (z : Nat) (args : List Value) : mL := m_fill (m_max z) (m_lay args)
def m_run : Nat → Nat → Nat → Nat → mL → List Value → mH → Option (Option Value × mH)
  | 0, _, _, _, _, _, _ => none
  | n + 1, d, y, pc, ls, st, h => match m_cd y pc with
    | none => none
    | some (i, nx, ops, w) => match m_st1 i nx ops w ls st h with
      | none => none
      | some (.inl (pc', ls', st', h')) => m_run n d y pc' ls' st' h'
      | some (.inr (.inl (z, args, pc', r))) => match d with
        | 0 => none
        | d' + 1 => match m_run n d' z 0 (m_init z args) [] h with
          | none => none
          | some (v, h') => m_run n (d' + 1) y pc' ls (v.toList ++ r) h'
      | some (.inr (.inr v)) => some (v, h)
theorem m_more : ∀ (n d y pc : Nat) (ls : mL) (st : List Value) (h : mH) (q : Option Value × mH), m_run n d y pc ls st h = some q → m_run (n + 1) d y pc ls st h = some q := by
  intro n
  induction n with
  | zero => intro d y pc ls st h q hq; cases hq
  | succ n ih =>
    intro d y pc ls st h q hq
    unfold m_run at hq ⊢
    cases hc : m_cd y pc with
    | none => rw [hc] at hq; cases hq
    | some e =>
      obtain ⟨i, nx, ops, w⟩ := e
      rw [hc] at hq
      dsimp only at hq ⊢
      cases hs : m_st1 i nx ops w ls st h with
      | none => rw [hs] at hq; cases hq
      | some z =>
        rw [hs] at hq
        rcases z with ⟨pc', ls', st', h'⟩ | ⟨z, args, pc', r⟩ | v
        · exact ih _ _ _ _ _ _ _ hq
        · cases d with
          | zero => cases hq
          | succ d =>
            dsimp only at hq ⊢
            cases hr : m_run n d z 0 (m_init z args) [] h with
            | none => rw [hr] at hq; cases hq
            | some w =>
              rw [hr] at hq
              rw [ih _ _ _ _ _ _ _ hr]
              exact ih _ _ _ _ _ _ _ hq
        · exact hq
theorem m_mono {n k d y pc : Nat} {ls : mL} {st : List Value} {h : mH} {q : Option Value × mH} (hn : n ≤ k) (hq : m_run n d y pc ls st h = some q) : m_run k d y pc ls st h = some q := by
  induction hn with
  | refl => exact hq
  | step _ ih => exact m_more _ _ _ _ _ _ _ _ ih
/-- from this state the method returns, and what it returns, and the heap then, are as Q says -/
def mT0 (d y pc : Nat) (ls : mL) (st : List Value) (h : mH) (Q : Option Value → mH → Prop) : Prop := ∃ n v h', m_run n d y pc ls st h = some (v, h') ∧ Q v h'
def mGo (d y : Nat) (ls : mL) (h : mH) (Q : Option Value → mH → Prop) : Option mR → Prop
  | none => False
  | some (.inl (pc', ls', st', h')) => mT0 d y pc' ls' st' h' Q
  | some (.inr (.inl (z, args, pc', r))) => match d with
    | 0 => False
    | d' + 1 => mT0 d' z 0 (m_init z args) [] h (fun v h' => mT0 (d' + 1) y pc' ls (v.toList ++ r) h' Q)
  | some (.inr (.inr v)) => Q v h
def mAt (d y : Nat) (e : Option mEnt) (ls : mL) (st : List Value) (h : mH) (Q : Option Value → mH → Prop) : Prop := match e with
  | none => False
  | some (i, nx, ops, w) => mGo d y ls h Q (m_st1 i nx ops w ls st h)
theorem mT_go {d y pc : Nat} {ls : mL} {st : List Value} {h : mH} {Q : Option Value → mH → Prop} (k : mAt d y (m_cd y pc) ls st h Q) : mT0 d y pc ls st h Q := by
  unfold mAt at k
  cases hc : m_cd y pc with
  | none => rw [hc] at k; exact k.elim
  | some e =>
    obtain ⟨i, nx, ops, w⟩ := e
    rw [hc] at k
    dsimp only at k
    cases hs : m_st1 i nx ops w ls st h with
    | none => rw [hs] at k; exact k.elim
    | some z =>
      rw [hs] at k
      rcases z with ⟨pc', ls', st', h'⟩ | ⟨z, args, pc', r⟩ | v
      · obtain ⟨n, v, h2, hr, hQ⟩ := k
        exact ⟨n + 1, v, h2, by rw [m_run, hc]; dsimp only; rw [hs]; exact hr, hQ⟩
      · cases d with
        | zero => exact k.elim
        | succ d =>
          obtain ⟨n, v, h2, hr, n2, v2, h3, hr2, hQ⟩ := k
          refine ⟨(n + n2) + 1, v2, h3, ?_, hQ⟩
          rw [m_run, hc]
          dsimp only
          rw [hs]
          dsimp only
          rw [m_mono (Nat.le_add_right n n2) hr]
          exact m_mono (Nat.le_add_left n2 n) hr2
      · exact ⟨1, v, h, by rw [m_run, hc]; dsimp only; rw [hs], k⟩
theorem mT_s {d y pc nx : Nat} {i : Instr} {ops : List Nat} {w : Value} {ls ls' : mL} {st st' : List Value} {h h' : mH} {pc' : Nat} {Q : Option Value → mH → Prop} (hc : m_cd y pc = some (i, nx, ops, w)) (hs : m_st1 i nx ops w ls st h = some (.inl (pc', ls', st', h'))) (k : mT0 d y pc' ls' st' h' Q) : mT0 d y pc ls st h Q := by
  refine mT_go ?_
  rw [hc]
  show mGo d y ls h Q (m_st1 i nx ops w ls st h)
  rw [hs]
  exact k
theorem mT_ret {d y pc nx : Nat} {i : Instr} {ops : List Nat} {w : Value} {ls : mL} {st : List Value} {h : mH} {v : Option Value} {Q : Option Value → mH → Prop} (hc : m_cd y pc = some (i, nx, ops, w)) (hs : m_st1 i nx ops w ls st h = some (.inr (.inr v))) (k : Q v h) : mT0 d y pc ls st h Q := by
  refine mT_go ?_
  rw [hc]
  show mGo d y ls h Q (m_st1 i nx ops w ls st h)
  rw [hs]
  exact k
theorem mT_c {d y pc nx : Nat} {i : Instr} {ops : List Nat} {w : Value} {ls : mL} {st : List Value} {h : mH} {z pc' : Nat} {args r : List Value} {Q : Option Value → mH → Prop} (hc : m_cd y pc = some (i, nx, ops, w)) (hs : m_st1 i nx ops w ls st h = some (.inr (.inl (z, args, pc', r)))) (k : mT0 d z 0 (m_init z args) [] h (fun v h' => mT0 (d + 1) y pc' ls (v.toList ++ r) h' Q)) : mT0 (d + 1) y pc ls st h Q := by
  refine mT_go ?_
  rw [hc]
  show mGo (d + 1) y ls h Q (m_st1 i nx ops w ls st h)
  rw [hs]
  exact k
section Branches
variable {d y pc nx t : Nat} {o : Int} {w : Value} {ls : mL} {r : List Value} {h : mH} {Q : Option Value → mH → Prop} {x z : Int32}
theorem mT_if {i : Instr} {ops : List Nat} {st : List Value} {c : Prop} {b : Bool} {s1 s2 : mS} (hc : m_cd y pc = some (i, nx, ops, w)) (hs : m_st1 i nx ops w ls st h = cond b (some (.inl s1)) (some (.inl s2))) (hb : b = true ↔ c)
    (k1 : c → mT0 d y s1.1 s1.2.1 s1.2.2.1 s1.2.2.2 Q) (k2 : ¬ c → mT0 d y s2.1 s2.2.1 s2.2.2.1 s2.2.2.2 Q) : mT0 d y pc ls st h Q := by
  refine mT_go ?_
  rw [hc]
  show mGo d y ls h Q (m_st1 i nx ops w ls st h)
  rw [hs]
  cases b with
  | true => exact k1 (hb.mp rfl)
  | false => exact k2 (fun q => by cases hb.mpr q)
theorem mT_icmp_eq (hc : m_cd y pc = some (.if_icmp .eq o, nx, [t], w)) (k1 : x = z → mT0 d y t ls r h Q) (k2 : ¬ x = z → mT0 d y nx ls r h Q) : mT0 d y pc ls (.int z :: .int x :: r) h Q := mT_if (s1 := (t, ls, r, h)) (s2 := (nx, ls, r, h)) hc rfl decide_eq_true_iff k1 k2
theorem mT_icmp_ne (hc : m_cd y pc = some (.if_icmp .ne o, nx, [t], w)) (k1 : ¬ x = z → mT0 d y t ls r h Q) (k2 : x = z → mT0 d y nx ls r h Q) : mT0 d y pc ls (.int z :: .int x :: r) h Q := mT_if (s1 := (t, ls, r, h)) (s2 := (nx, ls, r, h)) hc rfl decide_eq_true_iff k1 (fun q => k2 (Decidable.not_not.mp q))
theorem mT_icmp_lt (hc : m_cd y pc = some (.if_icmp .lt o, nx, [t], w)) (k1 : x < z → mT0 d y t ls r h Q) (k2 : ¬ x < z → mT0 d y nx ls r h Q) : mT0 d y pc ls (.int z :: .int x :: r) h Q := mT_if (s1 := (t, ls, r, h)) (s2 := (nx, ls, r, h)) hc rfl decide_eq_true_iff k1 k2
theorem mT_icmp_ge (hc : m_cd y pc = some (.if_icmp .ge o, nx, [t], w)) (k1 : z ≤ x → mT0 d y t ls r h Q) (k2 : ¬ z ≤ x → mT0 d y nx ls r h Q) : mT0 d y pc ls (.int z :: .int x :: r) h Q := mT_if (s1 := (t, ls, r, h)) (s2 := (nx, ls, r, h)) hc rfl decide_eq_true_iff k1 k2
theorem mT_icmp_gt (hc : m_cd y pc = some (.if_icmp .gt o, nx, [t], w)) (k1 : z < x → mT0 d y t ls r h Q) (k2 : ¬ z < x → mT0 d y nx ls r h Q) : mT0 d y pc ls (.int z :: .int x :: r) h Q := mT_if (s1 := (t, ls, r, h)) (s2 := (nx, ls, r, h)) hc rfl decide_eq_true_iff k1 k2
theorem mT_icmp_le (hc : m_cd y pc = some (.if_icmp .le o, nx, [t], w)) (k1 : x ≤ z → mT0 d y t ls r h Q) (k2 : ¬ x ≤ z → mT0 d y nx ls r h Q) : mT0 d y pc ls (.int z :: .int x :: r) h Q := mT_if (s1 := (t, ls, r, h)) (s2 := (nx, ls, r, h)) hc rfl decide_eq_true_iff k1 k2
theorem mT_if_eq (hc : m_cd y pc = some (.ifCond .eq o, nx, [t], w)) (k1 : x = 0 → mT0 d y t ls r h Q) (k2 : ¬ x = 0 → mT0 d y nx ls r h Q) : mT0 d y pc ls (.int x :: r) h Q := mT_if (s1 := (t, ls, r, h)) (s2 := (nx, ls, r, h)) hc rfl decide_eq_true_iff k1 k2
theorem mT_if_ne (hc : m_cd y pc = some (.ifCond .ne o, nx, [t], w)) (k1 : ¬ x = 0 → mT0 d y t ls r h Q) (k2 : x = 0 → mT0 d y nx ls r h Q) : mT0 d y pc ls (.int x :: r) h Q := mT_if (s1 := (t, ls, r, h)) (s2 := (nx, ls, r, h)) hc rfl decide_eq_true_iff k1 (fun q => k2 (Decidable.not_not.mp q))
theorem mT_if_lt (hc : m_cd y pc = some (.ifCond .lt o, nx, [t], w)) (k1 : x < 0 → mT0 d y t ls r h Q) (k2 : ¬ x < 0 → mT0 d y nx ls r h Q) : mT0 d y pc ls (.int x :: r) h Q := mT_if (s1 := (t, ls, r, h)) (s2 := (nx, ls, r, h)) hc rfl decide_eq_true_iff k1 k2
theorem mT_if_ge (hc : m_cd y pc = some (.ifCond .ge o, nx, [t], w)) (k1 : 0 ≤ x → mT0 d y t ls r h Q) (k2 : ¬ 0 ≤ x → mT0 d y nx ls r h Q) : mT0 d y pc ls (.int x :: r) h Q := mT_if (s1 := (t, ls, r, h)) (s2 := (nx, ls, r, h)) hc rfl decide_eq_true_iff k1 k2
theorem mT_if_gt (hc : m_cd y pc = some (.ifCond .gt o, nx, [t], w)) (k1 : 0 < x → mT0 d y t ls r h Q) (k2 : ¬ 0 < x → mT0 d y nx ls r h Q) : mT0 d y pc ls (.int x :: r) h Q := mT_if (s1 := (t, ls, r, h)) (s2 := (nx, ls, r, h)) hc rfl decide_eq_true_iff k1 k2
theorem mT_if_le (hc : m_cd y pc = some (.ifCond .le o, nx, [t], w)) (k1 : x ≤ 0 → mT0 d y t ls r h Q) (k2 : ¬ x ≤ 0 → mT0 d y nx ls r h Q) : mT0 d y pc ls (.int x :: r) h Q := mT_if (s1 := (t, ls, r, h)) (s2 := (nx, ls, r, h)) hc rfl decide_eq_true_iff k1 k2
end Branches
section HeapRows
variable {d y pc nx : Nat} {j : Nat} {w : Value} {ls : mL} {r : List Value} {h : mH} {Q : Option Value → mH → Prop} {a ci k tc n t : Nat} {fs : List Value} {i x : Int32} {f : Nat → Int32} {g : Nat → Int64}
theorem m_in_of (hi : m_in i n = true) : m_in i n = true := hi
theorem mT_getf {v : Value} (hc : m_cd y pc = some (.getfield j, nx, [ci, k], w)) (ha : h a = .inr (ci, fs)) (hf : m_nth fs k = some v) (K : mT0 d y nx ls (v :: r) h Q) : mT0 d y pc ls (.ref a :: r) h Q := by
  refine mT_s hc (st' := v :: r) ?_ K
  simp only [m_st1, m_getf, ha]
  simp only [hf, Nat.beq_refl, cond_true]
theorem mT_putf {v : Value} (hc : m_cd y pc = some (.putfield j, nx, [ci, k, tc], w)) (ha : h a = .inr (ci, fs)) (hg : (Nat.ble 20 a && Nat.ble (a + 1) (m_nx h) && Nat.ble (k + 1) fs.length && m_fits tc v) = true) (K : mT0 d y nx ls r (m_up h a (.inr (ci, fs.set k v))) Q) : mT0 d y pc ls (v :: .ref a :: r) h Q := by
  refine mT_s hc (st' := r) ?_ K
  simp only [m_st1, m_putf, ha]
  simp only [Bool.and_eq_true] at hg
  simp only [Nat.beq_refl, hg.1.1.1, hg.1.1.2, hg.1.2, hg.2, Bool.and_self, cond_true]
theorem mT_iald (hc : m_cd y pc = some (.iaload, nx, [], w)) (ha : h a = .inl (0, n, .inl f)) (hi : m_in i n = true) (K : mT0 d y nx ls (.int (f i.toNatClampNeg) :: r) h Q) : mT0 d y pc ls (.int i :: .ref a :: r) h Q := by
  refine mT_s hc ?_ K
  simp only [m_st1, m_iald, ha]
  simp only [hi, cond_true]
theorem mT_bald (hc : m_cd y pc = some (.baload, nx, [], w)) (ha : h a = .inl (2, n, .inl f)) (hi : m_in i n = true) (K : mT0 d y nx ls (.int (f i.toNatClampNeg) :: r) h Q) : mT0 d y pc ls (.int i :: .ref a :: r) h Q := by
  refine mT_s hc ?_ K
  simp only [m_st1, m_bald, ha]
  simp only [hi, cond_true]
theorem mT_lald (hc : m_cd y pc = some (.laload, nx, [], w)) (ha : h a = .inl (1, n, .inr (.inl g))) (hi : m_in i n = true) (K : mT0 d y nx ls (.long (g i.toNatClampNeg) :: r) h Q) : mT0 d y pc ls (.int i :: .ref a :: r) h Q := by
  refine mT_s hc ?_ K
  simp only [m_st1, m_lald, ha]
  simp only [hi, cond_true]
theorem mT_aald {b : Nat} {q : Nat → Option Nat} (hc : m_cd y pc = some (.aaload, nx, [], w)) (ha : h a = .inl (3, n, .inr (.inr (.inr (.inr q))))) (hi : m_in i n = true) (hb : q i.toNatClampNeg = some b) (h20 : Nat.ble 20 b = true) (K : mT0 d y nx ls (.ref b :: r) h Q) : mT0 d y pc ls (.int i :: .ref a :: r) h Q := by
  refine mT_s hc (st' := .ref b :: r) ?_ K
  simp only [m_st1, m_aald, ha]
  simp only [hi, hb, h20, cond_true]
theorem mT_alen (hc : m_cd y pc = some (.arraylength, nx, [], w)) (ha : h a = .inl (0, n, .inl f)) (K : mT0 d y nx ls (.int (nI n) :: r) h Q) : mT0 d y pc ls (.ref a :: r) h Q := by
  refine mT_s hc ?_ K
  simp only [m_st1, m_alen, ha, nI]
theorem mT_alen4 (hc : m_cd y pc = some (.arraylength, nx, [], w)) (ha : h a = .inl (4, n, .inl f)) (h20 : Nat.ble (a + 1) 20 = true) (K : mT0 d y nx ls (.int (nI n) :: r) h Q) : mT0 d y pc ls (.ref a :: r) h Q := by
  refine mT_s hc ?_ K
  simp only [m_st1, m_alen, ha, h20, cond_true, nI]
theorem mT_bald4 (hc : m_cd y pc = some (.baload, nx, [], w)) (ha : h a = .inl (4, n, .inl f)) (hi : m_in i n = true) (h20 : Nat.ble (a + 1) 20 = true) (K : mT0 d y nx ls (.int (f i.toNatClampNeg) :: r) h Q) : mT0 d y pc ls (.int i :: .ref a :: r) h Q := by
  refine mT_s hc ?_ K
  simp only [m_st1, m_bald, ha, hi, h20, Bool.and_self, cond_true]
theorem mT_iast (hc : m_cd y pc = some (.iastore, nx, [], w)) (ha : h a = .inl (0, n, .inl f)) (hi : m_in i n = true) (hg : (Nat.ble 20 a && Nat.ble (a + 1) (m_nx h)) = true) (K : mT0 d y nx ls r (m_up h a (.inl (0, n, .inl (upd f i.toNatClampNeg x)))) Q) : mT0 d y pc ls (.int x :: .int i :: .ref a :: r) h Q := by
  refine mT_s hc ?_ K
  simp only [m_st1, m_iast, ha]
  simp only [Bool.and_eq_true] at hg
  simp only [hi, hg.1, hg.2, Bool.and_self, cond_true]
theorem mT_bast (hc : m_cd y pc = some (.bastore, nx, [], w)) (ha : h a = .inl (2, n, .inl f)) (hi : m_in i n = true) (hg : (Nat.ble 20 a && Nat.ble (a + 1) (m_nx h)) = true) (K : mT0 d y nx ls r (m_up h a (.inl (2, n, .inl (upd f i.toNatClampNeg (vp_nar .boolean x))))) Q) : mT0 d y pc ls (.int x :: .int i :: .ref a :: r) h Q := by
  refine mT_s hc ?_ K
  simp only [m_st1, m_bast, ha]
  simp only [Bool.and_eq_true] at hg
  simp only [hi, hg.1, hg.2, Bool.and_self, cond_true]
theorem mT_last {x : Int64} (hc : m_cd y pc = some (.lastore, nx, [], w)) (ha : h a = .inl (1, n, .inr (.inl g))) (hi : m_in i n = true) (hg : (Nat.ble 20 a && Nat.ble (a + 1) (m_nx h)) = true) (K : mT0 d y nx ls r (m_up h a (.inl (1, n, .inr (.inl (vp_updL g i.toNatClampNeg x))))) Q) : mT0 d y pc ls (.long x :: .int i :: .ref a :: r) h Q := by
  refine mT_s hc ?_ K
  simp only [m_st1, m_last, ha]
  simp only [Bool.and_eq_true] at hg
  simp only [hi, hg.1, hg.2, Bool.and_self, cond_true]
end HeapRows
section CallRows
variable {d y pc nx : Nat} {j : Nat} {w : Value} {ls : mL} {r st : List Value} {h : mH} {Q : Option Value → mH → Prop} {b ci z n : Nat} {fs : List Value}
theorem mT_inv (hc : m_cd y pc = some (.invokevirtual j, nx, [z, n, ci], w)) (hd : st.drop n = .ref b :: r) (hb : h b = .inr (ci, fs)) (hg : (Nat.ble (m_cat r) 8 && Nat.ble (m_cat (.ref b :: (st.take n).reverse)) (m_max z)) = true)
    (K : mT0 d z 0 (m_init z (.ref b :: (st.take n).reverse)) [] h (fun v h' => mT0 (d + 1) y nx ls (v.toList ++ r) h' Q)) : mT0 (d + 1) y pc ls st h Q := by
  refine mT_c hc ?_ K
  simp only [m_st1, m_inv, hd, hb, Nat.beq_refl, cond_true, m_call, hg]
theorem mT_ifnn {t a : Nat} {o : Int} (hc : m_cd y pc = some (.ifnonnull o, nx, [t], w)) (h20 : Nat.ble 20 a = true) (K : mT0 d y t ls r h Q) : mT0 d y pc ls (.ref a :: r) h Q := by
  refine mT_s hc ?_ K
  simp only [m_st1, m_ifn, h20, cond_true, cond_false]
theorem mT_ifn {t a : Nat} {o : Int} (hc : m_cd y pc = some (.ifnull o, nx, [t], w)) (h20 : Nat.ble 20 a = true) (K : mT0 d y nx ls r h Q) : mT0 d y pc ls (.ref a :: r) h Q := by
  refine mT_s hc ?_ K
  simp only [m_st1, m_ifn, h20, cond_true]
end CallRows
