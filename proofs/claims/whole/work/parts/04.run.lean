/-! One step, and runs of the small machine. -/
section Steps
variable (nx : Nat) (ops : List Nat) (ls : mL) (st : List Value) (h : mH)
def m_bi (f : Int32 → Int32 → Int32) : Option mR := match st with
  | .int y :: .int x :: r => some (.inl (nx, ls, .int (f x y) :: r, h))
  | _ => none
def m_bd (f : Int32 → Int32 → Int32) : Option mR := match st with
  | .int y :: .int x :: r => cond (decide (y = 0)) none (some (.inl (nx, ls, .int (f x y) :: r, h)))
  | _ => none
def m_ui (f : Int32 → Int32) : Option mR := match st with
  | .int x :: r => some (.inl (nx, ls, .int (f x) :: r, h))
  | _ => none
def m_bl (f : Int64 → Int64 → Int64) : Option mR := match st with
  | .long y :: .long x :: r => some (.inl (nx, ls, .long (f x y) :: r, h))
  | _ => none
def m_bld (f : Int64 → Int64 → Int64) : Option mR := match st with
  | .long y :: .long x :: r => cond (decide (y = 0)) none (some (.inl (nx, ls, .long (f x y) :: r, h)))
  | _ => none
def m_ldi : Option mR := match ops with
  | [k] => match m_nth ls k with
    | some (some (.int x)) => some (.inl (nx, ls, .int x :: st, h))
    | _ => none
  | _ => none
def m_ldl : Option mR := match ops with
  | [k] => match m_nth ls k with
    | some (some (.long x)) => match m_nth ls (k + 1) with
      | some none => some (.inl (nx, ls, .long x :: st, h))
      | _ => none
    | _ => none
  | _ => none
def m_lda : Option mR := match ops with
  | [k] => match m_nth ls k with
    | some (some (.ref x)) => some (.inl (nx, ls, .ref x :: st, h))
    | some (some .null) => some (.inl (nx, ls, .null :: st, h))
    | _ => none
  | _ => none
def m_sti : Option mR := match ops, st with
  | [k], .int x :: r => cond (Nat.ble (k + 1) ls.length) (some (.inl (nx, ls.set k (some (.int x)), r, h))) none
  | _, _ => none
def m_stl : Option mR := match ops, st with
  | [k], .long x :: r => cond (Nat.ble (k + 2) ls.length) (some (.inl (nx, (ls.set k (some (.long x))).set (k + 1) none, r, h))) none
  | _, _ => none
def m_sta : Option mR := match ops, st with
  | [k], .ref x :: r => cond (Nat.ble (k + 1) ls.length) (some (.inl (nx, ls.set k (some (.ref x)), r, h))) none
  | [k], .null :: r => cond (Nat.ble (k + 1) ls.length) (some (.inl (nx, ls.set k (some .null), r, h))) none
  | _, _ => none
def m_inc (v : Value) : Option mR := match ops, v with
  | [k], .int n => match m_nth ls k with
    | some (some (.int x)) => some (.inl (nx, ls.set k (some (.int (x + n))), st, h))
    | _ => none
  | _, _ => none
def m_ifi (c : ClassFile.Cond) : Option mR := match ops, st with
  | [t], .int x :: r => some (.inl (cond (m_cmp c x 0) t nx, ls, r, h))
  | _, _ => none
def m_ifc (c : ClassFile.Cond) : Option mR := match ops, st with
  | [t], .int y :: .int x :: r => some (.inl (cond (m_cmp c x y) t nx, ls, r, h))
  | _, _ => none
def m_ifn (b : Bool) : Option mR := match ops, st with
  | [t], .null :: r => some (.inl (cond b t nx, ls, r, h))
  | [t], .ref a :: r => cond (Nat.ble 20 a) (some (.inl (cond b nx t, ls, r, h))) none
  | _, _ => none
def m_goto : Option mR := match ops with
  | [t] => some (.inl (t, ls, st, h))
  | _ => none
def m_tsw (lo hi : Int) : Option mR := match ops, st with
  | t :: ts, .int x :: r => cond (decide (x.toInt < lo ∨ hi < x.toInt)) (some (.inl (t, ls, r, h))) (match m_nth ts (x.toInt - lo).toNat with
    | some u => some (.inl (u, ls, r, h))
    | none => none)
  | _, _ => none
def m_lsw (d : Int) (ps : Array (Int × Int)) : Option mR := match ops, st with
  | [pc], .int x :: r => cond (decide (0 ≤ (pc : Int) + Op.lookupswitch.offset ps.toList d x.toInt)) (some (.inl (((pc : Int) + Op.lookupswitch.offset ps.toList d x.toInt).toNat, ls, r, h))) none
  | _, _ => none
def m_getf : Option mR := match ops, st with
  | [ci, k], .ref a :: r => match h a with
    | .inr (cj, fs) => cond (Nat.beq cj ci) (match m_nth fs k with
      | some v => some (.inl (nx, ls, v :: r, h))
      | none => none) none
    | _ => none
  | _, _ => none
/-- what a field of a kind may hold: 0 int, 1 long, 2 boolean, else a reference -/
def m_fits (tc : Nat) (v : Value) : Bool := match tc, v with
  | 0, .int _ => true
  | 1, .long _ => true
  | 2, .int x => decide (x = 0) || decide (x = 1)
  | 3, .ref _ => true
  | 3, .null => true
  | _, _ => false
def m_putf : Option mR := match ops, st with
  | [ci, k, tc], v :: .ref a :: r => match h a with
    | .inr (cj, fs) => cond (Nat.beq cj ci && Nat.ble 20 a && Nat.ble (a + 1) (m_nx h) && Nat.ble (k + 1) fs.length && m_fits tc v) (some (.inl (nx, ls, r, m_up h a (.inr (cj, fs.set k v))))) none
    | _ => none
  | _, _ => none
def m_alen : Option mR := match st with
  | .ref a :: r => match h a with
    | .inl (_, n, _) => some (.inl (nx, ls, .int (Int32.ofNat n) :: r, h))
    | _ => none
  | _ => none
def m_iald : Option mR := match st with
  | .int i :: .ref a :: r => match h a with
    | .inl (0, n, .inl f) => cond (m_in i n) (some (.inl (nx, ls, .int (f i.toNatClampNeg) :: r, h))) none
    | _ => none
  | _ => none
def m_bald : Option mR := match st with
  | .int i :: .ref a :: r => match h a with
    | .inl (2, n, .inl f) => cond (m_in i n) (some (.inl (nx, ls, .int (f i.toNatClampNeg) :: r, h))) none
    | .inl (4, n, .inl f) => cond (m_in i n) (some (.inl (nx, ls, .int (f i.toNatClampNeg) :: r, h))) none
    | _ => none
  | _ => none
def m_lald : Option mR := match st with
  | .int i :: .ref a :: r => match h a with
    | .inl (1, n, .inr (.inl f)) => cond (m_in i n) (some (.inl (nx, ls, .long (f i.toNatClampNeg) :: r, h))) none
    | _ => none
  | _ => none
def m_aald : Option mR := match st with
  | .int i :: .ref a :: r => match h a with
    | .inl (3, n, .inr (.inr (.inr (.inr f)))) => cond (m_in i n) (some (.inl (nx, ls, va_rf (f i.toNatClampNeg) :: r, h))) none
    | _ => none
  | _ => none
def m_iast : Option mR := match st with
  | .int x :: .int i :: .ref a :: r => match h a with
    | .inl (0, n, .inl f) => cond (m_in i n && Nat.ble 20 a && Nat.ble (a + 1) (m_nx h)) (some (.inl (nx, ls, r, m_up h a (.inl (0, n, .inl (upd f i.toNatClampNeg x)))))) none
    | _ => none
  | _ => none
def m_bast : Option mR := match st with
  | .int x :: .int i :: .ref a :: r => match h a with
    | .inl (2, n, .inl f) => cond (m_in i n && Nat.ble 20 a && Nat.ble (a + 1) (m_nx h)) (some (.inl (nx, ls, r, m_up h a (.inl (2, n, .inl (upd f i.toNatClampNeg (vp_nar .boolean x))))))) none
    | _ => none
  | _ => none
def m_last : Option mR := match st with
  | .long x :: .int i :: .ref a :: r => match h a with
    | .inl (1, n, .inr (.inl f)) => cond (m_in i n && Nat.ble 20 a && Nat.ble (a + 1) (m_nx h)) (some (.inl (nx, ls, r, m_up h a (.inl (1, n, .inr (.inl (vp_updL f i.toNatClampNeg x))))))) none
    | _ => none
  | _ => none
def m_zero (t : Nat) : (Nat → Int32) ⊕ (Nat → Int64) ⊕ (Nat → UInt32) ⊕ (Nat → UInt64) ⊕ (Nat → Option Nat) := match t with
  | 1 => .inr (.inl fun _ => 0)
  | _ => .inl fun _ => 0
def m_newa : Option mR := match ops, st with
  | [t], .int n :: r => cond (decide (0 ≤ n) && Nat.ble n.toNatClampNeg 100000 && Nat.ble 20 (m_nx h)) (some (.inl (nx, ls, .ref (m_nx h) :: r, m_al h (.inl (t, n.toNatClampNeg, m_zero t)) n.toNatClampNeg))) none
  | _, _ => none
def m_newo : Option mR := match ops with
  | [ci] => cond (Nat.ble 20 (m_nx h)) (some (.inl (nx, ls, .ref (m_nx h) :: st, m_al h (.inr (ci, m_new ci)) (m_new ci).length))) none
  | _ => none
/-- rows of rows: the outer one, then so many of so many longs -/
def m_alm (n k : Nat) : mH := fun a => cond (Nat.beq a 0) (.inr (m_nx h + 1 + n, [])) (cond (Nat.beq a 1) (.inr (m_us h + n + n * k, []))
  (cond (Nat.beq a (m_nx h)) (.inl (3, n, .inr (.inr (.inr (.inr fun i => if i < n then some (m_nx h + 1 + i) else none)))))
  (cond (Nat.ble (m_nx h + 1) a && Nat.ble (a + 1) (m_nx h + 1 + n)) (.inl (1, k, .inr (.inl fun _ => 0))) (h a))))
def m_newm : Option mR := match st with
  | .int k :: .int n :: r => cond (decide (0 ≤ n) && decide (0 ≤ k) && Nat.ble n.toNatClampNeg 100 && Nat.ble k.toNatClampNeg 100 && Nat.ble 20 (m_nx h)) (some (.inl (nx, ls, .ref (m_nx h) :: r, m_alm h n.toNatClampNeg k.toNatClampNeg))) none
  | _ => none
def m_copy : Option mR := match st with
  | .int n :: .int dp :: .ref b :: .int sp :: .ref a :: r => match h a, h b with
    | .inl (0, n0, .inl f), .inl (0, n1, .inl g) => cond (decide (0 ≤ sp) && decide (0 ≤ dp) && decide (0 ≤ n) && Nat.ble (sp.toNatClampNeg + n.toNatClampNeg) n0 && Nat.ble (dp.toNatClampNeg + n.toNatClampNeg) n1 && Nat.ble 20 a && Nat.ble (a + 1) (m_nx h) && Nat.ble 20 b && Nat.ble (b + 1) (m_nx h) && Nat.ble (m_cat r) 8)
        (some (.inl (nx, ls, r, m_up h b (.inl (0, n1, .inl (va_cpy f g sp.toNatClampNeg dp.toNatClampNeg n.toNatClampNeg)))))) none
    | _, _ => none
  | _ => none
/-- a call: whose, with what, what is left -/
def m_call (z : Nat) (args r : List Value) : Option mR := cond (Nat.ble (m_cat r) 8) (some (.inr (.inl (z, args, nx, r)))) none
def m_inv : Option mR := match ops with
  | [z, n, ci] => match st.drop n with
    | .ref b :: r => match h b with
      | .inr (cj, _) => cond (Nat.beq cj ci) (m_call nx z (.ref b :: (st.take n).reverse) r) none
      | _ => none
    | _ => none
  | _ => none
def m_invs : Option mR := match ops with
  | [z, n] => cond (Nat.ble n st.length) (m_call nx z (st.take n).reverse (st.drop n)) none
  | [] => m_copy nx ls st h
  | _ => none
def m_invi : Option mR := match ops with
  | [z, n] => match st.drop n with
    | .ref b :: r => m_call nx z (.ref b :: (st.take n).reverse) r
    | _ => none
  | [] => match st with
    | .ref _ :: r => cond (Nat.ble (m_cat r) 8) (some (.inl (nx, ls, r, h))) none
    | _ => none
  | _ => none
/-- an answer of a kind: 0 int, 1 boolean, 2 char, else byte -/
def m_rok (c : Nat) (x : Int32) : Bool := match c with
  | 0 => true
  | 1 => decide (x = 0) || decide (x = 1)
  | 2 => decide (narrow .char (.int x) = .int x)
  | _ => decide (narrow .byte (.int x) = .int x)
def m_ret : Option mR := match ops, st with
  | [c], [.int x] => cond (m_rok c x) (some (.inr (.inr (some (.int x))))) none
  | _, _ => none
end Steps
def m_st1 (e : mEnt) (ls : mL) (st : List Value) (h : mH) : Option mR := match e.1 with
  | .iconst _ => some (.inl (e.2.1, ls, e.2.2.2 :: st, h))
  | .bipush _ => some (.inl (e.2.1, ls, e.2.2.2 :: st, h))
  | .sipush _ => some (.inl (e.2.1, ls, e.2.2.2 :: st, h))
  | .lconst _ => some (.inl (e.2.1, ls, e.2.2.2 :: st, h))
  | .ldc _ => some (.inl (e.2.1, ls, e.2.2.2 :: st, h))
  | .ldc_w _ => some (.inl (e.2.1, ls, e.2.2.2 :: st, h))
  | .ldc2_w _ => some (.inl (e.2.1, ls, e.2.2.2 :: st, h))
  | .getstatic _ => some (.inl (e.2.1, ls, e.2.2.2 :: st, h))
  | .iload _ => m_ldi e.2.1 e.2.2.1 ls st h
  | .iload_n _ => m_ldi e.2.1 e.2.2.1 ls st h
  | .lload _ => m_ldl e.2.1 e.2.2.1 ls st h
  | .lload_n _ => m_ldl e.2.1 e.2.2.1 ls st h
  | .aload _ => m_lda e.2.1 e.2.2.1 ls st h
  | .aload_n _ => m_lda e.2.1 e.2.2.1 ls st h
  | .istore _ => m_sti e.2.1 e.2.2.1 ls st h
  | .istore_n _ => m_sti e.2.1 e.2.2.1 ls st h
  | .lstore _ => m_stl e.2.1 e.2.2.1 ls st h
  | .lstore_n _ => m_stl e.2.1 e.2.2.1 ls st h
  | .astore _ => m_sta e.2.1 e.2.2.1 ls st h
  | .astore_n _ => m_sta e.2.1 e.2.2.1 ls st h
  | .iinc _ _ => m_inc e.2.1 e.2.2.1 ls st h e.2.2.2
  | .iadd => m_bi e.2.1 ls st h (fun x y => x + y)
  | .isub => m_bi e.2.1 ls st h (fun x y => x - y)
  | .imul => m_bi e.2.1 ls st h (fun x y => x * y)
  | .iand => m_bi e.2.1 ls st h (fun x y => x &&& y)
  | .ior => m_bi e.2.1 ls st h (fun x y => x ||| y)
  | .ixor => m_bi e.2.1 ls st h (fun x y => x ^^^ y)
  | .ishl => m_bi e.2.1 ls st h (fun x y => x <<< (y &&& 31))
  | .ishr => m_bi e.2.1 ls st h (fun x y => x >>> (y &&& 31))
  | .iushr => m_bi e.2.1 ls st h (fun x y => (x.toUInt32 >>> (y.toUInt32 &&& Int32.toUInt32 31)).toInt32)
  | .idiv => m_bd e.2.1 ls st h (fun x y => x / y)
  | .irem => m_bd e.2.1 ls st h (fun x y => x - x / y * y)
  | .ineg => m_ui e.2.1 ls st h (fun x => -x)
  | .i2c => m_ui e.2.1 ls st h (fun x => (x.toUInt32 % 65536).toInt32)
  | .ladd => m_bl e.2.1 ls st h (fun x y => x + y)
  | .lmul => m_bl e.2.1 ls st h (fun x y => x * y)
  | .ldiv => m_bld e.2.1 ls st h (fun x y => x / y)
  | .lrem => m_bld e.2.1 ls st h (fun x y => x - x / y * y)
  | .lneg => match st with
    | .long x :: r => some (.inl (e.2.1, ls, .long (-x) :: r, h))
    | _ => none
  | .i2l => match st with
    | .int x :: r => some (.inl (e.2.1, ls, .long x.toInt64 :: r, h))
    | _ => none
  | .lcmp => match st with
    | .long y :: .long x :: r => some (.inl (e.2.1, ls, .int (lg_cmp x y) :: r, h))
    | _ => none
  | .dup => match st with
    | .int x :: r => some (.inl (e.2.1, ls, .int x :: .int x :: r, h))
    | .ref x :: r => some (.inl (e.2.1, ls, .ref x :: .ref x :: r, h))
    | .null :: r => some (.inl (e.2.1, ls, .null :: .null :: r, h))
    | _ => none
  | .dup2 => match st with
    | .int y :: .ref x :: r => some (.inl (e.2.1, ls, .int y :: .ref x :: .int y :: .ref x :: r, h))
    | .int y :: .int x :: r => some (.inl (e.2.1, ls, .int y :: .int x :: .int y :: .int x :: r, h))
    | .long x :: r => some (.inl (e.2.1, ls, .long x :: .long x :: r, h))
    | _ => none
  | .pop => match st with
    | .int _ :: r => some (.inl (e.2.1, ls, r, h))
    | _ => none
  | .pop2 => match st with
    | .long _ :: r => some (.inl (e.2.1, ls, r, h))
    | _ => none
  | .ifCond c _ => m_ifi e.2.1 e.2.2.1 ls st h c
  | .if_icmp c _ => m_ifc e.2.1 e.2.2.1 ls st h c
  | .ifnull _ => m_ifn e.2.1 e.2.2.1 ls st h true
  | .ifnonnull _ => m_ifn e.2.1 e.2.2.1 ls st h false
  | .goto _ => m_goto e.2.2.1 ls st h
  | .tableswitch _ lo hi _ => m_tsw e.2.2.1 ls st h lo hi
  | .lookupswitch d ps => m_lsw e.2.2.1 ls st h d ps
  | .getfield _ => m_getf e.2.1 e.2.2.1 ls st h
  | .putfield _ => m_putf e.2.1 e.2.2.1 ls st h
  | .arraylength => m_alen e.2.1 ls st h
  | .iaload => m_iald e.2.1 ls st h
  | .baload => m_bald e.2.1 ls st h
  | .laload => m_lald e.2.1 ls st h
  | .aaload => m_aald e.2.1 ls st h
  | .iastore => m_iast e.2.1 ls st h
  | .bastore => m_bast e.2.1 ls st h
  | .lastore => m_last e.2.1 ls st h
  | .newarray _ => m_newa e.2.1 e.2.2.1 ls st h
  | .new _ => m_newo e.2.1 e.2.2.1 ls st h
  | .multianewarray _ _ => m_newm e.2.1 ls st h
  | .invokevirtual _ => m_inv e.2.1 e.2.2.1 st h
  | .invokestatic _ => m_invs e.2.1 e.2.2.1 ls st h
  | .invokespecial _ => m_invi e.2.1 e.2.2.1 ls st h
  | .ireturn => m_ret e.2.2.1 st
  | .lreturn => match st with
    | [.long x] => some (.inr (.inr (some (.long x))))
    | _ => none
  | .return_ => match st with
    | [] => some (.inr (.inr none))
    | _ => none
  | _ => none
def m_init (z : Nat) (args : List Value) : mL := match m_meth z with
  | some (_, _, k, _) => m_fill k (m_lay args)
  | none => []
def m_run : Nat → Nat → Nat → Nat → mL → List Value → mH → Option (Option Value × mH)
  | 0, _, _, _, _, _, _ => none
  | n + 1, d, y, pc, ls, st, h => match m_cd y pc with
    | none => none
    | some e => match m_st1 e ls st h with
      | none => none
      | some (.inl (pc', ls', st', h')) => m_run n d y pc' ls' st' h'
      | some (.inr (.inl (z, args, pc', r))) => match d with
        | 0 => none
        | d' + 1 => match m_run n d' z 0 (m_init z args) [] h with
          | none => none
          | some (v, h') => m_run n (d' + 1) y pc' ls (v.toList ++ r) h'
      | some (.inr (.inr v)) => some (v, h)
theorem m_more : ∀ (n d y pc : Nat) (ls : mL) (st : List Value) (h : mH) (q : Option Value × mH), m_run n d y pc ls st h = some q → m_run (n + 1) d y pc ls st h = some q := by
  intro n
  induction n with
  | zero => intro d y pc ls st h q hq; cases hq
  | succ n ih =>
    intro d y pc ls st h q hq
    unfold m_run at hq ⊢
    cases hc : m_cd y pc with
    | none => rw [hc] at hq; cases hq
    | some e =>
      rw [hc] at hq
      dsimp only at hq ⊢
      cases hs : m_st1 e ls st h with
      | none => rw [hs] at hq; cases hq
      | some z =>
        rw [hs] at hq
        rcases z with ⟨pc', ls', st', h'⟩ | ⟨z, args, pc', r⟩ | v
        · exact ih _ _ _ _ _ _ _ hq
        · cases d with
          | zero => cases hq
          | succ d =>
            dsimp only at hq ⊢
            cases hr : m_run n d z 0 (m_init z args) [] h with
            | none => rw [hr] at hq; cases hq
            | some w =>
              rw [hr] at hq
              rw [ih _ _ _ _ _ _ _ hr]
              exact ih _ _ _ _ _ _ _ hq
        · exact hq
theorem m_mono {n k d y pc : Nat} {ls : mL} {st : List Value} {h : mH} {q : Option Value × mH} (hn : n ≤ k) (hq : m_run n d y pc ls st h = some q) : m_run k d y pc ls st h = some q := by
  induction hn with
  | refl => exact hq
  | step _ ih => exact m_more _ _ _ _ _ _ _ _ ih
/-- from this state the method returns, and what it returns, and the heap then, are as Q says -/
def mT0 (d y pc : Nat) (ls : mL) (st : List Value) (h : mH) (Q : Option Value → mH → Prop) : Prop := ∃ n v h', m_run n d y pc ls st h = some (v, h') ∧ Q v h'
def mGo (d y : Nat) (ls : mL) (h : mH) (Q : Option Value → mH → Prop) : Option mR → Prop
  | none => False
  | some (.inl (pc', ls', st', h')) => mT0 d y pc' ls' st' h' Q
  | some (.inr (.inl (z, args, pc', r))) => match d with
    | 0 => False
    | d' + 1 => mT0 d' z 0 (m_init z args) [] h (fun v h' => mT0 (d' + 1) y pc' ls (v.toList ++ r) h' Q)
  | some (.inr (.inr v)) => Q v h
def mAt (d y : Nat) (e : Option mEnt) (ls : mL) (st : List Value) (h : mH) (Q : Option Value → mH → Prop) : Prop := match e with
  | none => False
  | some e => mGo d y ls h Q (m_st1 e ls st h)
theorem mT_go {d y pc : Nat} {ls : mL} {st : List Value} {h : mH} {Q : Option Value → mH → Prop} (k : mAt d y (m_cd y pc) ls st h Q) : mT0 d y pc ls st h Q := by
  unfold mAt at k
  cases hc : m_cd y pc with
  | none => rw [hc] at k; exact k.elim
  | some e =>
    rw [hc] at k
    dsimp only at k
    cases hs : m_st1 e ls st h with
    | none => rw [hs] at k; exact k.elim
    | some z =>
      rw [hs] at k
      rcases z with ⟨pc', ls', st', h'⟩ | ⟨z, args, pc', r⟩ | v
      · obtain ⟨n, v, h2, hr, hQ⟩ := k
        exact ⟨n + 1, v, h2, by rw [m_run, hc]; dsimp only; rw [hs]; exact hr, hQ⟩
      · cases d with
        | zero => exact k.elim
        | succ d =>
          obtain ⟨n, v, h2, hr, n2, v2, h3, hr2, hQ⟩ := k
          refine ⟨(n + n2) + 1, v2, h3, ?_, hQ⟩
          rw [m_run, hc]
          dsimp only
          rw [hs]
          dsimp only
          rw [m_mono (Nat.le_add_right n n2) hr]
          exact m_mono (Nat.le_add_left n2 n) hr2
      · exact ⟨1, v, h, by rw [m_run, hc]; dsimp only; rw [hs], k⟩
