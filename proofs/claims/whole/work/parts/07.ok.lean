/-! When a line of the code tables is right. -/
def m_tc (tc : Nat) (ty : FieldType) : Prop := (tc = 0 ∧ ty = .int) ∨ (tc = 1 ∧ ty = .long) ∨ (tc = 2 ∧ ty = .boolean) ∨ (tc = 3 ∧ ((∃ C, ty = .object C) ∨ ∃ t, ty = .array t))
abbrev mM : Type := MethodName × ByteArray × Nat × Option FieldType
def m_calls (q : mM) (n : Nat) : Prop := Cond.code q.1 q.2.1 q.2.2.1 q.2.2.2 ∈ m_tbl ∧ q.1.cls ≠ "java/lang/invoke/MethodHandle" ∧ q.1.cls ≠ "java/lang/invoke/VarHandle" ∧ (parseMethodDescriptor q.1.desc).map (fun d => d.parameters.length) = some n ∧ plainName q.1.cls = true ∧ q.2.2.1 ≤ 40
def m_okI (nm : MethodName) (rt : Option FieldType) (pc : Nat) (i : Instr) (nx : Nat) (ops : List Nat) (v : Value) (len : Nat) : Prop := match i with
  | .iconst n => len = 1 ∧ nx = pc + 1 ∧ v = .int (Int32.ofInt n)
  | .bipush n => len = 2 ∧ nx = pc + 2 ∧ v = .int (Int8.ofInt n).toInt32
  | .sipush n => len = 3 ∧ nx = pc + 3 ∧ v = .int (Int16.ofInt n).toInt32
  | .lconst n => len = 1 ∧ nx = pc + 1 ∧ v = .long (Int64.ofNat (n : Nat))
  | .ldc j => len = 2 ∧ nx = pc + 2 ∧ ((∃ x, v = .int x ∧ Cond.constant nm.cls j x ∈ m_tbl) ∨ ∃ tx a, v = .ref a ∧ a < 19 ∧ (nm.cls, j, tx, a) ∈ m_strs)
  | .ldc_w j => len = 3 ∧ nx = pc + 3 ∧ ∃ x, v = .int x ∧ Cond.constant nm.cls j x ∈ m_tbl
  | .ldc2_w j => len = 3 ∧ nx = pc + 3 ∧ ∃ x, v = .long x ∧ Cond.constantLong nm.cls j x ∈ m_tbl
  | .getstatic j => len = 3 ∧ nx = pc + 3 ∧ ∃ C n d, (C, n, d, v) ∈ m_stats ∧ (Cond.fieldLink nm.cls j C n d ∈ m_tbl ∨ (nm.cls = "FewerMan$Acts" ∧ j = 50 ∧ C = "FewerMan" ∧ n = "ABOVE" ∧ d = "[I"))
  | .iload k => len = 2 ∧ nx = pc + 2 ∧ ops = [k]
  | .iload_n k => len = 1 ∧ nx = pc + 1 ∧ ops = [(k : Nat)]
  | .lload k => len = 2 ∧ nx = pc + 2 ∧ ops = [k]
  | .lload_n k => len = 1 ∧ nx = pc + 1 ∧ ops = [(k : Nat)]
  | .aload k => len = 2 ∧ nx = pc + 2 ∧ ops = [k]
  | .aload_n k => len = 1 ∧ nx = pc + 1 ∧ ops = [(k : Nat)]
  | .istore k => len = 2 ∧ nx = pc + 2 ∧ ops = [k]
  | .istore_n k => len = 1 ∧ nx = pc + 1 ∧ ops = [(k : Nat)]
  | .lstore k => len = 2 ∧ nx = pc + 2 ∧ ops = [k]
  | .lstore_n k => len = 1 ∧ nx = pc + 1 ∧ ops = [(k : Nat)]
  | .astore k => len = 2 ∧ nx = pc + 2 ∧ ops = [k]
  | .astore_n k => len = 1 ∧ nx = pc + 1 ∧ ops = [(k : Nat)]
  | .iinc k n => len = 3 ∧ nx = pc + 3 ∧ ops = [k] ∧ v = .int (Int32.ofInt n)
  | .iadd | .isub | .imul | .iand | .ior | .ixor | .ishl | .ishr | .iushr | .idiv | .irem | .ineg | .i2c | .ladd | .lmul | .ldiv | .lrem | .lneg | .i2l | .lcmp | .dup | .dup2 | .pop | .pop2 | .arraylength | .iaload | .baload | .laload | .aaload | .iastore | .bastore | .lastore => len = 1 ∧ nx = pc + 1
  | .ifCond _ o => len = 3 ∧ nx = pc + 3 ∧ ∃ t, ops = [t] ∧ (pc : Int) + o = (t : Int)
  | .if_icmp _ o => len = 3 ∧ nx = pc + 3 ∧ ∃ t, ops = [t] ∧ (pc : Int) + o = (t : Int)
  | .ifnull o => len = 3 ∧ nx = pc + 3 ∧ ∃ t, ops = [t] ∧ (pc : Int) + o = (t : Int)
  | .ifnonnull o => len = 3 ∧ nx = pc + 3 ∧ ∃ t, ops = [t] ∧ (pc : Int) + o = (t : Int)
  | .goto o => len = 3 ∧ ∃ t, ops = [t] ∧ (pc : Int) + o = (t : Int)
  | .tableswitch d lo hi offs => ∃ t ts, ops = t :: ts ∧ (pc : Int) + d = (t : Int) ∧ offs.toList = ts.map (fun u : Nat => (u : Int) - (pc : Int))
  | .lookupswitch _ ps => ops = [pc] ∧ (ps.toList.zip (ps.toList.drop 1)).all (fun (a, next) => a.1 < next.1) = true
  | .getfield j => len = 3 ∧ nx = pc + 3 ∧ ∃ ci k, ops = [ci, k] ∧ ((∃ q, vwCl[ci]? = some q ∧ k < q.2.2 ∧ Cond.fieldLink nm.cls j (q.2.1 k).1 (q.2.1 k).2.1 (q.2.1 k).2.2.1 ∈ m_tbl) ∨ (ci = 11 ∧ ((k = 0 ∧ Cond.fieldLink nm.cls j "java/lang/String" "value" "[B" ∈ m_tbl) ∨ (k = 1 ∧ Cond.fieldLink nm.cls j "java/lang/String" "coder" "B" ∈ m_tbl))))
  | .putfield j => len = 3 ∧ nx = pc + 3 ∧ ∃ ci k tc q, ops = [ci, k, tc] ∧ vwCl[ci]? = some q ∧ k < q.2.2 ∧ Cond.fieldLink nm.cls j (q.2.1 k).1 (q.2.1 k).2.1 (q.2.1 k).2.2.1 ∈ m_tbl ∧ ((q.2.1 k).2.2.2 = false ∨ ((q.2.1 k).2.2.2 = true ∧ nm.name = "<init>" ∧ (q.2.1 k).1 = nm.cls)) ∧ ∃ ty, parseFieldDescriptor (q.2.1 k).2.2.1 = some ty ∧ m_tc tc ty
  | .newarray at_ => len = 2 ∧ nx = pc + 2 ∧ ((ops = [0] ∧ at_ = .int) ∨ (ops = [1] ∧ at_ = .long) ∨ (ops = [2] ∧ at_ = .boolean)) ∧ Cond.arrayClass (newarray.typeOf at_) ∈ m_tbl
  | .new j => len = 3 ∧ nx = pc + 3 ∧ ∃ ci q, ops = [ci] ∧ vwCl[ci]? = some q ∧ Cond.classLink nm.cls j q.1 ∈ m_tbl ∧ Cond.instantiable q.1 q.2.2 ∈ m_tbl ∧ Cond.initialized q.1 ∈ m_tbl
  | .multianewarray j k => len = 4 ∧ nx = pc + 4 ∧ k = 2 ∧ nm.cls = "FewerMan$Orders" ∧ j = 18
  | .invokevirtual j => len = 3 ∧ nx = pc + 3 ∧ ∃ z n ci q, ops = [z, n, ci] ∧ m_meth z = some q ∧ m_calls q n ∧ ((∃ r, vwCl[ci]? = some r ∧ r.1 = q.1.cls) ∨ (ci = 11 ∧ q.1.cls = "java/lang/String")) ∧ Cond.methodLink nm.cls j q.1 ∈ m_tbl ∧ Cond.instanceMethod q.1 ∈ m_tbl ∧ Cond.selects q.1.cls q.1 q.1 ∈ m_tbl ∧ Cond.initialized q.1.cls ∈ m_tbl
  | .invokestatic j => len = 3 ∧ nx = pc + 3 ∧ ((ops = [] ∧ Cond.methodLink nm.cls j arraycopyName ∈ m_tbl ∧ Cond.native arraycopyName ∈ m_tbl ∧ Cond.static arraycopyName ∈ m_tbl ∧ Cond.initialized "java/lang/System" ∈ m_tbl) ∨ ∃ z n q, ops = [z, n] ∧ m_meth z = some q ∧ m_calls q n ∧ Cond.methodLink nm.cls j q.1 ∈ m_tbl ∧ Cond.static q.1 ∈ m_tbl ∧ Cond.initialized q.1.cls ∈ m_tbl)
  | .invokespecial j => len = 3 ∧ nx = pc + 3 ∧ ((ops = [] ∧ Cond.methodLink nm.cls j objectInit ∈ m_tbl ∧ Cond.instanceMethod objectInit ∈ m_tbl ∧ Cond.code objectInit ⟨#[0xb1]⟩ 1 none ∈ m_tbl) ∨ ∃ z n q, ops = [z, n] ∧ m_meth z = some q ∧ m_calls q n ∧ q.1.name = "<init>" ∧ q.2.2.2 = none ∧ Cond.instanceMethod q.1 ∈ m_tbl ∧ Cond.initialized q.1.cls ∈ m_tbl ∧ (Cond.methodLink nm.cls j q.1 ∈ m_tbl ∨ (nm.cls, j, q.1) ∈ m_nestM))
  | .ireturn => len = 1 ∧ ∃ c ty, ops = [c] ∧ rt = some ty ∧ ((c = 0 ∧ ty = .int) ∨ (c = 1 ∧ ty = .boolean) ∨ (c = 2 ∧ ty = .char) ∨ (c = 3 ∧ ty = .byte))
  | .lreturn => len = 1 ∧ rt = some .long
  | .return_ => len = 1 ∧ rt = none
  | _ => False
/-- a line of a method's table is right -/
def m_okE (q : mM) (pc : Nat) (e : mEnt) : Prop := ∃ len, decode q.2.1 pc = .ok (e.1, len) ∧ m_okI q.1 q.2.2.2 pc e.1 e.2.1 e.2.2.1 e.2.2.2 len
def m_Right (q : mM) (t : mC) : Prop := ∀ pc e, t pc = some e → m_okE q pc e
theorem m_right_nd {q : mM} {k : Nat} {a b : mC} (ha : m_Right q a) (hb : m_Right q b) : m_Right q (m_nd k a b) := by
  intro pc e h
  unfold m_nd at h
  cases hk : Nat.ble k pc with
  | true => rw [hk] at h; exact hb pc e h
  | false => rw [hk] at h; exact ha pc e h
theorem m_right_lf {q : mM} {k : Nat} {e : mEnt} (h : m_okE q k e) : m_Right q (m_lf k e) := by
  intro pc e2 h2
  unfold m_lf at h2
  cases hk : Nat.beq k pc with
  | true =>
    rw [hk] at h2
    cases h2
    rw [← Nat.eq_of_beq_eq_true hk]
    exact h
  | false => rw [hk] at h2; cases h2
/-- all methods' tables are right -/
def m_AllRight : Prop := ∀ (y : Nat) (q : mM), m_meth y = some q → m_Right q (m_cd y)
