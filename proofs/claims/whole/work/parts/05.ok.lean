/-! When a line of the code tables is right. -/
def m_nestM : List (String × Nat × MethodName) := [("FewerMan$Duel", 11, yX1_init), ("FewerMan", 61, yX0_init), ("FewerMan", 54, yX8_init), ("FewerMan", 47, yX4_init), ("FewerMan", 40, yX5_init), ("FewerMan", 33, yX2_init), ("FewerMan", 26, yX6_init), ("FewerMan", 11, yX7_init)]
def m_stats : List (String × String × String × Value) := [("FewerMan", "ABOVE", "[I", .ref 3), ("FewerMan$Acts", "MOVES", "[I", .ref 4), ("FewerMan$Acts", "BETS", "[I", .ref 5), ("FewerMan$Acts", "TELLS", "[I", .ref 6), ("java/lang/String", "COMPACT_STRINGS", "Z", .int 1), ("jdk/internal/util/Preconditions", "SIOOBE_FORMATTER", "Ljava/util/function/BiFunction;", .ref 19)]
def m_strs : List (String × Nat × String × Nat) := [("FewerManModel", 98, "pkmog", 7), ("FewerManModel", 104, "<=>", 8), ("FewerManModel", 116, "ift ", 9), ("FewerManModel", 122, "ess ", 10), ("FewerManModel", 130, "duck ", 11), ("FewerManModel", 132, "more ", 12)]
def m_tc (tc : Nat) (ty : FieldType) : Prop := (tc = 0 ∧ ty = .int) ∨ (tc = 1 ∧ ty = .long) ∨ (tc = 2 ∧ ty = .boolean) ∨ (tc = 3 ∧ ((∃ C, ty = .object C) ∨ ∃ t, ty = .array t))
abbrev mM : Type := MethodName × ByteArray × Nat × Option FieldType
def m_calls (q : mM) (n : Nat) : Prop := Cond.code q.1 q.2.1 q.2.2.1 q.2.2.2 ∈ m_tbl ∧ q.1.cls ≠ "java/lang/invoke/MethodHandle" ∧ q.1.cls ≠ "java/lang/invoke/VarHandle" ∧ (parseMethodDescriptor q.1.desc).map (fun d => d.parameters.length) = some n ∧ plainName q.1.cls = true ∧ q.2.2.1 ≤ 40
/-- a static method of Math: 0 max, 1 min, 2 abs, 3 abs of a long, 4 max of longs -/
def m_math (own : String) (j k : Nat) : Prop := Cond.initialized "java/lang/Math" ∈ m_tbl ∧ (
  (k = 0 ∧ Cond.methodLink own j Lib.Math.max.name ∈ m_tbl ∧ Cond.static Lib.Math.max.name ∈ m_tbl ∧ Cond.code Lib.Math.max.name Lib.Math.max.code 2 (some .int) ∈ m_tbl) ∨
  (k = 1 ∧ Cond.methodLink own j Lib.Math.min.name ∈ m_tbl ∧ Cond.static Lib.Math.min.name ∈ m_tbl ∧ Cond.code Lib.Math.min.name Lib.Math.min.code 2 (some .int) ∈ m_tbl) ∨
  (k = 2 ∧ Cond.methodLink own j Lib.Math.abs.name ∈ m_tbl ∧ Cond.static Lib.Math.abs.name ∈ m_tbl ∧ Cond.code Lib.Math.abs.name Lib.Math.abs.code 1 (some .int) ∈ m_tbl) ∨
  (k = 3 ∧ Cond.methodLink own j Lib.MathLoose.abs_long.x ∈ m_tbl ∧ Cond.static Lib.MathLoose.abs_long.x ∈ m_tbl ∧ Cond.code Lib.MathLoose.abs_long.x Lib.MathLoose.abs_long.code 2 (some .long) ∈ m_tbl) ∨
  (k = 4 ∧ Cond.methodLink own j Lib.MathLoose.max_long.x ∈ m_tbl ∧ Cond.static Lib.MathLoose.max_long.x ∈ m_tbl ∧ Cond.code Lib.MathLoose.max_long.x Lib.MathLoose.max_long.code 4 (some .long) ∈ m_tbl))
def m_okI (nm : MethodName) (rt : Option FieldType) (pc : Nat) (i : Instr) (nx : Nat) (ops : List Nat) (v : Value) (len : Nat) : Prop := match i with
  | .iconst n => len = 1 ∧ nx = pc + 1 ∧ v = .int (Int32.ofInt n)
  | .bipush n => len = 2 ∧ nx = pc + 2 ∧ v = .int (Int8.ofInt n).toInt32
  | .sipush n => len = 3 ∧ nx = pc + 3 ∧ v = .int (Int16.ofInt n).toInt32
  | .lconst n => len = 1 ∧ nx = pc + 1 ∧ v = .long (Int64.ofNat (n : Nat))
  | .ldc j => len = 2 ∧ nx = pc + 2 ∧ ((∃ x, v = .int x ∧ Cond.constant nm.cls j x ∈ m_tbl) ∨ ∃ tx a, v = .ref a ∧ a < 19 ∧ (nm.cls, j, tx, a) ∈ m_strs)
  | .ldc_w j => len = 3 ∧ nx = pc + 3 ∧ ∃ x, v = .int x ∧ Cond.constant nm.cls j x ∈ m_tbl
  | .ldc2_w j => len = 3 ∧ nx = pc + 3 ∧ ∃ x, v = .long x ∧ Cond.constantLong nm.cls j x ∈ m_tbl
  | .getstatic j => len = 3 ∧ nx = pc + 3 ∧ ∃ C n d, (C, n, d, v) ∈ m_stats ∧ (Cond.fieldLink nm.cls j C n d ∈ m_tbl ∨ (nm.cls = "FewerMan$Acts" ∧ j = 51 ∧ C = "FewerMan" ∧ n = "ABOVE" ∧ d = "[I"))
  | .iload k => len = 2 ∧ nx = pc + 2 ∧ ops = [k]
  | .iload_n k => len = 1 ∧ nx = pc + 1 ∧ ops = [(k : Nat)]
  | .lload k => len = 2 ∧ nx = pc + 2 ∧ ops = [k]
  | .lload_n k => len = 1 ∧ nx = pc + 1 ∧ ops = [(k : Nat)]
  | .aload k => len = 2 ∧ nx = pc + 2 ∧ ops = [k]
  | .aload_n k => len = 1 ∧ nx = pc + 1 ∧ ops = [(k : Nat)]
  | .istore k => len = 2 ∧ nx = pc + 2 ∧ ops = [k]
  | .istore_n k => len = 1 ∧ nx = pc + 1 ∧ ops = [(k : Nat)]
  | .lstore k => len = 2 ∧ nx = pc + 2 ∧ ops = [k]
  | .lstore_n k => len = 1 ∧ nx = pc + 1 ∧ ops = [(k : Nat)]
  | .astore k => len = 2 ∧ nx = pc + 2 ∧ ops = [k]
  | .astore_n k => len = 1 ∧ nx = pc + 1 ∧ ops = [(k : Nat)]
  | .iinc k n => len = 3 ∧ nx = pc + 3 ∧ ops = [k] ∧ v = .int (Int32.ofInt n)
  | .iadd | .isub | .imul | .iand | .ior | .ixor | .ishl | .ishr | .iushr | .idiv | .irem | .ineg | .i2c | .ladd | .lmul | .ldiv | .lrem | .lneg | .i2l | .lcmp | .dup | .dup2 | .pop | .pop2 | .arraylength | .iaload | .baload | .laload | .aaload | .iastore | .bastore | .lastore => len = 1 ∧ nx = pc + 1
  | .ifCond _ o => len = 3 ∧ nx = pc + 3 ∧ ∃ t, ops = [t] ∧ (pc : Int) + o = (t : Int)
  | .if_icmp _ o => len = 3 ∧ nx = pc + 3 ∧ ∃ t, ops = [t] ∧ (pc : Int) + o = (t : Int)
  | .ifnull o => len = 3 ∧ nx = pc + 3 ∧ ∃ t, ops = [t] ∧ (pc : Int) + o = (t : Int)
  | .ifnonnull o => len = 3 ∧ nx = pc + 3 ∧ ∃ t, ops = [t] ∧ (pc : Int) + o = (t : Int)
  | .goto o => len = 3 ∧ ∃ t, ops = [t] ∧ (pc : Int) + o = (t : Int)
  | .tableswitch d lo hi offs => ∃ t ts, ops = t :: ts ∧ (pc : Int) + d = (t : Int) ∧ offs.toList = ts.map (fun u : Nat => (u : Int) - (pc : Int))
  | .lookupswitch _ ps => ops = [pc] ∧ (ps.toList.zip (ps.toList.drop 1)).all (fun (a, next) => a.1 < next.1) = true
  | .getfield j => len = 3 ∧ nx = pc + 3 ∧ ∃ ci k, ops = [ci, k] ∧ ((∃ q, vwCl[ci]? = some q ∧ k < q.2.2 ∧ Cond.fieldLink nm.cls j (q.2.1 k).1 (q.2.1 k).2.1 (q.2.1 k).2.2.1 ∈ m_tbl) ∨ (ci = 11 ∧ ((k = 0 ∧ Cond.fieldLink nm.cls j "java/lang/String" "value" "[B" ∈ m_tbl) ∨ (k = 1 ∧ Cond.fieldLink nm.cls j "java/lang/String" "coder" "B" ∈ m_tbl))))
  | .putfield j => len = 3 ∧ nx = pc + 3 ∧ ∃ ci k tc q, ops = [ci, k, tc] ∧ vwCl[ci]? = some q ∧ k < q.2.2 ∧ Cond.fieldLink nm.cls j (q.2.1 k).1 (q.2.1 k).2.1 (q.2.1 k).2.2.1 ∈ m_tbl ∧ ((q.2.1 k).2.2.2 = false ∨ ((q.2.1 k).2.2.2 = true ∧ nm.name = "<init>" ∧ (q.2.1 k).1 = nm.cls)) ∧ ∃ ty, parseFieldDescriptor (q.2.1 k).2.2.1 = some ty ∧ m_tc tc ty
  | .newarray at_ => len = 2 ∧ nx = pc + 2 ∧ ((ops = [0] ∧ at_ = .int) ∨ (ops = [1] ∧ at_ = .long) ∨ (ops = [2] ∧ at_ = .boolean)) ∧ Cond.arrayClass (newarray.typeOf at_) ∈ m_tbl
  | .new j => len = 3 ∧ nx = pc + 3 ∧ ∃ ci q, ops = [ci] ∧ vwCl[ci]? = some q ∧ Cond.classLink nm.cls j q.1 ∈ m_tbl ∧ Cond.instantiable q.1 q.2.2 ∈ m_tbl ∧ Cond.initialized q.1 ∈ m_tbl
  | .multianewarray j k => len = 4 ∧ nx = pc + 4 ∧ k = 2 ∧ nm.cls = "FewerMan$Orders" ∧ j = 18
  | .invokevirtual j => len = 3 ∧ nx = pc + 3 ∧ ∃ z n ci q, ops = [z, n, ci] ∧ m_meth z = some q ∧ m_calls q n ∧ ((∃ r, vwCl[ci]? = some r ∧ r.1 = q.1.cls) ∨ (ci = 11 ∧ q.1.cls = "java/lang/String")) ∧ Cond.methodLink nm.cls j q.1 ∈ m_tbl ∧ Cond.instanceMethod q.1 ∈ m_tbl ∧ Cond.selects q.1.cls q.1 q.1 ∈ m_tbl ∧ Cond.initialized q.1.cls ∈ m_tbl
  | .invokestatic j => len = 3 ∧ nx = pc + 3 ∧ ((∃ k, ops = [k] ∧ m_math nm.cls j k) ∨ (ops = [] ∧ Cond.methodLink nm.cls j arraycopyName ∈ m_tbl ∧ Cond.native arraycopyName ∈ m_tbl ∧ Cond.static arraycopyName ∈ m_tbl ∧ Cond.initialized "java/lang/System" ∈ m_tbl) ∨ ∃ z n q, ops = [z, n] ∧ m_meth z = some q ∧ m_calls q n ∧ Cond.methodLink nm.cls j q.1 ∈ m_tbl ∧ Cond.static q.1 ∈ m_tbl ∧ Cond.initialized q.1.cls ∈ m_tbl)
  | .invokespecial j => len = 3 ∧ nx = pc + 3 ∧ ((ops = [] ∧ Cond.methodLink nm.cls j objectInit ∈ m_tbl ∧ Cond.instanceMethod objectInit ∈ m_tbl ∧ Cond.code objectInit ⟨#[0xb1]⟩ 1 none ∈ m_tbl) ∨ ∃ z n q, ops = [z, n] ∧ m_meth z = some q ∧ m_calls q n ∧ q.1.name = "<init>" ∧ q.2.2.2 = none ∧ Cond.instanceMethod q.1 ∈ m_tbl ∧ Cond.initialized q.1.cls ∈ m_tbl ∧ (Cond.methodLink nm.cls j q.1 ∈ m_tbl ∨ (nm.cls, j, q.1) ∈ m_nestM))
  | .ireturn => len = 1 ∧ ∃ c ty, ops = [c] ∧ rt = some ty ∧ ((c = 0 ∧ ty = .int) ∨ (c = 1 ∧ ty = .boolean) ∨ (c = 2 ∧ ty = .char) ∨ (c = 3 ∧ ty = .byte))
  | .lreturn => len = 1 ∧ rt = some .long
  | .return_ => len = 1 ∧ rt = none
  | _ => False
/-- a line of a method's table is right -/
def m_okE (q : mM) (pc : Nat) (e : mEnt) : Prop := ∃ len, decode q.2.1 pc = .ok (e.1, len) ∧ m_okI q.1 q.2.2.2 pc e.1 e.2.1 e.2.2.1 e.2.2.2 len
def m_Right (q : mM) (t : mC) : Prop := ∀ pc e, t pc = some e → m_okE q pc e
theorem m_right_nd {q : mM} {k : Nat} {a b : mC} (ha : m_Right q a) (hb : m_Right q b) : m_Right q (m_nd k a b) := by
  intro pc e h
  unfold m_nd at h
  cases hk : Nat.ble k pc with
  | true => rw [hk] at h; exact hb pc e h
  | false => rw [hk] at h; exact ha pc e h
theorem m_right_lf {q : mM} {k : Nat} {e : mEnt} (h : m_okE q k e) : m_Right q (m_lf k e) := by
  intro pc e2 h2
  unfold m_lf at h2
  cases hk : Nat.beq k pc with
  | true =>
    rw [hk] at h2
    cases h2
    rw [← Nat.eq_of_beq_eq_true hk]
    exact h
  | false => rw [hk] at h2; cases h2
/-- all methods' tables are right -/
def m_AllRight : Prop := ∀ (y : Nat) (q : mM), m_meth y = some q → m_Right q (m_cd y)
-- by program (gen2.py)
theorem me_X0_init : m_meth 0 = some (yX0_init, cX0_init, 1, none) := rfl
theorem me_X0_forget : m_meth 1 = some (yX0_forget, cX0_forget, 1, none) := rfl
theorem me_X0_kept : m_meth 2 = some (yX0_kept, cX0_kept, 1, (some .int)) := rfl
theorem me_X0_does : m_meth 3 = some (yX0_does, cX0_does, 6, (some .int)) := rfl
theorem me_X0_begins : m_meth 4 = some (yX0_begins, cX0_begins, 2, none) := rfl
theorem me_X0_moves : m_meth 5 = some (yX0_moves, cX0_moves, 3, (some .int)) := rfl
theorem me_X0_bets : m_meth 6 = some (yX0_bets, cX0_bets, 3, (some .int)) := rfl
theorem me_X0_tells : m_meth 7 = some (yX0_tells, cX0_tells, 4, (some .int)) := rfl
theorem me_X1_init : m_meth 8 = some (yX1_init, cX1_init, 1, none) := rfl
theorem me_X1_pairOf : m_meth 9 = some (yX1_pairOf, cX1_pairOf, 2, (some .int)) := rfl
theorem me_X1_menOfOne : m_meth 10 = some (yX1_menOfOne, cX1_menOfOne, 1, (some .int)) := rfl
theorem me_X1_menOfOther : m_meth 11 = some (yX1_menOfOther, cX1_menOfOther, 1, (some .int)) := rfl
theorem me_X1_add : m_meth 12 = some (yX1_add, cX1_add, 5, none) := rfl
theorem me_X1_part : m_meth 13 = some (yX1_part, cX1_part, 3, (some .long)) := rfl
theorem me_X1_take : m_meth 14 = some (yX1_take, cX1_take, 5, (some .long)) := rfl
theorem me_X1_clear : m_meth 15 = some (yX1_clear, cX1_clear, 3, none) := rfl
theorem me_X2_init : m_meth 16 = some (yX2_init, cX2_init, 1, none) := rfl
theorem me_X2_begins : m_meth 17 = some (yX2_begins, cX2_begins, 5, none) := rfl
theorem me_X2_goesOn : m_meth 18 = some (yX2_goesOn, cX2_goesOn, 2, none) := rfl
theorem me_X2_spreads : m_meth 19 = some (yX2_spreads, cX2_spreads, 11, none) := rfl
theorem me_X2_takesWon : m_meth 20 = some (yX2_takesWon, cX2_takesWon, 5, (some .long)) := rfl
theorem me_X2_takesEnded : m_meth 21 = some (yX2_takesEnded, cX2_takesEnded, 4, (some .long)) := rfl
theorem me_X2_menOfOne : m_meth 22 = some (yX2_menOfOne, cX2_menOfOne, 4, (some .long)) := rfl
theorem me_X2_stakeOfOne : m_meth 23 = some (yX2_stakeOfOne, cX2_stakeOfOne, 7, (some .long)) := rfl
theorem me_X3_init : m_meth 24 = some (yX3_init, cX3_init, 2, none) := rfl
theorem me_X3_lift : m_meth 25 = some (yX3_lift, cX3_lift, 5, (some .int)) := rfl
theorem me_X3_testOf : m_meth 26 = some (yX3_testOf, cX3_testOf, 3, (some .int)) := rfl
theorem me_X3_passes : m_meth 27 = some (yX3_passes, cX3_passes, 5, (some .int)) := rfl
theorem me_X4_init : m_meth 28 = some (yX4_init, cX4_init, 1, none) := rfl
theorem me_X4_looksFor : m_meth 29 = some (yX4_looksFor, cX4_looksFor, 5, none) := rfl
theorem me_X4_tryRows : m_meth 30 = some (yX4_tryRows, cX4_tryRows, 6, none) := rfl
theorem me_X4_plays : m_meth 31 = some (yX4_plays, cX4_plays, 9, (some .long)) := rfl
theorem me_X5_init : m_meth 32 = some (yX5_init, cX5_init, 1, none) := rfl
theorem me_X5_atBest : m_meth 33 = some (yX5_atBest, cX5_atBest, 5, (some .long)) := rfl
theorem me_X5_losesFirst : m_meth 34 = some (yX5_losesFirst, cX5_losesFirst, 7, (some .boolean)) := rfl
theorem me_X5_asks : m_meth 35 = some (yX5_asks, cX5_asks, 4, none) := rfl
theorem me_X5_best : m_meth 36 = some (yX5_best, cX5_best, 10, (some .long)) := rfl
theorem me_X5_ifWon : m_meth 37 = some (yX5_ifWon, cX5_ifWon, 5, (some .long)) := rfl
theorem me_X5_ifLost : m_meth 38 = some (yX5_ifLost, cX5_ifLost, 5, (some .long)) := rfl
theorem me_X6_init : m_meth 39 = some (yX6_init, cX6_init, 1, none) := rfl
theorem me_X6_reads : m_meth 40 = some (yX6_reads, cX6_reads, 4, (some .boolean)) := rfl
theorem me_X6_peek : m_meth 41 = some (yX6_peek, cX6_peek, 1, (some .int)) := rfl
theorem me_X6_sign : m_meth 42 = some (yX6_sign, cX6_sign, 2, (some .boolean)) := rfl
theorem me_X6_signs : m_meth 43 = some (yX6_signs, cX6_signs, 4, (some .boolean)) := rfl
theorem me_X6_clause : m_meth 44 = some (yX6_clause, cX6_clause, 3, (some .boolean)) := rfl
theorem me_X6_word : m_meth 45 = some (yX6_word, cX6_word, 1, (some .int)) := rfl
theorem me_X6_number : m_meth 46 = some (yX6_number, cX6_number, 3, (some .int)) := rfl
theorem me_X6_digit : m_meth 47 = some (yX6_digit, cX6_digit, 1, (some .int)) := rfl
theorem me_X6_either : m_meth 48 = some (yX6_either, cX6_either, 4, (some .boolean)) := rfl
theorem me_X6_both : m_meth 49 = some (yX6_both, cX6_both, 4, (some .boolean)) := rfl
theorem me_X6_one : m_meth 50 = some (yX6_one, cX6_one, 7, (some .boolean)) := rfl
theorem me_X6_aboutOf : m_meth 51 = some (yX6_aboutOf, cX6_aboutOf, 1, (some .int)) := rfl
theorem me_X6_comparisonOf : m_meth 52 = some (yX6_comparisonOf, cX6_comparisonOf, 1, (some .int)) := rfl
theorem me_X6_put : m_meth 53 = some (yX6_put, cX6_put, 2, none) := rfl
theorem me_X7_init : m_meth 54 = some (yX7_init, cX7_init, 1, none) := rfl
theorem me_X7_becomes : m_meth 55 = some (yX7_becomes, cX7_becomes, 2, none) := rfl
theorem me_X7_comes : m_meth 56 = some (yX7_comes, cX7_comes, 4, none) := rfl
theorem me_X7_less : m_meth 57 = some (yX7_less, cX7_less, 1, (some .int)) := rfl
theorem me_X7_more : m_meth 58 = some (yX7_more, cX7_more, 1, (some .int)) := rfl
theorem me_X7_menIfWon : m_meth 59 = some (yX7_menIfWon, cX7_menIfWon, 2, (some .int)) := rfl
theorem me_X7_menIfLost : m_meth 60 = some (yX7_menIfLost, cX7_menIfLost, 2, (some .int)) := rfl
theorem me_X7_pushOf : m_meth 61 = some (yX7_pushOf, cX7_pushOf, 6, (some .int)) := rfl
theorem me_X7_masterly : m_meth 62 = some (yX7_masterly, cX7_masterly, 2, (some .int)) := rfl
theorem me_X7_slyly : m_meth 63 = some (yX7_slyly, cX7_slyly, 1, (some .int)) := rfl
theorem me_X7_newly : m_meth 64 = some (yX7_newly, cX7_newly, 1, (some .int)) := rfl
theorem me_X7_oddsOf : m_meth 65 = some (yX7_oddsOf, cX7_oddsOf, 7, (some .int)) := rfl
theorem me_X7_oddsNow : m_meth 66 = some (yX7_oddsNow, cX7_oddsNow, 3, (some .int)) := rfl
theorem me_X7_game : m_meth 67 = some (yX7_game, cX7_game, 4, none) := rfl
theorem me_X7_chanceOfBook : m_meth 68 = some (yX7_chanceOfBook, cX7_chanceOfBook, 2, (some .int)) := rfl
theorem me_X7_gameOfBook : m_meth 69 = some (yX7_gameOfBook, cX7_gameOfBook, 2, none) := rfl
theorem me_X8_init : m_meth 70 = some (yX8_init, cX8_init, 1, none) := rfl
theorem me_X8_wonBy : m_meth 71 = some (yX8_wonBy, cX8_wonBy, 5, (some .long)) := rfl
theorem me_X8_wonFrom : m_meth 72 = some (yX8_wonFrom, cX8_wonFrom, 11, (some .long)) := rfl
theorem me_X8_comesFor : m_meth 73 = some (yX8_comesFor, cX8_comesFor, 3, (some .int)) := rfl
theorem me_X8_goesBack : m_meth 74 = some (yX8_goesBack, cX8_goesBack, 5, none) := rfl
theorem me_X9_init : m_meth 75 = some (yX9_init, cX9_init, 1, none) := rfl
theorem me_X9_feed : m_meth 76 = some (yX9_feed, cX9_feed, 2, (some .int)) := rfl
theorem me_X9_inn : m_meth 77 = some (yX9_inn, cX9_inn, 2, (some .int)) := rfl
theorem me_X9_player : m_meth 78 = some (yX9_player, cX9_player, 3, (some .int)) := rfl
theorem me_X9_of : m_meth 79 = some (yX9_of, cX9_of, 3, (some .int)) := rfl
theorem me_X9_men : m_meth 80 = some (yX9_men, cX9_men, 4, (some .int)) := rfl
theorem me_X9_row : m_meth 81 = some (yX9_row, cX9_row, 5, (some .int)) := rfl
theorem me_X9_told : m_meth 82 = some (yX9_told, cX9_told, 2, (some .int)) := rfl
theorem me_X9_push : m_meth 83 = some (yX9_push, cX9_push, 4, (some .int)) := rfl
theorem me_X9_odds : m_meth 84 = some (yX9_odds, cX9_odds, 4, (some .int)) := rfl
theorem me_X9_play : m_meth 85 = some (yX9_play, cX9_play, 5, (some .int)) := rfl
theorem me_X9_wins : m_meth 86 = some (yX9_wins, cX9_wins, 7, (some .long)) := rfl
theorem me_X9_mean : m_meth 87 = some (yX9_mean, cX9_mean, 6, (some .long)) := rfl
theorem me_X9_series : m_meth 88 = some (yX9_series, cX9_series, 9, (some .long)) := rfl
theorem me_X9_ends : m_meth 89 = some (yX9_ends, cX9_ends, 8, (some .long)) := rfl
theorem me_X9_even : m_meth 90 = some (yX9_even, cX9_even, 8, (some .int)) := rfl
theorem me_X9_purpose : m_meth 91 = some (yX9_purpose, cX9_purpose, 5, (some .long)) := rfl
theorem me_X9_loses : m_meth 92 = some (yX9_loses, cX9_loses, 5, (some .int)) := rfl
theorem me_X9_order : m_meth 93 = some (yX9_order, cX9_order, 4, (some .int)) := rfl
theorem me_X9_orderMean : m_meth 94 = some (yX9_orderMean, cX9_orderMean, 4, (some .long)) := rfl
theorem me_X9_stakes : m_meth 95 = some (yX9_stakes, cX9_stakes, 8, (some .long)) := rfl
theorem me_X9_table : m_meth 96 = some (yX9_table, cX9_table, 4, (some .long)) := rfl
theorem me_X9_book : m_meth 97 = some (yX9_book, cX9_book, 5, (some .int)) := rfl
theorem me_X9_likely : m_meth 98 = some (yX9_likely, cX9_likely, 9, (some .int)) := rfl
theorem me_X9_says : m_meth 99 = some (yX9_says, cX9_says, 3, (some .int)) := rfl
theorem me_X9_tale : m_meth 100 = some (yX9_tale, cX9_tale, 2, (some .int)) := rfl
theorem me_X9_looked : m_meth 101 = some (yX9_looked, cX9_looked, 2, (some .int)) := rfl
theorem me_X9_act : m_meth 102 = some (yX9_act, cX9_act, 4, (some .int)) := rfl
theorem me_X9_trace : m_meth 103 = some (yX9_trace, cX9_trace, 2, (some .int)) := rfl
theorem me_X9_as : m_meth 104 = some (yX9_as, cX9_as, 3, (some .int)) := rfl
theorem me_X9_image : m_meth 105 = some (yX9_image, cX9_image, 1, (some .int)) := rfl
theorem me_X9_undo : m_meth 106 = some (yX9_undo, cX9_undo, 1, (some .int)) := rfl
theorem me_X9_count : m_meth 107 = some (yX9_count, cX9_count, 2, (some .int)) := rfl
theorem me_X9_isNobody : m_meth 108 = some (yX9_isNobody, cX9_isNobody, 2, (some .boolean)) := rfl
theorem me_X9_refusal : m_meth 109 = some (yX9_refusal, cX9_refusal, 3, (some .int)) := rfl
theorem me_X9_isNoSet : m_meth 110 = some (yX9_isNoSet, cX9_isNoSet, 4, (some .boolean)) := rfl
theorem me_X9_isNoKind : m_meth 111 = some (yX9_isNoKind, cX9_isNoKind, 1, (some .boolean)) := rfl
theorem me_X9_isNoMen : m_meth 112 = some (yX9_isNoMen, cX9_isNoMen, 1, (some .boolean)) := rfl
theorem me_X9_isNoPart : m_meth 113 = some (yX9_isNoPart, cX9_isNoPart, 1, (some .boolean)) := rfl
theorem me_X9_isKind : m_meth 114 = some (yX9_isKind, cX9_isKind, 4, (some .boolean)) := rfl
theorem me_X9_powerOfTen : m_meth 115 = some (yX9_powerOfTen, cX9_powerOfTen, 4, (some .long)) := rfl
theorem me_X9_partOf : m_meth 116 = some (yX9_partOf, cX9_partOf, 12, (some .long)) := rfl
theorem me_X10_init : m_meth 117 = some (yX10_init, cX10_init, 1, none) := rfl
theorem me_X10_in : m_meth 118 = some (yX10_in, cX10_in, 3, (some .boolean)) := rfl
theorem me_X10_isPlayer : m_meth 119 = some (yX10_isPlayer, cX10_isPlayer, 2, (some .boolean)) := rfl
theorem me_X10_areTwo : m_meth 120 = some (yX10_areTwo, cX10_areTwo, 3, (some .boolean)) := rfl
theorem me_X10_keeps : m_meth 121 = some (yX10_keeps, cX10_keeps, 2, none) := rfl
theorem me_X10_goesBack : m_meth 122 = some (yX10_goesBack, cX10_goesBack, 2, none) := rfl
theorem me_X10_feed : m_meth 123 = some (yX10_feed, cX10_feed, 2, (some .int)) := rfl
theorem me_X10_here : m_meth 124 = some (yX10_here, cX10_here, 1, (some .int)) := rfl
theorem me_X10_must : m_meth 125 = some (yX10_must, cX10_must, 2, none) := rfl
theorem me_X10_spells : m_meth 126 = some (yX10_spells, cX10_spells, 3, none) := rfl
theorem me_X10_figures : m_meth 127 = some (yX10_figures, cX10_figures, 3, (some .int)) := rfl
theorem me_X10_among : m_meth 128 = some (yX10_among, cX10_among, 3, (some .int)) := rfl
theorem me_X10_emits : m_meth 129 = some (yX10_emits, cX10_emits, 2, none) := rfl
theorem me_X10_factor : m_meth 130 = some (yX10_factor, cX10_factor, 5, none) := rfl
theorem me_X10_every : m_meth 131 = some (yX10_every, cX10_every, 1, none) := rfl
theorem me_X10_some : m_meth 132 = some (yX10_some, cX10_some, 1, none) := rfl
theorem me_X10_much : m_meth 133 = some (yX10_much, cX10_much, 4, none) := rfl
theorem me_X10_tellsHere : m_meth 134 = some (yX10_tellsHere, cX10_tellsHere, 4, none) := rfl
theorem me_X10_clauseOfL : m_meth 135 = some (yX10_clauseOfL, cX10_clauseOfL, 1, none) := rfl
theorem me_X10_clauseHere : m_meth 136 = some (yX10_clauseHere, cX10_clauseHere, 1, none) := rfl
theorem me_X10_inn : m_meth 137 = some (yX10_inn, cX10_inn, 2, (some .int)) := rfl
theorem me_X10_tellsOf : m_meth 138 = some (yX10_tellsOf, cX10_tellsOf, 2, (some .int)) := rfl
theorem me_X10_player : m_meth 139 = some (yX10_player, cX10_player, 5, (some .int)) := rfl
theorem me_X10_of : m_meth 140 = some (yX10_of, cX10_of, 3, (some .int)) := rfl
theorem me_X10_men : m_meth 141 = some (yX10_men, cX10_men, 4, (some .int)) := rfl
theorem me_X10_row : m_meth 142 = some (yX10_row, cX10_row, 5, (some .int)) := rfl
theorem me_X10_told : m_meth 143 = some (yX10_told, cX10_told, 2, (some .int)) := rfl
theorem me_X10_lifted : m_meth 144 = some (yX10_lifted, cX10_lifted, 12, (some .int)) := rfl
theorem me_X10_pushOf : m_meth 145 = some (yX10_pushOf, cX10_pushOf, 8, (some .int)) := rfl
theorem me_X10_oddsOf : m_meth 146 = some (yX10_oddsOf, cX10_oddsOf, 4, (some .int)) := rfl
theorem me_X10_push : m_meth 147 = some (yX10_push, cX10_push, 3, (some .int)) := rfl
theorem me_X10_odds : m_meth 148 = some (yX10_odds, cX10_odds, 3, (some .int)) := rfl
theorem me_X10_fewer : m_meth 149 = some (yX10_fewer, cX10_fewer, 3, (some .int)) := rfl
theorem me_X10_moreOf : m_meth 150 = some (yX10_moreOf, cX10_moreOf, 3, (some .int)) := rfl
theorem me_X10_plays : m_meth 151 = some (yX10_plays, cX10_plays, 3, none) := rfl
theorem me_X10_play : m_meth 152 = some (yX10_play, cX10_play, 4, (some .int)) := rfl
theorem me_X10_tens : m_meth 153 = some (yX10_tens, cX10_tens, 4, (some .long)) := rfl
theorem me_X10_beginsTwo : m_meth 154 = some (yX10_beginsTwo, cX10_beginsTwo, 4, none) := rfl
theorem me_X10_gameOn : m_meth 155 = some (yX10_gameOn, cX10_gameOn, 7, none) := rfl
theorem me_X10_gamesOn : m_meth 156 = some (yX10_gamesOn, cX10_gamesOn, 6, none) := rfl
theorem me_X10_lowest : m_meth 157 = some (yX10_lowest, cX10_lowest, 11, (some .long)) := rfl
theorem me_X10_wins : m_meth 158 = some (yX10_wins, cX10_wins, 9, (some .long)) := rfl
theorem me_X10_mean : m_meth 159 = some (yX10_mean, cX10_mean, 8, (some .long)) := rfl
theorem me_X10_firsts : m_meth 160 = some (yX10_firsts, cX10_firsts, 12, (some .long)) := rfl
theorem me_X10_series : m_meth 161 = some (yX10_series, cX10_series, 5, (some .long)) := rfl
theorem me_X10_ends : m_meth 162 = some (yX10_ends, cX10_ends, 8, (some .long)) := rfl
theorem me_X10_stakes : m_meth 163 = some (yX10_stakes, cX10_stakes, 5, (some .long)) := rfl
theorem me_X10_even : m_meth 164 = some (yX10_even, cX10_even, 8, (some .int)) := rfl
theorem me_X10_bestFor : m_meth 165 = some (yX10_bestFor, cX10_bestFor, 13, (some .long)) := rfl
theorem me_X10_purpose : m_meth 166 = some (yX10_purpose, cX10_purpose, 5, (some .long)) := rfl
theorem me_X10_loses : m_meth 167 = some (yX10_loses, cX10_loses, 4, (some .int)) := rfl
theorem me_X10_wonBy : m_meth 168 = some (yX10_wonBy, cX10_wonBy, 9, (some .long)) := rfl
theorem me_X10_ordersFrom : m_meth 169 = some (yX10_ordersFrom, cX10_ordersFrom, 7, none) := rfl
theorem me_X10_isSet : m_meth 170 = some (yX10_isSet, cX10_isSet, 3, (some .boolean)) := rfl
theorem me_X10_looksForOrder : m_meth 171 = some (yX10_looksForOrder, cX10_looksForOrder, 3, none) := rfl
theorem me_X10_order : m_meth 172 = some (yX10_order, cX10_order, 4, (some .int)) := rfl
theorem me_X10_orderMean : m_meth 173 = some (yX10_orderMean, cX10_orderMean, 6, (some .long)) := rfl
theorem me_X10_tables : m_meth 174 = some (yX10_tables, cX10_tables, 12, (some .long)) := rfl
theorem me_X10_nextTable : m_meth 175 = some (yX10_nextTable, cX10_nextTable, 9, (some .long)) := rfl
theorem me_X10_table : m_meth 176 = some (yX10_table, cX10_table, 6, (some .long)) := rfl
theorem me_X10_book : m_meth 177 = some (yX10_book, cX10_book, 4, (some .int)) := rfl
theorem me_X10_booksGame : m_meth 178 = some (yX10_booksGame, cX10_booksGame, 5, none) := rfl
theorem me_X10_likely : m_meth 179 = some (yX10_likely, cX10_likely, 11, (some .int)) := rfl
theorem me_X10_says : m_meth 180 = some (yX10_says, cX10_says, 3, (some .int)) := rfl
theorem me_X10_tale : m_meth 181 = some (yX10_tale, cX10_tale, 2, (some .int)) := rfl
theorem me_X10_looked : m_meth 182 = some (yX10_looked, cX10_looked, 3, (some .int)) := rfl
theorem me_X10_ranBody : m_meth 183 = some (yX10_ranBody, cX10_ranBody, 2, none) := rfl
theorem me_X10_isUnder : m_meth 184 = some (yX10_isUnder, cX10_isUnder, 2, (some .boolean)) := rfl
theorem me_X10_plainMoves : m_meth 185 = some (yX10_plainMoves, cX10_plainMoves, 2, (some .int)) := rfl
theorem me_X10_movesActs : m_meth 186 = some (yX10_movesActs, cX10_movesActs, 2, (some .int)) := rfl
theorem me_X10_plainBets : m_meth 187 = some (yX10_plainBets, cX10_plainBets, 2, (some .int)) := rfl
theorem me_X10_betsActs : m_meth 188 = some (yX10_betsActs, cX10_betsActs, 2, (some .int)) := rfl
theorem me_X10_plainTells : m_meth 189 = some (yX10_plainTells, cX10_plainTells, 2, (some .int)) := rfl
theorem me_X10_tellsActs : m_meth 190 = some (yX10_tellsActs, cX10_tellsActs, 3, (some .int)) := rfl
theorem me_X10_act : m_meth 191 = some (yX10_act, cX10_act, 4, (some .int)) := rfl
theorem me_X10_trace : m_meth 192 = some (yX10_trace, cX10_trace, 2, (some .int)) := rfl
theorem me_X10_as : m_meth 193 = some (yX10_as, cX10_as, 3, (some .int)) := rfl
theorem me_X10_image : m_meth 194 = some (yX10_image, cX10_image, 2, (some .int)) := rfl
theorem me_X10_undo : m_meth 195 = some (yX10_undo, cX10_undo, 2, (some .int)) := rfl
theorem me_X10_count : m_meth 196 = some (yX10_count, cX10_count, 2, (some .int)) := rfl
theorem me_J6_bitCount_0f7a4 : m_meth 197 = some (yJ6_bitCount_0f7a4, cJ6_bitCount_0f7a4, 1, (some .int)) := rfl
theorem me_J0_length_8abf5 : m_meth 198 = some (yJ0_length_8abf5, cJ0_length_8abf5, 1, (some .int)) := rfl
theorem me_J0_charAt_5068e : m_meth 199 = some (yJ0_charAt_5068e, cJ0_charAt_5068e, 2, (some .char)) := rfl
theorem me_J0_coder_7d493 : m_meth 200 = some (yJ0_coder_7d493, cJ0_coder_7d493, 1, (some .byte)) := rfl
theorem me_J0_isLatin1_aae02 : m_meth 201 = some (yJ0_isLatin1_aae02, cJ0_isLatin1_aae02, 1, (some .boolean)) := rfl
theorem me_J0_checkIndex_df160 : m_meth 202 = some (yJ0_checkIndex_df160, cJ0_checkIndex_df160, 2, none) := rfl
theorem me_J1_charAt_3b067 : m_meth 203 = some (yJ1_charAt_3b067, cJ1_charAt_3b067, 2, (some .char)) := rfl
theorem me_J3_checkIndex_8e157 : m_meth 204 = some (yJ3_checkIndex_8e157, cJ3_checkIndex_8e157, 3, (some .int)) := rfl
theorem me_L_law : m_meth 205 = some (yL_law, cL_law, 4, (some .boolean)) := rfl
theorem mc_X0_init : m_calls (yX0_init, cX0_init, 1, none) 0 := ⟨wd_328, by decide +kernel, by decide +kernel, by decide +kernel, by decide +kernel, by decide⟩
theorem mc_X0_forget : m_calls (yX0_forget, cX0_forget, 1, none) 0 := ⟨wd_806, by decide +kernel, by decide +kernel, by decide +kernel, by decide +kernel, by decide⟩
theorem mc_X0_kept : m_calls (yX0_kept, cX0_kept, 1, (some .int)) 0 := ⟨wd_839, by decide +kernel, by decide +kernel, by decide +kernel, by decide +kernel, by decide⟩
theorem mc_X0_does : m_calls (yX0_does, cX0_does, 6, (some .int)) 5 := ⟨wd_810, by decide +kernel, by decide +kernel, by decide +kernel, by decide +kernel, by decide⟩
theorem mc_X0_begins : m_calls (yX0_begins, cX0_begins, 2, none) 1 := ⟨wd_819, by decide +kernel, by decide +kernel, by decide +kernel, by decide +kernel, by decide⟩
theorem mc_X0_moves : m_calls (yX0_moves, cX0_moves, 3, (some .int)) 3 := ⟨wd_813, by decide +kernel, by decide +kernel, by decide +kernel, by decide +kernel, by decide⟩
theorem mc_X0_bets : m_calls (yX0_bets, cX0_bets, 3, (some .int)) 3 := ⟨wd_824, by decide +kernel, by decide +kernel, by decide +kernel, by decide +kernel, by decide⟩
theorem mc_X0_tells : m_calls (yX0_tells, cX0_tells, 4, (some .int)) 3 := ⟨wd_829, by decide +kernel, by decide +kernel, by decide +kernel, by decide +kernel, by decide⟩
theorem mc_X1_init : m_calls (yX1_init, cX1_init, 1, none) 0 := ⟨wd_212, by decide +kernel, by decide +kernel, by decide +kernel, by decide +kernel, by decide⟩
theorem mc_X1_pairOf : m_calls (yX1_pairOf, cX1_pairOf, 2, (some .int)) 2 := ⟨wd_589, by decide +kernel, by decide +kernel, by decide +kernel, by decide +kernel, by decide⟩
theorem mc_X1_menOfOne : m_calls (yX1_menOfOne, cX1_menOfOne, 1, (some .int)) 1 := ⟨wd_604, by decide +kernel, by decide +kernel, by decide +kernel, by decide +kernel, by decide⟩
theorem mc_X1_menOfOther : m_calls (yX1_menOfOther, cX1_menOfOther, 1, (some .int)) 1 := ⟨wd_607, by decide +kernel, by decide +kernel, by decide +kernel, by decide +kernel, by decide⟩
theorem mc_X1_add : m_calls (yX1_add, cX1_add, 5, none) 3 := ⟨wd_593, by decide +kernel, by decide +kernel, by decide +kernel, by decide +kernel, by decide⟩
theorem mc_X1_part : m_calls (yX1_part, cX1_part, 3, (some .long)) 2 := ⟨wd_615, by decide +kernel, by decide +kernel, by decide +kernel, by decide +kernel, by decide⟩
theorem mc_X1_take : m_calls (yX1_take, cX1_take, 5, (some .long)) 2 := ⟨wd_623, by decide +kernel, by decide +kernel, by decide +kernel, by decide +kernel, by decide⟩
theorem mc_X1_clear : m_calls (yX1_clear, cX1_clear, 3, none) 0 := ⟨wd_586, by decide +kernel, by decide +kernel, by decide +kernel, by decide +kernel, by decide⟩
theorem mc_X2_init : m_calls (yX2_init, cX2_init, 1, none) 0 := ⟨wd_206, by decide +kernel, by decide +kernel, by decide +kernel, by decide +kernel, by decide⟩
theorem mc_X2_begins : m_calls (yX2_begins, cX2_begins, 5, none) 4 := ⟨wd_582, by decide +kernel, by decide +kernel, by decide +kernel, by decide +kernel, by decide⟩
theorem mc_X2_goesOn : m_calls (yX2_goesOn, cX2_goesOn, 2, none) 0 := ⟨wd_597, by decide +kernel, by decide +kernel, by decide +kernel, by decide +kernel, by decide⟩
theorem mc_X2_spreads : m_calls (yX2_spreads, cX2_spreads, 11, none) 1 := ⟨wd_601, by decide +kernel, by decide +kernel, by decide +kernel, by decide +kernel, by decide⟩
theorem mc_X2_takesWon : m_calls (yX2_takesWon, cX2_takesWon, 5, (some .long)) 1 := ⟨wd_619, by decide +kernel, by decide +kernel, by decide +kernel, by decide +kernel, by decide⟩
theorem mc_X2_takesEnded : m_calls (yX2_takesEnded, cX2_takesEnded, 4, (some .long)) 0 := ⟨wd_653, by decide +kernel, by decide +kernel, by decide +kernel, by decide +kernel, by decide⟩
theorem mc_X2_menOfOne : m_calls (yX2_menOfOne, cX2_menOfOne, 4, (some .long)) 0 := ⟨wd_641, by decide +kernel, by decide +kernel, by decide +kernel, by decide +kernel, by decide⟩
theorem mc_X2_stakeOfOne : m_calls (yX2_stakeOfOne, cX2_stakeOfOne, 7, (some .long)) 0 := ⟨wd_742, by decide +kernel, by decide +kernel, by decide +kernel, by decide +kernel, by decide⟩
theorem mc_X3_init : m_calls (yX3_init, cX3_init, 2, none) 1 := ⟨wd_449, by decide +kernel, by decide +kernel, by decide +kernel, by decide +kernel, by decide⟩
theorem mc_X3_lift : m_calls (yX3_lift, cX3_lift, 5, (some .int)) 1 := ⟨wd_523, by decide +kernel, by decide +kernel, by decide +kernel, by decide +kernel, by decide⟩
theorem mc_X3_testOf : m_calls (yX3_testOf, cX3_testOf, 3, (some .int)) 3 := ⟨wd_444, by decide +kernel, by decide +kernel, by decide +kernel, by decide +kernel, by decide⟩
theorem mc_X3_passes : m_calls (yX3_passes, cX3_passes, 5, (some .int)) 2 := ⟨wd_526, by decide +kernel, by decide +kernel, by decide +kernel, by decide +kernel, by decide⟩
theorem mc_X4_init : m_calls (yX4_init, cX4_init, 1, none) 0 := ⟨wd_276, by decide +kernel, by decide +kernel, by decide +kernel, by decide +kernel, by decide⟩
theorem mc_X4_looksFor : m_calls (yX4_looksFor, cX4_looksFor, 5, none) 3 := ⟨wd_715, by decide +kernel, by decide +kernel, by decide +kernel, by decide +kernel, by decide⟩
theorem mc_X4_tryRows : m_calls (yX4_tryRows, cX4_tryRows, 6, none) 4 := ⟨wd_721, by decide +kernel, by decide +kernel, by decide +kernel, by decide +kernel, by decide⟩
theorem mc_X4_plays : m_calls (yX4_plays, cX4_plays, 9, (some .long)) 2 := ⟨wd_727, by decide +kernel, by decide +kernel, by decide +kernel, by decide +kernel, by decide⟩
theorem mc_X5_init : m_calls (yX5_init, cX5_init, 1, none) 0 := ⟨wd_260, by decide +kernel, by decide +kernel, by decide +kernel, by decide +kernel, by decide⟩
theorem mc_X5_atBest : m_calls (yX5_atBest, cX5_atBest, 5, (some .long)) 4 := ⟨wd_669, by decide +kernel, by decide +kernel, by decide +kernel, by decide +kernel, by decide⟩
theorem mc_X5_losesFirst : m_calls (yX5_losesFirst, cX5_losesFirst, 7, (some .boolean)) 4 := ⟨wd_697, by decide +kernel, by decide +kernel, by decide +kernel, by decide +kernel, by decide⟩
theorem mc_X5_asks : m_calls (yX5_asks, cX5_asks, 4, none) 3 := ⟨wd_673, by decide +kernel, by decide +kernel, by decide +kernel, by decide +kernel, by decide⟩
theorem mc_X5_best : m_calls (yX5_best, cX5_best, 10, (some .long)) 5 := ⟨wd_676, by decide +kernel, by decide +kernel, by decide +kernel, by decide +kernel, by decide⟩
theorem mc_X5_ifWon : m_calls (yX5_ifWon, cX5_ifWon, 5, (some .long)) 5 := ⟨wd_680, by decide +kernel, by decide +kernel, by decide +kernel, by decide +kernel, by decide⟩
theorem mc_X5_ifLost : m_calls (yX5_ifLost, cX5_ifLost, 5, (some .long)) 5 := ⟨wd_685, by decide +kernel, by decide +kernel, by decide +kernel, by decide +kernel, by decide⟩
theorem mc_X6_init : m_calls (yX6_init, cX6_init, 1, none) 0 := ⟨wd_173, by decide +kernel, by decide +kernel, by decide +kernel, by decide +kernel, by decide⟩
theorem mc_X6_reads : m_calls (yX6_reads, cX6_reads, 4, (some .boolean)) 2 := ⟨wd_390, by decide +kernel, by decide +kernel, by decide +kernel, by decide +kernel, by decide⟩
theorem mc_X6_peek : m_calls (yX6_peek, cX6_peek, 1, (some .int)) 0 := ⟨wd_409, by decide +kernel, by decide +kernel, by decide +kernel, by decide +kernel, by decide⟩
theorem mc_X6_sign : m_calls (yX6_sign, cX6_sign, 2, (some .boolean)) 1 := ⟨wd_405, by decide +kernel, by decide +kernel, by decide +kernel, by decide +kernel, by decide⟩
theorem mc_X6_signs : m_calls (yX6_signs, cX6_signs, 4, (some .boolean)) 3 := ⟨wd_413, by decide +kernel, by decide +kernel, by decide +kernel, by decide +kernel, by decide⟩
theorem mc_X6_clause : m_calls (yX6_clause, cX6_clause, 3, (some .boolean)) 0 := ⟨wd_397, by decide +kernel, by decide +kernel, by decide +kernel, by decide +kernel, by decide⟩
theorem mc_X6_word : m_calls (yX6_word, cX6_word, 1, (some .int)) 0 := ⟨wd_401, by decide +kernel, by decide +kernel, by decide +kernel, by decide +kernel, by decide⟩
theorem mc_X6_number : m_calls (yX6_number, cX6_number, 3, (some .int)) 0 := ⟨wd_417, by decide +kernel, by decide +kernel, by decide +kernel, by decide +kernel, by decide⟩
theorem mc_X6_digit : m_calls (yX6_digit, cX6_digit, 1, (some .int)) 1 := ⟨wd_420, by decide +kernel, by decide +kernel, by decide +kernel, by decide +kernel, by decide⟩
theorem mc_X6_either : m_calls (yX6_either, cX6_either, 4, (some .boolean)) 1 := ⟨wd_424, by decide +kernel, by decide +kernel, by decide +kernel, by decide +kernel, by decide⟩
theorem mc_X6_both : m_calls (yX6_both, cX6_both, 4, (some .boolean)) 1 := ⟨wd_428, by decide +kernel, by decide +kernel, by decide +kernel, by decide +kernel, by decide⟩
theorem mc_X6_one : m_calls (yX6_one, cX6_one, 7, (some .boolean)) 2 := ⟨wd_431, by decide +kernel, by decide +kernel, by decide +kernel, by decide +kernel, by decide⟩
theorem mc_X6_aboutOf : m_calls (yX6_aboutOf, cX6_aboutOf, 1, (some .int)) 1 := ⟨wd_438, by decide +kernel, by decide +kernel, by decide +kernel, by decide +kernel, by decide⟩
theorem mc_X6_comparisonOf : m_calls (yX6_comparisonOf, cX6_comparisonOf, 1, (some .int)) 1 := ⟨wd_441, by decide +kernel, by decide +kernel, by decide +kernel, by decide +kernel, by decide⟩
theorem mc_X6_put : m_calls (yX6_put, cX6_put, 2, none) 1 := ⟨wd_435, by decide +kernel, by decide +kernel, by decide +kernel, by decide +kernel, by decide⟩
theorem mc_X7_init : m_calls (yX7_init, cX7_init, 1, none) 0 := ⟨wd_92, by decide +kernel, by decide +kernel, by decide +kernel, by decide +kernel, by decide⟩
theorem mc_X7_becomes : m_calls (yX7_becomes, cX7_becomes, 2, none) 1 := ⟨wd_750, by decide +kernel, by decide +kernel, by decide +kernel, by decide +kernel, by decide⟩
theorem mc_X7_comes : m_calls (yX7_comes, cX7_comes, 4, none) 2 := ⟨wd_476, by decide +kernel, by decide +kernel, by decide +kernel, by decide +kernel, by decide⟩
theorem mc_X7_less : m_calls (yX7_less, cX7_less, 1, (some .int)) 0 := ⟨wd_503, by decide +kernel, by decide +kernel, by decide +kernel, by decide +kernel, by decide⟩
theorem mc_X7_more : m_calls (yX7_more, cX7_more, 1, (some .int)) 0 := ⟨wd_507, by decide +kernel, by decide +kernel, by decide +kernel, by decide +kernel, by decide⟩
theorem mc_X7_menIfWon : m_calls (yX7_menIfWon, cX7_menIfWon, 2, (some .int)) 1 := ⟨wd_564, by decide +kernel, by decide +kernel, by decide +kernel, by decide +kernel, by decide⟩
theorem mc_X7_menIfLost : m_calls (yX7_menIfLost, cX7_menIfLost, 2, (some .int)) 1 := ⟨wd_569, by decide +kernel, by decide +kernel, by decide +kernel, by decide +kernel, by decide⟩
theorem mc_X7_pushOf : m_calls (yX7_pushOf, cX7_pushOf, 6, (some .int)) 4 := ⟨wd_519, by decide +kernel, by decide +kernel, by decide +kernel, by decide +kernel, by decide⟩
theorem mc_X7_masterly : m_calls (yX7_masterly, cX7_masterly, 2, (some .int)) 2 := ⟨wd_529, by decide +kernel, by decide +kernel, by decide +kernel, by decide +kernel, by decide⟩
theorem mc_X7_slyly : m_calls (yX7_slyly, cX7_slyly, 1, (some .int)) 1 := ⟨wd_532, by decide +kernel, by decide +kernel, by decide +kernel, by decide +kernel, by decide⟩
theorem mc_X7_newly : m_calls (yX7_newly, cX7_newly, 1, (some .int)) 1 := ⟨wd_535, by decide +kernel, by decide +kernel, by decide +kernel, by decide +kernel, by decide⟩
theorem mc_X7_oddsOf : m_calls (yX7_oddsOf, cX7_oddsOf, 7, (some .int)) 5 := ⟨wd_547, by decide +kernel, by decide +kernel, by decide +kernel, by decide +kernel, by decide⟩
theorem mc_X7_oddsNow : m_calls (yX7_oddsNow, cX7_oddsNow, 3, (some .int)) 2 := ⟨wd_543, by decide +kernel, by decide +kernel, by decide +kernel, by decide +kernel, by decide⟩
theorem mc_X7_game : m_calls (yX7_game, cX7_game, 4, none) 3 := ⟨wd_560, by decide +kernel, by decide +kernel, by decide +kernel, by decide +kernel, by decide⟩
theorem mc_X7_chanceOfBook : m_calls (yX7_chanceOfBook, cX7_chanceOfBook, 2, (some .int)) 1 := ⟨wd_780, by decide +kernel, by decide +kernel, by decide +kernel, by decide +kernel, by decide⟩
theorem mc_X7_gameOfBook : m_calls (yX7_gameOfBook, cX7_gameOfBook, 2, none) 1 := ⟨wd_785, by decide +kernel, by decide +kernel, by decide +kernel, by decide +kernel, by decide⟩
theorem mc_X8_init : m_calls (yX8_init, cX8_init, 1, none) 0 := ⟨wd_309, by decide +kernel, by decide +kernel, by decide +kernel, by decide +kernel, by decide⟩
theorem mc_X8_wonBy : m_calls (yX8_wonBy, cX8_wonBy, 5, (some .long)) 3 := ⟨wd_755, by decide +kernel, by decide +kernel, by decide +kernel, by decide +kernel, by decide⟩
theorem mc_X8_wonFrom : m_calls (yX8_wonFrom, cX8_wonFrom, 11, (some .long)) 4 := ⟨wd_758, by decide +kernel, by decide +kernel, by decide +kernel, by decide +kernel, by decide⟩
theorem mc_X8_comesFor : m_calls (yX8_comesFor, cX8_comesFor, 3, (some .int)) 2 := ⟨wd_764, by decide +kernel, by decide +kernel, by decide +kernel, by decide +kernel, by decide⟩
theorem mc_X8_goesBack : m_calls (yX8_goesBack, cX8_goesBack, 5, none) 4 := ⟨wd_768, by decide +kernel, by decide +kernel, by decide +kernel, by decide +kernel, by decide⟩
theorem mc_X9_init : m_calls (yX9_init, cX9_init, 1, none) 0 := ⟨wd_84, by decide +kernel, by decide +kernel, by decide +kernel, by decide +kernel, by decide⟩
theorem mc_X9_feed : m_calls (yX9_feed, cX9_feed, 2, (some .int)) 1 := ⟨wd_382, by decide +kernel, by decide +kernel, by decide +kernel, by decide +kernel, by decide⟩
theorem mc_X9_inn : m_calls (yX9_inn, cX9_inn, 2, (some .int)) 0 := ⟨wd_386, by decide +kernel, by decide +kernel, by decide +kernel, by decide +kernel, by decide⟩
theorem mc_X9_player : m_calls (yX9_player, cX9_player, 3, (some .int)) 2 := ⟨wd_469, by decide +kernel, by decide +kernel, by decide +kernel, by decide +kernel, by decide⟩
theorem mc_X9_of : m_calls (yX9_of, cX9_of, 3, (some .int)) 2 := ⟨wd_480, by decide +kernel, by decide +kernel, by decide +kernel, by decide +kernel, by decide⟩
theorem mc_X9_men : m_calls (yX9_men, cX9_men, 4, (some .int)) 2 := ⟨wd_488, by decide +kernel, by decide +kernel, by decide +kernel, by decide +kernel, by decide⟩
theorem mc_X9_row : m_calls (yX9_row, cX9_row, 5, (some .int)) 3 := ⟨wd_495, by decide +kernel, by decide +kernel, by decide +kernel, by decide +kernel, by decide⟩
theorem mc_X9_told : m_calls (yX9_told, cX9_told, 2, (some .int)) 1 := ⟨wd_499, by decide +kernel, by decide +kernel, by decide +kernel, by decide +kernel, by decide⟩
theorem mc_X9_push : m_calls (yX9_push, cX9_push, 4, (some .int)) 2 := ⟨wd_511, by decide +kernel, by decide +kernel, by decide +kernel, by decide +kernel, by decide⟩
theorem mc_X9_odds : m_calls (yX9_odds, cX9_odds, 4, (some .int)) 2 := ⟨wd_539, by decide +kernel, by decide +kernel, by decide +kernel, by decide +kernel, by decide⟩
theorem mc_X9_play : m_calls (yX9_play, cX9_play, 5, (some .int)) 3 := ⟨wd_556, by decide +kernel, by decide +kernel, by decide +kernel, by decide +kernel, by decide⟩
theorem mc_X9_wins : m_calls (yX9_wins, cX9_wins, 7, (some .long)) 5 := ⟨wd_574, by decide +kernel, by decide +kernel, by decide +kernel, by decide +kernel, by decide⟩
theorem mc_X9_mean : m_calls (yX9_mean, cX9_mean, 6, (some .long)) 4 := ⟨wd_637, by decide +kernel, by decide +kernel, by decide +kernel, by decide +kernel, by decide⟩
theorem mc_X9_series : m_calls (yX9_series, cX9_series, 9, (some .long)) 4 := ⟨wd_645, by decide +kernel, by decide +kernel, by decide +kernel, by decide +kernel, by decide⟩
theorem mc_X9_ends : m_calls (yX9_ends, cX9_ends, 8, (some .long)) 4 := ⟨wd_649, by decide +kernel, by decide +kernel, by decide +kernel, by decide +kernel, by decide⟩
theorem mc_X9_even : m_calls (yX9_even, cX9_even, 8, (some .int)) 2 := ⟨wd_657, by decide +kernel, by decide +kernel, by decide +kernel, by decide +kernel, by decide⟩
theorem mc_X9_purpose : m_calls (yX9_purpose, cX9_purpose, 5, (some .long)) 4 := ⟨wd_665, by decide +kernel, by decide +kernel, by decide +kernel, by decide +kernel, by decide⟩
theorem mc_X9_loses : m_calls (yX9_loses, cX9_loses, 5, (some .int)) 3 := ⟨wd_693, by decide +kernel, by decide +kernel, by decide +kernel, by decide +kernel, by decide⟩
theorem mc_X9_order : m_calls (yX9_order, cX9_order, 4, (some .int)) 3 := ⟨wd_701, by decide +kernel, by decide +kernel, by decide +kernel, by decide +kernel, by decide⟩
theorem mc_X9_orderMean : m_calls (yX9_orderMean, cX9_orderMean, 4, (some .long)) 3 := ⟨wd_734, by decide +kernel, by decide +kernel, by decide +kernel, by decide +kernel, by decide⟩
theorem mc_X9_stakes : m_calls (yX9_stakes, cX9_stakes, 8, (some .long)) 4 := ⟨wd_738, by decide +kernel, by decide +kernel, by decide +kernel, by decide +kernel, by decide⟩
theorem mc_X9_table : m_calls (yX9_table, cX9_table, 4, (some .long)) 3 := ⟨wd_746, by decide +kernel, by decide +kernel, by decide +kernel, by decide +kernel, by decide⟩
theorem mc_X9_book : m_calls (yX9_book, cX9_book, 5, (some .int)) 3 := ⟨wd_772, by decide +kernel, by decide +kernel, by decide +kernel, by decide +kernel, by decide⟩
theorem mc_X9_likely : m_calls (yX9_likely, cX9_likely, 9, (some .int)) 1 := ⟨wd_776, by decide +kernel, by decide +kernel, by decide +kernel, by decide +kernel, by decide⟩
theorem mc_X9_says : m_calls (yX9_says, cX9_says, 3, (some .int)) 1 := ⟨wd_790, by decide +kernel, by decide +kernel, by decide +kernel, by decide +kernel, by decide⟩
theorem mc_X9_tale : m_calls (yX9_tale, cX9_tale, 2, (some .int)) 1 := ⟨wd_794, by decide +kernel, by decide +kernel, by decide +kernel, by decide +kernel, by decide⟩
theorem mc_X9_looked : m_calls (yX9_looked, cX9_looked, 2, (some .int)) 0 := ⟨wd_798, by decide +kernel, by decide +kernel, by decide +kernel, by decide +kernel, by decide⟩
theorem mc_X9_act : m_calls (yX9_act, cX9_act, 4, (some .int)) 3 := ⟨wd_802, by decide +kernel, by decide +kernel, by decide +kernel, by decide +kernel, by decide⟩
theorem mc_X9_trace : m_calls (yX9_trace, cX9_trace, 2, (some .int)) 1 := ⟨wd_835, by decide +kernel, by decide +kernel, by decide +kernel, by decide +kernel, by decide⟩
theorem mc_X9_as : m_calls (yX9_as, cX9_as, 3, (some .int)) 2 := ⟨wd_844, by decide +kernel, by decide +kernel, by decide +kernel, by decide +kernel, by decide⟩
theorem mc_X9_image : m_calls (yX9_image, cX9_image, 1, (some .int)) 0 := ⟨wd_852, by decide +kernel, by decide +kernel, by decide +kernel, by decide +kernel, by decide⟩
theorem mc_X9_undo : m_calls (yX9_undo, cX9_undo, 1, (some .int)) 0 := ⟨wd_856, by decide +kernel, by decide +kernel, by decide +kernel, by decide +kernel, by decide⟩
theorem mc_X9_count : m_calls (yX9_count, cX9_count, 2, (some .int)) 1 := ⟨wd_860, by decide +kernel, by decide +kernel, by decide +kernel, by decide +kernel, by decide⟩
theorem mc_X9_isNobody : m_calls (yX9_isNobody, cX9_isNobody, 2, (some .boolean)) 1 := ⟨wd_484, by decide +kernel, by decide +kernel, by decide +kernel, by decide +kernel, by decide⟩
theorem mc_X9_refusal : m_calls (yX9_refusal, cX9_refusal, 3, (some .int)) 2 := ⟨wd_515, by decide +kernel, by decide +kernel, by decide +kernel, by decide +kernel, by decide⟩
theorem mc_X9_isNoSet : m_calls (yX9_isNoSet, cX9_isNoSet, 4, (some .boolean)) 2 := ⟨wd_705, by decide +kernel, by decide +kernel, by decide +kernel, by decide +kernel, by decide⟩
theorem mc_X9_isNoKind : m_calls (yX9_isNoKind, cX9_isNoKind, 1, (some .boolean)) 1 := ⟨wd_472, by decide +kernel, by decide +kernel, by decide +kernel, by decide +kernel, by decide⟩
theorem mc_X9_isNoMen : m_calls (yX9_isNoMen, cX9_isNoMen, 1, (some .boolean)) 1 := ⟨wd_491, by decide +kernel, by decide +kernel, by decide +kernel, by decide +kernel, by decide⟩
theorem mc_X9_isNoPart : m_calls (yX9_isNoPart, cX9_isNoPart, 1, (some .boolean)) 1 := ⟨wd_577, by decide +kernel, by decide +kernel, by decide +kernel, by decide +kernel, by decide⟩
theorem mc_X9_isKind : m_calls (yX9_isKind, cX9_isKind, 4, (some .boolean)) 2 := ⟨wd_847, by decide +kernel, by decide +kernel, by decide +kernel, by decide +kernel, by decide⟩
theorem mc_X9_powerOfTen : m_calls (yX9_powerOfTen, cX9_powerOfTen, 4, (some .long)) 1 := ⟨wd_626, by decide +kernel, by decide +kernel, by decide +kernel, by decide +kernel, by decide⟩
theorem mc_X9_partOf : m_calls (yX9_partOf, cX9_partOf, 12, (some .long)) 3 := ⟨wd_630, by decide +kernel, by decide +kernel, by decide +kernel, by decide +kernel, by decide⟩
theorem mc_X10_init : m_calls (yX10_init, cX10_init, 1, none) 0 := ⟨wd_865, by decide +kernel, by decide +kernel, by decide +kernel, by decide +kernel, by decide⟩
theorem mc_X10_in : m_calls (yX10_in, cX10_in, 3, (some .boolean)) 3 := ⟨wd_945, by decide +kernel, by decide +kernel, by decide +kernel, by decide +kernel, by decide⟩
theorem mc_X10_isPlayer : m_calls (yX10_isPlayer, cX10_isPlayer, 2, (some .boolean)) 1 := ⟨wd_1068, by decide +kernel, by decide +kernel, by decide +kernel, by decide +kernel, by decide⟩
theorem mc_X10_areTwo : m_calls (yX10_areTwo, cX10_areTwo, 3, (some .boolean)) 2 := ⟨wd_1128, by decide +kernel, by decide +kernel, by decide +kernel, by decide +kernel, by decide⟩
theorem mc_X10_keeps : m_calls (yX10_keeps, cX10_keeps, 2, none) 0 := ⟨wd_1137, by decide +kernel, by decide +kernel, by decide +kernel, by decide +kernel, by decide⟩
theorem mc_X10_goesBack : m_calls (yX10_goesBack, cX10_goesBack, 2, none) 0 := ⟨wd_1150, by decide +kernel, by decide +kernel, by decide +kernel, by decide +kernel, by decide⟩
theorem mc_X10_feed : m_calls (yX10_feed, cX10_feed, 2, (some .int)) 1 := ⟨wd_942, by decide +kernel, by decide +kernel, by decide +kernel, by decide +kernel, by decide⟩
theorem mc_X10_here : m_calls (yX10_here, cX10_here, 1, (some .int)) 0 := ⟨wd_957, by decide +kernel, by decide +kernel, by decide +kernel, by decide +kernel, by decide⟩
theorem mc_X10_must : m_calls (yX10_must, cX10_must, 2, none) 1 := ⟨wd_965, by decide +kernel, by decide +kernel, by decide +kernel, by decide +kernel, by decide⟩
theorem mc_X10_spells : m_calls (yX10_spells, cX10_spells, 3, none) 1 := ⟨wd_974, by decide +kernel, by decide +kernel, by decide +kernel, by decide +kernel, by decide⟩
theorem mc_X10_figures : m_calls (yX10_figures, cX10_figures, 3, (some .int)) 0 := ⟨wd_1026, by decide +kernel, by decide +kernel, by decide +kernel, by decide +kernel, by decide⟩
theorem mc_X10_among : m_calls (yX10_among, cX10_among, 3, (some .int)) 1 := ⟨wd_1047, by decide +kernel, by decide +kernel, by decide +kernel, by decide +kernel, by decide⟩
theorem mc_X10_emits : m_calls (yX10_emits, cX10_emits, 2, none) 1 := ⟨wd_1042, by decide +kernel, by decide +kernel, by decide +kernel, by decide +kernel, by decide⟩
theorem mc_X10_factor : m_calls (yX10_factor, cX10_factor, 5, none) 0 := ⟨wd_1038, by decide +kernel, by decide +kernel, by decide +kernel, by decide +kernel, by decide⟩
theorem mc_X10_every : m_calls (yX10_every, cX10_every, 1, none) 0 := ⟨wd_1034, by decide +kernel, by decide +kernel, by decide +kernel, by decide +kernel, by decide⟩
theorem mc_X10_some : m_calls (yX10_some, cX10_some, 1, none) 0 := ⟨wd_1030, by decide +kernel, by decide +kernel, by decide +kernel, by decide +kernel, by decide⟩
theorem mc_X10_much : m_calls (yX10_much, cX10_much, 4, none) 2 := ⟨wd_970, by decide +kernel, by decide +kernel, by decide +kernel, by decide +kernel, by decide⟩
theorem mc_X10_tellsHere : m_calls (yX10_tellsHere, cX10_tellsHere, 4, none) 2 := ⟨wd_1053, by decide +kernel, by decide +kernel, by decide +kernel, by decide +kernel, by decide⟩
theorem mc_X10_clauseOfL : m_calls (yX10_clauseOfL, cX10_clauseOfL, 1, none) 0 := ⟨wd_961, by decide +kernel, by decide +kernel, by decide +kernel, by decide +kernel, by decide⟩
theorem mc_X10_clauseHere : m_calls (yX10_clauseHere, cX10_clauseHere, 1, none) 0 := ⟨wd_953, by decide +kernel, by decide +kernel, by decide +kernel, by decide +kernel, by decide⟩
theorem mc_X10_inn : m_calls (yX10_inn, cX10_inn, 2, (some .int)) 0 := ⟨wd_949, by decide +kernel, by decide +kernel, by decide +kernel, by decide +kernel, by decide⟩
theorem mc_X10_tellsOf : m_calls (yX10_tellsOf, cX10_tellsOf, 2, (some .int)) 1 := ⟨wd_1084, by decide +kernel, by decide +kernel, by decide +kernel, by decide +kernel, by decide⟩
theorem mc_X10_player : m_calls (yX10_player, cX10_player, 5, (some .int)) 2 := ⟨wd_1060, by decide +kernel, by decide +kernel, by decide +kernel, by decide +kernel, by decide⟩
theorem mc_X10_of : m_calls (yX10_of, cX10_of, 3, (some .int)) 2 := ⟨wd_1064, by decide +kernel, by decide +kernel, by decide +kernel, by decide +kernel, by decide⟩
theorem mc_X10_men : m_calls (yX10_men, cX10_men, 4, (some .int)) 2 := ⟨wd_1072, by decide +kernel, by decide +kernel, by decide +kernel, by decide +kernel, by decide⟩
theorem mc_X10_row : m_calls (yX10_row, cX10_row, 5, (some .int)) 3 := ⟨wd_1076, by decide +kernel, by decide +kernel, by decide +kernel, by decide +kernel, by decide⟩
theorem mc_X10_told : m_calls (yX10_told, cX10_told, 2, (some .int)) 1 := ⟨wd_1080, by decide +kernel, by decide +kernel, by decide +kernel, by decide +kernel, by decide⟩
theorem mc_X10_lifted : m_calls (yX10_lifted, cX10_lifted, 12, (some .int)) 2 := ⟨wd_1096, by decide +kernel, by decide +kernel, by decide +kernel, by decide +kernel, by decide⟩
theorem mc_X10_pushOf : m_calls (yX10_pushOf, cX10_pushOf, 8, (some .int)) 2 := ⟨wd_1092, by decide +kernel, by decide +kernel, by decide +kernel, by decide +kernel, by decide⟩
theorem mc_X10_oddsOf : m_calls (yX10_oddsOf, cX10_oddsOf, 4, (some .int)) 2 := ⟨wd_1104, by decide +kernel, by decide +kernel, by decide +kernel, by decide +kernel, by decide⟩
theorem mc_X10_push : m_calls (yX10_push, cX10_push, 3, (some .int)) 2 := ⟨wd_1088, by decide +kernel, by decide +kernel, by decide +kernel, by decide +kernel, by decide⟩
theorem mc_X10_odds : m_calls (yX10_odds, cX10_odds, 3, (some .int)) 2 := ⟨wd_1100, by decide +kernel, by decide +kernel, by decide +kernel, by decide +kernel, by decide⟩
theorem mc_X10_fewer : m_calls (yX10_fewer, cX10_fewer, 3, (some .int)) 1 := ⟨wd_1116, by decide +kernel, by decide +kernel, by decide +kernel, by decide +kernel, by decide⟩
theorem mc_X10_moreOf : m_calls (yX10_moreOf, cX10_moreOf, 3, (some .int)) 1 := ⟨wd_1120, by decide +kernel, by decide +kernel, by decide +kernel, by decide +kernel, by decide⟩
theorem mc_X10_plays : m_calls (yX10_plays, cX10_plays, 3, none) 2 := ⟨wd_1112, by decide +kernel, by decide +kernel, by decide +kernel, by decide +kernel, by decide⟩
theorem mc_X10_play : m_calls (yX10_play, cX10_play, 4, (some .int)) 3 := ⟨wd_1108, by decide +kernel, by decide +kernel, by decide +kernel, by decide +kernel, by decide⟩
theorem mc_X10_tens : m_calls (yX10_tens, cX10_tens, 4, (some .long)) 1 := ⟨wd_1153, by decide +kernel, by decide +kernel, by decide +kernel, by decide +kernel, by decide⟩
theorem mc_X10_beginsTwo : m_calls (yX10_beginsTwo, cX10_beginsTwo, 4, none) 2 := ⟨wd_1141, by decide +kernel, by decide +kernel, by decide +kernel, by decide +kernel, by decide⟩
theorem mc_X10_gameOn : m_calls (yX10_gameOn, cX10_gameOn, 7, none) 3 := ⟨wd_1145, by decide +kernel, by decide +kernel, by decide +kernel, by decide +kernel, by decide⟩
theorem mc_X10_gamesOn : m_calls (yX10_gamesOn, cX10_gamesOn, 6, none) 4 := ⟨wd_1133, by decide +kernel, by decide +kernel, by decide +kernel, by decide +kernel, by decide⟩
theorem mc_X10_lowest : m_calls (yX10_lowest, cX10_lowest, 11, (some .long)) 3 := ⟨wd_1156, by decide +kernel, by decide +kernel, by decide +kernel, by decide +kernel, by decide⟩
theorem mc_X10_wins : m_calls (yX10_wins, cX10_wins, 9, (some .long)) 5 := ⟨wd_1124, by decide +kernel, by decide +kernel, by decide +kernel, by decide +kernel, by decide⟩
theorem mc_X10_mean : m_calls (yX10_mean, cX10_mean, 8, (some .long)) 4 := ⟨wd_1160, by decide +kernel, by decide +kernel, by decide +kernel, by decide +kernel, by decide⟩
theorem mc_X10_firsts : m_calls (yX10_firsts, cX10_firsts, 12, (some .long)) 5 := ⟨wd_1168, by decide +kernel, by decide +kernel, by decide +kernel, by decide +kernel, by decide⟩
theorem mc_X10_series : m_calls (yX10_series, cX10_series, 5, (some .long)) 4 := ⟨wd_1164, by decide +kernel, by decide +kernel, by decide +kernel, by decide +kernel, by decide⟩
theorem mc_X10_ends : m_calls (yX10_ends, cX10_ends, 8, (some .long)) 4 := ⟨wd_1172, by decide +kernel, by decide +kernel, by decide +kernel, by decide +kernel, by decide⟩
theorem mc_X10_stakes : m_calls (yX10_stakes, cX10_stakes, 5, (some .long)) 4 := ⟨wd_1176, by decide +kernel, by decide +kernel, by decide +kernel, by decide +kernel, by decide⟩
theorem mc_X10_even : m_calls (yX10_even, cX10_even, 8, (some .int)) 2 := ⟨wd_1180, by decide +kernel, by decide +kernel, by decide +kernel, by decide +kernel, by decide⟩
theorem mc_X10_bestFor : m_calls (yX10_bestFor, cX10_bestFor, 13, (some .long)) 3 := ⟨wd_1188, by decide +kernel, by decide +kernel, by decide +kernel, by decide +kernel, by decide⟩
theorem mc_X10_purpose : m_calls (yX10_purpose, cX10_purpose, 5, (some .long)) 4 := ⟨wd_1184, by decide +kernel, by decide +kernel, by decide +kernel, by decide +kernel, by decide⟩
theorem mc_X10_loses : m_calls (yX10_loses, cX10_loses, 4, (some .int)) 3 := ⟨wd_1192, by decide +kernel, by decide +kernel, by decide +kernel, by decide +kernel, by decide⟩
theorem mc_X10_wonBy : m_calls (yX10_wonBy, cX10_wonBy, 9, (some .long)) 3 := ⟨wd_1213, by decide +kernel, by decide +kernel, by decide +kernel, by decide +kernel, by decide⟩
theorem mc_X10_ordersFrom : m_calls (yX10_ordersFrom, cX10_ordersFrom, 7, none) 3 := ⟨wd_1209, by decide +kernel, by decide +kernel, by decide +kernel, by decide +kernel, by decide⟩
theorem mc_X10_isSet : m_calls (yX10_isSet, cX10_isSet, 3, (some .boolean)) 2 := ⟨wd_1200, by decide +kernel, by decide +kernel, by decide +kernel, by decide +kernel, by decide⟩
theorem mc_X10_looksForOrder : m_calls (yX10_looksForOrder, cX10_looksForOrder, 3, none) 2 := ⟨wd_1204, by decide +kernel, by decide +kernel, by decide +kernel, by decide +kernel, by decide⟩
theorem mc_X10_order : m_calls (yX10_order, cX10_order, 4, (some .int)) 3 := ⟨wd_1196, by decide +kernel, by decide +kernel, by decide +kernel, by decide +kernel, by decide⟩
theorem mc_X10_orderMean : m_calls (yX10_orderMean, cX10_orderMean, 6, (some .long)) 3 := ⟨wd_1217, by decide +kernel, by decide +kernel, by decide +kernel, by decide +kernel, by decide⟩
theorem mc_X10_tables : m_calls (yX10_tables, cX10_tables, 12, (some .long)) 6 := ⟨wd_1225, by decide +kernel, by decide +kernel, by decide +kernel, by decide +kernel, by decide⟩
theorem mc_X10_nextTable : m_calls (yX10_nextTable, cX10_nextTable, 9, (some .long)) 6 := ⟨wd_1229, by decide +kernel, by decide +kernel, by decide +kernel, by decide +kernel, by decide⟩
theorem mc_X10_table : m_calls (yX10_table, cX10_table, 6, (some .long)) 3 := ⟨wd_1221, by decide +kernel, by decide +kernel, by decide +kernel, by decide +kernel, by decide⟩
theorem mc_X10_book : m_calls (yX10_book, cX10_book, 4, (some .int)) 3 := ⟨wd_1233, by decide +kernel, by decide +kernel, by decide +kernel, by decide +kernel, by decide⟩
theorem mc_X10_booksGame : m_calls (yX10_booksGame, cX10_booksGame, 5, none) 1 := ⟨wd_1241, by decide +kernel, by decide +kernel, by decide +kernel, by decide +kernel, by decide⟩
theorem mc_X10_likely : m_calls (yX10_likely, cX10_likely, 11, (some .int)) 1 := ⟨wd_1237, by decide +kernel, by decide +kernel, by decide +kernel, by decide +kernel, by decide⟩
theorem mc_X10_says : m_calls (yX10_says, cX10_says, 3, (some .int)) 1 := ⟨wd_1245, by decide +kernel, by decide +kernel, by decide +kernel, by decide +kernel, by decide⟩
theorem mc_X10_tale : m_calls (yX10_tale, cX10_tale, 2, (some .int)) 1 := ⟨wd_1249, by decide +kernel, by decide +kernel, by decide +kernel, by decide +kernel, by decide⟩
theorem mc_X10_looked : m_calls (yX10_looked, cX10_looked, 3, (some .int)) 0 := ⟨wd_1253, by decide +kernel, by decide +kernel, by decide +kernel, by decide +kernel, by decide⟩
theorem mc_X10_ranBody : m_calls (yX10_ranBody, cX10_ranBody, 2, none) 1 := ⟨wd_1268, by decide +kernel, by decide +kernel, by decide +kernel, by decide +kernel, by decide⟩
theorem mc_X10_isUnder : m_calls (yX10_isUnder, cX10_isUnder, 2, (some .boolean)) 2 := ⟨wd_1264, by decide +kernel, by decide +kernel, by decide +kernel, by decide +kernel, by decide⟩
theorem mc_X10_plainMoves : m_calls (yX10_plainMoves, cX10_plainMoves, 2, (some .int)) 1 := ⟨wd_1272, by decide +kernel, by decide +kernel, by decide +kernel, by decide +kernel, by decide⟩
theorem mc_X10_movesActs : m_calls (yX10_movesActs, cX10_movesActs, 2, (some .int)) 1 := ⟨wd_1261, by decide +kernel, by decide +kernel, by decide +kernel, by decide +kernel, by decide⟩
theorem mc_X10_plainBets : m_calls (yX10_plainBets, cX10_plainBets, 2, (some .int)) 1 := ⟨wd_1280, by decide +kernel, by decide +kernel, by decide +kernel, by decide +kernel, by decide⟩
theorem mc_X10_betsActs : m_calls (yX10_betsActs, cX10_betsActs, 2, (some .int)) 1 := ⟨wd_1276, by decide +kernel, by decide +kernel, by decide +kernel, by decide +kernel, by decide⟩
theorem mc_X10_plainTells : m_calls (yX10_plainTells, cX10_plainTells, 2, (some .int)) 1 := ⟨wd_1288, by decide +kernel, by decide +kernel, by decide +kernel, by decide +kernel, by decide⟩
theorem mc_X10_tellsActs : m_calls (yX10_tellsActs, cX10_tellsActs, 3, (some .int)) 1 := ⟨wd_1284, by decide +kernel, by decide +kernel, by decide +kernel, by decide +kernel, by decide⟩
theorem mc_X10_act : m_calls (yX10_act, cX10_act, 4, (some .int)) 3 := ⟨wd_1257, by decide +kernel, by decide +kernel, by decide +kernel, by decide +kernel, by decide⟩
theorem mc_X10_trace : m_calls (yX10_trace, cX10_trace, 2, (some .int)) 1 := ⟨wd_1292, by decide +kernel, by decide +kernel, by decide +kernel, by decide +kernel, by decide⟩
theorem mc_X10_as : m_calls (yX10_as, cX10_as, 3, (some .int)) 2 := ⟨wd_1296, by decide +kernel, by decide +kernel, by decide +kernel, by decide +kernel, by decide⟩
theorem mc_X10_image : m_calls (yX10_image, cX10_image, 2, (some .int)) 0 := ⟨wd_1300, by decide +kernel, by decide +kernel, by decide +kernel, by decide +kernel, by decide⟩
theorem mc_X10_undo : m_calls (yX10_undo, cX10_undo, 2, (some .int)) 0 := ⟨wd_1304, by decide +kernel, by decide +kernel, by decide +kernel, by decide +kernel, by decide⟩
theorem mc_X10_count : m_calls (yX10_count, cX10_count, 2, (some .int)) 1 := ⟨wd_1308, by decide +kernel, by decide +kernel, by decide +kernel, by decide +kernel, by decide⟩
theorem mc_J6_bitCount_0f7a4 : m_calls (yJ6_bitCount_0f7a4, cJ6_bitCount_0f7a4, 1, (some .int)) 1 := ⟨wd_708, by decide +kernel, by decide +kernel, by decide +kernel, by decide +kernel, by decide⟩
theorem mc_J0_length_8abf5 : m_calls (yJ0_length_8abf5, cJ0_length_8abf5, 1, (some .int)) 0 := ⟨wd_978, by decide +kernel, by decide +kernel, by decide +kernel, by decide +kernel, by decide⟩
theorem mc_J0_charAt_5068e : m_calls (yJ0_charAt_5068e, cJ0_charAt_5068e, 2, (some .char)) 1 := ⟨wd_988, by decide +kernel, by decide +kernel, by decide +kernel, by decide +kernel, by decide⟩
theorem mc_J0_coder_7d493 : m_calls (yJ0_coder_7d493, cJ0_coder_7d493, 1, (some .byte)) 0 := ⟨wd_982, by decide +kernel, by decide +kernel, by decide +kernel, by decide +kernel, by decide⟩
theorem mc_J0_isLatin1_aae02 : m_calls (yJ0_isLatin1_aae02, cJ0_isLatin1_aae02, 1, (some .boolean)) 0 := ⟨wd_992, by decide +kernel, by decide +kernel, by decide +kernel, by decide +kernel, by decide⟩
theorem mc_J0_checkIndex_df160 : m_calls (yJ0_checkIndex_df160, cJ0_checkIndex_df160, 2, none) 2 := ⟨wd_998, by decide +kernel, by decide +kernel, by decide +kernel, by decide +kernel, by decide⟩
theorem mc_J1_charAt_3b067 : m_calls (yJ1_charAt_3b067, cJ1_charAt_3b067, 2, (some .char)) 2 := ⟨wd_995, by decide +kernel, by decide +kernel, by decide +kernel, by decide +kernel, by decide⟩
theorem mc_J3_checkIndex_8e157 : m_calls (yJ3_checkIndex_8e157, cJ3_checkIndex_8e157, 3, (some .int)) 3 := ⟨wd_1003, by decide +kernel, by decide +kernel, by decide +kernel, by decide +kernel, by decide⟩
