/-! The walk: a state of a method by the memory, the locals' and the stack's values; a pure function takes it over a stretch of instructions; this part says that the machine does the same. -/
def q_W : List Cond := lw_tbl.filter goodWord
theorem q_W_in {w : Cond} (h : w ∈ lw_tbl) (g : goodWord w = true) : w ∈ q_W := List.mem_filter.mpr ⟨h, g⟩
def q_tys (κ : Nat → ClassId) : List (ClassId × FieldType) := [(κ 0, .int), (κ 1, .byte), (κ 4, .object RX6), (κ 5, .object RX4)]
abbrev q_Lv : Type := List (Nat × Value)
def q_lget : q_Lv → Nat → Option Value
  | [], _ => none
  | q :: t, i => bif Nat.beq q.1 i then some q.2 else q_lget t i
def q_ldel : q_Lv → Nat → q_Lv
  | [], _ => []
  | q :: t, i => bif (Nat.beq q.1 i || (Nat.beq (q.1 + 1) i && Nat.beq q.2.category 2)) then q_ldel t i else q :: q_ldel t i
def q_lset (l : q_Lv) (i : Nat) (v : Value) : q_Lv := (i, v) :: q_ldel l i
abbrev q_S : Type := q_Lv × List Value × q_M
/-- an instruction: its place, itself, its length, its constant, its target -/
abbrev q_E : Type := Nat × Instr × Nat × Int32 × Nat
def q_ck (nL : Nat) (e : q_E) : Bool := match e.2.1 with
  | .iconst n => decide (e.2.2.1 = 1) && decide (Int32.ofInt n = e.2.2.2.1)
  | .bipush n => decide (e.2.2.1 = 2) && decide ((Int8.ofInt n).toInt32 = e.2.2.2.1)
  | .sipush n => decide (e.2.2.1 = 3) && decide ((Int16.ofInt n).toInt32 = e.2.2.2.1)
  | .iinc i n => decide (e.2.2.1 = 3) && decide (i < nL) && decide (Int32.ofInt n = e.2.2.2.1)
  | .lconst n => decide (e.2.2.1 = 1) && decide (Int64.ofNat (n : Nat) = e.2.2.2.1.toInt64)
  | .goto o => decide (e.2.2.1 = 3) && decide ((e.1 : Int) + o = (e.2.2.2.2 : Int))
  | .ifCond _ o => decide (e.2.2.1 = 3) && decide ((e.1 : Int) + o = (e.2.2.2.2 : Int))
  | .if_icmp _ o => decide (e.2.2.1 = 3) && decide ((e.1 : Int) + o = (e.2.2.2.2 : Int))
  | .if_acmp _ o => decide (e.2.2.1 = 3) && decide ((e.1 : Int) + o = (e.2.2.2.2 : Int))
  | .ifnull o => decide (e.2.2.1 = 3) && decide ((e.1 : Int) + o = (e.2.2.2.2 : Int))
  | .ifnonnull o => decide (e.2.2.1 = 3) && decide ((e.1 : Int) + o = (e.2.2.2.2 : Int))
  | .iload _ => decide (e.2.2.1 = 2)
  | .aload _ => decide (e.2.2.1 = 2)
  | .istore i => decide (e.2.2.1 = 2) && decide (i < nL)
  | .istore_n i => decide (e.2.2.1 = 1) && decide (i.val < nL)
  | .astore i => decide (e.2.2.1 = 2) && decide (i < nL)
  | .astore_n i => decide (e.2.2.1 = 1) && decide (i.val < nL)
  | .dload _ => decide (e.2.2.1 = 2)
  | .getfield _ => decide (e.2.2.1 = 3)
  | .putfield _ => decide (e.2.2.1 = 3)
  | .getstatic _ => decide (e.2.2.1 = 3)
  | .invokevirtual _ => true
  | .invokestatic _ => true
  | .invokespecial _ => true
  | .new _ => true
  | .tableswitch _ _ _ _ => true
  | .lookupswitch _ _ => true
  | .ldc _ => true
  | .ldc_w _ => true
  | .newarray _ => true
  | .anewarray _ => true
  | .dstore _ => true
  | .checkcast _ => true
  | _ => decide (e.2.2.1 = 1)
def q_tb (cc : ByteArray) (nL : Nat) (t : List q_E) : Bool := t.all (fun e => decide (decode cc e.1 = .ok (e.2.1, e.2.2.1)) && q_ck nL e)
theorem q_tb_at {cc : ByteArray} {nL : Nat} {t : List q_E} (h : q_tb cc nL t = true) {e : q_E} (he : e ∈ t) : decode cc e.1 = .ok (e.2.1, e.2.2.1) ∧ q_ck nL e = true := by
  have h1 := List.all_eq_true.mp h e he
  simp only [Bool.and_eq_true, decide_eq_true_eq] at h1
  exact h1
/-- what a store into a field writes, and what it asks -/
def q_un (a b : Nat) (v : Value) : Option (List Prop × Int32) := match a, b, v with
  | 7, 3, .float w => some ([], w.toInt32)
  | 5, 5, .float w => some ([], w.toInt32)
  | 6, 1, .int x => some ([x = 0 ∨ x = 1], x)
  | 7, 12, .int x => some ([x = 0 ∨ x = 1], x)
  | 7, 13, .int x => some ([x = 0 ∨ x = 1], x)
  | 8, 6, .int x => some ([x = 0 ∨ x = 1], x)
  | 4, 1, .int x => some ([], x)
  | 4, 2, .int x => some ([], x)
  | 5, 2, .int x => some ([], x)
  | 5, 3, .int x => some ([], x)
  | 5, 4, .int x => some ([], x)
  | 6, 2, .int x => some ([], x)
  | 6, 3, .int x => some ([], x)
  | 7, 4, .int x => some ([], x)
  | 7, 5, .int x => some ([], x)
  | 7, 6, .int x => some ([], x)
  | 7, 7, .int x => some ([], x)
  | 7, 8, .int x => some ([], x)
  | 7, 9, .int x => some ([], x)
  | 7, 10, .int x => some ([], x)
  | 7, 11, .int x => some ([], x)
  | 8, 7, .int x => some ([], x)
  | 8, 8, .int x => some ([], x)
  | 8, 9, .int x => some ([], x)
  | 8, 10, .int x => some ([], x)
  | _, _, _ => none
/-- a value of one slot -/
def q_c1 : Value → Bool
  | .long _ => false
  | .double _ => false
  | _ => true
def q_cond (op : Jvm.ClassFile.Cond) (x y : Int32) (tk : Bool) : Prop := match op with
  | .eq => bif tk then x = y else ¬ x = y
  | .ne => bif tk then ¬ x = y else x = y
  | .lt => bif tk then x < y else ¬ x < y
  | .ge => bif tk then ¬ x < y else x < y
  | .gt => bif tk then y < x else ¬ y < x
  | .le => bif tk then ¬ y < x else y < x
/-- one instruction: what it asks, where it goes, what it leaves. F: the class's field references; G: its static constants; tk: whether a branch is taken -/
def q_1 (F : Nat → Option (Nat × Nat)) (G : Nat → Option Int32) (e : q_E) (tk : Bool) (S : q_S) : Option (List Prop × Nat × q_S) :=
  match e.2.1 with
  | .iconst _ => some ([], e.1 + e.2.2.1, S.1, .int e.2.2.2.1 :: S.2.1, S.2.2)
  | .bipush _ => some ([], e.1 + e.2.2.1, S.1, .int e.2.2.2.1 :: S.2.1, S.2.2)
  | .sipush _ => some ([], e.1 + e.2.2.1, S.1, .int e.2.2.2.1 :: S.2.1, S.2.2)
  | .lconst _ => some ([], e.1 + 1, S.1, .long e.2.2.2.1.toInt64 :: S.2.1, S.2.2)
  | .aconst_null => some ([], e.1 + 1, S.1, .null :: S.2.1, S.2.2)
  | .iload i => (match q_lget S.1 i with | some (.int x) => some ([], e.1 + 2, S.1, .int x :: S.2.1, S.2.2) | _ => none)
  | .iload_n i => (match q_lget S.1 i.val with | some (.int x) => some ([], e.1 + 1, S.1, .int x :: S.2.1, S.2.2) | _ => none)
  | .aload i => (match q_lget S.1 i with
    | some (.ref x) => some ([], e.1 + 2, S.1, .ref x :: S.2.1, S.2.2)
    | some (.float x) => some ([], e.1 + 2, S.1, .float x :: S.2.1, S.2.2)
    | some .null => some ([], e.1 + 2, S.1, .null :: S.2.1, S.2.2)
    | _ => none)
  | .aload_n i => (match q_lget S.1 i.val with
    | some (.ref x) => some ([], e.1 + 1, S.1, .ref x :: S.2.1, S.2.2)
    | some (.float x) => some ([], e.1 + 1, S.1, .float x :: S.2.1, S.2.2)
    | some .null => some ([], e.1 + 1, S.1, .null :: S.2.1, S.2.2)
    | _ => none)
  | .istore i => (match S.2.1 with | .int x :: r => some ([], e.1 + 2, q_lset S.1 i (.int x), r, S.2.2) | _ => none)
  | .istore_n i => (match S.2.1 with | .int x :: r => some ([], e.1 + 1, q_lset S.1 i.val (.int x), r, S.2.2) | _ => none)
  | .astore i => (match S.2.1 with
    | .ref x :: r => some ([], e.1 + 2, q_lset S.1 i (.ref x), r, S.2.2)
    | .float x :: r => some ([], e.1 + 2, q_lset S.1 i (.float x), r, S.2.2)
    | .null :: r => some ([], e.1 + 2, q_lset S.1 i .null, r, S.2.2)
    | _ => none)
  | .astore_n i => (match S.2.1 with
    | .ref x :: r => some ([], e.1 + 1, q_lset S.1 i.val (.ref x), r, S.2.2)
    | .float x :: r => some ([], e.1 + 1, q_lset S.1 i.val (.float x), r, S.2.2)
    | .null :: r => some ([], e.1 + 1, q_lset S.1 i.val .null, r, S.2.2)
    | _ => none)
  | .iinc i _ => (match q_lget S.1 i with | some (.int x) => some ([], e.1 + 3, q_lset S.1 i (.int (x + e.2.2.2.1)), S.2.1, S.2.2) | _ => none)
  | .iadd => (match S.2.1 with | .int y :: .int x :: r => some ([], e.1 + 1, S.1, .int (x + y) :: r, S.2.2) | _ => none)
  | .isub => (match S.2.1 with | .int y :: .int x :: r => some ([], e.1 + 1, S.1, .int (x - y) :: r, S.2.2) | _ => none)
  | .imul => (match S.2.1 with | .int y :: .int x :: r => some ([], e.1 + 1, S.1, .int (x * y) :: r, S.2.2) | _ => none)
  | .iand => (match S.2.1 with | .int y :: .int x :: r => some ([], e.1 + 1, S.1, .int (x &&& y) :: r, S.2.2) | _ => none)
  | .ior => (match S.2.1 with | .int y :: .int x :: r => some ([], e.1 + 1, S.1, .int (x ||| y) :: r, S.2.2) | _ => none)
  | .ishl => (match S.2.1 with | .int y :: .int x :: r => some ([], e.1 + 1, S.1, .int (x <<< (y &&& 31)) :: r, S.2.2) | _ => none)
  | .ishr => (match S.2.1 with | .int y :: .int x :: r => some ([], e.1 + 1, S.1, .int (x >>> (y &&& 31)) :: r, S.2.2) | _ => none)
  | .idiv => (match S.2.1 with | .int y :: .int x :: r => some ([¬ y = 0], e.1 + 1, S.1, .int (x / y) :: r, S.2.2) | _ => none)
  | .irem => (match S.2.1 with | .int y :: .int x :: r => some ([¬ y = 0], e.1 + 1, S.1, .int (x - x / y * y) :: r, S.2.2) | _ => none)
  | .ineg => (match S.2.1 with | .int x :: r => some ([], e.1 + 1, S.1, .int (-x) :: r, S.2.2) | _ => none)
  | .i2c => (match S.2.1 with | .int x :: r => some ([], e.1 + 1, S.1, .int (x.toUInt32 % 65536).toInt32 :: r, S.2.2) | _ => none)
  | .i2l => (match S.2.1 with | .int x :: r => some ([], e.1 + 1, S.1, .long x.toInt64 :: r, S.2.2) | _ => none)
  | .i2d => (match S.2.1 with | .int x :: r => some ([], e.1 + 1, S.1, .double (FP.i2d x) :: r, S.2.2) | _ => none)
  | .lcmp => (match S.2.1 with | .long y :: .long x :: r => some ([], e.1 + 1, S.1, .int (lg_cmp x y) :: r, S.2.2) | _ => none)
  | .dcmp o => (match S.2.1 with | .double y :: .double x :: r => some ([], e.1 + 1, S.1, .int (Op.cmpValue (FP.dcmp x y) o) :: r, S.2.2) | _ => none)
  | .dup => (match S.2.1 with | v :: r => bif q_c1 v then some ([], e.1 + 1, S.1, v :: v :: r, S.2.2) else none | _ => none)
  | .dup2 => (match S.2.1 with | v :: w :: r => bif q_c1 v && q_c1 w then some ([], e.1 + 1, S.1, v :: w :: v :: w :: r, S.2.2) else none | _ => none)
  | .dup_x1 => (match S.2.1 with | v :: w :: r => bif q_c1 v && q_c1 w then some ([], e.1 + 1, S.1, v :: w :: v :: r, S.2.2) else none | _ => none)
  | .pop => (match S.2.1 with | v :: r => bif q_c1 v then some ([], e.1 + 1, S.1, r, S.2.2) else none | _ => none)
  | .goto _ => some ([], e.2.2.2.2, S)
  | .ifCond op _ => (match S.2.1 with | .int x :: r => some ([q_cond op x 0 tk], bif tk then e.2.2.2.2 else e.1 + 3, S.1, r, S.2.2) | _ => none)
  | .if_icmp op _ => (match S.2.1 with | .int y :: .int x :: r => some ([q_cond op x y tk], bif tk then e.2.2.2.2 else e.1 + 3, S.1, r, S.2.2) | _ => none)
  | .if_acmp op _ => (match op, S.2.1 with
    | .eq, .float y :: .float x :: r => some ([bif tk then x = y else ¬ x = y], bif tk then e.2.2.2.2 else e.1 + 3, S.1, r, S.2.2)
    | .ne, .float y :: .float x :: r => some ([bif tk then ¬ x = y else x = y], bif tk then e.2.2.2.2 else e.1 + 3, S.1, r, S.2.2)
    | _, _ => none)
  | .ifnull _ => (match S.2.1 with
    | .null :: r => some ([], e.2.2.2.2, S.1, r, S.2.2)
    | .ref _ :: r => some ([], e.1 + 3, S.1, r, S.2.2)
    | _ => none)
  | .ifnonnull _ => (match S.2.1 with
    | .null :: r => some ([], e.1 + 3, S.1, r, S.2.2)
    | .ref _ :: r => some ([], e.2.2.2.2, S.1, r, S.2.2)
    | _ => none)
  | .getfield i => (match S.2.1 with
    | .ref k :: r => (match F i with | some (a, b) => some ([q_kd k = a], e.1 + 3, S.1, q_fw a b k (S.2.2 k b) :: r, S.2.2) | none => none)
    | _ => none)
  | .putfield i => (match S.2.1 with
    | v :: .ref k :: r => (match F i with
      | some (a, b) => (match q_un a b v with | some (cs, x) => some ((q_kd k = a) :: cs, e.1 + 3, S.1, r, q_up S.2.2 k b x) | none => none)
      | none => none)
    | _ => none)
  | .getstatic i => (match G i with | some x => some ([], e.1 + 3, S.1, q_e x :: S.2.1, S.2.2) | none => none)
  | .iaload => (match S.2.1 with | .int i :: .ref k :: r => some ([q_kd k = 20, vp_in i (q_len k)], e.1 + 1, S.1, .int (S.2.2 k i.toNatClampNeg) :: r, S.2.2) | _ => none)
  | .iastore => (match S.2.1 with | .int x :: .int i :: .ref k :: r => some ([q_kd k = 20, vp_in i (q_len k)], e.1 + 1, S.1, r, q_up S.2.2 k i.toNatClampNeg x) | _ => none)
  | .aaload => (match S.2.1 with
    | .int i :: .ref k :: r => bif Nat.beq e.2.2.2.2 30 then some ([q_kd k = 30, vp_in i 6], e.1 + 1, S.1, .ref (k + 1 + 3 * i.toNatClampNeg) :: r, S.2.2)
        else some ([q_kd k = 31, vp_in i 8], e.1 + 1, S.1, .ref (60 + 20 * i.toNatClampNeg) :: r, S.2.2)
    | _ => none)
  | .arraylength => (match S.2.1 with
    | .ref k :: r => bif Nat.beq e.2.2.2.2 30 then some ([q_kd k = 30], e.1 + 1, S.1, .int 6 :: r, S.2.2)
        else bif Nat.beq e.2.2.2.2 31 then some ([q_kd k = 31], e.1 + 1, S.1, .int 8 :: r, S.2.2)
        else some ([q_kd k = 20], e.1 + 1, S.1, .int (nI (q_len k)) :: r, S.2.2)
    | _ => none)
  | _ => none
def q_isB : Instr → Bool
  | .ifCond _ _ => true
  | .if_icmp _ _ => true
  | .if_acmp _ _ => true
  | _ => false
/-- a stretch: its instructions, in the order in which they are met, and of each branch whether it is taken -/
def q_b (F : Nat → Option (Nat × Nat)) (G : Nat → Option Int32) : List q_E → List Bool → Nat → q_S → Option (List Prop × Nat × q_S)
  | [], _, pc, S => some ([], pc, S)
  | e :: t, fl, pc, S => bif Nat.beq e.1 pc then
      (match q_1 F G e (fl.headD true) S with
      | some (cs, pc1, S1) => (match q_b F G t (bif q_isB e.2.1 then fl.tail else fl) pc1 S1 with | some (cs', r) => some (cs ++ cs', r) | none => none)
      | none => none) else none
def q_all : List Prop → Prop
  | [] => True
  | p :: t => p ∧ q_all t
theorem q_all_app {a b : List Prop} (h : q_all (a ++ b)) : q_all a ∧ q_all b := by
  induction a with
  | nil => exact ⟨trivial, h⟩
  | cons p a ih => exact ⟨⟨h.1, (ih h.2).1⟩, (ih h.2).2⟩
/-- the stretch's instructions out of the method's list: runs (where from, how many) -/
def q_run (t : List q_E) (rs : List (Nat × Nat)) : List q_E := rs.flatMap (fun r => (t.drop r.1).take r.2)
theorem q_run_in {t : List q_E} {rs : List (Nat × Nat)} {e : q_E} (h : e ∈ q_run t rs) : e ∈ t := by
  obtain ⟨r, -, h1⟩ := List.mem_flatMap.mp h
  exact List.mem_of_mem_drop (List.mem_of_mem_take h1)
