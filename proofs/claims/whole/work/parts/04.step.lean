/-- what must hold ahead of an instruction so that K holds behind it (X: of where it jumps, k: of what is returned) -/
def pm_step (SH : List pm_S) (CT : List pm_C) (ret : Option FieldType) (X : pm_X) (k : Option Value → pm_M → Prop) (it : pm_I) (lv : pm_L) (st : List Value) (M : pm_M) (K : pm_K) : Prop :=
  match it with
  | (_, i, _, a, b, ts) => match i with
    | .aload_n j => pm_ldr lv j.val (fun q => K lv (.ref q :: st) M)
    | .aload j => pm_ldr lv j (fun q => K lv (.ref q :: st) M)
    | .iload_n j => pm_ldi lv j.val (fun x => K lv (.int x :: st) M)
    | .iload j => pm_ldi lv j (fun x => K lv (.int x :: st) M)
    | .lload_n j => pm_ldl lv j.val (fun x => K lv (.long x :: st) M)
    | .lload j => pm_ldl lv j (fun x => K lv (.long x :: st) M)
    | .istore_n j => pm_i st (fun x r => K ((j.val, .int x) :: pm_rm j.val lv) r M)
    | .istore j => pm_i st (fun x r => K ((j, .int x) :: pm_rm j lv) r M)
    | .lstore_n j => pm_l st (fun x r => K ((j.val, .long x) :: pm_rm (j.val + 1) (pm_rm j.val lv)) r M)
    | .lstore j => pm_l st (fun x r => K ((j, .long x) :: pm_rm (j + 1) (pm_rm j lv)) r M)
    | .astore_n j => pm_r st (fun q r => K ((j.val, .ref q) :: pm_rm j.val lv) r M)
    | .astore j => pm_r st (fun q r => K ((j, .ref q) :: pm_rm j lv) r M)
    | .iinc j _ => pm_ldi lv j (fun x => K ((j, .int (x + pm_c a b)) :: pm_rm j lv) st M)
    | .iconst _ => K lv (.int (pm_c a b) :: st) M
    | .bipush _ => K lv (.int (pm_c a b) :: st) M
    | .sipush _ => K lv (.int (pm_c a b) :: st) M
    | .ldc _ => K lv (.int (pm_c a b) :: st) M
    | .ldc_w _ => K lv (.int (pm_c a b) :: st) M
    | .lconst _ => K lv (.long (lN a) :: st) M
    | .ldc2_w _ => K lv (.long (lN a) :: st) M
    | .iadd => pm_ii st (fun x y r => K lv (.int (x + y) :: r) M)
    | .isub => pm_ii st (fun x y r => K lv (.int (x - y) :: r) M)
    | .imul => pm_ii st (fun x y r => K lv (.int (x * y) :: r) M)
    | .iand => pm_ii st (fun x y r => K lv (.int (x &&& y) :: r) M)
    | .ior => pm_ii st (fun x y r => K lv (.int (x ||| y) :: r) M)
    | .ixor => pm_ii st (fun x y r => K lv (.int (x ^^^ y) :: r) M)
    | .idiv => pm_ii st (fun x y r => ¬ y = 0 ∧ K lv (.int (x / y) :: r) M)
    | .irem => pm_ii st (fun x y r => ¬ y = 0 ∧ K lv (.int (x - x / y * y) :: r) M)
    | .ishl => pm_ii st (fun x y r => K lv (.int (x <<< (y &&& 31)) :: r) M)
    | .ishr => pm_ii st (fun x y r => K lv (.int (x >>> (y &&& 31)) :: r) M)
    | .iushr => pm_ii st (fun x y r => K lv (.int (x.toUInt32 >>> (y.toUInt32 &&& Int32.toUInt32 31)).toInt32 :: r) M)
    | .lsub => pm_ll st (fun x y r => K lv (.long (x - y) :: r) M)
    | .lmul => pm_ll st (fun x y r => K lv (.long (x * y) :: r) M)
    | .land => pm_ll st (fun x y r => K lv (.long (x &&& y) :: r) M)
    | .lor => pm_ll st (fun x y r => K lv (.long (x ||| y) :: r) M)
    | .lxor => pm_ll st (fun x y r => K lv (.long (x ^^^ y) :: r) M)
    | .lcmp => pm_ll st (fun x y r => K lv (.int (lg_cmp x y) :: r) M)
    | .lshl => pm_li st (fun x y r => K lv (.long (x <<< (y.toInt64 &&& 63)) :: r) M)
    | .lushr => pm_li st (fun x y r => K lv (.long (x.toUInt64 >>> (y.toInt64.toUInt64 &&& Int64.toUInt64 63)).toInt64 :: r) M)
    | .i2l => pm_i st (fun x r => K lv (.long x.toInt64 :: r) M)
    | .l2i => pm_l st (fun x r => K lv (.int x.toInt32 :: r) M)
    | .i2b => pm_i st (fun x r => K lv (.int x.toInt8.toInt32 :: r) M)
    | .i2s => pm_i st (fun x r => K lv (.int x.toInt16.toInt32 :: r) M)
    | .dup => pm_v1 st (fun v r => K lv (v :: v :: r) M)
    | .pop => pm_v1 st (fun _ r => K lv r M)
    | .dup_x1 => pm_v2 st (fun v w r => K lv (v :: w :: v :: r) M)
    | .dup_x2 => pm_v3 st (fun v w x r => K lv (v :: w :: x :: v :: r) M)
    | .dup2 => pm_v2 st (fun v w r => K lv (v :: w :: v :: w :: r) M)
    | .ifCond .eq _ => pm_i st (fun x r => (x = 0 → pm_go X ts lv r M) ∧ (¬ x = 0 → K lv r M))
    | .ifCond .ne _ => pm_i st (fun x r => (¬ x = 0 → pm_go X ts lv r M) ∧ (x = 0 → K lv r M))
    | .ifCond .lt _ => pm_i st (fun x r => (x < 0 → pm_go X ts lv r M) ∧ (¬ x < 0 → K lv r M))
    | .ifCond .ge _ => pm_i st (fun x r => (0 ≤ x → pm_go X ts lv r M) ∧ (¬ 0 ≤ x → K lv r M))
    | .ifCond .gt _ => pm_i st (fun x r => (0 < x → pm_go X ts lv r M) ∧ (¬ 0 < x → K lv r M))
    | .ifCond .le _ => pm_i st (fun x r => (x ≤ 0 → pm_go X ts lv r M) ∧ (¬ x ≤ 0 → K lv r M))
    | .if_icmp .eq _ => pm_ii st (fun x y r => (x = y → pm_go X ts lv r M) ∧ (¬ x = y → K lv r M))
    | .if_icmp .ne _ => pm_ii st (fun x y r => (¬ x = y → pm_go X ts lv r M) ∧ (x = y → K lv r M))
    | .if_icmp .lt _ => pm_ii st (fun x y r => (x < y → pm_go X ts lv r M) ∧ (¬ x < y → K lv r M))
    | .if_icmp .ge _ => pm_ii st (fun x y r => (y ≤ x → pm_go X ts lv r M) ∧ (¬ y ≤ x → K lv r M))
    | .if_icmp .gt _ => pm_ii st (fun x y r => (y < x → pm_go X ts lv r M) ∧ (¬ y < x → K lv r M))
    | .if_icmp .le _ => pm_ii st (fun x y r => (x ≤ y → pm_go X ts lv r M) ∧ (¬ x ≤ y → K lv r M))
    | .goto _ => pm_go X ts lv st M
    | .tableswitch _ lo hi _ => pm_i st (fun x r => (x.toInt < lo ∨ hi < x.toInt → pm_go X ts lv r M) ∧ pm_sw X x lo (ts.drop 1) lv r M)
    | .getfield _ => pm_r st (fun q r => pm_obj SH q a (fun fs => pm_fld fs b (fun f => K lv (pm_fv M q b f :: r) M)))
    | .putfield _ => match st with
      | .int x :: .ref q :: r => pm_obj SH q (a % 100) (fun fs => pm_fld fs b (fun f => f = none ∧ (100 ≤ a → x = 0 ∨ x = 1) ∧ K lv r (pm_set M q b x)))
      | _ => False
    | .getstatic _ => K lv (.retAddr 0 :: st) M
    | .iaload => match a with
      | 0 => pm_ri st (fun q i r => pm_arr SH q (fun t n => t = 0 ∧ vp_in i n ∧ K lv (.int (M.1 q i.toNatClampNeg) :: r) M))
      | _ => pm_si st (fun i r => vp_in i 5 ∧ K lv (.int (pm_laws.getD i.toNatClampNeg 0) :: r) M)
    | .baload => pm_ri st (fun q i r => pm_arr SH q (fun t n => (t = 1 ∨ t = 2) ∧ vp_in i n ∧ K lv (.int (M.1 q i.toNatClampNeg) :: r) M))
    | .saload => pm_ri st (fun q i r => pm_arr SH q (fun t n => t = 3 ∧ vp_in i n ∧ K lv (.int (M.1 q i.toNatClampNeg) :: r) M))
    | .laload => pm_ri st (fun q i r => pm_arr SH q (fun t n => t = 4 ∧ vp_in i n ∧ K lv (.long (M.2 q i.toNatClampNeg) :: r) M))
    | .aaload => pm_ri st (fun q i r => pm_refs SH q (fun ps => vp_in i ps.length ∧ K lv (.ref (ps.getD i.toNatClampNeg 0) :: r) M))
    | .iastore => pm_rii st (fun q i x r => pm_arr SH q (fun t n => t = 0 ∧ vp_in i n ∧ K lv r (pm_set M q i.toNatClampNeg x)))
    | .bastore => pm_rii st (fun q i x r => pm_arr SH q (fun t n => (t = 1 ∧ vp_in i n ∧ K lv r (pm_set M q i.toNatClampNeg x.toInt8.toInt32)) ∨ (t = 2 ∧ (x = 0 ∨ x = 1) ∧ vp_in i n ∧ K lv r (pm_set M q i.toNatClampNeg x))))
    | .sastore => pm_rii st (fun q i x r => pm_arr SH q (fun t n => t = 3 ∧ vp_in i n ∧ K lv r (pm_set M q i.toNatClampNeg x.toInt16.toInt32)))
    | .lastore => pm_ril st (fun q i x r => pm_arr SH q (fun t n => t = 4 ∧ vp_in i n ∧ K lv r (pm_setL M q i.toNatClampNeg x)))
    | .arraylength => pm_r st (fun q r => pm_arr SH q (fun t n => t < 5 ∧ K lv (.int (nI n) :: r) M))
    | .invokevirtual _ => match CT[a]? with
      | some c => pm_call SH c st M (fun st M => K lv st M)
      | none => False
    | .invokestatic _ => match b with
      | 0 => match CT[a]? with
        | some c => pm_call SH c st M (fun st M => K lv st M)
        | none => False
      | 1 => pm_cp st (fun q0 x q1 y n r => pm_arr SH q0 (fun t0 n0 => pm_arr SH q1 (fun t1 n1 => t0 = 0 ∧ t1 = 0 ∧ ¬ x < 0 ∧ ¬ y < 0 ∧ ¬ n < 0 ∧ x.toNatClampNeg + n.toNatClampNeg ≤ n0 ∧ y.toNatClampNeg + n.toNatClampNeg ≤ n1 ∧ (r.map fun v => v.category).sum ≤ 8 ∧ K lv r (pm_cpy M q0 x.toNatClampNeg q1 y.toNatClampNeg n.toNatClampNeg))))
      | _ => pm_cp st (fun q0 x q1 y n r => pm_arr SH q0 (fun t0 n0 => pm_arr SH q1 (fun t1 n1 => t0 = 4 ∧ t1 = 4 ∧ ¬ x < 0 ∧ ¬ y < 0 ∧ ¬ n < 0 ∧ x.toNatClampNeg + n.toNatClampNeg ≤ n0 ∧ y.toNatClampNeg + n.toNatClampNeg ≤ n1 ∧ (r.map fun v => v.category).sum ≤ 8 ∧ K lv r (pm_cpyL M q0 x.toNatClampNeg q1 y.toNatClampNeg n.toNatClampNeg))))
    | .ireturn => match st with
      | [.int x] => (ret = some .int ∨ (ret = some .boolean ∧ (x = 0 ∨ x = 1))) ∧ k (some (.int x)) M
      | _ => False
    | .lreturn => match st with
      | [.long x] => ret = some .long ∧ k (some (.long x)) M
      | _ => False
    | .return_ => match st with
      | [] => ret = none ∧ k none M
      | _ => False
    | _ => False
def pm_wp (SH : List pm_S) (CT : List pm_C) (ret : Option FieldType) (X : pm_X) (k : Option Value → pm_M → Prop) (nx : Nat × List Nat) : List pm_I → pm_L → List Value → pm_M → Prop
  | [], lv, st, M => pm_go X [nx] lv st M
  | it :: is, lv, st, M => pm_step SH CT ret X k it lv st M (fun lv st M => pm_wp SH CT ret X k nx is lv st M)
/-- what a program checks of an instruction ahead of time -/
def pm_ck (own : String) (nL : Nat) (cs : List (Bool × Nat)) (pc : Nat) (i : Instr) (n a b : Nat) (ts : List (Nat × List Nat)) : Bool :=
  match i with
  | .aload_n _ | .iload_n _ | .lload_n _ => n == 1
  | .aload _ | .iload _ | .lload _ => n == 2
  | .istore_n j | .astore_n j => n == 1 && decide (j.val < nL)
  | .istore j | .astore j => n == 2 && decide (j < nL)
  | .lstore_n j => n == 1 && decide (j.val + 1 < nL)
  | .lstore j => n == 2 && decide (j + 1 < nL)
  | .iinc j z => n == 3 && decide (j < nL) && decide (Int32.ofInt z = pm_c a b)
  | .iconst z => n == 1 && decide (Int32.ofInt z = pm_c a b)
  | .bipush z => n == 2 && decide ((Int8.ofInt z).toInt32 = pm_c a b)
  | .sipush z => n == 3 && decide ((Int16.ofInt z).toInt32 = pm_c a b)
  | .ldc j => n == 2 && pm_iT (Cond.constant own j (pm_c a b))
  | .ldc_w j => n == 3 && pm_iT (Cond.constant own j (pm_c a b))
  | .lconst j => n == 1 && decide (j.val = a)
  | .ldc2_w j => n == 3 && pm_iT (Cond.constantLong own j (lN a))
  | .iadd | .isub | .imul | .iand | .ior | .ixor | .idiv | .irem | .ishl | .ishr | .iushr | .lsub | .lmul | .land | .lor | .lxor | .lcmp | .lshl | .lushr | .i2l | .l2i | .i2b | .i2s | .dup | .pop | .dup_x1 | .dup_x2 | .dup2 => n == 1
  | .ifCond _ off | .if_icmp _ off => n == 3 && match ts with | (t, _) :: _ => decide ((pc : Int) + off = (t : Int)) | [] => false
  | .goto off => n == 3 && match ts with | (t, _) :: _ => decide ((pc : Int) + off = (t : Int)) | [] => false
  | .tableswitch d lo hi offs => match ts with | (t, _) :: ts' => decide ((pc : Int) + d = (t : Int)) && decide (ts'.map (fun q => (q.1 : Int)) = offs.toList.map (fun o => (pc : Int) + o)) && decide (lo + (offs.size : Int) = hi + 1) | [] => false
  | .getfield j => n == 3 && match pm_cl[a]? with
    | some (_, T, N) => decide (b < N) && (pm_iT (Cond.fieldLink own j (T b).1 (T b).2.1 (T b).2.2.1) || pm_iN (Cond.fieldLinkNest own j (T b).1 (T b).2.1 (T b).2.2.1 RX6))
    | none => false
  | .putfield j => n == 3 && match pm_cl[a % 100]? with
    | some (_, T, N) => decide (b < N) && (pm_iT (Cond.fieldLink own j (T b).1 (T b).2.1 (T b).2.2.1) || pm_iN (Cond.fieldLinkNest own j (T b).1 (T b).2.1 (T b).2.2.1 RX6)) && decide ((T b).2.2.2 = false) && decide (parseFieldDescriptor (T b).2.2.1 = some (if 100 ≤ a then .boolean else .int))
    | none => false
  | .getstatic j => n == 3 && pm_iT (Cond.fieldLink own j "PatienceDesk" "LAWS_ABOVE" "[I")
  | .iaload | .baload | .saload | .laload | .aaload | .iastore | .bastore | .sastore | .lastore | .arraylength | .ireturn | .lreturn | .return_ => n == 1
  | .invokevirtual j => n == 3 && decide (cs[a]? = some (false, j))
  | .invokestatic j => n == 3 && (match b with | 0 => decide (cs[a]? = some (true, j)) | _ => pm_iT (Cond.methodLink own j arraycopyName))
  | _ => false
def pm_cks (own : String) (cc : ByteArray) (nL : Nat) (cs : List (Bool × Nat)) (nx : Nat × List Nat) : Nat → List pm_I → Bool
  | pc, [] => pc == nx.1
  | pc, (pc', i, n, a, b, ts) :: is => pc' == pc && decide (decode cc pc = .ok (i, n)) && pm_ck own nL cs pc i n a b ts && (match i, is with | .goto _, [] | .ireturn, [] | .lreturn, [] | .return_, [] | .tableswitch .., [] => true | _, _ => pm_cks own cc nL cs nx (pc + n) is)
def pm_ckB (own : String) (cc : ByteArray) (nL : Nat) (cs : List (Bool × Nat)) (bl : List (Nat × pm_B)) : Bool := bl.all (fun B => pm_cks own cc nL cs B.2.2 B.1 B.2.1)
