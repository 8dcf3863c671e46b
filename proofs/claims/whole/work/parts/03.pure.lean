/-! ===== the pure machine: ideal integers, a heap of untyped cells; the script is cell 0 ===== -/
/-- a value: 0 int, 1 long, 2 reference (below 0: null), 9 nothing -/
abbrev pm_V : Type := Nat × Int
/-- a cell: its kind (a class's number, or 100 and on: arrays), its length, its contents -/
abbrev pm_C : Type := Nat × Nat × (Nat → Int)
/-- the next address; the cells -/
abbrev pm_M : Type := Nat × (Nat → pm_C)
/-- an instruction: pc, itself, its length, and what its links come to -/
abbrev pm_I : Type := Nat × Instr × Nat × Nat × Nat × Int × Nat
abbrev pm_Q : Type := Option pm_V → pm_M → Prop
abbrev pm_K : Type := Nat → Nat → Nat → List pm_V → List pm_V → pm_M → Nat → Nat → pm_Q → Prop
def pm_kd (M : pm_M) (a : Nat) : Nat := (M.2 a).1
def pm_ln (M : pm_M) (a : Nat) : Nat := (M.2 a).2.1
def pm_ct (M : pm_M) (a : Nat) : Nat → Int := (M.2 a).2.2
def pm_upd (f : Nat → Int) (k : Nat) (z : Int) : Nat → Int := fun j => if j = k then z else f j
def pm_up (M : pm_M) (a : Nat) (f : Nat → Int) : pm_M := (M.1, fun b => if b = a then (pm_kd M a, pm_ln M a, f) else M.2 b)
def pm_new (M : pm_M) (c : pm_C) : pm_M := (M.1 + 1, fun b => if b = M.1 then c else M.2 b)
def pm_inI (z : Int) : Prop := -2147483648 ≤ z ∧ z ≤ 2147483647
def pm_inL (z : Int) : Prop := -9223372036854775808 ≤ z ∧ z ≤ 9223372036854775807
/-- what the machine sees of an ideal integer -/
def pm_wI (a : Int) : Int := (Int32.ofInt a).toInt
def pm_wL (a : Int) : Int := (Int64.ofInt a).toInt
def pm_and (a b : Int) : Int := (Int32.ofInt a &&& Int32.ofInt b).toInt
def pm_or (a b : Int) : Int := (Int32.ofInt a ||| Int32.ofInt b).toInt
def pm_xor (a b : Int) : Int := (Int32.ofInt a ^^^ Int32.ofInt b).toInt
def pm_shl (a b : Int) : Int := (Int32.ofInt a <<< (Int32.ofInt b &&& 31)).toInt
def pm_shr (a b : Int) : Int := (Int32.ofInt a >>> (Int32.ofInt b &&& 31)).toInt
def pm_ushr (a b : Int) : Int := (((Int32.ofInt a).toUInt32 >>> ((Int32.ofInt b).toUInt32 &&& Int32.toUInt32 31)).toInt32).toInt
def pm_andL (a b : Int) : Int := (Int64.ofInt a &&& Int64.ofInt b).toInt
def pm_orL (a b : Int) : Int := (Int64.ofInt a ||| Int64.ofInt b).toInt
def pm_xorL (a b : Int) : Int := (Int64.ofInt a ^^^ Int64.ofInt b).toInt
def pm_shlL (a b : Int) : Int := (Int64.ofInt a <<< ((Int32.ofInt b).toInt64 &&& 63)).toInt
def pm_shrL (a b : Int) : Int := (Int64.ofInt a >>> ((Int32.ofInt b).toInt64 &&& 63)).toInt
def pm_ushrL (a b : Int) : Int := (((Int64.ofInt a).toUInt64 >>> ((Int32.ofInt b).toInt64.toUInt64 &&& Int64.toUInt64 63)).toInt64).toInt
def pm_b8 (a : Int) : Int := (Int32.ofInt a).toInt8.toInt32.toInt
def pm_cmp (a b : Int) : Int := if b < a then 1 else if a = b then 0 else -1
def pm_cnd (c : ClassFile.Cond) (a b : Int) : Prop := match c with
  | .eq => a = b
  | .ne => ¬ a = b
  | .lt => a < b
  | .ge => b ≤ a
  | .gt => b < a
  | .le => a ≤ b
def pm_i1 (st : List pm_V) (k : Int → List pm_V → Prop) : Prop := match st with
  | (0, a) :: r => k a r
  | _ => False
def pm_i2 (st : List pm_V) (k : Int → Int → List pm_V → Prop) : Prop := match st with
  | (0, b) :: (0, a) :: r => k a b r
  | _ => False
def pm_l1 (st : List pm_V) (k : Int → List pm_V → Prop) : Prop := match st with
  | (1, a) :: r => k a r
  | _ => False
def pm_l2 (st : List pm_V) (k : Int → Int → List pm_V → Prop) : Prop := match st with
  | (1, b) :: (1, a) :: r => k a b r
  | _ => False
def pm_li (st : List pm_V) (k : Int → Int → List pm_V → Prop) : Prop := match st with
  | (0, b) :: (1, a) :: r => k a b r
  | _ => False
def pm_r1 (st : List pm_V) (k : Int → List pm_V → Prop) : Prop := match st with
  | (2, a) :: r => k a r
  | _ => False
/-- an index on an array -/
def pm_ri (st : List pm_V) (k : Int → Int → List pm_V → Prop) : Prop := match st with
  | (0, i) :: (2, a) :: r => k a i r
  | _ => False
/-- a value of a tag, an index, an array -/
def pm_rit (t : Nat) (st : List pm_V) (k : Int → Int → Int → List pm_V → Prop) : Prop := match st with
  | (t', z) :: (0, i) :: (2, a) :: r => t' = t ∧ k a i z r
  | _ => False
/-- a value of a tag on an object -/
def pm_rv (t : Nat) (st : List pm_V) (k : Int → Int → List pm_V → Prop) : Prop := match st with
  | (t', z) :: (2, a) :: r => t' = t ∧ k a z r
  | _ => False
def pm_ob (M : pm_M) (a : Int) (c : Nat) : Prop := 0 < a ∧ a.toNat < M.1 ∧ pm_kd M a.toNat = c
def pm_ix (M : pm_M) (a i : Int) (c : Nat) : Prop := 0 ≤ a ∧ a.toNat < M.1 ∧ pm_kd M a.toNat = c ∧ 0 ≤ i ∧ i.toNat < pm_ln M a.toNat
def pm_ld (t : Nat) (ls : List pm_V) (i : Nat) (k : Int → Prop) : Prop := match ls[i]? with
  | some v => v.1 = t ∧ k v.2
  | none => False
/-- a place for a value of one word -/
def pm_s1 (ls : List pm_V) (i : Nat) : Bool := decide (i < ls.length) && (decide (i = 0) || decide ((ls.getD (i - 1) (9, 0)).1 ≠ 1))
def pm_s2 (ls : List pm_V) (i : Nat) : Bool := decide (i + 1 < ls.length) && (decide (i = 0) || decide ((ls.getD (i - 1) (9, 0)).1 ≠ 1))
def pm_cat (v : pm_V) : Nat := if v.1 = 1 then 2 else 1
def pm_fl : List pm_V → List pm_V
  | [] => []
  | v :: r => if v.1 = 1 then v :: (9, 0) :: pm_fl r else v :: pm_fl r
def pm_en (vs : List pm_V) (n : Nat) : List pm_V := pm_fl vs ++ List.replicate (n - (pm_fl vs).length) (9, 0)
def pm_tb (a : Int) (k : Int → Prop) (dflt : Int) : Int → List Int → Prop
  | _, [] => k dflt
  | lo, o :: os => (a = lo → k o) ∧ (¬ a = lo → pm_tb a k dflt (lo + 1) os)
def pm_lk (a : Int) (k : Int → Prop) (dflt : Int) : List (Int × Int) → Prop
  | [] => k dflt
  | q :: os => (a = q.1 → k q.2) ∧ (¬ a = q.1 → pm_lk a k dflt os)
def pm_ref (ty : FieldType) : Bool := match ty with
  | .object _ => true
  | .array _ => true
  | _ => false
/-- the default of a field -/
def pm_df (ty : FieldType) : Int := if pm_ref ty then -1 else 0
def pm_look : List pm_I → Nat → Option pm_I
  | [], _ => none
  | i :: t, pc => if i.1 = pc then some i else pm_look t pc
section PM
variable (md : Nat → MethodName × ByteArray × Nat × Option FieldType × Nat × Nat) (ft : Nat → Nat → FieldType) (nf : Nat → Nat) (code : Nat → List pm_I)
/-- a call: of the callee's answer the caller goes on -/
def pm_call (X : pm_K) (d y pc : Nat) (ls : List pm_V) (M : pm_M) (cb sb : Nat) (Q : pm_Q) (y' : Nat) (as rest : List pm_V) : Prop :=
  (pm_fl as).length ≤ (md y').2.2.1 ∧ (rest.map pm_cat).sum ≤ 8 ∧ ∃ (d' mc ms : Nat) (Qc : pm_Q), d = d' + 1 ∧ mc ≤ cb ∧ ms ≤ sb ∧ X d' y' 0 (pm_en as (md y').2.2.1) [] M mc ms Qc ∧
    ∀ (r : Option pm_V) (M' : pm_M), Qc r M' → X d y (pc + 3) ls (r.toList ++ rest) M' (cb - mc) (sb - ms) Q
def pm_ex (X : pm_K) (d y pc : Nat) (ls st : List pm_V) (M : pm_M) (cb sb : Nat) (Q : pm_Q) (e1 e2 : Nat) (e3 : Int) (i : Instr) : Prop := match i with
  | .iconst n => X d y (pc + 1) ls ((0, n) :: st) M cb sb Q
  | .bipush n => X d y (pc + 2) ls ((0, n) :: st) M cb sb Q
  | .sipush n => X d y (pc + 3) ls ((0, n) :: st) M cb sb Q
  | .ldc _ => X d y (pc + 2) ls ((0, e3) :: st) M cb sb Q
  | .ldc_w _ => X d y (pc + 3) ls ((0, e3) :: st) M cb sb Q
  | .ldc2_w _ => X d y (pc + 3) ls ((1, e3) :: st) M cb sb Q
  | .lconst n => X d y (pc + 1) ls ((1, ((n : Nat) : Int)) :: st) M cb sb Q
  | .iload k => pm_ld 0 ls k (fun z => X d y (pc + 2) ls ((0, z) :: st) M cb sb Q)
  | .iload_n k => pm_ld 0 ls k (fun z => X d y (pc + 1) ls ((0, z) :: st) M cb sb Q)
  | .lload k => pm_ld 1 ls k (fun z => X d y (pc + 2) ls ((1, z) :: st) M cb sb Q)
  | .lload_n k => pm_ld 1 ls k (fun z => X d y (pc + 1) ls ((1, z) :: st) M cb sb Q)
  | .aload k => pm_ld 2 ls k (fun z => 0 ≤ z ∧ X d y (pc + 2) ls ((2, z) :: st) M cb sb Q)
  | .aload_n k => pm_ld 2 ls k (fun z => 0 ≤ z ∧ X d y (pc + 1) ls ((2, z) :: st) M cb sb Q)
  | .istore k => pm_i1 st (fun z r => pm_s1 ls k = true ∧ X d y (pc + 2) (ls.set k (0, z)) r M cb sb Q)
  | .istore_n k => pm_i1 st (fun z r => pm_s1 ls k = true ∧ X d y (pc + 1) (ls.set k (0, z)) r M cb sb Q)
  | .lstore k => pm_l1 st (fun z r => pm_s2 ls k = true ∧ X d y (pc + 2) ((ls.set k (1, z)).set (k + 1) (9, 0)) r M cb sb Q)
  | .lstore_n k => pm_l1 st (fun z r => pm_s2 ls k = true ∧ X d y (pc + 1) ((ls.set k (1, z)).set (k + 1) (9, 0)) r M cb sb Q)
  | .astore k => pm_r1 st (fun z r => 0 ≤ z ∧ pm_s1 ls k = true ∧ X d y (pc + 2) (ls.set k (2, z)) r M cb sb Q)
  | .astore_n k => pm_r1 st (fun z r => 0 ≤ z ∧ pm_s1 ls k = true ∧ X d y (pc + 1) (ls.set k (2, z)) r M cb sb Q)
  | .iinc k n => pm_ld 0 ls k (fun z => pm_s1 ls k = true ∧ X d y (pc + 3) (ls.set k (0, z + n)) st M cb sb Q)
  | .iadd => pm_i2 st (fun a b r => X d y (pc + 1) ls ((0, a + b) :: r) M cb sb Q)
  | .isub => pm_i2 st (fun a b r => X d y (pc + 1) ls ((0, a - b) :: r) M cb sb Q)
  | .imul => pm_i2 st (fun a b r => X d y (pc + 1) ls ((0, a * b) :: r) M cb sb Q)
  | .ineg => pm_i1 st (fun a r => X d y (pc + 1) ls ((0, -a) :: r) M cb sb Q)
  | .idiv => pm_i2 st (fun a b r => ¬ pm_wI b = 0 ∧ X d y (pc + 1) ls ((0, (pm_wI a).tdiv (pm_wI b)) :: r) M cb sb Q)
  | .irem => pm_i2 st (fun a b r => ¬ pm_wI b = 0 ∧ X d y (pc + 1) ls ((0, (pm_wI a).tmod (pm_wI b)) :: r) M cb sb Q)
  | .iand => pm_i2 st (fun a b r => X d y (pc + 1) ls ((0, pm_and a b) :: r) M cb sb Q)
  | .ior => pm_i2 st (fun a b r => X d y (pc + 1) ls ((0, pm_or a b) :: r) M cb sb Q)
  | .ixor => pm_i2 st (fun a b r => X d y (pc + 1) ls ((0, pm_xor a b) :: r) M cb sb Q)
  | .ishl => pm_i2 st (fun a b r => X d y (pc + 1) ls ((0, pm_shl a b) :: r) M cb sb Q)
  | .ishr => pm_i2 st (fun a b r => X d y (pc + 1) ls ((0, pm_shr a b) :: r) M cb sb Q)
  | .iushr => pm_i2 st (fun a b r => X d y (pc + 1) ls ((0, pm_ushr a b) :: r) M cb sb Q)
  | .ladd => pm_l2 st (fun a b r => X d y (pc + 1) ls ((1, a + b) :: r) M cb sb Q)
  | .lsub => pm_l2 st (fun a b r => X d y (pc + 1) ls ((1, a - b) :: r) M cb sb Q)
  | .lmul => pm_l2 st (fun a b r => X d y (pc + 1) ls ((1, a * b) :: r) M cb sb Q)
  | .lneg => pm_l1 st (fun a r => X d y (pc + 1) ls ((1, -a) :: r) M cb sb Q)
  | .ldiv => pm_l2 st (fun a b r => ¬ pm_wL b = 0 ∧ X d y (pc + 1) ls ((1, (pm_wL a).tdiv (pm_wL b)) :: r) M cb sb Q)
  | .lrem => pm_l2 st (fun a b r => ¬ pm_wL b = 0 ∧ X d y (pc + 1) ls ((1, (pm_wL a).tmod (pm_wL b)) :: r) M cb sb Q)
  | .land => pm_l2 st (fun a b r => X d y (pc + 1) ls ((1, pm_andL a b) :: r) M cb sb Q)
  | .lor => pm_l2 st (fun a b r => X d y (pc + 1) ls ((1, pm_orL a b) :: r) M cb sb Q)
  | .lxor => pm_l2 st (fun a b r => X d y (pc + 1) ls ((1, pm_xorL a b) :: r) M cb sb Q)
  | .lshl => pm_li st (fun a b r => X d y (pc + 1) ls ((1, pm_shlL a b) :: r) M cb sb Q)
  | .lshr => pm_li st (fun a b r => X d y (pc + 1) ls ((1, pm_shrL a b) :: r) M cb sb Q)
  | .lushr => pm_li st (fun a b r => X d y (pc + 1) ls ((1, pm_ushrL a b) :: r) M cb sb Q)
  | .lcmp => pm_l2 st (fun a b r => X d y (pc + 1) ls ((0, pm_cmp (pm_wL a) (pm_wL b)) :: r) M cb sb Q)
  | .i2l => pm_i1 st (fun a r => X d y (pc + 1) ls ((1, pm_wI a) :: r) M cb sb Q)
  | .l2i => pm_l1 st (fun a r => X d y (pc + 1) ls ((0, a) :: r) M cb sb Q)
  | .i2b => pm_i1 st (fun a r => X d y (pc + 1) ls ((0, pm_b8 a) :: r) M cb sb Q)
  | .ifCond c off => pm_i1 st (fun a r => (pm_cnd c (pm_wI a) 0 → X d y ((pc : Int) + off).toNat ls r M cb sb Q) ∧ (¬ pm_cnd c (pm_wI a) 0 → X d y (pc + 3) ls r M cb sb Q))
  | .if_icmp c off => pm_i2 st (fun a b r => (pm_cnd c (pm_wI a) (pm_wI b) → X d y ((pc : Int) + off).toNat ls r M cb sb Q) ∧ (¬ pm_cnd c (pm_wI a) (pm_wI b) → X d y (pc + 3) ls r M cb sb Q))
  | .goto off => X d y ((pc : Int) + off).toNat ls st M cb sb Q
  | .tableswitch dflt lo _ offs => pm_i1 st (fun a r => pm_tb (pm_wI a) (fun o => X d y ((pc : Int) + o).toNat ls r M cb sb Q) dflt lo offs.toList)
  | .lookupswitch dflt ps => pm_i1 st (fun a r => pm_lk (pm_wI a) (fun o => X d y ((pc : Int) + o).toNat ls r M cb sb Q) dflt ps.toList)
  | .dup => match st with
    | v :: r => pm_cat v = 1 ∧ X d y (pc + 1) ls (v :: v :: r) M cb sb Q
    | _ => False
  | .pop => match st with
    | v :: r => pm_cat v = 1 ∧ X d y (pc + 1) ls r M cb sb Q
    | _ => False
  | .dup2 => match st with
    | v :: w :: r => pm_cat v = 1 ∧ pm_cat w = 1 ∧ X d y (pc + 1) ls (v :: w :: v :: w :: r) M cb sb Q
    | _ => False
  | .getfield _ => pm_r1 st (fun a r => pm_ob M a e1 ∧ X d y (pc + 3) ls ((e3.toNat, pm_ct M a.toNat e2) :: r) M cb sb Q)
  | .putfield _ => pm_rv e3.toNat st (fun a z r => pm_ob M a e1 ∧ (ft e1 e2 = .boolean → z = 0 ∨ z = 1) ∧ X d y (pc + 3) ls r (pm_up M a.toNat (pm_upd (pm_ct M a.toNat) e2 z)) cb sb Q)
  | .iaload => pm_ri st (fun a i r => pm_ix M a i 100 ∧ X d y (pc + 1) ls ((0, pm_ct M a.toNat i.toNat) :: r) M cb sb Q)
  | .laload => pm_ri st (fun a i r => 0 < a ∧ pm_ix M a i 101 ∧ X d y (pc + 1) ls ((1, pm_ct M a.toNat i.toNat) :: r) M cb sb Q)
  | .baload => pm_ri st (fun a i r => 0 < a ∧ pm_ix M a i 102 ∧ X d y (pc + 1) ls ((0, pm_ct M a.toNat i.toNat) :: r) M cb sb Q)
  | .aaload => pm_ri st (fun a i r => 0 < a ∧ ∃ c, 103 ≤ c ∧ c ≤ 105 ∧ pm_ix M a i c ∧ X d y (pc + 1) ls ((2, pm_ct M a.toNat i.toNat) :: r) M cb sb Q)
  | .iastore => pm_rit 0 st (fun a i z r => 0 < a ∧ pm_ix M a i 100 ∧ X d y (pc + 1) ls r (pm_up M a.toNat (pm_upd (pm_ct M a.toNat) i.toNat z)) cb sb Q)
  | .lastore => pm_rit 1 st (fun a i z r => 0 < a ∧ pm_ix M a i 101 ∧ X d y (pc + 1) ls r (pm_up M a.toNat (pm_upd (pm_ct M a.toNat) i.toNat z)) cb sb Q)
  | .bastore => pm_rit 0 st (fun a i z r => 0 < a ∧ pm_ix M a i 102 ∧ X d y (pc + 1) ls r (pm_up M a.toNat (pm_upd (pm_ct M a.toNat) i.toNat (pm_b8 z))) cb sb Q)
  | .aastore => pm_rit 2 st (fun a i z r => 0 < a ∧ ∃ c, (pm_ix M a i 103 ∧ c = 9 ∨ pm_ix M a i 104 ∧ c = 1 ∨ pm_ix M a i 105 ∧ c = 4) ∧ pm_ob M z c ∧ X d y (pc + 1) ls r (pm_up M a.toNat (pm_upd (pm_ct M a.toNat) i.toNat z)) cb sb Q)
  | .arraylength => pm_r1 st (fun a r => 0 ≤ a ∧ a.toNat < M.1 ∧ 100 ≤ pm_kd M a.toNat ∧ pm_kd M a.toNat ≤ 105 ∧ X d y (pc + 1) ls ((0, (pm_ln M a.toNat : Int)) :: r) M cb sb Q)
  | .newarray _ => pm_i1 st (fun n r => 0 ≤ n ∧ n ≤ 100000 ∧ 1 ≤ cb ∧ n.toNat ≤ sb ∧ X d y (pc + 2) ls ((2, (M.1 : Int)) :: r) (pm_new M (e1, n.toNat, fun _ => 0)) (cb - 1) (sb - n.toNat) Q)
  | .anewarray _ => pm_i1 st (fun n r => 0 ≤ n ∧ n ≤ 100000 ∧ 1 ≤ cb ∧ n.toNat ≤ sb ∧ X d y (pc + 3) ls ((2, (M.1 : Int)) :: r) (pm_new M (e1, n.toNat, fun _ => -1)) (cb - 1) (sb - n.toNat) Q)
  | .new _ => 1 ≤ cb ∧ nf e1 ≤ sb ∧ X d y (pc + 3) ls ((2, (M.1 : Int)) :: st) (pm_new M (e1, 0, fun k => pm_df (ft e1 k))) (cb - 1) (sb - nf e1) Q
  | .invokestatic _ => if e1 = 1000 then pm_i2 st (fun a b r => 1 ≤ d ∧ (r.map pm_cat).sum ≤ 8 ∧ X d y (pc + 3) ls ((0, if pm_wI a < pm_wI b then b else a) :: r) M cb sb Q)
    else if e1 = 1001 then pm_i2 st (fun a b r => 1 ≤ d ∧ (r.map pm_cat).sum ≤ 8 ∧ X d y (pc + 3) ls ((0, if pm_wI b < pm_wI a then b else a) :: r) M cb sb Q)
    else if e1 = 1002 then pm_l2 st (fun a b r => 1 ≤ d ∧ (r.map pm_cat).sum ≤ 8 ∧ X d y (pc + 3) ls ((1, if pm_wL b < pm_wL a then b else a) :: r) M cb sb Q)
    else (md e1).2.2.2.2.1 ≤ st.length ∧ pm_call md X d y pc ls M cb sb Q e1 (st.take (md e1).2.2.2.2.1).reverse (st.drop (md e1).2.2.2.2.1)
  | .invokevirtual _ => (md e1).2.2.2.2.1 ≤ st.length ∧ pm_r1 (st.drop (md e1).2.2.2.2.1) (fun a r => pm_ob M a (md e1).2.2.2.2.2 ∧ pm_call md X d y pc ls M cb sb Q e1 ((2, a) :: (st.take (md e1).2.2.2.2.1).reverse) r)
  | .invokespecial _ => if e1 = 999 then pm_r1 st (fun a r => 0 ≤ a ∧ (r.map pm_cat).sum ≤ 8 ∧ 1 ≤ d ∧ X d y (pc + 3) ls r M cb sb Q)
    else (md e1).2.2.2.2.1 ≤ st.length ∧ pm_r1 (st.drop (md e1).2.2.2.2.1) (fun a r => 0 ≤ a ∧ pm_call md X d y pc ls M cb sb Q e1 ((2, a) :: (st.take (md e1).2.2.2.2.1).reverse) r)
  | .ireturn => match st with
    | [(0, z)] => (e1 = 1 → z = 0 ∨ z = 1) ∧ Q (some (0, z)) M
    | _ => False
  | .lreturn => match st with
    | [(1, z)] => Q (some (1, z)) M
    | _ => False
  | .areturn => match st with
    | [(2, z)] => 0 ≤ z ∧ Q (some (2, z)) M
    | _ => False
  | .return_ => match st with
    | [] => Q none M
    | _ => False
  | _ => False
def pm_step (X : pm_K) : pm_K := fun d y pc ls st M cb sb Q => ∃ I : pm_I, pm_look (code y) pc = some I ∧ pm_ex md ft nf X d y pc ls st M cb sb Q I.2.2.2.1 I.2.2.2.2.1 I.2.2.2.2.2.1 I.2.1
/-- it comes to an end with Q: the least that is closed under steps -/
def pm_W : pm_K := fun d y pc ls st M cb sb Q => ∀ X : pm_K, (∀ Y : pm_K, (∀ d y pc ls st M cb sb Q, Y d y pc ls st M cb sb Q → X d y pc ls st M cb sb Q) → ∀ d y pc ls st M cb sb Q, pm_step md ft nf code Y d y pc ls st M cb sb Q → X d y pc ls st M cb sb Q) → X d y pc ls st M cb sb Q
theorem pm_go {d y pc : Nat} {ls st : List pm_V} {M : pm_M} {cb sb : Nat} {Q : pm_Q} (h : pm_step md ft nf code (pm_W md ft nf code) d y pc ls st M cb sb Q) : pm_W md ft nf code d y pc ls st M cb sb Q :=
  fun X hX => hX (pm_W md ft nf code) (fun _ _ _ _ _ _ _ _ _ k => k X hX) _ _ _ _ _ _ _ _ _ h
end PM
