/-! ===== the pure machine's ties to the claim's tables ===== -/
abbrev pm_Md : Type := Nat → MethodName × ByteArray × Nat × Option FieldType × Nat × Nat
def pm_CC (c : Nat) : vw_C := vwCl.getD c ("", fun _ => ("", "", "", false), 0)
def pm_nf (c : Nat) : Nat := (pm_CC c).2.2
def pm_ft (c : Nat) : Nat → FieldType := [tyX0, tyX1, tyX2, tyX3, tyX4, tyX5, tyX6, tyX7, tyX8, tyX9, tyX10, tyX11, tyX12].getD c (fun _ => .int)
def pm_el (k : Nat) : String := if k = 103 then "TalkTables$Told" else if k = 104 then "TalkTables$Best" else "TalkTables$Nodes"
def pm_tg (ty : FieldType) : Nat := match ty with
  | .long => 1
  | .object _ => 2
  | .array _ => 2
  | _ => 0
/-- the types that fields have here -/
def pm_tyo (ty : FieldType) : Bool := match ty with
  | .int => true
  | .boolean => true
  | .long => true
  | .object _ => true
  | .array _ => true
  | _ => false
theorem pm_CC_at {c : Nat} (h : c < 13) : vwCl[c]? = some (pm_CC c) := by
  unfold pm_CC
  rw [List.getD_eq_getElem?_getD]
  have h2 : c < vwCl.length := h
  rw [List.getElem?_eq_getElem h2]; rfl
theorem pm_cls {c : Nat} (h : c < 13) : (∀ w ∈ u_ws (pm_CC c).1 (pm_CC c).2.1 (pm_CC c).2.2, w ∈ lw_tbl) ∧ (∀ k, k < (pm_CC c).2.2 → parseFieldDescriptor ((pm_CC c).2.1 k).2.2.1 = some (pm_ft c k)) ∧ (∀ a, a < (pm_CC c).2.2 → ∀ b, b < (pm_CC c).2.2 → a ≠ b → ((pm_CC c).2.1 a).2.1 ≠ ((pm_CC c).2.1 b).2.1) := by
  match c, h with
  | 0, _ => exact ⟨inX0, tyX0_ok, nmX0⟩
  | 1, _ => exact ⟨inX1, tyX1_ok, nmX1⟩
  | 2, _ => exact ⟨inX2, tyX2_ok, nmX2⟩
  | 3, _ => exact ⟨inX3, tyX3_ok, nmX3⟩
  | 4, _ => exact ⟨inX4, tyX4_ok, nmX4⟩
  | 5, _ => exact ⟨inX5, tyX5_ok, nmX5⟩
  | 6, _ => exact ⟨inX6, tyX6_ok, nmX6⟩
  | 7, _ => exact ⟨inX7, tyX7_ok, nmX7⟩
  | 8, _ => exact ⟨inX8, tyX8_ok, nmX8⟩
  | 9, _ => exact ⟨inX9, tyX9_ok, nmX9⟩
  | 10, _ => exact ⟨inX10, tyX10_ok, nmX10⟩
  | 11, _ => exact ⟨inX11, tyX11_ok, nmX11⟩
  | 12, _ => exact ⟨inX12, tyX12_ok, nmX12⟩
def pm_lx (i : Instr) : Nat := match i with
  | .bipush _ => 2
  | .ldc _ => 2
  | .iload _ => 2
  | .lload _ => 2
  | .aload _ => 2
  | .istore _ => 2
  | .lstore _ => 2
  | .astore _ => 2
  | .newarray _ => 2
  | .sipush _ => 3
  | .ldc_w _ => 3
  | .ldc2_w _ => 3
  | .iinc _ _ => 3
  | .ifCond _ _ => 3
  | .if_icmp _ _ => 3
  | .goto _ => 3
  | .getfield _ => 3
  | .putfield _ => 3
  | .anewarray _ => 3
  | .new _ => 3
  | .invokestatic _ => 3
  | .invokevirtual _ => 3
  | .invokespecial _ => 3
  | .tableswitch _ _ _ _ => 0
  | .lookupswitch _ _ => 0
  | _ => 1
def pm_wd (e4 : Nat) (w : Jvm.Cond) : Bool := decide (lw_tbl[e4]? = some w)
theorem pm_wd.mem {e4 : Nat} {w : Jvm.Cond} (h : pm_wd e4 w = true) : w ∈ lw_tbl := List.mem_of_getElem? (of_decide_eq_true h)
/-- a call's link: plain, or to a nest mate -/
def pm_cl (own : String) (k e2 e4 : Nat) (y : MethodName) : Bool := if e2 = 1 then pm_wd e4 (.methodLinkNest own k y "TalkTables") else pm_wd e4 (.methodLink own k y)
section OK
variable (md : pm_Md)
def pm_okl (own nm : String) (ret : Option FieldType) (pc e1 e2 : Nat) (e3 : Int) (e4 : Nat) (i : Instr) : Bool := match i with
  | .bipush n => decide (-128 ≤ n ∧ n ≤ 127)
  | .sipush n => decide (-32768 ≤ n ∧ n ≤ 32767)
  | .ldc k => pm_wd e4 (.constant own k (Int32.ofInt e3))
  | .ldc_w k => pm_wd e4 (.constant own k (Int32.ofInt e3))
  | .ldc2_w k => pm_wd e4 (.constantLong own k (Int64.ofInt e3))
  | .ifCond _ o => decide (0 ≤ (pc : Int) + o)
  | .if_icmp _ o => decide (0 ≤ (pc : Int) + o)
  | .goto o => decide (0 ≤ (pc : Int) + o)
  | .tableswitch dflt lo hi offs => decide (0 ≤ (pc : Int) + dflt) && (offs.toList.all (fun o => decide (0 ≤ (pc : Int) + o)) && decide (hi = lo + offs.toList.length - 1))
  | .lookupswitch dflt ps => decide (0 ≤ (pc : Int) + dflt) && (ps.toList.all (fun o => decide (0 ≤ (pc : Int) + o.2)) && (ps.toList.zip (ps.toList.drop 1)).all (fun (a, next) => a.1 < next.1))
  | .getfield k => decide (e1 < 13 ∧ e2 < pm_nf e1 ∧ e3.toNat = pm_tg (pm_ft e1 e2)) && pm_wd e4 (.fieldLink own k ((pm_CC e1).2.1 e2).1 ((pm_CC e1).2.1 e2).2.1 ((pm_CC e1).2.1 e2).2.2.1)
  | .putfield k => decide (e1 < 13 ∧ e2 < pm_nf e1 ∧ e3.toNat = pm_tg (pm_ft e1 e2) ∧ pm_tyo (pm_ft e1 e2) = true) && (pm_wd e4 (.fieldLink own k ((pm_CC e1).2.1 e2).1 ((pm_CC e1).2.1 e2).2.1 ((pm_CC e1).2.1 e2).2.2.1) && (!((pm_CC e1).2.1 e2).2.2.2 || decide (nm = "<init>" ∧ ((pm_CC e1).2.1 e2).1 = own)))
  | .newarray t => decide (t = .int ∧ e1 = 100 ∨ t = .long ∧ e1 = 101 ∨ t = .byte ∧ e1 = 102)
  | .anewarray k => decide (103 ≤ e1 ∧ e1 ≤ 105) && pm_wd e4 (.classLink own k (pm_el e1))
  | .new k => decide (e1 < 13) && pm_wd e4 (.classLink own k (pm_CC e1).1)
  | .invokestatic k => if e1 = 1000 then pm_wd e4 (.methodLink own k Lib.Math.max.name) else if e1 = 1001 then pm_wd e4 (.methodLink own k Lib.Math.min.name) else if e1 = 1002 then pm_wd e4 (.methodLink own k Lib.MathLoose.min_long.x) else decide (e1 < 267 ∧ (md e1).2.2.2.2.2 = 99) && pm_cl own k e2 e4 (md e1).1
  | .invokevirtual k => decide (e1 < 267 ∧ (md e1).2.2.2.2.2 ≠ 99 ∧ (md e1).1.name ≠ "<init>") && pm_cl own k e2 e4 (md e1).1
  | .invokespecial k => if e1 = 999 then pm_wd e4 (.methodLink own k Lib.objectInit) else decide (e1 < 267 ∧ (md e1).2.2.2.2.2 ≠ 99 ∧ (md e1).1.name = "<init>" ∧ (md e1).2.2.2.1 = none) && pm_cl own k e2 e4 (md e1).1
  | .ireturn => decide (ret = some .int ∧ e1 = 0 ∨ ret = some .boolean ∧ e1 = 1)
  | .lreturn => decide (ret = some .long)
  | .areturn => match ret with
    | some (.object _) => true
    | _ => false
  | .return_ => decide (ret = none)
  | _ => true
def pm_okI (y : Nat) (I : pm_I) : Bool := decide (decode (md y).2.1 I.1 = .ok (I.2.1, if pm_lx I.2.1 = 0 then I.2.2.1 else pm_lx I.2.1)) && pm_okl md (md y).1.cls (md y).1.name (md y).2.2.2.1 I.1 I.2.2.2.1 I.2.2.2.2.1 I.2.2.2.2.2.1 I.2.2.2.2.2.2 I.2.1
/-- a method's own words, by their places: code, initialized, static or instance, selects -/
def pm_okm (y : Nat) (pl : Nat × Nat × Nat × Nat) : Bool :=
  pm_wd pl.1 (.code (md y).1 (md y).2.1 (md y).2.2.1 (md y).2.2.2.1) && (pm_wd pl.2.1 (.initialized (md y).1.cls) && (decide ((md y).1.cls ≠ "java/lang/invoke/MethodHandle" ∧ (md y).1.cls ≠ "java/lang/invoke/VarHandle" ∧ (parseMethodDescriptor (md y).1.desc).map (fun d => d.parameters.length) = some (md y).2.2.2.2.1 ∧ plainName (md y).1.cls = true ∧ (md y).2.2.1 ≤ 40) &&
    (if (md y).2.2.2.2.2 = 99 then pm_wd pl.2.2.1 (.static (md y).1) else pm_wd pl.2.2.1 (.instanceMethod (md y).1) && (decide ((md y).1.name = "<init>") || (pm_wd pl.2.2.2 (.selects (md y).1.cls (md y).1 (md y).1) && decide ((md y).2.2.2.2.2 < 13 ∧ (pm_CC (md y).2.2.2.2.2).1 = (md y).1.cls))))))
end OK
