/-! ===== bits counted ===== -/
def pop (n : Nat) : Nat := (List.range 12).foldl (fun a k => a + (if n.testBit k then 1 else 0)) 0
def bs1 (x : Int) : Int := x - pm_and (pm_ushr x 1) 1431655765
def bs2 (x : Int) : Int := pm_and x 858993459 + pm_and (pm_ushr x 2) 858993459
def bs3 (x : Int) : Int := pm_and (x + pm_ushr x 4) 252645135
def bs4 (x : Int) : Int := x + pm_ushr x 8
def bs5 (x : Int) : Int := x + pm_ushr x 16
def bcI (x : Int) : Int := pm_and (bs5 (bs4 (bs3 (bs2 (bs1 x))))) 63
theorem bc_tab : ∀ x : Fin 1024, bcI ((x : Nat) : Int) = (pop (x : Nat) : Int) := by decide +kernel
theorem c_Integer_bitCount {d mc ms : Nat} {M : pm_M} {x : Nat} (hx : x < 1024) :
    pm_E d 265 [(0, (x : Int))] M mc ms (fun ρ M' => ρ = some (0, (pop x : Int)) ∧ M' = M) := by
  show Wp d 265 0 [(0, (x : Int))] [] M mc ms _
  refine g_iload_n lk_265_0 rfl ?_
  refine g_iload_n lk_265_1 rfl ?_
  refine g_iconst lk_265_2 ?_
  refine g_iushr lk_265_3 ?_
  refine g_ldc_w lk_265_4 ?_
  refine g_iand lk_265_7 ?_
  refine g_isub lk_265_8 ?_
  refine g_istore_n (ls' := [(0, ((x : Int) - (pm_and (pm_ushr (x : Int) 1) 1431655765)))]) lk_265_9 rfl rfl ?_
  refine g_iload_n lk_265_10 rfl ?_
  refine g_ldc_w lk_265_11 ?_
  refine g_iand lk_265_14 ?_
  refine g_iload_n lk_265_15 rfl ?_
  refine g_iconst lk_265_16 ?_
  refine g_iushr lk_265_17 ?_
  refine g_ldc_w lk_265_18 ?_
  refine g_iand lk_265_21 ?_
  refine g_iadd lk_265_22 ?_
  refine g_istore_n (ls' := [(0, ((pm_and ((x : Int) - (pm_and (pm_ushr (x : Int) 1) 1431655765)) 858993459) + (pm_and (pm_ushr ((x : Int) - (pm_and (pm_ushr (x : Int) 1) 1431655765)) 2) 858993459)))]) lk_265_23 rfl rfl ?_
  refine g_iload_n lk_265_24 rfl ?_
  refine g_iload_n lk_265_25 rfl ?_
  refine g_iconst lk_265_26 ?_
  refine g_iushr lk_265_27 ?_
  refine g_iadd lk_265_28 ?_
  refine g_ldc_w lk_265_29 ?_
  refine g_iand lk_265_32 ?_
  refine g_istore_n (ls' := [(0, (pm_and (((pm_and ((x : Int) - (pm_and (pm_ushr (x : Int) 1) 1431655765)) 858993459) + (pm_and (pm_ushr ((x : Int) - (pm_and (pm_ushr (x : Int) 1) 1431655765)) 2) 858993459)) + (pm_ushr ((pm_and ((x : Int) - (pm_and (pm_ushr (x : Int) 1) 1431655765)) 858993459) + (pm_and (pm_ushr ((x : Int) - (pm_and (pm_ushr (x : Int) 1) 1431655765)) 2) 858993459)) 4)) 252645135))]) lk_265_33 rfl rfl ?_
  refine g_iload_n lk_265_34 rfl ?_
  refine g_iload_n lk_265_35 rfl ?_
  refine g_bipush lk_265_36 ?_
  refine g_iushr lk_265_38 ?_
  refine g_iadd lk_265_39 ?_
  refine g_istore_n (ls' := [(0, ((pm_and (((pm_and ((x : Int) - (pm_and (pm_ushr (x : Int) 1) 1431655765)) 858993459) + (pm_and (pm_ushr ((x : Int) - (pm_and (pm_ushr (x : Int) 1) 1431655765)) 2) 858993459)) + (pm_ushr ((pm_and ((x : Int) - (pm_and (pm_ushr (x : Int) 1) 1431655765)) 858993459) + (pm_and (pm_ushr ((x : Int) - (pm_and (pm_ushr (x : Int) 1) 1431655765)) 2) 858993459)) 4)) 252645135) + (pm_ushr (pm_and (((pm_and ((x : Int) - (pm_and (pm_ushr (x : Int) 1) 1431655765)) 858993459) + (pm_and (pm_ushr ((x : Int) - (pm_and (pm_ushr (x : Int) 1) 1431655765)) 2) 858993459)) + (pm_ushr ((pm_and ((x : Int) - (pm_and (pm_ushr (x : Int) 1) 1431655765)) 858993459) + (pm_and (pm_ushr ((x : Int) - (pm_and (pm_ushr (x : Int) 1) 1431655765)) 2) 858993459)) 4)) 252645135) 8)))]) lk_265_40 rfl rfl ?_
  refine g_iload_n lk_265_41 rfl ?_
  refine g_iload_n lk_265_42 rfl ?_
  refine g_bipush lk_265_43 ?_
  refine g_iushr lk_265_45 ?_
  refine g_iadd lk_265_46 ?_
  refine g_istore_n (ls' := [(0, (((pm_and (((pm_and ((x : Int) - (pm_and (pm_ushr (x : Int) 1) 1431655765)) 858993459) + (pm_and (pm_ushr ((x : Int) - (pm_and (pm_ushr (x : Int) 1) 1431655765)) 2) 858993459)) + (pm_ushr ((pm_and ((x : Int) - (pm_and (pm_ushr (x : Int) 1) 1431655765)) 858993459) + (pm_and (pm_ushr ((x : Int) - (pm_and (pm_ushr (x : Int) 1) 1431655765)) 2) 858993459)) 4)) 252645135) + (pm_ushr (pm_and (((pm_and ((x : Int) - (pm_and (pm_ushr (x : Int) 1) 1431655765)) 858993459) + (pm_and (pm_ushr ((x : Int) - (pm_and (pm_ushr (x : Int) 1) 1431655765)) 2) 858993459)) + (pm_ushr ((pm_and ((x : Int) - (pm_and (pm_ushr (x : Int) 1) 1431655765)) 858993459) + (pm_and (pm_ushr ((x : Int) - (pm_and (pm_ushr (x : Int) 1) 1431655765)) 2) 858993459)) 4)) 252645135) 8)) + (pm_ushr ((pm_and (((pm_and ((x : Int) - (pm_and (pm_ushr (x : Int) 1) 1431655765)) 858993459) + (pm_and (pm_ushr ((x : Int) - (pm_and (pm_ushr (x : Int) 1) 1431655765)) 2) 858993459)) + (pm_ushr ((pm_and ((x : Int) - (pm_and (pm_ushr (x : Int) 1) 1431655765)) 858993459) + (pm_and (pm_ushr ((x : Int) - (pm_and (pm_ushr (x : Int) 1) 1431655765)) 2) 858993459)) 4)) 252645135) + (pm_ushr (pm_and (((pm_and ((x : Int) - (pm_and (pm_ushr (x : Int) 1) 1431655765)) 858993459) + (pm_and (pm_ushr ((x : Int) - (pm_and (pm_ushr (x : Int) 1) 1431655765)) 2) 858993459)) + (pm_ushr ((pm_and ((x : Int) - (pm_and (pm_ushr (x : Int) 1) 1431655765)) 858993459) + (pm_and (pm_ushr ((x : Int) - (pm_and (pm_ushr (x : Int) 1) 1431655765)) 2) 858993459)) 4)) 252645135) 8)) 16)))]) lk_265_47 rfl rfl ?_
  refine g_iload_n lk_265_48 rfl ?_
  refine g_bipush lk_265_49 ?_
  refine g_iand lk_265_51 ?_
  refine g_ireturn lk_265_52 (fun h => absurd h (by decide)) ?_
  exact ⟨congrArg (fun z => some (0, z)) (bc_tab ⟨x, hx⟩), rfl⟩
