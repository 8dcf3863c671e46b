/-! ===== tables as mathematics: rows, columns, cells (at 6 r + c; 10: free), costs ===== -/
abbrev Tab : Type := Nat × Nat × (Nat → Nat) × Nat × Nat
abbrev tR (T : Tab) : Nat := T.1
abbrev tC (T : Tab) : Nat := T.2.1
abbrev tX (T : Tab) (i : Nat) : Nat := T.2.2.1 i
abbrev tA (T : Tab) : Nat := T.2.2.2.1
abbrev tB (T : Tab) : Nat := T.2.2.2.2
def TabOK (T : Tab) : Prop := (1 ≤ tR T ∧ tR T ≤ 6) ∧ (1 ≤ tC T ∧ tC T ≤ 6) ∧ (∀ i, tX T i ≤ 10) ∧ (1 ≤ tA T ∧ tA T ≤ 9) ∧ (1 ≤ tB T ∧ tB T ≤ 9)
/-- the class's table, the model's -/
def TbAt (M : pm_M) (t : Nat) (T : Tab) : Prop := pm_ct M t 1 = (tR T : Int) ∧ pm_ct M t 2 = (tC T : Int) ∧ pm_ct M t 3 = (tA T : Int) ∧ pm_ct M t 4 = (tB T : Int) ∧ ∀ i, i < 36 → pm_ct M (t + 1) i = (tX T i : Int)
def MoAt (M : pm_M) (T : Tab) : Prop := pm_ct M 116 1 = (tR T : Int) ∧ pm_ct M 116 2 = (tC T : Int) ∧ pm_ct M 120 1 = (tA T : Int) ∧ pm_ct M 120 2 = (tB T : Int) ∧ ∀ i, i < 36 → pm_ct M 117 i = (tX T i : Int)
/-- the values in an area: a bit each, free cells as the tenth -/
def vRow (T : Tab) (rs cs r : Nat) (a : Nat) (n : Nat) : Nat := (List.range n).foldl (fun a c => if rs.testBit r && cs.testBit c then a ||| 2 ^ tX T (6 * r + c) else a) a
def vAll (T : Tab) (rs cs : Nat) (n : Nat) : Nat := (List.range n).foldl (fun a r => vRow T rs cs r a (tC T)) 0
def vIn (T : Tab) (rs cs : Nat) : Nat := vAll T rs cs (tR T) &&& 1023
theorem vRow_0 (T : Tab) (rs cs r a : Nat) : vRow T rs cs r a 0 = a := rfl
theorem vRow_s (T : Tab) (rs cs r a n : Nat) : vRow T rs cs r a (n + 1) = if rs.testBit r && cs.testBit n then vRow T rs cs r a n ||| 2 ^ tX T (6 * r + n) else vRow T rs cs r a n := fo_succ _ _ _
theorem vAll_s (T : Tab) (rs cs n : Nat) : vAll T rs cs (n + 1) = vRow T rs cs n (vAll T rs cs n) (tC T) := fo_succ _ _ _
theorem vRow_lt {T : Tab} (hT : TabOK T) {rs cs r a : Nat} (ha : a < 2048) (n : Nat) : vRow T rs cs r a n < 2048 := by
  induction n with
  | zero => exact ha
  | succ n ih =>
    rw [vRow_s]
    split
    · refine Nat.or_lt_two_pow (n := 11) ih ?_
      exact Nat.pow_lt_pow_right (by omega) (by have := hT.2.2.1 (6 * r + n); omega)
    · exact ih
theorem vAll_lt {T : Tab} (hT : TabOK T) {rs cs : Nat} (n : Nat) : vAll T rs cs n < 2048 := by
  induction n with
  | zero => exact (by decide : 0 < 2048)
  | succ n ih => rw [vAll_s]; exact vRow_lt hT ih _
