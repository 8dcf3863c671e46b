/-! ===== the best trees of all areas: what they are worth ===== -/
def sb (h : Nat) : Nat := if h = 0 then 0 else 1
def prc (T : Tab) (h c rs cs : Nat) : Nat := if h = 0 then c else if h = 1 then 0 else c * nA T rs cs
def alk (T : Tab) (rs cs : Nat) : Prop := pop (vIn T rs cs) < 2
def bw (T : Tab) (h : Nat) : Nat → Nat → Nat → Nat
  | 0 => fun _ _ => 0
  | n + 1 => fun rs cs => if pop (vIn T rs cs) < 2 then (if h = 1 then 1 else 0) else min (spl (sb h) (fun q => bw T h n q cs) rs + prc T h (tA T) rs cs) (spl (sb h) (fun q => bw T h n rs q) cs + prc T h (tB T) rs cs)
theorem bw_s (T : Tab) (h n rs cs : Nat) : bw T h (n + 1) rs cs = if pop (vIn T rs cs) < 2 then (if h = 1 then 1 else 0) else min (spl (sb h) (fun q => bw T h n q cs) rs + prc T h (tA T) rs cs) (spl (sb h) (fun q => bw T h n rs q) cs + prc T h (tB T) rs cs) := rfl
theorem spl_congr {b s : Nat} {g g' : Nat → Nat} (hs : s < 64) (h0 : s ≠ 0) (h : ∀ q, 1 ≤ q → q < s → g q = g' q) : spl b g s = spl b g' s := by
  refine mn_congr (fun _ _ => rfl) (fun q hq hc => ?_)
  obtain ⟨c1, c2, -⟩ := spC_s hs h0 hq hc
  unfold spF
  rw [h q c1 hq, h (s - q) c2 (by omega)]
theorem bw_eq (T : Tab) (h : Nat) : ∀ n m rs cs, rs < 64 → cs < 64 → 1 ≤ rs → 1 ≤ cs → rs + cs ≤ n → rs + cs ≤ m → bw T h n rs cs = bw T h m rs cs
  | 0, _, _, _, _, _, _, _, a, _ => by omega
  | _ + 1, 0, _, _, _, _, _, _, _, a => by omega
  | n + 1, m + 1, rs, cs, h1, h2, h3, h4, h5, h6 => by
    rw [bw_s, bw_s, spl_congr h1 (by omega) (fun q a b => bw_eq T h n m q cs (by omega) h2 a h4 (by omega) (by omega)), spl_congr h2 (by omega) (fun q a b => bw_eq T h n m rs q h1 (by omega) h3 a (by omega) (by omega))]
def BW (T : Tab) (h rs cs : Nat) : Nat := bw T h 128 rs cs
theorem BW_s (T : Tab) (h : Nat) {rs cs : Nat} (h1 : rs < 64) (h2 : cs < 64) (h3 : 1 ≤ rs) (h4 : 1 ≤ cs) : BW T h rs cs = if pop (vIn T rs cs) < 2 then (if h = 1 then 1 else 0) else min (spl (sb h) (fun q => BW T h q cs) rs + prc T h (tA T) rs cs) (spl (sb h) (fun q => BW T h rs q) cs + prc T h (tB T) rs cs) := by
  unfold BW
  rw [bw_s, spl_congr h1 (by omega) (fun q a b => bw_eq T h 127 128 q cs (by omega) h2 a h4 (by omega) (by omega)), spl_congr h2 (by omega) (fun q a b => bw_eq T h 127 128 rs q h1 (by omega) h3 a (by omega) (by omega))]
theorem spl_le {b : Nat} {g : Nat → Nat} {s q : Nat} (hq : q < s) (h : spC s q = true) : spl b g s ≤ spF b g s q := mn_le _ _ s q hq h
theorem spl_far (b : Nat) (g : Nat → Nat) (s : Nat) : spl b g s ≤ 1000000 := mn_far _ _ s
theorem prc_le {T : Tab} (hT : TabOK T) {c : Nat} (hc : c ≤ 9) (h rs cs : Nat) : prc T h c rs cs ≤ 324 := by
  unfold prc
  split
  · omega
  · split
    · omega
    · exact Nat.mul_le_mul hc (nA_36 hT rs cs)
theorem cmb_le (b x y : Nat) : cmb b x y ≤ x + y := by unfold cmb; split <;> omega
theorem BW_far {T : Tab} (hT : TabOK T) (h : Nat) {rs cs : Nat} (h1 : rs < 64) (h2 : cs < 64) (h3 : 1 ≤ rs) (h4 : 1 ≤ cs) : BW T h rs cs ≤ 1000400 := by
  rw [BW_s T h h1 h2 h3 h4]
  have a1 := spl_far (sb h) (fun q => BW T h q cs) rs
  have a2 := prc_le hT hT.2.2.2.1.2 h rs cs
  split
  · split <;> omega
  · refine Nat.le_trans (Nat.min_le_left _ _) (by omega)
theorem one_tab : ∀ s : Fin 64, (s : Nat) ≠ 0 → (s : Nat) = lw s ∨ lw s < (s : Nat) := by decide +kernel
theorem alk_one {T : Tab} (hT : TabOK T) {rs cs : Nat} (h1 : 1 ≤ rs) (h2 : rs < 2 ^ tR T) (h3 : 1 ≤ cs) (h4 : cs < 2 ^ tC T) (e1 : rs = lw rs) (e2 : cs = lw cs) : pop (vIn T rs cs) < 2 := by
  have f1 : ∀ {s n : Nat}, 1 ≤ s → s < 2 ^ n → s = lw s → fstb s < n := fun {s n} a b c => by
    refine Nat.lt_of_not_le (fun q => ?_)
    have : 2 ^ n ≤ 2 ^ fstb s := Nat.pow_le_pow_right (by omega) q
    have e : lw s = 2 ^ fstb s := rfl
    omega
  have g1 := f1 h1 h2 e1
  have g2 := f1 h3 h4 e2
  rw [e1, e2]
  show pop (vIn T (2 ^ fstb rs) (2 ^ fstb cs)) < 2
  rw [vIn_one hT g1 g2]
  have hx := hT.2.2.1 (6 * fstb rs + fstb cs)
  split
  · decide
  · have : ∀ x : Fin 10, pop (2 ^ (x : Nat)) < 2 := by decide +kernel
    exact this ⟨tX T (6 * fstb rs + fstb cs), by omega⟩
/-- never far: a bound by how many cells there are -/
theorem BW_le {T : Tab} (hT : TabOK T) (h : Nat) : ∀ n rs cs, rs + cs ≤ n → 1 ≤ rs → rs < 2 ^ tR T → 1 ≤ cs → cs < 2 ^ tC T → BW T h rs cs + 324 ≤ 325 * (pop rs * pop cs)
  | 0, _, _, a, b, _, _, _ => by omega
  | n + 1, rs, cs, hn, h1, h2, h3, h4 => by
    have r64 := lt_64_of hT.1.2 h2
    have c64 := lt_64_of hT.2.1.2 h4
    obtain ⟨p1, p2⟩ := spC_lw ⟨rs, r64⟩ (by show rs ≠ 0; omega)
    obtain ⟨p3, p4⟩ := spC_lw ⟨cs, c64⟩ (by show cs ≠ 0; omega)
    replace p1 : spC rs (lw rs) = true := p1
    replace p3 : spC cs (lw cs) = true := p3
    have a1 := prc_le hT hT.2.2.2.1.2 h rs cs
    have a2 := prc_le hT hT.2.2.2.2.2 h rs cs
    have popp : ∀ s : Fin 64, (s : Nat) ≠ 0 → 1 ≤ pop (s : Nat) := by decide +kernel
    have r1 := popp ⟨rs, r64⟩ (by show rs ≠ 0; omega)
    have c1 := popp ⟨cs, c64⟩ (by show cs ≠ 0; omega)
    replace r1 : 1 ≤ pop rs := r1
    replace c1 : 1 ≤ pop cs := c1
    have rc : 1 ≤ pop rs * pop cs := Nat.mul_le_mul r1 c1
    rw [BW_s T h r64 c64 h1 h3]
    by_cases hal : pop (vIn T rs cs) < 2
    · rw [if_pos hal]
      have : (if h = 1 then 1 else 0) ≤ 1 := by split <;> omega
      omega
    · rw [if_neg hal]
      rcases one_tab ⟨rs, r64⟩ (by show rs ≠ 0; omega) with e | e
      · rcases one_tab ⟨cs, c64⟩ (by show cs ≠ 0; omega) with e' | e'
        · exact absurd (alk_one hT h1 h2 h3 h4 e e') hal
        · replace e' : lw cs < cs := e'
          obtain ⟨d1, d2, -, -, d5, -⟩ := spC_s c64 (by omega) e' p3
          have b1 := BW_le hT h n rs (lw cs) (by omega) h1 h2 d1 (by omega)
          have b2 := BW_le hT h n rs (cs - lw cs) (by omega) h1 h2 d2 (by omega)
          have b3 := spl_le (b := sb h) (g := fun q => BW T h rs q) e' p3
          have b4 := cmb_le (sb h) (BW T h rs (lw cs)) (BW T h rs (cs - lw cs))
          have b5 : spF (sb h) (fun q => BW T h rs q) cs (lw cs) = cmb (sb h) (BW T h rs (lw cs)) (BW T h rs (cs - lw cs)) := rfl
          have b6 : pop rs * pop cs = pop rs * pop (lw cs) + pop rs * pop (cs - lw cs) := by rw [← Nat.mul_add, d5]
          have b7 := Nat.min_le_right (spl (sb h) (fun q => BW T h q cs) rs + prc T h (tA T) rs cs) (spl (sb h) (fun q => BW T h rs q) cs + prc T h (tB T) rs cs)
          omega
      · replace e : lw rs < rs := e
        obtain ⟨d1, d2, -, -, d5, -⟩ := spC_s r64 (by omega) e p1
        have b1 := BW_le hT h n (lw rs) cs (by omega) d1 (by omega) h3 h4
        have b2 := BW_le hT h n (rs - lw rs) cs (by omega) d2 (by omega) h3 h4
        have b3 := spl_le (b := sb h) (g := fun q => BW T h q cs) e p1
        have b4 := cmb_le (sb h) (BW T h (lw rs) cs) (BW T h (rs - lw rs) cs)
        have b5 : spF (sb h) (fun q => BW T h q cs) rs (lw rs) = cmb (sb h) (BW T h (lw rs) cs) (BW T h (rs - lw rs) cs) := rfl
        have b6 : pop rs * pop cs = pop (lw rs) * pop cs + pop (rs - lw rs) * pop cs := by rw [← Nat.add_mul, d5]
        have b7 := Nat.min_le_left (spl (sb h) (fun q => BW T h q cs) rs + prc T h (tA T) rs cs) (spl (sb h) (fun q => BW T h rs q) cs + prc T h (tB T) rs cs)
        omega
theorem BW_small {T : Tab} (hT : TabOK T) (h : Nat) {rs cs : Nat} (h1 : 1 ≤ rs) (h2 : rs < 2 ^ tR T) (h3 : 1 ≤ cs) (h4 : cs < 2 ^ tC T) : BW T h rs cs ≤ 11700 := by
  have a := BW_le hT h _ rs cs (Nat.le_refl _) h1 h2 h3 h4
  have r := pop_lt64 (lt_64_of hT.1.2 h2)
  have c := pop_lt64 (lt_64_of hT.2.1.2 h4)
  have : pop rs * pop cs ≤ 6 * 6 := Nat.mul_le_mul r c
  omega
/-! ===== where a set of columns lies ===== -/
theorem numB_tab : ∀ r : Fin 64, ∀ c : Fin 64, ∀ k : Fin 7, (c : Nat) < 2 ^ (k : Nat) → pm_or (pm_shl ((c : Nat) : Int) 0) (((r : Nat) * 2 ^ (k : Nat) : Nat) : Int) = (((r : Nat) * 2 ^ (k : Nat) + (c : Nat) : Nat) : Int) := by decide +kernel
theorem shl_tab2 : ∀ r : Fin 64, ∀ k : Fin 7, pm_shl ((r : Nat) : Int) ((k : Nat) : Int) = (((r : Nat) * 2 ^ (k : Nat) : Nat) : Int) := by decide +kernel
theorem numB_eq {T : Tab} (hT : TabOK T) {rs q : Nat} (hr : rs < 64) (hq : q < 2 ^ tC T) : pm_or (pm_shl (q : Int) ((0 : Nat) : Int)) ((rs * 2 ^ tC T : Nat) : Int) = (num T rs q : Int) := by
  have h := hT.2.1
  exact numB_tab ⟨rs, hr⟩ ⟨q, lt_64_of h.2 hq⟩ ⟨tC T, by omega⟩ hq
theorem shlC {T : Tab} (hT : TabOK T) {rs : Nat} (hr : rs < 64) : pm_shl (rs : Int) (tC T : Int) = ((rs * 2 ^ tC T : Nat) : Int) := by
  have h := hT.2.1
  exact shl_tab2 ⟨rs, hr⟩ ⟨tC T, by omega⟩
def WoOK (M : pm_M) (T : Tab) (h w : Nat) : Prop := ∀ rs cs, 1 ≤ rs → rs < 2 ^ tR T → 1 ≤ cs → cs < 2 ^ tC T → pm_ct M w (num T rs cs) = (BW T h rs cs : Int)
/-- what Best holds at B: f is 1 where it is solved -/
def CB (M : pm_M) (T : Tab) (h B w f : Nat) : Prop := own w ∧ pm_ct M B 4 = ((w : Nat) : Int) ∧ pm_ct M B 5 = (f : Int) ∧ pm_ct M B 2 = (h : Int) ∧ f ≤ 1 ∧ ∃ n, n ≤ 4096 ∧ pm_ay M w 100 n ∧ (f = 1 → siz T ≤ n ∧ WoOK M T h w)
theorem CA.fr {S : List Nat} {M N : pm_M} {T : Tab} {s f : Nat} (h : CA M T s f) (k : Gr S M N) (h1 : pm_ct N 44 1 = pm_ct M 44 1) (h2 : pm_ct N 44 2 = pm_ct M 44 2) (h3 : s ∉ S) : CA N T s f := by
  obtain ⟨a1, a2, a3, a4, n, a5, a6, a7⟩ := h
  refine ⟨a1, h1.trans a2, h2.trans a3, a4, n, a5, k.ay a6, fun e => ⟨(a7 e).1, SeOK.fr (S := S) (a7 e).2 (k.ct a6.2.1 h3)⟩⟩
theorem CB.fr {S : List Nat} {M N : pm_M} {T : Tab} {h B w f : Nat} (q : CB M T h B w f) (k : Gr S M N) (h1 : B < M.1) (h2 : B ∉ S) (h3 : w ∉ S) : CB N T h B w f := by
  obtain ⟨a1, a2, a3, a4, a5, n, a6, a7, a8⟩ := q
  have e := k.ct h1 h2
  refine ⟨a1, by rw [e]; exact a2, by rw [e]; exact a3, by rw [e]; exact a4, a5, n, a6, k.ay a7, fun c => ⟨(a8 c).1, ?_⟩⟩
  have := (a8 c).2
  unfold WoOK at this ⊢
  rw [k.ct a7.2.1 h3]; exact this
