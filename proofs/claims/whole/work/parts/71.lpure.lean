/-! ===== the model's tables of all areas: one area ===== -/
theorem part_tab : ∀ r : Fin 64, ∀ p : Fin 64, (decide (pm_and ((p : Nat) : Int) (pm_xor ((r : Nat) : Int) (-1)) = 0) = Sb (p : Nat) (r : Nat)) ∧ ((r : Nat) ≠ 0 → decide (pm_and ((p : Nat) : Int) ((lw r : Nat) : Int) = 0) = !((p : Nat).testBit (fstb r))) ∧ (Sb (p : Nat) (r : Nat) = true → pm_and ((r : Nat) : Int) (pm_xor ((p : Nat) : Int) (-1)) = (((r : Nat) - (p : Nat) : Nat) : Int)) := by decide +kernel
def TX (T : Tab) (rs cs i : Nat) : Nat := TW T (i / 6) (i % 6) rs cs
def ArK (M : pm_M) (T : Tab) (rs cs : Nat) : Prop := TbK M (64 * rs + cs) (fun b => ER T b rs cs) (fun h => BW T h rs cs) (TX T rs cs)
theorem ArK_bd {T : Tab} (hT : TabOK T) {rs cs : Nat} (h : inT T rs cs) : Bd (fun b => ER T b rs cs) (fun h => BW T h rs cs) (TX T rs cs) := by
  obtain ⟨h1, h2⟩ := h.r hT
  exact ⟨fun b => by have := ER_36 hT b h; show ER T b rs cs ≤ _; omega, fun k => BW_far hT k h1 h2 h.1 h.2.2.1, fun i => by have := TW_far T (i / 6) (i % 6) h1 h2 h.1 h.2.2.1; show TW T _ _ rs cs ≤ _; omega⟩
theorem TbK.congr {M : pm_M} {K : Nat} {E B X E' B' X' : Nat → Nat} (h : TbK M K E B X) (h1 : ∀ b, b < 21 → E b = E' b) (h2 : ∀ k, k < 3 → B k = B' k) (h3 : ∀ i, i < 12 → X i = X' i) : TbK M K E' B' X' :=
  ⟨fun b hb => by rw [← h1 b hb]; exact h.1 b hb, fun k hk => by rw [← h2 k hk]; exact h.2.1 k hk, fun i hi => by rw [← h3 i hi]; exact h.2.2 i hi⟩
theorem mn1 {C : Nat → Bool} (f : Nat → Nat) (h : C 0 = false) : mn C f 1 = 1000000 := by
  show (if C 0 then _ else _) = _
  rw [h]; rfl
theorem sp0_tab : ∀ s : Fin 64, (s : Nat) ≠ 0 → spC (s : Nat) 0 = false := by decide +kernel
theorem sp0 {s : Nat} (h : s < 64) (h0 : s ≠ 0) : spC s 0 = false := sp0_tab ⟨s, h⟩ h0
/-- parts of rows, of columns: what each comes to -/
def fA (T : Tab) (rs cs b q : Nat) : Nat := ER T (b - tA T) q cs + ER T (b - tA T) (rs - q) cs
def fB (T : Tab) (rs cs b q : Nat) : Nat := ER T (b - tB T) rs q + ER T (b - tB T) rs (cs - q)
def cA (T : Tab) (rs cs h q : Nat) : Nat := prc T h (tA T) rs cs + spF (sb h) (fun q => BW T h q cs) rs q
def cB (T : Tab) (rs cs h q : Nat) : Nat := prc T h (tB T) rs cs + spF (sb h) (fun q => BW T h rs q) cs q
def vA (T : Tab) (rs cs t q : Nat) : Nat := min 1000000 (tA T + spF 0 (fun q => TW T 0 t q cs) rs q)
def vB (T : Tab) (rs cs t q : Nat) : Nat := min 1000000 (tB T + spF 0 (fun q => TW T 1 t rs q) cs q)
def EA (T : Tab) (rs cs p b : Nat) : Nat := min (e0 T rs cs) (if tA T ≤ b then mn (spC rs) (fA T rs cs b) p else 1000000)
def BA (T : Tab) (rs cs p h : Nat) : Nat := mn (spC rs) (cA T rs cs h) p
def XA (T : Tab) (rs cs p i : Nat) : Nat := if i < 6 then mn (spC rs) (vA T rs cs i) p else if i = 6 then 1000000 else mn (spC rs) (vA T rs cs (i - 7)) p
def EB (T : Tab) (rs cs p b : Nat) : Nat := min (EA T rs cs rs b) (if tB T ≤ b then mn (spC cs) (fB T rs cs b) p else 1000000)
def BB (T : Tab) (rs cs p h : Nat) : Nat := min (BA T rs cs rs h) (mn (spC cs) (cB T rs cs h) p)
def XB (T : Tab) (rs cs p i : Nat) : Nat := if i = 0 then XA T rs cs rs 0 else if i < 6 then min (XA T rs cs rs i) (mn (spC cs) (vB T rs cs (i - 1)) p) else min (XA T rs cs rs i) (mn (spC cs) (vB T rs cs (i - 6)) p)
theorem mn_add (C : Nat → Bool) (f : Nat → Nat) (p : Nat) : ∀ n, mn C (fun q => p + f q) n = min 1000000 (p + mn C f n)
  | 0 => by show 1000000 = min 1000000 (p + 1000000); omega
  | n + 1 => by
    rw [mn_s, mn_s, mn_add C f p n]
    split <;> omega
theorem mn_cap (C : Nat → Bool) (f : Nat → Nat) (p : Nat) : ∀ n, mn C (fun q => min 1000000 (p + f q)) n = min 1000000 (p + mn C f n)
  | 0 => by show 1000000 = min 1000000 (p + 1000000); omega
  | n + 1 => by
    rw [mn_s, mn_s, mn_cap C f p n]
    split <;> omega
theorem EA_s {T : Tab} {rs cs p : Nat} : (spC rs p = true → ∀ b, EA T rs cs (p + 1) b = pE (tA T) (EA T rs cs p) (fun b => ER T b p cs) (fun b => ER T b (rs - p) cs) b) ∧ (¬ spC rs p = true → ∀ b, EA T rs cs (p + 1) b = EA T rs cs p b) := by
  constructor
  · intro h b
    unfold EA pE
    dsimp only
    rw [mn_s, if_pos h]
    by_cases e : tA T ≤ b
    · rw [if_pos e, if_pos e, if_pos e]
      show min _ (min _ (ER T (b - tA T) p cs + ER T (b - tA T) (rs - p) cs)) = _
      omega
    · rw [if_neg e, if_neg e, if_neg e]
  · intro h b
    unfold EA
    rw [mn_s, if_neg h]
theorem EB_s {T : Tab} {rs cs p : Nat} : (spC cs p = true → ∀ b, EB T rs cs (p + 1) b = pE (tB T) (EB T rs cs p) (fun b => ER T b rs p) (fun b => ER T b rs (cs - p)) b) ∧ (¬ spC cs p = true → ∀ b, EB T rs cs (p + 1) b = EB T rs cs p b) := by
  constructor
  · intro h b
    unfold EB pE
    dsimp only
    rw [mn_s, if_pos h]
    by_cases e : tB T ≤ b
    · rw [if_pos e, if_pos e, if_pos e]
      show min _ (min _ (ER T (b - tB T) rs p + ER T (b - tB T) rs (cs - p))) = _
      omega
    · rw [if_neg e, if_neg e, if_neg e]
  · intro h b
    unfold EB
    rw [mn_s, if_neg h]
theorem BA_s {T : Tab} {rs cs p : Nat} : (spC rs p = true → ∀ h, h < 3 → BA T rs cs (p + 1) h = pB (tA T) (nA T rs cs) (BA T rs cs p) (fun h => BW T h p cs) (fun h => BW T h (rs - p) cs) h) ∧ (¬ spC rs p = true → ∀ h, BA T rs cs (p + 1) h = BA T rs cs p h) := by
  constructor
  · intro h k hk
    unfold BA pB
    dsimp only
    rw [mn_s, if_pos h]
    rcases (by omega : k = 0 ∨ k = 1 ∨ k = 2) with e | e | e
    · subst e; rfl
    · subst e
      show min _ (0 + (BW T 1 p cs + BW T 1 (rs - p) cs)) = min _ (BW T 1 p cs + BW T 1 (rs - p) cs)
      rw [Nat.zero_add]
    · subst e
      show min _ (tA T * nA T rs cs + (BW T 2 p cs + BW T 2 (rs - p) cs)) = min _ (tA T * nA T rs cs + BW T 2 p cs + BW T 2 (rs - p) cs)
      rw [Nat.add_assoc]
  · intro h k
    unfold BA
    rw [mn_s, if_neg h]
theorem BB_s {T : Tab} {rs cs p : Nat} : (spC cs p = true → ∀ h, h < 3 → BB T rs cs (p + 1) h = pB (tB T) (nA T rs cs) (BB T rs cs p) (fun h => BW T h rs p) (fun h => BW T h rs (cs - p)) h) ∧ (¬ spC cs p = true → ∀ h, BB T rs cs (p + 1) h = BB T rs cs p h) := by
  constructor
  · intro h k hk
    unfold BB pB
    dsimp only
    rw [mn_s, if_pos h]
    rcases (by omega : k = 0 ∨ k = 1 ∨ k = 2) with e | e | e
    · subst e
      show min _ (min _ (tB T + max (BW T 0 rs p) (BW T 0 rs (cs - p)))) = min (min _ _) (tB T + max (BW T 0 rs p) (BW T 0 rs (cs - p)))
      omega
    · subst e
      show min _ (min _ (0 + (BW T 1 rs p + BW T 1 rs (cs - p)))) = min (min _ _) (BW T 1 rs p + BW T 1 rs (cs - p))
      omega
    · subst e
      show min _ (min _ (tB T * nA T rs cs + (BW T 2 rs p + BW T 2 rs (cs - p)))) = min (min _ _) (tB T * nA T rs cs + BW T 2 rs p + BW T 2 rs (cs - p))
      omega
  · intro h k
    unfold BB
    rw [mn_s, if_neg h]
theorem TX_lo (T : Tab) (rs cs : Nat) {t : Nat} (h : t < 6) : TX T rs cs t = TW T 0 t rs cs := by
  unfold TX; rw [Nat.div_eq_of_lt h, Nat.mod_eq_of_lt h]
theorem TX_hi (T : Tab) (rs cs : Nat) {t : Nat} (h : t < 6) : TX T rs cs (6 + t) = TW T 1 t rs cs := by
  unfold TX; rw [show (6 + t) / 6 = 1 by omega, show (6 + t) % 6 = t by omega]
theorem pV_A {T : Tab} {rs cs p t : Nat} (h : t < 6) : pV (tA T) 0 (TX T p cs) (TX T (rs - p) cs) t = vA T rs cs t p := by
  unfold pV vA
  rw [show 6 * 0 + t = t by omega, TX_lo T p cs h, TX_lo T (rs - p) cs h]; rfl
theorem pV_B {T : Tab} {rs cs p t : Nat} (h : t < 6) : pV (tB T) 1 (TX T rs p) (TX T rs (cs - p)) t = vB T rs cs t p := by
  unfold pV vB
  rw [show 6 * 1 + t = 6 + t by omega, TX_hi T rs p h, TX_hi T rs (cs - p) h]; rfl
theorem XA_s {T : Tab} {rs cs p : Nat} : (spC rs p = true → ∀ i, i < 12 → XA T rs cs (p + 1) i = pT (tA T) 0 (XA T rs cs p) (TX T p cs) (TX T (rs - p) cs) 6 i) ∧ (¬ spC rs p = true → ∀ i, XA T rs cs (p + 1) i = XA T rs cs p i) := by
  constructor
  · intro h i hi
    unfold XA pT
    dsimp only
    rw [mn_s, mn_s, if_pos h, if_pos h]
    by_cases e : i < 6
    · rw [if_pos e, if_pos e, if_pos (by omega), show i - 6 * 0 = i by omega, pV_A e]
    · by_cases e6 : i = 6
      · rw [if_neg e, if_neg e, if_pos e6, if_pos e6, if_neg (show ¬ (6 * 0 ≤ i ∧ i < 6 * 0 + 6) by omega), if_neg (by omega)]
      · rw [if_neg e, if_neg e, if_neg e6, if_neg e6, if_neg (show ¬ (6 * 0 ≤ i ∧ i < 6 * 0 + 6) by omega), if_pos (by omega), show i - 6 * (1 - 0) - 1 = i - 7 by omega, pV_A (by omega)]
  · intro h i
    unfold XA
    rw [mn_s, mn_s, if_neg h, if_neg h]
theorem XB_s {T : Tab} {rs cs p : Nat} : (spC cs p = true → ∀ i, i < 12 → XB T rs cs (p + 1) i = pT (tB T) 1 (XB T rs cs p) (TX T rs p) (TX T rs (cs - p)) 6 i) ∧ (¬ spC cs p = true → ∀ i, XB T rs cs (p + 1) i = XB T rs cs p i) := by
  constructor
  · intro h i hi
    unfold XB pT
    dsimp only
    rw [mn_s, mn_s, if_pos h, if_pos h]
    by_cases e0 : i = 0
    · rw [if_pos e0, if_neg (by omega), if_neg (by omega), if_pos e0]
    · rw [if_neg e0, if_neg e0]
      by_cases e : i < 6
      · rw [if_pos e, if_pos e, if_neg (by omega), if_pos (by omega), show i - 6 * (1 - 1) - 1 = i - 1 by omega, pV_B (by omega)]
        omega
      · rw [if_neg e, if_neg e, if_pos (by omega), show i - 6 * 1 = i - 6 by omega, pV_B (by omega)]
        omega
  · intro h i
    unfold XB
    rw [mn_s, mn_s, if_neg h, if_neg h]
theorem EB_end {T : Tab} {rs cs : Nat} (h1 : rs < 64) (h2 : cs < 64) (h3 : 1 ≤ rs) (h4 : 1 ≤ cs) (b : Nat) : EB T rs cs cs b = ER T b rs cs := by
  rw [ER_s T b h1 h2 h3 h4]
  unfold EB EA SA SB
  show min (min _ (if tA T ≤ b then spl 1 (fun q => ER T (b - tA T) q cs) rs else _)) (if tB T ≤ b then spl 1 (fun q => ER T (b - tB T) rs q) cs else _) = _
  omega
theorem BB_end {T : Tab} (hT : TabOK T) {rs cs : Nat} (hi : inT T rs cs) (hal : ¬ pop (vIn T rs cs) < 2) (h : Nat) : BB T rs cs cs h = BW T h rs cs := by
  obtain ⟨h1, h2⟩ := hi.r hT
  have bs := BW_small hT h hi.1 hi.2.1 hi.2.2.1 hi.2.2.2
  have e := BW_s T h h1 h2 hi.1 hi.2.2.1
  rw [if_neg hal] at e
  have a1 : BA T rs cs rs h = min 1000000 (prc T h (tA T) rs cs + spl (sb h) (fun q => BW T h q cs) rs) := mn_add _ _ _ rs
  have a2 : mn (spC cs) (cB T rs cs h) cs = min 1000000 (prc T h (tB T) rs cs + spl (sb h) (fun q => BW T h rs q) cs) := mn_add _ _ _ cs
  unfold BB
  rw [a1, a2]
  omega
theorem XB_end {T : Tab} (hT : TabOK T) {rs cs : Nat} (hi : inT T rs cs) (hal : ¬ pop (vIn T rs cs) < 2) {i : Nat} (hi12 : i < 12) : XB T rs cs cs i = TX T rs cs i := by
  obtain ⟨h1, h2⟩ := hi.r hT
  have a1 : ∀ t, mn (spC rs) (vA T rs cs t) rs = OV T 0 t rs cs := fun t => mn_cap _ _ _ rs
  have a2 : ∀ t, mn (spC cs) (vB T rs cs t) cs = OV T 1 t rs cs := fun t => mn_cap _ _ _ cs
  have o1 := fun t => OV_far T 1 t rs cs
  unfold XB XA
  by_cases e0 : i = 0
  · subst e0
    rw [if_pos rfl, if_pos (by omega), a1, TX_lo T rs cs (by omega), TW_0 T 0 h1 h2 hi.1 hi.2.2.1, if_neg hal]
  · rw [if_neg e0]
    by_cases e : i < 6
    · rw [if_pos e, if_pos e, a1, a2, TX_lo T rs cs e, TW_s T 0 i h1 h2 hi.1 hi.2.2.1, if_neg hal, if_neg e0]
    · rw [if_neg e, if_neg e, a2]
      have tx := TX_hi T rs cs (t := i - 6) (by omega)
      rw [show 6 + (i - 6) = i by omega] at tx
      rw [tx]
      by_cases e6 : i = 6
      · subst e6
        rw [if_pos rfl, TW_0 T 1 h1 h2 hi.1 hi.2.2.1, if_neg hal]
        have := o1 (6 - 6)
        show min 1000000 (OV T 1 (6 - 6) rs cs) = OV T 1 0 rs cs
        rw [Nat.min_eq_right this]
      · rw [if_neg e6, a1, TW_s T 1 (i - 6) h1 h2 hi.1 hi.2.2.1, if_neg hal, if_neg (by omega), show i - 6 - 1 = i - 7 by omega]
        exact Nat.min_comm _ _
theorem c_Mo_isAlike {d mc ms : Nat} {M : pm_M} (lay : Lay M) {T : Tab} (hT : TabOK T) (hM : MoAt M T) {rs cs : Nat} (h1 : rs < 64) (h2 : cs < 64) :
    pm_E (d + 2) 234 [(2, ((116 : Nat) : Int)), (0, (rs : Int)), (0, (cs : Int))] M mc ms (fun ρ M' => ρ = some (0, if pop (vIn T rs cs) < 2 then 1 else 0) ∧ M' = M) := by
  have vl := vIn_lt T rs cs
  have pl : pop (vIn T rs cs) ≤ 12 := by
    rw [pop_sm]
    exact Nat.le_trans (sm_le (g := fun _ => 1) (fun j _ => bt_1 _ j)) (by decide)
  obtain ⟨v, hv⟩ : ∃ v, v = vIn T rs cs := ⟨_, rfl⟩
  have vi := c_Mo_valuesIn (d := d) (mc := 0) (ms := 0) lay hT hM h1 h2
  rw [← hv] at vl pl vi ⊢
  show Wp (d + 2) 234 0 [(2, ((116 : Nat) : Int)), (0, (rs : Int)), (0, (cs : Int))] [] M mc ms _
  refine g_aload_n lk_234_0 rfl ?_
  refine g_iload_n lk_234_1 rfl ?_
  refine g_iload_n lk_234_2 rfl ?_
  refine g_virtual (p := 116) (Qc := _) lk_234_3 rfl (Nat.le_of_ble_eq_true rfl) rfl rfl (lay.on (by decide) rfl) (Nat.le_of_ble_eq_true rfl) (Nat.le_of_ble_eq_true rfl) (Nat.zero_le _) (Nat.zero_le _) (vi) ?_
  rintro _ N1 ⟨rfl, hN1⟩
  rw [hN1]
  show Wp _ 234 6 [(2, ((116 : Nat) : Int)), (0, (rs : Int)), (0, (cs : Int))] [(0, (v : Int))] M _ _ _
  refine g_static (Qc := _) lk_234_6 (by decide) rfl (Nat.le_of_ble_eq_true rfl) rfl rfl (Nat.le_of_ble_eq_true rfl) (Nat.le_of_ble_eq_true rfl) (Nat.zero_le _) (Nat.zero_le _) (c_Mo_bits (by omega)) ?_
  rintro _ N2 ⟨rfl, hN2⟩
  rw [hN2]
  show Wp _ 234 9 [(2, ((116 : Nat) : Int)), (0, (rs : Int)), (0, (cs : Int))] [(0, (pop v : Int))] M _ _ _
  refine g_iconst lk_234_9 ?_
  refine g_icmp (t := 17) lk_234_10 rfl (by first | (unfold pm_inI; omega) | exact pm_and_in _ _ | exact pm_shr_in _ _ | exact pm_or_in _ _ | exact pm_xor_in _ _ | exact pm_shl_in _ _ | exact pm_cmp_in _ _ | exact pm_b8_in _ | (unfold pm_inI; split <;> omega)) (by first | (unfold pm_inI; omega) | exact pm_and_in _ _ | exact pm_shr_in _ _ | exact pm_or_in _ _ | exact pm_xor_in _ _ | exact pm_shl_in _ _ | exact pm_cmp_in _ _ | exact pm_b8_in _ | (unfold pm_inI; split <;> omega)) (fun h3 => ?_) (fun h3 => ?_)
  · replace h3 : 2 ≤ (pop v : Int) := h3
    refine g_iconst lk_234_17 ?_
    refine g_ireturn lk_234_18 (fun _ => by omega) ?_
    refine ⟨?_, rfl⟩
    rw [if_neg (by omega)]
  · replace h3 : ¬ (2 ≤ (pop v : Int)) := h3
    refine g_iconst lk_234_13 ?_
    refine g_goto (t := 18) lk_234_14 rfl ?_
    refine g_ireturn lk_234_18 (fun _ => by omega) ?_
    refine ⟨?_, rfl⟩
    rw [if_pos (by omega)]
