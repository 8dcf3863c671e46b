/-! ===== cells of a value as a mask; the model's columnsFor ===== -/
theorem sm_six (f : Nat → Nat) : ∀ n, sm f (6 * n) = sm (fun r => sm (fun c => f (6 * r + c)) 6) n
  | 0 => rfl
  | n + 1 => by
    have ih := sm_six f n
    show sm f (6 * n + 6) = sm (fun r => sm (fun c => f (6 * r + c)) 6) n + sm (fun c => f (6 * n + c)) 6
    rw [← ih]
    simp only [sm]
    simp only [Nat.add_zero]
    omega
theorem wL_bit {T : Tab} (hT : TabOK T) (rs cs v : Nat) {r c : Nat} (hc : c < 6) : ∀ n, (wL T rs cs v n).testBit (6 * r + c) = (decide (r < n) && (rs.testBit r && (oRow T r v (tC T) &&& cs).testBit c))
  | 0 => by show (0 : Nat).testBit _ = _; simp
  | n + 1 => by
    have ih := wL_bit hT rs cs v (r := r) hc n
    rw [wL_s]
    have hx : oRow T n v (tC T) &&& cs < 2 ^ 6 := Nat.lt_of_le_of_lt Nat.and_le_left (oRow_64 hT n v (Nat.le_refl _))
    by_cases hn : r = n
    · subst hn
      by_cases hb : rs.testBit r = true
      · rw [if_pos hb, Nat.testBit_or, ih, Nat.testBit_mul_two_pow, show 6 * r + c - 6 * r = c by omega]
        simp [hb]
      · rw [if_neg hb, ih]
        simp [hb]
    · have e : (decide (r < n + 1)) = decide (r < n) := by
        by_cases h : r < n
        · simp [h, show r < n + 1 by omega]
        · simp [h, show ¬ r < n + 1 by omega]
      rw [e]
      by_cases hb : rs.testBit n = true
      · rw [if_pos hb, Nat.testBit_or, ih, Nat.testBit_mul_two_pow]
        have z : (decide (6 * n ≤ 6 * r + c) && (oRow T n v (tC T) &&& cs).testBit (6 * r + c - 6 * n)) = false := by
          by_cases h : 6 * n ≤ 6 * r + c
          · rw [Nat.testBit_lt_two_pow (Nat.lt_of_lt_of_le hx (Nat.pow_le_pow_right (by omega) (by omega)))]
            simp
          · simp [h]
        rw [z, Bool.or_false]
      · rw [if_neg hb, ih]
theorem popL_wL {T : Tab} (hT : TabOK T) (rs cs v : Nat) : popL (wL T rs cs v (tR T)) = nV T rs cs v := by
  unfold popL nV
  rw [show (36 : Nat) = 6 * 6 from rfl, sm_six]
  rw [sm_cut (n := tR T) hT.1.2 (fun i h1 h2 => ?_)]
  · refine sm_congr (fun r hr => ?_)
    rw [sm_cut (n := tC T) hT.2.1.2 (fun c h1 h2 => ?_)]
    · refine sm_congr (fun c hc => ?_)
      have hc6 : c < 6 := by have := hT.2.1; omega
      unfold bt dv
      rw [wL_bit hT rs cs v hc6, Nat.testBit_and, oRow_bit]
      by_cases h1 : rs.testBit r = true <;> by_cases h2 : cs.testBit c = true <;> by_cases h3 : tX T (6 * r + c) = v <;> simp [hr, hc, h1, h2, h3]
    · unfold bt
      rw [wL_bit hT rs cs v h2, Nat.testBit_and, oRow_bit]
      simp [show ¬ c < tC T by omega]
  · rw [← sm_zero 6]
    refine sm_congr (fun c hc => ?_)
    unfold bt
    rw [wL_bit hT rs cs v hc]
    simp [show ¬ i < tR T by omega]
theorem wL_36 {T : Tab} (hT : TabOK T) (rs cs v : Nat) : wL T rs cs v (tR T) < 68719476736 :=
  Nat.lt_of_lt_of_le (wL_lt hT rs cs v (tR T)) (Nat.pow_le_pow_right (n := 2) (by omega) (by have := hT.1; omega : 6 * tR T ≤ 36))
/-- bits of the values in an area -/
theorem vRow_bit (T : Tab) (rs cs r a w : Nat) : ∀ n, (vRow T rs cs r a n).testBit w = true ↔ (a.testBit w = true ∨ ∃ c, c < n ∧ rs.testBit r = true ∧ cs.testBit c = true ∧ tX T (6 * r + c) = w)
  | 0 => by
    rw [vRow_0]
    constructor
    · exact Or.inl
    · rintro (h | ⟨c, hc, -⟩)
      · exact h
      · omega
  | n + 1 => by
    have ih := vRow_bit T rs cs r a w n
    rw [vRow_s]
    by_cases hb : (rs.testBit r && cs.testBit n) = true
    · rw [if_pos hb, Nat.testBit_or, Bool.or_eq_true, ih, Nat.testBit_two_pow, decide_eq_true_iff]
      rw [Bool.and_eq_true] at hb
      constructor
      · rintro ((h | ⟨c, h1, h2⟩) | h)
        · exact Or.inl h
        · exact Or.inr ⟨c, by omega, h2⟩
        · exact Or.inr ⟨n, by omega, hb.1, hb.2, h⟩
      · rintro (h | ⟨c, h1, h2, h3, h4⟩)
        · exact Or.inl (Or.inl h)
        · by_cases h : c = n
          · subst h; exact Or.inr h4
          · exact Or.inl (Or.inr ⟨c, by omega, h2, h3, h4⟩)
    · rw [if_neg hb, ih]
      constructor
      · rintro (h | ⟨c, h1, h2⟩)
        · exact Or.inl h
        · exact Or.inr ⟨c, by omega, h2⟩
      · rintro (h | ⟨c, h1, h2, h3, h4⟩)
        · exact Or.inl h
        · by_cases h : c = n
          · subst h; exact absurd (by rw [h2, h3]; rfl) hb
          · exact Or.inr ⟨c, by omega, h2, h3, h4⟩
theorem vAll_bit (T : Tab) (rs cs w : Nat) : ∀ n, (vAll T rs cs n).testBit w = true ↔ ∃ r c, r < n ∧ c < tC T ∧ rs.testBit r = true ∧ cs.testBit c = true ∧ tX T (6 * r + c) = w
  | 0 => by
    constructor
    · intro h; rw [show vAll T rs cs 0 = 0 from rfl, Nat.zero_testBit] at h; cases h
    · rintro ⟨r, c, hr, -⟩; omega
  | n + 1 => by
    have ih := vAll_bit T rs cs w n
    rw [vAll_s, vRow_bit, ih]
    constructor
    · rintro (⟨r, c, h1, h2⟩ | ⟨c, h1, h2⟩)
      · exact ⟨r, c, by omega, h2⟩
      · exact ⟨n, c, by omega, h1, h2⟩
    · rintro ⟨r, c, h1, h2, h3⟩
      by_cases h : r = n
      · subst h; exact Or.inr ⟨c, h2, h3⟩
      · exact Or.inl ⟨r, c, by omega, h2, h3⟩
theorem vIn_bit (T : Tab) (rs cs w : Nat) : (vIn T rs cs).testBit w = true ↔ (w < 10 ∧ ∃ r c, r < tR T ∧ c < tC T ∧ rs.testBit r = true ∧ cs.testBit c = true ∧ tX T (6 * r + c) = w) := by
  unfold vIn
  rw [Nat.testBit_and, Bool.and_eq_true, vAll_bit, show (1023 : Nat) = 2 ^ 10 - 1 from rfl, ones_bit, decide_eq_true_iff]
  exact And.comm
theorem sDif_0 {a b : Nat} : sDif a b = 0 ↔ ∀ k, a.testBit k = true → b.testBit k = true := by
  unfold sDif
  have hle : a &&& b ≤ a := Nat.and_le_left
  constructor
  · intro h k hk
    have e : a &&& b = a := by omega
    have := congrArg (fun z => z.testBit k) e
    simp only [Nat.testBit_and, hk, Bool.true_and] at this
    exact this
  · intro h
    have e : a &&& b = a := by
      apply Nat.eq_of_testBit_eq
      intro k
      rw [Nat.testBit_and]
      by_cases hk : a.testBit k = true
      · rw [hk, h k hk]; rfl
      · simp [hk]
    omega
theorem oC_bit {T : Tab} (hT : TabOK T) (rs v : Nat) {c : Nat} : (oC T rs v).testBit c = true ↔ (c < tC T ∧ ∀ r, r < tR T → rs.testBit r = true → tX T (6 * r + c) = v ∨ tX T (6 * r + c) = 10) := by
  have hC := hT.2.1
  by_cases hc : c < 6
  · unfold oC
    rw [sDif_bit (tC_64 hT) (sh_64 hT rs v _) hc, ones_bit, Bool.and_eq_true, decide_eq_true_iff, Bool.not_eq_true']
    refine and_congr_right (fun hct => ?_)
    have hs := sh_bit T rs v c (tR T)
    constructor
    · intro h r hr hb
      refine Classical.byContradiction (fun q => ?_)
      have : (sh T rs v (tR T)).testBit c = true := hs.mpr ⟨r, hr, hb, by rw [uRow_bit hT r v hc]; simp [hct]; omega⟩
      rw [h] at this; cases this
    · intro h
      cases hq : (sh T rs v (tR T)).testBit c with
      | false => rfl
      | true =>
        obtain ⟨r, h1, h2, h3⟩ := hs.mp hq
        rw [uRow_bit hT r v hc] at h3
        simp [hct] at h3
        have := h r h1 h2
        omega
  · constructor
    · intro h
      rw [Nat.testBit_lt_two_pow (Nat.lt_of_lt_of_le (oC_64 hT rs v) (Nat.pow_le_pow_right (n := 2) (by omega) (by omega : 6 ≤ c)))] at h
      cases h
    · intro h; omega
theorem pm_nandV_tab : ∀ a : Fin 1024, ∀ v : Fin 10, pm_and ((a : Nat) : Int) (pm_xor ((2 ^ (v : Nat) : Nat) : Int) (-1)) = ((sDif (a : Nat) (2 ^ (v : Nat)) : Nat) : Int) := by decide +kernel
theorem pm_nandV {a v : Nat} (ha : a < 1024) (hv : v < 10) : pm_and (a : Int) (pm_xor ((2 ^ v : Nat) : Int) (-1)) = ((sDif a (2 ^ v) : Nat) : Int) := pm_nandV_tab ⟨a, ha⟩ ⟨v, hv⟩
/-- the model's fold -/
def cF (T : Tab) (rs v : Nat) (n : Nat) : Nat := (List.range n).foldl (fun a c => if sDif (vIn T rs (2 ^ c)) (2 ^ v) = 0 then a ||| 2 ^ c else a) 0
theorem cF_s (T : Tab) (rs v n : Nat) : cF T rs v (n + 1) = if sDif (vIn T rs (2 ^ n)) (2 ^ v) = 0 then cF T rs v n ||| 2 ^ n else cF T rs v n := fo_succ _ _ _
theorem cF_lt (T : Tab) (rs v : Nat) : ∀ n, cF T rs v n < 2 ^ n
  | 0 => (by decide : 0 < 1)
  | n + 1 => by
    have h := cF_lt T rs v n
    have h2 : 2 ^ n < 2 ^ (n + 1) := Nat.pow_lt_pow_right (by omega) (by omega)
    rw [cF_s]
    split
    · exact Nat.or_lt_two_pow (Nat.lt_trans h h2) h2
    · exact Nat.lt_trans h h2
theorem cF_bit (T : Tab) (rs v : Nat) : ∀ n c, (cF T rs v n).testBit c = (decide (c < n) && decide (sDif (vIn T rs (2 ^ c)) (2 ^ v) = 0))
  | 0, c => by show (0 : Nat).testBit c = _; simp
  | n + 1, c => by
    rw [cF_s]
    by_cases h : sDif (vIn T rs (2 ^ n)) (2 ^ v) = 0
    · rw [if_pos h, Nat.testBit_or, cF_bit T rs v n c, Nat.testBit_two_pow]
      by_cases hc : n = c
      · subst hc; simp [h]
      · by_cases h2 : c < n
        · simp [h2, show c < n + 1 by omega, hc]
        · simp [h2, show ¬ c < n + 1 by omega, hc]
    · rw [if_neg h, cF_bit T rs v n c]
      by_cases hc : n = c
      · subst hc; simp [h]
      · by_cases h2 : c < n
        · simp [h2, show c < n + 1 by omega]
        · simp [h2, show ¬ c < n + 1 by omega]
theorem cF_eq {T : Tab} (hT : TabOK T) (rs : Nat) {v : Nat} (hv : v < 10) : cF T rs v (tC T) = oC T rs v := by
  apply Nat.eq_of_testBit_eq
  intro c
  rw [Bool.eq_iff_iff, oC_bit hT, cF_bit, Bool.and_eq_true, decide_eq_true_iff, decide_eq_true_iff, sDif_0]
  refine and_congr_right (fun hc => ?_)
  constructor
  · intro h r hr hb
    have hx := hT.2.2.1 (6 * r + c)
    by_cases h10 : tX T (6 * r + c) = 10
    · exact Or.inr h10
    · have := h (tX T (6 * r + c)) ((vIn_bit T rs (2 ^ c) _).mpr ⟨by omega, r, c, hr, hc, hb, by rw [Nat.testBit_two_pow]; simp, rfl⟩)
      rw [Nat.testBit_two_pow, decide_eq_true_iff] at this
      exact Or.inl this.symm
  · intro h w hw
    obtain ⟨h10, r, c', h1, h2, h3, h4, h5⟩ := (vIn_bit T rs (2 ^ c) w).mp hw
    rw [Nat.testBit_two_pow, decide_eq_true_iff] at h4
    subst h4
    rw [Nat.testBit_two_pow, decide_eq_true_iff]
    have := h r h1 h3
    omega
set_option maxHeartbeats 4000000 in
theorem c_Mo_columnsFor {d mc ms : Nat} {M : pm_M} (lay : Lay M) {T : Tab} (hT : TabOK T) (hM : MoAt M T) {rs v : Nat} (hrs : rs < 64) (hv : v < 10) :
    pm_E (d + 2) 208 [(2, ((116 : Nat) : Int)), (0, (rs : Int)), (0, (v : Int))] M mc ms (fun ρ M' => ρ = some (0, ((oC T rs v : Nat) : Int)) ∧ M' = M) := by
  obtain ⟨Q, hQ⟩ : ∃ Q : pm_Q, Q = (fun ρ M' => ρ = some (0, ((oC T rs v : Nat) : Int)) ∧ M' = M) := ⟨_, rfl⟩
  rw [← hQ]
  have hC := hT.2.1
  have loop : ∀ (n c : Nat), c + n = tC T → Wp (d + 2) 208 5 [(2, ((116 : Nat) : Int)), (0, (rs : Int)), (0, (v : Int)), (0, ((cF T rs v c : Nat) : Int)), (0, (c : Int))] [] M mc ms Q := by
    intro n
    induction n with
    | zero =>
      intro c hc
      have ec : c = tC T := by omega
      refine g_iload lk_208_5 rfl ?_
      refine g_aload_n lk_208_7 rfl ?_
      refine m_getfield (u := []) (M := M) lk_208_8 rfl (lay.on (by decide) rfl) (v := (tC T : Int)) hM.2.1 ?_
      refine g_icmp (t := 49) lk_208_11 rfl (by first | (unfold pm_inI; omega) | exact pm_and_in _ _ | exact pm_shr_in _ _ | exact pm_or_in _ _ | exact pm_xor_in _ _ | exact pm_shl_in _ _ | exact pm_cmp_in _ _ | exact pm_b8_in _ | (unfold pm_inI; split <;> omega)) (by first | (unfold pm_inI; omega) | exact pm_and_in _ _ | exact pm_shr_in _ _ | exact pm_or_in _ _ | exact pm_xor_in _ _ | exact pm_shl_in _ _ | exact pm_cmp_in _ _ | exact pm_b8_in _ | (unfold pm_inI; split <;> omega)) (fun h1 => ?_) (fun h1 => ?_)
      · replace h1 : (tC T : Int) ≤ (c : Int) := h1
        refine g_iload_n lk_208_49 rfl ?_
        refine g_ireturn lk_208_50 (fun h => absurd h (by decide)) ?_
        rw [hQ, ec, cF_eq hT rs hv]
        exact ⟨rfl, rfl⟩
      · replace h1 : ¬ ((tC T : Int) ≤ (c : Int)) := h1
        refine g_iload_n lk_208_14 rfl ?_
        refine g_aload_n lk_208_15 rfl ?_
        refine g_iload_n lk_208_16 rfl ?_
        refine g_iconst lk_208_17 ?_
        refine g_iload lk_208_18 rfl ?_
        refine g_ishl lk_208_20 ?_
        omega
    | succ n ih =>
      intro c hc
      have e := cF_s T rs v c
      have k1 : cF T rs v c < 2147483648 := Nat.lt_of_lt_of_le (cF_lt T rs v c) (Nat.le_trans (Nat.pow_le_pow_right (n := 2) (by omega) (by omega : c ≤ 6)) (by decide))
      have k2 : 2 ^ c < 64 := Nat.lt_of_lt_of_le (Nat.pow_lt_pow_right (by omega) (by omega : c < 6)) (by decide)
      have k3 : pm_shl 1 (c : Int) = ((2 ^ c : Nat) : Int) := pm_shl_1 (by omega)
      have k4 : pm_shl 1 (v : Int) = ((2 ^ v : Nat) : Int) := pm_shl_1 (by omega)
      have k5 := pm_nandV (vIn_lt T rs (2 ^ c)) hv
      rw [← k4] at k5
      refine g_iload lk_208_5 rfl ?_
      refine g_aload_n lk_208_7 rfl ?_
      refine m_getfield (u := []) (M := M) lk_208_8 rfl (lay.on (by decide) rfl) (v := (tC T : Int)) hM.2.1 ?_
      refine g_icmp (t := 49) lk_208_11 rfl (by first | (unfold pm_inI; omega) | exact pm_and_in _ _ | exact pm_shr_in _ _ | exact pm_or_in _ _ | exact pm_xor_in _ _ | exact pm_shl_in _ _ | exact pm_cmp_in _ _ | exact pm_b8_in _ | (unfold pm_inI; split <;> omega)) (by first | (unfold pm_inI; omega) | exact pm_and_in _ _ | exact pm_shr_in _ _ | exact pm_or_in _ _ | exact pm_xor_in _ _ | exact pm_shl_in _ _ | exact pm_cmp_in _ _ | exact pm_b8_in _ | (unfold pm_inI; split <;> omega)) (fun h1 => ?_) (fun h1 => ?_)
      · replace h1 : (tC T : Int) ≤ (c : Int) := h1
        refine g_iload_n lk_208_49 rfl ?_
        refine g_ireturn lk_208_50 (fun h => absurd h (by decide)) ?_
        omega
      · replace h1 : ¬ ((tC T : Int) ≤ (c : Int)) := h1
        refine g_iload_n lk_208_14 rfl ?_
        refine g_aload_n lk_208_15 rfl ?_
        refine g_iload_n lk_208_16 rfl ?_
        refine g_iconst lk_208_17 ?_
        refine g_iload lk_208_18 rfl ?_
        refine g_ishl lk_208_20 ?_
        refine g_virtual (p := 116) (Qc := _) lk_208_21 rfl (Nat.le_of_ble_eq_true rfl) rfl rfl (lay.on (by decide) rfl) (Nat.le_of_ble_eq_true rfl) (Nat.le_of_ble_eq_true rfl) (Nat.zero_le _) (Nat.zero_le _) ((by rw [k3]; exact c_Mo_valuesIn lay hT hM (by omega) k2)) ?_
        rintro _ N2 ⟨rfl, hN2⟩
        rw [hN2]
        show Wp _ 208 24 [(2, ((116 : Nat) : Int)), (0, (rs : Int)), (0, (v : Int)), (0, ((cF T rs v c : Nat) : Int)), (0, (c : Int))] [(0, ((vIn T rs (2 ^ c) : Nat) : Int)), (0, ((cF T rs v c : Nat) : Int))] M _ _ _
        refine g_iconst lk_208_24 ?_
        refine g_iload_n lk_208_25 rfl ?_
        refine g_ishl lk_208_26 ?_
        refine g_iconst lk_208_27 ?_
        refine g_ixor lk_208_28 ?_
        refine g_iand lk_208_29 ?_
        refine g_if (t := 40) lk_208_30 rfl (by first | (unfold pm_inI; omega) | exact pm_and_in _ _ | exact pm_shr_in _ _ | exact pm_or_in _ _ | exact pm_xor_in _ _ | exact pm_shl_in _ _ | exact pm_cmp_in _ _ | exact pm_b8_in _ | (unfold pm_inI; split <;> omega)) (fun h3 => ?_) (fun h3 => ?_)
        · replace h3 : ¬ (pm_and ((vIn T rs (2 ^ c) : Nat) : Int) (pm_xor (pm_shl 1 (v : Int)) (-1))) = 0 := h3
          refine g_iconst lk_208_40 ?_
          refine g_ior lk_208_41 ?_
          refine g_istore_n (ls' := [(2, ((116 : Nat) : Int)), (0, (rs : Int)), (0, (v : Int)), (0, (pm_or ((cF T rs v c : Nat) : Int) 0)), (0, (c : Int))]) lk_208_42 rfl rfl ?_
          refine g_iinc (ls' := [(2, ((116 : Nat) : Int)), (0, (rs : Int)), (0, (v : Int)), (0, (pm_or ((cF T rs v c : Nat) : Int) 0)), (0, ((c : Int) + 1))]) lk_208_43 rfl rfl rfl ?_
          refine g_goto (t := 5) lk_208_46 rfl ?_
          rw [k5] at h3
          rw [if_neg (by omega)] at e
          rw [pm_or_0 k1, ← e]
          exact ih (c + 1) (by omega)
        · replace h3 : ¬ (¬ (pm_and ((vIn T rs (2 ^ c) : Nat) : Int) (pm_xor (pm_shl 1 (v : Int)) (-1))) = 0) := h3
          refine g_iconst lk_208_33 ?_
          refine g_iload lk_208_34 rfl ?_
          refine g_ishl lk_208_36 ?_
          refine g_goto (t := 41) lk_208_37 rfl ?_
          refine g_ior lk_208_41 ?_
          refine g_istore_n (ls' := [(2, ((116 : Nat) : Int)), (0, (rs : Int)), (0, (v : Int)), (0, (pm_or ((cF T rs v c : Nat) : Int) (pm_shl 1 (c : Int)))), (0, (c : Int))]) lk_208_42 rfl rfl ?_
          refine g_iinc (ls' := [(2, ((116 : Nat) : Int)), (0, (rs : Int)), (0, (v : Int)), (0, (pm_or ((cF T rs v c : Nat) : Int) (pm_shl 1 (c : Int)))), (0, ((c : Int) + 1))]) lk_208_43 rfl rfl rfl ?_
          refine g_goto (t := 5) lk_208_46 rfl ?_
          rw [k5] at h3
          rw [if_pos (by omega)] at e
          rw [k3, pm_or_n k1 (by omega), ← e]
          exact ih (c + 1) (by omega)
  show Wp (d + 2) 208 0 [(2, ((116 : Nat) : Int)), (0, (rs : Int)), (0, (v : Int)), (9, 0), (9, 0)] [] M mc ms Q
  refine g_iconst lk_208_0 ?_
  refine g_istore_n (ls' := [(2, ((116 : Nat) : Int)), (0, (rs : Int)), (0, (v : Int)), (0, 0), (9, 0)]) lk_208_1 rfl rfl ?_
  refine g_iconst lk_208_2 ?_
  refine g_istore (ls' := [(2, ((116 : Nat) : Int)), (0, (rs : Int)), (0, (v : Int)), (0, 0), (0, 0)]) lk_208_3 rfl rfl ?_
  exact loop (tC T) 0 (by omega)
