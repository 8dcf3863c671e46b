/-! ===== the model's leaning: all columns gone through ===== -/
theorem si_sm (f : Nat → Nat) : ∀ n, ((sm f n : Nat) : Int) = si (fun i => (f i : Int)) n
  | 0 => rfl
  | n + 1 => by show ((sm f n + f n : Nat) : Int) = si (fun i => (f i : Int)) n + (f n : Int); rw [Int.natCast_add, si_sm f n]
theorem si_0 : ∀ n, si (fun _ => 0) n = 0
  | 0 => rfl
  | n + 1 => by show si (fun _ => 0) n + 0 = 0; rw [si_0 n]; rfl
theorem si_swap (f : Nat → Nat → Int) (m : Nat) : ∀ n, si (fun i => si (fun j => f i j) m) n = si (fun j => si (fun i => f i j) n) m
  | 0 => (si_0 m).symm
  | n + 1 => by
    show si (fun i => si (fun j => f i j) m) n + si (fun j => f n j) m = _
    rw [si_swap f m n, ← si_add]
    rfl
theorem si_neg (f : Nat → Int) : ∀ n, si (fun i => - f i) n = - si f n
  | 0 => rfl
  | n + 1 => by show si (fun i => - f i) n + - f n = -(si f n + f n); rw [si_neg f n]; omega
theorem si_dbl (f : Nat → Int) (n : Nat) : 2 * si f n = si f n + si f n := by omega
def lS (T : Tab) (v rs cs : Nat) : Int := si (fun c => if cs.testBit c then lnC T v rs c else 0) (tC T)
theorem its_eq {T : Tab} (hT : TabOK T) {v : Nat} (hv : v < 10) (rs cs : Nat) : 2 * (nV T rs cs v : Int) - (nA T rs cs : Int) = lS T v rs cs := by
  have hC := hT.2.1
  have e1 : (nV T rs cs v : Int) = si (fun r => si (fun c => (dv T rs cs v r c : Int)) (tC T)) (tR T) := by
    unfold nV; rw [si_sm]; exact si_congr (fun r _ => si_sm _ _)
  have e2 : (nA T rs cs : Int) = si (fun r => si (fun c => (da T rs cs r c : Int)) (tC T)) (tR T) := by
    unfold nA; rw [si_sm]; exact si_congr (fun r _ => si_sm _ _)
  have e3 : lS T v rs cs + (nA T rs cs : Int) = (nV T rs cs v : Int) + (nV T rs cs v : Int) := by
    have a1 : lS T v rs cs = si (fun r => si (fun c => if cs.testBit c then lr T v rs c r else 0) (tC T)) (tR T) := by
      rw [si_swap]
      unfold lS
      refine si_congr (fun c _ => ?_)
      by_cases h : cs.testBit c = true
      · rw [if_pos h]; exact si_congr (fun r _ => by rw [if_pos h])
      · rw [if_neg h]; exact ((si_congr (g := fun _ => 0) (fun r _ => if_neg h)).trans (si_0 _)).symm
    rw [a1, e1, e2, ← si_add, ← si_add]
    refine si_congr (fun r hr => ?_)
    rw [← si_add, ← si_add]
    refine si_congr (fun c hc => ?_)
    unfold lr bt da dv
    rw [oRow_bit, uRow_bit hT r v (by omega)]
    have dd : decide (c < tC T) = true := by simp [hc]
    have hx : ¬ ((tX T (6 * r + c) == v) = true ∧ (tX T (6 * r + c) == 10) = true) := by simp; omega
    rw [dd]
    cases hp : (tX T (6 * r + c) == v) <;> cases hq : (tX T (6 * r + c) == 10) <;> cases h1 : rs.testBit r <;> cases h2 : cs.testBit c <;> first | (exfalso; exact hx ⟨hp, hq⟩) | simp [bne, hp, hq]
  omega
theorem ex_set (p : Nat → Bool) : ∀ n, ∃ s, s < 2 ^ n ∧ ∀ k, k < n → s.testBit k = p k
  | 0 => ⟨0, by decide, fun k h => absurd h (Nat.not_lt_zero k)⟩
  | n + 1 => by
    obtain ⟨s, h1, h2⟩ := ex_set p n
    have h3 : 2 ^ n < 2 ^ (n + 1) := Nat.pow_lt_pow_right (by omega) (by omega)
    by_cases hp : p n = true
    · refine ⟨s ||| 2 ^ n, Nat.or_lt_two_pow (Nat.lt_trans h1 h3) h3, fun k hk => ?_⟩
      rw [Nat.testBit_or, Nat.testBit_two_pow]
      by_cases e : k = n
      · subst e; rw [hp]; simp
      · rw [h2 k (by omega)]; simp [show ¬ n = k by omega]
    · refine ⟨s, Nat.lt_trans h1 h3, fun k hk => ?_⟩
      by_cases e : k = n
      · subst e
        rw [Nat.testBit_lt_two_pow h1]
        cases hq : p k with
        | false => rfl
        | true => exact absurd hq hp
      · exact h2 k (by omega)
theorem lS_le (T : Tab) (v rs cs : Nat) : lS T v rs cs ≤ lMore T v rs (tC T) ∧ - lS T v rs cs ≤ lLess T v rs (tC T) := by
  constructor
  · exact si_le (fun c _ => by show (if _ then _ else _) ≤ max _ _; split <;> omega)
  · unfold lS
    rw [← si_neg]
    exact si_le (fun c _ => by show -(if _ then _ else _) ≤ max _ _; split <;> omega)
theorem lS_0 (T : Tab) (v rs : Nat) : lS T v rs 0 = 0 := by
  unfold lS
  exact (si_congr (g := fun _ => 0) (fun c _ => by simp)).trans (si_0 _)
theorem lS_more (T : Tab) (v rs : Nat) : ∃ cs, cs < 2 ^ tC T ∧ lS T v rs cs = lMore T v rs (tC T) := by
  obtain ⟨s, h1, h2⟩ := ex_set (fun c => decide (0 < lnC T v rs c)) (tC T)
  refine ⟨s, h1, si_congr (fun c hc => ?_)⟩
  rw [h2 c hc]
  by_cases h : 0 < lnC T v rs c
  · simp [h]; omega
  · simp [h]; omega
theorem lS_less (T : Tab) (v rs : Nat) : ∃ cs, cs < 2 ^ tC T ∧ - lS T v rs cs = lLess T v rs (tC T) := by
  obtain ⟨s, h1, h2⟩ := ex_set (fun c => decide (lnC T v rs c < 0)) (tC T)
  refine ⟨s, h1, ?_⟩
  unfold lS
  rw [← si_neg]
  refine si_congr (fun c hc => ?_)
  rw [h2 c hc]
  by_cases h : lnC T v rs c < 0
  · simp [h]; omega
  · simp [h]; omega
def ab (z : Int) : Int := if 0 ≤ z then z else -z
def mL (T : Tab) (v rs : Nat) (a : Int) : Nat → Int
  | 0 => a
  | n + 1 => max (mL T v rs a n) (ab (lS T v rs (n + 1)))
theorem mL_ge (T : Tab) (v rs : Nat) (a : Int) : ∀ n, a ≤ mL T v rs a n ∧ ∀ cs, 1 ≤ cs → cs ≤ n → ab (lS T v rs cs) ≤ mL T v rs a n
  | 0 => ⟨Int.le_refl _, fun cs h1 h2 => by omega⟩
  | n + 1 => by
    obtain ⟨h1, h2⟩ := mL_ge T v rs a n
    have e : mL T v rs a (n + 1) = max (mL T v rs a n) (ab (lS T v rs (n + 1))) := rfl
    rw [e]
    refine ⟨by omega, fun cs h3 h4 => ?_⟩
    by_cases q : cs = n + 1
    · rw [q]; omega
    · have := h2 cs h3 (by omega); omega
theorem ab_le (T : Tab) (v rs cs : Nat) : ab (lS T v rs cs) ≤ max (lMore T v rs (tC T)) (lLess T v rs (tC T)) := by
  obtain ⟨h1, h2⟩ := lS_le T v rs cs
  unfold ab; split <;> omega
theorem mL_le (T : Tab) (v rs : Nat) (a : Int) : ∀ n, mL T v rs a n ≤ max a (max (lMore T v rs (tC T)) (lLess T v rs (tC T)))
  | 0 => by show a ≤ _; omega
  | n + 1 => by
    have h := mL_le T v rs a n
    have h2 := ab_le T v rs (n + 1)
    show max _ _ ≤ _
    omega
theorem mL_eq (T : Tab) (v rs : Nat) {a : Int} (ha : 0 ≤ a) : mL T v rs a (2 ^ tC T - 1) = max a (max (lMore T v rs (tC T)) (lLess T v rs (tC T))) := by
  have h1 := mL_le T v rs a (2 ^ tC T - 1)
  obtain ⟨h2, h3⟩ := mL_ge T v rs a (2 ^ tC T - 1)
  have hm : lMore T v rs (tC T) ≤ mL T v rs a (2 ^ tC T - 1) := by
    obtain ⟨cs, q1, q2⟩ := lS_more T v rs
    by_cases h0 : cs = 0
    · rw [h0, lS_0] at q2; omega
    · have := h3 cs (by omega) (by omega)
      unfold ab at this; split at this <;> omega
  have hl : lLess T v rs (tC T) ≤ mL T v rs a (2 ^ tC T - 1) := by
    obtain ⟨cs, q1, q2⟩ := lS_less T v rs
    by_cases h0 : cs = 0
    · rw [h0, lS_0] at q2; omega
    · have := h3 cs (by omega) (by omega)
      unfold ab at this; split at this <;> omega
  omega
def sLean (T : Tab) (v : Int) : Int := if isV v = 0 then -1 else lAll T v.toNat (2 ^ tR T - 1)
theorem mL_bd {T : Tab} (hT : TabOK T) (v rs : Nat) {a : Int} (ha : 0 ≤ a ∧ a ≤ 36) (n : Nat) : 0 ≤ mL T v rs a n ∧ mL T v rs a n ≤ 36 := by
  have h1 := mL_le T v rs a n
  have h2 := (mL_ge T v rs a n).1
  have h3 := lMore_bd hT v rs hT.2.1.2
  have h4 := lLess_bd hT v rs hT.2.1.2
  omega
theorem lS_bd {T : Tab} (hT : TabOK T) (v rs cs : Nat) : -36 ≤ lS T v rs cs ∧ lS T v rs cs ≤ 36 := by
  have h1 := lS_le T v rs cs
  have h3 := lMore_bd hT v rs hT.2.1.2
  have h4 := lLess_bd hT v rs hT.2.1.2
  omega
theorem c_Mo_askedA {d mc ms : Nat} {M : pm_M} (lay : Lay M) {T : Tab} (hT : TabOK T) (hM : MoAt M T) {rs cs : Nat} (hrs : rs < 2 ^ tR T) (hcs : cs < 2 ^ tC T) :
    pm_E (d + 2) 202 [(2, ((116 : Nat) : Int)), (0, (rs : Int)), (0, (cs : Int))] M mc ms (fun ρ M' => ρ = some (0, (nA T rs cs : Int)) ∧ M' = M) := by
  have := c_Mo_askedIn (d := d) (mc := mc) (ms := ms) lay hT hM (lt_64_of hT.1.2 hrs) (lt_64_of hT.2.1.2 hcs)
  rw [asked_eq hT hrs hcs] at this
  exact this
set_option maxHeartbeats 4000000 in
theorem c_Mo_leaning {d mc ms : Nat} {M : pm_M} (lay0 : Lay M) {T : Tab} (hT : TabOK T) (hM0 : MoAt M T) {v : Int} (hv : pm_inI v) :
    pm_E (d + 3) 232 [(2, ((116 : Nat) : Int)), (0, v)] M mc ms (fun ρ M' => ρ = some (0, sLean T v) ∧ Lay M' ∧ M' = Mu [(116, pm_upd (pm_ct M 116) 0 0)] M) := by
  obtain ⟨N, hN⟩ : ∃ N, N = Mu [(116, pm_upd (pm_ct M 116) 0 0)] M := ⟨_, rfl⟩
  have hM : MoAt N T := by rw [hN]; exact hM0
  have lay : Lay N := by rw [hN]; exact lay0.muF (l := []) (a := 116) (k := 0) (z := 0) rfl rfl
  obtain ⟨Q, hQ⟩ : ∃ Q : pm_Q, Q = (fun ρ M' => ρ = some (0, sLean T v) ∧ Lay M' ∧ M' = Mu [(116, pm_upd (pm_ct M 116) 0 0)] M) := ⟨_, rfl⟩
  rw [← hQ]
  have iv := isV_range v
  have hR := tR_64 hT
  have hC := tC_64 hT
  have h1R : 1 ≤ 2 ^ tR T := Nat.one_le_two_pow
  have h1C : 1 ≤ 2 ^ tC T := Nat.one_le_two_pow
  have fin : ∀ (z : Int), z = sLean T v → Q (some (0, z)) N := fun z hz => by rw [hQ, hz]; exact ⟨rfl, lay, hN⟩
  have main : ∀ u : Nat, v = (u : Int) → u < 10 → Wp (d + 3) 232 18 [(2, ((116 : Nat) : Int)), (0, v), (0, 0), (0, 1), (9, 0), (9, 0)] [] N mc ms Q := by
    intro u hu hu9
    subst hu
    have inner : ∀ (n j i : Nat) (a : Int) (v5 : pm_V), j + n = 2 ^ tC T - 1 → i + 1 < 2 ^ tR T → 0 ≤ a ∧ a ≤ 36 → (∀ v5' : pm_V, Wp (d + 3) 232 18 [(2, ((116 : Nat) : Int)), (0, (u : Int)), (0, mL T u (i + 1) a (2 ^ tC T - 1)), (0, ((i + 1 + 1 : Nat) : Int)), (0, ((2 ^ tC T - 1 + 1 : Nat) : Int)), v5'] [] N mc ms Q) →
        Wp (d + 3) 232 29 [(2, ((116 : Nat) : Int)), (0, (u : Int)), (0, mL T u (i + 1) a j), (0, ((i + 1 : Nat) : Int)), (0, ((j + 1 : Nat) : Int)), v5] [] N mc ms Q := by
      intro n
      induction n with
      | zero =>
        intro j i a v5 hj hi ha k
        have ej : j = 2 ^ tC T - 1 := by omega
        refine g_iload lk_232_29 rfl ?_
        refine g_aload_n lk_232_31 rfl ?_
        refine g_virtual (p := 116) (Qc := _) lk_232_32 rfl (Nat.le_of_ble_eq_true rfl) rfl rfl (lay.on (by decide) rfl) (Nat.le_of_ble_eq_true rfl) (Nat.le_of_ble_eq_true rfl) (Nat.zero_le _) (Nat.zero_le _) (c_Mo_allColumns lay hT hM) ?_
        rintro _ N1 ⟨rfl, hN1⟩
        rw [hN1]
        show Wp _ 232 35 [(2, ((116 : Nat) : Int)), (0, (u : Int)), (0, (mL T u (i + 1) a j)), (0, ((i + 1 : Nat) : Int)), (0, ((j + 1 : Nat) : Int)), v5] [(0, ((2 ^ tC T - 1 : Nat) : Int)), (0, ((j + 1 : Nat) : Int))] N _ _ _
        refine g_icmp (t := 82) lk_232_35 rfl (by first | (unfold pm_inI; omega) | exact pm_and_in _ _ | exact pm_shr_in _ _ | exact pm_or_in _ _ | exact pm_xor_in _ _ | exact pm_shl_in _ _ | exact pm_cmp_in _ _ | exact pm_b8_in _ | (unfold pm_inI; split <;> omega)) (by first | (unfold pm_inI; omega) | exact pm_and_in _ _ | exact pm_shr_in _ _ | exact pm_or_in _ _ | exact pm_xor_in _ _ | exact pm_shl_in _ _ | exact pm_cmp_in _ _ | exact pm_b8_in _ | (unfold pm_inI; split <;> omega)) (fun h2 => ?_) (fun h2 => ?_)
        · replace h2 : ((2 ^ tC T - 1 : Nat) : Int) < ((j + 1 : Nat) : Int) := h2
          refine g_iinc (ls' := [(2, ((116 : Nat) : Int)), (0, (u : Int)), (0, (mL T u (i + 1) a j)), (0, (((i + 1 : Nat) : Int) + 1)), (0, ((j + 1 : Nat) : Int)), v5]) lk_232_82 rfl rfl rfl ?_
          refine g_goto (t := 18) lk_232_85 rfl ?_
          rw [ej]
          exact k _
        · replace h2 : ¬ (((2 ^ tC T - 1 : Nat) : Int) < ((j + 1 : Nat) : Int)) := h2
          omega
      | succ n ih =>
        intro j i a v5 hj hi ha k
        have k1 := mL_bd hT u (i + 1) ha j
        have k2 := lS_bd hT u (i + 1) (j + 1)
        have k3 := its_eq hT hu9 (i + 1) (j + 1)
        have e : mL T u (i + 1) a (j + 1) = max (mL T u (i + 1) a j) (ab (lS T u (i + 1) (j + 1))) := rfl
        unfold ab at e
        refine g_iload lk_232_29 rfl ?_
        refine g_aload_n lk_232_31 rfl ?_
        refine g_virtual (p := 116) (Qc := _) lk_232_32 rfl (Nat.le_of_ble_eq_true rfl) rfl rfl (lay.on (by decide) rfl) (Nat.le_of_ble_eq_true rfl) (Nat.le_of_ble_eq_true rfl) (Nat.zero_le _) (Nat.zero_le _) (c_Mo_allColumns lay hT hM) ?_
        rintro _ N1 ⟨rfl, hN1⟩
        rw [hN1]
        show Wp _ 232 35 [(2, ((116 : Nat) : Int)), (0, (u : Int)), (0, (mL T u (i + 1) a j)), (0, ((i + 1 : Nat) : Int)), (0, ((j + 1 : Nat) : Int)), v5] [(0, ((2 ^ tC T - 1 : Nat) : Int)), (0, ((j + 1 : Nat) : Int))] N _ _ _
        refine g_icmp (t := 82) lk_232_35 rfl (by first | (unfold pm_inI; omega) | exact pm_and_in _ _ | exact pm_shr_in _ _ | exact pm_or_in _ _ | exact pm_xor_in _ _ | exact pm_shl_in _ _ | exact pm_cmp_in _ _ | exact pm_b8_in _ | (unfold pm_inI; split <;> omega)) (by first | (unfold pm_inI; omega) | exact pm_and_in _ _ | exact pm_shr_in _ _ | exact pm_or_in _ _ | exact pm_xor_in _ _ | exact pm_shl_in _ _ | exact pm_cmp_in _ _ | exact pm_b8_in _ | (unfold pm_inI; split <;> omega)) (fun h2 => ?_) (fun h2 => ?_)
        · replace h2 : ((2 ^ tC T - 1 : Nat) : Int) < ((j + 1 : Nat) : Int) := h2
          refine g_iinc (ls' := [(2, ((116 : Nat) : Int)), (0, (u : Int)), (0, (mL T u (i + 1) a j)), (0, (((i + 1 : Nat) : Int) + 1)), (0, ((j + 1 : Nat) : Int)), v5]) lk_232_82 rfl rfl rfl ?_
          refine g_goto (t := 18) lk_232_85 rfl ?_
          omega
        · replace h2 : ¬ (((2 ^ tC T - 1 : Nat) : Int) < ((j + 1 : Nat) : Int)) := h2
          refine g_iconst lk_232_38 ?_
          refine g_aload_n lk_232_39 rfl ?_
          refine g_iload_n lk_232_40 rfl ?_
          refine g_iload lk_232_41 rfl ?_
          refine g_iload_n lk_232_43 rfl ?_
          refine g_virtual (p := 116) (Qc := _) lk_232_44 rfl (Nat.le_of_ble_eq_true rfl) rfl rfl (lay.on (by decide) rfl) (Nat.le_of_ble_eq_true rfl) (Nat.le_of_ble_eq_true rfl) (Nat.zero_le _) (Nat.zero_le _) (c_Mo_countV lay hT hM (by omega) (by omega) (by omega)) ?_
          rintro _ N3 ⟨rfl, hN3⟩
          rw [hN3]
          show Wp _ 232 47 [(2, ((116 : Nat) : Int)), (0, (u : Int)), (0, (mL T u (i + 1) a j)), (0, ((i + 1 : Nat) : Int)), (0, ((j + 1 : Nat) : Int)), v5] [(0, (nV T (i + 1) (j + 1) u : Int)), (0, 2)] N _ _ _
          refine g_imul lk_232_47 ?_
          refine g_aload_n lk_232_48 rfl ?_
          refine g_iload_n lk_232_49 rfl ?_
          refine g_iload lk_232_50 rfl ?_
          refine g_virtual (p := 116) (Qc := _) lk_232_52 rfl (Nat.le_of_ble_eq_true rfl) rfl rfl (lay.on (by decide) rfl) (Nat.le_of_ble_eq_true rfl) (Nat.le_of_ble_eq_true rfl) (Nat.zero_le _) (Nat.zero_le _) (c_Mo_askedA lay hT hM (by omega) (by omega)) ?_
          rintro _ N4 ⟨rfl, hN4⟩
          rw [hN4]
          show Wp _ 232 55 [(2, ((116 : Nat) : Int)), (0, (u : Int)), (0, (mL T u (i + 1) a j)), (0, ((i + 1 : Nat) : Int)), (0, ((j + 1 : Nat) : Int)), v5] [(0, (nA T (i + 1) (j + 1) : Int)), (0, (2 * (nV T (i + 1) (j + 1) u : Int)))] N _ _ _
          refine g_isub lk_232_55 ?_
          refine g_istore (ls' := [(2, ((116 : Nat) : Int)), (0, (u : Int)), (0, (mL T u (i + 1) a j)), (0, ((i + 1 : Nat) : Int)), (0, ((j + 1 : Nat) : Int)), (0, ((2 * (nV T (i + 1) (j + 1) u : Int)) - (nA T (i + 1) (j + 1) : Int)))]) lk_232_56 rfl rfl ?_
          refine g_iload_n lk_232_58 rfl ?_
          refine g_iload lk_232_59 rfl ?_
          refine g_if (t := 70) lk_232_61 rfl (by first | (unfold pm_inI; omega) | exact pm_and_in _ _ | exact pm_shr_in _ _ | exact pm_or_in _ _ | exact pm_xor_in _ _ | exact pm_shl_in _ _ | exact pm_cmp_in _ _ | exact pm_b8_in _ | (unfold pm_inI; split <;> omega)) (fun h5 => ?_) (fun h5 => ?_)
          · replace h5 : 0 ≤ ((2 * (nV T (i + 1) (j + 1) u : Int)) - (nA T (i + 1) (j + 1) : Int)) := h5
            refine g_iload lk_232_70 rfl ?_
            refine g_static (Qc := _) lk_232_72 (by decide) rfl (Nat.le_of_ble_eq_true rfl) rfl rfl (Nat.le_of_ble_eq_true rfl) (Nat.le_of_ble_eq_true rfl) (Nat.zero_le _) (Nat.zero_le _) (c_Mo_greater (by unfold pm_inI; omega) (by unfold pm_inI; omega)) ?_
            rintro _ N6 ⟨rfl, hN6⟩
            rw [hN6]
            show Wp _ 232 75 [(2, ((116 : Nat) : Int)), (0, (u : Int)), (0, (mL T u (i + 1) a j)), (0, ((i + 1 : Nat) : Int)), (0, ((j + 1 : Nat) : Int)), (0, ((2 * (nV T (i + 1) (j + 1) u : Int)) - (nA T (i + 1) (j + 1) : Int)))] [(0, (max (mL T u (i + 1) a j) ((2 * (nV T (i + 1) (j + 1) u : Int)) - (nA T (i + 1) (j + 1) : Int))))] N _ _ _
            refine g_istore_n (ls' := [(2, ((116 : Nat) : Int)), (0, (u : Int)), (0, (max (mL T u (i + 1) a j) ((2 * (nV T (i + 1) (j + 1) u : Int)) - (nA T (i + 1) (j + 1) : Int)))), (0, ((i + 1 : Nat) : Int)), (0, ((j + 1 : Nat) : Int)), (0, ((2 * (nV T (i + 1) (j + 1) u : Int)) - (nA T (i + 1) (j + 1) : Int)))]) lk_232_75 rfl rfl ?_
            refine g_iinc (ls' := [(2, ((116 : Nat) : Int)), (0, (u : Int)), (0, (max (mL T u (i + 1) a j) ((2 * (nV T (i + 1) (j + 1) u : Int)) - (nA T (i + 1) (j + 1) : Int)))), (0, ((i + 1 : Nat) : Int)), (0, (((j + 1 : Nat) : Int) + 1)), (0, ((2 * (nV T (i + 1) (j + 1) u : Int)) - (nA T (i + 1) (j + 1) : Int)))]) lk_232_76 rfl rfl rfl ?_
            refine g_goto (t := 29) lk_232_79 rfl ?_
            rw [if_pos (by omega)] at e
            rw [k3, ← e]
            exact ih (j + 1) i a _ (by omega) hi ha k
          · replace h5 : ¬ (0 ≤ ((2 * (nV T (i + 1) (j + 1) u : Int)) - (nA T (i + 1) (j + 1) : Int))) := h5
            refine g_iload lk_232_64 rfl ?_
            refine g_ineg lk_232_66 ?_
            refine g_goto (t := 72) lk_232_67 rfl ?_
            refine g_static (Qc := _) lk_232_72 (by decide) rfl (Nat.le_of_ble_eq_true rfl) rfl rfl (Nat.le_of_ble_eq_true rfl) (Nat.le_of_ble_eq_true rfl) (Nat.zero_le _) (Nat.zero_le _) (c_Mo_greater (by unfold pm_inI; omega) (by unfold pm_inI; omega)) ?_
            rintro _ N7 ⟨rfl, hN7⟩
            rw [hN7]
            show Wp _ 232 75 [(2, ((116 : Nat) : Int)), (0, (u : Int)), (0, (mL T u (i + 1) a j)), (0, ((i + 1 : Nat) : Int)), (0, ((j + 1 : Nat) : Int)), (0, ((2 * (nV T (i + 1) (j + 1) u : Int)) - (nA T (i + 1) (j + 1) : Int)))] [(0, (max (mL T u (i + 1) a j) (-((2 * (nV T (i + 1) (j + 1) u : Int)) - (nA T (i + 1) (j + 1) : Int)))))] N _ _ _
            refine g_istore_n (ls' := [(2, ((116 : Nat) : Int)), (0, (u : Int)), (0, (max (mL T u (i + 1) a j) (-((2 * (nV T (i + 1) (j + 1) u : Int)) - (nA T (i + 1) (j + 1) : Int))))), (0, ((i + 1 : Nat) : Int)), (0, ((j + 1 : Nat) : Int)), (0, ((2 * (nV T (i + 1) (j + 1) u : Int)) - (nA T (i + 1) (j + 1) : Int)))]) lk_232_75 rfl rfl ?_
            refine g_iinc (ls' := [(2, ((116 : Nat) : Int)), (0, (u : Int)), (0, (max (mL T u (i + 1) a j) (-((2 * (nV T (i + 1) (j + 1) u : Int)) - (nA T (i + 1) (j + 1) : Int))))), (0, ((i + 1 : Nat) : Int)), (0, (((j + 1 : Nat) : Int) + 1)), (0, ((2 * (nV T (i + 1) (j + 1) u : Int)) - (nA T (i + 1) (j + 1) : Int)))]) lk_232_76 rfl rfl rfl ?_
            refine g_goto (t := 29) lk_232_79 rfl ?_
            rw [if_neg (by omega)] at e
            rw [k3, ← e]
            exact ih (j + 1) i a _ (by omega) hi ha k
    have outer : ∀ (n i : Nat) (v4 v5 : pm_V), i + n = 2 ^ tR T - 1 → Wp (d + 3) 232 18 [(2, ((116 : Nat) : Int)), (0, (u : Int)), (0, lAll T u i), (0, ((i + 1 : Nat) : Int)), v4, v5] [] N mc ms Q := by
      intro n
      induction n with
      | zero =>
        intro i v4 v5 hi
        have ei : i = 2 ^ tR T - 1 := by omega
        refine g_iload_n lk_232_18 rfl ?_
        refine g_aload_n lk_232_19 rfl ?_
        refine g_virtual (p := 116) (Qc := _) lk_232_20 rfl (Nat.le_of_ble_eq_true rfl) rfl rfl (lay.on (by decide) rfl) (Nat.le_of_ble_eq_true rfl) (Nat.le_of_ble_eq_true rfl) (Nat.zero_le _) (Nat.zero_le _) (c_Mo_allRows lay hT hM) ?_
        rintro _ N1 ⟨rfl, hN1⟩
        rw [hN1]
        show Wp _ 232 23 [(2, ((116 : Nat) : Int)), (0, (u : Int)), (0, (lAll T u i)), (0, ((i + 1 : Nat) : Int)), v4, v5] [(0, ((2 ^ tR T - 1 : Nat) : Int)), (0, ((i + 1 : Nat) : Int))] N _ _ _
        refine g_icmp (t := 88) lk_232_23 rfl (by first | (unfold pm_inI; omega) | exact pm_and_in _ _ | exact pm_shr_in _ _ | exact pm_or_in _ _ | exact pm_xor_in _ _ | exact pm_shl_in _ _ | exact pm_cmp_in _ _ | exact pm_b8_in _ | (unfold pm_inI; split <;> omega)) (by first | (unfold pm_inI; omega) | exact pm_and_in _ _ | exact pm_shr_in _ _ | exact pm_or_in _ _ | exact pm_xor_in _ _ | exact pm_shl_in _ _ | exact pm_cmp_in _ _ | exact pm_b8_in _ | (unfold pm_inI; split <;> omega)) (fun h2 => ?_) (fun h2 => ?_)
        · replace h2 : ((2 ^ tR T - 1 : Nat) : Int) < ((i + 1 : Nat) : Int) := h2
          refine g_iload_n lk_232_88 rfl ?_
          refine g_ireturn lk_232_89 (fun h => absurd h (by decide)) ?_
          refine fin _ ?_
          unfold sLean
          rw [if_neg (by unfold isV; rw [if_pos (by omega)]; omega), Int.toNat_natCast, ei]
        · replace h2 : ¬ (((2 ^ tR T - 1 : Nat) : Int) < ((i + 1 : Nat) : Int)) := h2
          refine g_iconst lk_232_26 ?_
          refine g_istore (ls' := [(2, ((116 : Nat) : Int)), (0, (u : Int)), (0, (lAll T u i)), (0, ((i + 1 : Nat) : Int)), (0, 1), v5]) lk_232_27 rfl rfl ?_
          omega
      | succ n ih =>
        intro i v4 v5 hi
        refine g_iload_n lk_232_18 rfl ?_
        refine g_aload_n lk_232_19 rfl ?_
        refine g_virtual (p := 116) (Qc := _) lk_232_20 rfl (Nat.le_of_ble_eq_true rfl) rfl rfl (lay.on (by decide) rfl) (Nat.le_of_ble_eq_true rfl) (Nat.le_of_ble_eq_true rfl) (Nat.zero_le _) (Nat.zero_le _) (c_Mo_allRows lay hT hM) ?_
        rintro _ N1 ⟨rfl, hN1⟩
        rw [hN1]
        show Wp _ 232 23 [(2, ((116 : Nat) : Int)), (0, (u : Int)), (0, (lAll T u i)), (0, ((i + 1 : Nat) : Int)), v4, v5] [(0, ((2 ^ tR T - 1 : Nat) : Int)), (0, ((i + 1 : Nat) : Int))] N _ _ _
        refine g_icmp (t := 88) lk_232_23 rfl (by first | (unfold pm_inI; omega) | exact pm_and_in _ _ | exact pm_shr_in _ _ | exact pm_or_in _ _ | exact pm_xor_in _ _ | exact pm_shl_in _ _ | exact pm_cmp_in _ _ | exact pm_b8_in _ | (unfold pm_inI; split <;> omega)) (by first | (unfold pm_inI; omega) | exact pm_and_in _ _ | exact pm_shr_in _ _ | exact pm_or_in _ _ | exact pm_xor_in _ _ | exact pm_shl_in _ _ | exact pm_cmp_in _ _ | exact pm_b8_in _ | (unfold pm_inI; split <;> omega)) (fun h2 => ?_) (fun h2 => ?_)
        · replace h2 : ((2 ^ tR T - 1 : Nat) : Int) < ((i + 1 : Nat) : Int) := h2
          refine g_iload_n lk_232_88 rfl ?_
          refine g_ireturn lk_232_89 (fun h => absurd h (by decide)) ?_
          omega
        · replace h2 : ¬ (((2 ^ tR T - 1 : Nat) : Int) < ((i + 1 : Nat) : Int)) := h2
          refine g_iconst lk_232_26 ?_
          refine g_istore (ls' := [(2, ((116 : Nat) : Int)), (0, (u : Int)), (0, (lAll T u i)), (0, ((i + 1 : Nat) : Int)), (0, 1), v5]) lk_232_27 rfl rfl ?_
          refine inner (2 ^ tC T - 1) 0 i (lAll T u i) _ (by omega) (by omega) (lAll_bd hT u i) (fun v5' => ?_)
          rw [mL_eq T u (i + 1) (lAll_bd hT u i).1]
          exact ih (i + 1) _ _ (by omega)
    exact outer (2 ^ tR T - 1) 0 _ _ (by omega)
  show Wp (d + 3) 232 0 [(2, ((116 : Nat) : Int)), (0, v), (9, 0), (9, 0), (9, 0), (9, 0)] [] M mc ms Q
  refine g_aload_n lk_232_0 rfl ?_
  refine g_iconst lk_232_1 ?_
  have lay1 : Lay (Mu [(116, pm_upd (pm_ct M 116) 0 0)] M) := lay0.muF (l := []) (a := 116) (k := 0) (z := 0) rfl rfl
  refine m_putfield (u := []) (u' := [(116, pm_upd (pm_ct M 116) 0 0)]) (M := M) lk_232_2 rfl (lay0.on (by decide) rfl) (fun h => absurd h (by decide)) rfl ?_
  refine g_iload_n lk_232_5 rfl ?_
  refine g_static (Qc := _) lk_232_6 (by decide) rfl (Nat.le_of_ble_eq_true rfl) rfl rfl (Nat.le_of_ble_eq_true rfl) (Nat.le_of_ble_eq_true rfl) (Nat.zero_le _) (Nat.zero_le _) (c_Mo_isValue (by assumption)) ?_
  rintro _ N2 ⟨rfl, hN2⟩
  rw [hN2]
  show Wp _ 232 9 [(2, ((116 : Nat) : Int)), (0, v), (9, 0), (9, 0), (9, 0), (9, 0)] [(0, (isV v))] (Mu [(116, pm_upd (pm_ct M 116) 0 0)] M) _ _ _
  refine g_if (t := 14) lk_232_9 rfl (by first | assumption | (unfold pm_inI; omega)) (fun h3 => ?_) (fun h3 => ?_)
  · replace h3 : ¬ (isV v) = 0 := h3
    refine g_iconst lk_232_14 ?_
    refine g_istore_n (ls' := [(2, ((116 : Nat) : Int)), (0, v), (0, 0), (9, 0), (9, 0), (9, 0)]) lk_232_15 rfl rfl ?_
    refine g_iconst lk_232_16 ?_
    refine g_istore_n (ls' := [(2, ((116 : Nat) : Int)), (0, v), (0, 0), (0, 1), (9, 0), (9, 0)]) lk_232_17 rfl rfl ?_
    obtain ⟨v1, v2⟩ := isV_1 h3
    obtain ⟨u, hu⟩ := Int.eq_ofNat_of_zero_le v1
    rw [← hN]
    exact main u hu (by omega)
  · replace h3 : ¬ (¬ (isV v) = 0) := h3
    refine g_iconst lk_232_12 ?_
    refine g_ireturn lk_232_13 (fun h => absurd h (by decide)) ?_
    rw [← hN]
    refine fin _ ?_
    unfold sLean
    rw [if_pos (by omega)]
