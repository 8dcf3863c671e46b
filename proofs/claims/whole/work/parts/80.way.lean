/-! ===== trees told: the way of an entry ===== -/
def ndA (L : List Nd) (k : Nat) : Nd := L.getD k (0, 0, 0)
def yesAt (L : List Nd) (r c k : Nat) : Bool := (ndA L k).2.1.testBit (if (ndA L k).1 = 1 then r else c)
def nxt (L : List Nd) (r c k : Nat) : Nat := if yesAt L r c k then k + 1 else (ndA L k).2.2.toNat
def wy (L : List Nd) (r c : Nat) : Nat → Nat → Nat
  | 0, k => k
  | n + 1, k => if (ndA L k).1 = 0 then k else wy L r c n (nxt L r c k)
/-- a node of a tree that a text may tell; dp: how deep it lies -/
def NdOK (L : List Nd) (dp : Nat → Nat) (k : Nat) : Prop := (ndA L k).1 ≤ 2 ∧ (ndA L k).2.1 < 64 ∧ dp k ≤ 9 ∧ ((ndA L k).1 ≠ 0 → dp k < 9 ∧ k + 1 < L.length ∧ ((k + 1 : Nat) : Int) < (ndA L k).2.2 ∧ (ndA L k).2.2 < (L.length : Int) ∧ dp (k + 1) = dp k + 1 ∧ dp (ndA L k).2.2.toNat = dp k + 1)
def TrD (L : List Nd) (dp : Nat → Nat) : Prop := 1 ≤ L.length ∧ L.length ≤ 31 ∧ dp 0 = 0 ∧ ∀ k, k < L.length → NdOK L dp k
def TrOK (L : List Nd) : Prop := ∃ dp, TrD L dp
theorem ndA_get {L : List Nd} {k : Nat} (h : k < L.length) : L[k]? = some (ndA L k) := by
  unfold ndA
  rw [List.getD_eq_getElem?_getD, List.getElem?_eq_getElem h]; rfl
theorem nxt_ok {L : List Nd} {dp : Nat → Nat} (h : TrD L dp) {r c k : Nat} (hk : k < L.length) (h0 : (ndA L k).1 ≠ 0) : k < nxt L r c k ∧ nxt L r c k < L.length ∧ dp (nxt L r c k) = dp k + 1 := by
  obtain ⟨_, _, _, a4⟩ := h.2.2.2 k hk
  obtain ⟨b1, b2, b3, b4, b5, b6⟩ := a4 h0
  unfold nxt
  by_cases e : yesAt L r c k = true
  · rw [if_pos e]; exact ⟨by omega, b2, b5⟩
  · rw [if_neg e]; exact ⟨by omega, by omega, b6⟩
/-- with as many steps as the depth leaves, the way ends at a leaf -/
theorem wy_leaf {L : List Nd} {dp : Nat → Nat} (h : TrD L dp) {r c : Nat} : ∀ {n k : Nat}, k < L.length → 9 ≤ dp k + n → (ndA L (wy L r c n k)).1 = 0 ∧ wy L r c n k < L.length
  | 0, k, hk, hd => by
    refine ⟨?_, hk⟩
    obtain ⟨_, _, _, a4⟩ := h.2.2.2 k hk
    show (ndA L k).1 = 0
    by_cases e : (ndA L k).1 = 0
    · exact e
    · have := (a4 e).1; omega
  | n + 1, k, hk, hd => by
    show (ndA L (if (ndA L k).1 = 0 then k else wy L r c n (nxt L r c k))).1 = 0 ∧ (if (ndA L k).1 = 0 then k else wy L r c n (nxt L r c k)) < L.length
    by_cases e : (ndA L k).1 = 0
    · rw [if_pos e]; exact ⟨e, hk⟩
    · rw [if_neg e]
      obtain ⟨_, c2, c3⟩ := nxt_ok h (r := r) (c := c) hk e
      exact wy_leaf h c2 (by omega)
theorem c_Nodes_saysYes0 {d mc ms : Nat} {M : pm_M} (lay : Lay M) {L : List Nd} {dp : Nat → Nat} (hD : TrD L dp) (hL : NdL M 56 57 58 L) {k r c : Nat} (hk : k < L.length) (hr : r < 6) (hc : c < 6) :
    pm_E (d + 1) 39 [(2, ((55 : Nat) : Int)), (0, (k : Int)), (0, (r : Int)), (0, (c : Int))] M mc ms (fun ρ M' => ρ = some (0, if yesAt L r c k then 1 else 0) ∧ M' = M) := by
  have xx := hL k _ (ndA_get hk)
  obtain ⟨a1, a2, _, _⟩ := hD.2.2.2 k hk
  have l31 := hD.2.1
  unfold yesAt
  obtain ⟨x, hx⟩ : ∃ x, x = ndA L k := ⟨_, rfl⟩
  rw [← hx] at xx a1 a2 ⊢
  show Wp (d + 1) 39 0 [(2, ((55 : Nat) : Int)), (0, (k : Int)), (0, (r : Int)), (0, (c : Int))] [] M mc ms _
  refine g_aload_n lk_39_0 rfl ?_
  refine g_getfield lk_39_1 rfl (lay.on (by decide) rfl) (v := ((56 : Nat) : Int)) (lay.rf rfl) ?_
  refine g_iload_n lk_39_4 rfl ?_
  refine m_iaload (u := []) (M := M) lk_39_5 (lay.ay (by decide) rfl) (by omega) (j := k) (by omega) (v := (x.1 : Int)) xx.1 ?_
  refine g_iconst lk_39_6 ?_
  refine g_icmp (t := 14) lk_39_7 rfl (by first | (unfold pm_inI; omega) | exact pm_and_in _ _ | exact pm_shr_in _ _ | exact pm_or_in _ _ | exact pm_xor_in _ _ | exact pm_shl_in _ _ | exact pm_cmp_in _ _ | exact pm_b8_in _ | (unfold pm_inI; split <;> omega)) (by first | (unfold pm_inI; omega) | exact pm_and_in _ _ | exact pm_shr_in _ _ | exact pm_or_in _ _ | exact pm_xor_in _ _ | exact pm_shl_in _ _ | exact pm_cmp_in _ _ | exact pm_b8_in _ | (unfold pm_inI; split <;> omega)) (fun h1 => ?_) (fun h1 => ?_)
  · replace h1 : ¬ (x.1 : Int) = 1 := h1
    refine g_iload_n lk_39_14 rfl ?_
    refine g_aload_n lk_39_15 rfl ?_
    refine g_getfield lk_39_16 rfl (lay.on (by decide) rfl) (v := ((57 : Nat) : Int)) (lay.rf rfl) ?_
    refine g_iload_n lk_39_19 rfl ?_
    refine m_iaload (u := []) (M := M) lk_39_20 (lay.ay (by decide) rfl) (by omega) (j := k) (by omega) (v := (x.2.1 : Int)) xx.2.1 ?_
    refine g_static (Qc := _) lk_39_21 (by decide) rfl (Nat.le_of_ble_eq_true rfl) rfl rfl (Nat.le_of_ble_eq_true rfl) (Nat.le_of_ble_eq_true rfl) (Nat.zero_le _) (Nat.zero_le _) (c_Table_isIn (by omega) (by omega)) ?_
    rintro _ N2 ⟨rfl, hN2⟩
    rw [hN2]
    show Wp _ 39 24 [(2, ((55 : Nat) : Int)), (0, (k : Int)), (0, (r : Int)), (0, (c : Int))] [(0, (if Nat.testBit x.2.1 c then (1 : Int) else 0))] M _ _ _
    refine g_ireturn lk_39_24 (fun _ => by omega) ?_
    exact ⟨by rw [if_neg (show ¬ x.1 = 1 by omega)], rfl⟩
  · replace h1 : ¬ (¬ (x.1 : Int) = 1) := h1
    refine g_iload_n lk_39_10 rfl ?_
    refine g_goto (t := 15) lk_39_11 rfl ?_
    refine g_aload_n lk_39_15 rfl ?_
    refine g_getfield lk_39_16 rfl (lay.on (by decide) rfl) (v := ((57 : Nat) : Int)) (lay.rf rfl) ?_
    refine g_iload_n lk_39_19 rfl ?_
    refine m_iaload (u := []) (M := M) lk_39_20 (lay.ay (by decide) rfl) (by omega) (j := k) (by omega) (v := (x.2.1 : Int)) xx.2.1 ?_
    refine g_static (Qc := _) lk_39_21 (by decide) rfl (Nat.le_of_ble_eq_true rfl) rfl rfl (Nat.le_of_ble_eq_true rfl) (Nat.le_of_ble_eq_true rfl) (Nat.zero_le _) (Nat.zero_le _) (c_Table_isIn (by omega) (by omega)) ?_
    rintro _ N3 ⟨rfl, hN3⟩
    rw [hN3]
    show Wp _ 39 24 [(2, ((55 : Nat) : Int)), (0, (k : Int)), (0, (r : Int)), (0, (c : Int))] [(0, (if Nat.testBit x.2.1 r then (1 : Int) else 0))] M _ _ _
    refine g_ireturn lk_39_24 (fun _ => by omega) ?_
    exact ⟨by rw [if_pos (show x.1 = 1 by omega)], rfl⟩
theorem c_Told_childAt0 {d mc ms : Nat} {M : pm_M} (lay : Lay M) {L : List Nd} {dp : Nat → Nat} (hD : TrD L dp) (hct : pm_ct M 55 3 = (L.length : Int)) (hL : NdL M 56 57 58 L) {k r c : Nat} (hk : k < L.length) (h0 : (ndA L k).1 ≠ 0) (hr : r < 6) (hc : c < 6) :
    pm_E (d + 2) 103 [(2, ((54 : Nat) : Int)), (0, (k : Int)), (0, (r : Int)), (0, (c : Int))] M mc ms (fun ρ M' => ρ = some (0, (nxt L r c k : Int)) ∧ M' = M) := by
  have xx := hL k _ (ndA_get hk)
  obtain ⟨_, _, _, a4⟩ := hD.2.2.2 k hk
  have b := a4 h0
  have l31 := hD.2.1
  have sy := c_Nodes_saysYes0 (d := d) (mc := 0) (ms := 0) lay hD hL hk hr hc
  obtain ⟨n, hn⟩ : ∃ n, n = nxt L r c k := ⟨_, rfl⟩
  have n2 : n = if yesAt L r c k then k + 1 else (ndA L k).2.2.toNat := hn
  obtain ⟨l, hl⟩ : ∃ l, l = L.length := ⟨_, rfl⟩
  rw [← hn]
  rw [← hl] at hct hk b l31
  obtain ⟨z, hz⟩ : ∃ z, z = (ndA L k).2.2 := ⟨_, rfl⟩
  rw [← hz] at xx b n2
  have b3 := b.2.2.1
  have b4 := b.2.2.2.1
  have b2 := b.2.1
  show Wp (d + 2) 103 0 [(2, ((54 : Nat) : Int)), (0, (k : Int)), (0, (r : Int)), (0, (c : Int)), (9, 0)] [] M mc ms _
  by_cases e : yesAt L r c k = true
  · rw [if_pos e] at sy n2
    refine g_aload_n lk_103_0 rfl ?_
    refine g_getfield lk_103_1 rfl (lay.on (by decide) rfl) (v := ((55 : Nat) : Int)) (lay.rf rfl) ?_
    refine g_iload_n lk_103_4 rfl ?_
    refine g_iload_n lk_103_5 rfl ?_
    refine g_iload_n lk_103_6 rfl ?_
    refine g_virtual (p := 55) (Qc := _) lk_103_7 rfl (Nat.le_of_ble_eq_true rfl) rfl rfl (lay.on (by decide) rfl) (Nat.le_of_ble_eq_true rfl) (Nat.le_of_ble_eq_true rfl) (Nat.zero_le _) (Nat.zero_le _) (sy) ?_
    rintro _ N1 ⟨rfl, hN1⟩
    rw [hN1]
    show Wp _ 103 10 [(2, ((54 : Nat) : Int)), (0, (k : Int)), (0, (r : Int)), (0, (c : Int)), (9, 0)] [(0, 1)] M _ _ _
    refine g_if (t := 19) lk_103_10 rfl (by first | (unfold pm_inI; omega) | exact pm_and_in _ _ | exact pm_shr_in _ _ | exact pm_or_in _ _ | exact pm_xor_in _ _ | exact pm_shl_in _ _ | exact pm_cmp_in _ _ | exact pm_b8_in _ | (unfold pm_inI; split <;> omega)) (fun h => absurd h (show ¬ ((1 : Int) = (0 : Int)) by omega)) (fun _ => ?_)
    refine g_iload_n lk_103_13 rfl ?_
    refine g_iconst lk_103_14 ?_
    refine g_iadd lk_103_15 ?_
    refine g_goto (t := 28) lk_103_16 rfl ?_
    refine g_istore (ls' := [(2, ((54 : Nat) : Int)), (0, (k : Int)), (0, (r : Int)), (0, (c : Int)), (0, ((k : Int) + 1))]) lk_103_28 rfl rfl ?_
    refine g_iload lk_103_30 rfl ?_
    refine g_iload_n lk_103_32 rfl ?_
    refine g_icmp (t := 53) lk_103_33 rfl (by first | (unfold pm_inI; omega) | exact pm_and_in _ _ | exact pm_shr_in _ _ | exact pm_or_in _ _ | exact pm_xor_in _ _ | exact pm_shl_in _ _ | exact pm_cmp_in _ _ | exact pm_b8_in _ | (unfold pm_inI; split <;> omega)) (by first | (unfold pm_inI; omega) | exact pm_and_in _ _ | exact pm_shr_in _ _ | exact pm_or_in _ _ | exact pm_xor_in _ _ | exact pm_shl_in _ _ | exact pm_cmp_in _ _ | exact pm_b8_in _ | (unfold pm_inI; split <;> omega)) (fun h2 => ?_) (fun h2 => ?_)
    · replace h2 : ((k : Int) + 1) ≤ (k : Int) := h2
      refine g_iload_n lk_103_53 rfl ?_
      refine g_ireturn lk_103_54 (fun h => absurd h (by decide)) ?_
      omega
    · replace h2 : ¬ (((k : Int) + 1) ≤ (k : Int)) := h2
      refine g_iload lk_103_36 rfl ?_
      refine g_aload_n lk_103_38 rfl ?_
      refine g_getfield lk_103_39 rfl (lay.on (by decide) rfl) (v := ((55 : Nat) : Int)) (lay.rf rfl) ?_
      refine m_getfield (u := []) (M := M) lk_103_42 rfl (lay.on (by decide) rfl) (v := (l : Int)) hct ?_
      refine g_icmp (t := 53) lk_103_45 rfl (by first | (unfold pm_inI; omega) | exact pm_and_in _ _ | exact pm_shr_in _ _ | exact pm_or_in _ _ | exact pm_xor_in _ _ | exact pm_shl_in _ _ | exact pm_cmp_in _ _ | exact pm_b8_in _ | (unfold pm_inI; split <;> omega)) (by first | (unfold pm_inI; omega) | exact pm_and_in _ _ | exact pm_shr_in _ _ | exact pm_or_in _ _ | exact pm_xor_in _ _ | exact pm_shl_in _ _ | exact pm_cmp_in _ _ | exact pm_b8_in _ | (unfold pm_inI; split <;> omega)) (fun h3 => ?_) (fun h3 => ?_)
      · replace h3 : (l : Int) ≤ ((k : Int) + 1) := h3
        refine g_iload_n lk_103_53 rfl ?_
        refine g_ireturn lk_103_54 (fun h => absurd h (by decide)) ?_
        omega
      · replace h3 : ¬ ((l : Int) ≤ ((k : Int) + 1)) := h3
        refine g_iload lk_103_48 rfl ?_
        refine g_goto (t := 54) lk_103_50 rfl ?_
        refine g_ireturn lk_103_54 (fun h => absurd h (by decide)) ?_
        exact ⟨by rw [n2]; rfl, rfl⟩
  · rw [if_neg e] at sy n2
    have zn : z = (n : Int) := by omega
    rw [zn] at xx
    refine g_aload_n lk_103_0 rfl ?_
    refine g_getfield lk_103_1 rfl (lay.on (by decide) rfl) (v := ((55 : Nat) : Int)) (lay.rf rfl) ?_
    refine g_iload_n lk_103_4 rfl ?_
    refine g_iload_n lk_103_5 rfl ?_
    refine g_iload_n lk_103_6 rfl ?_
    refine g_virtual (p := 55) (Qc := _) lk_103_7 rfl (Nat.le_of_ble_eq_true rfl) rfl rfl (lay.on (by decide) rfl) (Nat.le_of_ble_eq_true rfl) (Nat.le_of_ble_eq_true rfl) (Nat.zero_le _) (Nat.zero_le _) (sy) ?_
    rintro _ N1 ⟨rfl, hN1⟩
    rw [hN1]
    show Wp _ 103 10 [(2, ((54 : Nat) : Int)), (0, (k : Int)), (0, (r : Int)), (0, (c : Int)), (9, 0)] [(0, 0)] M _ _ _
    refine g_if (t := 19) lk_103_10 rfl (by first | (unfold pm_inI; omega) | exact pm_and_in _ _ | exact pm_shr_in _ _ | exact pm_or_in _ _ | exact pm_xor_in _ _ | exact pm_shl_in _ _ | exact pm_cmp_in _ _ | exact pm_b8_in _ | (unfold pm_inI; split <;> omega)) (fun _ => ?_) (fun h => absurd (show (0 : Int) = (0 : Int) by omega) h)
    refine g_aload_n lk_103_19 rfl ?_
    refine g_getfield lk_103_20 rfl (lay.on (by decide) rfl) (v := ((55 : Nat) : Int)) (lay.rf rfl) ?_
    refine g_getfield lk_103_23 rfl (lay.on (by decide) rfl) (v := ((58 : Nat) : Int)) (lay.rf rfl) ?_
    refine g_iload_n lk_103_26 rfl ?_
    refine m_iaload (u := []) (M := M) lk_103_27 (lay.ay (by decide) rfl) (by omega) (j := k) (by omega) (v := (n : Int)) xx.2.2 ?_
    refine g_istore (ls' := [(2, ((54 : Nat) : Int)), (0, (k : Int)), (0, (r : Int)), (0, (c : Int)), (0, (n : Int))]) lk_103_28 rfl rfl ?_
    refine g_iload lk_103_30 rfl ?_
    refine g_iload_n lk_103_32 rfl ?_
    refine g_icmp (t := 53) lk_103_33 rfl (by first | (unfold pm_inI; omega) | exact pm_and_in _ _ | exact pm_shr_in _ _ | exact pm_or_in _ _ | exact pm_xor_in _ _ | exact pm_shl_in _ _ | exact pm_cmp_in _ _ | exact pm_b8_in _ | (unfold pm_inI; split <;> omega)) (by first | (unfold pm_inI; omega) | exact pm_and_in _ _ | exact pm_shr_in _ _ | exact pm_or_in _ _ | exact pm_xor_in _ _ | exact pm_shl_in _ _ | exact pm_cmp_in _ _ | exact pm_b8_in _ | (unfold pm_inI; split <;> omega)) (fun h2 => ?_) (fun h2 => ?_)
    · replace h2 : (n : Int) ≤ (k : Int) := h2
      refine g_iload_n lk_103_53 rfl ?_
      refine g_ireturn lk_103_54 (fun h => absurd h (by decide)) ?_
      omega
    · replace h2 : ¬ ((n : Int) ≤ (k : Int)) := h2
      refine g_iload lk_103_36 rfl ?_
      refine g_aload_n lk_103_38 rfl ?_
      refine g_getfield lk_103_39 rfl (lay.on (by decide) rfl) (v := ((55 : Nat) : Int)) (lay.rf rfl) ?_
      refine m_getfield (u := []) (M := M) lk_103_42 rfl (lay.on (by decide) rfl) (v := (l : Int)) hct ?_
      refine g_icmp (t := 53) lk_103_45 rfl (by first | (unfold pm_inI; omega) | exact pm_and_in _ _ | exact pm_shr_in _ _ | exact pm_or_in _ _ | exact pm_xor_in _ _ | exact pm_shl_in _ _ | exact pm_cmp_in _ _ | exact pm_b8_in _ | (unfold pm_inI; split <;> omega)) (by first | (unfold pm_inI; omega) | exact pm_and_in _ _ | exact pm_shr_in _ _ | exact pm_or_in _ _ | exact pm_xor_in _ _ | exact pm_shl_in _ _ | exact pm_cmp_in _ _ | exact pm_b8_in _ | (unfold pm_inI; split <;> omega)) (fun h3 => ?_) (fun h3 => ?_)
      · replace h3 : (l : Int) ≤ (n : Int) := h3
        refine g_iload_n lk_103_53 rfl ?_
        refine g_ireturn lk_103_54 (fun h => absurd h (by decide)) ?_
        omega
      · replace h3 : ¬ ((l : Int) ≤ (n : Int)) := h3
        refine g_iload lk_103_48 rfl ?_
        refine g_goto (t := 54) lk_103_50 rfl ?_
        refine g_ireturn lk_103_54 (fun h => absurd h (by decide)) ?_
        exact ⟨rfl, rfl⟩
theorem c_Told_leafAt0 {d mc ms : Nat} {M : pm_M} (lay : Lay M) {L : List Nd} {dp : Nat → Nat} (hD : TrD L dp) (hct : pm_ct M 55 3 = (L.length : Int)) (hL : NdL M 56 57 58 L) {r c : Nat} (hr : r < 6) (hc : c < 6) :
    pm_E (d + 3) 104 [(2, ((54 : Nat) : Int)), (0, (r : Int)), (0, (c : Int))] M mc ms (fun ρ M' => ρ = some (0, (wy L r c 9 0 : Int)) ∧ M' = M) := by
  obtain ⟨Q, hQ⟩ : ∃ Q : pm_Q, Q = (fun ρ M' => ρ = some (0, (wy L r c 9 0 : Int)) ∧ M' = M) := ⟨_, rfl⟩
  rw [← hQ]
  have l31 := hD.2.1
  have loop : ∀ (n i k : Nat), i + n = 9 → k < L.length → wy L r c 9 0 = wy L r c n k → Wp (d + 3) 104 5 [(2, ((54 : Nat) : Int)), (0, (r : Int)), (0, (c : Int)), (0, (k : Int)), (0, (i : Int))] [] M mc ms Q := by
    intro n
    induction n with
    | zero =>
      intro i k hi hk e
      refine g_iload lk_104_5 rfl ?_
      refine g_bipush lk_104_7 ?_
      refine g_icmp (t := 38) lk_104_9 rfl (by first | (unfold pm_inI; omega) | exact pm_and_in _ _ | exact pm_shr_in _ _ | exact pm_or_in _ _ | exact pm_xor_in _ _ | exact pm_shl_in _ _ | exact pm_cmp_in _ _ | exact pm_b8_in _ | (unfold pm_inI; split <;> omega)) (by first | (unfold pm_inI; omega) | exact pm_and_in _ _ | exact pm_shr_in _ _ | exact pm_or_in _ _ | exact pm_xor_in _ _ | exact pm_shl_in _ _ | exact pm_cmp_in _ _ | exact pm_b8_in _ | (unfold pm_inI; split <;> omega)) (fun h1 => ?_) (fun h1 => ?_)
      · replace h1 : 9 ≤ (i : Int) := h1
        refine g_iload_n lk_104_38 rfl ?_
        refine g_ireturn lk_104_39 (fun h => absurd h (by decide)) ?_
        rw [hQ]
        exact ⟨by rw [e]; rfl, rfl⟩
      · replace h1 : ¬ (9 ≤ (i : Int)) := h1
        omega
    | succ n ih =>
      intro i k hi hk e
      have xx := hL k _ (ndA_get hk)
      replace e : wy L r c 9 0 = if (ndA L k).1 = 0 then k else wy L r c n (nxt L r c k) := e
      by_cases h0 : (ndA L k).1 = 0
      · rw [if_pos h0] at e
        rw [h0] at xx
        have x0 : pm_ct M 56 k = 0 := xx.1
        refine g_iload lk_104_5 rfl ?_
        refine g_bipush lk_104_7 ?_
        refine g_icmp (t := 38) lk_104_9 rfl (by first | (unfold pm_inI; omega) | exact pm_and_in _ _ | exact pm_shr_in _ _ | exact pm_or_in _ _ | exact pm_xor_in _ _ | exact pm_shl_in _ _ | exact pm_cmp_in _ _ | exact pm_b8_in _ | (unfold pm_inI; split <;> omega)) (by first | (unfold pm_inI; omega) | exact pm_and_in _ _ | exact pm_shr_in _ _ | exact pm_or_in _ _ | exact pm_xor_in _ _ | exact pm_shl_in _ _ | exact pm_cmp_in _ _ | exact pm_b8_in _ | (unfold pm_inI; split <;> omega)) (fun h1 => ?_) (fun h1 => ?_)
        · replace h1 : 9 ≤ (i : Int) := h1
          refine g_iload_n lk_104_38 rfl ?_
          refine g_ireturn lk_104_39 (fun h => absurd h (by decide)) ?_
          omega
        · replace h1 : ¬ (9 ≤ (i : Int)) := h1
          refine g_aload_n lk_104_12 rfl ?_
          refine g_getfield lk_104_13 rfl (lay.on (by decide) rfl) (v := ((55 : Nat) : Int)) (lay.rf rfl) ?_
          refine g_getfield lk_104_16 rfl (lay.on (by decide) rfl) (v := ((56 : Nat) : Int)) (lay.rf rfl) ?_
          refine g_iload_n lk_104_19 rfl ?_
          refine m_iaload (u := []) (M := M) lk_104_20 (lay.ay (by decide) rfl) (by omega) (j := k) (by omega) (v := 0) x0 ?_
          refine g_if (t := 38) lk_104_21 rfl (by first | (unfold pm_inI; omega) | exact pm_and_in _ _ | exact pm_shr_in _ _ | exact pm_or_in _ _ | exact pm_xor_in _ _ | exact pm_shl_in _ _ | exact pm_cmp_in _ _ | exact pm_b8_in _ | (unfold pm_inI; split <;> omega)) (fun _ => ?_) (fun h => absurd (show (0 : Int) = (0 : Int) by omega) h)
          refine g_iload_n lk_104_38 rfl ?_
          refine g_ireturn lk_104_39 (fun h => absurd h (by decide)) ?_
          rw [hQ]
          exact ⟨by rw [e], rfl⟩
      · rw [if_neg h0] at e
        obtain ⟨x, hx⟩ : ∃ x, x = (ndA L k).1 := ⟨_, rfl⟩
        have x0 : pm_ct M 56 k = (x : Int) := by rw [hx]; exact xx.1
        have a1 := (hD.2.2.2 k hk).1
        have nx := nxt_ok hD (r := r) (c := c) hk h0
        have ch := c_Told_childAt0 (d := d) (mc := 0) (ms := 0) lay hD hct hL hk h0 hr hc
        obtain ⟨m, hm⟩ : ∃ m, m = nxt L r c k := ⟨_, rfl⟩
        rw [← hm] at e nx ch
        refine g_iload lk_104_5 rfl ?_
        refine g_bipush lk_104_7 ?_
        refine g_icmp (t := 38) lk_104_9 rfl (by first | (unfold pm_inI; omega) | exact pm_and_in _ _ | exact pm_shr_in _ _ | exact pm_or_in _ _ | exact pm_xor_in _ _ | exact pm_shl_in _ _ | exact pm_cmp_in _ _ | exact pm_b8_in _ | (unfold pm_inI; split <;> omega)) (by first | (unfold pm_inI; omega) | exact pm_and_in _ _ | exact pm_shr_in _ _ | exact pm_or_in _ _ | exact pm_xor_in _ _ | exact pm_shl_in _ _ | exact pm_cmp_in _ _ | exact pm_b8_in _ | (unfold pm_inI; split <;> omega)) (fun h1 => ?_) (fun h1 => ?_)
        · replace h1 : 9 ≤ (i : Int) := h1
          refine g_iload_n lk_104_38 rfl ?_
          refine g_ireturn lk_104_39 (fun h => absurd h (by decide)) ?_
          omega
        · replace h1 : ¬ (9 ≤ (i : Int)) := h1
          refine g_aload_n lk_104_12 rfl ?_
          refine g_getfield lk_104_13 rfl (lay.on (by decide) rfl) (v := ((55 : Nat) : Int)) (lay.rf rfl) ?_
          refine g_getfield lk_104_16 rfl (lay.on (by decide) rfl) (v := ((56 : Nat) : Int)) (lay.rf rfl) ?_
          refine g_iload_n lk_104_19 rfl ?_
          refine m_iaload (u := []) (M := M) lk_104_20 (lay.ay (by decide) rfl) (by omega) (j := k) (by omega) (v := (x : Int)) x0 ?_
          refine g_if (t := 38) lk_104_21 rfl (by first | (unfold pm_inI; omega) | exact pm_and_in _ _ | exact pm_shr_in _ _ | exact pm_or_in _ _ | exact pm_xor_in _ _ | exact pm_shl_in _ _ | exact pm_cmp_in _ _ | exact pm_b8_in _ | (unfold pm_inI; split <;> omega)) (fun h2 => ?_) (fun h2 => ?_)
          · replace h2 : (x : Int) = 0 := h2
            refine g_iload_n lk_104_38 rfl ?_
            refine g_ireturn lk_104_39 (fun h => absurd h (by decide)) ?_
            omega
          · replace h2 : ¬ ((x : Int) = 0) := h2
            refine g_aload_n lk_104_24 rfl ?_
            refine g_iload_n lk_104_25 rfl ?_
            refine g_iload_n lk_104_26 rfl ?_
            refine g_iload_n lk_104_27 rfl ?_
            refine g_virtual (p := 54) (Qc := _) lk_104_28 rfl (Nat.le_of_ble_eq_true rfl) rfl rfl (lay.on (by decide) rfl) (Nat.le_of_ble_eq_true rfl) (Nat.le_of_ble_eq_true rfl) (Nat.zero_le _) (Nat.zero_le _) (ch) ?_
            rintro _ N3 ⟨rfl, hN3⟩
            rw [hN3]
            show Wp _ 104 31 [(2, ((54 : Nat) : Int)), (0, (r : Int)), (0, (c : Int)), (0, (k : Int)), (0, (i : Int))] [(0, (m : Int))] M _ _ _
            refine g_istore_n (ls' := [(2, ((54 : Nat) : Int)), (0, (r : Int)), (0, (c : Int)), (0, (m : Int)), (0, (i : Int))]) lk_104_31 rfl rfl ?_
            refine g_iinc (ls' := [(2, ((54 : Nat) : Int)), (0, (r : Int)), (0, (c : Int)), (0, (m : Int)), (0, ((i : Int) + 1))]) lk_104_32 rfl rfl rfl ?_
            refine g_goto (t := 5) lk_104_35 rfl ?_
            exact ih (i + 1) m (by omega) nx.2.1 e
  show Wp (d + 3) 104 0 [(2, ((54 : Nat) : Int)), (0, (r : Int)), (0, (c : Int)), (9, 0), (9, 0)] [] M mc ms Q
  refine g_iconst lk_104_0 ?_
  refine g_istore_n (ls' := [(2, ((54 : Nat) : Int)), (0, (r : Int)), (0, (c : Int)), (0, 0), (9, 0)]) lk_104_1 rfl rfl ?_
  refine g_iconst lk_104_2 ?_
  refine g_istore (ls' := [(2, ((54 : Nat) : Int)), (0, (r : Int)), (0, (c : Int)), (0, 0), (0, 0)]) lk_104_3 rfl rfl ?_
  exact loop 9 0 0 rfl (by have := hD.1; omega) rfl
theorem c_Told_answerAt0 {d mc ms : Nat} {M : pm_M} (lay : Lay M) {L : List Nd} {dp : Nat → Nat} (hD : TrD L dp) (hct : pm_ct M 55 3 = (L.length : Int)) (hL : NdL M 56 57 58 L) {r c : Nat} (hr : r < 6) (hc : c < 6) :
    pm_E (d + 4) 105 [(2, ((54 : Nat) : Int)), (0, (r : Int)), (0, (c : Int))] M mc ms (fun ρ M' => ρ = some (0, ((ndA L (wy L r c 9 0)).2.1 : Int)) ∧ M' = M) := by
  have l31 := hD.2.1
  have wl := (wy_leaf hD (r := r) (c := c) (n := 9) (k := 0) (by have := hD.1; omega) (by omega)).2
  have la := c_Told_leafAt0 (d := d) (mc := 0) (ms := 0) lay hD hct hL hr hc
  obtain ⟨k, hk⟩ : ∃ k, k = wy L r c 9 0 := ⟨_, rfl⟩
  rw [← hk] at la wl ⊢
  have xx := hL k _ (ndA_get wl)
  show Wp (d + 4) 105 0 [(2, ((54 : Nat) : Int)), (0, (r : Int)), (0, (c : Int))] [] M mc ms _
  refine g_aload_n lk_105_0 rfl ?_
  refine g_getfield lk_105_1 rfl (lay.on (by decide) rfl) (v := ((55 : Nat) : Int)) (lay.rf rfl) ?_
  refine g_getfield lk_105_4 rfl (lay.on (by decide) rfl) (v := ((57 : Nat) : Int)) (lay.rf rfl) ?_
  refine g_aload_n lk_105_7 rfl ?_
  refine g_iload_n lk_105_8 rfl ?_
  refine g_iload_n lk_105_9 rfl ?_
  refine g_virtual (p := 54) (Qc := _) lk_105_10 rfl (Nat.le_of_ble_eq_true rfl) rfl rfl (lay.on (by decide) rfl) (Nat.le_of_ble_eq_true rfl) (Nat.le_of_ble_eq_true rfl) (Nat.zero_le _) (Nat.zero_le _) (la) ?_
  rintro _ N1 ⟨rfl, hN1⟩
  rw [hN1]
  show Wp _ 105 13 [(2, ((54 : Nat) : Int)), (0, (r : Int)), (0, (c : Int))] [(0, (k : Int)), (2, ((57 : Nat) : Int))] M _ _ _
  refine m_iaload (u := []) (M := M) lk_105_13 (lay.ay (by decide) rfl) (by omega) (j := k) (by omega) (v := ((ndA L k).2.1 : Int)) xx.2.1 ?_
  refine g_ireturn lk_105_14 (fun h => absurd h (by decide)) ?_
  exact ⟨rfl, rfl⟩
theorem c_Nodes_saysYes1 {d mc ms : Nat} {M : pm_M} (lay : Lay M) {L : List Nd} {dp : Nat → Nat} (hD : TrD L dp) (hL : NdL M 67 68 69 L) {k r c : Nat} (hk : k < L.length) (hr : r < 6) (hc : c < 6) :
    pm_E (d + 1) 39 [(2, ((66 : Nat) : Int)), (0, (k : Int)), (0, (r : Int)), (0, (c : Int))] M mc ms (fun ρ M' => ρ = some (0, if yesAt L r c k then 1 else 0) ∧ M' = M) := by
  have xx := hL k _ (ndA_get hk)
  obtain ⟨a1, a2, _, _⟩ := hD.2.2.2 k hk
  have l31 := hD.2.1
  unfold yesAt
  obtain ⟨x, hx⟩ : ∃ x, x = ndA L k := ⟨_, rfl⟩
  rw [← hx] at xx a1 a2 ⊢
  show Wp (d + 1) 39 0 [(2, ((66 : Nat) : Int)), (0, (k : Int)), (0, (r : Int)), (0, (c : Int))] [] M mc ms _
  refine g_aload_n lk_39_0 rfl ?_
  refine g_getfield lk_39_1 rfl (lay.on (by decide) rfl) (v := ((67 : Nat) : Int)) (lay.rf rfl) ?_
  refine g_iload_n lk_39_4 rfl ?_
  refine m_iaload (u := []) (M := M) lk_39_5 (lay.ay (by decide) rfl) (by omega) (j := k) (by omega) (v := (x.1 : Int)) xx.1 ?_
  refine g_iconst lk_39_6 ?_
  refine g_icmp (t := 14) lk_39_7 rfl (by first | (unfold pm_inI; omega) | exact pm_and_in _ _ | exact pm_shr_in _ _ | exact pm_or_in _ _ | exact pm_xor_in _ _ | exact pm_shl_in _ _ | exact pm_cmp_in _ _ | exact pm_b8_in _ | (unfold pm_inI; split <;> omega)) (by first | (unfold pm_inI; omega) | exact pm_and_in _ _ | exact pm_shr_in _ _ | exact pm_or_in _ _ | exact pm_xor_in _ _ | exact pm_shl_in _ _ | exact pm_cmp_in _ _ | exact pm_b8_in _ | (unfold pm_inI; split <;> omega)) (fun h1 => ?_) (fun h1 => ?_)
  · replace h1 : ¬ (x.1 : Int) = 1 := h1
    refine g_iload_n lk_39_14 rfl ?_
    refine g_aload_n lk_39_15 rfl ?_
    refine g_getfield lk_39_16 rfl (lay.on (by decide) rfl) (v := ((68 : Nat) : Int)) (lay.rf rfl) ?_
    refine g_iload_n lk_39_19 rfl ?_
    refine m_iaload (u := []) (M := M) lk_39_20 (lay.ay (by decide) rfl) (by omega) (j := k) (by omega) (v := (x.2.1 : Int)) xx.2.1 ?_
    refine g_static (Qc := _) lk_39_21 (by decide) rfl (Nat.le_of_ble_eq_true rfl) rfl rfl (Nat.le_of_ble_eq_true rfl) (Nat.le_of_ble_eq_true rfl) (Nat.zero_le _) (Nat.zero_le _) (c_Table_isIn (by omega) (by omega)) ?_
    rintro _ N2 ⟨rfl, hN2⟩
    rw [hN2]
    show Wp _ 39 24 [(2, ((66 : Nat) : Int)), (0, (k : Int)), (0, (r : Int)), (0, (c : Int))] [(0, (if Nat.testBit x.2.1 c then (1 : Int) else 0))] M _ _ _
    refine g_ireturn lk_39_24 (fun _ => by omega) ?_
    exact ⟨by rw [if_neg (show ¬ x.1 = 1 by omega)], rfl⟩
  · replace h1 : ¬ (¬ (x.1 : Int) = 1) := h1
    refine g_iload_n lk_39_10 rfl ?_
    refine g_goto (t := 15) lk_39_11 rfl ?_
    refine g_aload_n lk_39_15 rfl ?_
    refine g_getfield lk_39_16 rfl (lay.on (by decide) rfl) (v := ((68 : Nat) : Int)) (lay.rf rfl) ?_
    refine g_iload_n lk_39_19 rfl ?_
    refine m_iaload (u := []) (M := M) lk_39_20 (lay.ay (by decide) rfl) (by omega) (j := k) (by omega) (v := (x.2.1 : Int)) xx.2.1 ?_
    refine g_static (Qc := _) lk_39_21 (by decide) rfl (Nat.le_of_ble_eq_true rfl) rfl rfl (Nat.le_of_ble_eq_true rfl) (Nat.le_of_ble_eq_true rfl) (Nat.zero_le _) (Nat.zero_le _) (c_Table_isIn (by omega) (by omega)) ?_
    rintro _ N3 ⟨rfl, hN3⟩
    rw [hN3]
    show Wp _ 39 24 [(2, ((66 : Nat) : Int)), (0, (k : Int)), (0, (r : Int)), (0, (c : Int))] [(0, (if Nat.testBit x.2.1 r then (1 : Int) else 0))] M _ _ _
    refine g_ireturn lk_39_24 (fun _ => by omega) ?_
    exact ⟨by rw [if_pos (show x.1 = 1 by omega)], rfl⟩
theorem c_Told_childAt1 {d mc ms : Nat} {M : pm_M} (lay : Lay M) {L : List Nd} {dp : Nat → Nat} (hD : TrD L dp) (hct : pm_ct M 66 3 = (L.length : Int)) (hL : NdL M 67 68 69 L) {k r c : Nat} (hk : k < L.length) (h0 : (ndA L k).1 ≠ 0) (hr : r < 6) (hc : c < 6) :
    pm_E (d + 2) 103 [(2, ((65 : Nat) : Int)), (0, (k : Int)), (0, (r : Int)), (0, (c : Int))] M mc ms (fun ρ M' => ρ = some (0, (nxt L r c k : Int)) ∧ M' = M) := by
  have xx := hL k _ (ndA_get hk)
  obtain ⟨_, _, _, a4⟩ := hD.2.2.2 k hk
  have b := a4 h0
  have l31 := hD.2.1
  have sy := c_Nodes_saysYes1 (d := d) (mc := 0) (ms := 0) lay hD hL hk hr hc
  obtain ⟨n, hn⟩ : ∃ n, n = nxt L r c k := ⟨_, rfl⟩
  have n2 : n = if yesAt L r c k then k + 1 else (ndA L k).2.2.toNat := hn
  obtain ⟨l, hl⟩ : ∃ l, l = L.length := ⟨_, rfl⟩
  rw [← hn]
  rw [← hl] at hct hk b l31
  obtain ⟨z, hz⟩ : ∃ z, z = (ndA L k).2.2 := ⟨_, rfl⟩
  rw [← hz] at xx b n2
  have b3 := b.2.2.1
  have b4 := b.2.2.2.1
  have b2 := b.2.1
  show Wp (d + 2) 103 0 [(2, ((65 : Nat) : Int)), (0, (k : Int)), (0, (r : Int)), (0, (c : Int)), (9, 0)] [] M mc ms _
  by_cases e : yesAt L r c k = true
  · rw [if_pos e] at sy n2
    refine g_aload_n lk_103_0 rfl ?_
    refine g_getfield lk_103_1 rfl (lay.on (by decide) rfl) (v := ((66 : Nat) : Int)) (lay.rf rfl) ?_
    refine g_iload_n lk_103_4 rfl ?_
    refine g_iload_n lk_103_5 rfl ?_
    refine g_iload_n lk_103_6 rfl ?_
    refine g_virtual (p := 66) (Qc := _) lk_103_7 rfl (Nat.le_of_ble_eq_true rfl) rfl rfl (lay.on (by decide) rfl) (Nat.le_of_ble_eq_true rfl) (Nat.le_of_ble_eq_true rfl) (Nat.zero_le _) (Nat.zero_le _) (sy) ?_
    rintro _ N1 ⟨rfl, hN1⟩
    rw [hN1]
    show Wp _ 103 10 [(2, ((65 : Nat) : Int)), (0, (k : Int)), (0, (r : Int)), (0, (c : Int)), (9, 0)] [(0, 1)] M _ _ _
    refine g_if (t := 19) lk_103_10 rfl (by first | (unfold pm_inI; omega) | exact pm_and_in _ _ | exact pm_shr_in _ _ | exact pm_or_in _ _ | exact pm_xor_in _ _ | exact pm_shl_in _ _ | exact pm_cmp_in _ _ | exact pm_b8_in _ | (unfold pm_inI; split <;> omega)) (fun h => absurd h (show ¬ ((1 : Int) = (0 : Int)) by omega)) (fun _ => ?_)
    refine g_iload_n lk_103_13 rfl ?_
    refine g_iconst lk_103_14 ?_
    refine g_iadd lk_103_15 ?_
    refine g_goto (t := 28) lk_103_16 rfl ?_
    refine g_istore (ls' := [(2, ((65 : Nat) : Int)), (0, (k : Int)), (0, (r : Int)), (0, (c : Int)), (0, ((k : Int) + 1))]) lk_103_28 rfl rfl ?_
    refine g_iload lk_103_30 rfl ?_
    refine g_iload_n lk_103_32 rfl ?_
    refine g_icmp (t := 53) lk_103_33 rfl (by first | (unfold pm_inI; omega) | exact pm_and_in _ _ | exact pm_shr_in _ _ | exact pm_or_in _ _ | exact pm_xor_in _ _ | exact pm_shl_in _ _ | exact pm_cmp_in _ _ | exact pm_b8_in _ | (unfold pm_inI; split <;> omega)) (by first | (unfold pm_inI; omega) | exact pm_and_in _ _ | exact pm_shr_in _ _ | exact pm_or_in _ _ | exact pm_xor_in _ _ | exact pm_shl_in _ _ | exact pm_cmp_in _ _ | exact pm_b8_in _ | (unfold pm_inI; split <;> omega)) (fun h2 => ?_) (fun h2 => ?_)
    · replace h2 : ((k : Int) + 1) ≤ (k : Int) := h2
      refine g_iload_n lk_103_53 rfl ?_
      refine g_ireturn lk_103_54 (fun h => absurd h (by decide)) ?_
      omega
    · replace h2 : ¬ (((k : Int) + 1) ≤ (k : Int)) := h2
      refine g_iload lk_103_36 rfl ?_
      refine g_aload_n lk_103_38 rfl ?_
      refine g_getfield lk_103_39 rfl (lay.on (by decide) rfl) (v := ((66 : Nat) : Int)) (lay.rf rfl) ?_
      refine m_getfield (u := []) (M := M) lk_103_42 rfl (lay.on (by decide) rfl) (v := (l : Int)) hct ?_
      refine g_icmp (t := 53) lk_103_45 rfl (by first | (unfold pm_inI; omega) | exact pm_and_in _ _ | exact pm_shr_in _ _ | exact pm_or_in _ _ | exact pm_xor_in _ _ | exact pm_shl_in _ _ | exact pm_cmp_in _ _ | exact pm_b8_in _ | (unfold pm_inI; split <;> omega)) (by first | (unfold pm_inI; omega) | exact pm_and_in _ _ | exact pm_shr_in _ _ | exact pm_or_in _ _ | exact pm_xor_in _ _ | exact pm_shl_in _ _ | exact pm_cmp_in _ _ | exact pm_b8_in _ | (unfold pm_inI; split <;> omega)) (fun h3 => ?_) (fun h3 => ?_)
      · replace h3 : (l : Int) ≤ ((k : Int) + 1) := h3
        refine g_iload_n lk_103_53 rfl ?_
        refine g_ireturn lk_103_54 (fun h => absurd h (by decide)) ?_
        omega
      · replace h3 : ¬ ((l : Int) ≤ ((k : Int) + 1)) := h3
        refine g_iload lk_103_48 rfl ?_
        refine g_goto (t := 54) lk_103_50 rfl ?_
        refine g_ireturn lk_103_54 (fun h => absurd h (by decide)) ?_
        exact ⟨by rw [n2]; rfl, rfl⟩
  · rw [if_neg e] at sy n2
    have zn : z = (n : Int) := by omega
    rw [zn] at xx
    refine g_aload_n lk_103_0 rfl ?_
    refine g_getfield lk_103_1 rfl (lay.on (by decide) rfl) (v := ((66 : Nat) : Int)) (lay.rf rfl) ?_
    refine g_iload_n lk_103_4 rfl ?_
    refine g_iload_n lk_103_5 rfl ?_
    refine g_iload_n lk_103_6 rfl ?_
    refine g_virtual (p := 66) (Qc := _) lk_103_7 rfl (Nat.le_of_ble_eq_true rfl) rfl rfl (lay.on (by decide) rfl) (Nat.le_of_ble_eq_true rfl) (Nat.le_of_ble_eq_true rfl) (Nat.zero_le _) (Nat.zero_le _) (sy) ?_
    rintro _ N1 ⟨rfl, hN1⟩
    rw [hN1]
    show Wp _ 103 10 [(2, ((65 : Nat) : Int)), (0, (k : Int)), (0, (r : Int)), (0, (c : Int)), (9, 0)] [(0, 0)] M _ _ _
    refine g_if (t := 19) lk_103_10 rfl (by first | (unfold pm_inI; omega) | exact pm_and_in _ _ | exact pm_shr_in _ _ | exact pm_or_in _ _ | exact pm_xor_in _ _ | exact pm_shl_in _ _ | exact pm_cmp_in _ _ | exact pm_b8_in _ | (unfold pm_inI; split <;> omega)) (fun _ => ?_) (fun h => absurd (show (0 : Int) = (0 : Int) by omega) h)
    refine g_aload_n lk_103_19 rfl ?_
    refine g_getfield lk_103_20 rfl (lay.on (by decide) rfl) (v := ((66 : Nat) : Int)) (lay.rf rfl) ?_
    refine g_getfield lk_103_23 rfl (lay.on (by decide) rfl) (v := ((69 : Nat) : Int)) (lay.rf rfl) ?_
    refine g_iload_n lk_103_26 rfl ?_
    refine m_iaload (u := []) (M := M) lk_103_27 (lay.ay (by decide) rfl) (by omega) (j := k) (by omega) (v := (n : Int)) xx.2.2 ?_
    refine g_istore (ls' := [(2, ((65 : Nat) : Int)), (0, (k : Int)), (0, (r : Int)), (0, (c : Int)), (0, (n : Int))]) lk_103_28 rfl rfl ?_
    refine g_iload lk_103_30 rfl ?_
    refine g_iload_n lk_103_32 rfl ?_
    refine g_icmp (t := 53) lk_103_33 rfl (by first | (unfold pm_inI; omega) | exact pm_and_in _ _ | exact pm_shr_in _ _ | exact pm_or_in _ _ | exact pm_xor_in _ _ | exact pm_shl_in _ _ | exact pm_cmp_in _ _ | exact pm_b8_in _ | (unfold pm_inI; split <;> omega)) (by first | (unfold pm_inI; omega) | exact pm_and_in _ _ | exact pm_shr_in _ _ | exact pm_or_in _ _ | exact pm_xor_in _ _ | exact pm_shl_in _ _ | exact pm_cmp_in _ _ | exact pm_b8_in _ | (unfold pm_inI; split <;> omega)) (fun h2 => ?_) (fun h2 => ?_)
    · replace h2 : (n : Int) ≤ (k : Int) := h2
      refine g_iload_n lk_103_53 rfl ?_
      refine g_ireturn lk_103_54 (fun h => absurd h (by decide)) ?_
      omega
    · replace h2 : ¬ ((n : Int) ≤ (k : Int)) := h2
      refine g_iload lk_103_36 rfl ?_
      refine g_aload_n lk_103_38 rfl ?_
      refine g_getfield lk_103_39 rfl (lay.on (by decide) rfl) (v := ((66 : Nat) : Int)) (lay.rf rfl) ?_
      refine m_getfield (u := []) (M := M) lk_103_42 rfl (lay.on (by decide) rfl) (v := (l : Int)) hct ?_
      refine g_icmp (t := 53) lk_103_45 rfl (by first | (unfold pm_inI; omega) | exact pm_and_in _ _ | exact pm_shr_in _ _ | exact pm_or_in _ _ | exact pm_xor_in _ _ | exact pm_shl_in _ _ | exact pm_cmp_in _ _ | exact pm_b8_in _ | (unfold pm_inI; split <;> omega)) (by first | (unfold pm_inI; omega) | exact pm_and_in _ _ | exact pm_shr_in _ _ | exact pm_or_in _ _ | exact pm_xor_in _ _ | exact pm_shl_in _ _ | exact pm_cmp_in _ _ | exact pm_b8_in _ | (unfold pm_inI; split <;> omega)) (fun h3 => ?_) (fun h3 => ?_)
      · replace h3 : (l : Int) ≤ (n : Int) := h3
        refine g_iload_n lk_103_53 rfl ?_
        refine g_ireturn lk_103_54 (fun h => absurd h (by decide)) ?_
        omega
      · replace h3 : ¬ ((l : Int) ≤ (n : Int)) := h3
        refine g_iload lk_103_48 rfl ?_
        refine g_goto (t := 54) lk_103_50 rfl ?_
        refine g_ireturn lk_103_54 (fun h => absurd h (by decide)) ?_
        exact ⟨rfl, rfl⟩
theorem c_Told_leafAt1 {d mc ms : Nat} {M : pm_M} (lay : Lay M) {L : List Nd} {dp : Nat → Nat} (hD : TrD L dp) (hct : pm_ct M 66 3 = (L.length : Int)) (hL : NdL M 67 68 69 L) {r c : Nat} (hr : r < 6) (hc : c < 6) :
    pm_E (d + 3) 104 [(2, ((65 : Nat) : Int)), (0, (r : Int)), (0, (c : Int))] M mc ms (fun ρ M' => ρ = some (0, (wy L r c 9 0 : Int)) ∧ M' = M) := by
  obtain ⟨Q, hQ⟩ : ∃ Q : pm_Q, Q = (fun ρ M' => ρ = some (0, (wy L r c 9 0 : Int)) ∧ M' = M) := ⟨_, rfl⟩
  rw [← hQ]
  have l31 := hD.2.1
  have loop : ∀ (n i k : Nat), i + n = 9 → k < L.length → wy L r c 9 0 = wy L r c n k → Wp (d + 3) 104 5 [(2, ((65 : Nat) : Int)), (0, (r : Int)), (0, (c : Int)), (0, (k : Int)), (0, (i : Int))] [] M mc ms Q := by
    intro n
    induction n with
    | zero =>
      intro i k hi hk e
      refine g_iload lk_104_5 rfl ?_
      refine g_bipush lk_104_7 ?_
      refine g_icmp (t := 38) lk_104_9 rfl (by first | (unfold pm_inI; omega) | exact pm_and_in _ _ | exact pm_shr_in _ _ | exact pm_or_in _ _ | exact pm_xor_in _ _ | exact pm_shl_in _ _ | exact pm_cmp_in _ _ | exact pm_b8_in _ | (unfold pm_inI; split <;> omega)) (by first | (unfold pm_inI; omega) | exact pm_and_in _ _ | exact pm_shr_in _ _ | exact pm_or_in _ _ | exact pm_xor_in _ _ | exact pm_shl_in _ _ | exact pm_cmp_in _ _ | exact pm_b8_in _ | (unfold pm_inI; split <;> omega)) (fun h1 => ?_) (fun h1 => ?_)
      · replace h1 : 9 ≤ (i : Int) := h1
        refine g_iload_n lk_104_38 rfl ?_
        refine g_ireturn lk_104_39 (fun h => absurd h (by decide)) ?_
        rw [hQ]
        exact ⟨by rw [e]; rfl, rfl⟩
      · replace h1 : ¬ (9 ≤ (i : Int)) := h1
        omega
    | succ n ih =>
      intro i k hi hk e
      have xx := hL k _ (ndA_get hk)
      replace e : wy L r c 9 0 = if (ndA L k).1 = 0 then k else wy L r c n (nxt L r c k) := e
      by_cases h0 : (ndA L k).1 = 0
      · rw [if_pos h0] at e
        rw [h0] at xx
        have x0 : pm_ct M 67 k = 0 := xx.1
        refine g_iload lk_104_5 rfl ?_
        refine g_bipush lk_104_7 ?_
        refine g_icmp (t := 38) lk_104_9 rfl (by first | (unfold pm_inI; omega) | exact pm_and_in _ _ | exact pm_shr_in _ _ | exact pm_or_in _ _ | exact pm_xor_in _ _ | exact pm_shl_in _ _ | exact pm_cmp_in _ _ | exact pm_b8_in _ | (unfold pm_inI; split <;> omega)) (by first | (unfold pm_inI; omega) | exact pm_and_in _ _ | exact pm_shr_in _ _ | exact pm_or_in _ _ | exact pm_xor_in _ _ | exact pm_shl_in _ _ | exact pm_cmp_in _ _ | exact pm_b8_in _ | (unfold pm_inI; split <;> omega)) (fun h1 => ?_) (fun h1 => ?_)
        · replace h1 : 9 ≤ (i : Int) := h1
          refine g_iload_n lk_104_38 rfl ?_
          refine g_ireturn lk_104_39 (fun h => absurd h (by decide)) ?_
          omega
        · replace h1 : ¬ (9 ≤ (i : Int)) := h1
          refine g_aload_n lk_104_12 rfl ?_
          refine g_getfield lk_104_13 rfl (lay.on (by decide) rfl) (v := ((66 : Nat) : Int)) (lay.rf rfl) ?_
          refine g_getfield lk_104_16 rfl (lay.on (by decide) rfl) (v := ((67 : Nat) : Int)) (lay.rf rfl) ?_
          refine g_iload_n lk_104_19 rfl ?_
          refine m_iaload (u := []) (M := M) lk_104_20 (lay.ay (by decide) rfl) (by omega) (j := k) (by omega) (v := 0) x0 ?_
          refine g_if (t := 38) lk_104_21 rfl (by first | (unfold pm_inI; omega) | exact pm_and_in _ _ | exact pm_shr_in _ _ | exact pm_or_in _ _ | exact pm_xor_in _ _ | exact pm_shl_in _ _ | exact pm_cmp_in _ _ | exact pm_b8_in _ | (unfold pm_inI; split <;> omega)) (fun _ => ?_) (fun h => absurd (show (0 : Int) = (0 : Int) by omega) h)
          refine g_iload_n lk_104_38 rfl ?_
          refine g_ireturn lk_104_39 (fun h => absurd h (by decide)) ?_
          rw [hQ]
          exact ⟨by rw [e], rfl⟩
      · rw [if_neg h0] at e
        obtain ⟨x, hx⟩ : ∃ x, x = (ndA L k).1 := ⟨_, rfl⟩
        have x0 : pm_ct M 67 k = (x : Int) := by rw [hx]; exact xx.1
        have a1 := (hD.2.2.2 k hk).1
        have nx := nxt_ok hD (r := r) (c := c) hk h0
        have ch := c_Told_childAt1 (d := d) (mc := 0) (ms := 0) lay hD hct hL hk h0 hr hc
        obtain ⟨m, hm⟩ : ∃ m, m = nxt L r c k := ⟨_, rfl⟩
        rw [← hm] at e nx ch
        refine g_iload lk_104_5 rfl ?_
        refine g_bipush lk_104_7 ?_
        refine g_icmp (t := 38) lk_104_9 rfl (by first | (unfold pm_inI; omega) | exact pm_and_in _ _ | exact pm_shr_in _ _ | exact pm_or_in _ _ | exact pm_xor_in _ _ | exact pm_shl_in _ _ | exact pm_cmp_in _ _ | exact pm_b8_in _ | (unfold pm_inI; split <;> omega)) (by first | (unfold pm_inI; omega) | exact pm_and_in _ _ | exact pm_shr_in _ _ | exact pm_or_in _ _ | exact pm_xor_in _ _ | exact pm_shl_in _ _ | exact pm_cmp_in _ _ | exact pm_b8_in _ | (unfold pm_inI; split <;> omega)) (fun h1 => ?_) (fun h1 => ?_)
        · replace h1 : 9 ≤ (i : Int) := h1
          refine g_iload_n lk_104_38 rfl ?_
          refine g_ireturn lk_104_39 (fun h => absurd h (by decide)) ?_
          omega
        · replace h1 : ¬ (9 ≤ (i : Int)) := h1
          refine g_aload_n lk_104_12 rfl ?_
          refine g_getfield lk_104_13 rfl (lay.on (by decide) rfl) (v := ((66 : Nat) : Int)) (lay.rf rfl) ?_
          refine g_getfield lk_104_16 rfl (lay.on (by decide) rfl) (v := ((67 : Nat) : Int)) (lay.rf rfl) ?_
          refine g_iload_n lk_104_19 rfl ?_
          refine m_iaload (u := []) (M := M) lk_104_20 (lay.ay (by decide) rfl) (by omega) (j := k) (by omega) (v := (x : Int)) x0 ?_
          refine g_if (t := 38) lk_104_21 rfl (by first | (unfold pm_inI; omega) | exact pm_and_in _ _ | exact pm_shr_in _ _ | exact pm_or_in _ _ | exact pm_xor_in _ _ | exact pm_shl_in _ _ | exact pm_cmp_in _ _ | exact pm_b8_in _ | (unfold pm_inI; split <;> omega)) (fun h2 => ?_) (fun h2 => ?_)
          · replace h2 : (x : Int) = 0 := h2
            refine g_iload_n lk_104_38 rfl ?_
            refine g_ireturn lk_104_39 (fun h => absurd h (by decide)) ?_
            omega
          · replace h2 : ¬ ((x : Int) = 0) := h2
            refine g_aload_n lk_104_24 rfl ?_
            refine g_iload_n lk_104_25 rfl ?_
            refine g_iload_n lk_104_26 rfl ?_
            refine g_iload_n lk_104_27 rfl ?_
            refine g_virtual (p := 65) (Qc := _) lk_104_28 rfl (Nat.le_of_ble_eq_true rfl) rfl rfl (lay.on (by decide) rfl) (Nat.le_of_ble_eq_true rfl) (Nat.le_of_ble_eq_true rfl) (Nat.zero_le _) (Nat.zero_le _) (ch) ?_
            rintro _ N3 ⟨rfl, hN3⟩
            rw [hN3]
            show Wp _ 104 31 [(2, ((65 : Nat) : Int)), (0, (r : Int)), (0, (c : Int)), (0, (k : Int)), (0, (i : Int))] [(0, (m : Int))] M _ _ _
            refine g_istore_n (ls' := [(2, ((65 : Nat) : Int)), (0, (r : Int)), (0, (c : Int)), (0, (m : Int)), (0, (i : Int))]) lk_104_31 rfl rfl ?_
            refine g_iinc (ls' := [(2, ((65 : Nat) : Int)), (0, (r : Int)), (0, (c : Int)), (0, (m : Int)), (0, ((i : Int) + 1))]) lk_104_32 rfl rfl rfl ?_
            refine g_goto (t := 5) lk_104_35 rfl ?_
            exact ih (i + 1) m (by omega) nx.2.1 e
  show Wp (d + 3) 104 0 [(2, ((65 : Nat) : Int)), (0, (r : Int)), (0, (c : Int)), (9, 0), (9, 0)] [] M mc ms Q
  refine g_iconst lk_104_0 ?_
  refine g_istore_n (ls' := [(2, ((65 : Nat) : Int)), (0, (r : Int)), (0, (c : Int)), (0, 0), (9, 0)]) lk_104_1 rfl rfl ?_
  refine g_iconst lk_104_2 ?_
  refine g_istore (ls' := [(2, ((65 : Nat) : Int)), (0, (r : Int)), (0, (c : Int)), (0, 0), (0, 0)]) lk_104_3 rfl rfl ?_
  exact loop 9 0 0 rfl (by have := hD.1; omega) rfl
theorem c_Told_answerAt1 {d mc ms : Nat} {M : pm_M} (lay : Lay M) {L : List Nd} {dp : Nat → Nat} (hD : TrD L dp) (hct : pm_ct M 66 3 = (L.length : Int)) (hL : NdL M 67 68 69 L) {r c : Nat} (hr : r < 6) (hc : c < 6) :
    pm_E (d + 4) 105 [(2, ((65 : Nat) : Int)), (0, (r : Int)), (0, (c : Int))] M mc ms (fun ρ M' => ρ = some (0, ((ndA L (wy L r c 9 0)).2.1 : Int)) ∧ M' = M) := by
  have l31 := hD.2.1
  have wl := (wy_leaf hD (r := r) (c := c) (n := 9) (k := 0) (by have := hD.1; omega) (by omega)).2
  have la := c_Told_leafAt1 (d := d) (mc := 0) (ms := 0) lay hD hct hL hr hc
  obtain ⟨k, hk⟩ : ∃ k, k = wy L r c 9 0 := ⟨_, rfl⟩
  rw [← hk] at la wl ⊢
  have xx := hL k _ (ndA_get wl)
  show Wp (d + 4) 105 0 [(2, ((65 : Nat) : Int)), (0, (r : Int)), (0, (c : Int))] [] M mc ms _
  refine g_aload_n lk_105_0 rfl ?_
  refine g_getfield lk_105_1 rfl (lay.on (by decide) rfl) (v := ((66 : Nat) : Int)) (lay.rf rfl) ?_
  refine g_getfield lk_105_4 rfl (lay.on (by decide) rfl) (v := ((68 : Nat) : Int)) (lay.rf rfl) ?_
  refine g_aload_n lk_105_7 rfl ?_
  refine g_iload_n lk_105_8 rfl ?_
  refine g_iload_n lk_105_9 rfl ?_
  refine g_virtual (p := 65) (Qc := _) lk_105_10 rfl (Nat.le_of_ble_eq_true rfl) rfl rfl (lay.on (by decide) rfl) (Nat.le_of_ble_eq_true rfl) (Nat.le_of_ble_eq_true rfl) (Nat.zero_le _) (Nat.zero_le _) (la) ?_
  rintro _ N1 ⟨rfl, hN1⟩
  rw [hN1]
  show Wp _ 105 13 [(2, ((65 : Nat) : Int)), (0, (r : Int)), (0, (c : Int))] [(0, (k : Int)), (2, ((68 : Nat) : Int))] M _ _ _
  refine m_iaload (u := []) (M := M) lk_105_13 (lay.ay (by decide) rfl) (by omega) (j := k) (by omega) (v := ((ndA L k).2.1 : Int)) xx.2.1 ?_
  refine g_ireturn lk_105_14 (fun h => absurd h (by decide)) ?_
  exact ⟨rfl, rfl⟩
theorem c_Nodes_saysYes2 {d mc ms : Nat} {M : pm_M} (lay : Lay M) {L : List Nd} {dp : Nat → Nat} (hD : TrD L dp) (hL : NdL M 78 79 80 L) {k r c : Nat} (hk : k < L.length) (hr : r < 6) (hc : c < 6) :
    pm_E (d + 1) 39 [(2, ((77 : Nat) : Int)), (0, (k : Int)), (0, (r : Int)), (0, (c : Int))] M mc ms (fun ρ M' => ρ = some (0, if yesAt L r c k then 1 else 0) ∧ M' = M) := by
  have xx := hL k _ (ndA_get hk)
  obtain ⟨a1, a2, _, _⟩ := hD.2.2.2 k hk
  have l31 := hD.2.1
  unfold yesAt
  obtain ⟨x, hx⟩ : ∃ x, x = ndA L k := ⟨_, rfl⟩
  rw [← hx] at xx a1 a2 ⊢
  show Wp (d + 1) 39 0 [(2, ((77 : Nat) : Int)), (0, (k : Int)), (0, (r : Int)), (0, (c : Int))] [] M mc ms _
  refine g_aload_n lk_39_0 rfl ?_
  refine g_getfield lk_39_1 rfl (lay.on (by decide) rfl) (v := ((78 : Nat) : Int)) (lay.rf rfl) ?_
  refine g_iload_n lk_39_4 rfl ?_
  refine m_iaload (u := []) (M := M) lk_39_5 (lay.ay (by decide) rfl) (by omega) (j := k) (by omega) (v := (x.1 : Int)) xx.1 ?_
  refine g_iconst lk_39_6 ?_
  refine g_icmp (t := 14) lk_39_7 rfl (by first | (unfold pm_inI; omega) | exact pm_and_in _ _ | exact pm_shr_in _ _ | exact pm_or_in _ _ | exact pm_xor_in _ _ | exact pm_shl_in _ _ | exact pm_cmp_in _ _ | exact pm_b8_in _ | (unfold pm_inI; split <;> omega)) (by first | (unfold pm_inI; omega) | exact pm_and_in _ _ | exact pm_shr_in _ _ | exact pm_or_in _ _ | exact pm_xor_in _ _ | exact pm_shl_in _ _ | exact pm_cmp_in _ _ | exact pm_b8_in _ | (unfold pm_inI; split <;> omega)) (fun h1 => ?_) (fun h1 => ?_)
  · replace h1 : ¬ (x.1 : Int) = 1 := h1
    refine g_iload_n lk_39_14 rfl ?_
    refine g_aload_n lk_39_15 rfl ?_
    refine g_getfield lk_39_16 rfl (lay.on (by decide) rfl) (v := ((79 : Nat) : Int)) (lay.rf rfl) ?_
    refine g_iload_n lk_39_19 rfl ?_
    refine m_iaload (u := []) (M := M) lk_39_20 (lay.ay (by decide) rfl) (by omega) (j := k) (by omega) (v := (x.2.1 : Int)) xx.2.1 ?_
    refine g_static (Qc := _) lk_39_21 (by decide) rfl (Nat.le_of_ble_eq_true rfl) rfl rfl (Nat.le_of_ble_eq_true rfl) (Nat.le_of_ble_eq_true rfl) (Nat.zero_le _) (Nat.zero_le _) (c_Table_isIn (by omega) (by omega)) ?_
    rintro _ N2 ⟨rfl, hN2⟩
    rw [hN2]
    show Wp _ 39 24 [(2, ((77 : Nat) : Int)), (0, (k : Int)), (0, (r : Int)), (0, (c : Int))] [(0, (if Nat.testBit x.2.1 c then (1 : Int) else 0))] M _ _ _
    refine g_ireturn lk_39_24 (fun _ => by omega) ?_
    exact ⟨by rw [if_neg (show ¬ x.1 = 1 by omega)], rfl⟩
  · replace h1 : ¬ (¬ (x.1 : Int) = 1) := h1
    refine g_iload_n lk_39_10 rfl ?_
    refine g_goto (t := 15) lk_39_11 rfl ?_
    refine g_aload_n lk_39_15 rfl ?_
    refine g_getfield lk_39_16 rfl (lay.on (by decide) rfl) (v := ((79 : Nat) : Int)) (lay.rf rfl) ?_
    refine g_iload_n lk_39_19 rfl ?_
    refine m_iaload (u := []) (M := M) lk_39_20 (lay.ay (by decide) rfl) (by omega) (j := k) (by omega) (v := (x.2.1 : Int)) xx.2.1 ?_
    refine g_static (Qc := _) lk_39_21 (by decide) rfl (Nat.le_of_ble_eq_true rfl) rfl rfl (Nat.le_of_ble_eq_true rfl) (Nat.le_of_ble_eq_true rfl) (Nat.zero_le _) (Nat.zero_le _) (c_Table_isIn (by omega) (by omega)) ?_
    rintro _ N3 ⟨rfl, hN3⟩
    rw [hN3]
    show Wp _ 39 24 [(2, ((77 : Nat) : Int)), (0, (k : Int)), (0, (r : Int)), (0, (c : Int))] [(0, (if Nat.testBit x.2.1 r then (1 : Int) else 0))] M _ _ _
    refine g_ireturn lk_39_24 (fun _ => by omega) ?_
    exact ⟨by rw [if_pos (show x.1 = 1 by omega)], rfl⟩
theorem c_Told_childAt2 {d mc ms : Nat} {M : pm_M} (lay : Lay M) {L : List Nd} {dp : Nat → Nat} (hD : TrD L dp) (hct : pm_ct M 77 3 = (L.length : Int)) (hL : NdL M 78 79 80 L) {k r c : Nat} (hk : k < L.length) (h0 : (ndA L k).1 ≠ 0) (hr : r < 6) (hc : c < 6) :
    pm_E (d + 2) 103 [(2, ((76 : Nat) : Int)), (0, (k : Int)), (0, (r : Int)), (0, (c : Int))] M mc ms (fun ρ M' => ρ = some (0, (nxt L r c k : Int)) ∧ M' = M) := by
  have xx := hL k _ (ndA_get hk)
  obtain ⟨_, _, _, a4⟩ := hD.2.2.2 k hk
  have b := a4 h0
  have l31 := hD.2.1
  have sy := c_Nodes_saysYes2 (d := d) (mc := 0) (ms := 0) lay hD hL hk hr hc
  obtain ⟨n, hn⟩ : ∃ n, n = nxt L r c k := ⟨_, rfl⟩
  have n2 : n = if yesAt L r c k then k + 1 else (ndA L k).2.2.toNat := hn
  obtain ⟨l, hl⟩ : ∃ l, l = L.length := ⟨_, rfl⟩
  rw [← hn]
  rw [← hl] at hct hk b l31
  obtain ⟨z, hz⟩ : ∃ z, z = (ndA L k).2.2 := ⟨_, rfl⟩
  rw [← hz] at xx b n2
  have b3 := b.2.2.1
  have b4 := b.2.2.2.1
  have b2 := b.2.1
  show Wp (d + 2) 103 0 [(2, ((76 : Nat) : Int)), (0, (k : Int)), (0, (r : Int)), (0, (c : Int)), (9, 0)] [] M mc ms _
  by_cases e : yesAt L r c k = true
  · rw [if_pos e] at sy n2
    refine g_aload_n lk_103_0 rfl ?_
    refine g_getfield lk_103_1 rfl (lay.on (by decide) rfl) (v := ((77 : Nat) : Int)) (lay.rf rfl) ?_
    refine g_iload_n lk_103_4 rfl ?_
    refine g_iload_n lk_103_5 rfl ?_
    refine g_iload_n lk_103_6 rfl ?_
    refine g_virtual (p := 77) (Qc := _) lk_103_7 rfl (Nat.le_of_ble_eq_true rfl) rfl rfl (lay.on (by decide) rfl) (Nat.le_of_ble_eq_true rfl) (Nat.le_of_ble_eq_true rfl) (Nat.zero_le _) (Nat.zero_le _) (sy) ?_
    rintro _ N1 ⟨rfl, hN1⟩
    rw [hN1]
    show Wp _ 103 10 [(2, ((76 : Nat) : Int)), (0, (k : Int)), (0, (r : Int)), (0, (c : Int)), (9, 0)] [(0, 1)] M _ _ _
    refine g_if (t := 19) lk_103_10 rfl (by first | (unfold pm_inI; omega) | exact pm_and_in _ _ | exact pm_shr_in _ _ | exact pm_or_in _ _ | exact pm_xor_in _ _ | exact pm_shl_in _ _ | exact pm_cmp_in _ _ | exact pm_b8_in _ | (unfold pm_inI; split <;> omega)) (fun h => absurd h (show ¬ ((1 : Int) = (0 : Int)) by omega)) (fun _ => ?_)
    refine g_iload_n lk_103_13 rfl ?_
    refine g_iconst lk_103_14 ?_
    refine g_iadd lk_103_15 ?_
    refine g_goto (t := 28) lk_103_16 rfl ?_
    refine g_istore (ls' := [(2, ((76 : Nat) : Int)), (0, (k : Int)), (0, (r : Int)), (0, (c : Int)), (0, ((k : Int) + 1))]) lk_103_28 rfl rfl ?_
    refine g_iload lk_103_30 rfl ?_
    refine g_iload_n lk_103_32 rfl ?_
    refine g_icmp (t := 53) lk_103_33 rfl (by first | (unfold pm_inI; omega) | exact pm_and_in _ _ | exact pm_shr_in _ _ | exact pm_or_in _ _ | exact pm_xor_in _ _ | exact pm_shl_in _ _ | exact pm_cmp_in _ _ | exact pm_b8_in _ | (unfold pm_inI; split <;> omega)) (by first | (unfold pm_inI; omega) | exact pm_and_in _ _ | exact pm_shr_in _ _ | exact pm_or_in _ _ | exact pm_xor_in _ _ | exact pm_shl_in _ _ | exact pm_cmp_in _ _ | exact pm_b8_in _ | (unfold pm_inI; split <;> omega)) (fun h2 => ?_) (fun h2 => ?_)
    · replace h2 : ((k : Int) + 1) ≤ (k : Int) := h2
      refine g_iload_n lk_103_53 rfl ?_
      refine g_ireturn lk_103_54 (fun h => absurd h (by decide)) ?_
      omega
    · replace h2 : ¬ (((k : Int) + 1) ≤ (k : Int)) := h2
      refine g_iload lk_103_36 rfl ?_
      refine g_aload_n lk_103_38 rfl ?_
      refine g_getfield lk_103_39 rfl (lay.on (by decide) rfl) (v := ((77 : Nat) : Int)) (lay.rf rfl) ?_
      refine m_getfield (u := []) (M := M) lk_103_42 rfl (lay.on (by decide) rfl) (v := (l : Int)) hct ?_
      refine g_icmp (t := 53) lk_103_45 rfl (by first | (unfold pm_inI; omega) | exact pm_and_in _ _ | exact pm_shr_in _ _ | exact pm_or_in _ _ | exact pm_xor_in _ _ | exact pm_shl_in _ _ | exact pm_cmp_in _ _ | exact pm_b8_in _ | (unfold pm_inI; split <;> omega)) (by first | (unfold pm_inI; omega) | exact pm_and_in _ _ | exact pm_shr_in _ _ | exact pm_or_in _ _ | exact pm_xor_in _ _ | exact pm_shl_in _ _ | exact pm_cmp_in _ _ | exact pm_b8_in _ | (unfold pm_inI; split <;> omega)) (fun h3 => ?_) (fun h3 => ?_)
      · replace h3 : (l : Int) ≤ ((k : Int) + 1) := h3
        refine g_iload_n lk_103_53 rfl ?_
        refine g_ireturn lk_103_54 (fun h => absurd h (by decide)) ?_
        omega
      · replace h3 : ¬ ((l : Int) ≤ ((k : Int) + 1)) := h3
        refine g_iload lk_103_48 rfl ?_
        refine g_goto (t := 54) lk_103_50 rfl ?_
        refine g_ireturn lk_103_54 (fun h => absurd h (by decide)) ?_
        exact ⟨by rw [n2]; rfl, rfl⟩
  · rw [if_neg e] at sy n2
    have zn : z = (n : Int) := by omega
    rw [zn] at xx
    refine g_aload_n lk_103_0 rfl ?_
    refine g_getfield lk_103_1 rfl (lay.on (by decide) rfl) (v := ((77 : Nat) : Int)) (lay.rf rfl) ?_
    refine g_iload_n lk_103_4 rfl ?_
    refine g_iload_n lk_103_5 rfl ?_
    refine g_iload_n lk_103_6 rfl ?_
    refine g_virtual (p := 77) (Qc := _) lk_103_7 rfl (Nat.le_of_ble_eq_true rfl) rfl rfl (lay.on (by decide) rfl) (Nat.le_of_ble_eq_true rfl) (Nat.le_of_ble_eq_true rfl) (Nat.zero_le _) (Nat.zero_le _) (sy) ?_
    rintro _ N1 ⟨rfl, hN1⟩
    rw [hN1]
    show Wp _ 103 10 [(2, ((76 : Nat) : Int)), (0, (k : Int)), (0, (r : Int)), (0, (c : Int)), (9, 0)] [(0, 0)] M _ _ _
    refine g_if (t := 19) lk_103_10 rfl (by first | (unfold pm_inI; omega) | exact pm_and_in _ _ | exact pm_shr_in _ _ | exact pm_or_in _ _ | exact pm_xor_in _ _ | exact pm_shl_in _ _ | exact pm_cmp_in _ _ | exact pm_b8_in _ | (unfold pm_inI; split <;> omega)) (fun _ => ?_) (fun h => absurd (show (0 : Int) = (0 : Int) by omega) h)
    refine g_aload_n lk_103_19 rfl ?_
    refine g_getfield lk_103_20 rfl (lay.on (by decide) rfl) (v := ((77 : Nat) : Int)) (lay.rf rfl) ?_
    refine g_getfield lk_103_23 rfl (lay.on (by decide) rfl) (v := ((80 : Nat) : Int)) (lay.rf rfl) ?_
    refine g_iload_n lk_103_26 rfl ?_
    refine m_iaload (u := []) (M := M) lk_103_27 (lay.ay (by decide) rfl) (by omega) (j := k) (by omega) (v := (n : Int)) xx.2.2 ?_
    refine g_istore (ls' := [(2, ((76 : Nat) : Int)), (0, (k : Int)), (0, (r : Int)), (0, (c : Int)), (0, (n : Int))]) lk_103_28 rfl rfl ?_
    refine g_iload lk_103_30 rfl ?_
    refine g_iload_n lk_103_32 rfl ?_
    refine g_icmp (t := 53) lk_103_33 rfl (by first | (unfold pm_inI; omega) | exact pm_and_in _ _ | exact pm_shr_in _ _ | exact pm_or_in _ _ | exact pm_xor_in _ _ | exact pm_shl_in _ _ | exact pm_cmp_in _ _ | exact pm_b8_in _ | (unfold pm_inI; split <;> omega)) (by first | (unfold pm_inI; omega) | exact pm_and_in _ _ | exact pm_shr_in _ _ | exact pm_or_in _ _ | exact pm_xor_in _ _ | exact pm_shl_in _ _ | exact pm_cmp_in _ _ | exact pm_b8_in _ | (unfold pm_inI; split <;> omega)) (fun h2 => ?_) (fun h2 => ?_)
    · replace h2 : (n : Int) ≤ (k : Int) := h2
      refine g_iload_n lk_103_53 rfl ?_
      refine g_ireturn lk_103_54 (fun h => absurd h (by decide)) ?_
      omega
    · replace h2 : ¬ ((n : Int) ≤ (k : Int)) := h2
      refine g_iload lk_103_36 rfl ?_
      refine g_aload_n lk_103_38 rfl ?_
      refine g_getfield lk_103_39 rfl (lay.on (by decide) rfl) (v := ((77 : Nat) : Int)) (lay.rf rfl) ?_
      refine m_getfield (u := []) (M := M) lk_103_42 rfl (lay.on (by decide) rfl) (v := (l : Int)) hct ?_
      refine g_icmp (t := 53) lk_103_45 rfl (by first | (unfold pm_inI; omega) | exact pm_and_in _ _ | exact pm_shr_in _ _ | exact pm_or_in _ _ | exact pm_xor_in _ _ | exact pm_shl_in _ _ | exact pm_cmp_in _ _ | exact pm_b8_in _ | (unfold pm_inI; split <;> omega)) (by first | (unfold pm_inI; omega) | exact pm_and_in _ _ | exact pm_shr_in _ _ | exact pm_or_in _ _ | exact pm_xor_in _ _ | exact pm_shl_in _ _ | exact pm_cmp_in _ _ | exact pm_b8_in _ | (unfold pm_inI; split <;> omega)) (fun h3 => ?_) (fun h3 => ?_)
      · replace h3 : (l : Int) ≤ (n : Int) := h3
        refine g_iload_n lk_103_53 rfl ?_
        refine g_ireturn lk_103_54 (fun h => absurd h (by decide)) ?_
        omega
      · replace h3 : ¬ ((l : Int) ≤ (n : Int)) := h3
        refine g_iload lk_103_48 rfl ?_
        refine g_goto (t := 54) lk_103_50 rfl ?_
        refine g_ireturn lk_103_54 (fun h => absurd h (by decide)) ?_
        exact ⟨rfl, rfl⟩
theorem c_Told_leafAt2 {d mc ms : Nat} {M : pm_M} (lay : Lay M) {L : List Nd} {dp : Nat → Nat} (hD : TrD L dp) (hct : pm_ct M 77 3 = (L.length : Int)) (hL : NdL M 78 79 80 L) {r c : Nat} (hr : r < 6) (hc : c < 6) :
    pm_E (d + 3) 104 [(2, ((76 : Nat) : Int)), (0, (r : Int)), (0, (c : Int))] M mc ms (fun ρ M' => ρ = some (0, (wy L r c 9 0 : Int)) ∧ M' = M) := by
  obtain ⟨Q, hQ⟩ : ∃ Q : pm_Q, Q = (fun ρ M' => ρ = some (0, (wy L r c 9 0 : Int)) ∧ M' = M) := ⟨_, rfl⟩
  rw [← hQ]
  have l31 := hD.2.1
  have loop : ∀ (n i k : Nat), i + n = 9 → k < L.length → wy L r c 9 0 = wy L r c n k → Wp (d + 3) 104 5 [(2, ((76 : Nat) : Int)), (0, (r : Int)), (0, (c : Int)), (0, (k : Int)), (0, (i : Int))] [] M mc ms Q := by
    intro n
    induction n with
    | zero =>
      intro i k hi hk e
      refine g_iload lk_104_5 rfl ?_
      refine g_bipush lk_104_7 ?_
      refine g_icmp (t := 38) lk_104_9 rfl (by first | (unfold pm_inI; omega) | exact pm_and_in _ _ | exact pm_shr_in _ _ | exact pm_or_in _ _ | exact pm_xor_in _ _ | exact pm_shl_in _ _ | exact pm_cmp_in _ _ | exact pm_b8_in _ | (unfold pm_inI; split <;> omega)) (by first | (unfold pm_inI; omega) | exact pm_and_in _ _ | exact pm_shr_in _ _ | exact pm_or_in _ _ | exact pm_xor_in _ _ | exact pm_shl_in _ _ | exact pm_cmp_in _ _ | exact pm_b8_in _ | (unfold pm_inI; split <;> omega)) (fun h1 => ?_) (fun h1 => ?_)
      · replace h1 : 9 ≤ (i : Int) := h1
        refine g_iload_n lk_104_38 rfl ?_
        refine g_ireturn lk_104_39 (fun h => absurd h (by decide)) ?_
        rw [hQ]
        exact ⟨by rw [e]; rfl, rfl⟩
      · replace h1 : ¬ (9 ≤ (i : Int)) := h1
        omega
    | succ n ih =>
      intro i k hi hk e
      have xx := hL k _ (ndA_get hk)
      replace e : wy L r c 9 0 = if (ndA L k).1 = 0 then k else wy L r c n (nxt L r c k) := e
      by_cases h0 : (ndA L k).1 = 0
      · rw [if_pos h0] at e
        rw [h0] at xx
        have x0 : pm_ct M 78 k = 0 := xx.1
        refine g_iload lk_104_5 rfl ?_
        refine g_bipush lk_104_7 ?_
        refine g_icmp (t := 38) lk_104_9 rfl (by first | (unfold pm_inI; omega) | exact pm_and_in _ _ | exact pm_shr_in _ _ | exact pm_or_in _ _ | exact pm_xor_in _ _ | exact pm_shl_in _ _ | exact pm_cmp_in _ _ | exact pm_b8_in _ | (unfold pm_inI; split <;> omega)) (by first | (unfold pm_inI; omega) | exact pm_and_in _ _ | exact pm_shr_in _ _ | exact pm_or_in _ _ | exact pm_xor_in _ _ | exact pm_shl_in _ _ | exact pm_cmp_in _ _ | exact pm_b8_in _ | (unfold pm_inI; split <;> omega)) (fun h1 => ?_) (fun h1 => ?_)
        · replace h1 : 9 ≤ (i : Int) := h1
          refine g_iload_n lk_104_38 rfl ?_
          refine g_ireturn lk_104_39 (fun h => absurd h (by decide)) ?_
          omega
        · replace h1 : ¬ (9 ≤ (i : Int)) := h1
          refine g_aload_n lk_104_12 rfl ?_
          refine g_getfield lk_104_13 rfl (lay.on (by decide) rfl) (v := ((77 : Nat) : Int)) (lay.rf rfl) ?_
          refine g_getfield lk_104_16 rfl (lay.on (by decide) rfl) (v := ((78 : Nat) : Int)) (lay.rf rfl) ?_
          refine g_iload_n lk_104_19 rfl ?_
          refine m_iaload (u := []) (M := M) lk_104_20 (lay.ay (by decide) rfl) (by omega) (j := k) (by omega) (v := 0) x0 ?_
          refine g_if (t := 38) lk_104_21 rfl (by first | (unfold pm_inI; omega) | exact pm_and_in _ _ | exact pm_shr_in _ _ | exact pm_or_in _ _ | exact pm_xor_in _ _ | exact pm_shl_in _ _ | exact pm_cmp_in _ _ | exact pm_b8_in _ | (unfold pm_inI; split <;> omega)) (fun _ => ?_) (fun h => absurd (show (0 : Int) = (0 : Int) by omega) h)
          refine g_iload_n lk_104_38 rfl ?_
          refine g_ireturn lk_104_39 (fun h => absurd h (by decide)) ?_
          rw [hQ]
          exact ⟨by rw [e], rfl⟩
      · rw [if_neg h0] at e
        obtain ⟨x, hx⟩ : ∃ x, x = (ndA L k).1 := ⟨_, rfl⟩
        have x0 : pm_ct M 78 k = (x : Int) := by rw [hx]; exact xx.1
        have a1 := (hD.2.2.2 k hk).1
        have nx := nxt_ok hD (r := r) (c := c) hk h0
        have ch := c_Told_childAt2 (d := d) (mc := 0) (ms := 0) lay hD hct hL hk h0 hr hc
        obtain ⟨m, hm⟩ : ∃ m, m = nxt L r c k := ⟨_, rfl⟩
        rw [← hm] at e nx ch
        refine g_iload lk_104_5 rfl ?_
        refine g_bipush lk_104_7 ?_
        refine g_icmp (t := 38) lk_104_9 rfl (by first | (unfold pm_inI; omega) | exact pm_and_in _ _ | exact pm_shr_in _ _ | exact pm_or_in _ _ | exact pm_xor_in _ _ | exact pm_shl_in _ _ | exact pm_cmp_in _ _ | exact pm_b8_in _ | (unfold pm_inI; split <;> omega)) (by first | (unfold pm_inI; omega) | exact pm_and_in _ _ | exact pm_shr_in _ _ | exact pm_or_in _ _ | exact pm_xor_in _ _ | exact pm_shl_in _ _ | exact pm_cmp_in _ _ | exact pm_b8_in _ | (unfold pm_inI; split <;> omega)) (fun h1 => ?_) (fun h1 => ?_)
        · replace h1 : 9 ≤ (i : Int) := h1
          refine g_iload_n lk_104_38 rfl ?_
          refine g_ireturn lk_104_39 (fun h => absurd h (by decide)) ?_
          omega
        · replace h1 : ¬ (9 ≤ (i : Int)) := h1
          refine g_aload_n lk_104_12 rfl ?_
          refine g_getfield lk_104_13 rfl (lay.on (by decide) rfl) (v := ((77 : Nat) : Int)) (lay.rf rfl) ?_
          refine g_getfield lk_104_16 rfl (lay.on (by decide) rfl) (v := ((78 : Nat) : Int)) (lay.rf rfl) ?_
          refine g_iload_n lk_104_19 rfl ?_
          refine m_iaload (u := []) (M := M) lk_104_20 (lay.ay (by decide) rfl) (by omega) (j := k) (by omega) (v := (x : Int)) x0 ?_
          refine g_if (t := 38) lk_104_21 rfl (by first | (unfold pm_inI; omega) | exact pm_and_in _ _ | exact pm_shr_in _ _ | exact pm_or_in _ _ | exact pm_xor_in _ _ | exact pm_shl_in _ _ | exact pm_cmp_in _ _ | exact pm_b8_in _ | (unfold pm_inI; split <;> omega)) (fun h2 => ?_) (fun h2 => ?_)
          · replace h2 : (x : Int) = 0 := h2
            refine g_iload_n lk_104_38 rfl ?_
            refine g_ireturn lk_104_39 (fun h => absurd h (by decide)) ?_
            omega
          · replace h2 : ¬ ((x : Int) = 0) := h2
            refine g_aload_n lk_104_24 rfl ?_
            refine g_iload_n lk_104_25 rfl ?_
            refine g_iload_n lk_104_26 rfl ?_
            refine g_iload_n lk_104_27 rfl ?_
            refine g_virtual (p := 76) (Qc := _) lk_104_28 rfl (Nat.le_of_ble_eq_true rfl) rfl rfl (lay.on (by decide) rfl) (Nat.le_of_ble_eq_true rfl) (Nat.le_of_ble_eq_true rfl) (Nat.zero_le _) (Nat.zero_le _) (ch) ?_
            rintro _ N3 ⟨rfl, hN3⟩
            rw [hN3]
            show Wp _ 104 31 [(2, ((76 : Nat) : Int)), (0, (r : Int)), (0, (c : Int)), (0, (k : Int)), (0, (i : Int))] [(0, (m : Int))] M _ _ _
            refine g_istore_n (ls' := [(2, ((76 : Nat) : Int)), (0, (r : Int)), (0, (c : Int)), (0, (m : Int)), (0, (i : Int))]) lk_104_31 rfl rfl ?_
            refine g_iinc (ls' := [(2, ((76 : Nat) : Int)), (0, (r : Int)), (0, (c : Int)), (0, (m : Int)), (0, ((i : Int) + 1))]) lk_104_32 rfl rfl rfl ?_
            refine g_goto (t := 5) lk_104_35 rfl ?_
            exact ih (i + 1) m (by omega) nx.2.1 e
  show Wp (d + 3) 104 0 [(2, ((76 : Nat) : Int)), (0, (r : Int)), (0, (c : Int)), (9, 0), (9, 0)] [] M mc ms Q
  refine g_iconst lk_104_0 ?_
  refine g_istore_n (ls' := [(2, ((76 : Nat) : Int)), (0, (r : Int)), (0, (c : Int)), (0, 0), (9, 0)]) lk_104_1 rfl rfl ?_
  refine g_iconst lk_104_2 ?_
  refine g_istore (ls' := [(2, ((76 : Nat) : Int)), (0, (r : Int)), (0, (c : Int)), (0, 0), (0, 0)]) lk_104_3 rfl rfl ?_
  exact loop 9 0 0 rfl (by have := hD.1; omega) rfl
theorem c_Told_answerAt2 {d mc ms : Nat} {M : pm_M} (lay : Lay M) {L : List Nd} {dp : Nat → Nat} (hD : TrD L dp) (hct : pm_ct M 77 3 = (L.length : Int)) (hL : NdL M 78 79 80 L) {r c : Nat} (hr : r < 6) (hc : c < 6) :
    pm_E (d + 4) 105 [(2, ((76 : Nat) : Int)), (0, (r : Int)), (0, (c : Int))] M mc ms (fun ρ M' => ρ = some (0, ((ndA L (wy L r c 9 0)).2.1 : Int)) ∧ M' = M) := by
  have l31 := hD.2.1
  have wl := (wy_leaf hD (r := r) (c := c) (n := 9) (k := 0) (by have := hD.1; omega) (by omega)).2
  have la := c_Told_leafAt2 (d := d) (mc := 0) (ms := 0) lay hD hct hL hr hc
  obtain ⟨k, hk⟩ : ∃ k, k = wy L r c 9 0 := ⟨_, rfl⟩
  rw [← hk] at la wl ⊢
  have xx := hL k _ (ndA_get wl)
  show Wp (d + 4) 105 0 [(2, ((76 : Nat) : Int)), (0, (r : Int)), (0, (c : Int))] [] M mc ms _
  refine g_aload_n lk_105_0 rfl ?_
  refine g_getfield lk_105_1 rfl (lay.on (by decide) rfl) (v := ((77 : Nat) : Int)) (lay.rf rfl) ?_
  refine g_getfield lk_105_4 rfl (lay.on (by decide) rfl) (v := ((79 : Nat) : Int)) (lay.rf rfl) ?_
  refine g_aload_n lk_105_7 rfl ?_
  refine g_iload_n lk_105_8 rfl ?_
  refine g_iload_n lk_105_9 rfl ?_
  refine g_virtual (p := 76) (Qc := _) lk_105_10 rfl (Nat.le_of_ble_eq_true rfl) rfl rfl (lay.on (by decide) rfl) (Nat.le_of_ble_eq_true rfl) (Nat.le_of_ble_eq_true rfl) (Nat.zero_le _) (Nat.zero_le _) (la) ?_
  rintro _ N1 ⟨rfl, hN1⟩
  rw [hN1]
  show Wp _ 105 13 [(2, ((76 : Nat) : Int)), (0, (r : Int)), (0, (c : Int))] [(0, (k : Int)), (2, ((79 : Nat) : Int))] M _ _ _
  refine m_iaload (u := []) (M := M) lk_105_13 (lay.ay (by decide) rfl) (by omega) (j := k) (by omega) (v := ((ndA L k).2.1 : Int)) xx.2.1 ?_
  refine g_ireturn lk_105_14 (fun h => absurd h (by decide)) ?_
  exact ⟨rfl, rfl⟩
theorem c_Nodes_saysYes3 {d mc ms : Nat} {M : pm_M} (lay : Lay M) {L : List Nd} {dp : Nat → Nat} (hD : TrD L dp) (hL : NdL M 89 90 91 L) {k r c : Nat} (hk : k < L.length) (hr : r < 6) (hc : c < 6) :
    pm_E (d + 1) 39 [(2, ((88 : Nat) : Int)), (0, (k : Int)), (0, (r : Int)), (0, (c : Int))] M mc ms (fun ρ M' => ρ = some (0, if yesAt L r c k then 1 else 0) ∧ M' = M) := by
  have xx := hL k _ (ndA_get hk)
  obtain ⟨a1, a2, _, _⟩ := hD.2.2.2 k hk
  have l31 := hD.2.1
  unfold yesAt
  obtain ⟨x, hx⟩ : ∃ x, x = ndA L k := ⟨_, rfl⟩
  rw [← hx] at xx a1 a2 ⊢
  show Wp (d + 1) 39 0 [(2, ((88 : Nat) : Int)), (0, (k : Int)), (0, (r : Int)), (0, (c : Int))] [] M mc ms _
  refine g_aload_n lk_39_0 rfl ?_
  refine g_getfield lk_39_1 rfl (lay.on (by decide) rfl) (v := ((89 : Nat) : Int)) (lay.rf rfl) ?_
  refine g_iload_n lk_39_4 rfl ?_
  refine m_iaload (u := []) (M := M) lk_39_5 (lay.ay (by decide) rfl) (by omega) (j := k) (by omega) (v := (x.1 : Int)) xx.1 ?_
  refine g_iconst lk_39_6 ?_
  refine g_icmp (t := 14) lk_39_7 rfl (by first | (unfold pm_inI; omega) | exact pm_and_in _ _ | exact pm_shr_in _ _ | exact pm_or_in _ _ | exact pm_xor_in _ _ | exact pm_shl_in _ _ | exact pm_cmp_in _ _ | exact pm_b8_in _ | (unfold pm_inI; split <;> omega)) (by first | (unfold pm_inI; omega) | exact pm_and_in _ _ | exact pm_shr_in _ _ | exact pm_or_in _ _ | exact pm_xor_in _ _ | exact pm_shl_in _ _ | exact pm_cmp_in _ _ | exact pm_b8_in _ | (unfold pm_inI; split <;> omega)) (fun h1 => ?_) (fun h1 => ?_)
  · replace h1 : ¬ (x.1 : Int) = 1 := h1
    refine g_iload_n lk_39_14 rfl ?_
    refine g_aload_n lk_39_15 rfl ?_
    refine g_getfield lk_39_16 rfl (lay.on (by decide) rfl) (v := ((90 : Nat) : Int)) (lay.rf rfl) ?_
    refine g_iload_n lk_39_19 rfl ?_
    refine m_iaload (u := []) (M := M) lk_39_20 (lay.ay (by decide) rfl) (by omega) (j := k) (by omega) (v := (x.2.1 : Int)) xx.2.1 ?_
    refine g_static (Qc := _) lk_39_21 (by decide) rfl (Nat.le_of_ble_eq_true rfl) rfl rfl (Nat.le_of_ble_eq_true rfl) (Nat.le_of_ble_eq_true rfl) (Nat.zero_le _) (Nat.zero_le _) (c_Table_isIn (by omega) (by omega)) ?_
    rintro _ N2 ⟨rfl, hN2⟩
    rw [hN2]
    show Wp _ 39 24 [(2, ((88 : Nat) : Int)), (0, (k : Int)), (0, (r : Int)), (0, (c : Int))] [(0, (if Nat.testBit x.2.1 c then (1 : Int) else 0))] M _ _ _
    refine g_ireturn lk_39_24 (fun _ => by omega) ?_
    exact ⟨by rw [if_neg (show ¬ x.1 = 1 by omega)], rfl⟩
  · replace h1 : ¬ (¬ (x.1 : Int) = 1) := h1
    refine g_iload_n lk_39_10 rfl ?_
    refine g_goto (t := 15) lk_39_11 rfl ?_
    refine g_aload_n lk_39_15 rfl ?_
    refine g_getfield lk_39_16 rfl (lay.on (by decide) rfl) (v := ((90 : Nat) : Int)) (lay.rf rfl) ?_
    refine g_iload_n lk_39_19 rfl ?_
    refine m_iaload (u := []) (M := M) lk_39_20 (lay.ay (by decide) rfl) (by omega) (j := k) (by omega) (v := (x.2.1 : Int)) xx.2.1 ?_
    refine g_static (Qc := _) lk_39_21 (by decide) rfl (Nat.le_of_ble_eq_true rfl) rfl rfl (Nat.le_of_ble_eq_true rfl) (Nat.le_of_ble_eq_true rfl) (Nat.zero_le _) (Nat.zero_le _) (c_Table_isIn (by omega) (by omega)) ?_
    rintro _ N3 ⟨rfl, hN3⟩
    rw [hN3]
    show Wp _ 39 24 [(2, ((88 : Nat) : Int)), (0, (k : Int)), (0, (r : Int)), (0, (c : Int))] [(0, (if Nat.testBit x.2.1 r then (1 : Int) else 0))] M _ _ _
    refine g_ireturn lk_39_24 (fun _ => by omega) ?_
    exact ⟨by rw [if_pos (show x.1 = 1 by omega)], rfl⟩
theorem c_Told_childAt3 {d mc ms : Nat} {M : pm_M} (lay : Lay M) {L : List Nd} {dp : Nat → Nat} (hD : TrD L dp) (hct : pm_ct M 88 3 = (L.length : Int)) (hL : NdL M 89 90 91 L) {k r c : Nat} (hk : k < L.length) (h0 : (ndA L k).1 ≠ 0) (hr : r < 6) (hc : c < 6) :
    pm_E (d + 2) 103 [(2, ((87 : Nat) : Int)), (0, (k : Int)), (0, (r : Int)), (0, (c : Int))] M mc ms (fun ρ M' => ρ = some (0, (nxt L r c k : Int)) ∧ M' = M) := by
  have xx := hL k _ (ndA_get hk)
  obtain ⟨_, _, _, a4⟩ := hD.2.2.2 k hk
  have b := a4 h0
  have l31 := hD.2.1
  have sy := c_Nodes_saysYes3 (d := d) (mc := 0) (ms := 0) lay hD hL hk hr hc
  obtain ⟨n, hn⟩ : ∃ n, n = nxt L r c k := ⟨_, rfl⟩
  have n2 : n = if yesAt L r c k then k + 1 else (ndA L k).2.2.toNat := hn
  obtain ⟨l, hl⟩ : ∃ l, l = L.length := ⟨_, rfl⟩
  rw [← hn]
  rw [← hl] at hct hk b l31
  obtain ⟨z, hz⟩ : ∃ z, z = (ndA L k).2.2 := ⟨_, rfl⟩
  rw [← hz] at xx b n2
  have b3 := b.2.2.1
  have b4 := b.2.2.2.1
  have b2 := b.2.1
  show Wp (d + 2) 103 0 [(2, ((87 : Nat) : Int)), (0, (k : Int)), (0, (r : Int)), (0, (c : Int)), (9, 0)] [] M mc ms _
  by_cases e : yesAt L r c k = true
  · rw [if_pos e] at sy n2
    refine g_aload_n lk_103_0 rfl ?_
    refine g_getfield lk_103_1 rfl (lay.on (by decide) rfl) (v := ((88 : Nat) : Int)) (lay.rf rfl) ?_
    refine g_iload_n lk_103_4 rfl ?_
    refine g_iload_n lk_103_5 rfl ?_
    refine g_iload_n lk_103_6 rfl ?_
    refine g_virtual (p := 88) (Qc := _) lk_103_7 rfl (Nat.le_of_ble_eq_true rfl) rfl rfl (lay.on (by decide) rfl) (Nat.le_of_ble_eq_true rfl) (Nat.le_of_ble_eq_true rfl) (Nat.zero_le _) (Nat.zero_le _) (sy) ?_
    rintro _ N1 ⟨rfl, hN1⟩
    rw [hN1]
    show Wp _ 103 10 [(2, ((87 : Nat) : Int)), (0, (k : Int)), (0, (r : Int)), (0, (c : Int)), (9, 0)] [(0, 1)] M _ _ _
    refine g_if (t := 19) lk_103_10 rfl (by first | (unfold pm_inI; omega) | exact pm_and_in _ _ | exact pm_shr_in _ _ | exact pm_or_in _ _ | exact pm_xor_in _ _ | exact pm_shl_in _ _ | exact pm_cmp_in _ _ | exact pm_b8_in _ | (unfold pm_inI; split <;> omega)) (fun h => absurd h (show ¬ ((1 : Int) = (0 : Int)) by omega)) (fun _ => ?_)
    refine g_iload_n lk_103_13 rfl ?_
    refine g_iconst lk_103_14 ?_
    refine g_iadd lk_103_15 ?_
    refine g_goto (t := 28) lk_103_16 rfl ?_
    refine g_istore (ls' := [(2, ((87 : Nat) : Int)), (0, (k : Int)), (0, (r : Int)), (0, (c : Int)), (0, ((k : Int) + 1))]) lk_103_28 rfl rfl ?_
    refine g_iload lk_103_30 rfl ?_
    refine g_iload_n lk_103_32 rfl ?_
    refine g_icmp (t := 53) lk_103_33 rfl (by first | (unfold pm_inI; omega) | exact pm_and_in _ _ | exact pm_shr_in _ _ | exact pm_or_in _ _ | exact pm_xor_in _ _ | exact pm_shl_in _ _ | exact pm_cmp_in _ _ | exact pm_b8_in _ | (unfold pm_inI; split <;> omega)) (by first | (unfold pm_inI; omega) | exact pm_and_in _ _ | exact pm_shr_in _ _ | exact pm_or_in _ _ | exact pm_xor_in _ _ | exact pm_shl_in _ _ | exact pm_cmp_in _ _ | exact pm_b8_in _ | (unfold pm_inI; split <;> omega)) (fun h2 => ?_) (fun h2 => ?_)
    · replace h2 : ((k : Int) + 1) ≤ (k : Int) := h2
      refine g_iload_n lk_103_53 rfl ?_
      refine g_ireturn lk_103_54 (fun h => absurd h (by decide)) ?_
      omega
    · replace h2 : ¬ (((k : Int) + 1) ≤ (k : Int)) := h2
      refine g_iload lk_103_36 rfl ?_
      refine g_aload_n lk_103_38 rfl ?_
      refine g_getfield lk_103_39 rfl (lay.on (by decide) rfl) (v := ((88 : Nat) : Int)) (lay.rf rfl) ?_
      refine m_getfield (u := []) (M := M) lk_103_42 rfl (lay.on (by decide) rfl) (v := (l : Int)) hct ?_
      refine g_icmp (t := 53) lk_103_45 rfl (by first | (unfold pm_inI; omega) | exact pm_and_in _ _ | exact pm_shr_in _ _ | exact pm_or_in _ _ | exact pm_xor_in _ _ | exact pm_shl_in _ _ | exact pm_cmp_in _ _ | exact pm_b8_in _ | (unfold pm_inI; split <;> omega)) (by first | (unfold pm_inI; omega) | exact pm_and_in _ _ | exact pm_shr_in _ _ | exact pm_or_in _ _ | exact pm_xor_in _ _ | exact pm_shl_in _ _ | exact pm_cmp_in _ _ | exact pm_b8_in _ | (unfold pm_inI; split <;> omega)) (fun h3 => ?_) (fun h3 => ?_)
      · replace h3 : (l : Int) ≤ ((k : Int) + 1) := h3
        refine g_iload_n lk_103_53 rfl ?_
        refine g_ireturn lk_103_54 (fun h => absurd h (by decide)) ?_
        omega
      · replace h3 : ¬ ((l : Int) ≤ ((k : Int) + 1)) := h3
        refine g_iload lk_103_48 rfl ?_
        refine g_goto (t := 54) lk_103_50 rfl ?_
        refine g_ireturn lk_103_54 (fun h => absurd h (by decide)) ?_
        exact ⟨by rw [n2]; rfl, rfl⟩
  · rw [if_neg e] at sy n2
    have zn : z = (n : Int) := by omega
    rw [zn] at xx
    refine g_aload_n lk_103_0 rfl ?_
    refine g_getfield lk_103_1 rfl (lay.on (by decide) rfl) (v := ((88 : Nat) : Int)) (lay.rf rfl) ?_
    refine g_iload_n lk_103_4 rfl ?_
    refine g_iload_n lk_103_5 rfl ?_
    refine g_iload_n lk_103_6 rfl ?_
    refine g_virtual (p := 88) (Qc := _) lk_103_7 rfl (Nat.le_of_ble_eq_true rfl) rfl rfl (lay.on (by decide) rfl) (Nat.le_of_ble_eq_true rfl) (Nat.le_of_ble_eq_true rfl) (Nat.zero_le _) (Nat.zero_le _) (sy) ?_
    rintro _ N1 ⟨rfl, hN1⟩
    rw [hN1]
    show Wp _ 103 10 [(2, ((87 : Nat) : Int)), (0, (k : Int)), (0, (r : Int)), (0, (c : Int)), (9, 0)] [(0, 0)] M _ _ _
    refine g_if (t := 19) lk_103_10 rfl (by first | (unfold pm_inI; omega) | exact pm_and_in _ _ | exact pm_shr_in _ _ | exact pm_or_in _ _ | exact pm_xor_in _ _ | exact pm_shl_in _ _ | exact pm_cmp_in _ _ | exact pm_b8_in _ | (unfold pm_inI; split <;> omega)) (fun _ => ?_) (fun h => absurd (show (0 : Int) = (0 : Int) by omega) h)
    refine g_aload_n lk_103_19 rfl ?_
    refine g_getfield lk_103_20 rfl (lay.on (by decide) rfl) (v := ((88 : Nat) : Int)) (lay.rf rfl) ?_
    refine g_getfield lk_103_23 rfl (lay.on (by decide) rfl) (v := ((91 : Nat) : Int)) (lay.rf rfl) ?_
    refine g_iload_n lk_103_26 rfl ?_
    refine m_iaload (u := []) (M := M) lk_103_27 (lay.ay (by decide) rfl) (by omega) (j := k) (by omega) (v := (n : Int)) xx.2.2 ?_
    refine g_istore (ls' := [(2, ((87 : Nat) : Int)), (0, (k : Int)), (0, (r : Int)), (0, (c : Int)), (0, (n : Int))]) lk_103_28 rfl rfl ?_
    refine g_iload lk_103_30 rfl ?_
    refine g_iload_n lk_103_32 rfl ?_
    refine g_icmp (t := 53) lk_103_33 rfl (by first | (unfold pm_inI; omega) | exact pm_and_in _ _ | exact pm_shr_in _ _ | exact pm_or_in _ _ | exact pm_xor_in _ _ | exact pm_shl_in _ _ | exact pm_cmp_in _ _ | exact pm_b8_in _ | (unfold pm_inI; split <;> omega)) (by first | (unfold pm_inI; omega) | exact pm_and_in _ _ | exact pm_shr_in _ _ | exact pm_or_in _ _ | exact pm_xor_in _ _ | exact pm_shl_in _ _ | exact pm_cmp_in _ _ | exact pm_b8_in _ | (unfold pm_inI; split <;> omega)) (fun h2 => ?_) (fun h2 => ?_)
    · replace h2 : (n : Int) ≤ (k : Int) := h2
      refine g_iload_n lk_103_53 rfl ?_
      refine g_ireturn lk_103_54 (fun h => absurd h (by decide)) ?_
      omega
    · replace h2 : ¬ ((n : Int) ≤ (k : Int)) := h2
      refine g_iload lk_103_36 rfl ?_
      refine g_aload_n lk_103_38 rfl ?_
      refine g_getfield lk_103_39 rfl (lay.on (by decide) rfl) (v := ((88 : Nat) : Int)) (lay.rf rfl) ?_
      refine m_getfield (u := []) (M := M) lk_103_42 rfl (lay.on (by decide) rfl) (v := (l : Int)) hct ?_
      refine g_icmp (t := 53) lk_103_45 rfl (by first | (unfold pm_inI; omega) | exact pm_and_in _ _ | exact pm_shr_in _ _ | exact pm_or_in _ _ | exact pm_xor_in _ _ | exact pm_shl_in _ _ | exact pm_cmp_in _ _ | exact pm_b8_in _ | (unfold pm_inI; split <;> omega)) (by first | (unfold pm_inI; omega) | exact pm_and_in _ _ | exact pm_shr_in _ _ | exact pm_or_in _ _ | exact pm_xor_in _ _ | exact pm_shl_in _ _ | exact pm_cmp_in _ _ | exact pm_b8_in _ | (unfold pm_inI; split <;> omega)) (fun h3 => ?_) (fun h3 => ?_)
      · replace h3 : (l : Int) ≤ (n : Int) := h3
        refine g_iload_n lk_103_53 rfl ?_
        refine g_ireturn lk_103_54 (fun h => absurd h (by decide)) ?_
        omega
      · replace h3 : ¬ ((l : Int) ≤ (n : Int)) := h3
        refine g_iload lk_103_48 rfl ?_
        refine g_goto (t := 54) lk_103_50 rfl ?_
        refine g_ireturn lk_103_54 (fun h => absurd h (by decide)) ?_
        exact ⟨rfl, rfl⟩
theorem c_Told_leafAt3 {d mc ms : Nat} {M : pm_M} (lay : Lay M) {L : List Nd} {dp : Nat → Nat} (hD : TrD L dp) (hct : pm_ct M 88 3 = (L.length : Int)) (hL : NdL M 89 90 91 L) {r c : Nat} (hr : r < 6) (hc : c < 6) :
    pm_E (d + 3) 104 [(2, ((87 : Nat) : Int)), (0, (r : Int)), (0, (c : Int))] M mc ms (fun ρ M' => ρ = some (0, (wy L r c 9 0 : Int)) ∧ M' = M) := by
  obtain ⟨Q, hQ⟩ : ∃ Q : pm_Q, Q = (fun ρ M' => ρ = some (0, (wy L r c 9 0 : Int)) ∧ M' = M) := ⟨_, rfl⟩
  rw [← hQ]
  have l31 := hD.2.1
  have loop : ∀ (n i k : Nat), i + n = 9 → k < L.length → wy L r c 9 0 = wy L r c n k → Wp (d + 3) 104 5 [(2, ((87 : Nat) : Int)), (0, (r : Int)), (0, (c : Int)), (0, (k : Int)), (0, (i : Int))] [] M mc ms Q := by
    intro n
    induction n with
    | zero =>
      intro i k hi hk e
      refine g_iload lk_104_5 rfl ?_
      refine g_bipush lk_104_7 ?_
      refine g_icmp (t := 38) lk_104_9 rfl (by first | (unfold pm_inI; omega) | exact pm_and_in _ _ | exact pm_shr_in _ _ | exact pm_or_in _ _ | exact pm_xor_in _ _ | exact pm_shl_in _ _ | exact pm_cmp_in _ _ | exact pm_b8_in _ | (unfold pm_inI; split <;> omega)) (by first | (unfold pm_inI; omega) | exact pm_and_in _ _ | exact pm_shr_in _ _ | exact pm_or_in _ _ | exact pm_xor_in _ _ | exact pm_shl_in _ _ | exact pm_cmp_in _ _ | exact pm_b8_in _ | (unfold pm_inI; split <;> omega)) (fun h1 => ?_) (fun h1 => ?_)
      · replace h1 : 9 ≤ (i : Int) := h1
        refine g_iload_n lk_104_38 rfl ?_
        refine g_ireturn lk_104_39 (fun h => absurd h (by decide)) ?_
        rw [hQ]
        exact ⟨by rw [e]; rfl, rfl⟩
      · replace h1 : ¬ (9 ≤ (i : Int)) := h1
        omega
    | succ n ih =>
      intro i k hi hk e
      have xx := hL k _ (ndA_get hk)
      replace e : wy L r c 9 0 = if (ndA L k).1 = 0 then k else wy L r c n (nxt L r c k) := e
      by_cases h0 : (ndA L k).1 = 0
      · rw [if_pos h0] at e
        rw [h0] at xx
        have x0 : pm_ct M 89 k = 0 := xx.1
        refine g_iload lk_104_5 rfl ?_
        refine g_bipush lk_104_7 ?_
        refine g_icmp (t := 38) lk_104_9 rfl (by first | (unfold pm_inI; omega) | exact pm_and_in _ _ | exact pm_shr_in _ _ | exact pm_or_in _ _ | exact pm_xor_in _ _ | exact pm_shl_in _ _ | exact pm_cmp_in _ _ | exact pm_b8_in _ | (unfold pm_inI; split <;> omega)) (by first | (unfold pm_inI; omega) | exact pm_and_in _ _ | exact pm_shr_in _ _ | exact pm_or_in _ _ | exact pm_xor_in _ _ | exact pm_shl_in _ _ | exact pm_cmp_in _ _ | exact pm_b8_in _ | (unfold pm_inI; split <;> omega)) (fun h1 => ?_) (fun h1 => ?_)
        · replace h1 : 9 ≤ (i : Int) := h1
          refine g_iload_n lk_104_38 rfl ?_
          refine g_ireturn lk_104_39 (fun h => absurd h (by decide)) ?_
          omega
        · replace h1 : ¬ (9 ≤ (i : Int)) := h1
          refine g_aload_n lk_104_12 rfl ?_
          refine g_getfield lk_104_13 rfl (lay.on (by decide) rfl) (v := ((88 : Nat) : Int)) (lay.rf rfl) ?_
          refine g_getfield lk_104_16 rfl (lay.on (by decide) rfl) (v := ((89 : Nat) : Int)) (lay.rf rfl) ?_
          refine g_iload_n lk_104_19 rfl ?_
          refine m_iaload (u := []) (M := M) lk_104_20 (lay.ay (by decide) rfl) (by omega) (j := k) (by omega) (v := 0) x0 ?_
          refine g_if (t := 38) lk_104_21 rfl (by first | (unfold pm_inI; omega) | exact pm_and_in _ _ | exact pm_shr_in _ _ | exact pm_or_in _ _ | exact pm_xor_in _ _ | exact pm_shl_in _ _ | exact pm_cmp_in _ _ | exact pm_b8_in _ | (unfold pm_inI; split <;> omega)) (fun _ => ?_) (fun h => absurd (show (0 : Int) = (0 : Int) by omega) h)
          refine g_iload_n lk_104_38 rfl ?_
          refine g_ireturn lk_104_39 (fun h => absurd h (by decide)) ?_
          rw [hQ]
          exact ⟨by rw [e], rfl⟩
      · rw [if_neg h0] at e
        obtain ⟨x, hx⟩ : ∃ x, x = (ndA L k).1 := ⟨_, rfl⟩
        have x0 : pm_ct M 89 k = (x : Int) := by rw [hx]; exact xx.1
        have a1 := (hD.2.2.2 k hk).1
        have nx := nxt_ok hD (r := r) (c := c) hk h0
        have ch := c_Told_childAt3 (d := d) (mc := 0) (ms := 0) lay hD hct hL hk h0 hr hc
        obtain ⟨m, hm⟩ : ∃ m, m = nxt L r c k := ⟨_, rfl⟩
        rw [← hm] at e nx ch
        refine g_iload lk_104_5 rfl ?_
        refine g_bipush lk_104_7 ?_
        refine g_icmp (t := 38) lk_104_9 rfl (by first | (unfold pm_inI; omega) | exact pm_and_in _ _ | exact pm_shr_in _ _ | exact pm_or_in _ _ | exact pm_xor_in _ _ | exact pm_shl_in _ _ | exact pm_cmp_in _ _ | exact pm_b8_in _ | (unfold pm_inI; split <;> omega)) (by first | (unfold pm_inI; omega) | exact pm_and_in _ _ | exact pm_shr_in _ _ | exact pm_or_in _ _ | exact pm_xor_in _ _ | exact pm_shl_in _ _ | exact pm_cmp_in _ _ | exact pm_b8_in _ | (unfold pm_inI; split <;> omega)) (fun h1 => ?_) (fun h1 => ?_)
        · replace h1 : 9 ≤ (i : Int) := h1
          refine g_iload_n lk_104_38 rfl ?_
          refine g_ireturn lk_104_39 (fun h => absurd h (by decide)) ?_
          omega
        · replace h1 : ¬ (9 ≤ (i : Int)) := h1
          refine g_aload_n lk_104_12 rfl ?_
          refine g_getfield lk_104_13 rfl (lay.on (by decide) rfl) (v := ((88 : Nat) : Int)) (lay.rf rfl) ?_
          refine g_getfield lk_104_16 rfl (lay.on (by decide) rfl) (v := ((89 : Nat) : Int)) (lay.rf rfl) ?_
          refine g_iload_n lk_104_19 rfl ?_
          refine m_iaload (u := []) (M := M) lk_104_20 (lay.ay (by decide) rfl) (by omega) (j := k) (by omega) (v := (x : Int)) x0 ?_
          refine g_if (t := 38) lk_104_21 rfl (by first | (unfold pm_inI; omega) | exact pm_and_in _ _ | exact pm_shr_in _ _ | exact pm_or_in _ _ | exact pm_xor_in _ _ | exact pm_shl_in _ _ | exact pm_cmp_in _ _ | exact pm_b8_in _ | (unfold pm_inI; split <;> omega)) (fun h2 => ?_) (fun h2 => ?_)
          · replace h2 : (x : Int) = 0 := h2
            refine g_iload_n lk_104_38 rfl ?_
            refine g_ireturn lk_104_39 (fun h => absurd h (by decide)) ?_
            omega
          · replace h2 : ¬ ((x : Int) = 0) := h2
            refine g_aload_n lk_104_24 rfl ?_
            refine g_iload_n lk_104_25 rfl ?_
            refine g_iload_n lk_104_26 rfl ?_
            refine g_iload_n lk_104_27 rfl ?_
            refine g_virtual (p := 87) (Qc := _) lk_104_28 rfl (Nat.le_of_ble_eq_true rfl) rfl rfl (lay.on (by decide) rfl) (Nat.le_of_ble_eq_true rfl) (Nat.le_of_ble_eq_true rfl) (Nat.zero_le _) (Nat.zero_le _) (ch) ?_
            rintro _ N3 ⟨rfl, hN3⟩
            rw [hN3]
            show Wp _ 104 31 [(2, ((87 : Nat) : Int)), (0, (r : Int)), (0, (c : Int)), (0, (k : Int)), (0, (i : Int))] [(0, (m : Int))] M _ _ _
            refine g_istore_n (ls' := [(2, ((87 : Nat) : Int)), (0, (r : Int)), (0, (c : Int)), (0, (m : Int)), (0, (i : Int))]) lk_104_31 rfl rfl ?_
            refine g_iinc (ls' := [(2, ((87 : Nat) : Int)), (0, (r : Int)), (0, (c : Int)), (0, (m : Int)), (0, ((i : Int) + 1))]) lk_104_32 rfl rfl rfl ?_
            refine g_goto (t := 5) lk_104_35 rfl ?_
            exact ih (i + 1) m (by omega) nx.2.1 e
  show Wp (d + 3) 104 0 [(2, ((87 : Nat) : Int)), (0, (r : Int)), (0, (c : Int)), (9, 0), (9, 0)] [] M mc ms Q
  refine g_iconst lk_104_0 ?_
  refine g_istore_n (ls' := [(2, ((87 : Nat) : Int)), (0, (r : Int)), (0, (c : Int)), (0, 0), (9, 0)]) lk_104_1 rfl rfl ?_
  refine g_iconst lk_104_2 ?_
  refine g_istore (ls' := [(2, ((87 : Nat) : Int)), (0, (r : Int)), (0, (c : Int)), (0, 0), (0, 0)]) lk_104_3 rfl rfl ?_
  exact loop 9 0 0 rfl (by have := hD.1; omega) rfl
theorem c_Told_answerAt3 {d mc ms : Nat} {M : pm_M} (lay : Lay M) {L : List Nd} {dp : Nat → Nat} (hD : TrD L dp) (hct : pm_ct M 88 3 = (L.length : Int)) (hL : NdL M 89 90 91 L) {r c : Nat} (hr : r < 6) (hc : c < 6) :
    pm_E (d + 4) 105 [(2, ((87 : Nat) : Int)), (0, (r : Int)), (0, (c : Int))] M mc ms (fun ρ M' => ρ = some (0, ((ndA L (wy L r c 9 0)).2.1 : Int)) ∧ M' = M) := by
  have l31 := hD.2.1
  have wl := (wy_leaf hD (r := r) (c := c) (n := 9) (k := 0) (by have := hD.1; omega) (by omega)).2
  have la := c_Told_leafAt3 (d := d) (mc := 0) (ms := 0) lay hD hct hL hr hc
  obtain ⟨k, hk⟩ : ∃ k, k = wy L r c 9 0 := ⟨_, rfl⟩
  rw [← hk] at la wl ⊢
  have xx := hL k _ (ndA_get wl)
  show Wp (d + 4) 105 0 [(2, ((87 : Nat) : Int)), (0, (r : Int)), (0, (c : Int))] [] M mc ms _
  refine g_aload_n lk_105_0 rfl ?_
  refine g_getfield lk_105_1 rfl (lay.on (by decide) rfl) (v := ((88 : Nat) : Int)) (lay.rf rfl) ?_
  refine g_getfield lk_105_4 rfl (lay.on (by decide) rfl) (v := ((90 : Nat) : Int)) (lay.rf rfl) ?_
  refine g_aload_n lk_105_7 rfl ?_
  refine g_iload_n lk_105_8 rfl ?_
  refine g_iload_n lk_105_9 rfl ?_
  refine g_virtual (p := 87) (Qc := _) lk_105_10 rfl (Nat.le_of_ble_eq_true rfl) rfl rfl (lay.on (by decide) rfl) (Nat.le_of_ble_eq_true rfl) (Nat.le_of_ble_eq_true rfl) (Nat.zero_le _) (Nat.zero_le _) (la) ?_
  rintro _ N1 ⟨rfl, hN1⟩
  rw [hN1]
  show Wp _ 105 13 [(2, ((87 : Nat) : Int)), (0, (r : Int)), (0, (c : Int))] [(0, (k : Int)), (2, ((90 : Nat) : Int))] M _ _ _
  refine m_iaload (u := []) (M := M) lk_105_13 (lay.ay (by decide) rfl) (by omega) (j := k) (by omega) (v := ((ndA L k).2.1 : Int)) xx.2.1 ?_
  refine g_ireturn lk_105_14 (fun h => absurd h (by decide)) ?_
  exact ⟨rfl, rfl⟩
