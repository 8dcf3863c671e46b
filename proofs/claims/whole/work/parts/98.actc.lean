/-! ===== acts: the class's calls ===== -/
/-- cells that no cache stands in -/
def okC (a : Nat) : Bool := decide (a < 44) || (decide (54 ≤ a) && decide (a ≤ 97)) || (decide (116 ≤ a) && decide (a ≤ 156))
theorem okC_or {a : Nat} (h : okC a = true) : a < 44 ∨ (54 ≤ a ∧ a ≤ 97) ∨ (116 ≤ a ∧ a ≤ 156) := by
  unfold okC at h
  simp only [Bool.or_eq_true, Bool.and_eq_true, decide_eq_true_eq] at h
  omega
theorem okC_nm {S : List Nat} (hS : ∀ a, a ∈ S → okC a = true) {a : Nat} (h : (44 ≤ a ∧ a ≤ 53) ∨ (98 ≤ a ∧ a ≤ 115)) : a ∉ S := fun q => by
  have := okC_or (hS a q)
  omega
theorem okC_own {S : List Nat} (hS : ∀ a, a ∈ S → okC a = true) {a : Nat} (h : own a) : a ∉ S := fun q => by
  have := okC_or (hS a q)
  unfold own at h
  omega
theorem Chs.gr {S : List Nat} {M N : pm_M} {T : Tab} (h : Chs M T) (k : Gr S M N) (m : 157 ≤ M.1) (hS : ∀ a, a ∈ S → okC a = true) : Chs N T := by
  obtain ⟨s, fa, w0, f0, g0, w1, f1, g1, w2, f2, g2, ga, gb, r, ch, cn, r2, hA, ⟨hB0, hN0⟩, ⟨hB1, hN1⟩, ⟨hB2, hN2⟩, hT, hs, i1, i2, i3, i4, i5, i6, i7, i8, dy⟩ := h
  have nm := fun {a : Nat} (h : (44 ≤ a ∧ a ≤ 53) ∨ (98 ≤ a ∧ a ≤ 115)) => okC_nm hS h
  refine ⟨s, fa, w0, f0, g0, w1, f1, g1, w2, f2, g2, ga, gb, r, ch, cn, r2, hA.fr k (by rw [k.ct (by omega) (nm (by omega))]) (by rw [k.ct (by omega) (nm (by omega))]) (okC_own hS hA.1), ⟨hB0.fr k (by omega) (nm (by omega)) (okC_own hS hB0.1), hN0.fr k (by omega) (nm (by omega)) (nm (by omega)) (nm (by omega)) (nm (by omega)) (nm (by omega))⟩, ⟨hB1.fr k (by omega) (nm (by omega)) (okC_own hS hB1.1), hN1.fr k (by omega) (nm (by omega)) (nm (by omega)) (nm (by omega)) (nm (by omega)) (nm (by omega))⟩, ⟨hB2.fr k (by omega) (nm (by omega)) (okC_own hS hB2.1), hN2.fr k (by omega) (nm (by omega)) (nm (by omega)) (nm (by omega)) (nm (by omega)) (nm (by omega))⟩, hT.fr k m (nm (by omega)) (nm (by omega)) (okC_own hS hT.1) (okC_own hS hT.2.1), hs.fr k m (nm (by omega)) (nm (by omega)) (okC_own hS hs.1), i1, i2, i3, i4, i5, i6, i7, i8, dy.1, fun a ha => ⟨(dy.2 a ha).1, Nat.lt_of_lt_of_le (dy.2 a ha).2 k.1⟩⟩
def Tput (T : Tab) (i v : Nat) : Tab := (tR T, tC T, fun j => if j = i then v else tX T j, tA T, tB T)
theorem TabOK.put {T : Tab} (h : TabOK T) {i v : Nat} (hv : v ≤ 10) : TabOK (Tput T i v) := ⟨h.1, h.2.1, fun j => by
  show (if j = i then v else tX T j) ≤ 10
  have := h.2.2.1 j
  split <;> omega, h.2.2.2.1, h.2.2.2.2⟩
theorem TabX.put {T : Tab} (h : TabX T) {i v : Nat} (hi : i / 6 < tR T ∧ i % 6 < tC T) : TabX (Tput T i v) := fun j hj => by
  show (j / 6 < tR T ∧ j % 6 < tC T) ∨ (if j = i then v else tX T j) = 10
  by_cases e : j = i
  · rw [e]; exact Or.inl hi
  · rw [if_neg e]; exact h j hj
theorem cmF_put (T : Tab) (i v : Nat) (L : List Nd) (p : Nat → Nat) : ∀ n k, cmF (Tput T i v) L p n k = cmF T L p n k
  | 0, _ => rfl
  | n + 1, k => by
    show (if k = 0 then dBas T else dStp T (ndA L (p k)).1 (ndA L (p k)).2.1 (k == p k + 1) (cmF (Tput T i v) L p n (p k))) = if k = 0 then dBas T else dStp T (ndA L (p k)).1 (ndA L (p k)).2.1 (k == p k + 1) (cmF T L p n (p k))
    rw [cmF_put T i v L p n (p k)]
theorem TdAt.put {M : pm_M} {P : Nat} {T : Tab} {L : List Nd} {p dp : Nat → Nat} (h : TdAt M P T L p dp) (i v : Nat) : TdAt M P (Tput T i v) L p dp := by
  have e : CM (Tput T i v) L p = CM T L p := funext (fun k => cmF_put T i v L p 31 k)
  unfold TdAt CmAt at h ⊢
  rw [e]; exact h
theorem TsX.put {M : pm_M} {T : Tab} {Ts : List (List Nd)} {ps dps : Nat → Nat → Nat} (h : TsX M T Ts ps dps) (i v : Nat) : TsX M (Tput T i v) Ts ps dps := ⟨h.1, h.2.1, fun t ht => (h.2.2 t ht).put i v⟩
theorem TsX.gr {S : List Nat} {M N : pm_M} {T : Tab} {Ts : List (List Nd)} {ps dps : Nat → Nat → Nat} (h : TsX M T Ts ps dps) (k : Gr S M N) (m : 157 ≤ M.1) (h1 : pm_ct N 1 11 = pm_ct M 1 11) (hS : ∀ a, 54 ≤ a → a ≤ 97 → a ∉ S) : TsX N T Ts ps dps :=
  ⟨h.1, by rw [h1]; exact h.2.1, fun t ht => (h.2.2 t ht).gr k m (by omega) (by have := h.1; omega) hS⟩
/-- the class's state: table, trees, acts, caches -/
def StX (M : pm_M) (T : Tab) (Ts : List (List Nd)) (ps dps : Nat → Nat → Nat) (na : Nat) (aa : Nat → Int) : Prop := Lay M ∧ TbAt M 24 T ∧ TsX M T Ts ps dps ∧ AcX M na aa ∧ Chs M T
abbrev okPut (T : Tab) (r c v : Int) : Prop := ((0 ≤ r ∧ r < tR T) ∧ (0 ≤ c ∧ c < tC T)) ∧ (0 ≤ v ∧ v ≤ 10) ∧ ¬ (tX T (6 * r.toNat + c.toNat) : Int) = v
def sPut (T : Tab) (r c v : Int) : Int := if okPut T r c v then (tX T (6 * r.toNat + c.toNat) : Int) else -1
def zPut (T : Tab) (r c : Int) : Int := (((6 * r.toNat + c.toNat) * 11 + tX T (6 * r.toNat + c.toNat) : Nat) : Int)
set_option maxHeartbeats 4000000 in
theorem c_X_put {d mc ms : Nat} {M : pm_M} {T : Tab} (hT : TabOK T) {Ts : List (List Nd)} {ps dps : Nat → Nat → Nat} {na : Nat} {aa : Nat → Int} (hS : StX M T Ts ps dps na aa) {r c v : Int} (hr : pm_inI r) (hc : pm_inI c) (hv : pm_inI v) :
    pm_E (d + 1) 149 [(2, ((1 : Nat) : Int)), (0, r), (0, c), (0, v)] M mc ms (fun ρ M' => ρ = some (0, sPut T r c v) ∧ (okPut T r c v → StX M' (Tput T (6 * r.toNat + c.toNat) v.toNat) Ts ps dps (kN na) (kA na aa (zPut T r c))) ∧ (¬ okPut T r c v → M' = M) ∧ Fr [1, 25, 27, 44, 47, 51, 98, 104, 110] M M') := by
  obtain ⟨lay, hM, hTs, hAc, hCh⟩ := hS
  have hs := c_Table_has (d := d) (mc := 0) (ms := 0) lay (Or.inr rfl) hT hM hr hc
  have hR := hT.1
  have hC := hT.2.1
  show Wp (d + 1) 149 0 [(2, ((1 : Nat) : Int)), (0, r), (0, c), (0, v), (9, 0)] [] M mc ms _
  by_cases e1 : (0 ≤ r ∧ r < tR T) ∧ (0 ≤ c ∧ c < tC T)
  rotate_left
  · rw [if_neg e1] at hs
    have no : ¬ okPut T r c v := fun q => e1 q.1
    have es : sPut T r c v = -1 := by unfold sPut; rw [if_neg no]
    rw [es]
    refine g_aload_n lk_149_0 rfl ?_
    refine g_getfield lk_149_1 rfl (lay.on (by decide) rfl) (v := ((24 : Nat) : Int)) (lay.rf rfl) ?_
    refine g_iload_n lk_149_4 rfl ?_
    refine g_iload_n lk_149_5 rfl ?_
    refine g_virtual (p := 24) (Qc := _) lk_149_6 rfl (Nat.le_of_ble_eq_true rfl) rfl rfl (lay.on (by decide) rfl) (Nat.le_of_ble_eq_true rfl) (Nat.le_of_ble_eq_true rfl) (Nat.zero_le _) (Nat.zero_le _) (hs) ?_
    rintro _ N1 ⟨rfl, hN1⟩
    rw [hN1]
    show Wp _ 149 9 [(2, ((1 : Nat) : Int)), (0, r), (0, c), (0, v), (9, 0)] [(0, 0)] M _ _ _
    refine g_if (t := 22) lk_149_9 rfl (by first | (unfold pm_inI; omega) | exact pm_and_in _ _ | exact pm_shr_in _ _ | exact pm_or_in _ _ | exact pm_xor_in _ _ | exact pm_shl_in _ _ | exact pm_cmp_in _ _ | exact pm_b8_in _ | (unfold pm_inI; split <;> omega)) (fun _ => ?_) (fun h => absurd (show (0 : Int) = (0 : Int) by omega) h)
    refine g_iconst lk_149_22 ?_
    refine g_ireturn lk_149_23 (fun h => absurd h (by decide)) ?_
    exact ⟨rfl, fun q => absurd q no, fun _ => rfl, Fr.refl _ _⟩
  rw [if_pos e1] at hs
  by_cases e2 : 0 ≤ v ∧ v ≤ 10
  rotate_left
  · have no : ¬ okPut T r c v := fun q => e2 q.2.1
    have es : sPut T r c v = -1 := by unfold sPut; rw [if_neg no]
    rw [es]
    refine g_aload_n lk_149_0 rfl ?_
    refine g_getfield lk_149_1 rfl (lay.on (by decide) rfl) (v := ((24 : Nat) : Int)) (lay.rf rfl) ?_
    refine g_iload_n lk_149_4 rfl ?_
    refine g_iload_n lk_149_5 rfl ?_
    refine g_virtual (p := 24) (Qc := _) lk_149_6 rfl (Nat.le_of_ble_eq_true rfl) rfl rfl (lay.on (by decide) rfl) (Nat.le_of_ble_eq_true rfl) (Nat.le_of_ble_eq_true rfl) (Nat.zero_le _) (Nat.zero_le _) (hs) ?_
    rintro _ N1 ⟨rfl, hN1⟩
    rw [hN1]
    show Wp _ 149 9 [(2, ((1 : Nat) : Int)), (0, r), (0, c), (0, v), (9, 0)] [(0, 1)] M _ _ _
    refine g_if (t := 22) lk_149_9 rfl (by first | assumption | (unfold pm_inI; omega)) (fun h => absurd h (show ¬ ((1 : Int) = (0 : Int)) by omega)) (fun _ => ?_)
    refine g_iload_n lk_149_12 rfl ?_
    refine g_if (t := 22) lk_149_13 rfl (by first | assumption | (unfold pm_inI; omega)) (fun h2 => ?_) (fun h2 => ?_)
    · replace h2 : v < 0 := h2
      refine g_iconst lk_149_22 ?_
      refine g_ireturn lk_149_23 (fun h => absurd h (by decide)) ?_
      exact ⟨rfl, fun q => absurd q no, fun _ => rfl, Fr.refl _ _⟩
    · replace h2 : ¬ (v < 0) := h2
      refine g_iload_n lk_149_16 rfl ?_
      refine g_bipush lk_149_17 ?_
      refine g_icmp (t := 24) lk_149_19 rfl (by first | assumption | (unfold pm_inI; omega)) (by first | assumption | (unfold pm_inI; omega)) (fun h3 => ?_) (fun h3 => ?_)
      · replace h3 : v ≤ 10 := h3
        omega
      · replace h3 : ¬ (v ≤ 10) := h3
        refine g_iconst lk_149_22 ?_
        refine g_ireturn lk_149_23 (fun h => absurd h (by decide)) ?_
        exact ⟨rfl, fun q => absurd q no, fun _ => rfl, Fr.refl _ _⟩
  obtain ⟨r, rfl⟩ := Int.eq_ofNat_of_zero_le e1.1.1
  obtain ⟨c, rfl⟩ := Int.eq_ofNat_of_zero_le e1.2.1
  obtain ⟨v, rfl⟩ := Int.eq_ofNat_of_zero_le e2.1
  have at1 := c_Table_at (d := d) (mc := 0) (ms := 0) lay (Or.inr rfl) hM (r := r) (c := c) (by omega) (by omega)
  have x10 := hT.2.2.1 (6 * r + c)
  have ezp : zPut T (r : Int) (c : Int) = (((6 * r + c) * 11 + tX T (6 * r + c) : Nat) : Int) := rfl
  have esp : sPut T (r : Int) (c : Int) (v : Int) = if okPut T (r : Int) (c : Int) (v : Int) then (tX T (6 * r + c) : Int) else -1 := rfl
  have eok : okPut T (r : Int) (c : Int) (v : Int) ↔ ¬ tX T (6 * r + c) = v := ⟨fun q => fun e => q.2.2 (by show (tX T (6 * r + c) : Int) = (v : Int); omega), fun q => ⟨e1, e2, fun e => q (by have e' : (tX T (6 * r + c) : Int) = (v : Int) := e; omega)⟩⟩
  have etp : Tput T (6 * (r : Int).toNat + (c : Int).toNat) (v : Int).toNat = Tput T (6 * r + c) v := rfl
  rw [esp, etp, ezp]
  obtain ⟨x, hx⟩ : ∃ x, x = tX T (6 * r + c) := ⟨_, rfl⟩
  obtain ⟨j, hj⟩ : ∃ j, j = 6 * r + c := ⟨_, rfl⟩
  rw [← hx] at at1 x10 eok ⊢
  rw [← hj]
  by_cases e3 : x = v
  · have no : ¬ okPut T (r : Int) (c : Int) (v : Int) := fun q => (eok.mp q) e3
    rw [if_neg no]
    refine g_aload_n lk_149_0 rfl ?_
    refine g_getfield lk_149_1 rfl (lay.on (by decide) rfl) (v := ((24 : Nat) : Int)) (lay.rf rfl) ?_
    refine g_iload_n lk_149_4 rfl ?_
    refine g_iload_n lk_149_5 rfl ?_
    refine g_virtual (p := 24) (Qc := _) lk_149_6 rfl (Nat.le_of_ble_eq_true rfl) rfl rfl (lay.on (by decide) rfl) (Nat.le_of_ble_eq_true rfl) (Nat.le_of_ble_eq_true rfl) (Nat.zero_le _) (Nat.zero_le _) (hs) ?_
    rintro _ N1 ⟨rfl, hN1⟩
    rw [hN1]
    show Wp _ 149 9 [(2, ((1 : Nat) : Int)), (0, (r : Int)), (0, (c : Int)), (0, (v : Int)), (9, 0)] [(0, 1)] M _ _ _
    refine g_if (t := 22) lk_149_9 rfl (by first | (unfold pm_inI; omega) | exact pm_and_in _ _ | exact pm_shr_in _ _ | exact pm_or_in _ _ | exact pm_xor_in _ _ | exact pm_shl_in _ _ | exact pm_cmp_in _ _ | exact pm_b8_in _ | (unfold pm_inI; split <;> omega)) (fun h => absurd h (show ¬ ((1 : Int) = (0 : Int)) by omega)) (fun _ => ?_)
    refine g_iload_n lk_149_12 rfl ?_
    refine g_if (t := 22) lk_149_13 rfl (by first | (unfold pm_inI; omega) | exact pm_and_in _ _ | exact pm_shr_in _ _ | exact pm_or_in _ _ | exact pm_xor_in _ _ | exact pm_shl_in _ _ | exact pm_cmp_in _ _ | exact pm_b8_in _ | (unfold pm_inI; split <;> omega)) (fun h2 => ?_) (fun h2 => ?_)
    · replace h2 : (v : Int) < 0 := h2
      omega
    · replace h2 : ¬ ((v : Int) < 0) := h2
      refine g_iload_n lk_149_16 rfl ?_
      refine g_bipush lk_149_17 ?_
      refine g_icmp (t := 24) lk_149_19 rfl (by first | (unfold pm_inI; omega) | exact pm_and_in _ _ | exact pm_shr_in _ _ | exact pm_or_in _ _ | exact pm_xor_in _ _ | exact pm_shl_in _ _ | exact pm_cmp_in _ _ | exact pm_b8_in _ | (unfold pm_inI; split <;> omega)) (by first | (unfold pm_inI; omega) | exact pm_and_in _ _ | exact pm_shr_in _ _ | exact pm_or_in _ _ | exact pm_xor_in _ _ | exact pm_shl_in _ _ | exact pm_cmp_in _ _ | exact pm_b8_in _ | (unfold pm_inI; split <;> omega)) (fun h3 => ?_) (fun h3 => ?_)
      · replace h3 : (v : Int) ≤ 10 := h3
        refine g_aload_n lk_149_24 rfl ?_
        refine g_getfield lk_149_25 rfl (lay.on (by decide) rfl) (v := ((24 : Nat) : Int)) (lay.rf rfl) ?_
        refine g_iload_n lk_149_28 rfl ?_
        refine g_iload_n lk_149_29 rfl ?_
        refine g_virtual (p := 24) (Qc := _) lk_149_30 rfl (Nat.le_of_ble_eq_true rfl) rfl rfl (lay.on (by decide) rfl) (Nat.le_of_ble_eq_true rfl) (Nat.le_of_ble_eq_true rfl) (Nat.zero_le _) (Nat.zero_le _) (at1) ?_
        rintro _ N4 ⟨rfl, hN4⟩
        rw [hN4]
        show Wp _ 149 33 [(2, ((1 : Nat) : Int)), (0, (r : Int)), (0, (c : Int)), (0, (v : Int)), (9, 0)] [(0, (x : Int))] M _ _ _
        refine g_istore (ls' := [(2, ((1 : Nat) : Int)), (0, (r : Int)), (0, (c : Int)), (0, (v : Int)), (0, (x : Int))]) lk_149_33 rfl rfl ?_
        refine g_iload lk_149_35 rfl ?_
        refine g_iload_n lk_149_37 rfl ?_
        refine g_icmp (t := 43) lk_149_38 rfl (by first | (unfold pm_inI; omega) | exact pm_and_in _ _ | exact pm_shr_in _ _ | exact pm_or_in _ _ | exact pm_xor_in _ _ | exact pm_shl_in _ _ | exact pm_cmp_in _ _ | exact pm_b8_in _ | (unfold pm_inI; split <;> omega)) (by first | (unfold pm_inI; omega) | exact pm_and_in _ _ | exact pm_shr_in _ _ | exact pm_or_in _ _ | exact pm_xor_in _ _ | exact pm_shl_in _ _ | exact pm_cmp_in _ _ | exact pm_b8_in _ | (unfold pm_inI; split <;> omega)) (fun h5 => ?_) (fun h5 => ?_)
        · replace h5 : ¬ (x : Int) = (v : Int) := h5
          omega
        · replace h5 : ¬ (¬ (x : Int) = (v : Int)) := h5
          refine g_iconst lk_149_41 ?_
          refine g_ireturn lk_149_42 (fun h => absurd h (by decide)) ?_
          exact ⟨rfl, fun q => absurd q no, fun _ => rfl, Fr.refl _ _⟩
      · replace h3 : ¬ ((v : Int) ≤ 10) := h3
        omega
  · have yes : okPut T (r : Int) (c : Int) (v : Int) := eok.mpr e3
    rw [if_pos yes]
    have ek : ((r : Int) * 6 + (c : Int)) * 11 + (x : Int) = ((j * 11 + x : Nat) : Int) := by omega
    have ej : (r : Int) * 6 + (c : Int) = (j : Int) := by omega
    have kp := c_X_keep (d := d) (mc := 0) (ms := 0) lay hAc (((j * 11 + x : Nat) : Int))
    have m0 := lay.1
    refine g_aload_n lk_149_0 rfl ?_
    refine g_getfield lk_149_1 rfl (lay.on (by decide) rfl) (v := ((24 : Nat) : Int)) (lay.rf rfl) ?_
    refine g_iload_n lk_149_4 rfl ?_
    refine g_iload_n lk_149_5 rfl ?_
    refine g_virtual (p := 24) (Qc := _) lk_149_6 rfl (Nat.le_of_ble_eq_true rfl) rfl rfl (lay.on (by decide) rfl) (Nat.le_of_ble_eq_true rfl) (Nat.le_of_ble_eq_true rfl) (Nat.zero_le _) (Nat.zero_le _) (hs) ?_
    rintro _ N1 ⟨rfl, hN1⟩
    rw [hN1]
    show Wp _ 149 9 [(2, ((1 : Nat) : Int)), (0, (r : Int)), (0, (c : Int)), (0, (v : Int)), (9, 0)] [(0, 1)] M _ _ _
    refine g_if (t := 22) lk_149_9 rfl (by first | (unfold pm_inI; omega) | exact pm_and_in _ _ | exact pm_shr_in _ _ | exact pm_or_in _ _ | exact pm_xor_in _ _ | exact pm_shl_in _ _ | exact pm_cmp_in _ _ | exact pm_b8_in _ | (unfold pm_inI; split <;> omega)) (fun h => absurd h (show ¬ ((1 : Int) = (0 : Int)) by omega)) (fun _ => ?_)
    refine g_iload_n lk_149_12 rfl ?_
    refine g_if (t := 22) lk_149_13 rfl (by first | (unfold pm_inI; omega) | exact pm_and_in _ _ | exact pm_shr_in _ _ | exact pm_or_in _ _ | exact pm_xor_in _ _ | exact pm_shl_in _ _ | exact pm_cmp_in _ _ | exact pm_b8_in _ | (unfold pm_inI; split <;> omega)) (fun h2 => ?_) (fun h2 => ?_)
    · replace h2 : (v : Int) < 0 := h2
      omega
    · replace h2 : ¬ ((v : Int) < 0) := h2
      refine g_iload_n lk_149_16 rfl ?_
      refine g_bipush lk_149_17 ?_
      refine g_icmp (t := 24) lk_149_19 rfl (by first | (unfold pm_inI; omega) | exact pm_and_in _ _ | exact pm_shr_in _ _ | exact pm_or_in _ _ | exact pm_xor_in _ _ | exact pm_shl_in _ _ | exact pm_cmp_in _ _ | exact pm_b8_in _ | (unfold pm_inI; split <;> omega)) (by first | (unfold pm_inI; omega) | exact pm_and_in _ _ | exact pm_shr_in _ _ | exact pm_or_in _ _ | exact pm_xor_in _ _ | exact pm_shl_in _ _ | exact pm_cmp_in _ _ | exact pm_b8_in _ | (unfold pm_inI; split <;> omega)) (fun h3 => ?_) (fun h3 => ?_)
      · replace h3 : (v : Int) ≤ 10 := h3
        refine g_aload_n lk_149_24 rfl ?_
        refine g_getfield lk_149_25 rfl (lay.on (by decide) rfl) (v := ((24 : Nat) : Int)) (lay.rf rfl) ?_
        refine g_iload_n lk_149_28 rfl ?_
        refine g_iload_n lk_149_29 rfl ?_
        refine g_virtual (p := 24) (Qc := _) lk_149_30 rfl (Nat.le_of_ble_eq_true rfl) rfl rfl (lay.on (by decide) rfl) (Nat.le_of_ble_eq_true rfl) (Nat.le_of_ble_eq_true rfl) (Nat.zero_le _) (Nat.zero_le _) (at1) ?_
        rintro _ N4 ⟨rfl, hN4⟩
        rw [hN4]
        show Wp _ 149 33 [(2, ((1 : Nat) : Int)), (0, (r : Int)), (0, (c : Int)), (0, (v : Int)), (9, 0)] [(0, (x : Int))] M _ _ _
        refine g_istore (ls' := [(2, ((1 : Nat) : Int)), (0, (r : Int)), (0, (c : Int)), (0, (v : Int)), (0, (x : Int))]) lk_149_33 rfl rfl ?_
        refine g_iload lk_149_35 rfl ?_
        refine g_iload_n lk_149_37 rfl ?_
        refine g_icmp (t := 43) lk_149_38 rfl (by first | (unfold pm_inI; omega) | exact pm_and_in _ _ | exact pm_shr_in _ _ | exact pm_or_in _ _ | exact pm_xor_in _ _ | exact pm_shl_in _ _ | exact pm_cmp_in _ _ | exact pm_b8_in _ | (unfold pm_inI; split <;> omega)) (by first | (unfold pm_inI; omega) | exact pm_and_in _ _ | exact pm_shr_in _ _ | exact pm_or_in _ _ | exact pm_xor_in _ _ | exact pm_shl_in _ _ | exact pm_cmp_in _ _ | exact pm_b8_in _ | (unfold pm_inI; split <;> omega)) (fun h5 => ?_) (fun h5 => ?_)
        · replace h5 : ¬ (x : Int) = (v : Int) := h5
          refine g_aload_n lk_149_43 rfl ?_
          refine g_iload_n lk_149_44 rfl ?_
          refine g_bipush lk_149_45 ?_
          refine g_imul lk_149_47 ?_
          refine g_iload_n lk_149_48 rfl ?_
          refine g_iadd lk_149_49 ?_
          refine g_bipush lk_149_50 ?_
          refine g_imul lk_149_52 ?_
          refine g_iload lk_149_53 rfl ?_
          refine g_iadd lk_149_55 ?_
          refine g_top (z := (((((r : Int) * 6) + (c : Int)) * 11) + (x : Int))) (z' := ((j * 11 + x : Nat) : Int)) (ek) ?_
          refine g_virtual (p := 1) (Qc := _) lk_149_56 rfl (Nat.le_of_ble_eq_true rfl) rfl rfl (lay.on (by decide) rfl) (Nat.le_of_ble_eq_true rfl) (Nat.le_of_ble_eq_true rfl) (Nat.zero_le _) (Nat.zero_le _) (kp) ?_
          rintro _ K1 ⟨rfl, lay1, f1, g1, ac1⟩
          show Wp _ 149 59 [(2, ((1 : Nat) : Int)), (0, (r : Int)), (0, (c : Int)), (0, (v : Int)), (0, (x : Int))] [] K1 _ _ _
          refine g_aload_n lk_149_59 rfl ?_
          refine g_getfield lk_149_60 rfl (lay1.on (by decide) rfl) (v := ((24 : Nat) : Int)) (lay1.rf rfl) ?_
          refine g_getfield lk_149_63 rfl (lay1.on (by decide) rfl) (v := ((25 : Nat) : Int)) (lay1.rf rfl) ?_
          refine g_iload_n lk_149_66 rfl ?_
          refine g_bipush lk_149_67 ?_
          refine g_imul lk_149_69 ?_
          refine g_iload_n lk_149_70 rfl ?_
          refine g_iadd lk_149_71 ?_
          refine g_top (z := (((r : Int) * 6) + (c : Int))) (z' := (j : Int)) (ej) ?_
          refine g_iload_n lk_149_72 rfl ?_
          have lay6 : Lay (Mu [(25, pm_upd (pm_ct K1 25) j (v : Int))] K1) := lay1.muA (l := []) (a := 25) (f := pm_upd (pm_ct K1 25) j (v : Int)) rfl rfl
          refine m_iastore (u := []) (u' := [(25, pm_upd (pm_ct K1 25) j (v : Int))]) (M := K1) lk_149_73 (lay1.ay (by decide) rfl) (by omega) (j := j) (by omega) rfl ?_
          refine g_aload_n lk_149_74 rfl ?_
          refine g_virtual (p := 1) (Qc := _) lk_149_75 rfl (Nat.le_of_ble_eq_true rfl) rfl rfl (lay6.on (by decide) rfl) (Nat.le_of_ble_eq_true rfl) (Nat.le_of_ble_eq_true rfl) (Nat.zero_le _) (Nat.zero_le _) (c_X_forget lay6 ((hCh.gr f1.gr m0 (by decide)).gr (Fr.mu (S := [25]) _ _ rfl).gr (by have := f1.1; omega) (by decide))) ?_
          rintro _ K2 ⟨rfl, lay2, f2, ch2⟩
          show Wp _ 149 78 [(2, ((1 : Nat) : Int)), (0, (r : Int)), (0, (c : Int)), (0, (v : Int)), (0, (x : Int))] [] K2 _ _ _
          refine g_iload lk_149_78 rfl ?_
          refine g_ireturn lk_149_80 (fun h => absurd h (by decide)) ?_
          have fA : Fr [1, 25, 27, 44, 47, 51, 98, 104, 110] M K2 := ((f1.mono (fun a q => by simp at q ⊢; omega)).trans (Fr.mu (S := [1, 25, 27, 44, 47, 51, 98, 104, 110]) _ _ rfl)).trans (f2.mono (fun a q => by simp at q ⊢; omega))
          have k1 : pm_ct K2 1 = pm_ct K1 1 := by rw [f2.ct (by decide), Mu_ct]; rfl
          refine ⟨rfl, fun _ => ⟨lay2, ?_, ?_, ?_, ch2 _⟩, fun q => absurd yes q, fA⟩
          · obtain ⟨m1, m2, m3, m4, m5⟩ := hM
            refine ⟨by rw [fA.ct (by decide)]; exact m1, by rw [fA.ct (by decide)]; exact m2, by rw [fA.ct (by decide)]; exact m3, by rw [fA.ct (by decide)]; exact m4, fun i hi => ?_⟩
            rw [f2.ct (by decide), Mu_ct]
            show pm_upd (pm_ct K1 25) j (v : Int) i = (((if i = j then v else tX T i) : Nat) : Int)
            by_cases e : i = j
            · rw [e, pm_upd_eq, if_pos rfl]
            · rw [pm_upd_ne e, if_neg e, f1.ct (by decide)]; exact m5 i hi
          · refine (hTs.put j v).gr fA.gr m0 (by rw [k1]; exact g1 11 (by decide)) (fun a x1 x2 q => by simp at q; omega)
          · obtain ⟨c1, c2, c3⟩ := ac1
            exact ⟨c1, by rw [k1]; exact c2, fun i hi => by rw [f2.ct (by decide), Mu_ct]; exact c3 i hi⟩
        · replace h5 : ¬ (¬ (x : Int) = (v : Int)) := h5
          omega
      · replace h3 : ¬ ((v : Int) ≤ 10) := h3
        omega
theorem c_Told_swapSides {d mc ms : Nat} {M : pm_M} (lay0 : Lay M) {T : Tab} (hT : TabOK T) (hM0 : TbAt M 24 T) {t : Nat} (t4 : t < 4) {L : List Nd} {p dp : Nat → Nat} {T0 : Tab} (hX : TdAt M (54 + 11 * t) T0 L p dp) :
    pm_E (d + 3) 98 [(2, ((54 + 11 * t : Nat) : Int)), (2, ((24 : Nat) : Int))] M mc ms (fun ρ M' => ρ = none ∧ Lay M' ∧ Fr [56 + 11 * t, 59 + 11 * t, 60 + 11 * t, 61 + 11 * t, 62 + 11 * t, 63 + 11 * t, 64 + 11 * t] M M' ∧ TdAt M' (54 + 11 * t) T (Lsw L) p dp) := by
  rcases (by omega : t = 0 ∨ t = 1 ∨ t = 2 ∨ t = 3) with e | e | e | e
  · subst e; exact c_Told_swapSides0 lay0 hT hM0 hX
  · subst e; exact c_Told_swapSides1 lay0 hT hM0 hX
  · subst e; exact c_Told_swapSides2 lay0 hT hM0 hX
  · subst e; exact c_Told_swapSides3 lay0 hT hM0 hX
def sTurn : List Nat := [24, 25, 44, 47, 51, 98, 104, 110] ++ (List.range 44).map (fun i => i + 54)
theorem sTurn_td {a : Nat} (h1 : 54 ≤ a) (h2 : a ≤ 97) : a ∈ sTurn := List.mem_append_right _ (List.mem_map.mpr ⟨a - 54, List.mem_range.mpr (by omega), by omega⟩)
theorem Lsw_getD (Ts : List (List Nd)) (t : Nat) : (Ts.map Lsw).getD t [] = Lsw (Ts.getD t []) := by
  rw [List.getD_eq_getElem?_getD, List.getD_eq_getElem?_getD, List.getElem?_map]
  cases Ts[t]? <;> rfl
theorem TdAt.fr2 {S : List Nat} {M N : pm_M} {P : Nat} {T : Tab} {L : List Nd} {p dp : Nat → Nat} (h : TdAt M P T L p dp) (k : Fr S M N) (hS : ∀ j, j ≤ 10 → P + j ∉ S) : TdAt N P T L p dp := by
  unfold TdAt NdL CmAt at h ⊢
  rw [k.ct (hS 1 (by omega)), k.ct (hS 2 (by omega)), k.ct (hS 3 (by omega)), k.ct (hS 4 (by omega)), k.ct (hS 5 (by omega)), k.ct (hS 6 (by omega)), k.ct (hS 7 (by omega)), k.ct (hS 8 (by omega)), k.ct (hS 9 (by omega)), k.ct (hS 10 (by omega))]
  exact h
set_option maxHeartbeats 4000000 in
theorem c_X_turnAll {d mc ms : Nat} {M : pm_M} {T : Tab} (hT : TabOK T) {Ts : List (List Nd)} {ps dps : Nat → Nat → Nat} {na : Nat} {aa : Nat → Int} (hS : StX M T Ts ps dps na aa) :
    pm_E (d + 4) 153 [(2, ((1 : Nat) : Int))] M mc ms (fun ρ M' => ρ = none ∧ StX M' (Tsw T) (Ts.map Lsw) ps dps na aa ∧ Fr sTurn M M') := by
  obtain ⟨Q, hQ⟩ : ∃ Q : pm_Q, Q = (fun ρ M' => ρ = none ∧ StX M' (Tsw T) (Ts.map Lsw) ps dps na aa ∧ Fr sTurn M M') := ⟨_, rfl⟩
  rw [← hQ]
  obtain ⟨lay0, hM0, hTs, hAc, hCh⟩ := hS
  have l4 := hTs.1
  have ct0 := hTs.2.1
  have m0 := lay0.1
  have hTw := hT.sw
  obtain ⟨l, hl⟩ : ∃ l, l = Ts.length := ⟨_, rfl⟩
  rw [← hl] at l4 ct0
  have loop : ∀ (n i : Nat) (N : pm_M), i + n = l → Lay N → Fr sTurn M N → TbAt N 24 (Tsw T) → (∀ t, t < i → TdAt N (54 + 11 * t) (Tsw T) (Lsw (Ts.getD t [])) (ps t) (dps t)) → (∀ t, i ≤ t → t < l → TdAt N (54 + 11 * t) T (Ts.getD t []) (ps t) (dps t)) → (∀ a, a ∈ [44, 47, 51, 98, 104, 110] → pm_ct N a = pm_ct M a) → Wp (d + 4) 153 9 [(2, ((1 : Nat) : Int)), (0, (i : Int))] [] N mc ms Q := by
    intro n
    induction n with
    | zero =>
      intro i N hi lay fr tb t1 t2 cc
      have ct : pm_ct N 1 11 = (l : Int) := by rw [fr.ct (by decide)]; exact ct0
      have e : i = l := by omega
      rw [e] at t1 ⊢
      have fr2 : Fr ([24, 25] ++ (List.range 44).map (fun i => i + 54)) M N := ⟨fr.1, fr.2.1, fr.2.2.1, fun a ha => by
        by_cases q : a ∈ [44, 47, 51, 98, 104, 110]
        · exact cc a q
        · refine fr.2.2.2 a (fun z => ?_)
          rcases List.mem_append.mp z with z | z
          · simp at z q
            exact ha (List.mem_append_left _ (by simp; omega))
          · exact ha (List.mem_append_right _ z)⟩
      have chN := hCh.gr fr2.gr m0 (by decide)
      have fo := c_X_forget (d := d + 3) (mc := 0) (ms := 0) lay chN
      refine g_iload_n lk_153_9 rfl ?_
      refine g_aload_n lk_153_10 rfl ?_
      refine m_getfield (u := []) (M := N) lk_153_11 rfl (lay.on (by decide) rfl) (v := (l : Int)) ct ?_
      refine g_icmp (t := 36) lk_153_14 rfl (by first | (unfold pm_inI; omega) | exact pm_and_in _ _ | exact pm_shr_in _ _ | exact pm_or_in _ _ | exact pm_xor_in _ _ | exact pm_shl_in _ _ | exact pm_cmp_in _ _ | exact pm_b8_in _ | (unfold pm_inI; split <;> omega)) (by first | (unfold pm_inI; omega) | exact pm_and_in _ _ | exact pm_shr_in _ _ | exact pm_or_in _ _ | exact pm_xor_in _ _ | exact pm_shl_in _ _ | exact pm_cmp_in _ _ | exact pm_b8_in _ | (unfold pm_inI; split <;> omega)) (fun h1 => ?_) (fun h1 => ?_)
      · replace h1 : (l : Int) ≤ (l : Int) := h1
        refine g_aload_n lk_153_36 rfl ?_
        refine g_virtual (p := 1) (Qc := _) lk_153_37 rfl (Nat.le_of_ble_eq_true rfl) rfl rfl (lay.on (by decide) rfl) (Nat.le_of_ble_eq_true rfl) (Nat.le_of_ble_eq_true rfl) (Nat.zero_le _) (Nat.zero_le _) (fo) ?_
        rintro _ K1 ⟨rfl, lay1, f1, ch1⟩
        show Wp _ 153 40 [(2, ((1 : Nat) : Int)), (0, (l : Int))] [] K1 _ _ _
        refine g_return lk_153_40 ?_
        rw [hQ]
        have fA : Fr sTurn M K1 := fr.trans (f1.mono (fun a q => by unfold sTurn; exact List.mem_append_left _ (by simp at q ⊢; omega)))
        refine ⟨rfl, ⟨lay1, tb.fr f1 (by decide) (by decide), ⟨by rw [List.length_map, ← hl]; exact l4, by rw [fA.ct (by decide), List.length_map, ← hl]; exact ct0, fun t ht => ?_⟩, ?_, ch1 _⟩, fA⟩
        · rw [List.length_map, ← hl] at ht
          rw [Lsw_getD]
          exact (t1 t ht).fr2 f1 (fun j hj q => by simp at q; omega)
        · obtain ⟨c1, c2, c3⟩ := hAc
          exact ⟨c1, by rw [fA.ct (by decide)]; exact c2, fun i hi => by rw [fA.ct (by decide)]; exact c3 i hi⟩
      · replace h1 : ¬ ((l : Int) ≤ (l : Int)) := h1
        omega
    | succ n ih =>
      intro i N hi lay fr tb t1 t2 cc
      have ct : pm_ct N 1 11 = (l : Int) := by rw [fr.ct (by decide)]; exact ct0
      obtain ⟨u1, u2, _⟩ := td_l lay (t := i) (by omega)
      have sw := c_Told_swapSides (d := d) (mc := 0) (ms := 0) lay hTw tb (t := i) (by omega) (t2 i (by omega) (by omega))
      have fd := fun N' => ih (i + 1) N' (by omega)
      obtain ⟨P, hP⟩ : ∃ P, P = 54 + 11 * i := ⟨_, rfl⟩
      rw [← hP] at u1 u2 sw
      clear ih
      refine g_iload_n lk_153_9 rfl ?_
      refine g_aload_n lk_153_10 rfl ?_
      refine m_getfield (u := []) (M := N) lk_153_11 rfl (lay.on (by decide) rfl) (v := (l : Int)) ct ?_
      refine g_icmp (t := 36) lk_153_14 rfl (by first | (unfold pm_inI; omega) | exact pm_and_in _ _ | exact pm_shr_in _ _ | exact pm_or_in _ _ | exact pm_xor_in _ _ | exact pm_shl_in _ _ | exact pm_cmp_in _ _ | exact pm_b8_in _ | (unfold pm_inI; split <;> omega)) (by first | (unfold pm_inI; omega) | exact pm_and_in _ _ | exact pm_shr_in _ _ | exact pm_or_in _ _ | exact pm_xor_in _ _ | exact pm_shl_in _ _ | exact pm_cmp_in _ _ | exact pm_b8_in _ | (unfold pm_inI; split <;> omega)) (fun h1 => ?_) (fun h1 => ?_)
      · replace h1 : (l : Int) ≤ (i : Int) := h1
        omega
      · replace h1 : ¬ ((l : Int) ≤ (i : Int)) := h1
        refine g_aload_n lk_153_17 rfl ?_
        refine g_getfield lk_153_18 rfl (lay.on (by decide) rfl) (v := ((26 : Nat) : Int)) (lay.rf rfl) ?_
        refine g_iload_n lk_153_21 rfl ?_
        refine g_aaload lk_153_22 (by decide) (lay.ay (by decide) rfl) (by omega) (v := ((P : Nat) : Int)) u2 ?_
        refine g_aload_n lk_153_23 rfl ?_
        refine g_getfield lk_153_24 rfl (lay.on (by decide) rfl) (v := ((24 : Nat) : Int)) (lay.rf rfl) ?_
        refine g_virtual (p := P) (Qc := _) lk_153_27 rfl (Nat.le_of_ble_eq_true rfl) rfl rfl u1 (Nat.le_of_ble_eq_true rfl) (Nat.le_of_ble_eq_true rfl) (Nat.zero_le _) (Nat.zero_le _) (sw) ?_
        rintro _ K1 ⟨rfl, lay1, f1, td1⟩
        show Wp _ 153 30 [(2, ((1 : Nat) : Int)), (0, (i : Int))] [] K1 _ _ _
        refine g_iinc (ls' := [(2, ((1 : Nat) : Int)), (0, ((i : Int) + 1))]) lk_153_30 rfl rfl rfl ?_
        refine g_goto (t := 9) lk_153_33 rfl ?_
        refine fd K1 lay1 (fr.trans (f1.mono (fun a q => sTurn_td (by simp at q; omega) (by simp at q; omega)))) (tb.fr f1 (fun q => by simp at q; omega) (fun q => by simp at q; omega)) (fun t ht => ?_) (fun t h1 h2 => (t2 t (by omega) h2).fr2 f1 (fun j hj q => by simp at q; omega)) (fun a ha => by rw [f1.ct (fun q => by simp at q ha; omega)]; exact cc a ha)
        by_cases e : t = i
        · rw [e, ← hP]; exact td1
        · exact (t1 t (by omega)).fr2 f1 (fun j hj q => by simp at q; omega)
  have sw := c_Table_swapSides (d := d + 2) (mc := 0) (ms := 0) lay0 hT hM0
  show Wp (d + 4) 153 0 [(2, ((1 : Nat) : Int)), (9, 0)] [] M mc ms Q
  refine g_aload_n lk_153_0 rfl ?_
  refine g_getfield lk_153_1 rfl (lay0.on (by decide) rfl) (v := ((24 : Nat) : Int)) (lay0.rf rfl) ?_
  refine g_virtual (p := 24) (Qc := _) lk_153_4 rfl (Nat.le_of_ble_eq_true rfl) rfl rfl (lay0.on (by decide) rfl) (Nat.le_of_ble_eq_true rfl) (Nat.le_of_ble_eq_true rfl) (Nat.zero_le _) (Nat.zero_le _) (sw) ?_
  rintro _ K1 ⟨rfl, lay1, f1, tb1⟩
  show Wp _ 153 7 [(2, ((1 : Nat) : Int)), (9, 0)] [] K1 _ _ _
  refine g_iconst lk_153_7 ?_
  refine g_istore_n (ls' := [(2, ((1 : Nat) : Int)), (0, 0)]) lk_153_8 rfl rfl ?_
  refine loop l 0 K1 (by omega) lay1 (f1.mono (fun a q => by unfold sTurn; exact List.mem_append_left _ (by simp at q ⊢; omega))) tb1 (fun t ht => absurd ht (Nat.not_lt_zero t)) (fun t _ h2 => (hTs.2.2 t (by omega)).fr2 f1 (fun j hj q => by simp at q; omega)) (fun a ha => f1.ct (fun q => by simp at q ha; omega))
theorem c_X_turn {d mc ms : Nat} {M : pm_M} {T : Tab} (hT : TabOK T) {Ts : List (List Nd)} {ps dps : Nat → Nat → Nat} {na : Nat} {aa : Nat → Int} (hS : StX M T Ts ps dps na aa) :
    pm_E (d + 5) 150 [(2, ((1 : Nat) : Int))] M mc ms (fun ρ M' => ρ = some (0, (tC T : Int)) ∧ StX M' (Tsw T) (Ts.map Lsw) ps dps (kN na) (kA na aa (-1)) ∧ Fr (1 :: 27 :: sTurn) M M') := by
  obtain ⟨lay, hM, hTs, hAc, hCh⟩ := hS
  have m0 := lay.1
  have kp := c_X_keep (d := d + 4) (mc := 0) (ms := 0) lay hAc (-1)
  show Wp (d + 5) 150 0 [(2, ((1 : Nat) : Int))] [] M mc ms _
  refine g_aload_n lk_150_0 rfl ?_
  refine g_iconst lk_150_1 ?_
  refine g_virtual (p := 1) (Qc := _) lk_150_2 rfl (Nat.le_of_ble_eq_true rfl) rfl rfl (lay.on (by decide) rfl) (Nat.le_of_ble_eq_true rfl) (Nat.le_of_ble_eq_true rfl) (Nat.zero_le _) (Nat.zero_le _) (kp) ?_
  rintro _ K1 ⟨rfl, lay1, f1, g1, ac1⟩
  have st1 : StX K1 T Ts ps dps (kN na) (kA na aa (-1)) := ⟨lay1, hM.fr f1 (by decide) (by decide), hTs.gr f1.gr m0 (g1 11 (by decide)) (fun a x1 x2 q => by simp at q; omega), ac1, hCh.gr f1.gr m0 (by decide)⟩
  have ta := c_X_turnAll (d := d) (mc := 0) (ms := 0) hT st1
  show Wp _ 150 5 [(2, ((1 : Nat) : Int))] [] K1 _ _ _
  refine g_aload_n lk_150_5 rfl ?_
  refine g_virtual (p := 1) (Qc := _) lk_150_6 rfl (Nat.le_of_ble_eq_true rfl) rfl rfl (lay1.on (by decide) rfl) (Nat.le_of_ble_eq_true rfl) (Nat.le_of_ble_eq_true rfl) (Nat.zero_le _) (Nat.zero_le _) (ta) ?_
  rintro _ K2 ⟨rfl, st2, f2⟩
  have lay2 := st2.1
  have r1 := st2.2.1.1
  show Wp _ 150 9 [(2, ((1 : Nat) : Int))] [] K2 _ _ _
  refine g_aload_n lk_150_9 rfl ?_
  refine g_getfield lk_150_10 rfl (lay2.on (by decide) rfl) (v := ((24 : Nat) : Int)) (lay2.rf rfl) ?_
  refine m_getfield (u := []) (M := K2) lk_150_13 rfl (lay2.on (by decide) rfl) (v := (tC T : Int)) r1 ?_
  refine g_ireturn lk_150_16 (fun h => absurd h (by decide)) ?_
  exact ⟨rfl, st2, (f1.mono (fun a q => by simp at q ⊢; omega)).trans (f2.mono (fun a q => List.mem_cons_of_mem _ (List.mem_cons_of_mem _ q)))⟩
/-- acts that can be undone: a cell lies in the table as it stood then -/
def AcOK (a : Nat → Int) : Nat → Nat → Nat → Prop
  | _, _, 0 => True
  | R, C, n + 1 => (a n = -1 ∧ AcOK a C R n) ∨ (∃ m : Nat, a n = (m : Int) ∧ m < 396 ∧ m / 11 / 6 < R ∧ m / 11 % 6 < C ∧ AcOK a R C n)
def undT (T : Tab) (z : Int) : Tab := if z = -1 then Tsw T else Tput T (z.toNat / 11) (z.toNat % 11)
def undL (Ts : List (List Nd)) (z : Int) : List (List Nd) := if z = -1 then Ts.map Lsw else Ts
set_option maxHeartbeats 4000000 in
theorem c_X_undo {d mc ms : Nat} {M : pm_M} {T : Tab} (hT : TabOK T) {Ts : List (List Nd)} {ps dps : Nat → Nat → Nat} {na : Nat} {aa : Nat → Int} (hS : StX M T Ts ps dps na aa) (hO : AcOK aa (tR T) (tC T) na) :
    pm_E (d + 5) 151 [(2, ((1 : Nat) : Int))] M mc ms (fun ρ M' => ρ = some (0, if na = 0 then 0 else 1) ∧ (na = 0 → M' = M) ∧ (∀ k, na = k + 1 → StX M' (undT T (aa k)) (undL Ts (aa k)) ps dps k aa) ∧ Fr (1 :: 27 :: sTurn) M M') := by
  obtain ⟨lay, hM, hTs, hAc, hCh⟩ := hS
  have m0 := lay.1
  obtain ⟨n12, h12, ha⟩ := hAc
  show Wp (d + 5) 151 0 [(2, ((1 : Nat) : Int)), (9, 0)] [] M mc ms _
  cases na with
  | zero =>
    have h12' : pm_ct M 1 12 = 0 := h12
    refine g_aload_n lk_151_0 rfl ?_
    refine m_getfield (u := []) (M := M) lk_151_1 rfl (lay.on (by decide) rfl) (v := 0) h12' ?_
    refine g_if (t := 9) lk_151_4 rfl (by first | (unfold pm_inI; omega) | exact pm_and_in _ _ | exact pm_shr_in _ _ | exact pm_or_in _ _ | exact pm_xor_in _ _ | exact pm_shl_in _ _ | exact pm_cmp_in _ _ | exact pm_b8_in _ | (unfold pm_inI; split <;> omega)) (fun h => absurd h (show ¬ ((0 : Int) < (0 : Int)) by omega)) (fun _ => ?_)
    refine g_iconst lk_151_7 ?_
    refine g_ireturn lk_151_8 (fun _ => by omega) ?_
    exact ⟨by rw [if_pos rfl], fun _ => rfl, fun k hk => by omega, Fr.refl _ _⟩
  | succ k =>
    have ak := ha k (by omega)
    have ek : ((k + 1 : Nat) : Int) - 1 = (k : Int) := by omega
    have fin : ∀ K : pm_M, StX K (undT T (aa k)) (undL Ts (aa k)) ps dps k aa → Fr (1 :: 27 :: sTurn) M K → (some ((0 : Nat), (1 : Int)) = some (0, if k + 1 = 0 then 0 else 1) ∧ (k + 1 = 0 → K = M) ∧ (∀ k', k + 1 = k' + 1 → StX K (undT T (aa k')) (undL Ts (aa k')) ps dps k' aa) ∧ Fr (1 :: 27 :: sTurn) M K) := fun K st fr => ⟨by rw [if_neg (by omega)], fun q => by omega, fun k' hk => by
      have e : k' = k := by omega
      rw [e]; exact st, fr⟩
    have f1 : Fr [1] M (Mu [(1, pm_upd (pm_ct M 1) 12 (k : Int))] M) := Fr.mu _ _ rfl
    have g1 : ∀ j, j ≠ 12 → pm_ct (Mu [(1, pm_upd (pm_ct M 1) 12 (k : Int))] M) 1 j = pm_ct M 1 j := fun j hj => by rw [Mu_ct]; exact pm_upd_ne hj
    have st1 : Lay (Mu [(1, pm_upd (pm_ct M 1) 12 (k : Int))] M) → StX (Mu [(1, pm_upd (pm_ct M 1) 12 (k : Int))] M) T Ts ps dps k aa := fun l => ⟨l, hM.fr f1 (by decide) (by decide), hTs.gr f1.gr m0 (g1 11 (by decide)) (fun a x1 x2 q => by simp at q; omega), ⟨by omega, by rw [Mu_ct]; rfl, fun i hi => by rw [Mu_ct]; exact ha i (by omega)⟩, hCh.gr f1.gr m0 (by decide)⟩
    rcases hO with ⟨z1, _⟩ | ⟨m, z1, m3, _, _, _⟩
    · rw [z1] at ak fin
      have eT : undT T (-1) = Tsw T := by unfold undT; rw [if_pos rfl]
      have eL : undL Ts (-1) = Ts.map Lsw := by unfold undL; rw [if_pos rfl]
      rw [eT, eL] at fin
      refine g_aload_n lk_151_0 rfl ?_
      refine m_getfield (u := []) (M := M) lk_151_1 rfl (lay.on (by decide) rfl) (v := ((k + 1 : Nat) : Int)) h12 ?_
      refine g_if (t := 9) lk_151_4 rfl (by first | (unfold pm_inI; omega) | exact pm_and_in _ _ | exact pm_shr_in _ _ | exact pm_or_in _ _ | exact pm_xor_in _ _ | exact pm_shl_in _ _ | exact pm_cmp_in _ _ | exact pm_b8_in _ | (unfold pm_inI; split <;> omega)) (fun h1 => ?_) (fun h1 => ?_)
      · replace h1 : 0 < ((k + 1 : Nat) : Int) := h1
        refine g_aload_n lk_151_9 rfl ?_
        refine g_dup lk_151_10 rfl ?_
        refine m_getfield (u := []) (M := M) lk_151_11 rfl (lay.on (by decide) rfl) (v := ((k + 1 : Nat) : Int)) h12 ?_
        refine g_iconst lk_151_14 ?_
        refine g_isub lk_151_15 ?_
        refine g_top (z := (((k + 1 : Nat) : Int) - 1)) (z' := (k : Int)) (ek) ?_
        have lay2 : Lay (Mu [(1, pm_upd (pm_ct M 1) 12 (k : Int))] M) := lay.muF (l := []) (a := 1) (k := 12) (z := (k : Int)) rfl rfl
        refine m_putfield (u := []) (u' := [(1, pm_upd (pm_ct M 1) 12 (k : Int))]) (M := M) lk_151_16 rfl (lay.on (by decide) rfl) (fun h => absurd h (by decide)) rfl ?_
        refine g_aload_n lk_151_19 rfl ?_
        refine g_getfield lk_151_20 rfl (lay2.on (by decide) rfl) (v := ((27 : Nat) : Int)) (lay2.rf rfl) ?_
        refine g_aload_n lk_151_23 rfl ?_
        refine m_getfield (u := [(1, pm_upd (pm_ct M 1) 12 (k : Int))]) (M := M) lk_151_24 rfl (lay2.on (by decide) rfl) (v := (k : Int)) rfl ?_
        refine m_iaload (u := [(1, pm_upd (pm_ct M 1) 12 (k : Int))]) (M := M) lk_151_27 (lay2.ay (by decide) rfl) (by omega) (j := k) (by omega) (v := (-1)) ak ?_
        refine g_istore_n (ls' := [(2, ((1 : Nat) : Int)), (0, (-1))]) lk_151_28 rfl rfl ?_
        refine g_iload_n lk_151_29 rfl ?_
        refine g_iconst lk_151_30 ?_
        refine g_icmp (t := 41) lk_151_31 rfl (by first | (unfold pm_inI; omega) | exact pm_and_in _ _ | exact pm_shr_in _ _ | exact pm_or_in _ _ | exact pm_xor_in _ _ | exact pm_shl_in _ _ | exact pm_cmp_in _ _ | exact pm_b8_in _ | (unfold pm_inI; split <;> omega)) (by first | (unfold pm_inI; omega) | exact pm_and_in _ _ | exact pm_shr_in _ _ | exact pm_or_in _ _ | exact pm_xor_in _ _ | exact pm_shl_in _ _ | exact pm_cmp_in _ _ | exact pm_b8_in _ | (unfold pm_inI; split <;> omega)) (fun h => absurd h (show ¬ (¬ (-1 : Int) = (-1 : Int)) by omega)) (fun _ => ?_)
        refine g_aload_n lk_151_34 rfl ?_
        refine g_virtual (p := 1) (Qc := _) lk_151_35 rfl (Nat.le_of_ble_eq_true rfl) rfl rfl (lay2.on (by decide) rfl) (Nat.le_of_ble_eq_true rfl) (Nat.le_of_ble_eq_true rfl) (Nat.zero_le _) (Nat.zero_le _) (c_X_turnAll (d := d) (mc := 0) (ms := 0) hT (st1 lay2)) ?_
        rintro _ K2 ⟨rfl, st2, f2⟩
        have lay2 := st2.1
        show Wp _ 151 38 [(2, ((1 : Nat) : Int)), (0, (-1))] [] K2 _ _ _
        refine g_goto (t := 61) lk_151_38 rfl ?_
        refine g_iconst lk_151_61 ?_
        refine g_ireturn lk_151_62 (fun _ => by omega) ?_
        exact fin K2 st2 ((f1.mono (fun a q => by simp at q; simp [q])).trans (f2.mono (fun a q => List.mem_cons_of_mem _ (List.mem_cons_of_mem _ q))))
      · replace h1 : ¬ (0 < ((k + 1 : Nat) : Int)) := h1
        omega
    · rw [z1] at ak fin
      have eT : undT T (m : Int) = Tput T (m / 11) (m % 11) := by unfold undT; rw [if_neg (by omega)]; rfl
      have eL : undL Ts (m : Int) = Ts := by unfold undL; rw [if_neg (by omega)]
      rw [eT, eL] at fin
      obtain ⟨j, hj⟩ : ∃ j, j = m / 11 := ⟨_, rfl⟩
      obtain ⟨v, hv⟩ : ∃ v, v = m % 11 := ⟨_, rfl⟩
      rw [← hj, ← hv] at fin
      have ej : (m : Int).tdiv 11 = (j : Int) := by rw [hj]; rfl
      have ev : (m : Int).tmod 11 = (v : Int) := by rw [hv]; rfl
      have j36 : j < 36 := by omega
      refine g_aload_n lk_151_0 rfl ?_
      refine m_getfield (u := []) (M := M) lk_151_1 rfl (lay.on (by decide) rfl) (v := ((k + 1 : Nat) : Int)) h12 ?_
      refine g_if (t := 9) lk_151_4 rfl (by first | (unfold pm_inI; omega) | exact pm_and_in _ _ | exact pm_shr_in _ _ | exact pm_or_in _ _ | exact pm_xor_in _ _ | exact pm_shl_in _ _ | exact pm_cmp_in _ _ | exact pm_b8_in _ | (unfold pm_inI; split <;> omega)) (fun h1 => ?_) (fun h1 => ?_)
      · replace h1 : 0 < ((k + 1 : Nat) : Int) := h1
        refine g_aload_n lk_151_9 rfl ?_
        refine g_dup lk_151_10 rfl ?_
        refine m_getfield (u := []) (M := M) lk_151_11 rfl (lay.on (by decide) rfl) (v := ((k + 1 : Nat) : Int)) h12 ?_
        refine g_iconst lk_151_14 ?_
        refine g_isub lk_151_15 ?_
        refine g_top (z := (((k + 1 : Nat) : Int) - 1)) (z' := (k : Int)) (ek) ?_
        have lay2 : Lay (Mu [(1, pm_upd (pm_ct M 1) 12 (k : Int))] M) := lay.muF (l := []) (a := 1) (k := 12) (z := (k : Int)) rfl rfl
        refine m_putfield (u := []) (u' := [(1, pm_upd (pm_ct M 1) 12 (k : Int))]) (M := M) lk_151_16 rfl (lay.on (by decide) rfl) (fun h => absurd h (by decide)) rfl ?_
        refine g_aload_n lk_151_19 rfl ?_
        refine g_getfield lk_151_20 rfl (lay2.on (by decide) rfl) (v := ((27 : Nat) : Int)) (lay2.rf rfl) ?_
        refine g_aload_n lk_151_23 rfl ?_
        refine m_getfield (u := [(1, pm_upd (pm_ct M 1) 12 (k : Int))]) (M := M) lk_151_24 rfl (lay2.on (by decide) rfl) (v := (k : Int)) rfl ?_
        refine m_iaload (u := [(1, pm_upd (pm_ct M 1) 12 (k : Int))]) (M := M) lk_151_27 (lay2.ay (by decide) rfl) (by omega) (j := k) (by omega) (v := (m : Int)) ak ?_
        refine g_istore_n (ls' := [(2, ((1 : Nat) : Int)), (0, (m : Int))]) lk_151_28 rfl rfl ?_
        refine g_iload_n lk_151_29 rfl ?_
        refine g_iconst lk_151_30 ?_
        refine g_icmp (t := 41) lk_151_31 rfl (by first | (unfold pm_inI; omega) | exact pm_and_in _ _ | exact pm_shr_in _ _ | exact pm_or_in _ _ | exact pm_xor_in _ _ | exact pm_shl_in _ _ | exact pm_cmp_in _ _ | exact pm_b8_in _ | (unfold pm_inI; split <;> omega)) (by first | (unfold pm_inI; omega) | exact pm_and_in _ _ | exact pm_shr_in _ _ | exact pm_or_in _ _ | exact pm_xor_in _ _ | exact pm_shl_in _ _ | exact pm_cmp_in _ _ | exact pm_b8_in _ | (unfold pm_inI; split <;> omega)) (fun h3 => ?_) (fun h3 => ?_)
        · replace h3 : ¬ (m : Int) = (-1) := h3
          refine g_aload_n lk_151_41 rfl ?_
          refine g_getfield lk_151_42 rfl (lay2.on (by decide) rfl) (v := ((24 : Nat) : Int)) (lay2.rf rfl) ?_
          refine g_getfield lk_151_45 rfl (lay2.on (by decide) rfl) (v := ((25 : Nat) : Int)) (lay2.rf rfl) ?_
          refine g_iload_n lk_151_48 rfl ?_
          refine g_bipush lk_151_49 ?_
          refine g_idiv lk_151_51 (by unfold pm_inI; omega) (by unfold pm_inI; omega) (by omega) ?_
          refine g_top (z := ((m : Int).tdiv 11)) (z' := (j : Int)) (ej) ?_
          refine g_iload_n lk_151_52 rfl ?_
          refine g_bipush lk_151_53 ?_
          refine g_irem lk_151_55 (by unfold pm_inI; omega) (by unfold pm_inI; omega) (by omega) ?_
          refine g_top (z := ((m : Int).tmod 11)) (z' := (v : Int)) (ev) ?_
          have lay4 : Lay (Mu [(1, pm_upd (pm_ct M 1) 12 (k : Int)), (25, pm_upd (pm_ct M 25) j (v : Int))] M) := lay2.muA (l := [(1, pm_upd (pm_ct M 1) 12 (k : Int))]) (a := 25) (f := pm_upd (pm_ct M 25) j (v : Int)) rfl rfl
          refine m_iastore (u := [(1, pm_upd (pm_ct M 1) 12 (k : Int))]) (u' := [(1, pm_upd (pm_ct M 1) 12 (k : Int)), (25, pm_upd (pm_ct M 25) j (v : Int))]) (M := M) lk_151_56 (lay2.ay (by decide) rfl) (by omega) (j := j) (by omega) rfl ?_
          refine g_aload_n lk_151_57 rfl ?_
          refine g_virtual (p := 1) (Qc := _) lk_151_58 rfl (Nat.le_of_ble_eq_true rfl) rfl rfl (lay4.on (by decide) rfl) (Nat.le_of_ble_eq_true rfl) (Nat.le_of_ble_eq_true rfl) (Nat.zero_le _) (Nat.zero_le _) (c_X_forget lay4 (hCh.gr (Fr.mu (S := [1, 25]) _ _ rfl).gr m0 (by decide))) ?_
          rintro _ K2 ⟨rfl, lay2, f2, ch2⟩
          show Wp _ 151 61 [(2, ((1 : Nat) : Int)), (0, (m : Int))] [] K2 _ _ _
          refine g_iconst lk_151_61 ?_
          refine g_ireturn lk_151_62 (fun _ => by omega) ?_
          have fA : Fr [1, 25, 27, 44, 47, 51, 98, 104, 110] M K2 := (Fr.mu (S := [1, 25, 27, 44, 47, 51, 98, 104, 110]) _ _ rfl).trans (f2.mono (fun a q => by simp at q ⊢; omega))
          refine fin K2 ⟨lay2, ?_, ?_, ?_, ch2 _⟩ (fA.mono (fun a q => ?_))
          · obtain ⟨m1, m2, m3', m4, m5⟩ := hM
            refine ⟨by rw [fA.ct (by decide)]; exact m1, by rw [fA.ct (by decide)]; exact m2, by rw [fA.ct (by decide)]; exact m3', by rw [fA.ct (by decide)]; exact m4, fun i hi => ?_⟩
            rw [f2.ct (by decide), Mu_ct]
            show pm_upd (pm_ct M 25) j (v : Int) i = (((if i = j then v else tX T i) : Nat) : Int)
            by_cases e : i = j
            · rw [e, pm_upd_eq, if_pos rfl]
            · rw [pm_upd_ne e, if_neg e]; exact m5 i hi
          · refine (hTs.put j v).gr fA.gr m0 (by rw [f2.ct (by decide), Mu_ct]; rfl) (fun a x1 x2 q => by simp at q; omega)
          · exact ⟨by omega, by rw [f2.ct (by decide), Mu_ct]; rfl, fun i hi => by rw [f2.ct (by decide), Mu_ct]; exact ha i (by omega)⟩
          · simp only [List.mem_cons, List.not_mem_nil, or_false] at q
            rcases q with z | z | z | z | z | z | z | z | z <;> subst z <;> decide
        · replace h3 : ¬ (¬ (m : Int) = (-1)) := h3
          omega
      · replace h1 : ¬ (0 < ((k + 1 : Nat) : Int)) := h1
        omega
