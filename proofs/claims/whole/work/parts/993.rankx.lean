/-! ===== rank: the class ===== -/
def MxAt (M : pm_M) (a R C : Nat) (X : Mx) : Prop := ∀ r i, r < R → i < C → pm_ct M a (6 * r + i) = X r i
theorem inL_of {z : Int} (h : z.natAbs ≤ 400000000000000000) : pm_inL z := by unfold pm_inL; omega
theorem cmp0 {z : Int} (h : pm_inL z) : ∃ k : Int, pm_cmp (pm_wL z) (pm_wL 0) = k ∧ (k = 0 ↔ z = 0) ∧ -1 ≤ k ∧ k ≤ 1 := by
  rw [pm_wL_of h, pm_wL_of (by unfold pm_inL; omega)]
  unfold pm_cmp
  by_cases a : 0 < z
  · exact ⟨1, by rw [if_pos a], by omega, by omega, by omega⟩
  · rw [if_neg a]
    by_cases b : z = 0
    · exact ⟨0, by rw [if_pos b], by omega, by omega, by omega⟩
    · exact ⟨-1, by rw [if_neg b], by omega, by omega, by omega⟩
set_option maxHeartbeats 4000000 in
theorem c_Lines_fill {d mc ms : Nat} {M : pm_M} (lay0 : Lay M) {T : Tab} (hT : TabOK T) (hM0 : TbAt M 24 T) {p : Nat} (hp : p ≤ 97) :
    pm_E (d + 1) 29 [(2, ((39 : Nat) : Int)), (0, (p : Int))] M mc ms (fun ρ M' => ρ = none ∧ Lay M' ∧ Fr [40] M M' ∧ MxAt M' 40 (tR T) (tC T) (X0 T p)) := by
  obtain ⟨Q, hQ⟩ : ∃ Q : pm_Q, Q = (fun ρ M' => ρ = none ∧ Lay M' ∧ Fr [40] M M' ∧ MxAt M' 40 (tR T) (tC T) (X0 T p)) := ⟨_, rfl⟩
  rw [← hQ]
  have hR := hT.1
  have hC := hT.2.1
  have inner : ∀ (r : Nat), r < tR T → (∀ (v3 v4 : pm_V) (N : pm_M), Lay N → Fr [40] M N → (∀ a i, (a < r + 1 ∨ a = r + 1 ∧ i < 0) → i < tC T → pm_ct N 40 (6 * a + i) = X0 T p a i) → Wp (d + 1) 29 2 [(2, ((39 : Nat) : Int)), (0, (p : Int)), (0, ((r + 1 : Nat) : Int)), v3, v4] [] N mc ms Q) →
      ∀ (n c : Nat) (v4 : pm_V) (N : pm_M), c + n = tC T → Lay N → Fr [40] M N → (∀ a i, (a < r ∨ a = r ∧ i < c) → i < tC T → pm_ct N 40 (6 * a + i) = X0 T p a i) → Wp (d + 1) 29 15 [(2, ((39 : Nat) : Int)), (0, (p : Int)), (0, (r : Int)), (0, (c : Int)), v4] [] N mc ms Q := by
    intro r hr go n
    induction n with
    | zero =>
      intro c v4 N hi lay fr hN
      have m2 : pm_ct N 24 2 = (tC T : Int) := by rw [fr.ct (by decide)]; exact hM0.2.1
      have e : c = tC T := by omega
      rw [e] at hN ⊢
      refine g_iload_n lk_29_15 rfl ?_
      refine g_aload_n lk_29_16 rfl ?_
      refine g_getfield lk_29_17 rfl (lay.on (by decide) rfl) (v := ((24 : Nat) : Int)) (lay.rf rfl) ?_
      refine m_getfield (u := []) (M := N) lk_29_20 rfl (lay.on (by decide) rfl) (v := (tC T : Int)) m2 ?_
      refine g_icmp (t := 72) lk_29_23 rfl (by first | (unfold pm_inI; omega) | exact pm_and_in _ _ | exact pm_shr_in _ _ | exact pm_or_in _ _ | exact pm_xor_in _ _ | exact pm_shl_in _ _ | exact pm_cmp_in _ _ | exact pm_b8_in _ | (unfold pm_inI; split <;> omega)) (by first | (unfold pm_inI; omega) | exact pm_and_in _ _ | exact pm_shr_in _ _ | exact pm_or_in _ _ | exact pm_xor_in _ _ | exact pm_shl_in _ _ | exact pm_cmp_in _ _ | exact pm_b8_in _ | (unfold pm_inI; split <;> omega)) (fun h1 => ?_) (fun h1 => ?_)
      · replace h1 : (tC T : Int) ≤ (tC T : Int) := h1
        refine g_iinc (ls' := [(2, ((39 : Nat) : Int)), (0, (p : Int)), (0, ((r : Int) + 1)), (0, (tC T : Int)), v4]) lk_29_72 rfl rfl rfl ?_
        refine g_goto (t := 2) lk_29_75 rfl ?_
        exact go _ _ N lay fr (fun a i h1 h2 => hN a i (by omega) h2)
      · replace h1 : ¬ ((tC T : Int) ≤ (tC T : Int)) := h1
        omega
    | succ n ih =>
      intro c v4 N hi lay fr hN
      have tb := hM0.fr fr (by decide) (by decide)
      have m2 := tb.2.1
      have at1 := c_Table_at (d := d) (mc := 0) (ms := 0) lay (Or.inr rfl) tb (r := r) (c := c) (by omega) (by omega)
      have x10 := hT.2.2.1 (6 * r + c)
      have ex : X0 T p r c = if tX T (6 * r + c) = 10 then 0 else if p = 0 then (tX T (6 * r + c) : Int) else ((tX T (6 * r + c) % p : Nat) : Int) := rfl
      obtain ⟨x, hx⟩ : ∃ x, x = tX T (6 * r + c) := ⟨_, rfl⟩
      rw [← hx] at at1 x10 ex
      obtain ⟨j, hj⟩ : ∃ j, j = 6 * r + c := ⟨_, rfl⟩
      have ej : (r : Int) * 6 + (c : Int) = (j : Int) := by omega
      have e1 : (x : Int).tmod 10 = ((x % 10 : Nat) : Int) := rfl
      obtain ⟨y, hy⟩ : ∃ y, y = x % 10 := ⟨_, rfl⟩
      rw [← hy] at e1
      have e2 : (y : Int).tmod (p : Int) = ((y % p : Nat) : Int) := rfl
      have go2 : ∀ (z : Int) (v4 : pm_V) (N' : pm_M), N' = Mu [(40, pm_upd (pm_ct N 40) j z)] N → Lay N' → z = X0 T p r c → Wp (d + 1) 29 15 [(2, ((39 : Nat) : Int)), (0, (p : Int)), (0, (r : Int)), (0, (c : Int) + 1), v4] [] N' mc ms Q := fun z v4 N' hN' l1 hz => by
        refine ih (c + 1) v4 N' (by omega) l1 (by rw [hN']; exact fr.trans (Fr.mu _ _ rfl)) (fun a i h1 h2 => ?_)
        rw [hN', Mu_ct]
        show pm_upd (pm_ct N 40) j z (6 * a + i) = _
        by_cases q : a = r ∧ i = c
        · rw [q.1, q.2, ← hj, pm_upd_eq, hz]
        · rw [pm_upd_ne (by omega)]; exact hN a i (by omega) h2
      clear ih go
      have yx : x = 10 ∧ y = 0 ∨ x < 10 ∧ y = x := by omega
      by_cases p0 : p = 0
      · have p0' : (p : Int) = 0 := by omega
        refine g_iload_n lk_29_15 rfl ?_
        refine g_aload_n lk_29_16 rfl ?_
        refine g_getfield lk_29_17 rfl (lay.on (by decide) rfl) (v := ((24 : Nat) : Int)) (lay.rf rfl) ?_
        refine m_getfield (u := []) (M := N) lk_29_20 rfl (lay.on (by decide) rfl) (v := (tC T : Int)) m2 ?_
        refine g_icmp (t := 72) lk_29_23 rfl (by first | (unfold pm_inI; omega) | exact pm_and_in _ _ | exact pm_shr_in _ _ | exact pm_or_in _ _ | exact pm_xor_in _ _ | exact pm_shl_in _ _ | exact pm_cmp_in _ _ | exact pm_b8_in _ | (unfold pm_inI; split <;> omega)) (by first | (unfold pm_inI; omega) | exact pm_and_in _ _ | exact pm_shr_in _ _ | exact pm_or_in _ _ | exact pm_xor_in _ _ | exact pm_shl_in _ _ | exact pm_cmp_in _ _ | exact pm_b8_in _ | (unfold pm_inI; split <;> omega)) (fun h1 => ?_) (fun h1 => ?_)
        · replace h1 : (tC T : Int) ≤ (c : Int) := h1
          omega
        · replace h1 : ¬ ((tC T : Int) ≤ (c : Int)) := h1
          refine g_aload_n lk_29_26 rfl ?_
          refine g_getfield lk_29_27 rfl (lay.on (by decide) rfl) (v := ((24 : Nat) : Int)) (lay.rf rfl) ?_
          refine g_iload_n lk_29_30 rfl ?_
          refine g_iload_n lk_29_31 rfl ?_
          refine g_virtual (p := 24) (Qc := _) lk_29_32 rfl (Nat.le_of_ble_eq_true rfl) rfl rfl (lay.on (by decide) rfl) (Nat.le_of_ble_eq_true rfl) (Nat.le_of_ble_eq_true rfl) (Nat.zero_le _) (Nat.zero_le _) (at1) ?_
          rintro _ N2 ⟨rfl, hN2⟩
          rw [hN2]
          show Wp _ 29 35 [(2, ((39 : Nat) : Int)), (0, (p : Int)), (0, (r : Int)), (0, (c : Int)), v4] [(0, (x : Int))] N _ _ _
          refine g_bipush lk_29_35 ?_
          refine g_irem lk_29_37 (by unfold pm_inI; omega) (by unfold pm_inI; omega) (by omega) ?_
          refine g_top (z := ((x : Int).tmod 10)) (z' := (y : Int)) (e1) ?_
          refine g_istore (ls' := [(2, ((39 : Nat) : Int)), (0, (p : Int)), (0, (r : Int)), (0, (c : Int)), (0, (y : Int))]) lk_29_38 rfl rfl ?_
          refine g_aload_n lk_29_40 rfl ?_
          refine g_getfield lk_29_41 rfl (lay.on (by decide) rfl) (v := ((40 : Nat) : Int)) (lay.rf rfl) ?_
          refine g_iload_n lk_29_44 rfl ?_
          refine g_bipush lk_29_45 ?_
          refine g_imul lk_29_47 ?_
          refine g_iload_n lk_29_48 rfl ?_
          refine g_iadd lk_29_49 ?_
          refine g_top (z := (((r : Int) * 6) + (c : Int))) (z' := (j : Int)) (ej) ?_
          refine g_iload_n lk_29_50 rfl ?_
          refine g_if (t := 62) lk_29_51 rfl (by first | (unfold pm_inI; omega) | exact pm_and_in _ _ | exact pm_shr_in _ _ | exact pm_or_in _ _ | exact pm_xor_in _ _ | exact pm_shl_in _ _ | exact pm_cmp_in _ _ | exact pm_b8_in _ | (unfold pm_inI; split <;> omega)) (fun h3 => ?_) (fun h3 => ?_)
          · replace h3 : (p : Int) ≤ 0 := h3
            refine g_iload lk_29_62 rfl ?_
            refine g_i2l lk_29_64 (by unfold pm_inI; omega) ?_
            have lay4 : Lay (Mu [(40, pm_upd (pm_ct N 40) j (y : Int))] N) := lay.muA (l := []) (a := 40) (f := pm_upd (pm_ct N 40) j (y : Int)) rfl rfl
            refine m_lastore (u := []) (u' := [(40, pm_upd (pm_ct N 40) j (y : Int))]) (M := N) lk_29_65 (lay.ay (by decide) rfl) (by omega) (j := j) (by omega) rfl ?_
            refine g_iinc (ls' := [(2, ((39 : Nat) : Int)), (0, (p : Int)), (0, (r : Int)), (0, ((c : Int) + 1)), (0, (y : Int))]) lk_29_66 rfl rfl rfl ?_
            refine g_goto (t := 15) lk_29_69 rfl ?_
            exact go2 _ _ _ rfl lay4 (by rw [ex]; rcases yx with ⟨h1, h2⟩ | ⟨h1, h2⟩; rw [if_pos h1, h2]; rfl; rw [if_neg (by omega), if_pos p0, h2])
          · replace h3 : ¬ ((p : Int) ≤ 0) := h3
            omega
      · have w1 := Nat.mod_lt y (show 0 < p by omega)
        obtain ⟨w, hw⟩ : ∃ w, w = y % p := ⟨_, rfl⟩
        rw [← hw] at e2 w1
        refine g_iload_n lk_29_15 rfl ?_
        refine g_aload_n lk_29_16 rfl ?_
        refine g_getfield lk_29_17 rfl (lay.on (by decide) rfl) (v := ((24 : Nat) : Int)) (lay.rf rfl) ?_
        refine m_getfield (u := []) (M := N) lk_29_20 rfl (lay.on (by decide) rfl) (v := (tC T : Int)) m2 ?_
        refine g_icmp (t := 72) lk_29_23 rfl (by first | (unfold pm_inI; omega) | exact pm_and_in _ _ | exact pm_shr_in _ _ | exact pm_or_in _ _ | exact pm_xor_in _ _ | exact pm_shl_in _ _ | exact pm_cmp_in _ _ | exact pm_b8_in _ | (unfold pm_inI; split <;> omega)) (by first | (unfold pm_inI; omega) | exact pm_and_in _ _ | exact pm_shr_in _ _ | exact pm_or_in _ _ | exact pm_xor_in _ _ | exact pm_shl_in _ _ | exact pm_cmp_in _ _ | exact pm_b8_in _ | (unfold pm_inI; split <;> omega)) (fun h1 => ?_) (fun h1 => ?_)
        · replace h1 : (tC T : Int) ≤ (c : Int) := h1
          omega
        · replace h1 : ¬ ((tC T : Int) ≤ (c : Int)) := h1
          refine g_aload_n lk_29_26 rfl ?_
          refine g_getfield lk_29_27 rfl (lay.on (by decide) rfl) (v := ((24 : Nat) : Int)) (lay.rf rfl) ?_
          refine g_iload_n lk_29_30 rfl ?_
          refine g_iload_n lk_29_31 rfl ?_
          refine g_virtual (p := 24) (Qc := _) lk_29_32 rfl (Nat.le_of_ble_eq_true rfl) rfl rfl (lay.on (by decide) rfl) (Nat.le_of_ble_eq_true rfl) (Nat.le_of_ble_eq_true rfl) (Nat.zero_le _) (Nat.zero_le _) (at1) ?_
          rintro _ N2 ⟨rfl, hN2⟩
          rw [hN2]
          show Wp _ 29 35 [(2, ((39 : Nat) : Int)), (0, (p : Int)), (0, (r : Int)), (0, (c : Int)), v4] [(0, (x : Int))] N _ _ _
          refine g_bipush lk_29_35 ?_
          refine g_irem lk_29_37 (by unfold pm_inI; omega) (by unfold pm_inI; omega) (by omega) ?_
          refine g_top (z := ((x : Int).tmod 10)) (z' := (y : Int)) (e1) ?_
          refine g_istore (ls' := [(2, ((39 : Nat) : Int)), (0, (p : Int)), (0, (r : Int)), (0, (c : Int)), (0, (y : Int))]) lk_29_38 rfl rfl ?_
          refine g_aload_n lk_29_40 rfl ?_
          refine g_getfield lk_29_41 rfl (lay.on (by decide) rfl) (v := ((40 : Nat) : Int)) (lay.rf rfl) ?_
          refine g_iload_n lk_29_44 rfl ?_
          refine g_bipush lk_29_45 ?_
          refine g_imul lk_29_47 ?_
          refine g_iload_n lk_29_48 rfl ?_
          refine g_iadd lk_29_49 ?_
          refine g_top (z := (((r : Int) * 6) + (c : Int))) (z' := (j : Int)) (ej) ?_
          refine g_iload_n lk_29_50 rfl ?_
          refine g_if (t := 62) lk_29_51 rfl (by first | (unfold pm_inI; omega) | exact pm_and_in _ _ | exact pm_shr_in _ _ | exact pm_or_in _ _ | exact pm_xor_in _ _ | exact pm_shl_in _ _ | exact pm_cmp_in _ _ | exact pm_b8_in _ | (unfold pm_inI; split <;> omega)) (fun h3 => ?_) (fun h3 => ?_)
          · replace h3 : (p : Int) ≤ 0 := h3
            omega
          · replace h3 : ¬ ((p : Int) ≤ 0) := h3
            refine g_iload lk_29_54 rfl ?_
            refine g_iload_n lk_29_56 rfl ?_
            refine g_irem lk_29_57 (by unfold pm_inI; omega) (by unfold pm_inI; omega) (by omega) ?_
            refine g_top (z := ((y : Int).tmod (p : Int))) (z' := (w : Int)) (e2) ?_
            refine g_i2l lk_29_58 (by unfold pm_inI; omega) ?_
            refine g_goto (t := 65) lk_29_59 rfl ?_
            have lay4 : Lay (Mu [(40, pm_upd (pm_ct N 40) j (w : Int))] N) := lay.muA (l := []) (a := 40) (f := pm_upd (pm_ct N 40) j (w : Int)) rfl rfl
            refine m_lastore (u := []) (u' := [(40, pm_upd (pm_ct N 40) j (w : Int))]) (M := N) lk_29_65 (lay.ay (by decide) rfl) (by omega) (j := j) (by omega) rfl ?_
            refine g_iinc (ls' := [(2, ((39 : Nat) : Int)), (0, (p : Int)), (0, (r : Int)), (0, ((c : Int) + 1)), (0, (y : Int))]) lk_29_66 rfl rfl rfl ?_
            refine g_goto (t := 15) lk_29_69 rfl ?_
            exact go2 _ _ _ rfl lay4 (by rw [ex]; rcases yx with ⟨h1, h2⟩ | ⟨h1, h2⟩; rw [if_pos h1, hw, h2, Nat.zero_mod]; rfl; rw [if_neg (by omega), if_neg p0, hw, h2])
  have outer : ∀ (n r : Nat) (v3 v4 : pm_V) (N : pm_M), r + n = tR T → Lay N → Fr [40] M N → (∀ a i, (a < r ∨ a = r ∧ i < 0) → i < tC T → pm_ct N 40 (6 * a + i) = X0 T p a i) → Wp (d + 1) 29 2 [(2, ((39 : Nat) : Int)), (0, (p : Int)), (0, (r : Int)), v3, v4] [] N mc ms Q := by
    intro n
    induction n with
    | zero =>
      intro r v3 v4 N hi lay fr hN
      have m1 : pm_ct N 24 1 = (tR T : Int) := by rw [fr.ct (by decide)]; exact hM0.1
      have e : r = tR T := by omega
      rw [e] at hN ⊢
      refine g_iload_n lk_29_2 rfl ?_
      refine g_aload_n lk_29_3 rfl ?_
      refine g_getfield lk_29_4 rfl (lay.on (by decide) rfl) (v := ((24 : Nat) : Int)) (lay.rf rfl) ?_
      refine m_getfield (u := []) (M := N) lk_29_7 rfl (lay.on (by decide) rfl) (v := (tR T : Int)) m1 ?_
      refine g_icmp (t := 78) lk_29_10 rfl (by first | (unfold pm_inI; omega) | exact pm_and_in _ _ | exact pm_shr_in _ _ | exact pm_or_in _ _ | exact pm_xor_in _ _ | exact pm_shl_in _ _ | exact pm_cmp_in _ _ | exact pm_b8_in _ | (unfold pm_inI; split <;> omega)) (by first | (unfold pm_inI; omega) | exact pm_and_in _ _ | exact pm_shr_in _ _ | exact pm_or_in _ _ | exact pm_xor_in _ _ | exact pm_shl_in _ _ | exact pm_cmp_in _ _ | exact pm_b8_in _ | (unfold pm_inI; split <;> omega)) (fun h1 => ?_) (fun h1 => ?_)
      · replace h1 : (tR T : Int) ≤ (tR T : Int) := h1
        refine g_return lk_29_78 ?_
        rw [hQ]
        exact ⟨rfl, lay, fr, fun a i h1 h2 => hN a i (by omega) h2⟩
      · replace h1 : ¬ ((tR T : Int) ≤ (tR T : Int)) := h1
        omega
    | succ n ih =>
      intro r v3 v4 N hi lay fr hN
      have m1 : pm_ct N 24 1 = (tR T : Int) := by rw [fr.ct (by decide)]; exact hM0.1
      refine g_iload_n lk_29_2 rfl ?_
      refine g_aload_n lk_29_3 rfl ?_
      refine g_getfield lk_29_4 rfl (lay.on (by decide) rfl) (v := ((24 : Nat) : Int)) (lay.rf rfl) ?_
      refine m_getfield (u := []) (M := N) lk_29_7 rfl (lay.on (by decide) rfl) (v := (tR T : Int)) m1 ?_
      refine g_icmp (t := 78) lk_29_10 rfl (by first | (unfold pm_inI; omega) | exact pm_and_in _ _ | exact pm_shr_in _ _ | exact pm_or_in _ _ | exact pm_xor_in _ _ | exact pm_shl_in _ _ | exact pm_cmp_in _ _ | exact pm_b8_in _ | (unfold pm_inI; split <;> omega)) (by first | (unfold pm_inI; omega) | exact pm_and_in _ _ | exact pm_shr_in _ _ | exact pm_or_in _ _ | exact pm_xor_in _ _ | exact pm_shl_in _ _ | exact pm_cmp_in _ _ | exact pm_b8_in _ | (unfold pm_inI; split <;> omega)) (fun h1 => ?_) (fun h1 => ?_)
      · replace h1 : (tR T : Int) ≤ (r : Int) := h1
        omega
      · replace h1 : ¬ ((tR T : Int) ≤ (r : Int)) := h1
        refine g_iconst lk_29_13 ?_
        refine g_istore_n (ls' := [(2, ((39 : Nat) : Int)), (0, (p : Int)), (0, (r : Int)), (0, 0), v4]) lk_29_14 rfl rfl ?_
        exact inner r (by omega) (fun w3 w4 N' l f h => ih (r + 1) w3 w4 N' (by omega) l f h) (tC T) 0 _ N (by omega) lay fr hN
  show Wp (d + 1) 29 0 [(2, ((39 : Nat) : Int)), (0, (p : Int)), (9, 0), (9, 0), (9, 0)] [] M mc ms Q
  refine g_iconst lk_29_0 ?_
  refine g_istore_n (ls' := [(2, ((39 : Nat) : Int)), (0, (p : Int)), (0, 0), (9, 0), (9, 0)]) lk_29_1 rfl rfl ?_
  exact outer (tR T) 0 _ _ M (by omega) lay0 (Fr.refl _ _) (fun a i h1 h2 => by omega)
set_option maxHeartbeats 4000000 in
theorem c_Lines_bringUp {d mc ms : Nat} {M : pm_M} (lay0 : Lay M) {T : Tab} (hT : TabOK T) (hM0 : TbAt M 24 T) {X : Mx} (hX : MxAt M 40 (tR T) (tC T) X) {n c : Nat} (hn : n < tR T) (hc : c < tC T) (hb : ∀ r, n ≤ r → r < tR T → (X r c).natAbs ≤ 400000000) :
    pm_E d 30 [(2, ((39 : Nat) : Int)), (0, (n : Int)), (0, (c : Int))] M mc ms (fun ρ M' => Lay M' ∧ Fr [40] M M' ∧ (fpv X c (tR T - n) n < tR T → ρ = some (0, 1) ∧ MxAt M' 40 (tR T) (tC T) (swp X n (fpv X c (tR T - n) n))) ∧ (¬ fpv X c (tR T - n) n < tR T → ρ = some (0, 0) ∧ MxAt M' 40 (tR T) (tC T) X)) := by
  obtain ⟨Q, hQ⟩ : ∃ Q : pm_Q, Q = (fun ρ M' => Lay M' ∧ Fr [40] M M' ∧ (fpv X c (tR T - n) n < tR T → ρ = some (0, 1) ∧ MxAt M' 40 (tR T) (tC T) (swp X n (fpv X c (tR T - n) n))) ∧ (¬ fpv X c (tR T - n) n < tR T → ρ = some (0, 0) ∧ MxAt M' 40 (tR T) (tC T) X)) := ⟨_, rfl⟩
  rw [← hQ]
  have hR := hT.1
  have hC := hT.2.1
  have m1 := hM0.1
  obtain ⟨f, hf⟩ : ∃ f, f = fpv X c (tR T - n) n := ⟨_, rfl⟩
  rw [← hf] at hQ
  have swl : ∀ (r : Nat), n ≤ r → r < tR T → f = r → ∀ (k i : Nat) (v5 v6 : pm_V) (N : pm_M), i + k = tC T → Lay N → Fr [40] M N → (∀ a j, a < tR T → j < tC T → pm_ct N 40 (6 * a + j) = if j < i then swp X n r a j else X a j) → (∃ z : Int, v5 = (1, z) ∧ v6 = (9, 0)) ∨ (v5 = (9, 0) ∧ v6 = (9, 0)) → Wp d 30 32 [(2, ((39 : Nat) : Int)), (0, (n : Int)), (0, (c : Int)), (0, (r : Int)), (0, (i : Int)), v5, v6] [] N mc ms Q := by
    intro r r1 r2 fr' k
    induction k with
    | zero =>
      intro i v5 v6 N hi lay fr hN _
      have m2 : pm_ct N 24 2 = (tC T : Int) := by rw [fr.ct (by decide)]; exact hM0.2.1
      have e : i = tC T := by omega
      rw [e] at hN ⊢
      refine g_iload lk_30_32 rfl ?_
      refine g_aload_n lk_30_34 rfl ?_
      refine g_getfield lk_30_35 rfl (lay.on (by decide) rfl) (v := ((24 : Nat) : Int)) (lay.rf rfl) ?_
      refine m_getfield (u := []) (M := N) lk_30_38 rfl (lay.on (by decide) rfl) (v := (tC T : Int)) m2 ?_
      refine g_icmp (t := 102) lk_30_41 rfl (by first | (unfold pm_inI; omega) | exact pm_and_in _ _ | exact pm_shr_in _ _ | exact pm_or_in _ _ | exact pm_xor_in _ _ | exact pm_shl_in _ _ | exact pm_cmp_in _ _ | exact pm_b8_in _ | (unfold pm_inI; split <;> omega)) (by first | (unfold pm_inI; omega) | exact pm_and_in _ _ | exact pm_shr_in _ _ | exact pm_or_in _ _ | exact pm_xor_in _ _ | exact pm_shl_in _ _ | exact pm_cmp_in _ _ | exact pm_b8_in _ | (unfold pm_inI; split <;> omega)) (fun h1 => ?_) (fun h1 => ?_)
      · replace h1 : (tC T : Int) ≤ (tC T : Int) := h1
        refine g_iconst lk_30_102 ?_
        refine g_ireturn lk_30_103 (fun _ => by omega) ?_
        rw [hQ]
        refine ⟨lay, fr, fun _ => ⟨rfl, fun a j h1 h2 => ?_⟩, fun q => absurd (by omega) q⟩
        show pm_ct N 40 (6 * a + j) = _
        rw [hN a j h1 h2, if_pos h2, fr']
      · replace h1 : ¬ ((tC T : Int) ≤ (tC T : Int)) := h1
        omega
    | succ k ih =>
      intro i v5 v6 N hi lay fr hN hv
      have m2 : pm_ct N 24 2 = (tC T : Int) := by rw [fr.ct (by decide)]; exact hM0.2.1
      obtain ⟨j1, hj1⟩ : ∃ j, j = 6 * r + i := ⟨_, rfl⟩
      obtain ⟨j2, hj2⟩ : ∃ j, j = 6 * n + i := ⟨_, rfl⟩
      have ej1 : (r : Int) * 6 + (i : Int) = (j1 : Int) := by omega
      have ej2 : (n : Int) * 6 + (i : Int) = (j2 : Int) := by omega
      have z1 := hN r i r2 (by omega)
      have z2 := hN n i hn (by omega)
      rw [if_neg (by omega), ← hj1] at z1
      rw [if_neg (by omega), ← hj2] at z2
      obtain ⟨y1, hy1⟩ : ∃ y, y = X r i := ⟨_, rfl⟩
      obtain ⟨y2, hy2⟩ : ∃ y, y = X n i := ⟨_, rfl⟩
      rw [← hy1] at z1
      rw [← hy2] at z2
      have go2 : ∀ (N' : pm_M) (w5 : pm_V), N' = Mu [(40, pm_upd (pm_upd (pm_ct N 40) j1 y2) j2 y1)] N → Lay N' → w5 = (1, y1) → Wp d 30 32 [(2, ((39 : Nat) : Int)), (0, (n : Int)), (0, (c : Int)), (0, (r : Int)), (0, (i : Int) + 1), w5, (9, 0)] [] N' mc ms Q := fun N' w5 hN' l1 hw => by
        refine ih (i + 1) w5 (9, 0) N' (by omega) l1 (by rw [hN']; exact fr.trans (Fr.mu _ _ rfl)) (fun a j h1 h2 => ?_) (Or.inl ⟨y1, hw, rfl⟩)
        rw [hN', Mu_ct]
        show pm_upd (pm_upd (pm_ct N 40) j1 y2) j2 y1 (6 * a + j) = _
        by_cases q1 : a = n ∧ j = i
        · rw [q1.1, q1.2, ← hj2, pm_upd_eq, if_pos (by omega), hy1]
          unfold swp
          rw [if_pos rfl]
        by_cases q2 : a = r ∧ j = i
        · rw [q2.1, q2.2, ← hj1, pm_upd_ne (by omega), pm_upd_eq, if_pos (by omega), hy2]
          unfold swp
          rw [if_neg (by omega), if_pos rfl]
        · rw [pm_upd_ne (by omega), pm_upd_ne (by omega), hN a j h1 h2]
          by_cases q3 : j < i
          · rw [if_pos q3, if_pos (by omega)]
          · rw [if_neg q3]
            by_cases q4 : j = i
            · rw [if_pos (by omega)]
              unfold swp
              rw [if_neg (by omega), if_neg (by omega)]
            · rw [if_neg (by omega)]
      clear ih
      have m3 : pm_upd (pm_ct N 40) j1 y2 j2 = pm_upd (pm_ct N 40) j1 y2 j2 := rfl
      refine g_iload lk_30_32 rfl ?_
      refine g_aload_n lk_30_34 rfl ?_
      refine g_getfield lk_30_35 rfl (lay.on (by decide) rfl) (v := ((24 : Nat) : Int)) (lay.rf rfl) ?_
      refine m_getfield (u := []) (M := N) lk_30_38 rfl (lay.on (by decide) rfl) (v := (tC T : Int)) m2 ?_
      refine g_icmp (t := 102) lk_30_41 rfl (by first | (unfold pm_inI; omega) | exact pm_and_in _ _ | exact pm_shr_in _ _ | exact pm_or_in _ _ | exact pm_xor_in _ _ | exact pm_shl_in _ _ | exact pm_cmp_in _ _ | exact pm_b8_in _ | (unfold pm_inI; split <;> omega)) (by first | (unfold pm_inI; omega) | exact pm_and_in _ _ | exact pm_shr_in _ _ | exact pm_or_in _ _ | exact pm_xor_in _ _ | exact pm_shl_in _ _ | exact pm_cmp_in _ _ | exact pm_b8_in _ | (unfold pm_inI; split <;> omega)) (fun h1 => ?_) (fun h1 => ?_)
      · replace h1 : (tC T : Int) ≤ (i : Int) := h1
        omega
      · replace h1 : ¬ ((tC T : Int) ≤ (i : Int)) := h1
        refine g_aload_n lk_30_44 rfl ?_
        refine g_getfield lk_30_45 rfl (lay.on (by decide) rfl) (v := ((40 : Nat) : Int)) (lay.rf rfl) ?_
        refine g_iload_n lk_30_48 rfl ?_
        refine g_bipush lk_30_49 ?_
        refine g_imul lk_30_51 ?_
        refine g_iload lk_30_52 rfl ?_
        refine g_iadd lk_30_54 ?_
        refine g_top (z := (((r : Int) * 6) + (i : Int))) (z' := (j1 : Int)) (ej1) ?_
        refine m_laload (u := []) (M := N) lk_30_55 (lay.ay (by decide) rfl) (by omega) (j := j1) (by omega) (v := y1) z1 ?_
        refine g_lstore (ls' := [(2, ((39 : Nat) : Int)), (0, (n : Int)), (0, (c : Int)), (0, (r : Int)), (0, (i : Int)), (1, y1), (9, 0)]) lk_30_56 rfl rfl ?_
        refine g_aload_n lk_30_58 rfl ?_
        refine g_getfield lk_30_59 rfl (lay.on (by decide) rfl) (v := ((40 : Nat) : Int)) (lay.rf rfl) ?_
        refine g_iload_n lk_30_62 rfl ?_
        refine g_bipush lk_30_63 ?_
        refine g_imul lk_30_65 ?_
        refine g_iload lk_30_66 rfl ?_
        refine g_iadd lk_30_68 ?_
        refine g_top (z := (((r : Int) * 6) + (i : Int))) (z' := (j1 : Int)) (ej1) ?_
        refine g_aload_n lk_30_69 rfl ?_
        refine g_getfield lk_30_70 rfl (lay.on (by decide) rfl) (v := ((40 : Nat) : Int)) (lay.rf rfl) ?_
        refine g_iload_n lk_30_73 rfl ?_
        refine g_bipush lk_30_74 ?_
        refine g_imul lk_30_76 ?_
        refine g_iload lk_30_77 rfl ?_
        refine g_iadd lk_30_79 ?_
        refine g_top (z := (((n : Int) * 6) + (i : Int))) (z' := (j2 : Int)) (ej2) ?_
        refine m_laload (u := []) (M := N) lk_30_80 (lay.ay (by decide) rfl) (by omega) (j := j2) (by omega) (v := y2) z2 ?_
        have lay2 : Lay (Mu [(40, pm_upd (pm_ct N 40) j1 y2)] N) := lay.muA (l := []) (a := 40) (f := pm_upd (pm_ct N 40) j1 y2) rfl rfl
        refine m_lastore (u := []) (u' := [(40, pm_upd (pm_ct N 40) j1 y2)]) (M := N) lk_30_81 (lay.ay (by decide) rfl) (by omega) (j := j1) (by omega) rfl ?_
        refine g_aload_n lk_30_82 rfl ?_
        refine g_getfield lk_30_83 rfl (lay2.on (by decide) rfl) (v := ((40 : Nat) : Int)) (lay2.rf rfl) ?_
        refine g_iload_n lk_30_86 rfl ?_
        refine g_bipush lk_30_87 ?_
        refine g_imul lk_30_89 ?_
        refine g_iload lk_30_90 rfl ?_
        refine g_iadd lk_30_92 ?_
        refine g_top (z := (((n : Int) * 6) + (i : Int))) (z' := (j2 : Int)) (ej2) ?_
        refine g_lload lk_30_93 rfl ?_
        have lay3 : Lay (Mu [(40, pm_upd (pm_upd (pm_ct N 40) j1 y2) j2 y1)] N) := lay2.muA (l := [(40, pm_upd (pm_ct N 40) j1 y2)]) (a := 40) (f := pm_upd (pm_upd (pm_ct N 40) j1 y2) j2 y1) rfl rfl
        refine m_lastore (u := [(40, pm_upd (pm_ct N 40) j1 y2)]) (u' := [(40, pm_upd (pm_upd (pm_ct N 40) j1 y2) j2 y1)]) (M := N) lk_30_95 (lay2.ay (by decide) rfl) (by omega) (j := j2) (by omega) rfl ?_
        refine g_iinc (ls' := [(2, ((39 : Nat) : Int)), (0, (n : Int)), (0, (c : Int)), (0, (r : Int)), (0, ((i : Int) + 1)), (1, y1), (9, 0)]) lk_30_96 rfl rfl rfl ?_
        refine g_goto (t := 32) lk_30_99 rfl ?_
        exact go2 _ _ rfl lay3 rfl
  have look : ∀ (k r : Nat), r + k = tR T → n ≤ r → f = fpv X c k r → Wp d 30 2 [(2, ((39 : Nat) : Int)), (0, (n : Int)), (0, (c : Int)), (0, (r : Int)), (9, 0), (9, 0), (9, 0)] [] M mc ms Q := by
    intro k
    induction k with
    | zero =>
      intro r hi nr hfr
      have e : r = tR T := by omega
      have fR : f = tR T := by rw [hfr]; exact e
      rw [e]
      refine g_iload_n lk_30_2 rfl ?_
      refine g_aload_n lk_30_3 rfl ?_
      refine g_getfield lk_30_4 rfl (lay0.on (by decide) rfl) (v := ((24 : Nat) : Int)) (lay0.rf rfl) ?_
      refine m_getfield (u := []) (M := M) lk_30_7 rfl (lay0.on (by decide) rfl) (v := (tR T : Int)) m1 ?_
      refine g_icmp (t := 110) lk_30_10 rfl (by first | (unfold pm_inI; omega) | exact pm_and_in _ _ | exact pm_shr_in _ _ | exact pm_or_in _ _ | exact pm_xor_in _ _ | exact pm_shl_in _ _ | exact pm_cmp_in _ _ | exact pm_b8_in _ | (unfold pm_inI; split <;> omega)) (by first | (unfold pm_inI; omega) | exact pm_and_in _ _ | exact pm_shr_in _ _ | exact pm_or_in _ _ | exact pm_xor_in _ _ | exact pm_shl_in _ _ | exact pm_cmp_in _ _ | exact pm_b8_in _ | (unfold pm_inI; split <;> omega)) (fun h1 => ?_) (fun h1 => ?_)
      · replace h1 : (tR T : Int) ≤ (tR T : Int) := h1
        refine g_iconst lk_30_110 ?_
        refine g_ireturn lk_30_111 (fun _ => by omega) ?_
        rw [hQ]
        exact ⟨lay0, Fr.refl _ _, fun q => absurd q (by omega), fun _ => ⟨rfl, hX⟩⟩
      · replace h1 : ¬ ((tR T : Int) ≤ (tR T : Int)) := h1
        omega
    | succ k ih =>
      intro r hi nr hfr
      replace hfr : f = if X r c = 0 then fpv X c k (r + 1) else r := hfr
      have b4 := hb r nr (by omega)
      obtain ⟨j, hj⟩ : ∃ j, j = 6 * r + c := ⟨_, rfl⟩
      have ej : (r : Int) * 6 + (c : Int) = (j : Int) := by omega
      have z1 := hX r c (by omega) hc
      rw [← hj] at z1
      obtain ⟨q, hq1, hq2, hq3, hq4⟩ := cmp0 (z := X r c) (inL_of (by omega))
      obtain ⟨y, hy⟩ : ∃ y, y = X r c := ⟨_, rfl⟩
      rw [← hy] at z1 hq1 hq2 hfr
      have sw0 := swl r nr (by omega)
      refine g_iload_n lk_30_2 rfl ?_
      refine g_aload_n lk_30_3 rfl ?_
      refine g_getfield lk_30_4 rfl (lay0.on (by decide) rfl) (v := ((24 : Nat) : Int)) (lay0.rf rfl) ?_
      refine m_getfield (u := []) (M := M) lk_30_7 rfl (lay0.on (by decide) rfl) (v := (tR T : Int)) m1 ?_
      refine g_icmp (t := 110) lk_30_10 rfl (by first | (unfold pm_inI; omega) | exact pm_and_in _ _ | exact pm_shr_in _ _ | exact pm_or_in _ _ | exact pm_xor_in _ _ | exact pm_shl_in _ _ | exact pm_cmp_in _ _ | exact pm_b8_in _ | (unfold pm_inI; split <;> omega)) (by first | (unfold pm_inI; omega) | exact pm_and_in _ _ | exact pm_shr_in _ _ | exact pm_or_in _ _ | exact pm_xor_in _ _ | exact pm_shl_in _ _ | exact pm_cmp_in _ _ | exact pm_b8_in _ | (unfold pm_inI; split <;> omega)) (fun h1 => ?_) (fun h1 => ?_)
      · replace h1 : (tR T : Int) ≤ (r : Int) := h1
        omega
      · replace h1 : ¬ ((tR T : Int) ≤ (r : Int)) := h1
        refine g_aload_n lk_30_13 rfl ?_
        refine g_getfield lk_30_14 rfl (lay0.on (by decide) rfl) (v := ((40 : Nat) : Int)) (lay0.rf rfl) ?_
        refine g_iload_n lk_30_17 rfl ?_
        refine g_bipush lk_30_18 ?_
        refine g_imul lk_30_20 ?_
        refine g_iload_n lk_30_21 rfl ?_
        refine g_iadd lk_30_22 ?_
        refine g_top (z := (((r : Int) * 6) + (c : Int))) (z' := (j : Int)) (ej) ?_
        refine m_laload (u := []) (M := M) lk_30_23 (lay0.ay (by decide) rfl) (by omega) (j := j) (by omega) (v := y) z1 ?_
        refine g_lconst lk_30_24 ?_
        refine g_lcmp lk_30_25 ?_
        refine g_top (z := (pm_cmp (pm_wL y) (pm_wL 0))) (z' := q) (hq1) ?_
        refine g_if (t := 104) lk_30_26 rfl (by first | (unfold pm_inI; omega) | exact pm_and_in _ _ | exact pm_shr_in _ _ | exact pm_or_in _ _ | exact pm_xor_in _ _ | exact pm_shl_in _ _ | exact pm_cmp_in _ _ | exact pm_b8_in _ | (unfold pm_inI; split <;> omega)) (fun h2 => ?_) (fun h2 => ?_)
        · replace h2 : q = 0 := h2
          refine g_iinc (ls' := [(2, ((39 : Nat) : Int)), (0, (n : Int)), (0, (c : Int)), (0, ((r : Int) + 1)), (9, 0), (9, 0), (9, 0)]) lk_30_104 rfl rfl rfl ?_
          refine g_goto (t := 2) lk_30_107 rfl ?_
          rw [if_pos (hq2.mp h2)] at hfr
          exact ih (r + 1) (by omega) (by omega) hfr
        · replace h2 : ¬ (q = 0) := h2
          refine g_iconst lk_30_29 ?_
          refine g_istore (ls' := [(2, ((39 : Nat) : Int)), (0, (n : Int)), (0, (c : Int)), (0, (r : Int)), (0, 0), (9, 0), (9, 0)]) lk_30_30 rfl rfl ?_
          rw [if_neg (fun e => h2 (hq2.mpr e))] at hfr
          exact sw0 hfr (tC T) 0 _ _ M (by omega) lay0 (Fr.refl _ _) (fun a j h1 h2 => by rw [if_neg (by omega)]; exact hX a j h1 h2) (Or.inr ⟨rfl, rfl⟩)
  show Wp d 30 0 [(2, ((39 : Nat) : Int)), (0, (n : Int)), (0, (c : Int)), (9, 0), (9, 0), (9, 0), (9, 0)] [] M mc ms Q
  refine g_iload_n lk_30_0 rfl ?_
  refine g_istore_n (ls' := [(2, ((39 : Nat) : Int)), (0, (n : Int)), (0, (c : Int)), (0, (n : Int)), (9, 0), (9, 0), (9, 0)]) lk_30_1 rfl rfl ?_
  exact look (tR T - n) n (by omega) (Nat.le_refl _) hf
theorem left_bd {a b c e : Int} (h1 : a.natAbs ≤ 400000000) (h2 : b.natAbs ≤ 400000000) (h3 : c.natAbs ≤ 400000000) (h4 : e.natAbs ≤ 400000000) : (a * b - c * e).natAbs ≤ 400000000000000000 := by
  have e1 : (a * b).natAbs ≤ 400000000 * 400000000 := by rw [Int.natAbs_mul]; exact Nat.mul_le_mul h1 h2
  have e2 : (c * e).natAbs ≤ 400000000 * 400000000 := by rw [Int.natAbs_mul]; exact Nat.mul_le_mul h3 h4
  generalize a * b = x at *
  generalize c * e = y at *
  omega
set_option maxHeartbeats 4000000 in
theorem c_Lines_clear {d mc ms : Nat} {M : pm_M} (lay0 : Lay M) {T : Tab} (hT : TabOK T) (hM0 : TbAt M 24 T) {X : Mx} (hX : MxAt M 40 (tR T) (tC T) X) {n c row p : Nat} {b : Int} (hn : n < row) (hr : row < tR T) (hc : c < tC T) (hp : p ≤ 97) (hb : p = 0 → b ≠ 0 ∧ b.natAbs ≤ 400000000) (b1 : ∀ i, c ≤ i → i < tC T → (X row i).natAbs ≤ 400000000) (b2 : ∀ i, c ≤ i → i < tC T → (X n i).natAbs ≤ 400000000) :
    pm_E d 31 [(2, ((39 : Nat) : Int)), (0, (row : Int)), (0, (n : Int)), (0, (c : Int)), (0, (p : Int)), (1, b)] M mc ms (fun ρ M' => ρ = none ∧ Lay M' ∧ Fr [40] M M' ∧ MxAt M' 40 (tR T) (tC T) (fun a i => if a = row ∧ c ≤ i then red p b (X row i * X n c - X n i * X row c) else X a i)) := by
  obtain ⟨Q, hQ⟩ : ∃ Q : pm_Q, Q = (fun ρ M' => ρ = none ∧ Lay M' ∧ Fr [40] M M' ∧ MxAt M' 40 (tR T) (tC T) (fun a i => if a = row ∧ c ≤ i then red p b (X row i * X n c - X n i * X row c) else X a i)) := ⟨_, rfl⟩
  rw [← hQ]
  have hR := hT.1
  have hC := hT.2.1
  obtain ⟨P, hP⟩ : ∃ P, P = X n c := ⟨_, rfl⟩
  obtain ⟨F, hF⟩ : ∃ F, F = X row c := ⟨_, rfl⟩
  have bP : P.natAbs ≤ 400000000 := by rw [hP]; exact b2 c (Nat.le_refl _) hc
  have bF : F.natAbs ≤ 400000000 := by rw [hF]; exact b1 c (Nat.le_refl _) hc
  rw [← hP, ← hF] at hQ
  have loop : ∀ (k i : Nat) (v12 v13 : pm_V) (N : pm_M), i + k = tC T → c ≤ i → Lay N → Fr [40] M N → (∀ a j, a < tR T → j < tC T → pm_ct N 40 (6 * a + j) = if a = row ∧ c ≤ j ∧ j < i then red p b (X row j * P - X n j * F) else X a j) → Wp d 31 29 [(2, ((39 : Nat) : Int)), (0, (row : Int)), (0, (n : Int)), (0, (c : Int)), (0, (p : Int)), (1, b), (9, 0), (1, P), (9, 0), (1, F), (9, 0), (0, (i : Int)), v12, v13] [] N mc ms Q := by
    intro k
    induction k with
    | zero =>
      intro i v12 v13 N hi ci lay fr hN
      have m2 : pm_ct N 24 2 = (tC T : Int) := by rw [fr.ct (by decide)]; exact hM0.2.1
      have e : i = tC T := by omega
      rw [e] at hN ⊢
      refine g_iload lk_31_29 rfl ?_
      refine g_aload_n lk_31_31 rfl ?_
      refine g_getfield lk_31_32 rfl (lay.on (by decide) rfl) (v := ((24 : Nat) : Int)) (lay.rf rfl) ?_
      refine m_getfield (u := []) (M := N) lk_31_35 rfl (lay.on (by decide) rfl) (v := (tC T : Int)) m2 ?_
      refine g_icmp (t := 124) lk_31_38 rfl (by first | (unfold pm_inI; omega) | exact pm_and_in _ _ | exact pm_shr_in _ _ | exact pm_or_in _ _ | exact pm_xor_in _ _ | exact pm_shl_in _ _ | exact pm_cmp_in _ _ | exact pm_b8_in _ | (unfold pm_inI; split <;> omega)) (by first | (unfold pm_inI; omega) | exact pm_and_in _ _ | exact pm_shr_in _ _ | exact pm_or_in _ _ | exact pm_xor_in _ _ | exact pm_shl_in _ _ | exact pm_cmp_in _ _ | exact pm_b8_in _ | (unfold pm_inI; split <;> omega)) (fun h1 => ?_) (fun h1 => ?_)
      · replace h1 : (tC T : Int) ≤ (tC T : Int) := h1
        refine g_return lk_31_124 ?_
        rw [hQ]
        refine ⟨rfl, lay, fr, fun a j h1 h2 => ?_⟩
        show pm_ct N 40 (6 * a + j) = if a = row ∧ c ≤ j then red p b (X row j * P - X n j * F) else X a j
        rw [hN a j h1 h2]
        by_cases q : a = row ∧ c ≤ j
        · rw [if_pos q, if_pos ⟨q.1, q.2, h2⟩]
        · rw [if_neg q, if_neg (fun z => q ⟨z.1, z.2.1⟩)]
      · replace h1 : ¬ ((tC T : Int) ≤ (tC T : Int)) := h1
        omega
    | succ k ih =>
      intro i v12 v13 N hi ci lay fr hN
      have m2 : pm_ct N 24 2 = (tC T : Int) := by rw [fr.ct (by decide)]; exact hM0.2.1
      obtain ⟨j1, hj1⟩ : ∃ j, j = 6 * row + i := ⟨_, rfl⟩
      obtain ⟨j2, hj2⟩ : ∃ j, j = 6 * n + i := ⟨_, rfl⟩
      have ej1 : (row : Int) * 6 + (i : Int) = (j1 : Int) := by omega
      have ej2 : (n : Int) * 6 + (i : Int) = (j2 : Int) := by omega
      have z1 := hN row i hr (by omega)
      have z2 := hN n i (by omega) (by omega)
      rw [if_neg (by omega), ← hj1] at z1
      rw [if_neg (by omega), ← hj2] at z2
      have c1 := b1 i ci (by omega)
      have c2 := b2 i ci (by omega)
      obtain ⟨y1, hy1⟩ : ∃ y, y = X row i := ⟨_, rfl⟩
      obtain ⟨y2, hy2⟩ : ∃ y, y = X n i := ⟨_, rfl⟩
      rw [← hy1] at z1 c1
      rw [← hy2] at z2 c2
      have lb := left_bd c1 bP c2 bF
      obtain ⟨rv, hrv⟩ : ∃ z, z = red p b (y1 * P - y2 * F) := ⟨_, rfl⟩
      have go2 : ∀ (N' : pm_M) (w12 : pm_V), N' = Mu [(40, pm_upd (pm_ct N 40) j1 rv)] N → Lay N' → Wp d 31 29 [(2, ((39 : Nat) : Int)), (0, (row : Int)), (0, (n : Int)), (0, (c : Int)), (0, (p : Int)), (1, b), (9, 0), (1, P), (9, 0), (1, F), (9, 0), (0, (i : Int) + 1), w12, (9, 0)] [] N' mc ms Q := fun N' w12 hN' l1 => by
        refine ih (i + 1) w12 (9, 0) N' (by omega) (by omega) l1 (by rw [hN']; exact fr.trans (Fr.mu _ _ rfl)) (fun a j h1 h2 => ?_)
        rw [hN', Mu_ct]
        show pm_upd (pm_ct N 40) j1 rv (6 * a + j) = _
        by_cases q1 : a = row ∧ j = i
        · rw [q1.1, q1.2, ← hj1, pm_upd_eq, if_pos ⟨rfl, ci, by omega⟩, hrv, hy1, hy2]
        · rw [pm_upd_ne (by omega), hN a j h1 h2]
          by_cases q2 : a = row ∧ c ≤ j ∧ j < i
          · rw [if_pos q2, if_pos ⟨q2.1, q2.2.1, by omega⟩]
          · rw [if_neg q2, if_neg (by omega)]
      clear ih
      obtain ⟨lf, hlf⟩ : ∃ z, z = y1 * P - y2 * F := ⟨_, rfl⟩
      rw [← hlf] at lb hrv
      have elf : y1 * P - y2 * F = lf := hlf.symm
      by_cases p0 : p = 0
      · obtain ⟨hb0, hb1⟩ := hb p0
        obtain ⟨q, hq1, hq2, hq3, hq4⟩ := cmp0 (z := b) (inL_of (by omega))
        have er : (pm_wL lf).tdiv (pm_wL b) = rv := by
          rw [pm_wL_of (inL_of lb), pm_wL_of (inL_of (by omega)), hrv]
          unfold red
          rw [if_neg (by omega), if_neg hb0]
        have bz : ¬ pm_wL b = 0 := by rw [pm_wL_of (inL_of (by omega))]; exact hb0
        refine g_iload lk_31_29 rfl ?_
        refine g_aload_n lk_31_31 rfl ?_
        refine g_getfield lk_31_32 rfl (lay.on (by decide) rfl) (v := ((24 : Nat) : Int)) (lay.rf rfl) ?_
        refine m_getfield (u := []) (M := N) lk_31_35 rfl (lay.on (by decide) rfl) (v := (tC T : Int)) m2 ?_
        refine g_icmp (t := 124) lk_31_38 rfl (by first | (unfold pm_inI; omega) | exact pm_and_in _ _ | exact pm_shr_in _ _ | exact pm_or_in _ _ | exact pm_xor_in _ _ | exact pm_shl_in _ _ | exact pm_cmp_in _ _ | exact pm_b8_in _ | (unfold pm_inI; split <;> omega)) (by first | (unfold pm_inI; omega) | exact pm_and_in _ _ | exact pm_shr_in _ _ | exact pm_or_in _ _ | exact pm_xor_in _ _ | exact pm_shl_in _ _ | exact pm_cmp_in _ _ | exact pm_b8_in _ | (unfold pm_inI; split <;> omega)) (fun h1 => ?_) (fun h1 => ?_)
        · replace h1 : (tC T : Int) ≤ (i : Int) := h1
          omega
        · replace h1 : ¬ ((tC T : Int) ≤ (i : Int)) := h1
          refine g_aload_n lk_31_41 rfl ?_
          refine g_getfield lk_31_42 rfl (lay.on (by decide) rfl) (v := ((40 : Nat) : Int)) (lay.rf rfl) ?_
          refine g_iload_n lk_31_45 rfl ?_
          refine g_bipush lk_31_46 ?_
          refine g_imul lk_31_48 ?_
          refine g_iload lk_31_49 rfl ?_
          refine g_iadd lk_31_51 ?_
          refine g_top (z := (((row : Int) * 6) + (i : Int))) (z' := (j1 : Int)) (ej1) ?_
          refine m_laload (u := []) (M := N) lk_31_52 (lay.ay (by decide) rfl) (by omega) (j := j1) (by omega) (v := y1) z1 ?_
          refine g_lload lk_31_53 rfl ?_
          refine g_lmul lk_31_55 ?_
          refine g_aload_n lk_31_56 rfl ?_
          refine g_getfield lk_31_57 rfl (lay.on (by decide) rfl) (v := ((40 : Nat) : Int)) (lay.rf rfl) ?_
          refine g_iload_n lk_31_60 rfl ?_
          refine g_bipush lk_31_61 ?_
          refine g_imul lk_31_63 ?_
          refine g_iload lk_31_64 rfl ?_
          refine g_iadd lk_31_66 ?_
          refine g_top (z := (((n : Int) * 6) + (i : Int))) (z' := (j2 : Int)) (ej2) ?_
          refine m_laload (u := []) (M := N) lk_31_67 (lay.ay (by decide) rfl) (by omega) (j := j2) (by omega) (v := y2) z2 ?_
          refine g_lload lk_31_68 rfl ?_
          refine g_lmul lk_31_70 ?_
          refine g_lsub lk_31_71 ?_
          refine g_top (z := ((y1 * P) - (y2 * F))) (z' := lf) (elf) ?_
          refine g_lstore (ls' := [(2, ((39 : Nat) : Int)), (0, (row : Int)), (0, (n : Int)), (0, (c : Int)), (0, (p : Int)), (1, b), (9, 0), (1, P), (9, 0), (1, F), (9, 0), (0, (i : Int)), (1, lf), (9, 0)]) lk_31_72 rfl rfl ?_
          refine g_iload lk_31_74 rfl ?_
          refine g_if (t := 90) lk_31_76 rfl (by first | (unfold pm_inI; omega) | exact pm_and_in _ _ | exact pm_shr_in _ _ | exact pm_or_in _ _ | exact pm_xor_in _ _ | exact pm_shl_in _ _ | exact pm_cmp_in _ _ | exact pm_b8_in _ | (unfold pm_inI; split <;> omega)) (fun h2 => ?_) (fun h2 => ?_)
          · replace h2 : (p : Int) ≤ 0 := h2
            refine g_lload lk_31_90 rfl ?_
            refine g_lconst lk_31_92 ?_
            refine g_lcmp lk_31_93 ?_
            refine g_top (z := (pm_cmp (pm_wL b) (pm_wL 0))) (z' := q) (hq1) ?_
            refine g_if (t := 104) lk_31_94 rfl (by first | (unfold pm_inI; omega) | exact pm_and_in _ _ | exact pm_shr_in _ _ | exact pm_or_in _ _ | exact pm_xor_in _ _ | exact pm_shl_in _ _ | exact pm_cmp_in _ _ | exact pm_b8_in _ | (unfold pm_inI; split <;> omega)) (fun h3 => ?_) (fun h3 => ?_)
            · replace h3 : q = 0 := h3
              refine g_aload_n lk_31_104 rfl ?_
              refine g_getfield lk_31_105 rfl (lay.on (by decide) rfl) (v := ((40 : Nat) : Int)) (lay.rf rfl) ?_
              refine g_iload_n lk_31_108 rfl ?_
              refine g_bipush lk_31_109 ?_
              refine g_imul lk_31_111 ?_
              refine g_iload lk_31_112 rfl ?_
              refine g_iadd lk_31_114 ?_
              refine g_top (z := (((row : Int) * 6) + (i : Int))) (z' := (j1 : Int)) (ej1) ?_
              refine g_lload lk_31_115 rfl ?_
              have lay4 : Lay (Mu [(40, pm_upd (pm_ct N 40) j1 lf)] N) := lay.muA (l := []) (a := 40) (f := pm_upd (pm_ct N 40) j1 lf) rfl rfl
              refine m_lastore (u := []) (u' := [(40, pm_upd (pm_ct N 40) j1 lf)]) (M := N) lk_31_117 (lay.ay (by decide) rfl) (by omega) (j := j1) (by omega) rfl ?_
              refine g_iinc (ls' := [(2, ((39 : Nat) : Int)), (0, (row : Int)), (0, (n : Int)), (0, (c : Int)), (0, (p : Int)), (1, b), (9, 0), (1, P), (9, 0), (1, F), (9, 0), (0, ((i : Int) + 1)), (1, lf), (9, 0)]) lk_31_118 rfl rfl rfl ?_
              refine g_goto (t := 29) lk_31_121 rfl ?_
              exact absurd (hq2.mp h3) hb0
            · replace h3 : ¬ (q = 0) := h3
              refine g_lload lk_31_97 rfl ?_
              refine g_lload lk_31_99 rfl ?_
              refine g_ldiv lk_31_101 ?_ ?_
              · exact bz
              refine g_top (z := ((pm_wL lf).tdiv (pm_wL b))) (z' := rv) (er) ?_
              refine g_lstore (ls' := [(2, ((39 : Nat) : Int)), (0, (row : Int)), (0, (n : Int)), (0, (c : Int)), (0, (p : Int)), (1, b), (9, 0), (1, P), (9, 0), (1, F), (9, 0), (0, (i : Int)), (1, rv), (9, 0)]) lk_31_102 rfl rfl ?_
              refine g_aload_n lk_31_104 rfl ?_
              refine g_getfield lk_31_105 rfl (lay.on (by decide) rfl) (v := ((40 : Nat) : Int)) (lay.rf rfl) ?_
              refine g_iload_n lk_31_108 rfl ?_
              refine g_bipush lk_31_109 ?_
              refine g_imul lk_31_111 ?_
              refine g_iload lk_31_112 rfl ?_
              refine g_iadd lk_31_114 ?_
              refine g_top (z := (((row : Int) * 6) + (i : Int))) (z' := (j1 : Int)) (ej1) ?_
              refine g_lload lk_31_115 rfl ?_
              have lay5 : Lay (Mu [(40, pm_upd (pm_ct N 40) j1 rv)] N) := lay.muA (l := []) (a := 40) (f := pm_upd (pm_ct N 40) j1 rv) rfl rfl
              refine m_lastore (u := []) (u' := [(40, pm_upd (pm_ct N 40) j1 rv)]) (M := N) lk_31_117 (lay.ay (by decide) rfl) (by omega) (j := j1) (by omega) rfl ?_
              refine g_iinc (ls' := [(2, ((39 : Nat) : Int)), (0, (row : Int)), (0, (n : Int)), (0, (c : Int)), (0, (p : Int)), (1, b), (9, 0), (1, P), (9, 0), (1, F), (9, 0), (0, ((i : Int) + 1)), (1, rv), (9, 0)]) lk_31_118 rfl rfl rfl ?_
              refine g_goto (t := 29) lk_31_121 rfl ?_
              exact go2 _ _ rfl lay5
          · replace h2 : ¬ ((p : Int) ≤ 0) := h2
            omega
      · have er : (pm_wL lf).tmod (pm_wL (p : Int)) = rv := by
          rw [pm_wL_of (inL_of lb), pm_wL_of (by unfold pm_inL; omega), hrv]
          unfold red
          rw [if_pos (by omega)]
        have bz : ¬ pm_wL (p : Int) = 0 := by rw [pm_wL_of (by unfold pm_inL; omega)]; omega
        refine g_iload lk_31_29 rfl ?_
        refine g_aload_n lk_31_31 rfl ?_
        refine g_getfield lk_31_32 rfl (lay.on (by decide) rfl) (v := ((24 : Nat) : Int)) (lay.rf rfl) ?_
        refine m_getfield (u := []) (M := N) lk_31_35 rfl (lay.on (by decide) rfl) (v := (tC T : Int)) m2 ?_
        refine g_icmp (t := 124) lk_31_38 rfl (by first | (unfold pm_inI; omega) | exact pm_and_in _ _ | exact pm_shr_in _ _ | exact pm_or_in _ _ | exact pm_xor_in _ _ | exact pm_shl_in _ _ | exact pm_cmp_in _ _ | exact pm_b8_in _ | (unfold pm_inI; split <;> omega)) (by first | (unfold pm_inI; omega) | exact pm_and_in _ _ | exact pm_shr_in _ _ | exact pm_or_in _ _ | exact pm_xor_in _ _ | exact pm_shl_in _ _ | exact pm_cmp_in _ _ | exact pm_b8_in _ | (unfold pm_inI; split <;> omega)) (fun h1 => ?_) (fun h1 => ?_)
        · replace h1 : (tC T : Int) ≤ (i : Int) := h1
          omega
        · replace h1 : ¬ ((tC T : Int) ≤ (i : Int)) := h1
          refine g_aload_n lk_31_41 rfl ?_
          refine g_getfield lk_31_42 rfl (lay.on (by decide) rfl) (v := ((40 : Nat) : Int)) (lay.rf rfl) ?_
          refine g_iload_n lk_31_45 rfl ?_
          refine g_bipush lk_31_46 ?_
          refine g_imul lk_31_48 ?_
          refine g_iload lk_31_49 rfl ?_
          refine g_iadd lk_31_51 ?_
          refine g_top (z := (((row : Int) * 6) + (i : Int))) (z' := (j1 : Int)) (ej1) ?_
          refine m_laload (u := []) (M := N) lk_31_52 (lay.ay (by decide) rfl) (by omega) (j := j1) (by omega) (v := y1) z1 ?_
          refine g_lload lk_31_53 rfl ?_
          refine g_lmul lk_31_55 ?_
          refine g_aload_n lk_31_56 rfl ?_
          refine g_getfield lk_31_57 rfl (lay.on (by decide) rfl) (v := ((40 : Nat) : Int)) (lay.rf rfl) ?_
          refine g_iload_n lk_31_60 rfl ?_
          refine g_bipush lk_31_61 ?_
          refine g_imul lk_31_63 ?_
          refine g_iload lk_31_64 rfl ?_
          refine g_iadd lk_31_66 ?_
          refine g_top (z := (((n : Int) * 6) + (i : Int))) (z' := (j2 : Int)) (ej2) ?_
          refine m_laload (u := []) (M := N) lk_31_67 (lay.ay (by decide) rfl) (by omega) (j := j2) (by omega) (v := y2) z2 ?_
          refine g_lload lk_31_68 rfl ?_
          refine g_lmul lk_31_70 ?_
          refine g_lsub lk_31_71 ?_
          refine g_top (z := ((y1 * P) - (y2 * F))) (z' := lf) (elf) ?_
          refine g_lstore (ls' := [(2, ((39 : Nat) : Int)), (0, (row : Int)), (0, (n : Int)), (0, (c : Int)), (0, (p : Int)), (1, b), (9, 0), (1, P), (9, 0), (1, F), (9, 0), (0, (i : Int)), (1, lf), (9, 0)]) lk_31_72 rfl rfl ?_
          refine g_iload lk_31_74 rfl ?_
          refine g_if (t := 90) lk_31_76 rfl (by first | (unfold pm_inI; omega) | exact pm_and_in _ _ | exact pm_shr_in _ _ | exact pm_or_in _ _ | exact pm_xor_in _ _ | exact pm_shl_in _ _ | exact pm_cmp_in _ _ | exact pm_b8_in _ | (unfold pm_inI; split <;> omega)) (fun h2 => ?_) (fun h2 => ?_)
          · replace h2 : (p : Int) ≤ 0 := h2
            omega
          · replace h2 : ¬ ((p : Int) ≤ 0) := h2
            refine g_lload lk_31_79 rfl ?_
            refine g_iload lk_31_81 rfl ?_
            refine g_i2l lk_31_83 (by unfold pm_inI; omega) ?_
            refine g_lrem lk_31_84 ?_ ?_
            · exact bz
            refine g_top (z := ((pm_wL lf).tmod (pm_wL (p : Int)))) (z' := rv) (er) ?_
            refine g_lstore (ls' := [(2, ((39 : Nat) : Int)), (0, (row : Int)), (0, (n : Int)), (0, (c : Int)), (0, (p : Int)), (1, b), (9, 0), (1, P), (9, 0), (1, F), (9, 0), (0, (i : Int)), (1, rv), (9, 0)]) lk_31_85 rfl rfl ?_
            refine g_goto (t := 104) lk_31_87 rfl ?_
            refine g_aload_n lk_31_104 rfl ?_
            refine g_getfield lk_31_105 rfl (lay.on (by decide) rfl) (v := ((40 : Nat) : Int)) (lay.rf rfl) ?_
            refine g_iload_n lk_31_108 rfl ?_
            refine g_bipush lk_31_109 ?_
            refine g_imul lk_31_111 ?_
            refine g_iload lk_31_112 rfl ?_
            refine g_iadd lk_31_114 ?_
            refine g_top (z := (((row : Int) * 6) + (i : Int))) (z' := (j1 : Int)) (ej1) ?_
            refine g_lload lk_31_115 rfl ?_
            have lay3 : Lay (Mu [(40, pm_upd (pm_ct N 40) j1 rv)] N) := lay.muA (l := []) (a := 40) (f := pm_upd (pm_ct N 40) j1 rv) rfl rfl
            refine m_lastore (u := []) (u' := [(40, pm_upd (pm_ct N 40) j1 rv)]) (M := N) lk_31_117 (lay.ay (by decide) rfl) (by omega) (j := j1) (by omega) rfl ?_
            refine g_iinc (ls' := [(2, ((39 : Nat) : Int)), (0, (row : Int)), (0, (n : Int)), (0, (c : Int)), (0, (p : Int)), (1, b), (9, 0), (1, P), (9, 0), (1, F), (9, 0), (0, ((i : Int) + 1)), (1, rv), (9, 0)]) lk_31_118 rfl rfl rfl ?_
            refine g_goto (t := 29) lk_31_121 rfl ?_
            exact go2 _ _ rfl lay3
  obtain ⟨j1, hj1⟩ : ∃ j, j = 6 * row + c := ⟨_, rfl⟩
  obtain ⟨j2, hj2⟩ : ∃ j, j = 6 * n + c := ⟨_, rfl⟩
  have ej1 : (row : Int) * 6 + (c : Int) = (j1 : Int) := by omega
  have ej2 : (n : Int) * 6 + (c : Int) = (j2 : Int) := by omega
  have z1 : pm_ct M 40 j1 = F := by rw [hj1, hF]; exact hX row c hr hc
  have z2 : pm_ct M 40 j2 = P := by rw [hj2, hP]; exact hX n c (by omega) hc
  show Wp d 31 0 [(2, ((39 : Nat) : Int)), (0, (row : Int)), (0, (n : Int)), (0, (c : Int)), (0, (p : Int)), (1, b), (9, 0), (9, 0), (9, 0), (9, 0), (9, 0), (9, 0), (9, 0), (9, 0)] [] M mc ms Q
  refine g_aload_n lk_31_0 rfl ?_
  refine g_getfield lk_31_1 rfl (lay0.on (by decide) rfl) (v := ((40 : Nat) : Int)) (lay0.rf rfl) ?_
  refine g_iload_n lk_31_4 rfl ?_
  refine g_bipush lk_31_5 ?_
  refine g_imul lk_31_7 ?_
  refine g_iload_n lk_31_8 rfl ?_
  refine g_iadd lk_31_9 ?_
  refine g_top (z := (((n : Int) * 6) + (c : Int))) (z' := (j2 : Int)) (ej2) ?_
  refine m_laload (u := []) (M := M) lk_31_10 (lay0.ay (by decide) rfl) (by omega) (j := j2) (by omega) (v := P) z2 ?_
  refine g_lstore (ls' := [(2, ((39 : Nat) : Int)), (0, (row : Int)), (0, (n : Int)), (0, (c : Int)), (0, (p : Int)), (1, b), (9, 0), (1, P), (9, 0), (9, 0), (9, 0), (9, 0), (9, 0), (9, 0)]) lk_31_11 rfl rfl ?_
  refine g_aload_n lk_31_13 rfl ?_
  refine g_getfield lk_31_14 rfl (lay0.on (by decide) rfl) (v := ((40 : Nat) : Int)) (lay0.rf rfl) ?_
  refine g_iload_n lk_31_17 rfl ?_
  refine g_bipush lk_31_18 ?_
  refine g_imul lk_31_20 ?_
  refine g_iload_n lk_31_21 rfl ?_
  refine g_iadd lk_31_22 ?_
  refine g_top (z := (((row : Int) * 6) + (c : Int))) (z' := (j1 : Int)) (ej1) ?_
  refine m_laload (u := []) (M := M) lk_31_23 (lay0.ay (by decide) rfl) (by omega) (j := j1) (by omega) (v := F) z1 ?_
  refine g_lstore (ls' := [(2, ((39 : Nat) : Int)), (0, (row : Int)), (0, (n : Int)), (0, (c : Int)), (0, (p : Int)), (1, b), (9, 0), (1, P), (9, 0), (1, F), (9, 0), (9, 0), (9, 0), (9, 0)]) lk_31_24 rfl rfl ?_
  refine g_iload_n lk_31_26 rfl ?_
  refine g_istore (ls' := [(2, ((39 : Nat) : Int)), (0, (row : Int)), (0, (n : Int)), (0, (c : Int)), (0, (p : Int)), (1, b), (9, 0), (1, P), (9, 0), (1, F), (9, 0), (0, (c : Int)), (9, 0), (9, 0)]) lk_31_27 rfl rfl ?_
  exact loop (tC T - c) c _ _ M (by omega) (Nat.le_refl _) lay0 (Fr.refl _ _) (fun a j h1 h2 => by rw [if_neg (by omega)]; exact hX a j h1 h2)
