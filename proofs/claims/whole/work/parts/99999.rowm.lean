/-! ===== rows and names of a text, the model ===== -/
theorem TkM.mf {S K : List Nat} {M N : pm_M} {ch : Nat → Nat} {t : Tok} (h : TkM M ch t) (k : MF S K M N) (h1 : ∀ j, j ∈ [25, 26, 27, 28] → j ∉ K) : TkM N ch t := by
  unfold TkM at h ⊢
  rw [k.fd (h1 25 (by decide)), k.fd (h1 26 (by decide)), k.fd (h1 27 (by decide)), k.fd (h1 28 (by decide))]
  exact h
theorem GdM.mf {S K : List Nat} {M N : pm_M} {n : Nat} {ch : Nat → Nat} {t : Tok} (h : GdM M ch n t) (k : MF S K M N) (h1 : ∀ j, j ∈ [24, 25, 26, 27, 28, 31] → j ∉ K) (h2 : 132 ∉ S) : GdM N ch n t :=
  ⟨h.1.mf k (h1 24 (by decide)) h2, by rw [k.fd (h1 31 (by decide))]; exact h.2.1, h.2.2.1.mf k (fun j hj => h1 j (by simp at hj ⊢; omega)), h.2.2.2⟩
theorem GdM.ig {M : pm_M} {n : Nat} {ch : Nat → Nat} {t : Tok} (h : GdM M ch n t) (lay : Lay M) {d mc ms : Nat} : pm_E d 183 [(2, ((116 : Nat) : Int))] M mc ms (fun ρ M' => ρ = some (0, 1) ∧ M' = M) := by
  have g : pm_ct M 116 31 = ((0 : Nat) : Int) := h.2.1
  have ig := c_Mo_isGood (d := d) (mc := mc) (ms := ms) lay g (by omega)
  rw [if_pos rfl] at ig
  exact ig
theorem BdM.ig {M : pm_M} {e : Nat × Nat} (h : BdM M e) (lay : Lay M) {d mc ms : Nat} : pm_E d 183 [(2, ((116 : Nat) : Int))] M mc ms (fun ρ M' => ρ = some (0, 0) ∧ M' = M) := by
  obtain ⟨⟨g1, _⟩, g2, g3⟩ := h
  have ig := c_Mo_isGood (d := d) (mc := mc) (ms := ms) lay g1 (by omega)
  rw [if_neg (by omega)] at ig
  exact ig
theorem BdM.go {M : pm_M} {e : Nat × Nat} (h : BdM M e) (lay : Lay M) {d mc ms : Nat} : pm_E (d + 1) 185 [(2, ((116 : Nat) : Int))] M mc ms (fun ρ M' => ρ = none ∧ M' = M) := by
  obtain ⟨⟨g1, _⟩, g2, g3⟩ := h
  exact goOn_bad lay g1 (by omega) (by omega)
theorem GdM.fa {M : pm_M} {n : Nat} {ch : Nat → Nat} {t : Tok} (h : GdM M ch n t) (lay : Lay M) {d mc ms w : Nat} : pm_E d 184 [(2, ((116 : Nat) : Int)), (0, (w : Int))] M mc ms (fun ρ M' => ρ = none ∧ Lay M' ∧ MF [] [31, 32] M M' ∧ FtM M' (flt w t)) :=
  c_Mo_fails lay h.2.2.1 h.2.2.2.1 h.2.1
theorem GdM.go {M : pm_M} {n : Nat} {ch : Nat → Nat} {t : Tok} (h : GdM M ch n t) (lay : Lay M) {d mc ms : Nat} : pm_E (d + 1) 185 [(2, ((116 : Nat) : Int))] M mc ms (fun ρ M' => ρ = none ∧ Lay M' ∧ MF [] [25, 26, 27, 28] M M' ∧ TkM M' ch (lxt ch n t.2.2)) :=
  c_Mo_goOn lay h.1 h.2.1 h.2.2.1.2.2.1 h.2.2.2.2.2.1
/-- the names that were read -/
def NmM (M : pm_M) (Ts : List Nt) : Prop := pm_ct M 116 6 = (Ts.length : Int) ∧ ∀ (i : Nat) (x : Nt), Ts[i]? = some x → pm_ct M 119 i = ((nr 32 x.1 : Nat) : Int) ∧ LtOK x.1
theorem c_Mo_isTold {d mc ms : Nat} {M : pm_M} (lay : Lay M) {n : Nat} {ch : Nat → Nat} {t : Tok} (hT : TkM M ch t) (hK : TkOK ch n t) (t1 : t.1 = 1) {Ts : List Nt} (l4 : Ts.length ≤ 4) (hN : NmM M Ts) :
    pm_E d 193 [(2, ((116 : Nat) : Int))] M mc ms (fun ρ M' => ρ = some (0, if twd ch t ∈ Ts.map (fun x => x.1) then 1 else 0) ∧ M' = M) := by
  obtain ⟨Q, hQ⟩ : ∃ Q : pm_Q, Q = (fun ρ M' => ρ = some (0, if twd ch t ∈ Ts.map (fun x => x.1) then 1 else 0) ∧ M' = M) := ⟨_, rfl⟩
  rw [← hQ]
  obtain ⟨h6, hN⟩ := hN
  have w28 := hT.2.2.2 t1
  have lt := hK.lt t1
  obtain ⟨l, hl⟩ : ∃ l, l = Ts.length := ⟨_, rfl⟩
  rw [← hl] at l4 h6
  have w28' : pm_ct M 116 28 = ((nr 32 (twd ch t) : Nat) : Int) := w28
  obtain ⟨w, hw⟩ : ∃ w, w = nr 32 (twd ch t) := ⟨_, rfl⟩
  rw [← hw] at w28'
  have loop : ∀ (k i : Nat), i + k = l → (∀ (j : Nat) (x : Nt), j < i → Ts[j]? = some x → ¬ x.1 = twd ch t) → Wp d 193 2 [(2, ((116 : Nat) : Int)), (0, (i : Int))] [] M mc ms Q := by
    intro k
    induction k with
    | zero =>
      intro i hi no
      have nm : ¬ twd ch t ∈ Ts.map (fun x => x.1) := fun q => by
        obtain ⟨x, x1, x2⟩ := List.mem_map.mp q
        obtain ⟨j, hj⟩ := List.mem_iff_getElem?.mp x1
        exact no j x (by have := (List.getElem?_eq_some_iff.mp hj).1; omega) hj x2
      refine g_iload_n lk_193_2 rfl ?_
      refine g_aload_n lk_193_3 rfl ?_
      refine m_getfield (u := []) (M := M) lk_193_4 rfl (lay.on (by decide) rfl) (v := (l : Int)) h6 ?_
      refine g_icmp (t := 31) lk_193_7 rfl (by first | (unfold pm_inI; omega) | exact pm_and_in _ _ | exact pm_shr_in _ _ | exact pm_or_in _ _ | exact pm_xor_in _ _ | exact pm_shl_in _ _ | exact pm_cmp_in _ _ | exact pm_b8_in _ | (unfold pm_inI; split <;> omega)) (by first | (unfold pm_inI; omega) | exact pm_and_in _ _ | exact pm_shr_in _ _ | exact pm_or_in _ _ | exact pm_xor_in _ _ | exact pm_shl_in _ _ | exact pm_cmp_in _ _ | exact pm_b8_in _ | (unfold pm_inI; split <;> omega)) (fun h1 => ?_) (fun h1 => ?_)
      · replace h1 : (l : Int) ≤ (i : Int) := h1
        refine g_iconst lk_193_31 ?_
        refine g_ireturn lk_193_32 (fun _ => by omega) ?_
        rw [hQ, if_neg nm]
        exact ⟨rfl, rfl⟩
      · replace h1 : ¬ ((l : Int) ≤ (i : Int)) := h1
        omega
    | succ k ih =>
      intro i hi no
      obtain ⟨x, hx⟩ : ∃ x, Ts[i]? = some x := ⟨_, List.getElem?_eq_getElem (by omega)⟩
      obtain ⟨c1, c2⟩ := hN i x hx
      have fd := ih (i + 1) (by omega)
      have ww := w32 c2 lt
      obtain ⟨y, hy⟩ : ∃ y, y = nr 32 x.1 := ⟨_, rfl⟩
      rw [← hy] at c1 ww
      rw [← hw] at ww
      have mm : x.1 = twd ch t → twd ch t ∈ Ts.map (fun x => x.1) := fun e => List.mem_map.mpr ⟨x, List.mem_of_getElem? hx, e⟩
      have y6 : y < 1073741824 := by rw [hy]; exact nr_small (b := 32) (by omega) (by omega) c2
      have w6 : w < 1073741824 := by rw [hw]; exact nr_small (b := 32) (by omega) (by omega) lt
      clear ih
      refine g_iload_n lk_193_2 rfl ?_
      refine g_aload_n lk_193_3 rfl ?_
      refine m_getfield (u := []) (M := M) lk_193_4 rfl (lay.on (by decide) rfl) (v := (l : Int)) h6 ?_
      refine g_icmp (t := 31) lk_193_7 rfl (by first | (unfold pm_inI; omega) | exact pm_and_in _ _ | exact pm_shr_in _ _ | exact pm_or_in _ _ | exact pm_xor_in _ _ | exact pm_shl_in _ _ | exact pm_cmp_in _ _ | exact pm_b8_in _ | (unfold pm_inI; split <;> omega)) (by first | (unfold pm_inI; omega) | exact pm_and_in _ _ | exact pm_shr_in _ _ | exact pm_or_in _ _ | exact pm_xor_in _ _ | exact pm_shl_in _ _ | exact pm_cmp_in _ _ | exact pm_b8_in _ | (unfold pm_inI; split <;> omega)) (fun h1 => ?_) (fun h1 => ?_)
      · replace h1 : (l : Int) ≤ (i : Int) := h1
        omega
      · replace h1 : ¬ ((l : Int) ≤ (i : Int)) := h1
        refine g_aload_n lk_193_10 rfl ?_
        refine g_getfield lk_193_11 rfl (lay.on (by decide) rfl) (v := ((119 : Nat) : Int)) (lay.rf rfl) ?_
        refine g_iload_n lk_193_14 rfl ?_
        refine m_iaload (u := []) (M := M) lk_193_15 (lay.ay (by decide) rfl) (by omega) (j := i) (by omega) (v := (y : Int)) c1 ?_
        refine g_aload_n lk_193_16 rfl ?_
        refine m_getfield (u := []) (M := M) lk_193_17 rfl (lay.on (by decide) rfl) (v := (w : Int)) w28' ?_
        refine g_icmp (t := 25) lk_193_20 rfl (by first | (unfold pm_inI; omega) | exact pm_and_in _ _ | exact pm_shr_in _ _ | exact pm_or_in _ _ | exact pm_xor_in _ _ | exact pm_shl_in _ _ | exact pm_cmp_in _ _ | exact pm_b8_in _ | (unfold pm_inI; split <;> omega)) (by first | (unfold pm_inI; omega) | exact pm_and_in _ _ | exact pm_shr_in _ _ | exact pm_or_in _ _ | exact pm_xor_in _ _ | exact pm_shl_in _ _ | exact pm_cmp_in _ _ | exact pm_b8_in _ | (unfold pm_inI; split <;> omega)) (fun h2 => ?_) (fun h2 => ?_)
        · replace h2 : ¬ (y : Int) = (w : Int) := h2
          refine g_iinc (ls' := [(2, ((116 : Nat) : Int)), (0, ((i : Int) + 1))]) lk_193_25 rfl rfl rfl ?_
          refine g_goto (t := 2) lk_193_28 rfl ?_
          refine fd (fun j z hj hz => ?_)
          by_cases e : j = i
          · rw [e, hx] at hz
            rw [← Option.some.inj hz]
            intro q
            have := ww.mpr q
            omega
          · exact no j z (by omega) hz
        · replace h2 : ¬ (¬ (y : Int) = (w : Int)) := h2
          refine g_iconst lk_193_23 ?_
          refine g_ireturn lk_193_24 (fun _ => by omega) ?_
          rw [hQ, if_pos (mm (ww.mp (by omega)))]
          exact ⟨rfl, rfl⟩
  show Wp d 193 0 [(2, ((116 : Nat) : Int)), (9, 0)] [] M mc ms Q
  refine g_iconst lk_193_0 ?_
  refine g_istore_n (ls' := [(2, ((116 : Nat) : Int)), (0, 0)]) lk_193_1 rfl rfl ?_
  exact loop l 0 (by omega) (fun j x hj => absurd hj (Nat.not_lt_zero j))
/-- the rows that were read -/
def RtM (M : pm_M) (T : Tab) (r : Nat) : Prop := pm_ct M 116 4 = (r : Int) ∧ pm_ct M 116 5 = (tC T : Int) ∧ ∀ j, j < 6 * r → j % 6 < tC T → pm_ct M 118 j = (tX T j : Int)
theorem RtM.mf {S K : List Nat} {M N : pm_M} {T : Tab} {r : Nat} (h : RtM M T r) (k : MF S K M N) (h1 : 4 ∉ K) (h2 : 5 ∉ K) (h3 : 118 ∉ S) : RtM N T r := by
  unfold RtM at h ⊢
  rw [k.fd h1, k.fd h2, k.ct h3 (by decide)]
  exact h
def RoM (N : pm_M) (ch : Nat → Nat) (n r : Nat) (x : Sum (Nat × Nat) (Tab × Tok)) : Prop := match x with
  | .inl e => BdM N e
  | .inr y => GdM N ch n y.2 ∧ RtM N y.1 (r + 1)
abbrev rwK : List Nat := 4 :: 5 :: rdK
set_option maxHeartbeats 4000000 in
theorem c_Mo_readRow {d mc ms n r : Nat} {ch : Nat → Nat} {T : Tab} {t : Tok} {M : pm_M} (lay : Lay M) (hG : GdM M ch n t) (t2 : t.1 = 2) (hB : RtM M T r) (r6 : r ≤ 6) (c6 : tC T ≤ 6) :
    pm_E (d + 3) 190 [(2, ((116 : Nat) : Int))] M mc ms (fun ρ M' => ρ = none ∧ Lay M' ∧ MF [118] rwK M M' ∧ RoM M' ch n r (pRow ch n r T t)) := by
  obtain ⟨Q, hQ⟩ : ∃ Q : pm_Q, Q = (fun ρ M' => ρ = none ∧ Lay M' ∧ MF [118] rwK M M' ∧ RoM M' ch n r (pRow ch n r T t)) := ⟨_, rfl⟩
  rw [← hQ]
  obtain ⟨f4, f5, h8⟩ := id hB
  obtain ⟨C, hC⟩ : ∃ C, C = tC T := ⟨_, rfl⟩
  rw [← hC] at f5 c6
  obtain ⟨tc, f31, ⟨f27, f25, f26, _⟩, hK⟩ := id hG
  obtain ⟨k1, k2, k3, _, k5, k6⟩ := id hK
  have n5 := tc.1
  have lt := k5 (by omega)
  have six := (k6 (Or.inr t2)).1
  have ig := hG.ig lay (d := d + 2) (mc := 0) (ms := 0)
  obtain ⟨a, ha⟩ : ∃ a, a = t.2.1 := ⟨_, rfl⟩
  obtain ⟨b, hb⟩ : ∃ b, b = t.2.2 := ⟨_, rfl⟩
  rw [← ha] at f25 k2 lt six
  rw [← hb] at f26 k2 k3 lt six
  obtain ⟨z, hz⟩ : ∃ z, z = b - a := ⟨_, rfl⟩
  have hz' : t.2.2 - t.2.1 = z := by rw [← ha, ← hb, hz]
  have ez : (b : Int) - (a : Int) = (z : Int) := by omega
  show Wp (d + 3) 190 0 [(2, ((116 : Nat) : Int)), (9, 0), (9, 0), (9, 0)] [] M mc ms Q
  by_cases e1 : 0 < r ∧ ¬ z = C
  · have ep : pRow ch n r T t = .inl (flt 4 t) := by unfold pRow; rw [hz', ← hC, if_pos e1]
    rw [ep] at hQ
    have fa := hG.fa lay (d := d + 2) (mc := 0) (ms := 0) (w := 4)
    have fr := flt_r (w := 4) (t := t) (by omega)
    have k47 : ∀ K1 : pm_M, Lay K1 → MF [] [31, 32] M K1 → FtM K1 (flt 4 t) → Wp (d + 3) 190 47 [(2, ((116 : Nat) : Int)), (0, (z : Int)), (9, 0), (9, 0)] [] K1 mc ms Q := by
      intro K1 lay1 m1 ft1
      have bd : BdM K1 (flt 4 t) := ⟨ft1, fr⟩
      have ig1 := bd.ig lay1 (d := d + 2) (mc := 0) (ms := 0)
      refine g_aload_n lk_190_47 rfl ?_
      refine g_virtual (p := 116) (Qc := _) lk_190_48 rfl (Nat.le_of_ble_eq_true rfl) rfl rfl (lay1.on (by decide) rfl) (Nat.le_of_ble_eq_true rfl) (Nat.le_of_ble_eq_true rfl) (Nat.zero_le _) (Nat.zero_le _) (ig1) ?_
      rintro _ N1 ⟨rfl, hN1⟩
      rw [hN1]
      show Wp _ 190 51 [(2, ((116 : Nat) : Int)), (0, (z : Int)), (9, 0), (9, 0)] [(0, 0)] K1 _ _ _
      refine g_if (t := 55) lk_190_51 rfl (by first | (unfold pm_inI; omega) | exact pm_and_in _ _ | exact pm_shr_in _ _ | exact pm_or_in _ _ | exact pm_xor_in _ _ | exact pm_shl_in _ _ | exact pm_cmp_in _ _ | exact pm_b8_in _ | (unfold pm_inI; split <;> omega)) (fun h => absurd h (show ¬ (¬ (0 : Int) = (0 : Int)) by omega)) (fun _ => ?_)
      refine g_return lk_190_54 ?_
      rw [hQ]
      exact ⟨rfl, lay1, m1.mono (fun a q => by cases q) (fun a q => by simp at q ⊢; omega), bd⟩
    refine g_aload_n lk_190_0 rfl ?_
    refine m_getfield (u := []) (M := M) lk_190_1 rfl (lay.on (by decide) rfl) (v := (b : Int)) f26 ?_
    refine g_aload_n lk_190_4 rfl ?_
    refine m_getfield (u := []) (M := M) lk_190_5 rfl (lay.on (by decide) rfl) (v := (a : Int)) f25 ?_
    refine g_isub lk_190_8 ?_
    refine g_top (z := ((b : Int) - (a : Int))) (z' := (z : Int)) (ez) ?_
    refine g_istore_n (ls' := [(2, ((116 : Nat) : Int)), (0, (z : Int)), (9, 0), (9, 0)]) lk_190_9 rfl rfl ?_
    refine g_aload_n lk_190_10 rfl ?_
    refine m_getfield (u := []) (M := M) lk_190_11 rfl (lay.on (by decide) rfl) (v := (r : Int)) f4 ?_
    refine g_if (t := 33) lk_190_14 rfl (by first | (unfold pm_inI; omega) | exact pm_and_in _ _ | exact pm_shr_in _ _ | exact pm_or_in _ _ | exact pm_xor_in _ _ | exact pm_shl_in _ _ | exact pm_cmp_in _ _ | exact pm_b8_in _ | (unfold pm_inI; split <;> omega)) (fun h1 => ?_) (fun h1 => ?_)
    · replace h1 : (r : Int) ≤ 0 := h1
      omega
    · replace h1 : ¬ ((r : Int) ≤ 0) := h1
      refine g_iload_n lk_190_17 rfl ?_
      refine g_aload_n lk_190_18 rfl ?_
      refine m_getfield (u := []) (M := M) lk_190_19 rfl (lay.on (by decide) rfl) (v := (C : Int)) f5 ?_
      refine g_icmp (t := 33) lk_190_22 rfl (by first | (unfold pm_inI; omega) | exact pm_and_in _ _ | exact pm_shr_in _ _ | exact pm_or_in _ _ | exact pm_xor_in _ _ | exact pm_shl_in _ _ | exact pm_cmp_in _ _ | exact pm_b8_in _ | (unfold pm_inI; split <;> omega)) (by first | (unfold pm_inI; omega) | exact pm_and_in _ _ | exact pm_shr_in _ _ | exact pm_or_in _ _ | exact pm_xor_in _ _ | exact pm_shl_in _ _ | exact pm_cmp_in _ _ | exact pm_b8_in _ | (unfold pm_inI; split <;> omega)) (fun h2 => ?_) (fun h2 => ?_)
      · replace h2 : (z : Int) = (C : Int) := h2
        omega
      · replace h2 : ¬ ((z : Int) = (C : Int)) := h2
        refine g_aload_n lk_190_25 rfl ?_
        refine g_iconst lk_190_26 ?_
        refine g_virtual (p := 116) (Qc := _) lk_190_27 rfl (Nat.le_of_ble_eq_true rfl) rfl rfl (lay.on (by decide) rfl) (Nat.le_of_ble_eq_true rfl) (Nat.le_of_ble_eq_true rfl) (Nat.zero_le _) (Nat.zero_le _) (fa) ?_
        rintro _ K1 ⟨rfl, lay1, m1, ft1⟩
        show Wp _ 190 30 [(2, ((116 : Nat) : Int)), (0, (z : Int)), (9, 0), (9, 0)] [] K1 _ _ _
        refine g_goto (t := 47) lk_190_30 rfl ?_
        exact k47 K1 lay1 m1 ft1
  · by_cases e2 : 6 ≤ r
    · have ep : pRow ch n r T t = .inl (flt 5 t) := by unfold pRow; rw [hz', ← hC, if_neg e1, if_pos e2]
      rw [ep] at hQ
      have fa := hG.fa lay (d := d + 2) (mc := 0) (ms := 0) (w := 5)
      have fr := flt_r (w := 5) (t := t) (by omega)
      have k47 : ∀ K1 : pm_M, Lay K1 → MF [] [31, 32] M K1 → FtM K1 (flt 5 t) → Wp (d + 3) 190 47 [(2, ((116 : Nat) : Int)), (0, (z : Int)), (9, 0), (9, 0)] [] K1 mc ms Q := by
        intro K1 lay1 m1 ft1
        have bd : BdM K1 (flt 5 t) := ⟨ft1, fr⟩
        have ig1 := bd.ig lay1 (d := d + 2) (mc := 0) (ms := 0)
        refine g_aload_n lk_190_47 rfl ?_
        refine g_virtual (p := 116) (Qc := _) lk_190_48 rfl (Nat.le_of_ble_eq_true rfl) rfl rfl (lay1.on (by decide) rfl) (Nat.le_of_ble_eq_true rfl) (Nat.le_of_ble_eq_true rfl) (Nat.zero_le _) (Nat.zero_le _) (ig1) ?_
        rintro _ N1 ⟨rfl, hN1⟩
        rw [hN1]
        show Wp _ 190 51 [(2, ((116 : Nat) : Int)), (0, (z : Int)), (9, 0), (9, 0)] [(0, 0)] K1 _ _ _
        refine g_if (t := 55) lk_190_51 rfl (by first | (unfold pm_inI; omega) | exact pm_and_in _ _ | exact pm_shr_in _ _ | exact pm_or_in _ _ | exact pm_xor_in _ _ | exact pm_shl_in _ _ | exact pm_cmp_in _ _ | exact pm_b8_in _ | (unfold pm_inI; split <;> omega)) (fun h => absurd h (show ¬ (¬ (0 : Int) = (0 : Int)) by omega)) (fun _ => ?_)
        refine g_return lk_190_54 ?_
        rw [hQ]
        exact ⟨rfl, lay1, m1.mono (fun a q => by cases q) (fun a q => by simp at q ⊢; omega), bd⟩
      have k33 : Wp (d + 3) 190 33 [(2, ((116 : Nat) : Int)), (0, (z : Int)), (9, 0), (9, 0)] [] M mc ms Q := by
        refine g_aload_n lk_190_33 rfl ?_
        refine m_getfield (u := []) (M := M) lk_190_34 rfl (lay.on (by decide) rfl) (v := (r : Int)) f4 ?_
        refine g_bipush lk_190_37 ?_
        refine g_icmp (t := 47) lk_190_39 rfl (by first | (unfold pm_inI; omega) | exact pm_and_in _ _ | exact pm_shr_in _ _ | exact pm_or_in _ _ | exact pm_xor_in _ _ | exact pm_shl_in _ _ | exact pm_cmp_in _ _ | exact pm_b8_in _ | (unfold pm_inI; split <;> omega)) (by first | (unfold pm_inI; omega) | exact pm_and_in _ _ | exact pm_shr_in _ _ | exact pm_or_in _ _ | exact pm_xor_in _ _ | exact pm_shl_in _ _ | exact pm_cmp_in _ _ | exact pm_b8_in _ | (unfold pm_inI; split <;> omega)) (fun h1 => ?_) (fun h1 => ?_)
        · replace h1 : ¬ (r : Int) = 6 := h1
          omega
        · replace h1 : ¬ (¬ (r : Int) = 6) := h1
          refine g_aload_n lk_190_42 rfl ?_
          refine g_iconst lk_190_43 ?_
          refine g_virtual (p := 116) (Qc := _) lk_190_44 rfl (Nat.le_of_ble_eq_true rfl) rfl rfl (lay.on (by decide) rfl) (Nat.le_of_ble_eq_true rfl) (Nat.le_of_ble_eq_true rfl) (Nat.zero_le _) (Nat.zero_le _) (fa) ?_
          rintro _ K1 ⟨rfl, lay1, m1, ft1⟩
          show Wp _ 190 47 [(2, ((116 : Nat) : Int)), (0, (z : Int)), (9, 0), (9, 0)] [] K1 _ _ _
          exact k47 K1 lay1 m1 ft1
      refine g_aload_n lk_190_0 rfl ?_
      refine m_getfield (u := []) (M := M) lk_190_1 rfl (lay.on (by decide) rfl) (v := (b : Int)) f26 ?_
      refine g_aload_n lk_190_4 rfl ?_
      refine m_getfield (u := []) (M := M) lk_190_5 rfl (lay.on (by decide) rfl) (v := (a : Int)) f25 ?_
      refine g_isub lk_190_8 ?_
      refine g_top (z := ((b : Int) - (a : Int))) (z' := (z : Int)) (ez) ?_
      refine g_istore_n (ls' := [(2, ((116 : Nat) : Int)), (0, (z : Int)), (9, 0), (9, 0)]) lk_190_9 rfl rfl ?_
      refine g_aload_n lk_190_10 rfl ?_
      refine m_getfield (u := []) (M := M) lk_190_11 rfl (lay.on (by decide) rfl) (v := (r : Int)) f4 ?_
      refine g_if (t := 33) lk_190_14 rfl (by first | (unfold pm_inI; omega) | exact pm_and_in _ _ | exact pm_shr_in _ _ | exact pm_or_in _ _ | exact pm_xor_in _ _ | exact pm_shl_in _ _ | exact pm_cmp_in _ _ | exact pm_b8_in _ | (unfold pm_inI; split <;> omega)) (fun h1 => ?_) (fun h1 => ?_)
      · replace h1 : (r : Int) ≤ 0 := h1
        exact k33
      · replace h1 : ¬ ((r : Int) ≤ 0) := h1
        refine g_iload_n lk_190_17 rfl ?_
        refine g_aload_n lk_190_18 rfl ?_
        refine m_getfield (u := []) (M := M) lk_190_19 rfl (lay.on (by decide) rfl) (v := (C : Int)) f5 ?_
        refine g_icmp (t := 33) lk_190_22 rfl (by first | (unfold pm_inI; omega) | exact pm_and_in _ _ | exact pm_shr_in _ _ | exact pm_or_in _ _ | exact pm_xor_in _ _ | exact pm_shl_in _ _ | exact pm_cmp_in _ _ | exact pm_b8_in _ | (unfold pm_inI; split <;> omega)) (by first | (unfold pm_inI; omega) | exact pm_and_in _ _ | exact pm_shr_in _ _ | exact pm_or_in _ _ | exact pm_xor_in _ _ | exact pm_shl_in _ _ | exact pm_cmp_in _ _ | exact pm_b8_in _ | (unfold pm_inI; split <;> omega)) (fun h2 => ?_) (fun h2 => ?_)
        · replace h2 : (z : Int) = (C : Int) := h2
          exact k33
        · replace h2 : ¬ ((z : Int) = (C : Int)) := h2
          omega
    · have fin : ∀ (v2 v3 : pm_V) (K1 : pm_M), Lay K1 → MF [118] [4, 5] M K1 → RtM K1 (r + 1, z, rowX ch T.2.2.1 r t.2.1 z, tA T, tB T) (r + 1) → Wp (d + 3) 190 123 [(2, ((116 : Nat) : Int)), (0, (z : Int)), v2, v3] [] K1 mc ms Q := by
        intro v2 v3 K1 lay1 m1 rt1
        have g1 := hG.mf m1 (by decide) (by decide)
        have go := g1.go lay1 (d := d + 1) (mc := 0) (ms := 0)
        cases hp : pStop ch n (lxt ch n t.2.2) with
        | inl e =>
          have ep : pRow ch n r T t = .inl e := by unfold pRow; rw [hz', ← hC, if_neg e1, if_neg e2, hp]
          rw [ep] at hQ
          refine g_aload_n lk_190_123 rfl ?_
          refine g_virtual (p := 116) (Qc := _) lk_190_124 rfl (Nat.le_of_ble_eq_true rfl) rfl rfl (lay1.on (by decide) rfl) (Nat.le_of_ble_eq_true rfl) (Nat.le_of_ble_eq_true rfl) (Nat.zero_le _) (Nat.zero_le _) (go) ?_
          rintro _ K2 ⟨rfl, lay2, m2, tk2⟩
          have en := c_Mo_ends (d := d) (mc := 0) (ms := 0) lay2 (g1.next m2 tk2)
          rw [hp] at en
          show Wp _ 190 127 [(2, ((116 : Nat) : Int)), (0, (z : Int)), v2, v3] [] K2 _ _ _
          refine g_aload_n lk_190_127 rfl ?_
          refine g_virtual (p := 116) (Qc := _) lk_190_128 rfl (Nat.le_of_ble_eq_true rfl) rfl rfl (lay2.on (by decide) rfl) (Nat.le_of_ble_eq_true rfl) (Nat.le_of_ble_eq_true rfl) (Nat.zero_le _) (Nat.zero_le _) (en) ?_
          rintro _ K3 ⟨rfl, lay3, m3, bd3⟩
          show Wp _ 190 131 [(2, ((116 : Nat) : Int)), (0, (z : Int)), v2, v3] [] K3 _ _ _
          refine g_return lk_190_131 ?_
          rw [hQ]
          exact ⟨rfl, lay3, ((m1.mono (fun a q => q) (fun a q => by simp at q ⊢; omega)).trans (m2.mono (fun a q => by cases q) (fun a q => by simp at q ⊢; omega))).trans (m3.mono (fun a q => by cases q) (fun a q => by simp at q ⊢; omega)), bd3⟩
        | inr t' =>
          have ep : pRow ch n r T t = .inr ((r + 1, z, rowX ch T.2.2.1 r t.2.1 z, tA T, tB T), t') := by unfold pRow; rw [hz', ← hC, if_neg e1, if_neg e2, hp]
          rw [ep] at hQ
          refine g_aload_n lk_190_123 rfl ?_
          refine g_virtual (p := 116) (Qc := _) lk_190_124 rfl (Nat.le_of_ble_eq_true rfl) rfl rfl (lay1.on (by decide) rfl) (Nat.le_of_ble_eq_true rfl) (Nat.le_of_ble_eq_true rfl) (Nat.zero_le _) (Nat.zero_le _) (go) ?_
          rintro _ K2 ⟨rfl, lay2, m2, tk2⟩
          have en := c_Mo_ends (d := d) (mc := 0) (ms := 0) lay2 (g1.next m2 tk2)
          rw [hp] at en
          show Wp _ 190 127 [(2, ((116 : Nat) : Int)), (0, (z : Int)), v2, v3] [] K2 _ _ _
          refine g_aload_n lk_190_127 rfl ?_
          refine g_virtual (p := 116) (Qc := _) lk_190_128 rfl (Nat.le_of_ble_eq_true rfl) rfl rfl (lay2.on (by decide) rfl) (Nat.le_of_ble_eq_true rfl) (Nat.le_of_ble_eq_true rfl) (Nat.zero_le _) (Nat.zero_le _) (en) ?_
          rintro _ K3 ⟨rfl, lay3, m3, gd3⟩
          show Wp _ 190 131 [(2, ((116 : Nat) : Int)), (0, (z : Int)), v2, v3] [] K3 _ _ _
          refine g_return lk_190_131 ?_
          rw [hQ]
          exact ⟨rfl, lay3, ((m1.mono (fun a q => q) (fun a q => by simp at q ⊢; omega)).trans (m2.mono (fun a q => by cases q) (fun a q => by simp at q ⊢; omega))).trans (m3.mono (fun a q => by cases q) (fun a q => by simp at q ⊢; omega)), gd3, (rt1.mf m2 (by decide) (by decide) (by decide)).mf m3 (by decide) (by decide) (by decide)⟩
      have loop : ∀ (k i : Nat) (v3 : pm_V) (K : pm_M), i + k = z → Lay K → MF [118] [5] M K → pm_ct K 116 5 = (z : Int) → (∀ j, j < 6 * r → pm_ct K 118 j = pm_ct M 118 j) → (∀ j, j < i → pm_ct K 118 (6 * r + j) = (cv (ch (a + j)) : Int)) → Wp (d + 3) 190 62 [(2, ((116 : Nat) : Int)), (0, (z : Int)), (0, (i : Int)), v3] [] K mc ms Q := by
        intro k
        induction k with
        | zero =>
          intro i v3 K hi layK mK c5 lo hX
          have ei : i = z := by omega
          have f4K : pm_ct K 116 4 = (r : Int) := by rw [mK.fd (by decide)]; exact f4
          have rt : ∀ K1 : pm_M, pm_ct K1 118 = pm_ct K 118 → pm_ct K1 116 4 = ((r + 1 : Nat) : Int) → pm_ct K1 116 5 = (z : Int) → RtM K1 (r + 1, z, rowX ch T.2.2.1 r t.2.1 z, tA T, tB T) (r + 1) := fun K1 q1 q2 q3 => ⟨q2, q3, fun j hj jz => by
            have jz' : j % 6 < z := jz
            rw [q1]
            show _ = (rowX ch T.2.2.1 r t.2.1 z j : Int)
            unfold rowX
            by_cases g : j < 6 * r
            · rw [if_neg (by omega), lo j g]
              exact h8 j g (by rw [← hC]; omega)
            · rw [if_pos (by omega)]
              have x := hX (j - 6 * r) (by omega)
              rw [show 6 * r + (j - 6 * r) = j by omega] at x
              rw [x, ha]⟩
          refine g_iload_n lk_190_62 rfl ?_
          refine g_iload_n lk_190_63 rfl ?_
          refine g_icmp (t := 113) lk_190_64 rfl (by first | (unfold pm_inI; omega) | exact pm_and_in _ _ | exact pm_shr_in _ _ | exact pm_or_in _ _ | exact pm_xor_in _ _ | exact pm_shl_in _ _ | exact pm_cmp_in _ _ | exact pm_b8_in _ | (unfold pm_inI; split <;> omega)) (by first | (unfold pm_inI; omega) | exact pm_and_in _ _ | exact pm_shr_in _ _ | exact pm_or_in _ _ | exact pm_xor_in _ _ | exact pm_shl_in _ _ | exact pm_cmp_in _ _ | exact pm_b8_in _ | (unfold pm_inI; split <;> omega)) (fun h1 => ?_) (fun h1 => ?_)
          · replace h1 : (z : Int) ≤ (i : Int) := h1
            refine g_aload_n lk_190_113 rfl ?_
            refine g_dup lk_190_114 rfl ?_
            refine m_getfield (u := []) (M := K) lk_190_115 rfl (layK.on (by decide) rfl) (v := (r : Int)) f4K ?_
            refine g_iconst lk_190_118 ?_
            refine g_iadd lk_190_119 ?_
            have lay2 : Lay (Mu [(116, pm_upd (pm_ct K 116) 4 ((r : Int) + 1))] K) := layK.muF (l := []) (a := 116) (k := 4) (z := ((r : Int) + 1)) rfl rfl
            refine m_putfield (u := []) (u' := [(116, pm_upd (pm_ct K 116) 4 ((r : Int) + 1))]) (M := K) lk_190_120 rfl (layK.on (by decide) rfl) (fun h => absurd h (by decide)) rfl ?_
            refine fin _ _ (Mu [(116, pm_upd (pm_ct K 116) 4 ((r : Int) + 1))] K) lay2 ((mK.mono (fun a q => q) (fun a q => by simp at q ⊢; omega)).trans (MF.mu _ _ rfl (fun k hk => upd_ne (by intro q; rw [q] at hk; exact hk (by decide))))) (rt _ (by rw [Mu_ct]; rfl) (by rw [Mu_ct]; rfl) (by rw [Mu_ct]; exact c5))
          · replace h1 : ¬ ((z : Int) ≤ (i : Int)) := h1
            omega
        | succ k ih =>
          intro i v3 K hi layK mK c5 lo hX
          have f4K : pm_ct K 116 4 = (r : Int) := by rw [mK.fd (by decide)]; exact f4
          have f25K : pm_ct K 116 25 = (a : Int) := by rw [mK.fd (by decide)]; exact f25
          have ba := c_Mo_byteAt (d := d + 2) (mc := 0) (ms := 0) layK (tc.mf mK (by decide) (by decide)) (k := a + i) (by omega)
          have ea : (a : Int) + (i : Int) = ((a + i : Nat) : Int) := by omega
          have bv : chv ch n (a + i) = (ch (a + i) : Int) := by
            unfold chv
            rw [if_pos (by omega)]
          rw [bv] at ba
          have rc := run_ch hK t2 (i := a + i) (by omega) (by omega)
          have nx : ∀ (v : Int) (v4 : pm_V) (K1 : pm_M), v = (cv (ch (a + i)) : Int) → Lay K1 → MF [118] [5] K K1 → pm_ct K1 116 = pm_ct K 116 → pm_ct K1 118 = pm_upd (pm_ct K 118) (6 * r + i) v → Wp (d + 3) 190 62 [(2, ((116 : Nat) : Int)), (0, (z : Int)), (0, ((i + 1 : Nat) : Int)), v4] [] K1 mc ms Q := fun v v4 K1 hv l1 f1 g1 g8 => ih (i + 1) v4 K1 (by omega) l1 (mK.trans f1) (by rw [g1]; exact c5) (fun j hj => by rw [g8, pm_upd_ne (by omega)]; exact lo j hj) (fun j hj => by
            rw [g8]
            by_cases q : j = i
            · rw [q, pm_upd_eq, hv]
            · rw [pm_upd_ne (by omega)]; exact hX j (by omega))
          have ix : 6 * (r : Int) + (i : Int) = ((6 * r + i : Nat) : Int) := by omega
          have cA := fun e => cv_46 (c := ch (a + i)) e
          have cB := fun e => cv_n (c := ch (a + i)) e
          obtain ⟨x, hx⟩ : ∃ x, x = ch (a + i) := ⟨_, rfl⟩
          rw [← hx] at ba rc nx cA cB
          clear ih
          refine g_iload_n lk_190_62 rfl ?_
          refine g_iload_n lk_190_63 rfl ?_
          refine g_icmp (t := 113) lk_190_64 rfl (by first | (unfold pm_inI; omega) | exact pm_and_in _ _ | exact pm_shr_in _ _ | exact pm_or_in _ _ | exact pm_xor_in _ _ | exact pm_shl_in _ _ | exact pm_cmp_in _ _ | exact pm_b8_in _ | (unfold pm_inI; split <;> omega)) (by first | (unfold pm_inI; omega) | exact pm_and_in _ _ | exact pm_shr_in _ _ | exact pm_or_in _ _ | exact pm_xor_in _ _ | exact pm_shl_in _ _ | exact pm_cmp_in _ _ | exact pm_b8_in _ | (unfold pm_inI; split <;> omega)) (fun h1 => ?_) (fun h1 => ?_)
          · replace h1 : (z : Int) ≤ (i : Int) := h1
            omega
          · replace h1 : ¬ ((z : Int) ≤ (i : Int)) := h1
            refine g_aload_n lk_190_67 rfl ?_
            refine g_aload_n lk_190_68 rfl ?_
            refine m_getfield (u := []) (M := K) lk_190_69 rfl (layK.on (by decide) rfl) (v := (a : Int)) f25K ?_
            refine g_iload_n lk_190_72 rfl ?_
            refine g_iadd lk_190_73 ?_
            refine g_top (z := ((a : Int) + (i : Int))) (z' := ((a + i : Nat) : Int)) (ea) ?_
            refine g_virtual (p := 116) (Qc := _) lk_190_74 rfl (Nat.le_of_ble_eq_true rfl) rfl rfl (layK.on (by decide) rfl) (Nat.le_of_ble_eq_true rfl) (Nat.le_of_ble_eq_true rfl) (Nat.zero_le _) (Nat.zero_le _) (ba) ?_
            rintro _ N2 ⟨rfl, hN2⟩
            rw [hN2]
            show Wp _ 190 77 [(2, ((116 : Nat) : Int)), (0, (z : Int)), (0, (i : Int)), v3] [(0, (x : Int))] K _ _ _
            refine g_istore_n (ls' := [(2, ((116 : Nat) : Int)), (0, (z : Int)), (0, (i : Int)), (0, (x : Int))]) lk_190_77 rfl rfl ?_
            refine g_aload_n lk_190_78 rfl ?_
            refine g_getfield lk_190_79 rfl (layK.on (by decide) rfl) (v := ((118 : Nat) : Int)) (layK.rf rfl) ?_
            refine g_bipush lk_190_82 ?_
            refine g_aload_n lk_190_84 rfl ?_
            refine m_getfield (u := []) (M := K) lk_190_85 rfl (layK.on (by decide) rfl) (v := (r : Int)) f4K ?_
            refine g_imul lk_190_88 ?_
            refine g_iload_n lk_190_89 rfl ?_
            refine g_iadd lk_190_90 ?_
            refine g_top (z := ((6 * (r : Int)) + (i : Int))) (z' := ((6 * r + i : Nat) : Int)) (ix) ?_
            refine g_iload_n lk_190_91 rfl ?_
            refine g_bipush lk_190_92 ?_
            refine g_icmp (t := 102) lk_190_94 rfl (by first | (unfold pm_inI; omega) | exact pm_and_in _ _ | exact pm_shr_in _ _ | exact pm_or_in _ _ | exact pm_xor_in _ _ | exact pm_shl_in _ _ | exact pm_cmp_in _ _ | exact pm_b8_in _ | (unfold pm_inI; split <;> omega)) (by first | (unfold pm_inI; omega) | exact pm_and_in _ _ | exact pm_shr_in _ _ | exact pm_or_in _ _ | exact pm_xor_in _ _ | exact pm_shl_in _ _ | exact pm_cmp_in _ _ | exact pm_b8_in _ | (unfold pm_inI; split <;> omega)) (fun h3 => ?_) (fun h3 => ?_)
            · replace h3 : ¬ (x : Int) = 46 := h3
              refine g_iload_n lk_190_102 rfl ?_
              refine g_bipush lk_190_103 ?_
              refine g_isub lk_190_105 ?_
              have lay4 : Lay (Mu [(118, pm_upd (pm_ct K 118) (6 * r + i : Nat) ((x : Int) - 48))] K) := layK.muA (l := []) (a := 118) (f := pm_upd (pm_ct K 118) (6 * r + i : Nat) ((x : Int) - 48)) rfl rfl
              refine m_iastore (u := []) (u' := [(118, pm_upd (pm_ct K 118) (6 * r + i : Nat) ((x : Int) - 48))]) (M := K) lk_190_106 (layK.ay (by decide) rfl) (by omega) (j := (6 * r + i : Nat)) (by omega) rfl ?_
              refine g_iinc (ls' := [(2, ((116 : Nat) : Int)), (0, (z : Int)), (0, ((i : Int) + 1)), (0, (x : Int))]) lk_190_107 rfl rfl rfl ?_
              refine g_goto (t := 62) lk_190_110 rfl ?_
              exact nx _ _ (Mu [(118, pm_upd (pm_ct K 118) (6 * r + i : Nat) ((x : Int) - 48))] K) (by first | exact cA (by omega) | exact cB (by omega)) lay4 (MF.mu _ _ rfl (fun _ _ => rfl)) (by rw [Mu_ct]; rfl) (by rw [Mu_ct]; rfl)
            · replace h3 : ¬ (¬ (x : Int) = 46) := h3
              refine g_bipush lk_190_97 ?_
              refine g_goto (t := 106) lk_190_99 rfl ?_
              have lay5 : Lay (Mu [(118, pm_upd (pm_ct K 118) (6 * r + i : Nat) 10)] K) := layK.muA (l := []) (a := 118) (f := pm_upd (pm_ct K 118) (6 * r + i : Nat) 10) rfl rfl
              refine m_iastore (u := []) (u' := [(118, pm_upd (pm_ct K 118) (6 * r + i : Nat) 10)]) (M := K) lk_190_106 (layK.ay (by decide) rfl) (by omega) (j := (6 * r + i : Nat)) (by omega) rfl ?_
              refine g_iinc (ls' := [(2, ((116 : Nat) : Int)), (0, (z : Int)), (0, ((i : Int) + 1)), (0, (x : Int))]) lk_190_107 rfl rfl rfl ?_
              refine g_goto (t := 62) lk_190_110 rfl ?_
              exact nx _ _ (Mu [(118, pm_upd (pm_ct K 118) (6 * r + i : Nat) 10)] K) (by first | exact cA (by omega) | exact cB (by omega)) lay5 (MF.mu _ _ rfl (fun _ _ => rfl)) (by rw [Mu_ct]; rfl) (by rw [Mu_ct]; rfl)
      have k47 : Wp (d + 3) 190 47 [(2, ((116 : Nat) : Int)), (0, (z : Int)), (9, 0), (9, 0)] [] M mc ms Q := by
        refine g_aload_n lk_190_47 rfl ?_
        refine g_virtual (p := 116) (Qc := _) lk_190_48 rfl (Nat.le_of_ble_eq_true rfl) rfl rfl (lay.on (by decide) rfl) (Nat.le_of_ble_eq_true rfl) (Nat.le_of_ble_eq_true rfl) (Nat.zero_le _) (Nat.zero_le _) (ig) ?_
        rintro _ N1 ⟨rfl, hN1⟩
        rw [hN1]
        show Wp _ 190 51 [(2, ((116 : Nat) : Int)), (0, (z : Int)), (9, 0), (9, 0)] [(0, 1)] M _ _ _
        refine g_if (t := 55) lk_190_51 rfl (by first | (unfold pm_inI; omega) | exact pm_and_in _ _ | exact pm_shr_in _ _ | exact pm_or_in _ _ | exact pm_xor_in _ _ | exact pm_shl_in _ _ | exact pm_cmp_in _ _ | exact pm_b8_in _ | (unfold pm_inI; split <;> omega)) (fun _ => ?_) (fun h => absurd (show ¬ (1 : Int) = (0 : Int) by omega) h)
        refine g_aload_n lk_190_55 rfl ?_
        refine g_iload_n lk_190_56 rfl ?_
        have lay2 : Lay (Mu [(116, pm_upd (pm_ct M 116) 5 (z : Int))] M) := lay.muF (l := []) (a := 116) (k := 5) (z := (z : Int)) rfl rfl
        refine m_putfield (u := []) (u' := [(116, pm_upd (pm_ct M 116) 5 (z : Int))]) (M := M) lk_190_57 rfl (lay.on (by decide) rfl) (fun h => absurd h (by decide)) rfl ?_
        refine g_iconst lk_190_60 ?_
        refine g_istore_n (ls' := [(2, ((116 : Nat) : Int)), (0, (z : Int)), (0, 0), (9, 0)]) lk_190_61 rfl rfl ?_
        exact loop z 0 _ (Mu [(116, pm_upd (pm_ct M 116) 5 (z : Int))] M) (by omega) lay2 (MF.mu _ _ rfl (fun k hk => upd_ne (by intro q; rw [q] at hk; exact hk (by decide)))) (by rw [Mu_ct]; rfl) (fun j hj => by rw [Mu_ct]; rfl) (fun j hj => absurd hj (Nat.not_lt_zero j))
      have k33 : Wp (d + 3) 190 33 [(2, ((116 : Nat) : Int)), (0, (z : Int)), (9, 0), (9, 0)] [] M mc ms Q := by
        refine g_aload_n lk_190_33 rfl ?_
        refine m_getfield (u := []) (M := M) lk_190_34 rfl (lay.on (by decide) rfl) (v := (r : Int)) f4 ?_
        refine g_bipush lk_190_37 ?_
        refine g_icmp (t := 47) lk_190_39 rfl (by first | (unfold pm_inI; omega) | exact pm_and_in _ _ | exact pm_shr_in _ _ | exact pm_or_in _ _ | exact pm_xor_in _ _ | exact pm_shl_in _ _ | exact pm_cmp_in _ _ | exact pm_b8_in _ | (unfold pm_inI; split <;> omega)) (by first | (unfold pm_inI; omega) | exact pm_and_in _ _ | exact pm_shr_in _ _ | exact pm_or_in _ _ | exact pm_xor_in _ _ | exact pm_shl_in _ _ | exact pm_cmp_in _ _ | exact pm_b8_in _ | (unfold pm_inI; split <;> omega)) (fun h1 => ?_) (fun h1 => ?_)
        · replace h1 : ¬ (r : Int) = 6 := h1
          exact k47
        · replace h1 : ¬ (¬ (r : Int) = 6) := h1
          omega
      refine g_aload_n lk_190_0 rfl ?_
      refine m_getfield (u := []) (M := M) lk_190_1 rfl (lay.on (by decide) rfl) (v := (b : Int)) f26 ?_
      refine g_aload_n lk_190_4 rfl ?_
      refine m_getfield (u := []) (M := M) lk_190_5 rfl (lay.on (by decide) rfl) (v := (a : Int)) f25 ?_
      refine g_isub lk_190_8 ?_
      refine g_top (z := ((b : Int) - (a : Int))) (z' := (z : Int)) (ez) ?_
      refine g_istore_n (ls' := [(2, ((116 : Nat) : Int)), (0, (z : Int)), (9, 0), (9, 0)]) lk_190_9 rfl rfl ?_
      refine g_aload_n lk_190_10 rfl ?_
      refine m_getfield (u := []) (M := M) lk_190_11 rfl (lay.on (by decide) rfl) (v := (r : Int)) f4 ?_
      refine g_if (t := 33) lk_190_14 rfl (by first | (unfold pm_inI; omega) | exact pm_and_in _ _ | exact pm_shr_in _ _ | exact pm_or_in _ _ | exact pm_xor_in _ _ | exact pm_shl_in _ _ | exact pm_cmp_in _ _ | exact pm_b8_in _ | (unfold pm_inI; split <;> omega)) (fun h1 => ?_) (fun h1 => ?_)
      · replace h1 : (r : Int) ≤ 0 := h1
        exact k33
      · replace h1 : ¬ ((r : Int) ≤ 0) := h1
        refine g_iload_n lk_190_17 rfl ?_
        refine g_aload_n lk_190_18 rfl ?_
        refine m_getfield (u := []) (M := M) lk_190_19 rfl (lay.on (by decide) rfl) (v := (C : Int)) f5 ?_
        refine g_icmp (t := 33) lk_190_22 rfl (by first | (unfold pm_inI; omega) | exact pm_and_in _ _ | exact pm_shr_in _ _ | exact pm_or_in _ _ | exact pm_xor_in _ _ | exact pm_shl_in _ _ | exact pm_cmp_in _ _ | exact pm_b8_in _ | (unfold pm_inI; split <;> omega)) (by first | (unfold pm_inI; omega) | exact pm_and_in _ _ | exact pm_shr_in _ _ | exact pm_or_in _ _ | exact pm_xor_in _ _ | exact pm_shl_in _ _ | exact pm_cmp_in _ _ | exact pm_b8_in _ | (unfold pm_inI; split <;> omega)) (fun h2 => ?_) (fun h2 => ?_)
        · replace h2 : (z : Int) = (C : Int) := h2
          exact k33
        · replace h2 : ¬ ((z : Int) = (C : Int)) := h2
          omega
