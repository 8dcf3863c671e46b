/-! ===== what a call leaves alone ===== -/
def Fr (S : List Nat) (M N : pm_M) : Prop := N.1 = M.1 ∧ (∀ a, pm_kd N a = pm_kd M a) ∧ (∀ a, pm_ln N a = pm_ln M a) ∧ ∀ a, a ∉ S → pm_ct N a = pm_ct M a
theorem Fr.refl (S : List Nat) (M : pm_M) : Fr S M M := ⟨rfl, fun _ => rfl, fun _ => rfl, fun _ _ => rfl⟩
theorem Fr.trans {S : List Nat} {M N P : pm_M} (h : Fr S M N) (k : Fr S N P) : Fr S M P :=
  ⟨k.1.trans h.1, fun a => (k.2.1 a).trans (h.2.1 a), fun a => (k.2.2.1 a).trans (h.2.2.1 a), fun a ha => (k.2.2.2 a ha).trans (h.2.2.2 a ha)⟩
theorem Fr.mono {S S' : List Nat} {M N : pm_M} (h : Fr S M N) (hs : ∀ a, a ∈ S → a ∈ S') : Fr S' M N :=
  ⟨h.1, h.2.1, h.2.2.1, fun a ha => h.2.2.2 a (fun q => ha (hs a q))⟩
theorem Fr.ct {S : List Nat} {M N : pm_M} (h : Fr S M N) {a : Nat} (ha : a ∉ S) : pm_ct N a = pm_ct M a := h.2.2.2 a ha
theorem Fr.mu {S : List Nat} (M : pm_M) (l : List (Nat × (Nat → Int))) (hl : (l.all (fun q => S.elem q.1)) = true) : Fr S M (Mu l M) := by
  refine ⟨Mu_1 l M, Mu_kd l M, Mu_ln l M, fun a ha => ?_⟩
  rw [Mu_ct]
  induction l with
  | nil => rfl
  | cons q t ih =>
    rw [List.all_cons, Bool.and_eq_true] at hl
    have h1 : q.1 ∈ S := List.elem_iff.mp hl.1
    have h2 : ¬ q.1 = a := fun e => ha (by rw [← e]; exact h1)
    show (if q.1 = a then q.2 else al t a (pm_ct M a)) = _
    rw [if_neg h2, ih hl.2]
theorem TbAt.fr {S : List Nat} {M N : pm_M} {t : Nat} {T : Tab} (h : TbAt M t T) (k : Fr S M N) (h1 : t ∉ S) (h2 : t + 1 ∉ S) : TbAt N t T := by
  unfold TbAt; rw [k.ct h1, k.ct h2]; exact h
theorem MoAt.fr {S : List Nat} {M N : pm_M} {T : Tab} (h : MoAt M T) (k : Fr S M N) (h1 : 116 ∉ S) (h2 : 117 ∉ S) (h3 : 120 ∉ S) : MoAt N T := by
  unfold MoAt; rw [k.ct h1, k.ct h2, k.ct h3]; exact h
/-! ===== the greatest area ===== -/
def gS (T : Tab) (rs v : Nat) : Nat := oC T rs v &&& ow T rs v (tR T)
theorem gS_64 {T : Tab} (hT : TabOK T) (rs v : Nat) : gS T rs v < 64 := Nat.lt_of_le_of_lt Nat.and_le_left (oC_64 hT rs v)
def gStep (T : Tab) (v : Nat) (a : Nat × Nat × Nat) (rs : Nat) : Nat × Nat × Nat := if a.1 < nV T rs (gS T rs v) v then (nV T rs (gS T rs v) v, rs, gS T rs v) else a
def gAll (T : Tab) (v n : Nat) : Nat × Nat × Nat := (List.range n).foldl (fun a i => gStep T v a (i + 1)) (0, 0, 0)
theorem gAll_s (T : Tab) (v n : Nat) : gAll T v (n + 1) = gStep T v (gAll T v n) (n + 1) := fo_succ _ _ _
theorem nV_36 {T : Tab} (hT : TabOK T) (rs cs v : Nat) : nV T rs cs v ≤ 36 := by
  have h1 : nV T rs cs v ≤ sm (fun _ => 6) (tR T) := sm_le (fun r _ => by
    have h2 : sm (dv T rs cs v r) (tC T) ≤ sm (fun _ => 1) (tC T) := sm_le (fun c _ => by unfold dv; split <;> omega)
    have h3 : ∀ n, sm (fun _ => 1) n = n := fun n => by induction n with
      | zero => rfl
      | succ n ih => show sm (fun _ => 1) n + 1 = _; rw [ih]
    have := hT.2.1
    rw [h3] at h2
    show _ ≤ 6
    omega)
  have h4 : ∀ n, sm (fun _ => 6) n = 6 * n := fun n => by induction n with
    | zero => rfl
    | succ n ih => show sm (fun _ => 6) n + 6 = _; rw [ih]; omega
  have := hT.1
  rw [h4] at h1
  omega
theorem gAll_36 {T : Tab} (hT : TabOK T) (v : Nat) : ∀ n, (gAll T v n).1 ≤ 36
  | 0 => (by decide : 0 ≤ 36)
  | n + 1 => by
    rw [gAll_s]
    unfold gStep
    split
    · exact nV_36 hT _ _ _
    · exact gAll_36 hT v n
theorem c_bc_wL {d mc ms : Nat} {M : pm_M} {T : Tab} (hT : TabOK T) {rs cs v : Nat} :
    pm_E d 266 [(1, ((wL T rs cs v (tR T) : Nat) : Int))] M mc ms (fun ρ M' => ρ = some (0, (nV T rs cs v : Int)) ∧ M' = M) := by
  have := c_Long_bitCount (d := d) (mc := mc) (ms := ms) (M := M) (wL_36 hT rs cs v)
  rw [popL_wL hT] at this
  exact this
/-- the scratch of Patches -/
def sP : List Nat := [28, 29, 30, 31, 32, 33]
set_option maxHeartbeats 4000000 in
theorem c_Patches_findGreatest {d mc ms : Nat} {M : pm_M} (lay0 : Lay M) {T : Tab} (hT : TabOK T) (hM0 : TbAt M 24 T) {v : Nat} (hP0 : PaAt M T v) :
    pm_E (d + 2) 46 [(2, ((28 : Nat) : Int))] M mc ms (fun ρ M' => ρ = none ∧ Lay M' ∧ Fr sP M M' ∧ pm_ct M' 28 7 = ((gAll T v (2 ^ tR T - 1)).1 : Int) ∧ ((gAll T v (2 ^ tR T - 1)).1 ≠ 0 → pm_ct M' 28 8 = ((gAll T v (2 ^ tR T - 1)).2.1 : Int) ∧ pm_ct M' 28 9 = ((gAll T v (2 ^ tR T - 1)).2.2 : Int))) := by
  obtain ⟨Q, hQ⟩ : ∃ Q : pm_Q, Q = (fun ρ M' => ρ = none ∧ Lay M' ∧ Fr sP M M' ∧ pm_ct M' 28 7 = ((gAll T v (2 ^ tR T - 1)).1 : Int) ∧ ((gAll T v (2 ^ tR T - 1)).1 ≠ 0 → pm_ct M' 28 8 = ((gAll T v (2 ^ tR T - 1)).2.1 : Int) ∧ pm_ct M' 28 9 = ((gAll T v (2 ^ tR T - 1)).2.2 : Int))) := ⟨_, rfl⟩
  rw [← hQ]
  have ht : (24 : Nat) = 4 ∨ (24 : Nat) = 24 := Or.inr rfl
  have hR := tR_64 hT
  have loop : ∀ (n i : Nat) (v2 v3 : pm_V) (N : pm_M), i + n = 2 ^ tR T - 1 → Lay N → Fr sP M N → TbAt N 24 T → PaAt N T v → pm_ct N 28 7 = ((gAll T v i).1 : Int) → ((gAll T v i).1 ≠ 0 → pm_ct N 28 8 = ((gAll T v i).2.1 : Int) ∧ pm_ct N 28 9 = ((gAll T v i).2.2 : Int)) → Wp (d + 2) 46 7 [(2, ((28 : Nat) : Int)), (0, ((i + 1 : Nat) : Int)), v2, v3] [] N mc ms Q := by
    intro n
    induction n with
    | zero =>
      intro i v2 v3 N hi lay hF hM hP q7 q8
      have ei : i = 2 ^ tR T - 1 := by omega
      refine g_iload_n lk_46_7 rfl ?_
      refine g_aload_n lk_46_8 rfl ?_
      refine g_getfield lk_46_9 rfl (lay.on (by decide) rfl) (v := ((24 : Nat) : Int)) (lay.rf rfl) ?_
      refine g_virtual (p := 24) (Qc := _) lk_46_12 rfl (Nat.le_of_ble_eq_true rfl) rfl rfl (lay.on (by decide) rfl) (Nat.le_of_ble_eq_true rfl) (Nat.le_of_ble_eq_true rfl) (Nat.zero_le _) (Nat.zero_le _) (c_Table_allRows lay ht hT hM) ?_
      rintro _ N1 ⟨rfl, hN1⟩
      rw [hN1]
      show Wp _ 46 15 [(2, ((28 : Nat) : Int)), (0, ((i + 1 : Nat) : Int)), v2, v3] [(0, ((2 ^ tR T - 1 : Nat) : Int)), (0, ((i + 1 : Nat) : Int))] N _ _ _
      refine g_icmp (t := 69) lk_46_15 rfl (by first | (unfold pm_inI; omega) | exact pm_and_in _ _ | exact pm_shr_in _ _ | exact pm_or_in _ _ | exact pm_xor_in _ _ | exact pm_shl_in _ _ | exact pm_cmp_in _ _ | exact pm_b8_in _ | (unfold pm_inI; split <;> omega)) (by first | (unfold pm_inI; omega) | exact pm_and_in _ _ | exact pm_shr_in _ _ | exact pm_or_in _ _ | exact pm_xor_in _ _ | exact pm_shl_in _ _ | exact pm_cmp_in _ _ | exact pm_b8_in _ | (unfold pm_inI; split <;> omega)) (fun h2 => ?_) (fun h2 => ?_)
      · replace h2 : ((2 ^ tR T - 1 : Nat) : Int) < ((i + 1 : Nat) : Int) := h2
        refine g_return lk_46_69 ?_
        rw [hQ, ← ei]
        exact ⟨rfl, lay, hF, q7, q8⟩
      · replace h2 : ¬ (((2 ^ tR T - 1 : Nat) : Int) < ((i + 1 : Nat) : Int)) := h2
        refine g_aload_n lk_46_18 rfl ?_
        refine g_iload_n lk_46_19 rfl ?_
        omega
    | succ n ih =>
      intro i v2 v3 N hi lay hF hM hP q7 q8
      have e := gAll_s T v i
      have k1 := oC_64 hT (i + 1) v
      have k2 := ow_64 hT (i + 1) v (tR T)
      have k3 := gS_64 hT (i + 1) v
      have hand : pm_and ((oC T (i + 1) v : Nat) : Int) ((ow T (i + 1) v (tR T) : Nat) : Int) = ((gS T (i + 1) v : Nat) : Int) := pm_and_n (by omega) (by omega)
      have k6 := nV_36 hT (i + 1) (gS T (i + 1) v) v
      have k7 := gAll_36 hT v i
      refine g_iload_n lk_46_7 rfl ?_
      refine g_aload_n lk_46_8 rfl ?_
      refine g_getfield lk_46_9 rfl (lay.on (by decide) rfl) (v := ((24 : Nat) : Int)) (lay.rf rfl) ?_
      refine g_virtual (p := 24) (Qc := _) lk_46_12 rfl (Nat.le_of_ble_eq_true rfl) rfl rfl (lay.on (by decide) rfl) (Nat.le_of_ble_eq_true rfl) (Nat.le_of_ble_eq_true rfl) (Nat.zero_le _) (Nat.zero_le _) (c_Table_allRows lay ht hT hM) ?_
      rintro _ N1 ⟨rfl, hN1⟩
      rw [hN1]
      show Wp _ 46 15 [(2, ((28 : Nat) : Int)), (0, ((i + 1 : Nat) : Int)), v2, v3] [(0, ((2 ^ tR T - 1 : Nat) : Int)), (0, ((i + 1 : Nat) : Int))] N _ _ _
      refine g_icmp (t := 69) lk_46_15 rfl (by first | (unfold pm_inI; omega) | exact pm_and_in _ _ | exact pm_shr_in _ _ | exact pm_or_in _ _ | exact pm_xor_in _ _ | exact pm_shl_in _ _ | exact pm_cmp_in _ _ | exact pm_b8_in _ | (unfold pm_inI; split <;> omega)) (by first | (unfold pm_inI; omega) | exact pm_and_in _ _ | exact pm_shr_in _ _ | exact pm_or_in _ _ | exact pm_xor_in _ _ | exact pm_shl_in _ _ | exact pm_cmp_in _ _ | exact pm_b8_in _ | (unfold pm_inI; split <;> omega)) (fun h2 => ?_) (fun h2 => ?_)
      · replace h2 : ((2 ^ tR T - 1 : Nat) : Int) < ((i + 1 : Nat) : Int) := h2
        refine g_return lk_46_69 ?_
        omega
      · replace h2 : ¬ (((2 ^ tR T - 1 : Nat) : Int) < ((i + 1 : Nat) : Int)) := h2
        refine g_aload_n lk_46_18 rfl ?_
        refine g_iload_n lk_46_19 rfl ?_
        refine g_virtual (p := 28) (Qc := _) lk_46_20 rfl (Nat.le_of_ble_eq_true rfl) rfl rfl (lay.on (by decide) rfl) (Nat.le_of_ble_eq_true rfl) (Nat.le_of_ble_eq_true rfl) (Nat.zero_le _) (Nat.zero_le _) (c_Patches_openColumns lay hT hM hP (by omega)) ?_
        rintro _ N3 ⟨rfl, hN3⟩
        rw [hN3]
        show Wp _ 46 23 [(2, ((28 : Nat) : Int)), (0, ((i + 1 : Nat) : Int)), v2, v3] [(0, ((oC T (i + 1) v : Nat) : Int))] N _ _ _
        refine g_aload_n lk_46_23 rfl ?_
        refine g_iload_n lk_46_24 rfl ?_
        refine g_virtual (p := 28) (Qc := _) lk_46_25 rfl (Nat.le_of_ble_eq_true rfl) rfl rfl (lay.on (by decide) rfl) (Nat.le_of_ble_eq_true rfl) (Nat.le_of_ble_eq_true rfl) (Nat.zero_le _) (Nat.zero_le _) (c_Patches_ownColumns lay hT hM hP (by omega)) ?_
        rintro _ N4 ⟨rfl, hN4⟩
        rw [hN4]
        show Wp _ 46 28 [(2, ((28 : Nat) : Int)), (0, ((i + 1 : Nat) : Int)), v2, v3] [(0, ((ow T (i + 1) v (tR T) : Nat) : Int)), (0, ((oC T (i + 1) v : Nat) : Int))] N _ _ _
        refine g_iand lk_46_28 ?_
        refine g_istore_n (ls' := [(2, ((28 : Nat) : Int)), (0, ((i + 1 : Nat) : Int)), (0, (pm_and ((oC T (i + 1) v : Nat) : Int) ((ow T (i + 1) v (tR T) : Nat) : Int))), v3]) lk_46_29 rfl rfl ?_
        refine g_aload_n lk_46_30 rfl ?_
        refine g_iload_n lk_46_31 rfl ?_
        refine g_iload_n lk_46_32 rfl ?_
        refine g_virtual (p := 28) (Qc := _) lk_46_33 rfl (Nat.le_of_ble_eq_true rfl) rfl rfl (lay.on (by decide) rfl) (Nat.le_of_ble_eq_true rfl) (Nat.le_of_ble_eq_true rfl) (Nat.zero_le _) (Nat.zero_le _) ((by rw [hand]; exact c_Patches_ownCells lay hT hM hP (by omega) k3)) ?_
        rintro _ N5 ⟨rfl, hN5⟩
        rw [hN5]
        show Wp _ 46 36 [(2, ((28 : Nat) : Int)), (0, ((i + 1 : Nat) : Int)), (0, (pm_and ((oC T (i + 1) v : Nat) : Int) ((ow T (i + 1) v (tR T) : Nat) : Int))), v3] [(1, ((wL T (i + 1) (gS T (i + 1) v) v (tR T) : Nat) : Int))] N _ _ _
        refine g_static (Qc := _) lk_46_36 (by decide) rfl (Nat.le_of_ble_eq_true rfl) rfl rfl (Nat.le_of_ble_eq_true rfl) (Nat.le_of_ble_eq_true rfl) (Nat.zero_le _) (Nat.zero_le _) (c_bc_wL hT) ?_
        rintro _ N6 ⟨rfl, hN6⟩
        rw [hN6]
        show Wp _ 46 39 [(2, ((28 : Nat) : Int)), (0, ((i + 1 : Nat) : Int)), (0, (pm_and ((oC T (i + 1) v : Nat) : Int) ((ow T (i + 1) v (tR T) : Nat) : Int))), v3] [(0, (nV T (i + 1) (gS T (i + 1) v) v : Int))] N _ _ _
        refine g_istore_n (ls' := [(2, ((28 : Nat) : Int)), (0, ((i + 1 : Nat) : Int)), (0, (pm_and ((oC T (i + 1) v : Nat) : Int) ((ow T (i + 1) v (tR T) : Nat) : Int))), (0, (nV T (i + 1) (gS T (i + 1) v) v : Int))]) lk_46_39 rfl rfl ?_
        refine g_iload_n lk_46_40 rfl ?_
        refine g_aload_n lk_46_41 rfl ?_
        refine m_getfield (u := []) (M := N) lk_46_42 rfl (lay.on (by decide) rfl) (v := ((gAll T v i).1 : Int)) q7 ?_
        refine g_icmp (t := 63) lk_46_45 rfl (by first | (unfold pm_inI; omega) | exact pm_and_in _ _ | exact pm_shr_in _ _ | exact pm_or_in _ _ | exact pm_xor_in _ _ | exact pm_shl_in _ _ | exact pm_cmp_in _ _ | exact pm_b8_in _ | (unfold pm_inI; split <;> omega)) (by first | (unfold pm_inI; omega) | exact pm_and_in _ _ | exact pm_shr_in _ _ | exact pm_or_in _ _ | exact pm_xor_in _ _ | exact pm_shl_in _ _ | exact pm_cmp_in _ _ | exact pm_b8_in _ | (unfold pm_inI; split <;> omega)) (fun h7 => ?_) (fun h7 => ?_)
        · replace h7 : (nV T (i + 1) (gS T (i + 1) v) v : Int) ≤ ((gAll T v i).1 : Int) := h7
          refine g_iinc (ls' := [(2, ((28 : Nat) : Int)), (0, (((i + 1 : Nat) : Int) + 1)), (0, (pm_and ((oC T (i + 1) v : Nat) : Int) ((ow T (i + 1) v (tR T) : Nat) : Int))), (0, (nV T (i + 1) (gS T (i + 1) v) v : Int))]) lk_46_63 rfl rfl rfl ?_
          refine g_goto (t := 7) lk_46_66 rfl ?_
          unfold gStep at e
          rw [if_neg (by omega)] at e
          exact ih (i + 1) _ _ N (by omega) lay hF hM hP (by rw [e]; exact q7) (by rw [e]; exact q8)
        · replace h7 : ¬ ((nV T (i + 1) (gS T (i + 1) v) v : Int) ≤ ((gAll T v i).1 : Int)) := h7
          refine g_aload_n lk_46_48 rfl ?_
          refine g_iload_n lk_46_49 rfl ?_
          have lay8 : Lay (Mu [(28, pm_upd (pm_ct N 28) 7 (nV T (i + 1) (gS T (i + 1) v) v : Int))] N) := lay.muF (l := []) (a := 28) (k := 7) (z := (nV T (i + 1) (gS T (i + 1) v) v : Int)) rfl rfl
          refine m_putfield (u := []) (u' := [(28, pm_upd (pm_ct N 28) 7 (nV T (i + 1) (gS T (i + 1) v) v : Int))]) (M := N) lk_46_50 rfl (lay.on (by decide) rfl) (fun h => absurd h (by decide)) rfl ?_
          refine g_aload_n lk_46_53 rfl ?_
          refine g_iload_n lk_46_54 rfl ?_
          have lay9 : Lay (Mu [(28, pm_upd (pm_upd (pm_ct N 28) 7 (nV T (i + 1) (gS T (i + 1) v) v : Int)) 8 ((i + 1 : Nat) : Int))] N) := lay8.muF (l := [(28, pm_upd (pm_ct N 28) 7 (nV T (i + 1) (gS T (i + 1) v) v : Int))]) (a := 28) (k := 8) (z := ((i + 1 : Nat) : Int)) rfl rfl
          refine m_putfield (u := [(28, pm_upd (pm_ct N 28) 7 (nV T (i + 1) (gS T (i + 1) v) v : Int))]) (u' := [(28, pm_upd (pm_upd (pm_ct N 28) 7 (nV T (i + 1) (gS T (i + 1) v) v : Int)) 8 ((i + 1 : Nat) : Int))]) (M := N) lk_46_55 rfl (lay8.on (by decide) rfl) (fun h => absurd h (by decide)) rfl ?_
          refine g_aload_n lk_46_58 rfl ?_
          refine g_iload_n lk_46_59 rfl ?_
          have lay10 : Lay (Mu [(28, pm_upd (pm_upd (pm_upd (pm_ct N 28) 7 (nV T (i + 1) (gS T (i + 1) v) v : Int)) 8 ((i + 1 : Nat) : Int)) 9 (pm_and ((oC T (i + 1) v : Nat) : Int) ((ow T (i + 1) v (tR T) : Nat) : Int)))] N) := lay9.muF (l := [(28, pm_upd (pm_upd (pm_ct N 28) 7 (nV T (i + 1) (gS T (i + 1) v) v : Int)) 8 ((i + 1 : Nat) : Int))]) (a := 28) (k := 9) (z := (pm_and ((oC T (i + 1) v : Nat) : Int) ((ow T (i + 1) v (tR T) : Nat) : Int))) rfl rfl
          refine m_putfield (u := [(28, pm_upd (pm_upd (pm_ct N 28) 7 (nV T (i + 1) (gS T (i + 1) v) v : Int)) 8 ((i + 1 : Nat) : Int))]) (u' := [(28, pm_upd (pm_upd (pm_upd (pm_ct N 28) 7 (nV T (i + 1) (gS T (i + 1) v) v : Int)) 8 ((i + 1 : Nat) : Int)) 9 (pm_and ((oC T (i + 1) v : Nat) : Int) ((ow T (i + 1) v (tR T) : Nat) : Int)))]) (M := N) lk_46_60 rfl (lay9.on (by decide) rfl) (fun h => absurd h (by decide)) rfl ?_
          refine g_iinc (ls' := [(2, ((28 : Nat) : Int)), (0, (((i + 1 : Nat) : Int) + 1)), (0, (pm_and ((oC T (i + 1) v : Nat) : Int) ((ow T (i + 1) v (tR T) : Nat) : Int))), (0, (nV T (i + 1) (gS T (i + 1) v) v : Int))]) lk_46_63 rfl rfl rfl ?_
          refine g_goto (t := 7) lk_46_66 rfl ?_
          unfold gStep at e
          rw [if_pos (by omega)] at e
          refine ih (i + 1) _ _ _ (by omega) lay10 (hF.trans (Fr.mu _ _ rfl)) hM hP ?_ ?_
          · rw [e, Mu_ct]; rfl
          · intro _
            rw [e, Mu_ct]
            exact ⟨rfl, hand⟩
  show Wp (d + 2) 46 0 [(2, ((28 : Nat) : Int)), (9, 0), (9, 0), (9, 0)] [] M mc ms Q
  refine g_aload_n lk_46_0 rfl ?_
  refine g_iconst lk_46_1 ?_
  have lay1 : Lay (Mu [(28, pm_upd (pm_ct M 28) 7 0)] M) := lay0.muF (l := []) (a := 28) (k := 7) (z := 0) rfl rfl
  refine m_putfield (u := []) (u' := [(28, pm_upd (pm_ct M 28) 7 0)]) (M := M) lk_46_2 rfl (lay0.on (by decide) rfl) (fun h => absurd h (by decide)) rfl ?_
  refine g_iconst lk_46_5 ?_
  refine g_istore_n (ls' := [(2, ((28 : Nat) : Int)), (0, 1), (9, 0), (9, 0)]) lk_46_6 rfl rfl ?_
  refine loop (2 ^ tR T - 1) 0 _ _ _ (by omega) lay1 (Fr.mu _ _ rfl) hM0 hP0 ?_ (fun h => absurd rfl h)
  rw [Mu_ct]; rfl
def isV (v : Int) : Int := if 0 ≤ v ∧ v ≤ 9 then 1 else 0
theorem c_X_isValue {d mc ms : Nat} {M : pm_M} {v : Int} (hv : pm_inI v) :
    pm_E d 159 [(0, v)] M mc ms (fun ρ M' => ρ = some (0, isV v) ∧ M' = M) := by
  show Wp d 159 0 [(0, v)] [] M mc ms _
  refine g_iload_n lk_159_0 rfl ?_
  refine g_if (t := 14) lk_159_1 rfl (by first | assumption | (unfold pm_inI; omega)) (fun h1 => ?_) (fun h1 => ?_)
  · replace h1 : v < 0 := h1
    refine g_iconst lk_159_14 ?_
    refine g_ireturn lk_159_15 (fun _ => by omega) ?_
    exact ⟨by unfold isV; rw [if_neg (by omega)], rfl⟩
  · replace h1 : ¬ (v < 0) := h1
    refine g_iload_n lk_159_4 rfl ?_
    refine g_bipush lk_159_5 ?_
    refine g_icmp (t := 14) lk_159_7 rfl (by first | assumption | (unfold pm_inI; omega)) (by first | assumption | (unfold pm_inI; omega)) (fun h2 => ?_) (fun h2 => ?_)
    · replace h2 : 10 ≤ v := h2
      refine g_iconst lk_159_14 ?_
      refine g_ireturn lk_159_15 (fun _ => by omega) ?_
      exact ⟨by unfold isV; rw [if_neg (by omega)], rfl⟩
    · replace h2 : ¬ (10 ≤ v) := h2
      refine g_iconst lk_159_10 ?_
      refine g_goto (t := 15) lk_159_11 rfl ?_
      refine g_ireturn lk_159_15 (fun _ => by omega) ?_
      exact ⟨by unfold isV; rw [if_pos (by omega)], rfl⟩
theorem c_Mo_isValue {d mc ms : Nat} {M : pm_M} {v : Int} (hv : pm_inI v) :
    pm_E (d + 1) 205 [(0, v)] M mc ms (fun ρ M' => ρ = some (0, isV v) ∧ M' = M) := by
  show Wp (d + 1) 205 0 [(0, v)] [] M mc ms _
  refine g_iload_n lk_205_0 rfl ?_
  refine g_iconst lk_205_1 ?_
  refine g_bipush lk_205_2 ?_
  refine g_static (Qc := _) lk_205_4 (by decide) rfl (Nat.le_of_ble_eq_true rfl) rfl rfl (Nat.le_of_ble_eq_true rfl) (Nat.le_of_ble_eq_true rfl) (Nat.zero_le _) (Nat.zero_le _) (c_Mo_in (by assumption) (by unfold pm_inI; omega) (by unfold pm_inI; omega)) ?_
  rintro _ N1 ⟨rfl, hN1⟩
  rw [hN1]
  show Wp _ 205 7 [(0, v)] [(0, (if 0 ≤ v ∧ v ≤ 9 then (1 : Int) else 0))] M _ _ _
  refine g_ireturn lk_205_7 (fun _ => by omega) ?_
  exact ⟨rfl, rfl⟩
def sGreat (T : Tab) (v w : Int) : Int := if isV v = 0 ∨ w < 0 ∨ 2 < w then -1 else if (gAll T v.toNat (2 ^ tR T - 1)).1 = 0 then -1 else if w = 0 then ((gAll T v.toNat (2 ^ tR T - 1)).1 : Int) else if w = 1 then ((gAll T v.toNat (2 ^ tR T - 1)).2.1 : Int) else ((gAll T v.toNat (2 ^ tR T - 1)).2.2 : Int)
theorem PaAt.of {M N : pm_M} {T : Tab} {v : Nat} (h : PaAt M T v) (h1 : pm_ct N 29 = pm_ct M 29) (h2 : pm_ct N 30 = pm_ct M 30) : PaAt N T v := by
  unfold PaAt; rw [h1, h2]; exact h
theorem isV_range (v : Int) : isV v = 0 ∨ isV v = 1 := by unfold isV; split <;> simp
theorem isV_1 {v : Int} (h : ¬ isV v = 0) : 0 ≤ v ∧ v ≤ 9 := by
  unfold isV at h
  by_cases q : 0 ≤ v ∧ v ≤ 9
  · exact q
  · rw [if_neg q] at h; exact absurd rfl h
set_option maxHeartbeats 4000000 in
theorem c_X_greatest {d mc ms : Nat} {M : pm_M} (lay0 : Lay M) {T : Tab} (hT : TabOK T) (hM0 : TbAt M 24 T) {v w : Int} (hv : pm_inI v) (hw : pm_inI w) :
    pm_E (d + 4) 126 [(2, ((1 : Nat) : Int)), (0, v), (0, w)] M mc ms (fun ρ M' => ρ = some (0, sGreat T v w) ∧ Lay M' ∧ Fr sP M M') := by
  obtain ⟨Q, hQ⟩ : ∃ Q : pm_Q, Q = (fun ρ M' => ρ = some (0, sGreat T v w) ∧ Lay M' ∧ Fr sP M M') := ⟨_, rfl⟩
  rw [← hQ]
  have iv := isV_range v
  have fin : ∀ (z : Int) (N : pm_M), z = sGreat T v w → Lay N → Fr sP M N → Q (some (0, z)) N := fun z N hz h1 h2 => by rw [hQ, hz]; exact ⟨rfl, h1, h2⟩
  have k24 : ¬ isV v = 0 → ∀ N : pm_M, Lay N → Fr sP M N → pm_ct N 28 7 = ((gAll T v.toNat (2 ^ tR T - 1)).1 : Int) → ((gAll T v.toNat (2 ^ tR T - 1)).1 ≠ 0 → pm_ct N 28 8 = ((gAll T v.toNat (2 ^ tR T - 1)).2.1 : Int) ∧ pm_ct N 28 9 = ((gAll T v.toNat (2 ^ tR T - 1)).2.2 : Int)) → Wp (d + 4) 126 24 [(2, ((1 : Nat) : Int)), (0, v), (0, w)] [] N mc ms Q := by
    intro h1v N lay hF q7 q8
    have k1 := gAll_36 hT v.toNat (2 ^ tR T - 1)
    refine g_aload_n lk_126_24 rfl ?_
    refine g_getfield lk_126_25 rfl (lay.on (by decide) rfl) (v := ((28 : Nat) : Int)) (lay.rf rfl) ?_
    refine m_getfield (u := []) (M := N) lk_126_28 rfl (lay.on (by decide) rfl) (v := ((gAll T v.toNat (2 ^ tR T - 1)).1 : Int)) q7 ?_
    refine g_if (t := 36) lk_126_31 rfl (by first | assumption | (unfold pm_inI; omega)) (fun h1 => ?_) (fun h1 => ?_)
    · replace h1 : ¬ ((gAll T v.toNat (2 ^ tR T - 1)).1 : Int) = 0 := h1
      refine g_iload_n lk_126_36 rfl ?_
      refine g_tsw lk_126_37 (by first | assumption | (unfold pm_inI; omega)) (And.intro (fun h2 => ?_) (fun h2 => (And.intro (fun h3 => ?_) (fun h3 => (And.intro (fun h4 => ?_) (fun h4 => ?_))))))
      · replace h2 : w = 0 := h2
        show Wp _ 126 64 [(2, ((1 : Nat) : Int)), (0, v), (0, w)] [] N _ _ _
        refine g_aload_n lk_126_64 rfl ?_
        refine g_getfield lk_126_65 rfl (lay.on (by decide) rfl) (v := ((28 : Nat) : Int)) (lay.rf rfl) ?_
        refine m_getfield (u := []) (M := N) lk_126_68 rfl (lay.on (by decide) rfl) (v := ((gAll T v.toNat (2 ^ tR T - 1)).1 : Int)) q7 ?_
        refine g_ireturn lk_126_71 (fun h => absurd h (by decide)) ?_
        refine fin _ _ ?_ lay hF
        unfold sGreat
        rw [if_neg (by omega), if_neg (by omega), if_pos (by omega)]
      · replace h3 : w = 1 := h3
        show Wp _ 126 72 [(2, ((1 : Nat) : Int)), (0, v), (0, w)] [] N _ _ _
        refine g_aload_n lk_126_72 rfl ?_
        refine g_getfield lk_126_73 rfl (lay.on (by decide) rfl) (v := ((28 : Nat) : Int)) (lay.rf rfl) ?_
        refine m_getfield (u := []) (M := N) lk_126_76 rfl (lay.on (by decide) rfl) (v := pm_ct N 28 8) rfl ?_
        refine g_ireturn lk_126_79 (fun h => absurd h (by decide)) ?_
        refine fin _ _ ?_ lay hF
        unfold sGreat
        rw [if_neg (by omega), if_neg (by omega), if_neg (by omega), if_pos (by omega)]
        exact (q8 (by omega)).1
      · replace h4 : w = 2 := h4
        show Wp _ 126 80 [(2, ((1 : Nat) : Int)), (0, v), (0, w)] [] N _ _ _
        refine g_aload_n lk_126_80 rfl ?_
        refine g_getfield lk_126_81 rfl (lay.on (by decide) rfl) (v := ((28 : Nat) : Int)) (lay.rf rfl) ?_
        refine m_getfield (u := []) (M := N) lk_126_84 rfl (lay.on (by decide) rfl) (v := pm_ct N 28 9) rfl ?_
        refine g_ireturn lk_126_87 (fun h => absurd h (by decide)) ?_
        refine fin _ _ ?_ lay hF
        unfold sGreat
        rw [if_neg (by omega), if_neg (by omega), if_neg (by omega), if_neg (by omega)]
        exact (q8 (by omega)).2
      · show Wp _ 126 88 [(2, ((1 : Nat) : Int)), (0, v), (0, w)] [] N _ _ _
        replace h2 : ¬ w = 0 := h2
        replace h3 : ¬ w = 1 := h3
        replace h4 : ¬ w = 2 := h4
        refine g_iconst lk_126_88 ?_
        refine g_ireturn lk_126_89 (fun h => absurd h (by decide)) ?_
        refine fin _ _ ?_ lay hF
        unfold sGreat
        rw [if_pos (by omega)]
    · replace h1 : ¬ (¬ ((gAll T v.toNat (2 ^ tR T - 1)).1 : Int) = 0) := h1
      refine g_iconst lk_126_34 ?_
      refine g_ireturn lk_126_35 (fun h => absurd h (by decide)) ?_
      refine fin _ _ ?_ lay hF
      unfold sGreat
      split
      · rfl
      · rw [if_pos (by omega)]
  have k17 : ¬ isV v = 0 → ∀ N : pm_M, Lay N → Fr sP M N → PaAt N T v.toNat → Wp (d + 4) 126 17 [(2, ((1 : Nat) : Int)), (0, v), (0, w)] [] N mc ms Q := by
    intro h1v N lay hF hP
    refine g_aload_n lk_126_17 rfl ?_
    refine g_getfield lk_126_18 rfl (lay.on (by decide) rfl) (v := ((28 : Nat) : Int)) (lay.rf rfl) ?_
    refine g_virtual (p := 28) (Qc := _) lk_126_21 rfl (Nat.le_of_ble_eq_true rfl) rfl rfl (lay.on (by decide) rfl) (Nat.le_of_ble_eq_true rfl) (Nat.le_of_ble_eq_true rfl) (Nat.zero_le _) (Nat.zero_le _) (c_Patches_findGreatest (d := d + 1) lay hT (hM0.fr hF (by decide) (by decide)) hP) ?_
    rintro _ N' ⟨rfl, lay', hF', q7, q8⟩
    exact k24 h1v N' lay' (hF.trans hF') q7 q8
  show Wp (d + 4) 126 0 [(2, ((1 : Nat) : Int)), (0, v), (0, w)] [] M mc ms Q
  refine g_iload_n lk_126_0 rfl ?_
  refine g_static (Qc := _) lk_126_1 (by decide) rfl (Nat.le_of_ble_eq_true rfl) rfl rfl (Nat.le_of_ble_eq_true rfl) (Nat.le_of_ble_eq_true rfl) (Nat.zero_le _) (Nat.zero_le _) (c_X_isValue (by assumption)) ?_
  rintro _ N1 ⟨rfl, hN1⟩
  rw [hN1]
  show Wp _ 126 4 [(2, ((1 : Nat) : Int)), (0, v), (0, w)] [(0, (isV v))] M _ _ _
  refine g_if (t := 9) lk_126_4 rfl (by (unfold pm_inI; omega)) (fun h2 => ?_) (fun h2 => ?_)
  · replace h2 : ¬ (isV v) = 0 := h2
    refine g_aload_n lk_126_9 rfl ?_
    refine g_getfield lk_126_10 rfl (lay0.on (by decide) rfl) (v := ((28 : Nat) : Int)) (lay0.rf rfl) ?_
    refine g_iload_n lk_126_13 rfl ?_
    obtain ⟨v1, v2⟩ := isV_1 h2
    obtain ⟨u, rfl⟩ := Int.eq_ofNat_of_zero_le v1
    refine g_virtual (p := 28) (Qc := _) lk_126_14 rfl (Nat.le_of_ble_eq_true rfl) rfl rfl (lay0.on (by decide) rfl) (Nat.le_of_ble_eq_true rfl) (Nat.le_of_ble_eq_true rfl) (Nat.zero_le _) (Nat.zero_le _) (c_Patches_take (d := d) lay0 hT hM0 (v := u) (by omega)) ?_
    rintro _ N' ⟨rfl, f, g, hN, lay', hP⟩
    exact k17 h2 N' lay' (by rw [hN]; exact Fr.mu _ _ rfl) hP
  · replace h2 : ¬ (¬ (isV v) = 0) := h2
    refine g_iconst lk_126_7 ?_
    refine g_ireturn lk_126_8 (fun h => absurd h (by decide)) ?_
    refine fin _ _ ?_ lay0 (Fr.refl _ _)
    unfold sGreat
    rw [if_pos (by omega)]
