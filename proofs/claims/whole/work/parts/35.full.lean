/-! ===== full areas ===== -/
theorem popL_0 {x : Nat} (hx : x < 68719476736) (h : popL x = 0) : x = 0 := by
  apply Nat.eq_of_testBit_eq
  intro i
  rw [Nat.zero_testBit]
  by_cases hi : i < 36
  · cases hb : x.testBit i with
    | false => rfl
    | true =>
      have : sm (fun _ => 0) 36 < sm (fun i => bt x i) 36 := sm_lt (fun _ _ => Nat.zero_le _) i hi (by unfold bt; rw [if_pos hb]; omega)
      rw [sm_zero] at this
      unfold popL at h
      omega
  · exact Nat.testBit_lt_two_pow (Nat.lt_of_lt_of_le hx (Nat.pow_le_pow_right (n := 2) (by omega) (by omega : 36 ≤ i)))
theorem popL_z : popL 0 = 0 := by decide +kernel
theorem wL_0 {T : Tab} (hT : TabOK T) (rs cs v : Nat) : wL T rs cs v (tR T) = 0 ↔ nV T rs cs v = 0 := by
  rw [← popL_wL hT]
  constructor
  · intro h; rw [h]; exact popL_z
  · exact popL_0 (wL_36 hT rs cs v)
def isFull (T : Tab) (v rs : Nat) : Bool := decide (0 < nV T rs (oC T rs v) v) && decide (oR T (oC T rs v) v (tR T) = rs)
def fL (T : Tab) (v : Nat) : Nat → List Nat
  | 0 => []
  | n + 1 => if isFull T v (n + 1) then fL T v n ++ [n + 1] else fL T v n
theorem fL_len (T : Tab) (v : Nat) : ∀ n, (fL T v n).length ≤ n
  | 0 => Nat.le_refl _
  | n + 1 => by
    have := fL_len T v n
    show (if isFull T v (n + 1) then fL T v n ++ [n + 1] else fL T v n).length ≤ n + 1
    split
    · rw [List.length_append]; show _ + 1 ≤ _; omega
    · omega
theorem fL_lt (T : Tab) (v : Nat) : ∀ n x, x ∈ fL T v n → 1 ≤ x ∧ x ≤ n
  | 0, x, h => by cases h
  | n + 1, x, h => by
    have h : x ∈ (if isFull T v (n + 1) then fL T v n ++ [n + 1] else fL T v n) := h
    split at h
    · rw [List.mem_append, List.mem_singleton] at h
      rcases h with h | h
      · have := fL_lt T v n x h; omega
      · omega
    · have := fL_lt T v n x h; omega
theorem fL_pos {T : Tab} {v n : Nat} (h : isFull T v (n + 1) = true) : fL T v (n + 1) = fL T v n ++ [n + 1] := by
  show (if isFull T v (n + 1) then fL T v n ++ [n + 1] else fL T v n) = _; rw [if_pos h]
theorem fL_neg {T : Tab} {v n : Nat} (h : ¬ isFull T v (n + 1) = true) : fL T v (n + 1) = fL T v n := by
  show (if isFull T v (n + 1) then fL T v n ++ [n + 1] else fL T v n) = _; rw [if_neg h]
theorem getD_app_lt {l : List Nat} {x k : Nat} (h : k < l.length) : (l ++ [x]).getD k 0 = l.getD k 0 := by
  simp [List.getD, List.getElem?_append_left h]
theorem getD_app_eq {l : List Nat} {x : Nat} : (l ++ [x]).getD l.length 0 = x := by
  simp [List.getD]
/-- the class's rows of full areas -/
def FuAt (M : pm_M) (T : Tab) (v n : Nat) : Prop := pm_ct M 28 6 = ((fL T v n).length : Int) ∧ ∀ k, k < (fL T v n).length → pm_ct M 31 k = ((fL T v n).getD k 0 : Int) ∧ pm_ct M 32 k = ((oC T ((fL T v n).getD k 0) v : Nat) : Int) ∧ pm_ct M 33 k = ((wL T ((fL T v n).getD k 0) (oC T ((fL T v n).getD k 0) v) v (tR T) : Nat) : Int)
theorem pm_cmp0 {x : Nat} (hx : x < 9223372036854775808) : pm_cmp (pm_wL (x : Int)) (pm_wL 0) = if x = 0 then 0 else 1 := by
  rw [pm_wL_of (by unfold pm_inL; omega), pm_wL_of (by unfold pm_inL; omega)]
  unfold pm_cmp
  by_cases h : x = 0
  · rw [if_neg (by omega), if_pos (by omega), if_pos h]
  · rw [if_pos (by omega), if_neg h]
set_option maxHeartbeats 8000000 in
theorem c_Patches_findFull {d mc ms : Nat} {M : pm_M} (lay0 : Lay M) {T : Tab} (hT : TabOK T) (hM0 : TbAt M 24 T) {v : Nat} (hP0 : PaAt M T v) :
    pm_E (d + 2) 48 [(2, ((28 : Nat) : Int))] M mc ms (fun ρ M' => ρ = none ∧ Lay M' ∧ Fr sP M M' ∧ PaAt M' T v ∧ FuAt M' T v (2 ^ tR T - 1)) := by
  obtain ⟨Q, hQ⟩ : ∃ Q : pm_Q, Q = (fun ρ M' => ρ = none ∧ Lay M' ∧ Fr sP M M' ∧ PaAt M' T v ∧ FuAt M' T v (2 ^ tR T - 1)) := ⟨_, rfl⟩
  rw [← hQ]
  have ht : (24 : Nat) = 4 ∨ (24 : Nat) = 24 := Or.inr rfl
  have hR := tR_64 hT
  have loop : ∀ (n i : Nat) (v2 v3 v4 : pm_V) (N : pm_M), i + n = 2 ^ tR T - 1 → Lay N → Fr sP M N → TbAt N 24 T → PaAt N T v → FuAt N T v i → Wp (d + 2) 48 7 [(2, ((28 : Nat) : Int)), (0, ((i + 1 : Nat) : Int)), v2, v3, v4] [] N mc ms Q := by
    intro n
    induction n with
    | zero =>
      intro i v2 v3 v4 N hi lay hF hM hP hU
      have ei : i = 2 ^ tR T - 1 := by omega
      refine g_iload_n lk_48_7 rfl ?_
      refine g_aload_n lk_48_8 rfl ?_
      refine g_getfield lk_48_9 rfl (lay.on (by decide) rfl) (v := ((24 : Nat) : Int)) (lay.rf rfl) ?_
      refine g_virtual (p := 24) (Qc := _) lk_48_12 rfl (Nat.le_of_ble_eq_true rfl) rfl rfl (lay.on (by decide) rfl) (Nat.le_of_ble_eq_true rfl) (Nat.le_of_ble_eq_true rfl) (Nat.zero_le _) (Nat.zero_le _) (c_Table_allRows lay ht hT hM) ?_
      rintro _ N1 ⟨rfl, hN1⟩
      rw [hN1]
      show Wp _ 48 15 [(2, ((28 : Nat) : Int)), (0, ((i + 1 : Nat) : Int)), v2, v3, v4] [(0, ((2 ^ tR T - 1 : Nat) : Int)), (0, ((i + 1 : Nat) : Int))] N _ _ _
      refine g_icmp (t := 101) lk_48_15 rfl (by first | (unfold pm_inI; omega) | exact pm_and_in _ _ | exact pm_shr_in _ _ | exact pm_or_in _ _ | exact pm_xor_in _ _ | exact pm_shl_in _ _ | exact pm_cmp_in _ _ | exact pm_b8_in _ | (unfold pm_inI; split <;> omega)) (by first | (unfold pm_inI; omega) | exact pm_and_in _ _ | exact pm_shr_in _ _ | exact pm_or_in _ _ | exact pm_xor_in _ _ | exact pm_shl_in _ _ | exact pm_cmp_in _ _ | exact pm_b8_in _ | (unfold pm_inI; split <;> omega)) (fun h2 => ?_) (fun h2 => ?_)
      · replace h2 : ((2 ^ tR T - 1 : Nat) : Int) < ((i + 1 : Nat) : Int) := h2
        refine g_return lk_48_101 ?_
        rw [hQ, ← ei]
        exact ⟨rfl, lay, hF, hP, hU⟩
      · replace h2 : ¬ (((2 ^ tR T - 1 : Nat) : Int) < ((i + 1 : Nat) : Int)) := h2
        omega
    | succ n ih =>
      intro i v2 v3 v4 N hi lay hF hM hP hU
      have k0 := fL_len T v i
      have k1 := oC_64 hT (i + 1) v
      have k4 := wL_36 hT (i + 1) (oC T (i + 1) v) v
      have k5 := wL_0 hT (i + 1) (oC T (i + 1) v) v
      have k6 : oR T (oC T (i + 1) v) v (tR T) < 64 := lt_64_of hT.1.2 (oR_lt _ _ _ _)
      have kc := pm_cmp0 (x := wL T (i + 1) (oC T (i + 1) v) v (tR T)) (by omega)
      obtain ⟨q6, qk⟩ := id hU
      refine g_iload_n lk_48_7 rfl ?_
      refine g_aload_n lk_48_8 rfl ?_
      refine g_getfield lk_48_9 rfl (lay.on (by decide) rfl) (v := ((24 : Nat) : Int)) (lay.rf rfl) ?_
      refine g_virtual (p := 24) (Qc := _) lk_48_12 rfl (Nat.le_of_ble_eq_true rfl) rfl rfl (lay.on (by decide) rfl) (Nat.le_of_ble_eq_true rfl) (Nat.le_of_ble_eq_true rfl) (Nat.zero_le _) (Nat.zero_le _) (c_Table_allRows lay ht hT hM) ?_
      rintro _ N1 ⟨rfl, hN1⟩
      rw [hN1]
      show Wp _ 48 15 [(2, ((28 : Nat) : Int)), (0, ((i + 1 : Nat) : Int)), v2, v3, v4] [(0, ((2 ^ tR T - 1 : Nat) : Int)), (0, ((i + 1 : Nat) : Int))] N _ _ _
      refine g_icmp (t := 101) lk_48_15 rfl (by first | (unfold pm_inI; omega) | exact pm_and_in _ _ | exact pm_shr_in _ _ | exact pm_or_in _ _ | exact pm_xor_in _ _ | exact pm_shl_in _ _ | exact pm_cmp_in _ _ | exact pm_b8_in _ | (unfold pm_inI; split <;> omega)) (by first | (unfold pm_inI; omega) | exact pm_and_in _ _ | exact pm_shr_in _ _ | exact pm_or_in _ _ | exact pm_xor_in _ _ | exact pm_shl_in _ _ | exact pm_cmp_in _ _ | exact pm_b8_in _ | (unfold pm_inI; split <;> omega)) (fun h2 => ?_) (fun h2 => ?_)
      · replace h2 : ((2 ^ tR T - 1 : Nat) : Int) < ((i + 1 : Nat) : Int) := h2
        refine g_return lk_48_101 ?_
        omega
      · replace h2 : ¬ (((2 ^ tR T - 1 : Nat) : Int) < ((i + 1 : Nat) : Int)) := h2
        refine g_aload_n lk_48_18 rfl ?_
        refine m_getfield (u := []) (M := N) lk_48_19 rfl (lay.on (by decide) rfl) (v := ((fL T v i).length : Int)) q6 ?_
        refine g_bipush lk_48_22 ?_
        refine g_icmp (t := 101) lk_48_24 rfl (by first | (unfold pm_inI; omega) | exact pm_and_in _ _ | exact pm_shr_in _ _ | exact pm_or_in _ _ | exact pm_xor_in _ _ | exact pm_shl_in _ _ | exact pm_cmp_in _ _ | exact pm_b8_in _ | (unfold pm_inI; split <;> omega)) (by first | (unfold pm_inI; omega) | exact pm_and_in _ _ | exact pm_shr_in _ _ | exact pm_or_in _ _ | exact pm_xor_in _ _ | exact pm_shl_in _ _ | exact pm_cmp_in _ _ | exact pm_b8_in _ | (unfold pm_inI; split <;> omega)) (fun h3 => ?_) (fun h3 => ?_)
        · replace h3 : 64 ≤ ((fL T v i).length : Int) := h3
          refine g_return lk_48_101 ?_
          omega
        · replace h3 : ¬ (64 ≤ ((fL T v i).length : Int)) := h3
          refine g_aload_n lk_48_27 rfl ?_
          refine g_iload_n lk_48_28 rfl ?_
          refine g_virtual (p := 28) (Qc := _) lk_48_29 rfl (Nat.le_of_ble_eq_true rfl) rfl rfl (lay.on (by decide) rfl) (Nat.le_of_ble_eq_true rfl) (Nat.le_of_ble_eq_true rfl) (Nat.zero_le _) (Nat.zero_le _) (c_Patches_openColumns lay hT hM hP (by omega)) ?_
          rintro _ N4 ⟨rfl, hN4⟩
          rw [hN4]
          show Wp _ 48 32 [(2, ((28 : Nat) : Int)), (0, ((i + 1 : Nat) : Int)), v2, v3, v4] [(0, ((oC T (i + 1) v : Nat) : Int))] N _ _ _
          refine g_istore_n (ls' := [(2, ((28 : Nat) : Int)), (0, ((i + 1 : Nat) : Int)), (0, ((oC T (i + 1) v : Nat) : Int)), v3, v4]) lk_48_32 rfl rfl ?_
          refine g_aload_n lk_48_33 rfl ?_
          refine g_iload_n lk_48_34 rfl ?_
          refine g_iload_n lk_48_35 rfl ?_
          refine g_virtual (p := 28) (Qc := _) lk_48_36 rfl (Nat.le_of_ble_eq_true rfl) rfl rfl (lay.on (by decide) rfl) (Nat.le_of_ble_eq_true rfl) (Nat.le_of_ble_eq_true rfl) (Nat.zero_le _) (Nat.zero_le _) (c_Patches_ownCells lay hT hM hP (by omega) k1) ?_
          rintro _ N5 ⟨rfl, hN5⟩
          rw [hN5]
          show Wp _ 48 39 [(2, ((28 : Nat) : Int)), (0, ((i + 1 : Nat) : Int)), (0, ((oC T (i + 1) v : Nat) : Int)), v3, v4] [(1, ((wL T (i + 1) (oC T (i + 1) v) v (tR T) : Nat) : Int))] N _ _ _
          refine g_lstore_n (ls' := [(2, ((28 : Nat) : Int)), (0, ((i + 1 : Nat) : Int)), (0, ((oC T (i + 1) v : Nat) : Int)), (1, ((wL T (i + 1) (oC T (i + 1) v) v (tR T) : Nat) : Int)), (9, 0)]) lk_48_39 rfl rfl ?_
          refine g_lload_n lk_48_40 rfl ?_
          refine g_lconst lk_48_41 ?_
          refine g_lcmp lk_48_42 ?_
          refine g_if (t := 95) lk_48_43 rfl (by first | (unfold pm_inI; omega) | exact pm_and_in _ _ | exact pm_shr_in _ _ | exact pm_or_in _ _ | exact pm_xor_in _ _ | exact pm_shl_in _ _ | exact pm_cmp_in _ _ | exact pm_b8_in _ | (unfold pm_inI; split <;> omega)) (fun h6 => ?_) (fun h6 => ?_)
          · replace h6 : (pm_cmp (pm_wL ((wL T (i + 1) (oC T (i + 1) v) v (tR T) : Nat) : Int)) (pm_wL 0)) = 0 := h6
            refine g_iinc (ls' := [(2, ((28 : Nat) : Int)), (0, (((i + 1 : Nat) : Int) + 1)), (0, ((oC T (i + 1) v : Nat) : Int)), (1, ((wL T (i + 1) (oC T (i + 1) v) v (tR T) : Nat) : Int)), (9, 0)]) lk_48_95 rfl rfl rfl ?_
            refine g_goto (t := 7) lk_48_98 rfl ?_
            rw [kc] at h6
            have e : fL T v (i + 1) = fL T v i := fL_neg (by unfold isFull; split at h6 <;> simp_all)
            exact ih (i + 1) _ _ _ N (by omega) lay hF hM hP (by unfold FuAt; rw [e]; exact hU)
          · replace h6 : ¬ ((pm_cmp (pm_wL ((wL T (i + 1) (oC T (i + 1) v) v (tR T) : Nat) : Int)) (pm_wL 0)) = 0) := h6
            refine g_aload_n lk_48_46 rfl ?_
            refine g_iload_n lk_48_47 rfl ?_
            refine g_virtual (p := 28) (Qc := _) lk_48_48 rfl (Nat.le_of_ble_eq_true rfl) rfl rfl (lay.on (by decide) rfl) (Nat.le_of_ble_eq_true rfl) (Nat.le_of_ble_eq_true rfl) (Nat.zero_le _) (Nat.zero_le _) (c_Patches_openRows lay hT hM hP k1) ?_
            rintro _ N7 ⟨rfl, hN7⟩
            rw [hN7]
            show Wp _ 48 51 [(2, ((28 : Nat) : Int)), (0, ((i + 1 : Nat) : Int)), (0, ((oC T (i + 1) v : Nat) : Int)), (1, ((wL T (i + 1) (oC T (i + 1) v) v (tR T) : Nat) : Int)), (9, 0)] [(0, ((oR T (oC T (i + 1) v) v (tR T) : Nat) : Int))] N _ _ _
            refine g_iload_n lk_48_51 rfl ?_
            refine g_icmp (t := 95) lk_48_52 rfl (by first | (unfold pm_inI; omega) | exact pm_and_in _ _ | exact pm_shr_in _ _ | exact pm_or_in _ _ | exact pm_xor_in _ _ | exact pm_shl_in _ _ | exact pm_cmp_in _ _ | exact pm_b8_in _ | (unfold pm_inI; split <;> omega)) (by first | (unfold pm_inI; omega) | exact pm_and_in _ _ | exact pm_shr_in _ _ | exact pm_or_in _ _ | exact pm_xor_in _ _ | exact pm_shl_in _ _ | exact pm_cmp_in _ _ | exact pm_b8_in _ | (unfold pm_inI; split <;> omega)) (fun h8 => ?_) (fun h8 => ?_)
            · replace h8 : ¬ ((oR T (oC T (i + 1) v) v (tR T) : Nat) : Int) = ((i + 1 : Nat) : Int) := h8
              refine g_iinc (ls' := [(2, ((28 : Nat) : Int)), (0, (((i + 1 : Nat) : Int) + 1)), (0, ((oC T (i + 1) v : Nat) : Int)), (1, ((wL T (i + 1) (oC T (i + 1) v) v (tR T) : Nat) : Int)), (9, 0)]) lk_48_95 rfl rfl rfl ?_
              refine g_goto (t := 7) lk_48_98 rfl ?_
              rw [kc] at h6
              have e : fL T v (i + 1) = fL T v i := fL_neg (by unfold isFull; simp; omega)
              exact ih (i + 1) _ _ _ N (by omega) lay hF hM hP (by unfold FuAt; rw [e]; exact hU)
            · replace h8 : ¬ (¬ ((oR T (oC T (i + 1) v) v (tR T) : Nat) : Int) = ((i + 1 : Nat) : Int)) := h8
              refine g_aload_n lk_48_55 rfl ?_
              refine g_getfield lk_48_56 rfl (lay.on (by decide) rfl) (v := ((31 : Nat) : Int)) (lay.rf rfl) ?_
              refine g_aload_n lk_48_59 rfl ?_
              refine m_getfield (u := []) (M := N) lk_48_60 rfl (lay.on (by decide) rfl) (v := ((fL T v i).length : Int)) q6 ?_
              refine g_iload_n lk_48_63 rfl ?_
              have lay9 : Lay (Mu [(31, pm_upd (pm_ct N 31) (((fL T v i).length : Int).toNat) ((i + 1 : Nat) : Int))] N) := lay.muA (l := []) (a := 31) (f := pm_upd (pm_ct N 31) (((fL T v i).length : Int).toNat) ((i + 1 : Nat) : Int)) rfl rfl
              refine m_iastore (u := []) (u' := [(31, pm_upd (pm_ct N 31) (((fL T v i).length : Int).toNat) ((i + 1 : Nat) : Int))]) (M := N) lk_48_64 (lay.ay (by decide) rfl) (by omega) (j := ((fL T v i).length : Int).toNat) (by omega) rfl ?_
              refine g_aload_n lk_48_65 rfl ?_
              refine g_getfield lk_48_66 rfl (lay9.on (by decide) rfl) (v := ((32 : Nat) : Int)) (lay9.rf rfl) ?_
              refine g_aload_n lk_48_69 rfl ?_
              refine m_getfield (u := [(31, pm_upd (pm_ct N 31) (((fL T v i).length : Int).toNat) ((i + 1 : Nat) : Int))]) (M := N) lk_48_70 rfl (lay9.on (by decide) rfl) (v := ((fL T v i).length : Int)) q6 ?_
              refine g_iload_n lk_48_73 rfl ?_
              have lay10 : Lay (Mu [(31, pm_upd (pm_ct N 31) (((fL T v i).length : Int).toNat) ((i + 1 : Nat) : Int)), (32, pm_upd (pm_ct N 32) (((fL T v i).length : Int).toNat) ((oC T (i + 1) v : Nat) : Int))] N) := lay9.muA (l := [(31, pm_upd (pm_ct N 31) (((fL T v i).length : Int).toNat) ((i + 1 : Nat) : Int))]) (a := 32) (f := pm_upd (pm_ct N 32) (((fL T v i).length : Int).toNat) ((oC T (i + 1) v : Nat) : Int)) rfl rfl
              refine m_iastore (u := [(31, pm_upd (pm_ct N 31) (((fL T v i).length : Int).toNat) ((i + 1 : Nat) : Int))]) (u' := [(31, pm_upd (pm_ct N 31) (((fL T v i).length : Int).toNat) ((i + 1 : Nat) : Int)), (32, pm_upd (pm_ct N 32) (((fL T v i).length : Int).toNat) ((oC T (i + 1) v : Nat) : Int))]) (M := N) lk_48_74 (lay9.ay (by decide) rfl) (by omega) (j := ((fL T v i).length : Int).toNat) (by omega) rfl ?_
              refine g_aload_n lk_48_75 rfl ?_
              refine g_getfield lk_48_76 rfl (lay10.on (by decide) rfl) (v := ((33 : Nat) : Int)) (lay10.rf rfl) ?_
              refine g_aload_n lk_48_79 rfl ?_
              refine m_getfield (u := [(31, pm_upd (pm_ct N 31) (((fL T v i).length : Int).toNat) ((i + 1 : Nat) : Int)), (32, pm_upd (pm_ct N 32) (((fL T v i).length : Int).toNat) ((oC T (i + 1) v : Nat) : Int))]) (M := N) lk_48_80 rfl (lay10.on (by decide) rfl) (v := ((fL T v i).length : Int)) q6 ?_
              refine g_lload_n lk_48_83 rfl ?_
              have lay11 : Lay (Mu [(31, pm_upd (pm_ct N 31) (((fL T v i).length : Int).toNat) ((i + 1 : Nat) : Int)), (32, pm_upd (pm_ct N 32) (((fL T v i).length : Int).toNat) ((oC T (i + 1) v : Nat) : Int)), (33, pm_upd (pm_ct N 33) (((fL T v i).length : Int).toNat) ((wL T (i + 1) (oC T (i + 1) v) v (tR T) : Nat) : Int))] N) := lay10.muA (l := [(31, pm_upd (pm_ct N 31) (((fL T v i).length : Int).toNat) ((i + 1 : Nat) : Int)), (32, pm_upd (pm_ct N 32) (((fL T v i).length : Int).toNat) ((oC T (i + 1) v : Nat) : Int))]) (a := 33) (f := pm_upd (pm_ct N 33) (((fL T v i).length : Int).toNat) ((wL T (i + 1) (oC T (i + 1) v) v (tR T) : Nat) : Int)) rfl rfl
              refine m_lastore (u := [(31, pm_upd (pm_ct N 31) (((fL T v i).length : Int).toNat) ((i + 1 : Nat) : Int)), (32, pm_upd (pm_ct N 32) (((fL T v i).length : Int).toNat) ((oC T (i + 1) v : Nat) : Int))]) (u' := [(31, pm_upd (pm_ct N 31) (((fL T v i).length : Int).toNat) ((i + 1 : Nat) : Int)), (32, pm_upd (pm_ct N 32) (((fL T v i).length : Int).toNat) ((oC T (i + 1) v : Nat) : Int)), (33, pm_upd (pm_ct N 33) (((fL T v i).length : Int).toNat) ((wL T (i + 1) (oC T (i + 1) v) v (tR T) : Nat) : Int))]) (M := N) lk_48_84 (lay10.ay (by decide) rfl) (by omega) (j := ((fL T v i).length : Int).toNat) (by omega) rfl ?_
              refine g_aload_n lk_48_85 rfl ?_
              refine g_dup lk_48_86 rfl ?_
              refine m_getfield (u := [(31, pm_upd (pm_ct N 31) (((fL T v i).length : Int).toNat) ((i + 1 : Nat) : Int)), (32, pm_upd (pm_ct N 32) (((fL T v i).length : Int).toNat) ((oC T (i + 1) v : Nat) : Int)), (33, pm_upd (pm_ct N 33) (((fL T v i).length : Int).toNat) ((wL T (i + 1) (oC T (i + 1) v) v (tR T) : Nat) : Int))]) (M := N) lk_48_87 rfl (lay11.on (by decide) rfl) (v := ((fL T v i).length : Int)) q6 ?_
              refine g_iconst lk_48_90 ?_
              refine g_iadd lk_48_91 ?_
              have lay12 : Lay (Mu [(31, pm_upd (pm_ct N 31) (((fL T v i).length : Int).toNat) ((i + 1 : Nat) : Int)), (32, pm_upd (pm_ct N 32) (((fL T v i).length : Int).toNat) ((oC T (i + 1) v : Nat) : Int)), (33, pm_upd (pm_ct N 33) (((fL T v i).length : Int).toNat) ((wL T (i + 1) (oC T (i + 1) v) v (tR T) : Nat) : Int)), (28, pm_upd (pm_ct N 28) 6 (((fL T v i).length : Int) + 1))] N) := lay11.muF (l := [(31, pm_upd (pm_ct N 31) (((fL T v i).length : Int).toNat) ((i + 1 : Nat) : Int)), (32, pm_upd (pm_ct N 32) (((fL T v i).length : Int).toNat) ((oC T (i + 1) v : Nat) : Int)), (33, pm_upd (pm_ct N 33) (((fL T v i).length : Int).toNat) ((wL T (i + 1) (oC T (i + 1) v) v (tR T) : Nat) : Int))]) (a := 28) (k := 6) (z := (((fL T v i).length : Int) + 1)) rfl rfl
              refine m_putfield (u := [(31, pm_upd (pm_ct N 31) (((fL T v i).length : Int).toNat) ((i + 1 : Nat) : Int)), (32, pm_upd (pm_ct N 32) (((fL T v i).length : Int).toNat) ((oC T (i + 1) v : Nat) : Int)), (33, pm_upd (pm_ct N 33) (((fL T v i).length : Int).toNat) ((wL T (i + 1) (oC T (i + 1) v) v (tR T) : Nat) : Int))]) (u' := [(31, pm_upd (pm_ct N 31) (((fL T v i).length : Int).toNat) ((i + 1 : Nat) : Int)), (32, pm_upd (pm_ct N 32) (((fL T v i).length : Int).toNat) ((oC T (i + 1) v : Nat) : Int)), (33, pm_upd (pm_ct N 33) (((fL T v i).length : Int).toNat) ((wL T (i + 1) (oC T (i + 1) v) v (tR T) : Nat) : Int)), (28, pm_upd (pm_ct N 28) 6 (((fL T v i).length : Int) + 1))]) (M := N) lk_48_92 rfl (lay11.on (by decide) rfl) (fun h => absurd h (by decide)) rfl ?_
              refine g_iinc (ls' := [(2, ((28 : Nat) : Int)), (0, (((i + 1 : Nat) : Int) + 1)), (0, ((oC T (i + 1) v : Nat) : Int)), (1, ((wL T (i + 1) (oC T (i + 1) v) v (tR T) : Nat) : Int)), (9, 0)]) lk_48_95 rfl rfl rfl ?_
              refine g_goto (t := 7) lk_48_98 rfl ?_
              rw [kc] at h6
              have e : fL T v (i + 1) = fL T v i ++ [i + 1] := fL_pos (by unfold isFull; split at h6 <;> simp_all <;> omega)
              refine ih (i + 1) _ _ _ _ (by omega) lay12 (hF.trans (Fr.mu _ _ rfl)) hM hP ?_
              unfold FuAt
              rw [e, List.length_append]
              refine ⟨?_, fun k hk => ?_⟩
              · rw [Mu_ct]; rfl
              · replace hk : k < (fL T v i).length + 1 := hk
                rw [Mu_ct, Mu_ct, Mu_ct]
                show pm_upd (pm_ct N 31) (fL T v i).length _ k = _ ∧ pm_upd (pm_ct N 32) (fL T v i).length _ k = _ ∧ pm_upd (pm_ct N 33) (fL T v i).length _ k = _
                unfold pm_upd
                by_cases h : k = (fL T v i).length
                · rw [if_pos h, if_pos h, if_pos h, h, getD_app_eq]; exact ⟨rfl, rfl, rfl⟩
                · rw [if_neg h, if_neg h, if_neg h, getD_app_lt (by omega)]; exact qk k (by omega)
  show Wp (d + 2) 48 0 [(2, ((28 : Nat) : Int)), (9, 0), (9, 0), (9, 0), (9, 0)] [] M mc ms Q
  refine g_aload_n lk_48_0 rfl ?_
  refine g_iconst lk_48_1 ?_
  have lay1 : Lay (Mu [(28, pm_upd (pm_ct M 28) 6 0)] M) := lay0.muF (l := []) (a := 28) (k := 6) (z := 0) rfl rfl
  refine m_putfield (u := []) (u' := [(28, pm_upd (pm_ct M 28) 6 0)]) (M := M) lk_48_2 rfl (lay0.on (by decide) rfl) (fun h => absurd h (by decide)) rfl ?_
  refine g_iconst lk_48_5 ?_
  refine g_istore_n (ls' := [(2, ((28 : Nat) : Int)), (0, 1), (9, 0), (9, 0), (9, 0)]) lk_48_6 rfl rfl ?_
  refine loop (2 ^ tR T - 1) 0 _ _ _ _ (by omega) lay1 (Fr.mu _ _ rfl) hM0 hP0 ⟨?_, fun k hk => absurd hk (Nat.not_lt_zero k)⟩
  rw [Mu_ct]; rfl
