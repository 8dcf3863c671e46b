/-! ===== the model's greatest area: all columns gone through ===== -/
theorem sm_lt {f g : Nat → Nat} : ∀ {n : Nat}, (∀ i, i < n → f i ≤ g i) → ∀ k, k < n → f k < g k → sm f n < sm g n
  | 0, _, k, hk, _ => absurd hk (by omega)
  | n + 1, h, k, hk, hl => by
    have h0 : sm f n ≤ sm g n := sm_le (fun i hi => h i (by omega))
    have h1 := h n (by omega)
    show sm f n + f n < sm g n + g n
    by_cases e : k = n
    · subst e; omega
    · have := sm_lt (fun i hi => h i (by omega : i < n + 1)) k (by omega : k < n) hl
      omega
theorem dv_1 (T : Tab) (rs cs v r c : Nat) : dv T rs cs v r c ≤ 1 := by unfold dv; split <;> omega
/-- a cell of the value in allowed columns lies in gS -/
theorem gS_has {T : Tab} (hT : TabOK T) {rs v cs : Nat} (hs : sDif cs (oC T rs v) = 0) {r c : Nat} (hr : r < tR T) (hc : c < tC T) (h : dv T rs cs v r c = 1) : dv T rs (gS T rs v) v r c = 1 := by
  unfold dv at h ⊢
  by_cases q : (rs.testBit r && cs.testBit c && tX T (6 * r + c) == v) = true
  · rw [Bool.and_eq_true, Bool.and_eq_true] at q
    obtain ⟨⟨q1, q2⟩, q3⟩ := q
    have h1 : (oC T rs v).testBit c = true := sDif_0.mp hs c q2
    have h2 : (ow T rs v (tR T)).testBit c = true := (ow_bit T rs v c (tR T)).mpr ⟨r, hr, q1, by rw [oRow_bit]; simp [hc]; exact eq_of_beq q3⟩
    have h3 : (gS T rs v).testBit c = true := by unfold gS; rw [Nat.testBit_and, h1, h2]; rfl
    rw [if_pos (by rw [q1, h3, q3]; rfl)]
  · rw [if_neg q] at h; cases h
theorem gS_most {T : Tab} (hT : TabOK T) {rs v cs : Nat} (hs : sDif cs (oC T rs v) = 0) : nV T rs cs v ≤ nV T rs (gS T rs v) v := by
  refine sm_le (fun r hr => sm_le (fun c hc => ?_))
  have := dv_1 T rs cs v r c
  by_cases h : dv T rs cs v r c = 1
  · rw [gS_has hT hs hr hc h]; omega
  · omega
theorem gS_less {T : Tab} (hT : TabOK T) {rs v cs : Nat} (hs : sDif cs (oC T rs v) = 0) (hlt : cs < gS T rs v) : nV T rs cs v < nV T rs (gS T rs v) v := by
  have hex : ∃ c, (gS T rs v).testBit c = true ∧ ¬ cs.testBit c = true := by
    refine Classical.byContradiction (fun q => ?_)
    have e : sDif (gS T rs v) cs = 0 := sDif_0.mpr (fun k hk => Classical.byContradiction (fun q2 => q ⟨k, hk, q2⟩))
    unfold sDif at e
    have : gS T rs v &&& cs ≤ cs := Nat.and_le_right
    omega
  obtain ⟨c, h1, h2⟩ := hex
  have h3 : (oC T rs v).testBit c = true ∧ (ow T rs v (tR T)).testBit c = true := by
    unfold gS at h1; rw [Nat.testBit_and, Bool.and_eq_true] at h1; exact h1
  obtain ⟨r, hr, hb, ho⟩ := (ow_bit T rs v c (tR T)).mp h3.2
  rw [oRow_bit, Bool.and_eq_true, decide_eq_true_iff] at ho
  have le : ∀ r, r < tR T → ∀ c, c < tC T → dv T rs cs v r c ≤ dv T rs (gS T rs v) v r c := fun r hr c hc => by
    have := dv_1 T rs cs v r c
    by_cases h : dv T rs cs v r c = 1
    · rw [gS_has hT hs hr hc h]; omega
    · omega
  refine sm_lt (fun r hr => sm_le (le r hr)) r hr (sm_lt (le r hr) c ho.1 ?_)
  unfold dv
  rw [if_neg (by simp [h2]), if_pos (by rw [hb, h1, ho.2]; rfl)]
  omega
theorem gS_sub (T : Tab) (rs v : Nat) : sDif (gS T rs v) (oC T rs v) = 0 := sDif_0.mpr (fun k hk => by
  unfold gS at hk; rw [Nat.testBit_and, Bool.and_eq_true] at hk; exact hk.1)
theorem sm_z {f : Nat → Nat} (n : Nat) (h : ∀ i, i < n → f i = 0) : sm f n = 0 := by
  rw [sm_congr (g := fun _ => 0) h, sm_zero]
theorem gS_pos {T : Tab} {rs v : Nat} (h : 0 < nV T rs (gS T rs v) v) : 0 < gS T rs v := by
  rcases Nat.eq_zero_or_pos (gS T rs v) with e | e
  · rw [e] at h
    have : nV T rs 0 v = 0 := sm_z _ (fun r _ => sm_z _ (fun c _ => by unfold dv; simp))
    omega
  · exact e
theorem oC_lt {T : Tab} (hT : TabOK T) (rs v : Nat) : oC T rs v ≤ 2 ^ tC T - 1 := sDif_le _ _
def mStep (T : Tab) (v rs : Nat) (a : Nat × Nat × Nat) (cs : Nat) : Nat × Nat × Nat := if sDif cs (oC T rs v) = 0 ∧ a.1 < nV T rs cs v then (nV T rs cs v, rs, cs) else a
def mRow (T : Tab) (v rs : Nat) (a : Nat × Nat × Nat) (n : Nat) : Nat × Nat × Nat := (List.range n).foldl (fun a i => mStep T v rs a (i + 1)) a
theorem mRow_s (T : Tab) (v rs : Nat) (a : Nat × Nat × Nat) (n : Nat) : mRow T v rs a (n + 1) = mStep T v rs (mRow T v rs a n) (n + 1) := fo_succ _ _ _
theorem mRow_inv {T : Tab} (hT : TabOK T) (v rs : Nat) (a : Nat × Nat × Nat) : ∀ n, (a.1 < nV T rs (gS T rs v) v → (n < gS T rs v → (mRow T v rs a n).1 < nV T rs (gS T rs v) v) ∧ (gS T rs v ≤ n → mRow T v rs a n = (nV T rs (gS T rs v) v, rs, gS T rs v))) ∧ (nV T rs (gS T rs v) v ≤ a.1 → mRow T v rs a n = a)
  | 0 => by
    refine ⟨fun h => ⟨fun _ => h, fun h2 => ?_⟩, fun _ => rfl⟩
    have := gS_pos (T := T) (rs := rs) (v := v) (by omega)
    omega
  | n + 1 => by
    obtain ⟨i1, i2⟩ := mRow_inv hT v rs a n
    rw [mRow_s]
    refine ⟨fun h => ⟨fun h2 => ?_, fun h2 => ?_⟩, fun h => ?_⟩
    · have h3 := (i1 h).1 (by omega)
      unfold mStep
      split
      · next q => exact gS_less hT q.1 h2
      · exact h3
    · by_cases e : gS T rs v = n + 1
      · have h3 := (i1 h).1 (by omega)
        unfold mStep
        rw [← e, if_pos ⟨gS_sub T rs v, h3⟩]
      · have h3 := (i1 h).2 (by omega)
        rw [h3]
        unfold mStep
        rw [if_neg]
        rintro ⟨q1, q2⟩
        have := gS_most hT q1
        have q2' : nV T rs (gS T rs v) v < nV T rs (n + 1) v := q2
        omega
    · rw [i2 h]
      unfold mStep
      rw [if_neg]
      rintro ⟨q1, q2⟩
      have := gS_most hT q1
      omega
theorem mRow_eq {T : Tab} (hT : TabOK T) (v rs : Nat) (a : Nat × Nat × Nat) : mRow T v rs a (2 ^ tC T - 1) = gStep T v a rs := by
  obtain ⟨h1, h2⟩ := mRow_inv hT v rs a (2 ^ tC T - 1)
  unfold gStep
  split
  · next h => exact (h1 h).2 (Nat.le_trans Nat.and_le_left (oC_lt hT rs v))
  · next h => exact h2 (by omega)
theorem mRow_36 {T : Tab} (hT : TabOK T) (v rs : Nat) (a : Nat × Nat × Nat) (ha : a.1 ≤ 36) : ∀ n, (mRow T v rs a n).1 ≤ 36
  | 0 => ha
  | n + 1 => by
    rw [mRow_s]
    unfold mStep
    split
    · exact nV_36 hT _ _ _
    · exact mRow_36 hT v rs a ha n
theorem c_Mo_countV {d mc ms : Nat} {M : pm_M} (lay : Lay M) {T : Tab} (hT : TabOK T) (hM : MoAt M T) {rs cs v : Nat} (hrs : rs < 64) (hcs : cs < 64) (hv : v < 11) :
    pm_E (d + 1) 201 [(2, ((116 : Nat) : Int)), (0, (rs : Int)), (0, (cs : Int)), (0, (v : Int))] M mc ms (fun ρ M' => ρ = some (0, (nV T rs cs v : Int)) ∧ M' = M) := by
  have := c_Mo_countIn (d := d) (mc := mc) (ms := ms) lay hT hM hrs hcs hv
  rw [cIn_nV] at this
  exact this
set_option maxHeartbeats 8000000 in
theorem c_Mo_greatest {d mc ms : Nat} {M : pm_M} (lay0 : Lay M) {T : Tab} (hT : TabOK T) (hM0 : MoAt M T) {v w : Int} (hv : pm_inI v) (hw : pm_inI w) :
    pm_E (d + 3) 209 [(2, ((116 : Nat) : Int)), (0, v), (0, w)] M mc ms (fun ρ M' => ρ = some (0, sGreat T v w) ∧ Lay M' ∧ M' = Mu [(116, pm_upd (pm_ct M 116) 0 0)] M) := by
  obtain ⟨N, hN⟩ : ∃ N, N = Mu [(116, pm_upd (pm_ct M 116) 0 0)] M := ⟨_, rfl⟩
  have hM : MoAt N T := by rw [hN]; exact hM0
  have lay : Lay N := by rw [hN]; exact lay0.muF (l := []) (a := 116) (k := 0) (z := 0) rfl rfl
  obtain ⟨Q, hQ⟩ : ∃ Q : pm_Q, Q = (fun ρ M' => ρ = some (0, sGreat T v w) ∧ Lay M' ∧ M' = Mu [(116, pm_upd (pm_ct M 116) 0 0)] M) := ⟨_, rfl⟩
  rw [← hQ]
  have iv := isV_range v
  have hR := tR_64 hT
  have hC := tC_64 hT
  have fin : ∀ (z : Int), z = sGreat T v w → Q (some (0, z)) N := fun z hz => by rw [hQ, hz]; exact ⟨rfl, lay, hN⟩
  have main : ∀ u : Nat, v = (u : Int) → u < 10 → ¬ (w < 0 ∨ 2 < w) → Wp (d + 3) 209 34 [(2, ((116 : Nat) : Int)), (0, v), (0, w), (0, 0), (0, 0), (0, 0), (0, 1), (9, 0), (9, 0)] [] N mc ms Q := by
    intro u hu hu9 hw2
    subst hu
    have inner : ∀ (n j i : Nat) (a : Nat × Nat × Nat) (v8 : pm_V), j + n = 2 ^ tC T - 1 → i + 1 < 64 → a.1 ≤ 36 → (∀ v8' : pm_V, Wp (d + 3) 209 34 [(2, ((116 : Nat) : Int)), (0, (u : Int)), (0, w), (0, ((gStep T u a (i + 1)).1 : Int)), (0, ((gStep T u a (i + 1)).2.1 : Int)), (0, ((gStep T u a (i + 1)).2.2 : Int)), (0, ((i + 1 + 1 : Nat) : Int)), (0, ((2 ^ tC T - 1 + 1 : Nat) : Int)), v8'] [] N mc ms Q) →
        Wp (d + 3) 209 46 [(2, ((116 : Nat) : Int)), (0, (u : Int)), (0, w), (0, ((mRow T u (i + 1) a j).1 : Int)), (0, ((mRow T u (i + 1) a j).2.1 : Int)), (0, ((mRow T u (i + 1) a j).2.2 : Int)), (0, ((i + 1 : Nat) : Int)), (0, ((j + 1 : Nat) : Int)), v8] [] N mc ms Q := by
      intro n
      induction n with
      | zero =>
        intro j i a v8 hj hi ha k
        have ej : j = 2 ^ tC T - 1 := by omega
        refine g_iload lk_209_46 rfl ?_
        refine g_aload_n lk_209_48 rfl ?_
        refine g_virtual (p := 116) (Qc := _) lk_209_49 rfl (Nat.le_of_ble_eq_true rfl) rfl rfl (lay.on (by decide) rfl) (Nat.le_of_ble_eq_true rfl) (Nat.le_of_ble_eq_true rfl) (Nat.zero_le _) (Nat.zero_le _) (c_Mo_allColumns lay hT hM) ?_
        rintro _ N1 ⟨rfl, hN1⟩
        rw [hN1]
        show Wp _ 209 52 [(2, ((116 : Nat) : Int)), (0, (u : Int)), (0, w), (0, ((mRow T u (i + 1) a j).1 : Int)), (0, ((mRow T u (i + 1) a j).2.1 : Int)), (0, ((mRow T u (i + 1) a j).2.2 : Int)), (0, ((i + 1 : Nat) : Int)), (0, ((j + 1 : Nat) : Int)), v8] [(0, ((2 ^ tC T - 1 : Nat) : Int)), (0, ((j + 1 : Nat) : Int))] N _ _ _
        refine g_icmp (t := 107) lk_209_52 rfl (by first | (unfold pm_inI; omega) | exact pm_and_in _ _ | exact pm_shr_in _ _ | exact pm_or_in _ _ | exact pm_xor_in _ _ | exact pm_shl_in _ _ | exact pm_cmp_in _ _ | exact pm_b8_in _ | (unfold pm_inI; split <;> omega)) (by first | (unfold pm_inI; omega) | exact pm_and_in _ _ | exact pm_shr_in _ _ | exact pm_or_in _ _ | exact pm_xor_in _ _ | exact pm_shl_in _ _ | exact pm_cmp_in _ _ | exact pm_b8_in _ | (unfold pm_inI; split <;> omega)) (fun h2 => ?_) (fun h2 => ?_)
        · replace h2 : ((2 ^ tC T - 1 : Nat) : Int) < ((j + 1 : Nat) : Int) := h2
          refine g_iinc (ls' := [(2, ((116 : Nat) : Int)), (0, (u : Int)), (0, w), (0, ((mRow T u (i + 1) a j).1 : Int)), (0, ((mRow T u (i + 1) a j).2.1 : Int)), (0, ((mRow T u (i + 1) a j).2.2 : Int)), (0, (((i + 1 : Nat) : Int) + 1)), (0, ((j + 1 : Nat) : Int)), v8]) lk_209_107 rfl rfl rfl ?_
          refine g_goto (t := 34) lk_209_110 rfl ?_
          rw [ej, mRow_eq hT]
          exact k _
        · replace h2 : ¬ (((2 ^ tC T - 1 : Nat) : Int) < ((j + 1 : Nat) : Int)) := h2
          refine g_iload lk_209_55 rfl ?_
          refine g_aload_n lk_209_57 rfl ?_
          refine g_iload lk_209_58 rfl ?_
          refine g_iload_n lk_209_60 rfl ?_
          omega
      | succ n ih =>
        intro j i a v8 hj hi ha k
        have e := mRow_s T u (i + 1) a j
        have k1 := oC_64 hT (i + 1) u
        have k2 := nV_36 hT (i + 1) (j + 1) u
        have k3 := mRow_36 hT u (i + 1) a ha j
        have k4 : pm_and ((j + 1 : Nat) : Int) (pm_xor ((oC T (i + 1) u : Nat) : Int) (-1)) = ((sDif (j + 1) (oC T (i + 1) u) : Nat) : Int) := pm_nand (by omega) k1
        unfold mStep at e
        refine g_iload lk_209_46 rfl ?_
        refine g_aload_n lk_209_48 rfl ?_
        refine g_virtual (p := 116) (Qc := _) lk_209_49 rfl (Nat.le_of_ble_eq_true rfl) rfl rfl (lay.on (by decide) rfl) (Nat.le_of_ble_eq_true rfl) (Nat.le_of_ble_eq_true rfl) (Nat.zero_le _) (Nat.zero_le _) (c_Mo_allColumns lay hT hM) ?_
        rintro _ N1 ⟨rfl, hN1⟩
        rw [hN1]
        show Wp _ 209 52 [(2, ((116 : Nat) : Int)), (0, (u : Int)), (0, w), (0, ((mRow T u (i + 1) a j).1 : Int)), (0, ((mRow T u (i + 1) a j).2.1 : Int)), (0, ((mRow T u (i + 1) a j).2.2 : Int)), (0, ((i + 1 : Nat) : Int)), (0, ((j + 1 : Nat) : Int)), v8] [(0, ((2 ^ tC T - 1 : Nat) : Int)), (0, ((j + 1 : Nat) : Int))] N _ _ _
        refine g_icmp (t := 107) lk_209_52 rfl (by first | (unfold pm_inI; omega) | exact pm_and_in _ _ | exact pm_shr_in _ _ | exact pm_or_in _ _ | exact pm_xor_in _ _ | exact pm_shl_in _ _ | exact pm_cmp_in _ _ | exact pm_b8_in _ | (unfold pm_inI; split <;> omega)) (by first | (unfold pm_inI; omega) | exact pm_and_in _ _ | exact pm_shr_in _ _ | exact pm_or_in _ _ | exact pm_xor_in _ _ | exact pm_shl_in _ _ | exact pm_cmp_in _ _ | exact pm_b8_in _ | (unfold pm_inI; split <;> omega)) (fun h2 => ?_) (fun h2 => ?_)
        · replace h2 : ((2 ^ tC T - 1 : Nat) : Int) < ((j + 1 : Nat) : Int) := h2
          refine g_iinc (ls' := [(2, ((116 : Nat) : Int)), (0, (u : Int)), (0, w), (0, ((mRow T u (i + 1) a j).1 : Int)), (0, ((mRow T u (i + 1) a j).2.1 : Int)), (0, ((mRow T u (i + 1) a j).2.2 : Int)), (0, (((i + 1 : Nat) : Int) + 1)), (0, ((j + 1 : Nat) : Int)), v8]) lk_209_107 rfl rfl rfl ?_
          refine g_goto (t := 34) lk_209_110 rfl ?_
          omega
        · replace h2 : ¬ (((2 ^ tC T - 1 : Nat) : Int) < ((j + 1 : Nat) : Int)) := h2
          refine g_iload lk_209_55 rfl ?_
          refine g_aload_n lk_209_57 rfl ?_
          refine g_iload lk_209_58 rfl ?_
          refine g_iload_n lk_209_60 rfl ?_
          refine g_virtual (p := 116) (Qc := _) lk_209_61 rfl (Nat.le_of_ble_eq_true rfl) rfl rfl (lay.on (by decide) rfl) (Nat.le_of_ble_eq_true rfl) (Nat.le_of_ble_eq_true rfl) (Nat.zero_le _) (Nat.zero_le _) (c_Mo_columnsFor lay hT hM (by omega) (by omega)) ?_
          rintro _ N3 ⟨rfl, hN3⟩
          rw [hN3]
          show Wp _ 209 64 [(2, ((116 : Nat) : Int)), (0, (u : Int)), (0, w), (0, ((mRow T u (i + 1) a j).1 : Int)), (0, ((mRow T u (i + 1) a j).2.1 : Int)), (0, ((mRow T u (i + 1) a j).2.2 : Int)), (0, ((i + 1 : Nat) : Int)), (0, ((j + 1 : Nat) : Int)), v8] [(0, ((oC T (i + 1) u : Nat) : Int)), (0, ((j + 1 : Nat) : Int))] N _ _ _
          refine g_iconst lk_209_64 ?_
          refine g_ixor lk_209_65 ?_
          refine g_iand lk_209_66 ?_
          refine g_if (t := 73) lk_209_67 rfl (by first | (unfold pm_inI; omega) | exact pm_and_in _ _ | exact pm_shr_in _ _ | exact pm_or_in _ _ | exact pm_xor_in _ _ | exact pm_shl_in _ _ | exact pm_cmp_in _ _ | exact pm_b8_in _ | (unfold pm_inI; split <;> omega)) (fun h4 => ?_) (fun h4 => ?_)
          · replace h4 : (pm_and ((j + 1 : Nat) : Int) (pm_xor ((oC T (i + 1) u : Nat) : Int) (-1))) = 0 := h4
            refine g_aload_n lk_209_73 rfl ?_
            refine g_iload lk_209_74 rfl ?_
            refine g_iload lk_209_76 rfl ?_
            refine g_iload_n lk_209_78 rfl ?_
            refine g_virtual (p := 116) (Qc := _) lk_209_79 rfl (Nat.le_of_ble_eq_true rfl) rfl rfl (lay.on (by decide) rfl) (Nat.le_of_ble_eq_true rfl) (Nat.le_of_ble_eq_true rfl) (Nat.zero_le _) (Nat.zero_le _) (c_Mo_countV lay hT hM (by omega) (by omega) (by omega)) ?_
            rintro _ N5 ⟨rfl, hN5⟩
            rw [hN5]
            show Wp _ 209 82 [(2, ((116 : Nat) : Int)), (0, (u : Int)), (0, w), (0, ((mRow T u (i + 1) a j).1 : Int)), (0, ((mRow T u (i + 1) a j).2.1 : Int)), (0, ((mRow T u (i + 1) a j).2.2 : Int)), (0, ((i + 1 : Nat) : Int)), (0, ((j + 1 : Nat) : Int)), v8] [(0, (nV T (i + 1) (j + 1) u : Int))] N _ _ _
            refine g_istore (ls' := [(2, ((116 : Nat) : Int)), (0, (u : Int)), (0, w), (0, ((mRow T u (i + 1) a j).1 : Int)), (0, ((mRow T u (i + 1) a j).2.1 : Int)), (0, ((mRow T u (i + 1) a j).2.2 : Int)), (0, ((i + 1 : Nat) : Int)), (0, ((j + 1 : Nat) : Int)), (0, (nV T (i + 1) (j + 1) u : Int))]) lk_209_82 rfl rfl ?_
            refine g_iload lk_209_84 rfl ?_
            refine g_iload_n lk_209_86 rfl ?_
            refine g_icmp (t := 101) lk_209_87 rfl (by first | (unfold pm_inI; omega) | exact pm_and_in _ _ | exact pm_shr_in _ _ | exact pm_or_in _ _ | exact pm_xor_in _ _ | exact pm_shl_in _ _ | exact pm_cmp_in _ _ | exact pm_b8_in _ | (unfold pm_inI; split <;> omega)) (by first | (unfold pm_inI; omega) | exact pm_and_in _ _ | exact pm_shr_in _ _ | exact pm_or_in _ _ | exact pm_xor_in _ _ | exact pm_shl_in _ _ | exact pm_cmp_in _ _ | exact pm_b8_in _ | (unfold pm_inI; split <;> omega)) (fun h6 => ?_) (fun h6 => ?_)
            · replace h6 : (nV T (i + 1) (j + 1) u : Int) ≤ ((mRow T u (i + 1) a j).1 : Int) := h6
              refine g_iinc (ls' := [(2, ((116 : Nat) : Int)), (0, (u : Int)), (0, w), (0, ((mRow T u (i + 1) a j).1 : Int)), (0, ((mRow T u (i + 1) a j).2.1 : Int)), (0, ((mRow T u (i + 1) a j).2.2 : Int)), (0, ((i + 1 : Nat) : Int)), (0, (((j + 1 : Nat) : Int) + 1)), (0, (nV T (i + 1) (j + 1) u : Int))]) lk_209_101 rfl rfl rfl ?_
              refine g_goto (t := 46) lk_209_104 rfl ?_
              rw [k4] at h4
              rw [if_neg (by omega)] at e
              rw [← e]
              exact ih (j + 1) i a _ (by omega) hi ha k
            · replace h6 : ¬ ((nV T (i + 1) (j + 1) u : Int) ≤ ((mRow T u (i + 1) a j).1 : Int)) := h6
              refine g_iload lk_209_90 rfl ?_
              refine g_istore_n (ls' := [(2, ((116 : Nat) : Int)), (0, (u : Int)), (0, w), (0, (nV T (i + 1) (j + 1) u : Int)), (0, ((mRow T u (i + 1) a j).2.1 : Int)), (0, ((mRow T u (i + 1) a j).2.2 : Int)), (0, ((i + 1 : Nat) : Int)), (0, ((j + 1 : Nat) : Int)), (0, (nV T (i + 1) (j + 1) u : Int))]) lk_209_92 rfl rfl ?_
              refine g_iload lk_209_93 rfl ?_
              refine g_istore (ls' := [(2, ((116 : Nat) : Int)), (0, (u : Int)), (0, w), (0, (nV T (i + 1) (j + 1) u : Int)), (0, ((i + 1 : Nat) : Int)), (0, ((mRow T u (i + 1) a j).2.2 : Int)), (0, ((i + 1 : Nat) : Int)), (0, ((j + 1 : Nat) : Int)), (0, (nV T (i + 1) (j + 1) u : Int))]) lk_209_95 rfl rfl ?_
              refine g_iload lk_209_97 rfl ?_
              refine g_istore (ls' := [(2, ((116 : Nat) : Int)), (0, (u : Int)), (0, w), (0, (nV T (i + 1) (j + 1) u : Int)), (0, ((i + 1 : Nat) : Int)), (0, ((j + 1 : Nat) : Int)), (0, ((i + 1 : Nat) : Int)), (0, ((j + 1 : Nat) : Int)), (0, (nV T (i + 1) (j + 1) u : Int))]) lk_209_99 rfl rfl ?_
              refine g_iinc (ls' := [(2, ((116 : Nat) : Int)), (0, (u : Int)), (0, w), (0, (nV T (i + 1) (j + 1) u : Int)), (0, ((i + 1 : Nat) : Int)), (0, ((j + 1 : Nat) : Int)), (0, ((i + 1 : Nat) : Int)), (0, (((j + 1 : Nat) : Int) + 1)), (0, (nV T (i + 1) (j + 1) u : Int))]) lk_209_101 rfl rfl rfl ?_
              refine g_goto (t := 46) lk_209_104 rfl ?_
              rw [k4] at h4
              rw [if_pos (by omega)] at e
              have e1 : nV T (i + 1) (j + 1) u = (mRow T u (i + 1) a (j + 1)).1 := by rw [e]
              have e2 : i + 1 = (mRow T u (i + 1) a (j + 1)).2.1 := by rw [e]
              have e3 : j + 1 = (mRow T u (i + 1) a (j + 1)).2.2 := by rw [e]
              have := ih (j + 1) i a (0, (nV T (i + 1) (j + 1) u : Int)) (by omega) hi ha k
              rw [← e1, ← e2, ← e3] at this
              exact this
          · replace h4 : ¬ ((pm_and ((j + 1 : Nat) : Int) (pm_xor ((oC T (i + 1) u : Nat) : Int) (-1))) = 0) := h4
            refine g_goto (t := 101) lk_209_70 rfl ?_
            refine g_iinc (ls' := [(2, ((116 : Nat) : Int)), (0, (u : Int)), (0, w), (0, ((mRow T u (i + 1) a j).1 : Int)), (0, ((mRow T u (i + 1) a j).2.1 : Int)), (0, ((mRow T u (i + 1) a j).2.2 : Int)), (0, ((i + 1 : Nat) : Int)), (0, (((j + 1 : Nat) : Int) + 1)), v8]) lk_209_101 rfl rfl rfl ?_
            refine g_goto (t := 46) lk_209_104 rfl ?_
            rw [k4] at h4
            rw [if_neg (by omega)] at e
            rw [← e]
            exact ih (j + 1) i a _ (by omega) hi ha k
    have outer : ∀ (n i : Nat) (v7 v8 : pm_V), i + n = 2 ^ tR T - 1 → Wp (d + 3) 209 34 [(2, ((116 : Nat) : Int)), (0, (u : Int)), (0, w), (0, ((gAll T u i).1 : Int)), (0, ((gAll T u i).2.1 : Int)), (0, ((gAll T u i).2.2 : Int)), (0, ((i + 1 : Nat) : Int)), v7, v8] [] N mc ms Q := by
      intro n
      induction n with
      | zero =>
        intro i v7 v8 hi
        have ei : i = 2 ^ tR T - 1 := by omega
        have k1 := gAll_36 hT u i
        refine g_iload lk_209_34 rfl ?_
        refine g_aload_n lk_209_36 rfl ?_
        refine g_virtual (p := 116) (Qc := _) lk_209_37 rfl (Nat.le_of_ble_eq_true rfl) rfl rfl (lay.on (by decide) rfl) (Nat.le_of_ble_eq_true rfl) (Nat.le_of_ble_eq_true rfl) (Nat.zero_le _) (Nat.zero_le _) (c_Mo_allRows lay hT hM) ?_
        rintro _ N1 ⟨rfl, hN1⟩
        rw [hN1]
        show Wp _ 209 40 [(2, ((116 : Nat) : Int)), (0, (u : Int)), (0, w), (0, ((gAll T u i).1 : Int)), (0, ((gAll T u i).2.1 : Int)), (0, ((gAll T u i).2.2 : Int)), (0, ((i + 1 : Nat) : Int)), v7, v8] [(0, ((2 ^ tR T - 1 : Nat) : Int)), (0, ((i + 1 : Nat) : Int))] N _ _ _
        refine g_icmp (t := 113) lk_209_40 rfl (by first | assumption | (unfold pm_inI; omega)) (by first | assumption | (unfold pm_inI; omega)) (fun h2 => ?_) (fun h2 => ?_)
        · replace h2 : ((2 ^ tR T - 1 : Nat) : Int) < ((i + 1 : Nat) : Int) := h2
          refine g_iload_n lk_209_113 rfl ?_
          refine g_if (t := 121) lk_209_114 rfl (by first | assumption | (unfold pm_inI; omega)) (fun h3 => ?_) (fun h3 => ?_)
          · replace h3 : ¬ ((gAll T u i).1 : Int) = 0 := h3
            refine g_iload_n lk_209_121 rfl ?_
            refine g_if (t := 129) lk_209_122 rfl (by first | assumption | (unfold pm_inI; omega)) (fun h4 => ?_) (fun h4 => ?_)
            · replace h4 : ¬ w = 0 := h4
              refine g_iload_n lk_209_129 rfl ?_
              refine g_iconst lk_209_130 ?_
              refine g_icmp (t := 139) lk_209_131 rfl (by first | assumption | (unfold pm_inI; omega)) (by first | assumption | (unfold pm_inI; omega)) (fun h5 => ?_) (fun h5 => ?_)
              · replace h5 : ¬ w = 1 := h5
                refine g_iload lk_209_139 rfl ?_
                refine g_ireturn lk_209_141 (fun h => absurd h (by decide)) ?_
                refine fin _ ?_
                unfold sGreat
                rw [Int.toNat_natCast, ← ei, if_neg (by unfold isV; rw [if_pos (by omega)]; omega), if_neg (by omega), if_neg (by omega), if_neg (by omega)]
              · replace h5 : ¬ (¬ w = 1) := h5
                refine g_iload lk_209_134 rfl ?_
                refine g_goto (t := 141) lk_209_136 rfl ?_
                refine g_ireturn lk_209_141 (fun h => absurd h (by decide)) ?_
                refine fin _ ?_
                unfold sGreat
                rw [Int.toNat_natCast, ← ei, if_neg (by unfold isV; rw [if_pos (by omega)]; omega), if_neg (by omega), if_neg (by omega), if_pos (by omega)]
            · replace h4 : ¬ (¬ w = 0) := h4
              refine g_iload_n lk_209_125 rfl ?_
              refine g_goto (t := 141) lk_209_126 rfl ?_
              refine g_ireturn lk_209_141 (fun h => absurd h (by decide)) ?_
              refine fin _ ?_
              unfold sGreat
              rw [Int.toNat_natCast, ← ei, if_neg (by unfold isV; rw [if_pos (by omega)]; omega), if_neg (by omega), if_pos (by omega)]
          · replace h3 : ¬ (¬ ((gAll T u i).1 : Int) = 0) := h3
            refine g_iconst lk_209_117 ?_
            refine g_goto (t := 141) lk_209_118 rfl ?_
            refine g_ireturn lk_209_141 (fun h => absurd h (by decide)) ?_
            refine fin _ ?_
            unfold sGreat
            rw [Int.toNat_natCast, ← ei, if_neg (by unfold isV; rw [if_pos (by omega)]; omega), if_pos (by omega)]
        · replace h2 : ¬ (((2 ^ tR T - 1 : Nat) : Int) < ((i + 1 : Nat) : Int)) := h2
          refine g_iconst lk_209_43 ?_
          refine g_istore (ls' := [(2, ((116 : Nat) : Int)), (0, (u : Int)), (0, w), (0, ((gAll T u i).1 : Int)), (0, ((gAll T u i).2.1 : Int)), (0, ((gAll T u i).2.2 : Int)), (0, ((i + 1 : Nat) : Int)), (0, 1), v8]) lk_209_44 rfl rfl ?_
          omega
      | succ n ih =>
        intro i v7 v8 hi
        have e := gAll_s T u i
        refine g_iload lk_209_34 rfl ?_
        refine g_aload_n lk_209_36 rfl ?_
        refine g_virtual (p := 116) (Qc := _) lk_209_37 rfl (Nat.le_of_ble_eq_true rfl) rfl rfl (lay.on (by decide) rfl) (Nat.le_of_ble_eq_true rfl) (Nat.le_of_ble_eq_true rfl) (Nat.zero_le _) (Nat.zero_le _) (c_Mo_allRows lay hT hM) ?_
        rintro _ N1 ⟨rfl, hN1⟩
        rw [hN1]
        show Wp _ 209 40 [(2, ((116 : Nat) : Int)), (0, (u : Int)), (0, w), (0, ((gAll T u i).1 : Int)), (0, ((gAll T u i).2.1 : Int)), (0, ((gAll T u i).2.2 : Int)), (0, ((i + 1 : Nat) : Int)), v7, v8] [(0, ((2 ^ tR T - 1 : Nat) : Int)), (0, ((i + 1 : Nat) : Int))] N _ _ _
        refine g_icmp (t := 113) lk_209_40 rfl (by first | (unfold pm_inI; omega) | exact pm_and_in _ _ | exact pm_shr_in _ _ | exact pm_or_in _ _ | exact pm_xor_in _ _ | exact pm_shl_in _ _ | exact pm_cmp_in _ _ | exact pm_b8_in _ | (unfold pm_inI; split <;> omega)) (by first | (unfold pm_inI; omega) | exact pm_and_in _ _ | exact pm_shr_in _ _ | exact pm_or_in _ _ | exact pm_xor_in _ _ | exact pm_shl_in _ _ | exact pm_cmp_in _ _ | exact pm_b8_in _ | (unfold pm_inI; split <;> omega)) (fun h2 => ?_) (fun h2 => ?_)
        · replace h2 : ((2 ^ tR T - 1 : Nat) : Int) < ((i + 1 : Nat) : Int) := h2
          omega
        · replace h2 : ¬ (((2 ^ tR T - 1 : Nat) : Int) < ((i + 1 : Nat) : Int)) := h2
          refine g_iconst lk_209_43 ?_
          refine g_istore (ls' := [(2, ((116 : Nat) : Int)), (0, (u : Int)), (0, w), (0, ((gAll T u i).1 : Int)), (0, ((gAll T u i).2.1 : Int)), (0, ((gAll T u i).2.2 : Int)), (0, ((i + 1 : Nat) : Int)), (0, 1), v8]) lk_209_44 rfl rfl ?_
          refine inner (2 ^ tC T - 1) 0 i (gAll T u i) v8 (by omega) (by omega) (gAll_36 hT u i) (fun v8' => ?_)
          rw [← e]
          exact ih (i + 1) _ _ (by omega)
    exact outer (2 ^ tR T - 1) 0 _ _ (by omega)
  show Wp (d + 3) 209 0 [(2, ((116 : Nat) : Int)), (0, v), (0, w), (9, 0), (9, 0), (9, 0), (9, 0), (9, 0), (9, 0)] [] M mc ms Q
  refine g_aload_n lk_209_0 rfl ?_
  refine g_iconst lk_209_1 ?_
  have lay1 : Lay (Mu [(116, pm_upd (pm_ct M 116) 0 0)] M) := lay0.muF (l := []) (a := 116) (k := 0) (z := 0) rfl rfl
  refine m_putfield (u := []) (u' := [(116, pm_upd (pm_ct M 116) 0 0)]) (M := M) lk_209_2 rfl (lay0.on (by decide) rfl) (fun h => absurd h (by decide)) rfl ?_
  refine g_iload_n lk_209_5 rfl ?_
  refine g_static (Qc := _) lk_209_6 (by decide) rfl (Nat.le_of_ble_eq_true rfl) rfl rfl (Nat.le_of_ble_eq_true rfl) (Nat.le_of_ble_eq_true rfl) (Nat.zero_le _) (Nat.zero_le _) (c_Mo_isValue (by assumption)) ?_
  rintro _ N2 ⟨rfl, hN2⟩
  rw [hN2]
  show Wp _ 209 9 [(2, ((116 : Nat) : Int)), (0, v), (0, w), (9, 0), (9, 0), (9, 0), (9, 0), (9, 0), (9, 0)] [(0, (isV v))] (Mu [(116, pm_upd (pm_ct M 116) 0 0)] M) _ _ _
  refine g_if (t := 21) lk_209_9 rfl (by first | assumption | (unfold pm_inI; omega) | (unfold pm_inI; split <;> omega)) (fun h3 => ?_) (fun h3 => ?_)
  · replace h3 : (isV v) = 0 := h3
    refine g_iconst lk_209_21 ?_
    refine g_ireturn lk_209_22 (fun h => absurd h (by decide)) ?_
    rw [← hN]
    refine fin _ ?_
    unfold sGreat
    rw [if_pos (by omega)]
  · replace h3 : ¬ ((isV v) = 0) := h3
    refine g_iload_n lk_209_12 rfl ?_
    refine g_iconst lk_209_13 ?_
    refine g_iconst lk_209_14 ?_
    refine g_static (Qc := _) lk_209_15 (by decide) rfl (Nat.le_of_ble_eq_true rfl) rfl rfl (Nat.le_of_ble_eq_true rfl) (Nat.le_of_ble_eq_true rfl) (Nat.zero_le _) (Nat.zero_le _) (c_Mo_in (by assumption) (by unfold pm_inI; omega) (by unfold pm_inI; omega)) ?_
    rintro _ N4 ⟨rfl, hN4⟩
    rw [hN4]
    show Wp _ 209 18 [(2, ((116 : Nat) : Int)), (0, v), (0, w), (9, 0), (9, 0), (9, 0), (9, 0), (9, 0), (9, 0)] [(0, (if 0 ≤ w ∧ w ≤ 2 then (1 : Int) else 0))] (Mu [(116, pm_upd (pm_ct M 116) 0 0)] M) _ _ _
    refine g_if (t := 23) lk_209_18 rfl (by first | assumption | (unfold pm_inI; omega) | (unfold pm_inI; split <;> omega)) (fun h5 => ?_) (fun h5 => ?_)
    · replace h5 : ¬ (if 0 ≤ w ∧ w ≤ 2 then (1 : Int) else 0) = 0 := h5
      refine g_iconst lk_209_23 ?_
      refine g_istore_n (ls' := [(2, ((116 : Nat) : Int)), (0, v), (0, w), (0, 0), (9, 0), (9, 0), (9, 0), (9, 0), (9, 0)]) lk_209_24 rfl rfl ?_
      refine g_iconst lk_209_25 ?_
      refine g_istore (ls' := [(2, ((116 : Nat) : Int)), (0, v), (0, w), (0, 0), (0, 0), (9, 0), (9, 0), (9, 0), (9, 0)]) lk_209_26 rfl rfl ?_
      refine g_iconst lk_209_28 ?_
      refine g_istore (ls' := [(2, ((116 : Nat) : Int)), (0, v), (0, w), (0, 0), (0, 0), (0, 0), (9, 0), (9, 0), (9, 0)]) lk_209_29 rfl rfl ?_
      refine g_iconst lk_209_31 ?_
      refine g_istore (ls' := [(2, ((116 : Nat) : Int)), (0, v), (0, w), (0, 0), (0, 0), (0, 0), (0, 1), (9, 0), (9, 0)]) lk_209_32 rfl rfl ?_
      obtain ⟨v1, v2⟩ := isV_1 h3
      obtain ⟨u, hu⟩ := Int.eq_ofNat_of_zero_le v1
      rw [← hN]
      exact main u hu (by omega) (by split at h5 <;> omega)
    · replace h5 : ¬ (¬ (if 0 ≤ w ∧ w ≤ 2 then (1 : Int) else 0) = 0) := h5
      refine g_iconst lk_209_21 ?_
      refine g_ireturn lk_209_22 (fun h => absurd h (by decide)) ?_
      rw [← hN]
      refine fin _ ?_
      unfold sGreat
      rw [if_pos (by split at h5 <;> omega)]
