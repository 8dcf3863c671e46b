/-! ===== what a call of the model leaves alone: cells but S, its own fields but K ===== -/
def MF (S K : List Nat) (M N : pm_M) : Prop := N.1 = M.1 ∧ (∀ a, pm_kd N a = pm_kd M a) ∧ (∀ a, pm_ln N a = pm_ln M a) ∧ (∀ a, a ∉ S → a ≠ 116 → pm_ct N a = pm_ct M a) ∧ ∀ k, k ∉ K → pm_ct N 116 k = pm_ct M 116 k
theorem MF.refl (S K : List Nat) (M : pm_M) : MF S K M M := ⟨rfl, fun _ => rfl, fun _ => rfl, fun _ _ _ => rfl, fun _ _ => rfl⟩
theorem MF.trans {S K : List Nat} {M N P : pm_M} (h : MF S K M N) (k : MF S K N P) : MF S K M P :=
  ⟨k.1.trans h.1, fun a => (k.2.1 a).trans (h.2.1 a), fun a => (k.2.2.1 a).trans (h.2.2.1 a), fun a ha hb => (k.2.2.2.1 a ha hb).trans (h.2.2.2.1 a ha hb), fun j hj => (k.2.2.2.2 j hj).trans (h.2.2.2.2 j hj)⟩
theorem MF.mono {S K S' K' : List Nat} {M N : pm_M} (h : MF S K M N) (hs : ∀ a, a ∈ S → a ∈ S') (hk : ∀ a, a ∈ K → a ∈ K') : MF S' K' M N :=
  ⟨h.1, h.2.1, h.2.2.1, fun a ha hb => h.2.2.2.1 a (fun q => ha (hs a q)) hb, fun j hj => h.2.2.2.2 j (fun q => hj (hk j q))⟩
theorem MF.ct {S K : List Nat} {M N : pm_M} (h : MF S K M N) {a : Nat} (ha : a ∉ S) (hb : a ≠ 116) : pm_ct N a = pm_ct M a := h.2.2.2.1 a ha hb
theorem MF.fd {S K : List Nat} {M N : pm_M} (h : MF S K M N) {k : Nat} (hk : k ∉ K) : pm_ct N 116 k = pm_ct M 116 k := h.2.2.2.2 k hk
theorem MF.mu {S K : List Nat} (M : pm_M) (l : List (Nat × (Nat → Int))) (hl : (l.all (fun q => (116 :: S).elem q.1)) = true) (hk : ∀ k, k ∉ K → al l 116 (pm_ct M 116) k = pm_ct M 116 k) : MF S K M (Mu l M) := by
  obtain ⟨h1, h2, h3, h4⟩ := Fr.mu (S := 116 :: S) M l hl
  exact ⟨h1, h2, h3, fun a ha hb => h4 a (by rw [List.mem_cons]; rintro (q | q); exact hb q; exact ha q), fun k q => by rw [Mu_ct]; exact hk k q⟩
theorem MoAt.mf {S K : List Nat} {M N : pm_M} {T : Tab} (h : MoAt M T) (k : MF S K M N) (h1 : 1 ∉ K) (h2 : 2 ∉ K) (h3 : 117 ∉ S) (h4 : 120 ∉ S) : MoAt N T := by
  unfold MoAt; rw [k.fd h1, k.fd h2, k.ct h3 (by decide), k.ct h4 (by decide)]; exact h
theorem upd_ne {f : Nat → Int} {k j : Nat} {z : Int} (h : j ≠ k) : pm_upd f k z j = f j := by unfold pm_upd; rw [if_neg h]
/-! ===== the model's full areas ===== -/
theorem and_0 {a b : Nat} : a &&& b = 0 ↔ ∀ k, a.testBit k = true → b.testBit k = true → False := by
  constructor
  · intro h k h1 h2
    have := congrArg (fun z => z.testBit k) h
    simp only [Nat.testBit_and, h1, h2, Nat.zero_testBit] at this
    cases this
  · intro h
    apply Nat.eq_of_testBit_eq
    intro k
    rw [Nat.testBit_and, Nat.zero_testBit]
    cases h1 : a.testBit k with
    | false => rfl
    | true =>
      cases h2 : b.testBit k with
      | false => rfl
      | true => exact (h k h1 h2).elim
theorem uRow_and {T : Tab} (hT : TabOK T) (r v cs : Nat) : uRow T r v &&& cs = 0 ↔ ∀ c, c < tC T → cs.testBit c = true → tX T (6 * r + c) = v ∨ tX T (6 * r + c) = 10 := by
  have hC := hT.2.1
  rw [and_0]
  constructor
  · intro h c hc hb
    refine Classical.byContradiction (fun q => h c ?_ hb)
    rw [uRow_bit hT r v (by omega)]
    simp [hc]; omega
  · intro h c h1 h2
    by_cases hc : c < 6
    · rw [uRow_bit hT r v hc, Bool.and_eq_true, decide_eq_true_iff] at h1
      have := h c h1.1 h2
      have h3 := h1.2
      simp at h3
      omega
    · rw [Nat.testBit_lt_two_pow (Nat.lt_of_lt_of_le (uRow_64 hT r v) (Nat.pow_le_pow_right (n := 2) (by omega) (by omega : 6 ≤ c)))] at h1
      cases h1
theorem vIn_and {T : Tab} (hT : TabOK T) {r v cs : Nat} (hr : r < tR T) (hv : v < 10) : sDif (vIn T (2 ^ r) cs) (2 ^ v) = 0 ↔ uRow T r v &&& cs = 0 := by
  rw [sDif_0, uRow_and hT]
  constructor
  · intro h c hc hb
    have hx := hT.2.2.1 (6 * r + c)
    by_cases h10 : tX T (6 * r + c) = 10
    · exact Or.inr h10
    · have := h (tX T (6 * r + c)) ((vIn_bit T (2 ^ r) cs _).mpr ⟨by omega, r, c, hr, hc, by rw [Nat.testBit_two_pow]; simp, hb, rfl⟩)
      rw [Nat.testBit_two_pow, decide_eq_true_iff] at this
      exact Or.inl this.symm
  · intro h w hw
    obtain ⟨h10, r', c, h1, h2, h3, h4, h5⟩ := (vIn_bit T (2 ^ r) cs w).mp hw
    rw [Nat.testBit_two_pow, decide_eq_true_iff] at h3
    subst h3
    rw [Nat.testBit_two_pow, decide_eq_true_iff]
    have := h c h2 h4
    omega
theorem full_iff {T : Tab} (hT : TabOK T) {v rs : Nat} (hrs : rs < 2 ^ tR T) : isFull T v rs = true ↔ (0 < nV T rs (oC T rs v) v ∧ ∀ j, j < tR T → rs.testBit j = true ∨ ¬ (uRow T j v &&& oC T rs v = 0)) := by
  unfold isFull
  rw [Bool.and_eq_true, decide_eq_true_iff, decide_eq_true_iff]
  refine and_congr_right (fun _ => ?_)
  have ho : ∀ j, j < tR T → rs.testBit j = true → uRow T j v &&& oC T rs v = 0 := fun j hj hb => by
    rw [uRow_and hT]
    intro c hc hq
    exact ((oC_bit hT rs v).mp hq).2 j hj hb
  constructor
  · intro h j hj
    by_cases hb : rs.testBit j = true
    · exact Or.inl hb
    · refine Or.inr (fun q => hb ?_)
      rw [← h, oR_bit]
      simp [hj, q]
  · intro h
    apply Nat.eq_of_testBit_eq
    intro j
    rw [oR_bit]
    by_cases hj : j < tR T
    · rcases h j hj with q | q
      · rw [q]; simp [hj, ho j hj q]
      · cases hb : rs.testBit j with
        | false => simp [q]
        | true => exact absurd (ho j hj hb) q
    · rw [Nat.testBit_lt_two_pow (Nat.lt_of_lt_of_le hrs (Nat.pow_le_pow_right (by omega) (by omega : tR T ≤ j)))]
      simp [hj]
theorem nV_oC0 {T : Tab} {rs v : Nat} (h : 0 < nV T rs (oC T rs v) v) : oC T rs v ≠ 0 := by
  intro e
  rw [e] at h
  have : nV T rs 0 v = 0 := sm_z _ (fun r _ => sm_z _ (fun c _ => by unfold dv; simp))
  omega
/-- the model's rows of full areas -/
def FmAt (M : pm_M) (T : Tab) (v n : Nat) : Prop := pm_ct M 116 38 = ((fL T v n).length : Int) ∧ ∀ k, k < (fL T v n).length → pm_ct M 134 k = ((fL T v n).getD k 0 : Int) ∧ pm_ct M 135 k = ((oC T ((fL T v n).getD k 0) v : Nat) : Int)
set_option maxHeartbeats 8000000 in
theorem c_Mo_layFull {d mc ms : Nat} {M : pm_M} (lay0 : Lay M) {T : Tab} (hT : TabOK T) (hM0 : MoAt M T) {v : Nat} (hv : v < 10) :
    pm_E (d + 3) 210 [(2, ((116 : Nat) : Int)), (0, (v : Int))] M mc ms (fun ρ M' => ρ = none ∧ Lay M' ∧ MF [134, 135] [38] M M' ∧ FmAt M' T v (2 ^ tR T - 1)) := by
  obtain ⟨Q, hQ⟩ : ∃ Q : pm_Q, Q = (fun ρ M' => ρ = none ∧ Lay M' ∧ MF [134, 135] [38] M M' ∧ FmAt M' T v (2 ^ tR T - 1)) := ⟨_, rfl⟩
  rw [← hQ]
  have hR := tR_64 hT
  have hR1 := hT.1
  have h1R : 1 ≤ 2 ^ tR T := Nat.one_le_two_pow
  have loop : ∀ (n i : Nat) (v3 v4 v5 : pm_V) (N : pm_M), i + n = 2 ^ tR T - 1 → Lay N → MF [134, 135] [38] M N → FmAt N T v i → Wp (d + 3) 210 7 [(2, ((116 : Nat) : Int)), (0, (v : Int)), (0, ((i + 1 : Nat) : Int)), v3, v4, v5] [] N mc ms Q := by
    intro n
    induction n with
    | zero =>
      intro i v3 v4 v5 N hi lay hF hU
      have hM : MoAt N T := hM0.mf hF (by decide) (by decide) (by decide) (by decide)
      have ei : i = 2 ^ tR T - 1 := by omega
      refine g_iload_n lk_210_7 rfl ?_
      refine g_aload_n lk_210_8 rfl ?_
      refine g_virtual (p := 116) (Qc := _) lk_210_9 rfl (Nat.le_of_ble_eq_true rfl) rfl rfl (lay.on (by decide) rfl) (Nat.le_of_ble_eq_true rfl) (Nat.le_of_ble_eq_true rfl) (Nat.zero_le _) (Nat.zero_le _) (c_Mo_allRows lay hT hM) ?_
      rintro _ N1 ⟨rfl, hN1⟩
      rw [hN1]
      show Wp _ 210 12 [(2, ((116 : Nat) : Int)), (0, (v : Int)), (0, ((i + 1 : Nat) : Int)), v3, v4, v5] [(0, ((2 ^ tR T - 1 : Nat) : Int)), (0, ((i + 1 : Nat) : Int))] N _ _ _
      refine g_icmp (t := 141) lk_210_12 rfl (by first | (unfold pm_inI; omega) | exact pm_and_in _ _ | exact pm_shr_in _ _ | exact pm_or_in _ _ | exact pm_xor_in _ _ | exact pm_shl_in _ _ | exact pm_cmp_in _ _ | exact pm_b8_in _ | (unfold pm_inI; split <;> omega)) (by first | (unfold pm_inI; omega) | exact pm_and_in _ _ | exact pm_shr_in _ _ | exact pm_or_in _ _ | exact pm_xor_in _ _ | exact pm_shl_in _ _ | exact pm_cmp_in _ _ | exact pm_b8_in _ | (unfold pm_inI; split <;> omega)) (fun h2 => ?_) (fun h2 => ?_)
      · replace h2 : ((2 ^ tR T - 1 : Nat) : Int) < ((i + 1 : Nat) : Int) := h2
        refine g_return lk_210_141 ?_
        rw [hQ, ← ei]
        exact ⟨rfl, lay, hF, hU⟩
      · replace h2 : ¬ (((2 ^ tR T - 1 : Nat) : Int) < ((i + 1 : Nat) : Int)) := h2
        omega
    | succ n ih =>
      intro i v3 v4 v5 N hi lay hF hU
      have hM : MoAt N T := hM0.mf hF (by decide) (by decide) (by decide) (by decide)
      have k0 := fL_len T v i
      have k1 := oC_64 hT (i + 1) v
      have k2 := nV_36 hT (i + 1) (oC T (i + 1) v) v
      have fi := full_iff hT (v := v) (rs := i + 1) (by omega)
      obtain ⟨q38, qk⟩ := id hU
      have no : ¬ isFull T v (i + 1) = true → ∀ (m : Nat), m ≤ tR T → Wp (d + 3) 210 46 [(2, ((116 : Nat) : Int)), (0, (v : Int)), (0, ((i + 1 : Nat) : Int)), (0, ((oC T (i + 1) v : Nat) : Int)), (0, 0), (0, (m : Int))] [] N mc ms Q := by
        intro hn m hm
        have e : fL T v (i + 1) = fL T v i := fL_neg hn
        refine g_iload lk_210_46 rfl ?_
        refine g_aload_n lk_210_48 rfl ?_
        refine m_getfield (u := []) (M := N) lk_210_49 rfl (lay.on (by decide) rfl) (v := (tR T : Int)) hM.1 ?_
        refine g_icmp (t := 100) lk_210_52 rfl (by first | (unfold pm_inI; omega) | exact pm_and_in _ _ | exact pm_shr_in _ _ | exact pm_or_in _ _ | exact pm_xor_in _ _ | exact pm_shl_in _ _ | exact pm_cmp_in _ _ | exact pm_b8_in _ | (unfold pm_inI; split <;> omega)) (by first | (unfold pm_inI; omega) | exact pm_and_in _ _ | exact pm_shr_in _ _ | exact pm_or_in _ _ | exact pm_xor_in _ _ | exact pm_shl_in _ _ | exact pm_cmp_in _ _ | exact pm_b8_in _ | (unfold pm_inI; split <;> omega)) (fun h1 => ?_) (fun h1 => ?_)
        · replace h1 : (tR T : Int) ≤ (m : Int) := h1
          refine g_iload lk_210_100 rfl ?_
          refine g_if (t := 135) lk_210_102 rfl (by first | (unfold pm_inI; omega) | exact pm_and_in _ _ | exact pm_shr_in _ _ | exact pm_or_in _ _ | exact pm_xor_in _ _ | exact pm_shl_in _ _ | exact pm_cmp_in _ _ | exact pm_b8_in _ | (unfold pm_inI; split <;> omega)) (fun _ => ?_) (fun h => absurd (show (0 : Int) = (0 : Int) by omega) h)
          refine g_iinc (ls' := [(2, ((116 : Nat) : Int)), (0, (v : Int)), (0, (((i + 1 : Nat) : Int) + 1)), (0, ((oC T (i + 1) v : Nat) : Int)), (0, 0), (0, (m : Int))]) lk_210_135 rfl rfl rfl ?_
          refine g_goto (t := 7) lk_210_138 rfl ?_
          exact ih (i + 1) _ _ _ N (by omega) lay hF (by unfold FmAt; rw [e]; exact hU)
        · replace h1 : ¬ ((tR T : Int) ≤ (m : Int)) := h1
          refine g_iload lk_210_55 rfl ?_
          refine g_if (t := 100) lk_210_57 rfl (by first | (unfold pm_inI; omega) | exact pm_and_in _ _ | exact pm_shr_in _ _ | exact pm_or_in _ _ | exact pm_xor_in _ _ | exact pm_shl_in _ _ | exact pm_cmp_in _ _ | exact pm_b8_in _ | (unfold pm_inI; split <;> omega)) (fun _ => ?_) (fun h => absurd (show (0 : Int) = (0 : Int) by omega) h)
          refine g_iload lk_210_100 rfl ?_
          refine g_if (t := 135) lk_210_102 rfl (by first | (unfold pm_inI; omega) | exact pm_and_in _ _ | exact pm_shr_in _ _ | exact pm_or_in _ _ | exact pm_xor_in _ _ | exact pm_shl_in _ _ | exact pm_cmp_in _ _ | exact pm_b8_in _ | (unfold pm_inI; split <;> omega)) (fun _ => ?_) (fun h => absurd (show (0 : Int) = (0 : Int) by omega) h)
          refine g_iinc (ls' := [(2, ((116 : Nat) : Int)), (0, (v : Int)), (0, (((i + 1 : Nat) : Int) + 1)), (0, ((oC T (i + 1) v : Nat) : Int)), (0, 0), (0, (m : Int))]) lk_210_135 rfl rfl rfl ?_
          refine g_goto (t := 7) lk_210_138 rfl ?_
          exact ih (i + 1) _ _ _ N (by omega) lay hF (by unfold FmAt; rw [e]; exact hU)
      have yes : ∀ (p m : Nat), m + p = tR T → 0 < nV T (i + 1) (oC T (i + 1) v) v → (∀ j, j < m → (i + 1).testBit j = true ∨ ¬ (uRow T j v &&& oC T (i + 1) v = 0)) → Wp (d + 3) 210 46 [(2, ((116 : Nat) : Int)), (0, (v : Int)), (0, ((i + 1 : Nat) : Int)), (0, ((oC T (i + 1) v : Nat) : Int)), (0, 1), (0, (m : Int))] [] N mc ms Q := by
        intro p
        induction p with
        | zero =>
          intro m hm hp hj
          have em : m = tR T := by omega
          have e : fL T v (i + 1) = fL T v i ++ [i + 1] := fL_pos (fi.mpr ⟨hp, fun j q => hj j (by omega)⟩)
          refine g_iload lk_210_46 rfl ?_
          refine g_aload_n lk_210_48 rfl ?_
          refine m_getfield (u := []) (M := N) lk_210_49 rfl (lay.on (by decide) rfl) (v := (tR T : Int)) hM.1 ?_
          refine g_icmp (t := 100) lk_210_52 rfl (by first | (unfold pm_inI; omega) | exact pm_and_in _ _ | exact pm_shr_in _ _ | exact pm_or_in _ _ | exact pm_xor_in _ _ | exact pm_shl_in _ _ | exact pm_cmp_in _ _ | exact pm_b8_in _ | (unfold pm_inI; split <;> omega)) (by first | (unfold pm_inI; omega) | exact pm_and_in _ _ | exact pm_shr_in _ _ | exact pm_or_in _ _ | exact pm_xor_in _ _ | exact pm_shl_in _ _ | exact pm_cmp_in _ _ | exact pm_b8_in _ | (unfold pm_inI; split <;> omega)) (fun h1 => ?_) (fun h1 => ?_)
          · replace h1 : (tR T : Int) ≤ (m : Int) := h1
            refine g_iload lk_210_100 rfl ?_
            refine g_if (t := 135) lk_210_102 rfl (by first | (unfold pm_inI; omega) | exact pm_and_in _ _ | exact pm_shr_in _ _ | exact pm_or_in _ _ | exact pm_xor_in _ _ | exact pm_shl_in _ _ | exact pm_cmp_in _ _ | exact pm_b8_in _ | (unfold pm_inI; split <;> omega)) (fun h => absurd h (show ¬ ((1 : Int) = (0 : Int)) by omega)) (fun _ => ?_)
            refine g_aload_n lk_210_105 rfl ?_
            refine g_getfield lk_210_106 rfl (lay.on (by decide) rfl) (v := ((134 : Nat) : Int)) (lay.rf rfl) ?_
            refine g_aload_n lk_210_109 rfl ?_
            refine m_getfield (u := []) (M := N) lk_210_110 rfl (lay.on (by decide) rfl) (v := ((fL T v i).length : Int)) q38 ?_
            refine g_iload_n lk_210_113 rfl ?_
            have lay2 : Lay (Mu [(134, pm_upd (pm_ct N 134) (((fL T v i).length : Int).toNat) ((i + 1 : Nat) : Int))] N) := lay.muA (l := []) (a := 134) (f := pm_upd (pm_ct N 134) (((fL T v i).length : Int).toNat) ((i + 1 : Nat) : Int)) rfl rfl
            refine m_iastore (u := []) (u' := [(134, pm_upd (pm_ct N 134) (((fL T v i).length : Int).toNat) ((i + 1 : Nat) : Int))]) (M := N) lk_210_114 (lay.ay (by decide) rfl) (by omega) (j := ((fL T v i).length : Int).toNat) (by omega) rfl ?_
            refine g_aload_n lk_210_115 rfl ?_
            refine g_getfield lk_210_116 rfl (lay2.on (by decide) rfl) (v := ((135 : Nat) : Int)) (lay2.rf rfl) ?_
            refine g_aload_n lk_210_119 rfl ?_
            refine m_getfield (u := [(134, pm_upd (pm_ct N 134) (((fL T v i).length : Int).toNat) ((i + 1 : Nat) : Int))]) (M := N) lk_210_120 rfl (lay2.on (by decide) rfl) (v := ((fL T v i).length : Int)) q38 ?_
            refine g_iload_n lk_210_123 rfl ?_
            have lay3 : Lay (Mu [(134, pm_upd (pm_ct N 134) (((fL T v i).length : Int).toNat) ((i + 1 : Nat) : Int)), (135, pm_upd (pm_ct N 135) (((fL T v i).length : Int).toNat) ((oC T (i + 1) v : Nat) : Int))] N) := lay2.muA (l := [(134, pm_upd (pm_ct N 134) (((fL T v i).length : Int).toNat) ((i + 1 : Nat) : Int))]) (a := 135) (f := pm_upd (pm_ct N 135) (((fL T v i).length : Int).toNat) ((oC T (i + 1) v : Nat) : Int)) rfl rfl
            refine m_iastore (u := [(134, pm_upd (pm_ct N 134) (((fL T v i).length : Int).toNat) ((i + 1 : Nat) : Int))]) (u' := [(134, pm_upd (pm_ct N 134) (((fL T v i).length : Int).toNat) ((i + 1 : Nat) : Int)), (135, pm_upd (pm_ct N 135) (((fL T v i).length : Int).toNat) ((oC T (i + 1) v : Nat) : Int))]) (M := N) lk_210_124 (lay2.ay (by decide) rfl) (by omega) (j := ((fL T v i).length : Int).toNat) (by omega) rfl ?_
            refine g_aload_n lk_210_125 rfl ?_
            refine g_dup lk_210_126 rfl ?_
            refine m_getfield (u := [(134, pm_upd (pm_ct N 134) (((fL T v i).length : Int).toNat) ((i + 1 : Nat) : Int)), (135, pm_upd (pm_ct N 135) (((fL T v i).length : Int).toNat) ((oC T (i + 1) v : Nat) : Int))]) (M := N) lk_210_127 rfl (lay3.on (by decide) rfl) (v := ((fL T v i).length : Int)) q38 ?_
            refine g_iconst lk_210_130 ?_
            refine g_iadd lk_210_131 ?_
            have lay4 : Lay (Mu [(134, pm_upd (pm_ct N 134) (((fL T v i).length : Int).toNat) ((i + 1 : Nat) : Int)), (135, pm_upd (pm_ct N 135) (((fL T v i).length : Int).toNat) ((oC T (i + 1) v : Nat) : Int)), (116, pm_upd (pm_ct N 116) 38 (((fL T v i).length : Int) + 1))] N) := lay3.muF (l := [(134, pm_upd (pm_ct N 134) (((fL T v i).length : Int).toNat) ((i + 1 : Nat) : Int)), (135, pm_upd (pm_ct N 135) (((fL T v i).length : Int).toNat) ((oC T (i + 1) v : Nat) : Int))]) (a := 116) (k := 38) (z := (((fL T v i).length : Int) + 1)) rfl rfl
            refine m_putfield (u := [(134, pm_upd (pm_ct N 134) (((fL T v i).length : Int).toNat) ((i + 1 : Nat) : Int)), (135, pm_upd (pm_ct N 135) (((fL T v i).length : Int).toNat) ((oC T (i + 1) v : Nat) : Int))]) (u' := [(134, pm_upd (pm_ct N 134) (((fL T v i).length : Int).toNat) ((i + 1 : Nat) : Int)), (135, pm_upd (pm_ct N 135) (((fL T v i).length : Int).toNat) ((oC T (i + 1) v : Nat) : Int)), (116, pm_upd (pm_ct N 116) 38 (((fL T v i).length : Int) + 1))]) (M := N) lk_210_132 rfl (lay3.on (by decide) rfl) (fun h => absurd h (by decide)) rfl ?_
            refine g_iinc (ls' := [(2, ((116 : Nat) : Int)), (0, (v : Int)), (0, (((i + 1 : Nat) : Int) + 1)), (0, ((oC T (i + 1) v : Nat) : Int)), (0, 1), (0, (m : Int))]) lk_210_135 rfl rfl rfl ?_
            refine g_goto (t := 7) lk_210_138 rfl ?_
            refine ih (i + 1) _ _ _ _ (by omega) lay4 (hF.trans (MF.mu _ _ rfl (fun k hk => upd_ne (by intro q; rw [q] at hk; exact hk (by decide))))) ?_
            unfold FmAt
            rw [e, List.length_append]
            refine ⟨?_, fun k hk => ?_⟩
            · rw [Mu_ct]; rfl
            · replace hk : k < (fL T v i).length + 1 := hk
              rw [Mu_ct, Mu_ct]
              show pm_upd (pm_ct N 134) (fL T v i).length _ k = _ ∧ pm_upd (pm_ct N 135) (fL T v i).length _ k = _
              unfold pm_upd
              by_cases h : k = (fL T v i).length
              · rw [if_pos h, if_pos h, h, getD_app_eq]; exact ⟨rfl, rfl⟩
              · rw [if_neg h, if_neg h, getD_app_lt (by omega)]; exact qk k (by omega)
          · replace h1 : ¬ ((tR T : Int) ≤ (m : Int)) := h1
            omega
        | succ p ihp =>
          intro m hm hp hj
          have k3 : pm_shl 1 (m : Int) = ((2 ^ m : Nat) : Int) := pm_shl_1 (by omega)
          have k4 : pm_shl 1 (v : Int) = ((2 ^ v : Nat) : Int) := pm_shl_1 (by omega)
          have k5 := pm_nandV (vIn_lt T (2 ^ m) (oC T (i + 1) v)) hv
          rw [← k4] at k5
          have k6 := vIn_and hT (r := m) (v := v) (cs := oC T (i + 1) v) (by omega) hv
          have k7 : 2 ^ m < 64 := Nat.lt_of_lt_of_le (Nat.pow_lt_pow_right (by omega) (by omega : m < 6)) (by decide)
          have nx : ((i + 1).testBit m = true ∨ ¬ (uRow T m v &&& oC T (i + 1) v = 0)) → ∀ j, j < m + 1 → (i + 1).testBit j = true ∨ ¬ (uRow T j v &&& oC T (i + 1) v = 0) := fun q j h => by
            by_cases ej : j = m
            · subst ej; exact q
            · exact hj j (by omega)
          refine g_iload lk_210_46 rfl ?_
          refine g_aload_n lk_210_48 rfl ?_
          refine m_getfield (u := []) (M := N) lk_210_49 rfl (lay.on (by decide) rfl) (v := (tR T : Int)) hM.1 ?_
          refine g_icmp (t := 100) lk_210_52 rfl (by first | (unfold pm_inI; omega) | exact pm_and_in _ _ | exact pm_shr_in _ _ | exact pm_or_in _ _ | exact pm_xor_in _ _ | exact pm_shl_in _ _ | exact pm_cmp_in _ _ | exact pm_b8_in _ | (unfold pm_inI; split <;> omega)) (by first | (unfold pm_inI; omega) | exact pm_and_in _ _ | exact pm_shr_in _ _ | exact pm_or_in _ _ | exact pm_xor_in _ _ | exact pm_shl_in _ _ | exact pm_cmp_in _ _ | exact pm_b8_in _ | (unfold pm_inI; split <;> omega)) (fun h1 => ?_) (fun h1 => ?_)
          · replace h1 : (tR T : Int) ≤ (m : Int) := h1
            omega
          · replace h1 : ¬ ((tR T : Int) ≤ (m : Int)) := h1
            refine g_iload lk_210_55 rfl ?_
            refine g_if (t := 100) lk_210_57 rfl (by first | (unfold pm_inI; omega) | exact pm_and_in _ _ | exact pm_shr_in _ _ | exact pm_or_in _ _ | exact pm_xor_in _ _ | exact pm_shl_in _ _ | exact pm_cmp_in _ _ | exact pm_b8_in _ | (unfold pm_inI; split <;> omega)) (fun h => absurd h (show ¬ ((1 : Int) = (0 : Int)) by omega)) (fun _ => ?_)
            refine g_iload_n lk_210_60 rfl ?_
            refine g_iload lk_210_61 rfl ?_
            refine g_static (Qc := _) lk_210_63 (by decide) rfl (Nat.le_of_ble_eq_true rfl) rfl rfl (Nat.le_of_ble_eq_true rfl) (Nat.le_of_ble_eq_true rfl) (Nat.zero_le _) (Nat.zero_le _) (c_Mo_isOf (by omega) (by omega)) ?_
            rintro _ N2 ⟨rfl, hN2⟩
            rw [hN2]
            show Wp _ 210 66 [(2, ((116 : Nat) : Int)), (0, (v : Int)), (0, ((i + 1 : Nat) : Int)), (0, ((oC T (i + 1) v : Nat) : Int)), (0, 1), (0, (m : Int))] [(0, (if Nat.testBit (i + 1) m then (1 : Int) else 0))] N _ _ _
            refine g_if (t := 87) lk_210_66 rfl (by first | (unfold pm_inI; omega) | exact pm_and_in _ _ | exact pm_shr_in _ _ | exact pm_or_in _ _ | exact pm_xor_in _ _ | exact pm_shl_in _ _ | exact pm_cmp_in _ _ | exact pm_b8_in _ | (unfold pm_inI; split <;> omega)) (fun h3 => ?_) (fun h3 => ?_)
            · replace h3 : ¬ (if Nat.testBit (i + 1) m then (1 : Int) else 0) = 0 := h3
              refine g_iconst lk_210_87 ?_
              refine g_goto (t := 92) lk_210_88 rfl ?_
              refine g_istore (ls' := [(2, ((116 : Nat) : Int)), (0, (v : Int)), (0, ((i + 1 : Nat) : Int)), (0, ((oC T (i + 1) v : Nat) : Int)), (0, 1), (0, (m : Int))]) lk_210_92 rfl rfl ?_
              refine g_iinc (ls' := [(2, ((116 : Nat) : Int)), (0, (v : Int)), (0, ((i + 1 : Nat) : Int)), (0, ((oC T (i + 1) v : Nat) : Int)), (0, 1), (0, ((m : Int) + 1))]) lk_210_94 rfl rfl rfl ?_
              refine g_goto (t := 46) lk_210_97 rfl ?_
              exact ihp (m + 1) (by omega) hp (nx (Or.inl (by simp_all)))
            · replace h3 : ¬ (¬ (if Nat.testBit (i + 1) m then (1 : Int) else 0) = 0) := h3
              refine g_aload_n lk_210_69 rfl ?_
              refine g_iconst lk_210_70 ?_
              refine g_iload lk_210_71 rfl ?_
              refine g_ishl lk_210_73 ?_
              refine g_iload_n lk_210_74 rfl ?_
              refine g_virtual (p := 116) (Qc := _) lk_210_75 rfl (Nat.le_of_ble_eq_true rfl) rfl rfl (lay.on (by decide) rfl) (Nat.le_of_ble_eq_true rfl) (Nat.le_of_ble_eq_true rfl) (Nat.zero_le _) (Nat.zero_le _) ((by rw [k3]; exact c_Mo_valuesIn lay hT hM k7 k1)) ?_
              rintro _ N4 ⟨rfl, hN4⟩
              rw [hN4]
              show Wp _ 210 78 [(2, ((116 : Nat) : Int)), (0, (v : Int)), (0, ((i + 1 : Nat) : Int)), (0, ((oC T (i + 1) v : Nat) : Int)), (0, 1), (0, (m : Int))] [(0, ((vIn T (2 ^ m) (oC T (i + 1) v) : Nat) : Int))] N _ _ _
              refine g_iconst lk_210_78 ?_
              refine g_iload_n lk_210_79 rfl ?_
              refine g_ishl lk_210_80 ?_
              refine g_iconst lk_210_81 ?_
              refine g_ixor lk_210_82 ?_
              refine g_iand lk_210_83 ?_
              refine g_if (t := 91) lk_210_84 rfl (by first | (unfold pm_inI; omega) | exact pm_and_in _ _ | exact pm_shr_in _ _ | exact pm_or_in _ _ | exact pm_xor_in _ _ | exact pm_shl_in _ _ | exact pm_cmp_in _ _ | exact pm_b8_in _ | (unfold pm_inI; split <;> omega)) (fun h5 => ?_) (fun h5 => ?_)
              · replace h5 : (pm_and ((vIn T (2 ^ m) (oC T (i + 1) v) : Nat) : Int) (pm_xor (pm_shl 1 (v : Int)) (-1))) = 0 := h5
                refine g_iconst lk_210_91 ?_
                refine g_istore (ls' := [(2, ((116 : Nat) : Int)), (0, (v : Int)), (0, ((i + 1 : Nat) : Int)), (0, ((oC T (i + 1) v : Nat) : Int)), (0, 0), (0, (m : Int))]) lk_210_92 rfl rfl ?_
                refine g_iinc (ls' := [(2, ((116 : Nat) : Int)), (0, (v : Int)), (0, ((i + 1 : Nat) : Int)), (0, ((oC T (i + 1) v : Nat) : Int)), (0, 0), (0, ((m : Int) + 1))]) lk_210_94 rfl rfl rfl ?_
                refine g_goto (t := 46) lk_210_97 rfl ?_
                rw [k5] at h5
                refine no (fun q => ?_) (m + 1) (by omega)
                rcases (fi.mp q).2 m (by omega) with z | z
                · simp_all
                · exact z (k6.mp (by omega))
              · replace h5 : ¬ ((pm_and ((vIn T (2 ^ m) (oC T (i + 1) v) : Nat) : Int) (pm_xor (pm_shl 1 (v : Int)) (-1))) = 0) := h5
                refine g_iconst lk_210_87 ?_
                refine g_goto (t := 92) lk_210_88 rfl ?_
                refine g_istore (ls' := [(2, ((116 : Nat) : Int)), (0, (v : Int)), (0, ((i + 1 : Nat) : Int)), (0, ((oC T (i + 1) v : Nat) : Int)), (0, 1), (0, (m : Int))]) lk_210_92 rfl rfl ?_
                refine g_iinc (ls' := [(2, ((116 : Nat) : Int)), (0, (v : Int)), (0, ((i + 1 : Nat) : Int)), (0, ((oC T (i + 1) v : Nat) : Int)), (0, 1), (0, ((m : Int) + 1))]) lk_210_94 rfl rfl rfl ?_
                refine g_goto (t := 46) lk_210_97 rfl ?_
                rw [k5] at h5
                exact ihp (m + 1) (by omega) hp (nx (Or.inr (fun z => h5 (by rw [k6.mpr z]; rfl))))
      refine g_iload_n lk_210_7 rfl ?_
      refine g_aload_n lk_210_8 rfl ?_
      refine g_virtual (p := 116) (Qc := _) lk_210_9 rfl (Nat.le_of_ble_eq_true rfl) rfl rfl (lay.on (by decide) rfl) (Nat.le_of_ble_eq_true rfl) (Nat.le_of_ble_eq_true rfl) (Nat.zero_le _) (Nat.zero_le _) (c_Mo_allRows lay hT hM) ?_
      rintro _ N1 ⟨rfl, hN1⟩
      rw [hN1]
      show Wp _ 210 12 [(2, ((116 : Nat) : Int)), (0, (v : Int)), (0, ((i + 1 : Nat) : Int)), v3, v4, v5] [(0, ((2 ^ tR T - 1 : Nat) : Int)), (0, ((i + 1 : Nat) : Int))] N _ _ _
      refine g_icmp (t := 141) lk_210_12 rfl (by first | (unfold pm_inI; omega) | exact pm_and_in _ _ | exact pm_shr_in _ _ | exact pm_or_in _ _ | exact pm_xor_in _ _ | exact pm_shl_in _ _ | exact pm_cmp_in _ _ | exact pm_b8_in _ | (unfold pm_inI; split <;> omega)) (by first | (unfold pm_inI; omega) | exact pm_and_in _ _ | exact pm_shr_in _ _ | exact pm_or_in _ _ | exact pm_xor_in _ _ | exact pm_shl_in _ _ | exact pm_cmp_in _ _ | exact pm_b8_in _ | (unfold pm_inI; split <;> omega)) (fun h2 => ?_) (fun h2 => ?_)
      · replace h2 : ((2 ^ tR T - 1 : Nat) : Int) < ((i + 1 : Nat) : Int) := h2
        refine g_return lk_210_141 ?_
        omega
      · replace h2 : ¬ (((2 ^ tR T - 1 : Nat) : Int) < ((i + 1 : Nat) : Int)) := h2
        refine g_aload_n lk_210_15 rfl ?_
        refine g_iload_n lk_210_16 rfl ?_
        refine g_iload_n lk_210_17 rfl ?_
        refine g_virtual (p := 116) (Qc := _) lk_210_18 rfl (Nat.le_of_ble_eq_true rfl) rfl rfl (lay.on (by decide) rfl) (Nat.le_of_ble_eq_true rfl) (Nat.le_of_ble_eq_true rfl) (Nat.zero_le _) (Nat.zero_le _) (c_Mo_columnsFor lay hT hM (by omega) (by omega)) ?_
        rintro _ N3 ⟨rfl, hN3⟩
        rw [hN3]
        show Wp _ 210 21 [(2, ((116 : Nat) : Int)), (0, (v : Int)), (0, ((i + 1 : Nat) : Int)), v3, v4, v5] [(0, ((oC T (i + 1) v : Nat) : Int))] N _ _ _
        refine g_istore_n (ls' := [(2, ((116 : Nat) : Int)), (0, (v : Int)), (0, ((i + 1 : Nat) : Int)), (0, ((oC T (i + 1) v : Nat) : Int)), v4, v5]) lk_210_21 rfl rfl ?_
        refine g_iload_n lk_210_22 rfl ?_
        refine g_if (t := 40) lk_210_23 rfl (by first | (unfold pm_inI; omega) | exact pm_and_in _ _ | exact pm_shr_in _ _ | exact pm_or_in _ _ | exact pm_xor_in _ _ | exact pm_shl_in _ _ | exact pm_cmp_in _ _ | exact pm_b8_in _ | (unfold pm_inI; split <;> omega)) (fun h4 => ?_) (fun h4 => ?_)
        · replace h4 : ((oC T (i + 1) v : Nat) : Int) = 0 := h4
          refine g_iconst lk_210_40 ?_
          refine g_istore (ls' := [(2, ((116 : Nat) : Int)), (0, (v : Int)), (0, ((i + 1 : Nat) : Int)), (0, ((oC T (i + 1) v : Nat) : Int)), (0, 0), v5]) lk_210_41 rfl rfl ?_
          refine g_iconst lk_210_43 ?_
          refine g_istore (ls' := [(2, ((116 : Nat) : Int)), (0, (v : Int)), (0, ((i + 1 : Nat) : Int)), (0, ((oC T (i + 1) v : Nat) : Int)), (0, 0), (0, 0)]) lk_210_44 rfl rfl ?_
          exact no (fun q => nV_oC0 (fi.mp q).1 (by omega)) 0 (by omega)
        · replace h4 : ¬ (((oC T (i + 1) v : Nat) : Int) = 0) := h4
          refine g_aload_n lk_210_26 rfl ?_
          refine g_iload_n lk_210_27 rfl ?_
          refine g_iload_n lk_210_28 rfl ?_
          refine g_iload_n lk_210_29 rfl ?_
          refine g_virtual (p := 116) (Qc := _) lk_210_30 rfl (Nat.le_of_ble_eq_true rfl) rfl rfl (lay.on (by decide) rfl) (Nat.le_of_ble_eq_true rfl) (Nat.le_of_ble_eq_true rfl) (Nat.zero_le _) (Nat.zero_le _) (c_Mo_countV lay hT hM (by omega) (by omega) (by omega)) ?_
          rintro _ N5 ⟨rfl, hN5⟩
          rw [hN5]
          show Wp _ 210 33 [(2, ((116 : Nat) : Int)), (0, (v : Int)), (0, ((i + 1 : Nat) : Int)), (0, ((oC T (i + 1) v : Nat) : Int)), v4, v5] [(0, (nV T (i + 1) (oC T (i + 1) v) v : Int))] N _ _ _
          refine g_if (t := 40) lk_210_33 rfl (by first | (unfold pm_inI; omega) | exact pm_and_in _ _ | exact pm_shr_in _ _ | exact pm_or_in _ _ | exact pm_xor_in _ _ | exact pm_shl_in _ _ | exact pm_cmp_in _ _ | exact pm_b8_in _ | (unfold pm_inI; split <;> omega)) (fun h6 => ?_) (fun h6 => ?_)
          · replace h6 : (nV T (i + 1) (oC T (i + 1) v) v : Int) ≤ 0 := h6
            refine g_iconst lk_210_40 ?_
            refine g_istore (ls' := [(2, ((116 : Nat) : Int)), (0, (v : Int)), (0, ((i + 1 : Nat) : Int)), (0, ((oC T (i + 1) v : Nat) : Int)), (0, 0), v5]) lk_210_41 rfl rfl ?_
            refine g_iconst lk_210_43 ?_
            refine g_istore (ls' := [(2, ((116 : Nat) : Int)), (0, (v : Int)), (0, ((i + 1 : Nat) : Int)), (0, ((oC T (i + 1) v : Nat) : Int)), (0, 0), (0, 0)]) lk_210_44 rfl rfl ?_
            exact no (fun q => by have := (fi.mp q).1; omega) 0 (by omega)
          · replace h6 : ¬ ((nV T (i + 1) (oC T (i + 1) v) v : Int) ≤ 0) := h6
            refine g_iconst lk_210_36 ?_
            refine g_goto (t := 41) lk_210_37 rfl ?_
            refine g_istore (ls' := [(2, ((116 : Nat) : Int)), (0, (v : Int)), (0, ((i + 1 : Nat) : Int)), (0, ((oC T (i + 1) v : Nat) : Int)), (0, 1), v5]) lk_210_41 rfl rfl ?_
            refine g_iconst lk_210_43 ?_
            refine g_istore (ls' := [(2, ((116 : Nat) : Int)), (0, (v : Int)), (0, ((i + 1 : Nat) : Int)), (0, ((oC T (i + 1) v : Nat) : Int)), (0, 1), (0, 0)]) lk_210_44 rfl rfl ?_
            exact yes (tR T) 0 (by omega) (by omega) (fun j h => absurd h (Nat.not_lt_zero j))
  show Wp (d + 3) 210 0 [(2, ((116 : Nat) : Int)), (0, (v : Int)), (9, 0), (9, 0), (9, 0), (9, 0)] [] M mc ms Q
  refine g_aload_n lk_210_0 rfl ?_
  refine g_iconst lk_210_1 ?_
  have lay1 : Lay (Mu [(116, pm_upd (pm_ct M 116) 38 0)] M) := lay0.muF (l := []) (a := 116) (k := 38) (z := 0) rfl rfl
  refine m_putfield (u := []) (u' := [(116, pm_upd (pm_ct M 116) 38 0)]) (M := M) lk_210_2 rfl (lay0.on (by decide) rfl) (fun h => absurd h (by decide)) rfl ?_
  refine g_iconst lk_210_5 ?_
  refine g_istore_n (ls' := [(2, ((116 : Nat) : Int)), (0, (v : Int)), (0, 1), (9, 0), (9, 0), (9, 0)]) lk_210_6 rfl rfl ?_
  refine loop (2 ^ tR T - 1) 0 _ _ _ _ (by omega) lay1 (MF.mu _ _ rfl (fun k hk => upd_ne (by intro q; rw [q] at hk; exact hk (by decide)))) ⟨?_, fun k hk => absurd hk (Nat.not_lt_zero k)⟩
  rw [Mu_ct]; rfl
