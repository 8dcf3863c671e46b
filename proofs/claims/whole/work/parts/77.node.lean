/-! ===== the class: node ===== -/
def ndOf (L : List Nd) (k w : Int) : Int := if k < 0 ∨ (L.length : Int) ≤ k then -1 else if w = 0 then ((L.getD k.toNat (0, 0, 0)).1 : Int) else if w = 1 then ((L.getD k.toNat (0, 0, 0)).2.1 : Int) else if w = 2 then (L.getD k.toNat (0, 0, 0)).2.2 else -1
/-- the tree as told last -/
def CN (M : pm_M) (T : Tab) (h B g : Nat) : Prop := pm_ct M B 6 = (g : Int) ∧ g ≤ 1 ∧ (g = 1 → pm_ct M (B + 2) 3 = ((GT T h).length : Int) ∧ NdL M (B + 3) (B + 4) (B + 5) (GT T h))
theorem CN.fr {S : List Nat} {M N : pm_M} {T : Tab} {h B g : Nat} (q : CN M T h B g) (k : Gr S M N) (h0 : B + 5 < M.1) (h1 : B ∉ S) (h2 : B + 2 ∉ S) (h3 : B + 3 ∉ S) (h4 : B + 4 ∉ S) (h5 : B + 5 ∉ S) : CN N T h B g := by
  obtain ⟨a1, a2, a3⟩ := q
  refine ⟨by rw [k.ct (by omega) h1]; exact a1, a2, fun e => ⟨by rw [k.ct (by omega) h2]; exact (a3 e).1, (a3 e).2.of (k.ct (by omega) h3) (k.ct (by omega) h4) (k.ct (by omega) h5)⟩⟩
theorem GT_len {T : Tab} (hT : TabOK T) (h : Nat) : (GT T h).length ≤ 71 := by
  have wh := whole_in hT
  have a1 := gt_len hT h 12 (2 ^ tR T - 1) (2 ^ tC T - 1) 0 wh
  obtain ⟨r64, c64⟩ := (show inT T _ _ from wh).r hT
  have p6 : ∀ s : Fin 64, pop (s : Nat) ≤ 6 := by decide +kernel
  have q1 := p6 ⟨_, r64⟩
  have q2 := p6 ⟨_, c64⟩
  have : pop (2 ^ tR T - 1) * pop (2 ^ tC T - 1) ≤ 6 * 6 := Nat.mul_le_mul q1 q2
  unfold GT
  omega
theorem GT_pop {T : Tab} (hT : TabOK T) : pop (2 ^ tR T - 1) + pop (2 ^ tC T - 1) ≤ 12 := by
  obtain ⟨r64, c64⟩ := (show inT T _ _ from whole_in hT).r hT
  have p6 : ∀ s : Fin 64, pop (s : Nat) ≤ 6 := by decide +kernel
  have q1 : pop (2 ^ tR T - 1) ≤ 6 := p6 ⟨_, r64⟩
  have q2 : pop (2 ^ tC T - 1) ≤ 6 := p6 ⟨_, c64⟩
  omega
theorem c_Nodes_tellNode0 {d mc ms : Nat} {M : pm_M} (lay : Lay M) {L : List Nd} (hct : pm_ct M 100 3 = (L.length : Int)) (hL : NdL M 101 102 103 L) (h71 : L.length ≤ 71) {k w : Int} (hk : pm_inI k) (hw : pm_inI w) :
    pm_E d 38 [(2, ((100 : Nat) : Int)), (0, k), (0, w)] M mc ms (fun ρ M' => ρ = some (0, ndOf L k w) ∧ M' = M) := by
  obtain ⟨l, hl⟩ : ∃ l, l = L.length := ⟨_, rfl⟩
  rw [← hl] at hct h71
  show Wp d 38 0 [(2, ((100 : Nat) : Int)), (0, k), (0, w)] [] M mc ms _
  by_cases h0 : k < 0 ∨ (l : Int) ≤ k
  · skip
    refine g_iload_n lk_38_0 rfl ?_
    refine g_if (t := 12) lk_38_1 rfl (by first | assumption | (unfold pm_inI; omega)) (fun h1 => ?_) (fun h1 => ?_)
    · replace h1 : k < 0 := h1
      refine g_iconst lk_38_12 ?_
      refine g_ireturn lk_38_13 (fun h => absurd h (by decide)) ?_
      exact ⟨by unfold ndOf; rw [if_pos (by omega)], rfl⟩
    · replace h1 : ¬ (k < 0) := h1
      refine g_iload_n lk_38_4 rfl ?_
      refine g_aload_n lk_38_5 rfl ?_
      refine m_getfield (u := []) (M := M) lk_38_6 rfl (lay.on (by decide) rfl) (v := (l : Int)) hct ?_
      refine g_icmp (t := 14) lk_38_9 rfl (by first | assumption | (unfold pm_inI; omega)) (by first | assumption | (unfold pm_inI; omega)) (fun h2 => ?_) (fun h2 => ?_)
      · replace h2 : k < (l : Int) := h2
        omega
      · replace h2 : ¬ (k < (l : Int)) := h2
        refine g_iconst lk_38_12 ?_
        refine g_ireturn lk_38_13 (fun h => absurd h (by decide)) ?_
        exact ⟨by unfold ndOf; rw [if_pos (by omega)], rfl⟩
  obtain ⟨i, rfl⟩ := Int.eq_ofNat_of_zero_le (show 0 ≤ k by omega)
  obtain ⟨x, hx⟩ : ∃ x, L[i]? = some x := ⟨L[i]'(by omega), List.getElem?_eq_getElem (by omega)⟩
  have xx := hL i x hx
  have gd : L.getD i (0, 0, 0) = x := by rw [List.getD_eq_getElem?_getD, hx]; rfl
  have nd : ndOf L (i : Int) w = if w = 0 then (x.1 : Int) else if w = 1 then (x.2.1 : Int) else if w = 2 then x.2.2 else -1 := by
    unfold ndOf
    rw [if_neg (by omega), Int.toNat_natCast, gd]
  rw [nd]
  refine g_iload_n lk_38_0 rfl ?_
  refine g_if (t := 12) lk_38_1 rfl (by first | assumption | (unfold pm_inI; omega)) (fun h1 => ?_) (fun h1 => ?_)
  · replace h1 : (i : Int) < 0 := h1
    refine g_iconst lk_38_12 ?_
    refine g_ireturn lk_38_13 (fun h => absurd h (by decide)) ?_
    omega
  · replace h1 : ¬ ((i : Int) < 0) := h1
    refine g_iload_n lk_38_4 rfl ?_
    refine g_aload_n lk_38_5 rfl ?_
    refine m_getfield (u := []) (M := M) lk_38_6 rfl (lay.on (by decide) rfl) (v := (l : Int)) hct ?_
    refine g_icmp (t := 14) lk_38_9 rfl (by first | assumption | (unfold pm_inI; omega)) (by first | assumption | (unfold pm_inI; omega)) (fun h2 => ?_) (fun h2 => ?_)
    · replace h2 : (i : Int) < (l : Int) := h2
      refine g_iload_n lk_38_14 rfl ?_
      refine g_tsw lk_38_15 (by first | assumption | (unfold pm_inI; omega)) (And.intro (fun h3 => ?_) (fun h3 => (And.intro (fun h4 => ?_) (fun h4 => (And.intro (fun h5 => ?_) (fun h5 => ?_))))))
      · replace h3 : w = 0 := h3
        show Wp _ 38 40 [(2, ((100 : Nat) : Int)), (0, (i : Int)), (0, w)] [] M _ _ _
        refine g_aload_n lk_38_40 rfl ?_
        refine g_getfield lk_38_41 rfl (lay.on (by decide) rfl) (v := ((101 : Nat) : Int)) (lay.rf rfl) ?_
        refine g_iload_n lk_38_44 rfl ?_
        refine m_iaload (u := []) (M := M) lk_38_45 (lay.ay (by decide) rfl) (by omega) (j := i) (by omega) (v := (x.1 : Int)) xx.1 ?_
        refine g_ireturn lk_38_46 (fun h => absurd h (by decide)) ?_
        exact ⟨by rw [if_pos (by omega)], rfl⟩
      · replace h4 : w = 1 := h4
        show Wp _ 38 47 [(2, ((100 : Nat) : Int)), (0, (i : Int)), (0, w)] [] M _ _ _
        refine g_aload_n lk_38_47 rfl ?_
        refine g_getfield lk_38_48 rfl (lay.on (by decide) rfl) (v := ((102 : Nat) : Int)) (lay.rf rfl) ?_
        refine g_iload_n lk_38_51 rfl ?_
        refine m_iaload (u := []) (M := M) lk_38_52 (lay.ay (by decide) rfl) (by omega) (j := i) (by omega) (v := (x.2.1 : Int)) xx.2.1 ?_
        refine g_ireturn lk_38_53 (fun h => absurd h (by decide)) ?_
        exact ⟨by rw [if_neg (by omega), if_pos (by omega)], rfl⟩
      · replace h5 : w = 2 := h5
        show Wp _ 38 54 [(2, ((100 : Nat) : Int)), (0, (i : Int)), (0, w)] [] M _ _ _
        refine g_aload_n lk_38_54 rfl ?_
        refine g_getfield lk_38_55 rfl (lay.on (by decide) rfl) (v := ((103 : Nat) : Int)) (lay.rf rfl) ?_
        refine g_iload_n lk_38_58 rfl ?_
        refine m_iaload (u := []) (M := M) lk_38_59 (lay.ay (by decide) rfl) (by omega) (j := i) (by omega) (v := x.2.2) xx.2.2 ?_
        refine g_ireturn lk_38_60 (fun h => absurd h (by decide)) ?_
        exact ⟨by rw [if_neg (by omega), if_neg (by omega), if_pos (by omega)], rfl⟩
      · show Wp _ 38 61 [(2, ((100 : Nat) : Int)), (0, (i : Int)), (0, w)] [] M _ _ _
        replace h3 : ¬ w = 0 := h3
        replace h4 : ¬ w = 1 := h4
        replace h5 : ¬ w = 2 := h5
        refine g_iconst lk_38_61 ?_
        refine g_ireturn lk_38_62 (fun h => absurd h (by decide)) ?_
        exact ⟨by rw [if_neg (by omega), if_neg (by omega), if_neg (by omega)], rfl⟩
    · replace h2 : ¬ ((i : Int) < (l : Int)) := h2
      refine g_iconst lk_38_12 ?_
      refine g_ireturn lk_38_13 (fun h => absurd h (by decide)) ?_
      omega
set_option maxHeartbeats 4000000 in
theorem c_Best_tellTree0 {d mc ms : Nat} {M : pm_M} (lay0 : Lay M) {T : Tab} (hT : TabOK T) (hM0 : TbAt M 24 T) {s fa w f g : Nat} (hA0 : CA M T s fa) (hB0 : CB M T 0 98 w f) (hN0 : CN M T 0 98 g) (hff : f = 1 → fa = 1) (hgf : g = 1 → f = 1) (hsw : s ≠ w) (b1 : 2 ≤ mc) (b2 : 8192 ≤ ms) :
    pm_E (d + 16) 16 [(2, ((98 : Nat) : Int))] M mc ms (fun ρ M' => ρ = some (2, ((100 : Nat) : Int)) ∧ Lay M' ∧ TbAt M' 24 T ∧ ∃ s' w', CA M' T s' 1 ∧ CB M' T 0 98 w' 1 ∧ CN M' T 0 98 1 ∧ (s' = s ∨ M.1 ≤ s') ∧ (w' = w ∨ M.1 ≤ w') ∧ s' ≠ w' ∧ Gr [44, s, 98, w, 100, 101, 102, 103] M M') := by
  obtain ⟨Q, hQ⟩ : ∃ Q : pm_Q, Q = (fun ρ M' => ρ = some (2, ((100 : Nat) : Int)) ∧ Lay M' ∧ TbAt M' 24 T ∧ ∃ s' w', CA M' T s' 1 ∧ CB M' T 0 98 w' 1 ∧ CN M' T 0 98 1 ∧ (s' = s ∨ M.1 ≤ s') ∧ (w' = w ∨ M.1 ≤ w') ∧ s' ≠ w' ∧ Gr [44, s, 98, w, 100, 101, 102, 103] M M') := ⟨_, rfl⟩
  rw [← hQ]
  have ht : (24 : Nat) = 4 ∨ (24 : Nat) = 24 := Or.inr rfl
  have M157 := lay0.1
  show Wp (d + 16) 16 0 [(2, ((98 : Nat) : Int))] [] M mc ms Q
  by_cases g1 : g = 1
  · have f1 := hgf g1
    have fa1 := hff f1
    subst g1 f1 fa1
    have e6 := hN0.1
    refine g_aload_n lk_16_0 rfl ?_
    refine m_getfield (u := []) (M := M) lk_16_1 rfl (lay0.on (by decide) rfl) (v := 1) e6 ?_
    refine g_if (t := 43) lk_16_4 rfl (by first | (unfold pm_inI; omega) | exact pm_and_in _ _ | exact pm_shr_in _ _ | exact pm_or_in _ _ | exact pm_xor_in _ _ | exact pm_shl_in _ _ | exact pm_cmp_in _ _ | exact pm_b8_in _ | (unfold pm_inI; split <;> omega)) (fun _ => ?_) (fun h => absurd (show ¬ (1 : Int) = (0 : Int) by omega) h)
    refine g_aload_n lk_16_43 rfl ?_
    refine g_getfield lk_16_44 rfl (lay0.on (by decide) rfl) (v := ((100 : Nat) : Int)) (lay0.rf rfl) ?_
    refine g_areturn lk_16_47 ?_
    rw [hQ]
    exact ⟨rfl, lay0, hM0, s, w, hA0, hB0, hN0, Or.inl rfl, Or.inl rfl, hsw, Gr.refl _ _⟩
  have g0 : g = 0 := by have := hN0.2.1; omega
  subst g0
  have e6 := hN0.1
  -- the count is zero, and the nodes are told
  have k24 : ∀ (K : pm_M) (s' w' : Nat) (mc ms : Nat), Lay K → TbAt K 24 T → CA K T s' 1 → CB K T 0 98 w' 1 → pm_ct K 98 6 = 1 → pm_ct K 100 3 = 0 → (s' = s ∨ M.1 ≤ s') → (w' = w ∨ M.1 ≤ w') → s' ≠ w' → Gr [44, s, 98, w, 100, 101, 102, 103] M K → Wp (d + 16) 16 24 [(2, ((98 : Nat) : Int))] [] K mc ms Q := by
    intro K s' w' mc ms layK hM hA hB k6 k3 hss hww hne hG
    have gl := GT_len hT 0
    have gr := c_Best_grow0 hT 12 d 0 0 (2 ^ tR T - 1) (2 ^ tC T - 1) 0 K [] s' w' (whole_in hT) (GT_pop hT) (by omega) layK hM hA hB hne k3 (fun i x hx => by simp at hx) (by rw [List.length_nil, Nat.zero_add]; exact gl)
    rw [List.nil_append] at gr
    refine g_aload_n lk_16_24 rfl ?_
    refine g_aload_n lk_16_25 rfl ?_
    refine g_getfield lk_16_26 rfl (layK.on (by decide) rfl) (v := ((24 : Nat) : Int)) (layK.rf rfl) ?_
    refine g_virtual (p := 24) (Qc := _) lk_16_29 rfl (Nat.le_of_ble_eq_true rfl) rfl rfl (layK.on (by decide) rfl) (Nat.le_of_ble_eq_true rfl) (Nat.le_of_ble_eq_true rfl) (Nat.zero_le _) (Nat.zero_le _) (c_Table_allRows layK ht hT hM) ?_
    rintro _ N1 ⟨rfl, hN1⟩
    rw [hN1]
    show Wp _ 16 32 [(2, ((98 : Nat) : Int))] [(0, ((2 ^ tR T - 1 : Nat) : Int)), (2, ((98 : Nat) : Int))] K _ _ _
    refine g_aload_n lk_16_32 rfl ?_
    refine g_getfield lk_16_33 rfl (layK.on (by decide) rfl) (v := ((24 : Nat) : Int)) (layK.rf rfl) ?_
    refine g_virtual (p := 24) (Qc := _) lk_16_36 rfl (Nat.le_of_ble_eq_true rfl) rfl rfl (layK.on (by decide) rfl) (Nat.le_of_ble_eq_true rfl) (Nat.le_of_ble_eq_true rfl) (Nat.zero_le _) (Nat.zero_le _) (c_Table_allColumns layK ht hT hM) ?_
    rintro _ N2 ⟨rfl, hN2⟩
    rw [hN2]
    show Wp _ 16 39 [(2, ((98 : Nat) : Int))] [(0, ((2 ^ tC T - 1 : Nat) : Int)), (0, ((2 ^ tR T - 1 : Nat) : Int)), (2, ((98 : Nat) : Int))] K _ _ _
    refine g_iconst lk_16_39 ?_
    refine g_virtual (p := 98) (Qc := _) lk_16_40 rfl (Nat.le_of_ble_eq_true rfl) rfl rfl (layK.on (by decide) rfl) (Nat.le_of_ble_eq_true rfl) (Nat.le_of_ble_eq_true rfl) (Nat.zero_le _) (Nat.zero_le _) (gr) ?_
    rintro _ K1 ⟨rfl, lay1, f1, q1, c1, L1⟩
    show Wp _ 16 43 [(2, ((98 : Nat) : Int))] [] K1 _ _ _
    refine g_aload_n lk_16_43 rfl ?_
    refine g_getfield lk_16_44 rfl (lay1.on (by decide) rfl) (v := ((100 : Nat) : Int)) (lay1.rf rfl) ?_
    refine g_areturn lk_16_47 ?_
    rw [hQ]
    have nn : ∀ a, own a → a ∉ [44, 100, 101, 102, 103] := fun a h q => by
      simp at q
      rcases q with q | q | q | q | q
      all_goals exact absurd q.symm (own_ne h rfl)
    have K157 := layK.1
    refine ⟨rfl, lay1, hM.fr f1 (by decide) (by decide), s', w', hA.fr f1.gr (q1 1 (by decide)) (q1 2 (by decide)) (nn s' hA.1), hB.fr f1.gr (by omega) (by decide) (nn w' hB.1), ⟨by rw [f1.ct (by decide)]; exact k6, by decide, fun _ => ⟨c1, L1⟩⟩, hss, hww, hne, hG.trans (f1.gr.mono ?_)⟩
    intro a ha
    simp at ha
    simp
    omega
  have k16 : ∀ (K : pm_M) (s' w' : Nat) (mc ms : Nat), Lay K → TbAt K 24 T → CA K T s' 1 → CB K T 0 98 w' 1 → pm_ct K 98 6 = 1 → (s' = s ∨ M.1 ≤ s') → (w' = w ∨ M.1 ≤ w') → s' ≠ w' → Gr [44, s, 98, w] M K → Wp (d + 16) 16 16 [(2, ((98 : Nat) : Int))] [] K mc ms Q := by
    intro K s' w' mc ms layK hM hA hB k6 hss hww hne hG
    have K157 := layK.1
    refine g_aload_n lk_16_16 rfl ?_
    refine g_getfield lk_16_17 rfl (layK.on (by decide) rfl) (v := ((100 : Nat) : Int)) (layK.rf rfl) ?_
    refine g_iconst lk_16_20 ?_
    have lay1 : Lay (Mu [(100, pm_upd (pm_ct K 100) 3 0)] K) := layK.muF (l := []) (a := 100) (k := 3) (z := 0) rfl rfl
    refine m_putfield (u := []) (u' := [(100, pm_upd (pm_ct K 100) 3 0)]) (M := K) lk_16_21 rfl (layK.on (by decide) rfl) (fun h => absurd h (by decide)) rfl ?_
    have fM : Fr [100] K (Mu [(100, pm_upd (pm_ct K 100) 3 0)] K) := Fr.mu _ _ rfl
    have n1 : s' ∉ [100] := fun q => by simp at q; exact absurd q.symm (own_ne hA.1 rfl)
    have n2 : w' ∉ [100] := fun q => by simp at q; exact absurd q.symm (own_ne hB.1 rfl)
    refine k24 (Mu [(100, pm_upd (pm_ct K 100) 3 0)] K) s' w' _ _ lay1 (hM.fr fM (by decide) (by decide)) (hA.fr fM.gr (by rw [fM.ct (by decide)]) (by rw [fM.ct (by decide)]) n1) (hB.fr fM.gr (by omega) (by decide) n2) (by rw [fM.ct (by decide)]; exact k6) (by rw [Mu_ct]; rfl) hss hww hne ((hG.mono ?_).trans (fM.gr.mono ?_))
    · intro a ha; simp at ha; simp; omega
    · intro a ha; simp at ha; simp [ha]
  refine g_aload_n lk_16_0 rfl ?_
  refine m_getfield (u := []) (M := M) lk_16_1 rfl (lay0.on (by decide) rfl) (v := 0) e6 ?_
  refine g_if (t := 43) lk_16_4 rfl (by first | (unfold pm_inI; omega) | exact pm_and_in _ _ | exact pm_shr_in _ _ | exact pm_or_in _ _ | exact pm_xor_in _ _ | exact pm_shl_in _ _ | exact pm_cmp_in _ _ | exact pm_b8_in _ | (unfold pm_inI; split <;> omega)) (fun h => absurd h (show ¬ (¬ (0 : Int) = (0 : Int)) by omega)) (fun _ => ?_)
  refine g_aload_n lk_16_7 rfl ?_
  refine g_iconst lk_16_8 ?_
  have lay1 : Lay (Mu [(98, pm_upd (pm_ct M 98) 6 1)] M) := lay0.muF (l := []) (a := 98) (k := 6) (z := 1) rfl rfl
  refine m_putfield (u := []) (u' := [(98, pm_upd (pm_ct M 98) 6 1)]) (M := M) lk_16_9 rfl (lay0.on (by decide) rfl) (fun _ => by omega) rfl ?_
  refine g_aload_n lk_16_12 rfl ?_
  have fM : Fr [98] M (Mu [(98, pm_upd (pm_ct M 98) 6 1)] M) := Fr.mu _ _ rfl
  have n1 : s ∉ [98] := fun q => by simp at q; exact absurd q.symm (own_ne hA0.1 rfl)
  have n2 : w ∉ [98] := fun q => by simp at q; exact absurd q.symm (own_ne hB0.1 rfl)
  have hB1 : CB (Mu [(98, pm_upd (pm_ct M 98) 6 1)] M) T 0 98 w f := by
    obtain ⟨a1, a2, a3, a4, a5, n, a6, a7, a8⟩ := hB0
    refine ⟨a1, by rw [Mu_ct]; exact a2, by rw [Mu_ct]; exact a3, by rw [Mu_ct]; exact a4, a5, n, a6, fM.gr.ay a7, fun c => ⟨(a8 c).1, ?_⟩⟩
    have := (a8 c).2
    unfold WoOK at this ⊢
    rw [fM.gr.ct a7.2.1 n2]; exact this
  refine g_virtual (p := 98) (Qc := _) lk_16_13 rfl (Nat.le_of_ble_eq_true rfl) rfl rfl (lay1.on (by decide) rfl) (Nat.le_of_ble_eq_true rfl) (Nat.le_of_ble_eq_true rfl) (by omega) (by omega) (c_Best_solve0 (d := d + 12) (mc := 2) (ms := 8192) lay1 hT (hM0.fr fM (by decide) (by decide)) (hA0.fr fM.gr (by rw [fM.ct (by decide)]) (by rw [fM.ct (by decide)]) n1) hB1 hff hsw (by omega) (by omega)) ?_
  rintro _ K1 ⟨rfl, lay1, hM, s', w', hA1, hB1, ss, ww, sw, gg, g6⟩
  refine k16 K1 s' w' _ _ lay1 hM hA1 hB1 (by rw [g6, Mu_ct]; rfl) ss ww sw ((fM.gr.mono ?_).trans gg)
  intro a ha; simp at ha; simp [ha]
set_option maxHeartbeats 4000000 in
theorem c_X_node0 {d mc ms : Nat} {M : pm_M} (lay0 : Lay M) {T : Tab} (hT : TabOK T) (hM0 : TbAt M 24 T) {s fa w f g : Nat} (hA0 : CA M T s fa) (hB0 : CB M T 0 98 w f) (hN0 : CN M T 0 98 g) (hff : f = 1 → fa = 1) (hgf : g = 1 → f = 1) (hsw : s ≠ w) (b1 : 2 ≤ mc) (b2 : 8192 ≤ ms) {k v : Int} (hk : pm_inI k) (hv : pm_inI v) :
    pm_E (d + 17) 138 [(2, ((1 : Nat) : Int)), (0, 0), (0, k), (0, v)] M mc ms (fun ρ M' => ρ = some (0, sNode T 0 k v) ∧ Lay M' ∧ TbAt M' 24 T ∧ ∃ s' w', CA M' T s' 1 ∧ CB M' T 0 98 w' 1 ∧ CN M' T 0 98 1 ∧ (s' = s ∨ M.1 ≤ s') ∧ (w' = w ∨ M.1 ≤ w') ∧ s' ≠ w' ∧ Gr [44, s, 98, w, 100, 101, 102, 103] M M') := by
  have ih := fun (M : pm_M) => c_X_isHow (d := d + 16) (mc := 0) (ms := 0) (M := M) (v := 0) (by unfold pm_inI; omega)
  rw [if_pos (by omega)] at ih
  have gl := GT_len hT 0
  obtain ⟨l, hl⟩ : ∃ l, l = (GT T 0).length := ⟨_, rfl⟩
  have eN : sNode T 0 k v = if k = -1 then (l : Int) else ndOf (GT T 0) k v := by
    unfold sNode ndOf
    rw [if_neg (by omega), hl]
    rfl
  rw [eN]
  show Wp (d + 17) 138 0 [(2, ((1 : Nat) : Int)), (0, 0), (0, k), (0, v), (9, 0)] [] M mc ms _
  refine g_iload_n lk_138_0 rfl ?_
  refine g_static (Qc := _) lk_138_1 (by decide) rfl (Nat.le_of_ble_eq_true rfl) rfl rfl (Nat.le_of_ble_eq_true rfl) (Nat.le_of_ble_eq_true rfl) (Nat.zero_le _) (Nat.zero_le _) (ih _) ?_
  rintro _ N1 ⟨rfl, hN1⟩
  rw [hN1]
  show Wp _ 138 4 [(2, ((1 : Nat) : Int)), (0, 0), (0, k), (0, v), (9, 0)] [(0, 1)] M _ _ _
  refine g_if (t := 9) lk_138_4 rfl (by first | assumption | (unfold pm_inI; omega)) (fun _ => ?_) (fun h => absurd (show ¬ (1 : Int) = (0 : Int) by omega) h)
  refine g_aload_n lk_138_9 rfl ?_
  refine g_getfield lk_138_10 rfl (lay0.on (by decide) rfl) (v := ((46 : Nat) : Int)) (lay0.rf rfl) ?_
  refine g_iload_n lk_138_13 rfl ?_
  refine g_aaload lk_138_14 (by decide) (lay0.ay (by decide) rfl) (by omega) (v := ((98 : Nat) : Int)) (lay0.rf rfl) ?_
  refine g_virtual (p := 98) (Qc := _) lk_138_15 rfl (Nat.le_of_ble_eq_true rfl) rfl rfl (lay0.on (by decide) rfl) (Nat.le_of_ble_eq_true rfl) (Nat.le_of_ble_eq_true rfl) (by omega) (by omega) (c_Best_tellTree0 (d := d) (mc := 2) (ms := 8192) lay0 hT hM0 hA0 hB0 hN0 hff hgf hsw (by omega) (by omega)) ?_
  rintro _ K1 ⟨rfl, lay1, hM1, s', w', hA1, hB1, hN1, ss, ww, sw, gg⟩
  have cN := hN1.2.2 rfl
  have c3 : pm_ct K1 100 3 = (l : Int) := (by rw [hl]; exact cN.1)
  show Wp _ 138 18 [(2, ((1 : Nat) : Int)), (0, 0), (0, k), (0, v), (9, 0)] [(2, ((100 : Nat) : Int))] K1 _ _ _
  refine g_astore (ls' := [(2, ((1 : Nat) : Int)), (0, 0), (0, k), (0, v), (2, ((100 : Nat) : Int))]) lk_138_18 rfl rfl ?_
  refine g_iload_n lk_138_20 rfl ?_
  refine g_iconst lk_138_21 ?_
  refine g_icmp (t := 33) lk_138_22 rfl (by first | assumption | (unfold pm_inI; omega)) (by first | assumption | (unfold pm_inI; omega)) (fun h2 => ?_) (fun h2 => ?_)
  · replace h2 : ¬ k = (-1) := h2
    refine g_aload lk_138_33 rfl ?_
    refine g_iload_n lk_138_35 rfl ?_
    refine g_iload_n lk_138_36 rfl ?_
    refine g_virtual (p := 100) (Qc := _) lk_138_37 rfl (Nat.le_of_ble_eq_true rfl) rfl rfl (lay1.on (by decide) rfl) (Nat.le_of_ble_eq_true rfl) (Nat.le_of_ble_eq_true rfl) (Nat.zero_le _) (Nat.zero_le _) (c_Nodes_tellNode0 lay1 cN.1 cN.2 gl hk hv) ?_
    rintro _ N3 ⟨rfl, hN3⟩
    rw [hN3]
    show Wp _ 138 40 [(2, ((1 : Nat) : Int)), (0, 0), (0, k), (0, v), (2, ((100 : Nat) : Int))] [(0, (ndOf (GT T 0) k v))] K1 _ _ _
    refine g_ireturn lk_138_40 (fun h => absurd h (by decide)) ?_
    exact ⟨by rw [if_neg (by omega)], lay1, hM1, s', w', hA1, hB1, hN1, ss, ww, sw, gg⟩
  · replace h2 : ¬ (¬ k = (-1)) := h2
    refine g_aload lk_138_25 rfl ?_
    refine m_getfield (u := []) (M := K1) lk_138_27 rfl (lay1.on (by decide) rfl) (v := (l : Int)) c3 ?_
    refine g_goto (t := 40) lk_138_30 rfl ?_
    refine g_ireturn lk_138_40 (fun h => absurd h (by decide)) ?_
    exact ⟨by rw [if_pos (by omega)], lay1, hM1, s', w', hA1, hB1, hN1, ss, ww, sw, gg⟩
theorem c_Nodes_tellNode1 {d mc ms : Nat} {M : pm_M} (lay : Lay M) {L : List Nd} (hct : pm_ct M 106 3 = (L.length : Int)) (hL : NdL M 107 108 109 L) (h71 : L.length ≤ 71) {k w : Int} (hk : pm_inI k) (hw : pm_inI w) :
    pm_E d 38 [(2, ((106 : Nat) : Int)), (0, k), (0, w)] M mc ms (fun ρ M' => ρ = some (0, ndOf L k w) ∧ M' = M) := by
  obtain ⟨l, hl⟩ : ∃ l, l = L.length := ⟨_, rfl⟩
  rw [← hl] at hct h71
  show Wp d 38 0 [(2, ((106 : Nat) : Int)), (0, k), (0, w)] [] M mc ms _
  by_cases h0 : k < 0 ∨ (l : Int) ≤ k
  · skip
    refine g_iload_n lk_38_0 rfl ?_
    refine g_if (t := 12) lk_38_1 rfl (by first | assumption | (unfold pm_inI; omega)) (fun h1 => ?_) (fun h1 => ?_)
    · replace h1 : k < 0 := h1
      refine g_iconst lk_38_12 ?_
      refine g_ireturn lk_38_13 (fun h => absurd h (by decide)) ?_
      exact ⟨by unfold ndOf; rw [if_pos (by omega)], rfl⟩
    · replace h1 : ¬ (k < 0) := h1
      refine g_iload_n lk_38_4 rfl ?_
      refine g_aload_n lk_38_5 rfl ?_
      refine m_getfield (u := []) (M := M) lk_38_6 rfl (lay.on (by decide) rfl) (v := (l : Int)) hct ?_
      refine g_icmp (t := 14) lk_38_9 rfl (by first | assumption | (unfold pm_inI; omega)) (by first | assumption | (unfold pm_inI; omega)) (fun h2 => ?_) (fun h2 => ?_)
      · replace h2 : k < (l : Int) := h2
        omega
      · replace h2 : ¬ (k < (l : Int)) := h2
        refine g_iconst lk_38_12 ?_
        refine g_ireturn lk_38_13 (fun h => absurd h (by decide)) ?_
        exact ⟨by unfold ndOf; rw [if_pos (by omega)], rfl⟩
  obtain ⟨i, rfl⟩ := Int.eq_ofNat_of_zero_le (show 0 ≤ k by omega)
  obtain ⟨x, hx⟩ : ∃ x, L[i]? = some x := ⟨L[i]'(by omega), List.getElem?_eq_getElem (by omega)⟩
  have xx := hL i x hx
  have gd : L.getD i (0, 0, 0) = x := by rw [List.getD_eq_getElem?_getD, hx]; rfl
  have nd : ndOf L (i : Int) w = if w = 0 then (x.1 : Int) else if w = 1 then (x.2.1 : Int) else if w = 2 then x.2.2 else -1 := by
    unfold ndOf
    rw [if_neg (by omega), Int.toNat_natCast, gd]
  rw [nd]
  refine g_iload_n lk_38_0 rfl ?_
  refine g_if (t := 12) lk_38_1 rfl (by first | assumption | (unfold pm_inI; omega)) (fun h1 => ?_) (fun h1 => ?_)
  · replace h1 : (i : Int) < 0 := h1
    refine g_iconst lk_38_12 ?_
    refine g_ireturn lk_38_13 (fun h => absurd h (by decide)) ?_
    omega
  · replace h1 : ¬ ((i : Int) < 0) := h1
    refine g_iload_n lk_38_4 rfl ?_
    refine g_aload_n lk_38_5 rfl ?_
    refine m_getfield (u := []) (M := M) lk_38_6 rfl (lay.on (by decide) rfl) (v := (l : Int)) hct ?_
    refine g_icmp (t := 14) lk_38_9 rfl (by first | assumption | (unfold pm_inI; omega)) (by first | assumption | (unfold pm_inI; omega)) (fun h2 => ?_) (fun h2 => ?_)
    · replace h2 : (i : Int) < (l : Int) := h2
      refine g_iload_n lk_38_14 rfl ?_
      refine g_tsw lk_38_15 (by first | assumption | (unfold pm_inI; omega)) (And.intro (fun h3 => ?_) (fun h3 => (And.intro (fun h4 => ?_) (fun h4 => (And.intro (fun h5 => ?_) (fun h5 => ?_))))))
      · replace h3 : w = 0 := h3
        show Wp _ 38 40 [(2, ((106 : Nat) : Int)), (0, (i : Int)), (0, w)] [] M _ _ _
        refine g_aload_n lk_38_40 rfl ?_
        refine g_getfield lk_38_41 rfl (lay.on (by decide) rfl) (v := ((107 : Nat) : Int)) (lay.rf rfl) ?_
        refine g_iload_n lk_38_44 rfl ?_
        refine m_iaload (u := []) (M := M) lk_38_45 (lay.ay (by decide) rfl) (by omega) (j := i) (by omega) (v := (x.1 : Int)) xx.1 ?_
        refine g_ireturn lk_38_46 (fun h => absurd h (by decide)) ?_
        exact ⟨by rw [if_pos (by omega)], rfl⟩
      · replace h4 : w = 1 := h4
        show Wp _ 38 47 [(2, ((106 : Nat) : Int)), (0, (i : Int)), (0, w)] [] M _ _ _
        refine g_aload_n lk_38_47 rfl ?_
        refine g_getfield lk_38_48 rfl (lay.on (by decide) rfl) (v := ((108 : Nat) : Int)) (lay.rf rfl) ?_
        refine g_iload_n lk_38_51 rfl ?_
        refine m_iaload (u := []) (M := M) lk_38_52 (lay.ay (by decide) rfl) (by omega) (j := i) (by omega) (v := (x.2.1 : Int)) xx.2.1 ?_
        refine g_ireturn lk_38_53 (fun h => absurd h (by decide)) ?_
        exact ⟨by rw [if_neg (by omega), if_pos (by omega)], rfl⟩
      · replace h5 : w = 2 := h5
        show Wp _ 38 54 [(2, ((106 : Nat) : Int)), (0, (i : Int)), (0, w)] [] M _ _ _
        refine g_aload_n lk_38_54 rfl ?_
        refine g_getfield lk_38_55 rfl (lay.on (by decide) rfl) (v := ((109 : Nat) : Int)) (lay.rf rfl) ?_
        refine g_iload_n lk_38_58 rfl ?_
        refine m_iaload (u := []) (M := M) lk_38_59 (lay.ay (by decide) rfl) (by omega) (j := i) (by omega) (v := x.2.2) xx.2.2 ?_
        refine g_ireturn lk_38_60 (fun h => absurd h (by decide)) ?_
        exact ⟨by rw [if_neg (by omega), if_neg (by omega), if_pos (by omega)], rfl⟩
      · show Wp _ 38 61 [(2, ((106 : Nat) : Int)), (0, (i : Int)), (0, w)] [] M _ _ _
        replace h3 : ¬ w = 0 := h3
        replace h4 : ¬ w = 1 := h4
        replace h5 : ¬ w = 2 := h5
        refine g_iconst lk_38_61 ?_
        refine g_ireturn lk_38_62 (fun h => absurd h (by decide)) ?_
        exact ⟨by rw [if_neg (by omega), if_neg (by omega), if_neg (by omega)], rfl⟩
    · replace h2 : ¬ ((i : Int) < (l : Int)) := h2
      refine g_iconst lk_38_12 ?_
      refine g_ireturn lk_38_13 (fun h => absurd h (by decide)) ?_
      omega
set_option maxHeartbeats 4000000 in
theorem c_Best_tellTree1 {d mc ms : Nat} {M : pm_M} (lay0 : Lay M) {T : Tab} (hT : TabOK T) (hM0 : TbAt M 24 T) {s fa w f g : Nat} (hA0 : CA M T s fa) (hB0 : CB M T 1 104 w f) (hN0 : CN M T 1 104 g) (hff : f = 1 → fa = 1) (hgf : g = 1 → f = 1) (hsw : s ≠ w) (b1 : 2 ≤ mc) (b2 : 8192 ≤ ms) :
    pm_E (d + 16) 16 [(2, ((104 : Nat) : Int))] M mc ms (fun ρ M' => ρ = some (2, ((106 : Nat) : Int)) ∧ Lay M' ∧ TbAt M' 24 T ∧ ∃ s' w', CA M' T s' 1 ∧ CB M' T 1 104 w' 1 ∧ CN M' T 1 104 1 ∧ (s' = s ∨ M.1 ≤ s') ∧ (w' = w ∨ M.1 ≤ w') ∧ s' ≠ w' ∧ Gr [44, s, 104, w, 106, 107, 108, 109] M M') := by
  obtain ⟨Q, hQ⟩ : ∃ Q : pm_Q, Q = (fun ρ M' => ρ = some (2, ((106 : Nat) : Int)) ∧ Lay M' ∧ TbAt M' 24 T ∧ ∃ s' w', CA M' T s' 1 ∧ CB M' T 1 104 w' 1 ∧ CN M' T 1 104 1 ∧ (s' = s ∨ M.1 ≤ s') ∧ (w' = w ∨ M.1 ≤ w') ∧ s' ≠ w' ∧ Gr [44, s, 104, w, 106, 107, 108, 109] M M') := ⟨_, rfl⟩
  rw [← hQ]
  have ht : (24 : Nat) = 4 ∨ (24 : Nat) = 24 := Or.inr rfl
  have M157 := lay0.1
  show Wp (d + 16) 16 0 [(2, ((104 : Nat) : Int))] [] M mc ms Q
  by_cases g1 : g = 1
  · have f1 := hgf g1
    have fa1 := hff f1
    subst g1 f1 fa1
    have e6 := hN0.1
    refine g_aload_n lk_16_0 rfl ?_
    refine m_getfield (u := []) (M := M) lk_16_1 rfl (lay0.on (by decide) rfl) (v := 1) e6 ?_
    refine g_if (t := 43) lk_16_4 rfl (by first | (unfold pm_inI; omega) | exact pm_and_in _ _ | exact pm_shr_in _ _ | exact pm_or_in _ _ | exact pm_xor_in _ _ | exact pm_shl_in _ _ | exact pm_cmp_in _ _ | exact pm_b8_in _ | (unfold pm_inI; split <;> omega)) (fun _ => ?_) (fun h => absurd (show ¬ (1 : Int) = (0 : Int) by omega) h)
    refine g_aload_n lk_16_43 rfl ?_
    refine g_getfield lk_16_44 rfl (lay0.on (by decide) rfl) (v := ((106 : Nat) : Int)) (lay0.rf rfl) ?_
    refine g_areturn lk_16_47 ?_
    rw [hQ]
    exact ⟨rfl, lay0, hM0, s, w, hA0, hB0, hN0, Or.inl rfl, Or.inl rfl, hsw, Gr.refl _ _⟩
  have g0 : g = 0 := by have := hN0.2.1; omega
  subst g0
  have e6 := hN0.1
  -- the count is zero, and the nodes are told
  have k24 : ∀ (K : pm_M) (s' w' : Nat) (mc ms : Nat), Lay K → TbAt K 24 T → CA K T s' 1 → CB K T 1 104 w' 1 → pm_ct K 104 6 = 1 → pm_ct K 106 3 = 0 → (s' = s ∨ M.1 ≤ s') → (w' = w ∨ M.1 ≤ w') → s' ≠ w' → Gr [44, s, 104, w, 106, 107, 108, 109] M K → Wp (d + 16) 16 24 [(2, ((104 : Nat) : Int))] [] K mc ms Q := by
    intro K s' w' mc ms layK hM hA hB k6 k3 hss hww hne hG
    have gl := GT_len hT 1
    have gr := c_Best_grow1 hT 12 d 0 0 (2 ^ tR T - 1) (2 ^ tC T - 1) 0 K [] s' w' (whole_in hT) (GT_pop hT) (by omega) layK hM hA hB hne k3 (fun i x hx => by simp at hx) (by rw [List.length_nil, Nat.zero_add]; exact gl)
    rw [List.nil_append] at gr
    refine g_aload_n lk_16_24 rfl ?_
    refine g_aload_n lk_16_25 rfl ?_
    refine g_getfield lk_16_26 rfl (layK.on (by decide) rfl) (v := ((24 : Nat) : Int)) (layK.rf rfl) ?_
    refine g_virtual (p := 24) (Qc := _) lk_16_29 rfl (Nat.le_of_ble_eq_true rfl) rfl rfl (layK.on (by decide) rfl) (Nat.le_of_ble_eq_true rfl) (Nat.le_of_ble_eq_true rfl) (Nat.zero_le _) (Nat.zero_le _) (c_Table_allRows layK ht hT hM) ?_
    rintro _ N1 ⟨rfl, hN1⟩
    rw [hN1]
    show Wp _ 16 32 [(2, ((104 : Nat) : Int))] [(0, ((2 ^ tR T - 1 : Nat) : Int)), (2, ((104 : Nat) : Int))] K _ _ _
    refine g_aload_n lk_16_32 rfl ?_
    refine g_getfield lk_16_33 rfl (layK.on (by decide) rfl) (v := ((24 : Nat) : Int)) (layK.rf rfl) ?_
    refine g_virtual (p := 24) (Qc := _) lk_16_36 rfl (Nat.le_of_ble_eq_true rfl) rfl rfl (layK.on (by decide) rfl) (Nat.le_of_ble_eq_true rfl) (Nat.le_of_ble_eq_true rfl) (Nat.zero_le _) (Nat.zero_le _) (c_Table_allColumns layK ht hT hM) ?_
    rintro _ N2 ⟨rfl, hN2⟩
    rw [hN2]
    show Wp _ 16 39 [(2, ((104 : Nat) : Int))] [(0, ((2 ^ tC T - 1 : Nat) : Int)), (0, ((2 ^ tR T - 1 : Nat) : Int)), (2, ((104 : Nat) : Int))] K _ _ _
    refine g_iconst lk_16_39 ?_
    refine g_virtual (p := 104) (Qc := _) lk_16_40 rfl (Nat.le_of_ble_eq_true rfl) rfl rfl (layK.on (by decide) rfl) (Nat.le_of_ble_eq_true rfl) (Nat.le_of_ble_eq_true rfl) (Nat.zero_le _) (Nat.zero_le _) (gr) ?_
    rintro _ K1 ⟨rfl, lay1, f1, q1, c1, L1⟩
    show Wp _ 16 43 [(2, ((104 : Nat) : Int))] [] K1 _ _ _
    refine g_aload_n lk_16_43 rfl ?_
    refine g_getfield lk_16_44 rfl (lay1.on (by decide) rfl) (v := ((106 : Nat) : Int)) (lay1.rf rfl) ?_
    refine g_areturn lk_16_47 ?_
    rw [hQ]
    have nn : ∀ a, own a → a ∉ [44, 106, 107, 108, 109] := fun a h q => by
      simp at q
      rcases q with q | q | q | q | q
      all_goals exact absurd q.symm (own_ne h rfl)
    have K157 := layK.1
    refine ⟨rfl, lay1, hM.fr f1 (by decide) (by decide), s', w', hA.fr f1.gr (q1 1 (by decide)) (q1 2 (by decide)) (nn s' hA.1), hB.fr f1.gr (by omega) (by decide) (nn w' hB.1), ⟨by rw [f1.ct (by decide)]; exact k6, by decide, fun _ => ⟨c1, L1⟩⟩, hss, hww, hne, hG.trans (f1.gr.mono ?_)⟩
    intro a ha
    simp at ha
    simp
    omega
  have k16 : ∀ (K : pm_M) (s' w' : Nat) (mc ms : Nat), Lay K → TbAt K 24 T → CA K T s' 1 → CB K T 1 104 w' 1 → pm_ct K 104 6 = 1 → (s' = s ∨ M.1 ≤ s') → (w' = w ∨ M.1 ≤ w') → s' ≠ w' → Gr [44, s, 104, w] M K → Wp (d + 16) 16 16 [(2, ((104 : Nat) : Int))] [] K mc ms Q := by
    intro K s' w' mc ms layK hM hA hB k6 hss hww hne hG
    have K157 := layK.1
    refine g_aload_n lk_16_16 rfl ?_
    refine g_getfield lk_16_17 rfl (layK.on (by decide) rfl) (v := ((106 : Nat) : Int)) (layK.rf rfl) ?_
    refine g_iconst lk_16_20 ?_
    have lay1 : Lay (Mu [(106, pm_upd (pm_ct K 106) 3 0)] K) := layK.muF (l := []) (a := 106) (k := 3) (z := 0) rfl rfl
    refine m_putfield (u := []) (u' := [(106, pm_upd (pm_ct K 106) 3 0)]) (M := K) lk_16_21 rfl (layK.on (by decide) rfl) (fun h => absurd h (by decide)) rfl ?_
    have fM : Fr [106] K (Mu [(106, pm_upd (pm_ct K 106) 3 0)] K) := Fr.mu _ _ rfl
    have n1 : s' ∉ [106] := fun q => by simp at q; exact absurd q.symm (own_ne hA.1 rfl)
    have n2 : w' ∉ [106] := fun q => by simp at q; exact absurd q.symm (own_ne hB.1 rfl)
    refine k24 (Mu [(106, pm_upd (pm_ct K 106) 3 0)] K) s' w' _ _ lay1 (hM.fr fM (by decide) (by decide)) (hA.fr fM.gr (by rw [fM.ct (by decide)]) (by rw [fM.ct (by decide)]) n1) (hB.fr fM.gr (by omega) (by decide) n2) (by rw [fM.ct (by decide)]; exact k6) (by rw [Mu_ct]; rfl) hss hww hne ((hG.mono ?_).trans (fM.gr.mono ?_))
    · intro a ha; simp at ha; simp; omega
    · intro a ha; simp at ha; simp [ha]
  refine g_aload_n lk_16_0 rfl ?_
  refine m_getfield (u := []) (M := M) lk_16_1 rfl (lay0.on (by decide) rfl) (v := 0) e6 ?_
  refine g_if (t := 43) lk_16_4 rfl (by first | (unfold pm_inI; omega) | exact pm_and_in _ _ | exact pm_shr_in _ _ | exact pm_or_in _ _ | exact pm_xor_in _ _ | exact pm_shl_in _ _ | exact pm_cmp_in _ _ | exact pm_b8_in _ | (unfold pm_inI; split <;> omega)) (fun h => absurd h (show ¬ (¬ (0 : Int) = (0 : Int)) by omega)) (fun _ => ?_)
  refine g_aload_n lk_16_7 rfl ?_
  refine g_iconst lk_16_8 ?_
  have lay1 : Lay (Mu [(104, pm_upd (pm_ct M 104) 6 1)] M) := lay0.muF (l := []) (a := 104) (k := 6) (z := 1) rfl rfl
  refine m_putfield (u := []) (u' := [(104, pm_upd (pm_ct M 104) 6 1)]) (M := M) lk_16_9 rfl (lay0.on (by decide) rfl) (fun _ => by omega) rfl ?_
  refine g_aload_n lk_16_12 rfl ?_
  have fM : Fr [104] M (Mu [(104, pm_upd (pm_ct M 104) 6 1)] M) := Fr.mu _ _ rfl
  have n1 : s ∉ [104] := fun q => by simp at q; exact absurd q.symm (own_ne hA0.1 rfl)
  have n2 : w ∉ [104] := fun q => by simp at q; exact absurd q.symm (own_ne hB0.1 rfl)
  have hB1 : CB (Mu [(104, pm_upd (pm_ct M 104) 6 1)] M) T 1 104 w f := by
    obtain ⟨a1, a2, a3, a4, a5, n, a6, a7, a8⟩ := hB0
    refine ⟨a1, by rw [Mu_ct]; exact a2, by rw [Mu_ct]; exact a3, by rw [Mu_ct]; exact a4, a5, n, a6, fM.gr.ay a7, fun c => ⟨(a8 c).1, ?_⟩⟩
    have := (a8 c).2
    unfold WoOK at this ⊢
    rw [fM.gr.ct a7.2.1 n2]; exact this
  refine g_virtual (p := 104) (Qc := _) lk_16_13 rfl (Nat.le_of_ble_eq_true rfl) rfl rfl (lay1.on (by decide) rfl) (Nat.le_of_ble_eq_true rfl) (Nat.le_of_ble_eq_true rfl) (by omega) (by omega) (c_Best_solve1 (d := d + 12) (mc := 2) (ms := 8192) lay1 hT (hM0.fr fM (by decide) (by decide)) (hA0.fr fM.gr (by rw [fM.ct (by decide)]) (by rw [fM.ct (by decide)]) n1) hB1 hff hsw (by omega) (by omega)) ?_
  rintro _ K1 ⟨rfl, lay1, hM, s', w', hA1, hB1, ss, ww, sw, gg, g6⟩
  refine k16 K1 s' w' _ _ lay1 hM hA1 hB1 (by rw [g6, Mu_ct]; rfl) ss ww sw ((fM.gr.mono ?_).trans gg)
  intro a ha; simp at ha; simp [ha]
set_option maxHeartbeats 4000000 in
theorem c_X_node1 {d mc ms : Nat} {M : pm_M} (lay0 : Lay M) {T : Tab} (hT : TabOK T) (hM0 : TbAt M 24 T) {s fa w f g : Nat} (hA0 : CA M T s fa) (hB0 : CB M T 1 104 w f) (hN0 : CN M T 1 104 g) (hff : f = 1 → fa = 1) (hgf : g = 1 → f = 1) (hsw : s ≠ w) (b1 : 2 ≤ mc) (b2 : 8192 ≤ ms) {k v : Int} (hk : pm_inI k) (hv : pm_inI v) :
    pm_E (d + 17) 138 [(2, ((1 : Nat) : Int)), (0, 1), (0, k), (0, v)] M mc ms (fun ρ M' => ρ = some (0, sNode T 1 k v) ∧ Lay M' ∧ TbAt M' 24 T ∧ ∃ s' w', CA M' T s' 1 ∧ CB M' T 1 104 w' 1 ∧ CN M' T 1 104 1 ∧ (s' = s ∨ M.1 ≤ s') ∧ (w' = w ∨ M.1 ≤ w') ∧ s' ≠ w' ∧ Gr [44, s, 104, w, 106, 107, 108, 109] M M') := by
  have ih := fun (M : pm_M) => c_X_isHow (d := d + 16) (mc := 0) (ms := 0) (M := M) (v := 1) (by unfold pm_inI; omega)
  rw [if_pos (by omega)] at ih
  have gl := GT_len hT 1
  obtain ⟨l, hl⟩ : ∃ l, l = (GT T 1).length := ⟨_, rfl⟩
  have eN : sNode T 1 k v = if k = -1 then (l : Int) else ndOf (GT T 1) k v := by
    unfold sNode ndOf
    rw [if_neg (by omega), hl]
    rfl
  rw [eN]
  show Wp (d + 17) 138 0 [(2, ((1 : Nat) : Int)), (0, 1), (0, k), (0, v), (9, 0)] [] M mc ms _
  refine g_iload_n lk_138_0 rfl ?_
  refine g_static (Qc := _) lk_138_1 (by decide) rfl (Nat.le_of_ble_eq_true rfl) rfl rfl (Nat.le_of_ble_eq_true rfl) (Nat.le_of_ble_eq_true rfl) (Nat.zero_le _) (Nat.zero_le _) (ih _) ?_
  rintro _ N1 ⟨rfl, hN1⟩
  rw [hN1]
  show Wp _ 138 4 [(2, ((1 : Nat) : Int)), (0, 1), (0, k), (0, v), (9, 0)] [(0, 1)] M _ _ _
  refine g_if (t := 9) lk_138_4 rfl (by first | assumption | (unfold pm_inI; omega)) (fun _ => ?_) (fun h => absurd (show ¬ (1 : Int) = (0 : Int) by omega) h)
  refine g_aload_n lk_138_9 rfl ?_
  refine g_getfield lk_138_10 rfl (lay0.on (by decide) rfl) (v := ((46 : Nat) : Int)) (lay0.rf rfl) ?_
  refine g_iload_n lk_138_13 rfl ?_
  refine g_aaload lk_138_14 (by decide) (lay0.ay (by decide) rfl) (by omega) (v := ((104 : Nat) : Int)) (lay0.rf rfl) ?_
  refine g_virtual (p := 104) (Qc := _) lk_138_15 rfl (Nat.le_of_ble_eq_true rfl) rfl rfl (lay0.on (by decide) rfl) (Nat.le_of_ble_eq_true rfl) (Nat.le_of_ble_eq_true rfl) (by omega) (by omega) (c_Best_tellTree1 (d := d) (mc := 2) (ms := 8192) lay0 hT hM0 hA0 hB0 hN0 hff hgf hsw (by omega) (by omega)) ?_
  rintro _ K1 ⟨rfl, lay1, hM1, s', w', hA1, hB1, hN1, ss, ww, sw, gg⟩
  have cN := hN1.2.2 rfl
  have c3 : pm_ct K1 106 3 = (l : Int) := (by rw [hl]; exact cN.1)
  show Wp _ 138 18 [(2, ((1 : Nat) : Int)), (0, 1), (0, k), (0, v), (9, 0)] [(2, ((106 : Nat) : Int))] K1 _ _ _
  refine g_astore (ls' := [(2, ((1 : Nat) : Int)), (0, 1), (0, k), (0, v), (2, ((106 : Nat) : Int))]) lk_138_18 rfl rfl ?_
  refine g_iload_n lk_138_20 rfl ?_
  refine g_iconst lk_138_21 ?_
  refine g_icmp (t := 33) lk_138_22 rfl (by first | assumption | (unfold pm_inI; omega)) (by first | assumption | (unfold pm_inI; omega)) (fun h2 => ?_) (fun h2 => ?_)
  · replace h2 : ¬ k = (-1) := h2
    refine g_aload lk_138_33 rfl ?_
    refine g_iload_n lk_138_35 rfl ?_
    refine g_iload_n lk_138_36 rfl ?_
    refine g_virtual (p := 106) (Qc := _) lk_138_37 rfl (Nat.le_of_ble_eq_true rfl) rfl rfl (lay1.on (by decide) rfl) (Nat.le_of_ble_eq_true rfl) (Nat.le_of_ble_eq_true rfl) (Nat.zero_le _) (Nat.zero_le _) (c_Nodes_tellNode1 lay1 cN.1 cN.2 gl hk hv) ?_
    rintro _ N3 ⟨rfl, hN3⟩
    rw [hN3]
    show Wp _ 138 40 [(2, ((1 : Nat) : Int)), (0, 1), (0, k), (0, v), (2, ((106 : Nat) : Int))] [(0, (ndOf (GT T 1) k v))] K1 _ _ _
    refine g_ireturn lk_138_40 (fun h => absurd h (by decide)) ?_
    exact ⟨by rw [if_neg (by omega)], lay1, hM1, s', w', hA1, hB1, hN1, ss, ww, sw, gg⟩
  · replace h2 : ¬ (¬ k = (-1)) := h2
    refine g_aload lk_138_25 rfl ?_
    refine m_getfield (u := []) (M := K1) lk_138_27 rfl (lay1.on (by decide) rfl) (v := (l : Int)) c3 ?_
    refine g_goto (t := 40) lk_138_30 rfl ?_
    refine g_ireturn lk_138_40 (fun h => absurd h (by decide)) ?_
    exact ⟨by rw [if_pos (by omega)], lay1, hM1, s', w', hA1, hB1, hN1, ss, ww, sw, gg⟩
theorem c_Nodes_tellNode2 {d mc ms : Nat} {M : pm_M} (lay : Lay M) {L : List Nd} (hct : pm_ct M 112 3 = (L.length : Int)) (hL : NdL M 113 114 115 L) (h71 : L.length ≤ 71) {k w : Int} (hk : pm_inI k) (hw : pm_inI w) :
    pm_E d 38 [(2, ((112 : Nat) : Int)), (0, k), (0, w)] M mc ms (fun ρ M' => ρ = some (0, ndOf L k w) ∧ M' = M) := by
  obtain ⟨l, hl⟩ : ∃ l, l = L.length := ⟨_, rfl⟩
  rw [← hl] at hct h71
  show Wp d 38 0 [(2, ((112 : Nat) : Int)), (0, k), (0, w)] [] M mc ms _
  by_cases h0 : k < 0 ∨ (l : Int) ≤ k
  · skip
    refine g_iload_n lk_38_0 rfl ?_
    refine g_if (t := 12) lk_38_1 rfl (by first | assumption | (unfold pm_inI; omega)) (fun h1 => ?_) (fun h1 => ?_)
    · replace h1 : k < 0 := h1
      refine g_iconst lk_38_12 ?_
      refine g_ireturn lk_38_13 (fun h => absurd h (by decide)) ?_
      exact ⟨by unfold ndOf; rw [if_pos (by omega)], rfl⟩
    · replace h1 : ¬ (k < 0) := h1
      refine g_iload_n lk_38_4 rfl ?_
      refine g_aload_n lk_38_5 rfl ?_
      refine m_getfield (u := []) (M := M) lk_38_6 rfl (lay.on (by decide) rfl) (v := (l : Int)) hct ?_
      refine g_icmp (t := 14) lk_38_9 rfl (by first | assumption | (unfold pm_inI; omega)) (by first | assumption | (unfold pm_inI; omega)) (fun h2 => ?_) (fun h2 => ?_)
      · replace h2 : k < (l : Int) := h2
        omega
      · replace h2 : ¬ (k < (l : Int)) := h2
        refine g_iconst lk_38_12 ?_
        refine g_ireturn lk_38_13 (fun h => absurd h (by decide)) ?_
        exact ⟨by unfold ndOf; rw [if_pos (by omega)], rfl⟩
  obtain ⟨i, rfl⟩ := Int.eq_ofNat_of_zero_le (show 0 ≤ k by omega)
  obtain ⟨x, hx⟩ : ∃ x, L[i]? = some x := ⟨L[i]'(by omega), List.getElem?_eq_getElem (by omega)⟩
  have xx := hL i x hx
  have gd : L.getD i (0, 0, 0) = x := by rw [List.getD_eq_getElem?_getD, hx]; rfl
  have nd : ndOf L (i : Int) w = if w = 0 then (x.1 : Int) else if w = 1 then (x.2.1 : Int) else if w = 2 then x.2.2 else -1 := by
    unfold ndOf
    rw [if_neg (by omega), Int.toNat_natCast, gd]
  rw [nd]
  refine g_iload_n lk_38_0 rfl ?_
  refine g_if (t := 12) lk_38_1 rfl (by first | assumption | (unfold pm_inI; omega)) (fun h1 => ?_) (fun h1 => ?_)
  · replace h1 : (i : Int) < 0 := h1
    refine g_iconst lk_38_12 ?_
    refine g_ireturn lk_38_13 (fun h => absurd h (by decide)) ?_
    omega
  · replace h1 : ¬ ((i : Int) < 0) := h1
    refine g_iload_n lk_38_4 rfl ?_
    refine g_aload_n lk_38_5 rfl ?_
    refine m_getfield (u := []) (M := M) lk_38_6 rfl (lay.on (by decide) rfl) (v := (l : Int)) hct ?_
    refine g_icmp (t := 14) lk_38_9 rfl (by first | assumption | (unfold pm_inI; omega)) (by first | assumption | (unfold pm_inI; omega)) (fun h2 => ?_) (fun h2 => ?_)
    · replace h2 : (i : Int) < (l : Int) := h2
      refine g_iload_n lk_38_14 rfl ?_
      refine g_tsw lk_38_15 (by first | assumption | (unfold pm_inI; omega)) (And.intro (fun h3 => ?_) (fun h3 => (And.intro (fun h4 => ?_) (fun h4 => (And.intro (fun h5 => ?_) (fun h5 => ?_))))))
      · replace h3 : w = 0 := h3
        show Wp _ 38 40 [(2, ((112 : Nat) : Int)), (0, (i : Int)), (0, w)] [] M _ _ _
        refine g_aload_n lk_38_40 rfl ?_
        refine g_getfield lk_38_41 rfl (lay.on (by decide) rfl) (v := ((113 : Nat) : Int)) (lay.rf rfl) ?_
        refine g_iload_n lk_38_44 rfl ?_
        refine m_iaload (u := []) (M := M) lk_38_45 (lay.ay (by decide) rfl) (by omega) (j := i) (by omega) (v := (x.1 : Int)) xx.1 ?_
        refine g_ireturn lk_38_46 (fun h => absurd h (by decide)) ?_
        exact ⟨by rw [if_pos (by omega)], rfl⟩
      · replace h4 : w = 1 := h4
        show Wp _ 38 47 [(2, ((112 : Nat) : Int)), (0, (i : Int)), (0, w)] [] M _ _ _
        refine g_aload_n lk_38_47 rfl ?_
        refine g_getfield lk_38_48 rfl (lay.on (by decide) rfl) (v := ((114 : Nat) : Int)) (lay.rf rfl) ?_
        refine g_iload_n lk_38_51 rfl ?_
        refine m_iaload (u := []) (M := M) lk_38_52 (lay.ay (by decide) rfl) (by omega) (j := i) (by omega) (v := (x.2.1 : Int)) xx.2.1 ?_
        refine g_ireturn lk_38_53 (fun h => absurd h (by decide)) ?_
        exact ⟨by rw [if_neg (by omega), if_pos (by omega)], rfl⟩
      · replace h5 : w = 2 := h5
        show Wp _ 38 54 [(2, ((112 : Nat) : Int)), (0, (i : Int)), (0, w)] [] M _ _ _
        refine g_aload_n lk_38_54 rfl ?_
        refine g_getfield lk_38_55 rfl (lay.on (by decide) rfl) (v := ((115 : Nat) : Int)) (lay.rf rfl) ?_
        refine g_iload_n lk_38_58 rfl ?_
        refine m_iaload (u := []) (M := M) lk_38_59 (lay.ay (by decide) rfl) (by omega) (j := i) (by omega) (v := x.2.2) xx.2.2 ?_
        refine g_ireturn lk_38_60 (fun h => absurd h (by decide)) ?_
        exact ⟨by rw [if_neg (by omega), if_neg (by omega), if_pos (by omega)], rfl⟩
      · show Wp _ 38 61 [(2, ((112 : Nat) : Int)), (0, (i : Int)), (0, w)] [] M _ _ _
        replace h3 : ¬ w = 0 := h3
        replace h4 : ¬ w = 1 := h4
        replace h5 : ¬ w = 2 := h5
        refine g_iconst lk_38_61 ?_
        refine g_ireturn lk_38_62 (fun h => absurd h (by decide)) ?_
        exact ⟨by rw [if_neg (by omega), if_neg (by omega), if_neg (by omega)], rfl⟩
    · replace h2 : ¬ ((i : Int) < (l : Int)) := h2
      refine g_iconst lk_38_12 ?_
      refine g_ireturn lk_38_13 (fun h => absurd h (by decide)) ?_
      omega
set_option maxHeartbeats 4000000 in
theorem c_Best_tellTree2 {d mc ms : Nat} {M : pm_M} (lay0 : Lay M) {T : Tab} (hT : TabOK T) (hM0 : TbAt M 24 T) {s fa w f g : Nat} (hA0 : CA M T s fa) (hB0 : CB M T 2 110 w f) (hN0 : CN M T 2 110 g) (hff : f = 1 → fa = 1) (hgf : g = 1 → f = 1) (hsw : s ≠ w) (b1 : 2 ≤ mc) (b2 : 8192 ≤ ms) :
    pm_E (d + 16) 16 [(2, ((110 : Nat) : Int))] M mc ms (fun ρ M' => ρ = some (2, ((112 : Nat) : Int)) ∧ Lay M' ∧ TbAt M' 24 T ∧ ∃ s' w', CA M' T s' 1 ∧ CB M' T 2 110 w' 1 ∧ CN M' T 2 110 1 ∧ (s' = s ∨ M.1 ≤ s') ∧ (w' = w ∨ M.1 ≤ w') ∧ s' ≠ w' ∧ Gr [44, s, 110, w, 112, 113, 114, 115] M M') := by
  obtain ⟨Q, hQ⟩ : ∃ Q : pm_Q, Q = (fun ρ M' => ρ = some (2, ((112 : Nat) : Int)) ∧ Lay M' ∧ TbAt M' 24 T ∧ ∃ s' w', CA M' T s' 1 ∧ CB M' T 2 110 w' 1 ∧ CN M' T 2 110 1 ∧ (s' = s ∨ M.1 ≤ s') ∧ (w' = w ∨ M.1 ≤ w') ∧ s' ≠ w' ∧ Gr [44, s, 110, w, 112, 113, 114, 115] M M') := ⟨_, rfl⟩
  rw [← hQ]
  have ht : (24 : Nat) = 4 ∨ (24 : Nat) = 24 := Or.inr rfl
  have M157 := lay0.1
  show Wp (d + 16) 16 0 [(2, ((110 : Nat) : Int))] [] M mc ms Q
  by_cases g1 : g = 1
  · have f1 := hgf g1
    have fa1 := hff f1
    subst g1 f1 fa1
    have e6 := hN0.1
    refine g_aload_n lk_16_0 rfl ?_
    refine m_getfield (u := []) (M := M) lk_16_1 rfl (lay0.on (by decide) rfl) (v := 1) e6 ?_
    refine g_if (t := 43) lk_16_4 rfl (by first | (unfold pm_inI; omega) | exact pm_and_in _ _ | exact pm_shr_in _ _ | exact pm_or_in _ _ | exact pm_xor_in _ _ | exact pm_shl_in _ _ | exact pm_cmp_in _ _ | exact pm_b8_in _ | (unfold pm_inI; split <;> omega)) (fun _ => ?_) (fun h => absurd (show ¬ (1 : Int) = (0 : Int) by omega) h)
    refine g_aload_n lk_16_43 rfl ?_
    refine g_getfield lk_16_44 rfl (lay0.on (by decide) rfl) (v := ((112 : Nat) : Int)) (lay0.rf rfl) ?_
    refine g_areturn lk_16_47 ?_
    rw [hQ]
    exact ⟨rfl, lay0, hM0, s, w, hA0, hB0, hN0, Or.inl rfl, Or.inl rfl, hsw, Gr.refl _ _⟩
  have g0 : g = 0 := by have := hN0.2.1; omega
  subst g0
  have e6 := hN0.1
  -- the count is zero, and the nodes are told
  have k24 : ∀ (K : pm_M) (s' w' : Nat) (mc ms : Nat), Lay K → TbAt K 24 T → CA K T s' 1 → CB K T 2 110 w' 1 → pm_ct K 110 6 = 1 → pm_ct K 112 3 = 0 → (s' = s ∨ M.1 ≤ s') → (w' = w ∨ M.1 ≤ w') → s' ≠ w' → Gr [44, s, 110, w, 112, 113, 114, 115] M K → Wp (d + 16) 16 24 [(2, ((110 : Nat) : Int))] [] K mc ms Q := by
    intro K s' w' mc ms layK hM hA hB k6 k3 hss hww hne hG
    have gl := GT_len hT 2
    have gr := c_Best_grow2 hT 12 d 0 0 (2 ^ tR T - 1) (2 ^ tC T - 1) 0 K [] s' w' (whole_in hT) (GT_pop hT) (by omega) layK hM hA hB hne k3 (fun i x hx => by simp at hx) (by rw [List.length_nil, Nat.zero_add]; exact gl)
    rw [List.nil_append] at gr
    refine g_aload_n lk_16_24 rfl ?_
    refine g_aload_n lk_16_25 rfl ?_
    refine g_getfield lk_16_26 rfl (layK.on (by decide) rfl) (v := ((24 : Nat) : Int)) (layK.rf rfl) ?_
    refine g_virtual (p := 24) (Qc := _) lk_16_29 rfl (Nat.le_of_ble_eq_true rfl) rfl rfl (layK.on (by decide) rfl) (Nat.le_of_ble_eq_true rfl) (Nat.le_of_ble_eq_true rfl) (Nat.zero_le _) (Nat.zero_le _) (c_Table_allRows layK ht hT hM) ?_
    rintro _ N1 ⟨rfl, hN1⟩
    rw [hN1]
    show Wp _ 16 32 [(2, ((110 : Nat) : Int))] [(0, ((2 ^ tR T - 1 : Nat) : Int)), (2, ((110 : Nat) : Int))] K _ _ _
    refine g_aload_n lk_16_32 rfl ?_
    refine g_getfield lk_16_33 rfl (layK.on (by decide) rfl) (v := ((24 : Nat) : Int)) (layK.rf rfl) ?_
    refine g_virtual (p := 24) (Qc := _) lk_16_36 rfl (Nat.le_of_ble_eq_true rfl) rfl rfl (layK.on (by decide) rfl) (Nat.le_of_ble_eq_true rfl) (Nat.le_of_ble_eq_true rfl) (Nat.zero_le _) (Nat.zero_le _) (c_Table_allColumns layK ht hT hM) ?_
    rintro _ N2 ⟨rfl, hN2⟩
    rw [hN2]
    show Wp _ 16 39 [(2, ((110 : Nat) : Int))] [(0, ((2 ^ tC T - 1 : Nat) : Int)), (0, ((2 ^ tR T - 1 : Nat) : Int)), (2, ((110 : Nat) : Int))] K _ _ _
    refine g_iconst lk_16_39 ?_
    refine g_virtual (p := 110) (Qc := _) lk_16_40 rfl (Nat.le_of_ble_eq_true rfl) rfl rfl (layK.on (by decide) rfl) (Nat.le_of_ble_eq_true rfl) (Nat.le_of_ble_eq_true rfl) (Nat.zero_le _) (Nat.zero_le _) (gr) ?_
    rintro _ K1 ⟨rfl, lay1, f1, q1, c1, L1⟩
    show Wp _ 16 43 [(2, ((110 : Nat) : Int))] [] K1 _ _ _
    refine g_aload_n lk_16_43 rfl ?_
    refine g_getfield lk_16_44 rfl (lay1.on (by decide) rfl) (v := ((112 : Nat) : Int)) (lay1.rf rfl) ?_
    refine g_areturn lk_16_47 ?_
    rw [hQ]
    have nn : ∀ a, own a → a ∉ [44, 112, 113, 114, 115] := fun a h q => by
      simp at q
      rcases q with q | q | q | q | q
      all_goals exact absurd q.symm (own_ne h rfl)
    have K157 := layK.1
    refine ⟨rfl, lay1, hM.fr f1 (by decide) (by decide), s', w', hA.fr f1.gr (q1 1 (by decide)) (q1 2 (by decide)) (nn s' hA.1), hB.fr f1.gr (by omega) (by decide) (nn w' hB.1), ⟨by rw [f1.ct (by decide)]; exact k6, by decide, fun _ => ⟨c1, L1⟩⟩, hss, hww, hne, hG.trans (f1.gr.mono ?_)⟩
    intro a ha
    simp at ha
    simp
    omega
  have k16 : ∀ (K : pm_M) (s' w' : Nat) (mc ms : Nat), Lay K → TbAt K 24 T → CA K T s' 1 → CB K T 2 110 w' 1 → pm_ct K 110 6 = 1 → (s' = s ∨ M.1 ≤ s') → (w' = w ∨ M.1 ≤ w') → s' ≠ w' → Gr [44, s, 110, w] M K → Wp (d + 16) 16 16 [(2, ((110 : Nat) : Int))] [] K mc ms Q := by
    intro K s' w' mc ms layK hM hA hB k6 hss hww hne hG
    have K157 := layK.1
    refine g_aload_n lk_16_16 rfl ?_
    refine g_getfield lk_16_17 rfl (layK.on (by decide) rfl) (v := ((112 : Nat) : Int)) (layK.rf rfl) ?_
    refine g_iconst lk_16_20 ?_
    have lay1 : Lay (Mu [(112, pm_upd (pm_ct K 112) 3 0)] K) := layK.muF (l := []) (a := 112) (k := 3) (z := 0) rfl rfl
    refine m_putfield (u := []) (u' := [(112, pm_upd (pm_ct K 112) 3 0)]) (M := K) lk_16_21 rfl (layK.on (by decide) rfl) (fun h => absurd h (by decide)) rfl ?_
    have fM : Fr [112] K (Mu [(112, pm_upd (pm_ct K 112) 3 0)] K) := Fr.mu _ _ rfl
    have n1 : s' ∉ [112] := fun q => by simp at q; exact absurd q.symm (own_ne hA.1 rfl)
    have n2 : w' ∉ [112] := fun q => by simp at q; exact absurd q.symm (own_ne hB.1 rfl)
    refine k24 (Mu [(112, pm_upd (pm_ct K 112) 3 0)] K) s' w' _ _ lay1 (hM.fr fM (by decide) (by decide)) (hA.fr fM.gr (by rw [fM.ct (by decide)]) (by rw [fM.ct (by decide)]) n1) (hB.fr fM.gr (by omega) (by decide) n2) (by rw [fM.ct (by decide)]; exact k6) (by rw [Mu_ct]; rfl) hss hww hne ((hG.mono ?_).trans (fM.gr.mono ?_))
    · intro a ha; simp at ha; simp; omega
    · intro a ha; simp at ha; simp [ha]
  refine g_aload_n lk_16_0 rfl ?_
  refine m_getfield (u := []) (M := M) lk_16_1 rfl (lay0.on (by decide) rfl) (v := 0) e6 ?_
  refine g_if (t := 43) lk_16_4 rfl (by first | (unfold pm_inI; omega) | exact pm_and_in _ _ | exact pm_shr_in _ _ | exact pm_or_in _ _ | exact pm_xor_in _ _ | exact pm_shl_in _ _ | exact pm_cmp_in _ _ | exact pm_b8_in _ | (unfold pm_inI; split <;> omega)) (fun h => absurd h (show ¬ (¬ (0 : Int) = (0 : Int)) by omega)) (fun _ => ?_)
  refine g_aload_n lk_16_7 rfl ?_
  refine g_iconst lk_16_8 ?_
  have lay1 : Lay (Mu [(110, pm_upd (pm_ct M 110) 6 1)] M) := lay0.muF (l := []) (a := 110) (k := 6) (z := 1) rfl rfl
  refine m_putfield (u := []) (u' := [(110, pm_upd (pm_ct M 110) 6 1)]) (M := M) lk_16_9 rfl (lay0.on (by decide) rfl) (fun _ => by omega) rfl ?_
  refine g_aload_n lk_16_12 rfl ?_
  have fM : Fr [110] M (Mu [(110, pm_upd (pm_ct M 110) 6 1)] M) := Fr.mu _ _ rfl
  have n1 : s ∉ [110] := fun q => by simp at q; exact absurd q.symm (own_ne hA0.1 rfl)
  have n2 : w ∉ [110] := fun q => by simp at q; exact absurd q.symm (own_ne hB0.1 rfl)
  have hB1 : CB (Mu [(110, pm_upd (pm_ct M 110) 6 1)] M) T 2 110 w f := by
    obtain ⟨a1, a2, a3, a4, a5, n, a6, a7, a8⟩ := hB0
    refine ⟨a1, by rw [Mu_ct]; exact a2, by rw [Mu_ct]; exact a3, by rw [Mu_ct]; exact a4, a5, n, a6, fM.gr.ay a7, fun c => ⟨(a8 c).1, ?_⟩⟩
    have := (a8 c).2
    unfold WoOK at this ⊢
    rw [fM.gr.ct a7.2.1 n2]; exact this
  refine g_virtual (p := 110) (Qc := _) lk_16_13 rfl (Nat.le_of_ble_eq_true rfl) rfl rfl (lay1.on (by decide) rfl) (Nat.le_of_ble_eq_true rfl) (Nat.le_of_ble_eq_true rfl) (by omega) (by omega) (c_Best_solve2 (d := d + 12) (mc := 2) (ms := 8192) lay1 hT (hM0.fr fM (by decide) (by decide)) (hA0.fr fM.gr (by rw [fM.ct (by decide)]) (by rw [fM.ct (by decide)]) n1) hB1 hff hsw (by omega) (by omega)) ?_
  rintro _ K1 ⟨rfl, lay1, hM, s', w', hA1, hB1, ss, ww, sw, gg, g6⟩
  refine k16 K1 s' w' _ _ lay1 hM hA1 hB1 (by rw [g6, Mu_ct]; rfl) ss ww sw ((fM.gr.mono ?_).trans gg)
  intro a ha; simp at ha; simp [ha]
set_option maxHeartbeats 4000000 in
theorem c_X_node2 {d mc ms : Nat} {M : pm_M} (lay0 : Lay M) {T : Tab} (hT : TabOK T) (hM0 : TbAt M 24 T) {s fa w f g : Nat} (hA0 : CA M T s fa) (hB0 : CB M T 2 110 w f) (hN0 : CN M T 2 110 g) (hff : f = 1 → fa = 1) (hgf : g = 1 → f = 1) (hsw : s ≠ w) (b1 : 2 ≤ mc) (b2 : 8192 ≤ ms) {k v : Int} (hk : pm_inI k) (hv : pm_inI v) :
    pm_E (d + 17) 138 [(2, ((1 : Nat) : Int)), (0, 2), (0, k), (0, v)] M mc ms (fun ρ M' => ρ = some (0, sNode T 2 k v) ∧ Lay M' ∧ TbAt M' 24 T ∧ ∃ s' w', CA M' T s' 1 ∧ CB M' T 2 110 w' 1 ∧ CN M' T 2 110 1 ∧ (s' = s ∨ M.1 ≤ s') ∧ (w' = w ∨ M.1 ≤ w') ∧ s' ≠ w' ∧ Gr [44, s, 110, w, 112, 113, 114, 115] M M') := by
  have ih := fun (M : pm_M) => c_X_isHow (d := d + 16) (mc := 0) (ms := 0) (M := M) (v := 2) (by unfold pm_inI; omega)
  rw [if_pos (by omega)] at ih
  have gl := GT_len hT 2
  obtain ⟨l, hl⟩ : ∃ l, l = (GT T 2).length := ⟨_, rfl⟩
  have eN : sNode T 2 k v = if k = -1 then (l : Int) else ndOf (GT T 2) k v := by
    unfold sNode ndOf
    rw [if_neg (by omega), hl]
    rfl
  rw [eN]
  show Wp (d + 17) 138 0 [(2, ((1 : Nat) : Int)), (0, 2), (0, k), (0, v), (9, 0)] [] M mc ms _
  refine g_iload_n lk_138_0 rfl ?_
  refine g_static (Qc := _) lk_138_1 (by decide) rfl (Nat.le_of_ble_eq_true rfl) rfl rfl (Nat.le_of_ble_eq_true rfl) (Nat.le_of_ble_eq_true rfl) (Nat.zero_le _) (Nat.zero_le _) (ih _) ?_
  rintro _ N1 ⟨rfl, hN1⟩
  rw [hN1]
  show Wp _ 138 4 [(2, ((1 : Nat) : Int)), (0, 2), (0, k), (0, v), (9, 0)] [(0, 1)] M _ _ _
  refine g_if (t := 9) lk_138_4 rfl (by first | assumption | (unfold pm_inI; omega)) (fun _ => ?_) (fun h => absurd (show ¬ (1 : Int) = (0 : Int) by omega) h)
  refine g_aload_n lk_138_9 rfl ?_
  refine g_getfield lk_138_10 rfl (lay0.on (by decide) rfl) (v := ((46 : Nat) : Int)) (lay0.rf rfl) ?_
  refine g_iload_n lk_138_13 rfl ?_
  refine g_aaload lk_138_14 (by decide) (lay0.ay (by decide) rfl) (by omega) (v := ((110 : Nat) : Int)) (lay0.rf rfl) ?_
  refine g_virtual (p := 110) (Qc := _) lk_138_15 rfl (Nat.le_of_ble_eq_true rfl) rfl rfl (lay0.on (by decide) rfl) (Nat.le_of_ble_eq_true rfl) (Nat.le_of_ble_eq_true rfl) (by omega) (by omega) (c_Best_tellTree2 (d := d) (mc := 2) (ms := 8192) lay0 hT hM0 hA0 hB0 hN0 hff hgf hsw (by omega) (by omega)) ?_
  rintro _ K1 ⟨rfl, lay1, hM1, s', w', hA1, hB1, hN1, ss, ww, sw, gg⟩
  have cN := hN1.2.2 rfl
  have c3 : pm_ct K1 112 3 = (l : Int) := (by rw [hl]; exact cN.1)
  show Wp _ 138 18 [(2, ((1 : Nat) : Int)), (0, 2), (0, k), (0, v), (9, 0)] [(2, ((112 : Nat) : Int))] K1 _ _ _
  refine g_astore (ls' := [(2, ((1 : Nat) : Int)), (0, 2), (0, k), (0, v), (2, ((112 : Nat) : Int))]) lk_138_18 rfl rfl ?_
  refine g_iload_n lk_138_20 rfl ?_
  refine g_iconst lk_138_21 ?_
  refine g_icmp (t := 33) lk_138_22 rfl (by first | assumption | (unfold pm_inI; omega)) (by first | assumption | (unfold pm_inI; omega)) (fun h2 => ?_) (fun h2 => ?_)
  · replace h2 : ¬ k = (-1) := h2
    refine g_aload lk_138_33 rfl ?_
    refine g_iload_n lk_138_35 rfl ?_
    refine g_iload_n lk_138_36 rfl ?_
    refine g_virtual (p := 112) (Qc := _) lk_138_37 rfl (Nat.le_of_ble_eq_true rfl) rfl rfl (lay1.on (by decide) rfl) (Nat.le_of_ble_eq_true rfl) (Nat.le_of_ble_eq_true rfl) (Nat.zero_le _) (Nat.zero_le _) (c_Nodes_tellNode2 lay1 cN.1 cN.2 gl hk hv) ?_
    rintro _ N3 ⟨rfl, hN3⟩
    rw [hN3]
    show Wp _ 138 40 [(2, ((1 : Nat) : Int)), (0, 2), (0, k), (0, v), (2, ((112 : Nat) : Int))] [(0, (ndOf (GT T 2) k v))] K1 _ _ _
    refine g_ireturn lk_138_40 (fun h => absurd h (by decide)) ?_
    exact ⟨by rw [if_neg (by omega)], lay1, hM1, s', w', hA1, hB1, hN1, ss, ww, sw, gg⟩
  · replace h2 : ¬ (¬ k = (-1)) := h2
    refine g_aload lk_138_25 rfl ?_
    refine m_getfield (u := []) (M := K1) lk_138_27 rfl (lay1.on (by decide) rfl) (v := (l : Int)) c3 ?_
    refine g_goto (t := 40) lk_138_30 rfl ?_
    refine g_ireturn lk_138_40 (fun h => absurd h (by decide)) ?_
    exact ⟨by rw [if_pos (by omega)], lay1, hM1, s', w', hA1, hB1, hN1, ss, ww, sw, gg⟩
theorem c_X_nodeN {d mc ms : Nat} {M : pm_M} (lay0 : Lay M) {T : Tab} {w k v : Int} (hw : pm_inI w) (hno : w < 0 ∨ 2 < w) :
    pm_E (d + 1) 138 [(2, ((1 : Nat) : Int)), (0, w), (0, k), (0, v)] M mc ms (fun ρ M' => ρ = some (0, sNode T w k v) ∧ M' = M) := by
  have ih := fun (M : pm_M) => c_X_isHow (d := d) (mc := 0) (ms := 0) (M := M) (v := w) hw
  rw [if_neg (by omega)] at ih
  show Wp (d + 1) 138 0 [(2, ((1 : Nat) : Int)), (0, w), (0, k), (0, v), (9, 0)] [] M mc ms _
  refine g_iload_n lk_138_0 rfl ?_
  refine g_static (Qc := _) lk_138_1 (by decide) rfl (Nat.le_of_ble_eq_true rfl) rfl rfl (Nat.le_of_ble_eq_true rfl) (Nat.le_of_ble_eq_true rfl) (Nat.zero_le _) (Nat.zero_le _) (ih _) ?_
  rintro _ N1 ⟨rfl, hN1⟩
  rw [hN1]
  show Wp _ 138 4 [(2, ((1 : Nat) : Int)), (0, w), (0, k), (0, v), (9, 0)] [(0, 0)] M _ _ _
  refine g_if (t := 9) lk_138_4 rfl (by first | (unfold pm_inI; omega) | exact pm_and_in _ _ | exact pm_shr_in _ _ | exact pm_or_in _ _ | exact pm_xor_in _ _ | exact pm_shl_in _ _ | exact pm_cmp_in _ _ | exact pm_b8_in _ | (unfold pm_inI; split <;> omega)) (fun h => absurd h (show ¬ (¬ (0 : Int) = (0 : Int)) by omega)) (fun _ => ?_)
  refine g_iconst lk_138_7 ?_
  refine g_ireturn lk_138_8 (fun h => absurd h (by decide)) ?_
  refine ⟨?_, rfl⟩
  unfold sNode
  rw [if_pos hno]
