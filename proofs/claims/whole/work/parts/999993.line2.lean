/-! ===== a line of a text, the model ===== -/
def LtM (N : pm_M) (n : Nat) (ch : Nat → Nat) (Ts : List Nt) (r : Sum (Nat × Nat) (Nt × Tok)) : Prop := match r with
  | .inl e => BdM N e
  | .inr x => GdM N ch n x.2 ∧ TrsM N (Ts ++ [x.1])
theorem c_Mo_lineT {d mc ms n R C : Nat} {ch : Nat → Nat} {t : Tok} {M : pm_M} {Ts : List Nt} (lay : Lay M) (hG : GdM M ch n t) (hKd : KdM M 128) (hR : R ≤ 6) (hC : C ≤ 6) (f4 : pm_ct M 116 4 = (R : Int)) (f5 : pm_ct M 116 5 = (C : Int)) (hTs : TrsM M Ts) (l4 : Ts.length ≤ 4) (h1 : t.1 = 1 ∧ twd ch t = wTree) :
    pm_E (d + 5) 196 [(2, ((116 : Nat) : Int))] M mc ms (fun ρ M' => ρ = none ∧ Lay M' ∧ MF teS teK M M' ∧ KdM M' 128 ∧ LtM M' n ch Ts (pTree ch n R C Ts t)) := by
  obtain ⟨Q, hQ⟩ : ∃ Q : pm_Q, Q = (fun ρ M' => ρ = none ∧ Lay M' ∧ MF teS teK M M' ∧ KdM M' 128 ∧ LtM M' n ch Ts (pTree ch n R C Ts t)) := ⟨_, rfl⟩
  rw [← hQ]
  have iw1 := c_Mo_isWord (d := d + 4) (mc := 0) (ms := 0) lay hG.2.2.1 hG.2.2.2 (w := 114292) (by omega) (l := wCost) (fun m hm => (w32_con hm).2.2.1)
  have iw2 := c_Mo_isWord (d := d + 4) (mc := 0) (ms := 0) lay hG.2.2.1 hG.2.2.2 (w := 673957) (by omega) (l := wTree) (fun m hm => (w32_con hm).2.2.2.1)
  rw [if_neg (fun q => by rw [h1.2] at q; exact absurd q.2 (by decide))] at iw1
  rw [if_pos h1] at iw2
  have rt := c_Mo_readTree (d := d) (mc := 0) (ms := 0) lay hG hKd hR hC f4 f5 hTs l4
  show Wp (d + 5) 196 0 [(2, ((116 : Nat) : Int))] [] M mc ms Q
  have k71 : ∀ K : pm_M, Lay K → MF teS teK M K → KdM K 128 → ToM K n ch Ts (pT0 ch n R C Ts t) → Wp (d + 5) 196 71 [(2, ((116 : Nat) : Int))] [] K mc ms Q := by
    intro K lK mK kK tK
    cases hp : pT0 ch n R C Ts t with
    | inl e =>
      rw [hp] at tK
      have eb := c_Mo_endsB (d := d + 2) (mc := 0) (ms := 0) lK tK
      refine g_aload_n lk_196_71 rfl ?_
      refine g_virtual (p := 116) (Qc := _) lk_196_72 rfl (Nat.le_of_ble_eq_true rfl) rfl rfl (lK.on (by decide) rfl) (Nat.le_of_ble_eq_true rfl) (Nat.le_of_ble_eq_true rfl) (Nat.zero_le _) (Nat.zero_le _) (eb) ?_
      rintro _ K2 ⟨rfl, eK⟩
      rw [eK]
      show Wp _ 196 75 [(2, ((116 : Nat) : Int))] [] K _ _ _
      refine g_return lk_196_75 ?_
      rw [hQ, pT0_l hp]
      exact ⟨rfl, lK, mK, kK, tK⟩
    | inr y =>
      obtain ⟨x, t1⟩ := y
      rw [hp] at tK
      obtain ⟨gK, sK⟩ := tK
      have en := c_Mo_ends (d := d + 2) (mc := 0) (ms := 0) lK gK
      cases hs : pStop ch n t1 with
      | inl e =>
        rw [hs] at en
        refine g_aload_n lk_196_71 rfl ?_
        refine g_virtual (p := 116) (Qc := _) lk_196_72 rfl (Nat.le_of_ble_eq_true rfl) rfl rfl (lK.on (by decide) rfl) (Nat.le_of_ble_eq_true rfl) (Nat.le_of_ble_eq_true rfl) (Nat.zero_le _) (Nat.zero_le _) (en) ?_
        rintro _ K2 ⟨rfl, lay2, m2, b2⟩
        show Wp _ 196 75 [(2, ((116 : Nat) : Int))] [] K2 _ _ _
        refine g_return lk_196_75 ?_
        rw [hQ, pT0_s hp hs]
        exact ⟨rfl, lay2, mK.trans (m2.mono (fun a q => by cases q) (fun a q => by simp at q ⊢; omega)), kK.mf m2 (by decide) (by decide), b2⟩
      | inr t' =>
        rw [hs] at en
        refine g_aload_n lk_196_71 rfl ?_
        refine g_virtual (p := 116) (Qc := _) lk_196_72 rfl (Nat.le_of_ble_eq_true rfl) rfl rfl (lK.on (by decide) rfl) (Nat.le_of_ble_eq_true rfl) (Nat.le_of_ble_eq_true rfl) (Nat.zero_le _) (Nat.zero_le _) (en) ?_
        rintro _ K2 ⟨rfl, lay2, m2, b2⟩
        show Wp _ 196 75 [(2, ((116 : Nat) : Int))] [] K2 _ _ _
        refine g_return lk_196_75 ?_
        rw [hQ, pT0_r hp hs]
        exact ⟨rfl, lay2, mK.trans (m2.mono (fun a q => by cases q) (fun a q => by simp at q ⊢; omega)), kK.mf m2 (by decide) (by decide), b2, sK.mf m2 (by decide) (by decide)⟩
  refine g_aload_n lk_196_0 rfl ?_
  refine g_ldc lk_196_1 ?_
  refine g_virtual (p := 116) (Qc := _) lk_196_3 rfl (Nat.le_of_ble_eq_true rfl) rfl rfl (lay.on (by decide) rfl) (Nat.le_of_ble_eq_true rfl) (Nat.le_of_ble_eq_true rfl) (Nat.zero_le _) (Nat.zero_le _) (iw1) ?_
  rintro _ N1 ⟨rfl, hN1⟩
  rw [hN1]
  show Wp _ 196 6 [(2, ((116 : Nat) : Int))] [(0, 0)] M _ _ _
  refine g_if (t := 50) lk_196_6 rfl (by first | (unfold pm_inI; omega) | exact pm_and_in _ _ | exact pm_shr_in _ _ | exact pm_or_in _ _ | exact pm_xor_in _ _ | exact pm_shl_in _ _ | exact pm_cmp_in _ _ | exact pm_b8_in _ | (unfold pm_inI; split <;> omega)) (fun _ => ?_) (fun h => absurd (show (0 : Int) = (0 : Int) by omega) h)
  refine g_aload_n lk_196_50 rfl ?_
  refine g_ldc lk_196_51 ?_
  refine g_virtual (p := 116) (Qc := _) lk_196_53 rfl (Nat.le_of_ble_eq_true rfl) rfl rfl (lay.on (by decide) rfl) (Nat.le_of_ble_eq_true rfl) (Nat.le_of_ble_eq_true rfl) (Nat.zero_le _) (Nat.zero_le _) (iw2) ?_
  rintro _ N2 ⟨rfl, hN2⟩
  rw [hN2]
  show Wp _ 196 56 [(2, ((116 : Nat) : Int))] [(0, 1)] M _ _ _
  refine g_if (t := 66) lk_196_56 rfl (by first | (unfold pm_inI; omega) | exact pm_and_in _ _ | exact pm_shr_in _ _ | exact pm_or_in _ _ | exact pm_xor_in _ _ | exact pm_shl_in _ _ | exact pm_cmp_in _ _ | exact pm_b8_in _ | (unfold pm_inI; split <;> omega)) (fun h => absurd h (show ¬ ((1 : Int) = (0 : Int)) by omega)) (fun _ => ?_)
  refine g_aload_n lk_196_59 rfl ?_
  refine g_virtual (p := 116) (Qc := _) lk_196_60 rfl (Nat.le_of_ble_eq_true rfl) rfl rfl (lay.on (by decide) rfl) (Nat.le_of_ble_eq_true rfl) (Nat.le_of_ble_eq_true rfl) (Nat.zero_le _) (Nat.zero_le _) (rt) ?_
  rintro _ K1 ⟨rfl, lay1, m1, kd1, to1⟩
  show Wp _ 196 63 [(2, ((116 : Nat) : Int))] [] K1 _ _ _
  refine g_goto (t := 71) lk_196_63 rfl ?_
  exact k71 K1 lay1 m1 kd1 to1
def CoM (N : pm_M) (n : Nat) (ch : Nat → Nat) (r : Sum (Nat × Nat) (Tab × Tok)) : Prop := match r with
  | .inl e => BdM N e
  | .inr x => GdM N ch n x.2 ∧ pm_ct N 116 33 = 1 ∧ pm_ct N 121 1 = (tA x.1 : Int) ∧ pm_ct N 121 2 = (tB x.1 : Int)
abbrev coK : List Nat := [25, 26, 27, 28, 31, 32, 33]
set_option maxHeartbeats 4000000 in
theorem c_Mo_lineC {d mc ms n w : Nat} {ch : Nat → Nat} {t : Tok} {M : pm_M} {T : Tab} (lay : Lay M) (hG : GdM M ch n t) (h33 : pm_ct M 116 33 = (w : Int)) (w1 : w ≤ 1) (h1 : ¬ (t.1 = 1 ∧ twd ch t = wTree)) :
    pm_E (d + 5) 196 [(2, ((116 : Nat) : Int))] M mc ms (fun ρ M' => ρ = none ∧ Lay M' ∧ MF [121] coK M M' ∧ CoM M' n ch (pCost ch n T w t)) := by
  obtain ⟨Q, hQ⟩ : ∃ Q : pm_Q, Q = (fun ρ M' => ρ = none ∧ Lay M' ∧ MF [121] coK M M' ∧ CoM M' n ch (pCost ch n T w t)) := ⟨_, rfl⟩
  rw [← hQ]
  have hK := hG.2.2.2
  have n5 := hG.1.1
  have u1 := (lxt_ok (ch := ch) hK.2.2.1 n5).1
  have u2 := (lxt_ok (ch := ch) u1.2.2.1 n5).1
  have iw1 := c_Mo_isWord (d := d + 4) (mc := 0) (ms := 0) lay hG.2.2.1 hG.2.2.2 (w := 114292) (by omega) (l := wCost) (fun m hm => (w32_con hm).2.2.1)
  have iw2 := c_Mo_isWord (d := d + 4) (mc := 0) (ms := 0) lay hG.2.2.1 hG.2.2.2 (w := 673957) (by omega) (l := wTree) (fun m hm => (w32_con hm).2.2.2.1)
  rw [if_neg h1] at iw2
  have b71 : ∀ (e : Nat × Nat) (K : pm_M), pCost ch n T w t = .inl e → Lay K → MF [121] coK M K → BdM K e → Wp (d + 5) 196 71 [(2, ((116 : Nat) : Int))] [] K mc ms Q := by
    intro e K hp lK mK bK
    have eb := c_Mo_endsB (d := d + 2) (mc := 0) (ms := 0) lK bK
    refine g_aload_n lk_196_71 rfl ?_
    refine g_virtual (p := 116) (Qc := _) lk_196_72 rfl (Nat.le_of_ble_eq_true rfl) rfl rfl (lK.on (by decide) rfl) (Nat.le_of_ble_eq_true rfl) (Nat.le_of_ble_eq_true rfl) (Nat.zero_le _) (Nat.zero_le _) (eb) ?_
    rintro _ K2 ⟨rfl, eK⟩
    rw [eK]
    show Wp _ 196 75 [(2, ((116 : Nat) : Int))] [] K _ _ _
    refine g_return lk_196_75 ?_
    rw [hQ, hp]
    exact ⟨rfl, lK, mK, bK⟩
  show Wp (d + 5) 196 0 [(2, ((116 : Nat) : Int))] [] M mc ms Q
  by_cases g : t.1 = 1 ∧ twd ch t = wCost ∧ w = 0
  rotate_left
  · have hp : pCost ch n T w t = .inl (flt 2 t) := pCost_no g
    have fa := hG.fa lay (d := d + 4) (mc := 0) (ms := 0) (w := 2)
    have fr := flt_r (w := 2) (t := t) (by omega)
    have k50 : Wp (d + 5) 196 50 [(2, ((116 : Nat) : Int))] [] M mc ms Q := by
      refine g_aload_n lk_196_50 rfl ?_
      refine g_ldc lk_196_51 ?_
      refine g_virtual (p := 116) (Qc := _) lk_196_53 rfl (Nat.le_of_ble_eq_true rfl) rfl rfl (lay.on (by decide) rfl) (Nat.le_of_ble_eq_true rfl) (Nat.le_of_ble_eq_true rfl) (Nat.zero_le _) (Nat.zero_le _) (iw2) ?_
      rintro _ N1 ⟨rfl, hN1⟩
      rw [hN1]
      show Wp _ 196 56 [(2, ((116 : Nat) : Int))] [(0, 0)] M _ _ _
      refine g_if (t := 66) lk_196_56 rfl (by first | (unfold pm_inI; omega) | exact pm_and_in _ _ | exact pm_shr_in _ _ | exact pm_or_in _ _ | exact pm_xor_in _ _ | exact pm_shl_in _ _ | exact pm_cmp_in _ _ | exact pm_b8_in _ | (unfold pm_inI; split <;> omega)) (fun _ => ?_) (fun h => absurd (show (0 : Int) = (0 : Int) by omega) h)
      refine g_aload_n lk_196_66 rfl ?_
      refine g_iconst lk_196_67 ?_
      refine g_virtual (p := 116) (Qc := _) lk_196_68 rfl (Nat.le_of_ble_eq_true rfl) rfl rfl (lay.on (by decide) rfl) (Nat.le_of_ble_eq_true rfl) (Nat.le_of_ble_eq_true rfl) (Nat.zero_le _) (Nat.zero_le _) (fa) ?_
      rintro _ K1 ⟨rfl, lay1, m1, ft1⟩
      show Wp _ 196 71 [(2, ((116 : Nat) : Int))] [] K1 _ _ _
      exact b71 _ K1 hp lay1 (m1.mono (fun a q => by cases q) (fun a q => by simp at q ⊢; omega)) ⟨ft1, fr⟩
    by_cases c : t.1 = 1 ∧ twd ch t = wCost
    · rw [if_pos c] at iw1
      have ew : w = 1 := by
        have : ¬ w = 0 := fun q => g ⟨c.1, c.2, q⟩
        omega
      rw [ew] at h33
      have h33' : pm_ct M 116 33 = 1 := h33
      refine g_aload_n lk_196_0 rfl ?_
      refine g_ldc lk_196_1 ?_
      refine g_virtual (p := 116) (Qc := _) lk_196_3 rfl (Nat.le_of_ble_eq_true rfl) rfl rfl (lay.on (by decide) rfl) (Nat.le_of_ble_eq_true rfl) (Nat.le_of_ble_eq_true rfl) (Nat.zero_le _) (Nat.zero_le _) (iw1) ?_
      rintro _ N1 ⟨rfl, hN1⟩
      rw [hN1]
      show Wp _ 196 6 [(2, ((116 : Nat) : Int))] [(0, 1)] M _ _ _
      refine g_if (t := 50) lk_196_6 rfl (by first | (unfold pm_inI; omega) | exact pm_and_in _ _ | exact pm_shr_in _ _ | exact pm_or_in _ _ | exact pm_xor_in _ _ | exact pm_shl_in _ _ | exact pm_cmp_in _ _ | exact pm_b8_in _ | (unfold pm_inI; split <;> omega)) (fun h => absurd h (show ¬ ((1 : Int) = (0 : Int)) by omega)) (fun _ => ?_)
      refine g_aload_n lk_196_9 rfl ?_
      refine m_getfield (u := []) (M := M) lk_196_10 rfl (lay.on (by decide) rfl) (v := 1) h33' ?_
      refine g_if (t := 50) lk_196_13 rfl (by first | (unfold pm_inI; omega) | exact pm_and_in _ _ | exact pm_shr_in _ _ | exact pm_or_in _ _ | exact pm_xor_in _ _ | exact pm_shl_in _ _ | exact pm_cmp_in _ _ | exact pm_b8_in _ | (unfold pm_inI; split <;> omega)) (fun _ => ?_) (fun h => absurd (show ¬ (1 : Int) = (0 : Int) by omega) h)
      exact k50
    · rw [if_neg c] at iw1
      refine g_aload_n lk_196_0 rfl ?_
      refine g_ldc lk_196_1 ?_
      refine g_virtual (p := 116) (Qc := _) lk_196_3 rfl (Nat.le_of_ble_eq_true rfl) rfl rfl (lay.on (by decide) rfl) (Nat.le_of_ble_eq_true rfl) (Nat.le_of_ble_eq_true rfl) (Nat.zero_le _) (Nat.zero_le _) (iw1) ?_
      rintro _ N1 ⟨rfl, hN1⟩
      rw [hN1]
      show Wp _ 196 6 [(2, ((116 : Nat) : Int))] [(0, 0)] M _ _ _
      refine g_if (t := 50) lk_196_6 rfl (by first | (unfold pm_inI; omega) | exact pm_and_in _ _ | exact pm_shr_in _ _ | exact pm_or_in _ _ | exact pm_xor_in _ _ | exact pm_shl_in _ _ | exact pm_cmp_in _ _ | exact pm_b8_in _ | (unfold pm_inI; split <;> omega)) (fun _ => ?_) (fun h => absurd (show (0 : Int) = (0 : Int) by omega) h)
      exact k50
  · rw [if_pos ⟨g.1, g.2.1⟩] at iw1
    have h33' : pm_ct M 116 33 = 0 := by rw [h33, g.2.2]; rfl
    obtain ⟨t1, ht1⟩ : ∃ t1, t1 = lxt ch n t.2.2 := ⟨_, rfl⟩
    obtain ⟨t2, ht2⟩ : ∃ t2, t2 = lxt ch n t1.2.2 := ⟨_, rfl⟩
    rw [← ht1] at u1 u2
    rw [← ht2] at u2
    have b36 : ∀ (e : Nat × Nat) (K : pm_M), pCost ch n T w t = .inl e → Lay K → MF [121] coK M K → pm_ct K 116 25 = (t1.2.1 : Int) → BdM K e → Wp (d + 5) 196 36 [(2, ((116 : Nat) : Int))] [] K mc ms Q := by
      intro e K hp lK mK f25 bK
      have a5 : t1.2.1 ≤ 500 := by have := u1.2.1; have := u1.2.2.1; omega
      have ro := c_Mo_readOneB (d := d + 2) (mc := 0) (ms := 0) lK (hG.1.mf mK (by decide) (by decide)) f25 a5 bK (l := 1)
      refine g_aload_n lk_196_36 rfl ?_
      refine g_getfield lk_196_37 rfl (lK.on (by decide) rfl) (v := ((121 : Nat) : Int)) (lK.rf rfl) ?_
      refine g_iconst lk_196_40 ?_
      refine g_aload_n lk_196_41 rfl ?_
      refine g_iconst lk_196_42 ?_
      refine g_virtual (p := 116) (Qc := _) lk_196_43 rfl (Nat.le_of_ble_eq_true rfl) rfl rfl (lK.on (by decide) rfl) (Nat.le_of_ble_eq_true rfl) (Nat.le_of_ble_eq_true rfl) (Nat.zero_le _) (Nat.zero_le _) (ro) ?_
      rintro ρ K2 ⟨⟨z, rfl⟩, eK⟩
      rw [eK]
      show Wp _ 196 46 [(2, ((116 : Nat) : Int))] [(0, z), (0, 2), (2, ((121 : Nat) : Int))] K _ _ _
      have lay1 : Lay (Mu [(121, pm_upd (pm_ct K 121) 2 z)] K) := lK.muA (l := []) (a := 121) (f := pm_upd (pm_ct K 121) 2 z) rfl rfl
      refine m_iastore (u := []) (u' := [(121, pm_upd (pm_ct K 121) 2 z)]) (M := K) lk_196_46 (lK.ay (by decide) rfl) (by omega) (j := 2) (by omega) rfl ?_
      refine g_goto (t := 71) lk_196_47 rfl ?_
      exact b71 e (Mu [(121, pm_upd (pm_ct K 121) 2 z)] K) hp lay1 (mK.trans (MF.mu _ _ rfl (fun _ _ => rfl))) (bK.mf (MF.mu (S := [121]) (K := []) _ _ rfl (fun _ _ => rfl)) (by decide) (by decide))
    have k21 : ∀ K : pm_M, Lay K → MF [] [33] M K → pm_ct K 116 33 = 1 → Wp (d + 5) 196 21 [(2, ((116 : Nat) : Int))] [] K mc ms Q := by
      intro K lK mK K33
      have gK := hG.mf mK (by decide) (by decide)
      have go := gK.go lK (d := d + 3) (mc := 0) (ms := 0)
      have mK' : MF [121] coK M K := mK.mono (fun a q => by cases q) (fun a q => by simp at q ⊢; omega)
      have nx := fun (N : pm_M) => gK.next (N := N)
      rw [← ht1] at go nx
      cases k1 : pNum ch 1 t1 with
      | inl e =>
        have hp : pCost ch n T w t = .inl e := pCost_0 g (by rw [← ht1]; exact k1)
        refine g_aload_n lk_196_21 rfl ?_
        refine g_virtual (p := 116) (Qc := _) lk_196_22 rfl (Nat.le_of_ble_eq_true rfl) rfl rfl (lK.on (by decide) rfl) (Nat.le_of_ble_eq_true rfl) (Nat.le_of_ble_eq_true rfl) (Nat.zero_le _) (Nat.zero_le _) (go) ?_
        rintro _ K1 ⟨rfl, lay1, m1, tk1⟩
        have ro := c_Mo_readOneF (d := d + 2) (mc := 0) (ms := 0) lay1 (nx K1 m1 tk1) (l := 1) (by omega) k1
        show Wp _ 196 25 [(2, ((116 : Nat) : Int))] [] K1 _ _ _
        refine g_aload_n lk_196_25 rfl ?_
        refine g_getfield lk_196_26 rfl (lay1.on (by decide) rfl) (v := ((121 : Nat) : Int)) (lay1.rf rfl) ?_
        refine g_iconst lk_196_29 ?_
        refine g_aload_n lk_196_30 rfl ?_
        refine g_iconst lk_196_31 ?_
        refine g_virtual (p := 116) (Qc := _) lk_196_32 rfl (Nat.le_of_ble_eq_true rfl) rfl rfl (lay1.on (by decide) rfl) (Nat.le_of_ble_eq_true rfl) (Nat.le_of_ble_eq_true rfl) (Nat.zero_le _) (Nat.zero_le _) (ro) ?_
        rintro ρ K2 ⟨lay2, m2, b2, z, rfl⟩
        show Wp _ 196 35 [(2, ((116 : Nat) : Int))] [(0, z), (0, 1), (2, ((121 : Nat) : Int))] K2 _ _ _
        have lay1 : Lay (Mu [(121, pm_upd (pm_ct K2 121) 1 z)] K2) := lay2.muA (l := []) (a := 121) (f := pm_upd (pm_ct K2 121) 1 z) rfl rfl
        refine m_iastore (u := []) (u' := [(121, pm_upd (pm_ct K2 121) 1 z)]) (M := K2) lk_196_35 (lay2.ay (by decide) rfl) (by omega) (j := 1) (by omega) rfl ?_
        have m4 : MF [121] [] K2 (Mu [(121, pm_upd (pm_ct K2 121) 1 z)] K2) := MF.mu _ _ rfl (fun _ _ => rfl)
        exact b36 e (Mu [(121, pm_upd (pm_ct K2 121) 1 z)] K2) hp lay1 (((mK'.trans (m1.mono (fun a q => by cases q) (fun a q => by simp at q ⊢; omega))).trans (m2.mono (fun a q => by cases q) (fun a q => by simp at q ⊢; omega))).trans (m4.mono (fun a q => q) (fun a q => by cases q))) (by rw [m4.fd (by decide), m2.fd (by decide)]; exact tk1.2.1) (b2.mf m4 (by decide) (by decide))
      | inr a =>
        have g36 : ∀ N : pm_M, Lay N → MF [121] coK M N → GdM N ch n t2 → pm_ct N 116 33 = 1 → pm_ct N 121 1 = (a : Int) → Wp (d + 5) 196 36 [(2, ((116 : Nat) : Int))] [] N mc ms Q := by
          intro N lN mN gN N33 q1
          cases k2 : pNum ch 1 t2 with
          | inl e =>
            have hp : pCost ch n T w t = .inl e := pCost_1 g (by rw [← ht1]; exact k1) (by rw [← ht1, ← ht2]; exact k2)
            have ro := c_Mo_readOneF (d := d + 2) (mc := 0) (ms := 0) lN gN (l := 1) (by omega) k2
            refine g_aload_n lk_196_36 rfl ?_
            refine g_getfield lk_196_37 rfl (lN.on (by decide) rfl) (v := ((121 : Nat) : Int)) (lN.rf rfl) ?_
            refine g_iconst lk_196_40 ?_
            refine g_aload_n lk_196_41 rfl ?_
            refine g_iconst lk_196_42 ?_
            refine g_virtual (p := 116) (Qc := _) lk_196_43 rfl (Nat.le_of_ble_eq_true rfl) rfl rfl (lN.on (by decide) rfl) (Nat.le_of_ble_eq_true rfl) (Nat.le_of_ble_eq_true rfl) (Nat.zero_le _) (Nat.zero_le _) (ro) ?_
            rintro ρ K2 ⟨lay2, m2, b2, z, rfl⟩
            show Wp _ 196 46 [(2, ((116 : Nat) : Int))] [(0, z), (0, 2), (2, ((121 : Nat) : Int))] K2 _ _ _
            have lay1 : Lay (Mu [(121, pm_upd (pm_ct K2 121) 2 z)] K2) := lay2.muA (l := []) (a := 121) (f := pm_upd (pm_ct K2 121) 2 z) rfl rfl
            refine m_iastore (u := []) (u' := [(121, pm_upd (pm_ct K2 121) 2 z)]) (M := K2) lk_196_46 (lay2.ay (by decide) rfl) (by omega) (j := 2) (by omega) rfl ?_
            refine g_goto (t := 71) lk_196_47 rfl ?_
            have m4 : MF [121] [] K2 (Mu [(121, pm_upd (pm_ct K2 121) 2 z)] K2) := MF.mu _ _ rfl (fun _ _ => rfl)
            exact b71 e (Mu [(121, pm_upd (pm_ct K2 121) 2 z)] K2) hp lay1 ((mN.trans (m2.mono (fun a q => by cases q) (fun a q => by simp at q ⊢; omega))).trans (m4.mono (fun a q => q) (fun a q => by cases q))) (b2.mf m4 (by decide) (by decide))
          | inr b =>
            have ro := c_Mo_readOne (d := d + 2) (mc := 0) (ms := 0) lN gN (l := 1) (by omega)
            obtain ⟨t3, ht3⟩ : ∃ t3, t3 = lxt ch n t2.2.2 := ⟨_, rfl⟩
            rw [← ht3] at ro
            have g71 : ∀ P : pm_M, Lay P → MF [121] coK M P → GdM P ch n t3 → pm_ct P 116 33 = 1 → pm_ct P 121 1 = (a : Int) → pm_ct P 121 2 = (b : Int) → Wp (d + 5) 196 71 [(2, ((116 : Nat) : Int))] [] P mc ms Q := by
              intro P lP mP gP P33 p1 p2
              have en := c_Mo_ends (d := d + 2) (mc := 0) (ms := 0) lP gP
              cases k3 : pStop ch n t3 with
              | inl e =>
                rw [k3] at en
                have hp : pCost ch n T w t = .inl e := pCost_2 g (by rw [← ht1]; exact k1) (by rw [← ht1, ← ht2]; exact k2) (by rw [← ht1, ← ht2, ← ht3]; exact k3)
                refine g_aload_n lk_196_71 rfl ?_
                refine g_virtual (p := 116) (Qc := _) lk_196_72 rfl (Nat.le_of_ble_eq_true rfl) rfl rfl (lP.on (by decide) rfl) (Nat.le_of_ble_eq_true rfl) (Nat.le_of_ble_eq_true rfl) (Nat.zero_le _) (Nat.zero_le _) (en) ?_
                rintro _ K2 ⟨rfl, lay2, m2, b2⟩
                show Wp _ 196 75 [(2, ((116 : Nat) : Int))] [] K2 _ _ _
                refine g_return lk_196_75 ?_
                rw [hQ, hp]
                exact ⟨rfl, lay2, mP.trans (m2.mono (fun a q => by cases q) (fun a q => by simp at q ⊢; omega)), b2⟩
              | inr t' =>
                rw [k3] at en
                have hp : pCost ch n T w t = .inr ((tR T, tC T, T.2.2.1, a, b), t') := pCost_3 g (by rw [← ht1]; exact k1) (by rw [← ht1, ← ht2]; exact k2) (by rw [← ht1, ← ht2, ← ht3]; exact k3)
                refine g_aload_n lk_196_71 rfl ?_
                refine g_virtual (p := 116) (Qc := _) lk_196_72 rfl (Nat.le_of_ble_eq_true rfl) rfl rfl (lP.on (by decide) rfl) (Nat.le_of_ble_eq_true rfl) (Nat.le_of_ble_eq_true rfl) (Nat.zero_le _) (Nat.zero_le _) (en) ?_
                rintro _ K2 ⟨rfl, lay2, m2, b2⟩
                show Wp _ 196 75 [(2, ((116 : Nat) : Int))] [] K2 _ _ _
                refine g_return lk_196_75 ?_
                rw [hQ, hp]
                exact ⟨rfl, lay2, mP.trans (m2.mono (fun a q => by cases q) (fun a q => by simp at q ⊢; omega)), b2, by rw [m2.fd (by decide)]; exact P33, by rw [m2.ct (by decide) (by decide)]; exact p1, by rw [m2.ct (by decide) (by decide)]; exact p2⟩
            refine g_aload_n lk_196_36 rfl ?_
            refine g_getfield lk_196_37 rfl (lN.on (by decide) rfl) (v := ((121 : Nat) : Int)) (lN.rf rfl) ?_
            refine g_iconst lk_196_40 ?_
            refine g_aload_n lk_196_41 rfl ?_
            refine g_iconst lk_196_42 ?_
            refine g_virtual (p := 116) (Qc := _) lk_196_43 rfl (Nat.le_of_ble_eq_true rfl) rfl rfl (lN.on (by decide) rfl) (Nat.le_of_ble_eq_true rfl) (Nat.le_of_ble_eq_true rfl) (Nat.zero_le _) (Nat.zero_le _) (ro) ?_
            rintro ρ K2 ⟨lay2, m2, o2⟩
            obtain ⟨v9, rfl, g2⟩ := num_inrM k2 o2
            show Wp _ 196 46 [(2, ((116 : Nat) : Int))] [(0, (b : Int)), (0, 2), (2, ((121 : Nat) : Int))] K2 _ _ _
            have lay1 : Lay (Mu [(121, pm_upd (pm_ct K2 121) 2 (b : Int))] K2) := lay2.muA (l := []) (a := 121) (f := pm_upd (pm_ct K2 121) 2 (b : Int)) rfl rfl
            refine m_iastore (u := []) (u' := [(121, pm_upd (pm_ct K2 121) 2 (b : Int))]) (M := K2) lk_196_46 (lay2.ay (by decide) rfl) (by omega) (j := 2) (by omega) rfl ?_
            refine g_goto (t := 71) lk_196_47 rfl ?_
            have m4 : MF [121] [] K2 (Mu [(121, pm_upd (pm_ct K2 121) 2 (b : Int))] K2) := MF.mu _ _ rfl (fun _ _ => rfl)
            exact g71 (Mu [(121, pm_upd (pm_ct K2 121) 2 (b : Int))] K2) lay1 ((mN.trans (m2.mono (fun a q => by cases q) (fun a q => by simp at q ⊢; omega))).trans (m4.mono (fun a q => q) (fun a q => by cases q))) (g2.mf m4 (by decide) (by decide)) (by rw [m4.fd (by decide), m2.fd (by decide)]; exact N33) (by rw [Mu_ct]; show pm_ct K2 121 1 = _; rw [m2.ct (by decide) (by decide)]; exact q1) (by rw [Mu_ct]; rfl)
        refine g_aload_n lk_196_21 rfl ?_
        refine g_virtual (p := 116) (Qc := _) lk_196_22 rfl (Nat.le_of_ble_eq_true rfl) rfl rfl (lK.on (by decide) rfl) (Nat.le_of_ble_eq_true rfl) (Nat.le_of_ble_eq_true rfl) (Nat.zero_le _) (Nat.zero_le _) (go) ?_
        rintro _ K1 ⟨rfl, lay1, m1, tk1⟩
        have ro := c_Mo_readOne (d := d + 2) (mc := 0) (ms := 0) lay1 (nx K1 m1 tk1) (l := 1) (by omega)
        rw [← ht2] at ro
        show Wp _ 196 25 [(2, ((116 : Nat) : Int))] [] K1 _ _ _
        refine g_aload_n lk_196_25 rfl ?_
        refine g_getfield lk_196_26 rfl (lay1.on (by decide) rfl) (v := ((121 : Nat) : Int)) (lay1.rf rfl) ?_
        refine g_iconst lk_196_29 ?_
        refine g_aload_n lk_196_30 rfl ?_
        refine g_iconst lk_196_31 ?_
        refine g_virtual (p := 116) (Qc := _) lk_196_32 rfl (Nat.le_of_ble_eq_true rfl) rfl rfl (lay1.on (by decide) rfl) (Nat.le_of_ble_eq_true rfl) (Nat.le_of_ble_eq_true rfl) (Nat.zero_le _) (Nat.zero_le _) (ro) ?_
        rintro ρ K2 ⟨lay2, m2, o2⟩
        obtain ⟨v9, rfl, g2⟩ := num_inrM k1 o2
        show Wp _ 196 35 [(2, ((116 : Nat) : Int))] [(0, (a : Int)), (0, 1), (2, ((121 : Nat) : Int))] K2 _ _ _
        have lay1 : Lay (Mu [(121, pm_upd (pm_ct K2 121) 1 (a : Int))] K2) := lay2.muA (l := []) (a := 121) (f := pm_upd (pm_ct K2 121) 1 (a : Int)) rfl rfl
        refine m_iastore (u := []) (u' := [(121, pm_upd (pm_ct K2 121) 1 (a : Int))]) (M := K2) lk_196_35 (lay2.ay (by decide) rfl) (by omega) (j := 1) (by omega) rfl ?_
        have m4 : MF [121] [] K2 (Mu [(121, pm_upd (pm_ct K2 121) 1 (a : Int))] K2) := MF.mu _ _ rfl (fun _ _ => rfl)
        exact g36 (Mu [(121, pm_upd (pm_ct K2 121) 1 (a : Int))] K2) lay1 (((mK'.trans (m1.mono (fun a q => by cases q) (fun a q => by simp at q ⊢; omega))).trans (m2.mono (fun a q => by cases q) (fun a q => by simp at q ⊢; omega))).trans (m4.mono (fun a q => q) (fun a q => by cases q))) (g2.mf m4 (by decide) (by decide)) (by rw [m4.fd (by decide), m2.fd (by decide), m1.fd (by decide)]; exact K33) (by rw [Mu_ct]; rfl)
    refine g_aload_n lk_196_0 rfl ?_
    refine g_ldc lk_196_1 ?_
    refine g_virtual (p := 116) (Qc := _) lk_196_3 rfl (Nat.le_of_ble_eq_true rfl) rfl rfl (lay.on (by decide) rfl) (Nat.le_of_ble_eq_true rfl) (Nat.le_of_ble_eq_true rfl) (Nat.zero_le _) (Nat.zero_le _) (iw1) ?_
    rintro _ N1 ⟨rfl, hN1⟩
    rw [hN1]
    show Wp _ 196 6 [(2, ((116 : Nat) : Int))] [(0, 1)] M _ _ _
    refine g_if (t := 50) lk_196_6 rfl (by first | (unfold pm_inI; omega) | exact pm_and_in _ _ | exact pm_shr_in _ _ | exact pm_or_in _ _ | exact pm_xor_in _ _ | exact pm_shl_in _ _ | exact pm_cmp_in _ _ | exact pm_b8_in _ | (unfold pm_inI; split <;> omega)) (fun h => absurd h (show ¬ ((1 : Int) = (0 : Int)) by omega)) (fun _ => ?_)
    refine g_aload_n lk_196_9 rfl ?_
    refine m_getfield (u := []) (M := M) lk_196_10 rfl (lay.on (by decide) rfl) (v := 0) h33' ?_
    refine g_if (t := 50) lk_196_13 rfl (by first | (unfold pm_inI; omega) | exact pm_and_in _ _ | exact pm_shr_in _ _ | exact pm_or_in _ _ | exact pm_xor_in _ _ | exact pm_shl_in _ _ | exact pm_cmp_in _ _ | exact pm_b8_in _ | (unfold pm_inI; split <;> omega)) (fun h => absurd h (show ¬ (¬ (0 : Int) = (0 : Int)) by omega)) (fun _ => ?_)
    refine g_aload_n lk_196_16 rfl ?_
    refine g_iconst lk_196_17 ?_
    have lay2 : Lay (Mu [(116, pm_upd (pm_ct M 116) 33 1)] M) := lay.muF (l := []) (a := 116) (k := 33) (z := 1) rfl rfl
    refine m_putfield (u := []) (u' := [(116, pm_upd (pm_ct M 116) 33 1)]) (M := M) lk_196_18 rfl (lay.on (by decide) rfl) (fun _ => by omega) rfl ?_
    exact k21 (Mu [(116, pm_upd (pm_ct M 116) 33 1)] M) lay2 (MF.mu _ _ rfl (fun k hk => upd_ne (by intro q; rw [q] at hk; exact hk (by decide)))) (by rw [Mu_ct]; rfl)
