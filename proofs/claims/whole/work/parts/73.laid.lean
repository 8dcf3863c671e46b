/-! ===== the model: best, byTurns, wrong ===== -/
def LdOK (M : pm_M) (T : Tab) : Prop := ∀ a b, inT T a b → ArK M T a b
def CL (M : pm_M) (T : Tab) (f : Nat) : Prop := pm_ct M 116 49 = (f : Int) ∧ f ≤ 1 ∧ (f = 1 → LdOK M T)
theorem CL.mf {S K : List Nat} {M N : pm_M} {T : Tab} {f : Nat} (h : CL M T f) (k : MF S K M N) (h1 : 49 ∉ K) (h2 : 142 ∉ S) (h3 : 143 ∉ S) (h4 : 144 ∉ S) : CL N T f := by
  unfold CL LdOK ArK TbK at h ⊢
  rw [k.fd h1, k.ct h2 (by decide), k.ct h3 (by decide), k.ct h4 (by decide)]; exact h
theorem ArK.of {M N : pm_M} {T : Tab} {a b : Nat} (h : ArK M T a b) (h2 : pm_ct N 142 = pm_ct M 142) (h3 : pm_ct N 143 = pm_ct M 143) (h4 : pm_ct N 144 = pm_ct M 144) : ArK N T a b := by
  unfold ArK TbK at h ⊢
  rw [h2, h3, h4]; exact h
set_option maxHeartbeats 8000000 in
theorem c_Mo_lay {d mc ms : Nat} {M : pm_M} (lay0 : Lay M) {T : Tab} (hT : TabOK T) (hM0 : MoAt M T) {f : Nat} (hC0 : CL M T f) :
    pm_E (d + 4) 235 [(2, ((116 : Nat) : Int))] M mc ms (fun ρ M' => ρ = none ∧ Lay M' ∧ MF [142, 143, 144] [49] M M' ∧ CL M' T 1) := by
  obtain ⟨Q, hQ⟩ : ∃ Q : pm_Q, Q = (fun ρ M' => ρ = none ∧ Lay M' ∧ MF [142, 143, 144] [49] M M' ∧ CL M' T 1) := ⟨_, rfl⟩
  rw [← hQ]
  have hR6 := tR_64 hT
  have hC6 := tC_64 hT
  have pR : 1 ≤ 2 ^ tR T := Nat.one_le_two_pow
  have pC : 1 ≤ 2 ^ tC T := Nat.one_le_two_pow
  have frmf : ∀ {A B : pm_M}, Fr [142, 143, 144] A B → MF [142, 143, 144] [49] A B := fun h => ⟨h.1, h.2.1, h.2.2.1, fun a ha _ => h.ct ha, fun k _ => by rw [h.ct (by decide)]⟩
  have rows : ∀ (m i : Nat) (v2 : pm_V) (N : pm_M), i + m = 2 ^ tR T - 1 → Lay N → MF [142, 143, 144] [49] M N → pm_ct N 116 49 = 1 → (∀ a b, inT T a b → bef (i + 1) 1 a b → ArK N T a b) → Wp (d + 4) 235 15 [(2, ((116 : Nat) : Int)), (0, ((i + 1 : Nat) : Int)), v2] [] N mc ms Q := by
    intro m
    induction m with
    | zero =>
      intro i v2 N hi lay hF h49 hd
      have hM : MoAt N T := hM0.mf hF (by decide) (by decide) (by decide) (by decide)
      refine g_iload_n lk_235_15 rfl ?_
      refine g_aload_n lk_235_16 rfl ?_
      refine g_virtual (p := 116) (Qc := _) lk_235_17 rfl (Nat.le_of_ble_eq_true rfl) rfl rfl (lay.on (by decide) rfl) (Nat.le_of_ble_eq_true rfl) (Nat.le_of_ble_eq_true rfl) (Nat.zero_le _) (Nat.zero_le _) (c_Mo_allRows lay hT hM) ?_
      rintro _ N1 ⟨rfl, hN1⟩
      rw [hN1]
      show Wp _ 235 20 [(2, ((116 : Nat) : Int)), (0, ((i + 1 : Nat) : Int)), v2] [(0, ((2 ^ tR T - 1 : Nat) : Int)), (0, ((i + 1 : Nat) : Int))] N _ _ _
      refine g_icmp (t := 51) lk_235_20 rfl (by first | (unfold pm_inI; omega) | exact pm_and_in _ _ | exact pm_shr_in _ _ | exact pm_or_in _ _ | exact pm_xor_in _ _ | exact pm_shl_in _ _ | exact pm_cmp_in _ _ | exact pm_b8_in _ | (unfold pm_inI; split <;> omega)) (by first | (unfold pm_inI; omega) | exact pm_and_in _ _ | exact pm_shr_in _ _ | exact pm_or_in _ _ | exact pm_xor_in _ _ | exact pm_shl_in _ _ | exact pm_cmp_in _ _ | exact pm_b8_in _ | (unfold pm_inI; split <;> omega)) (fun h2 => ?_) (fun h2 => ?_)
      · replace h2 : ((2 ^ tR T - 1 : Nat) : Int) < ((i + 1 : Nat) : Int) := h2
        refine g_return lk_235_51 ?_
        rw [hQ]
        exact ⟨rfl, lay, hF, h49, Nat.le_refl _, fun _ a b h => hd a b h (Or.inl (by have := h.2.1; omega))⟩
      · replace h2 : ¬ (((2 ^ tR T - 1 : Nat) : Int) < ((i + 1 : Nat) : Int)) := h2
        omega
    | succ m ih =>
      intro i v2 N hi lay hF h49 hd
      have hM : MoAt N T := hM0.mf hF (by decide) (by decide) (by decide) (by decide)
      obtain ⟨rs, hrs⟩ : ∃ rs, rs = i + 1 := ⟨_, rfl⟩
      have inner : ∀ (m j : Nat) (N : pm_M), j + m = 2 ^ tC T - 1 → Lay N → MF [142, 143, 144] [49] M N → pm_ct N 116 49 = 1 → (∀ a b, inT T a b → bef rs (j + 1) a b → ArK N T a b) → Wp (d + 4) 235 25 [(2, ((116 : Nat) : Int)), (0, (rs : Int)), (0, ((j + 1 : Nat) : Int))] [] N mc ms Q := by
        intro m
        induction m with
        | zero =>
          intro j N hj lay hF h49 hd
          have hM : MoAt N T := hM0.mf hF (by decide) (by decide) (by decide) (by decide)
          have := fun v2 => ih (i + 1) v2 N (by omega) lay hF h49 (fun a b h q => hd a b h (by
            have q1 := h.2.2.2
            have q2 := h.2.2.1
            unfold bef at q ⊢
            omega))
          rw [← hrs] at this
          refine g_iload_n lk_235_25 rfl ?_
          refine g_aload_n lk_235_26 rfl ?_
          refine g_virtual (p := 116) (Qc := _) lk_235_27 rfl (Nat.le_of_ble_eq_true rfl) rfl rfl (lay.on (by decide) rfl) (Nat.le_of_ble_eq_true rfl) (Nat.le_of_ble_eq_true rfl) (Nat.zero_le _) (Nat.zero_le _) (c_Mo_allColumns lay hT hM) ?_
          rintro _ N1 ⟨rfl, hN1⟩
          rw [hN1]
          show Wp _ 235 30 [(2, ((116 : Nat) : Int)), (0, (rs : Int)), (0, ((j + 1 : Nat) : Int))] [(0, ((2 ^ tC T - 1 : Nat) : Int)), (0, ((j + 1 : Nat) : Int))] N _ _ _
          refine g_icmp (t := 45) lk_235_30 rfl (by first | (unfold pm_inI; omega) | exact pm_and_in _ _ | exact pm_shr_in _ _ | exact pm_or_in _ _ | exact pm_xor_in _ _ | exact pm_shl_in _ _ | exact pm_cmp_in _ _ | exact pm_b8_in _ | (unfold pm_inI; split <;> omega)) (by first | (unfold pm_inI; omega) | exact pm_and_in _ _ | exact pm_shr_in _ _ | exact pm_or_in _ _ | exact pm_xor_in _ _ | exact pm_shl_in _ _ | exact pm_cmp_in _ _ | exact pm_b8_in _ | (unfold pm_inI; split <;> omega)) (fun h2 => ?_) (fun h2 => ?_)
          · replace h2 : ((2 ^ tC T - 1 : Nat) : Int) < ((j + 1 : Nat) : Int) := h2
            refine g_iinc (ls' := [(2, ((116 : Nat) : Int)), (0, ((rs : Int) + 1)), (0, ((j + 1 : Nat) : Int))]) lk_235_45 rfl rfl rfl ?_
            refine g_goto (t := 15) lk_235_48 rfl ?_
            exact this _
          · replace h2 : ¬ (((2 ^ tC T - 1 : Nat) : Int) < ((j + 1 : Nat) : Int)) := h2
            omega
        | succ m ihm =>
          intro j N hj lay hF h49 hd
          have hM : MoAt N T := hM0.mf hF (by decide) (by decide) (by decide) (by decide)
          obtain ⟨cs, hcs⟩ : ∃ cs, cs = j + 1 := ⟨_, rfl⟩
          rw [← hcs] at hd ⊢
          have hin : inT T rs cs := ⟨by omega, by omega, by omega, by omega⟩
          refine g_iload_n lk_235_25 rfl ?_
          refine g_aload_n lk_235_26 rfl ?_
          refine g_virtual (p := 116) (Qc := _) lk_235_27 rfl (Nat.le_of_ble_eq_true rfl) rfl rfl (lay.on (by decide) rfl) (Nat.le_of_ble_eq_true rfl) (Nat.le_of_ble_eq_true rfl) (Nat.zero_le _) (Nat.zero_le _) (c_Mo_allColumns lay hT hM) ?_
          rintro _ N1 ⟨rfl, hN1⟩
          rw [hN1]
          show Wp _ 235 30 [(2, ((116 : Nat) : Int)), (0, (rs : Int)), (0, (cs : Int))] [(0, ((2 ^ tC T - 1 : Nat) : Int)), (0, (cs : Int))] N _ _ _
          refine g_icmp (t := 45) lk_235_30 rfl (by first | (unfold pm_inI; omega) | exact pm_and_in _ _ | exact pm_shr_in _ _ | exact pm_or_in _ _ | exact pm_xor_in _ _ | exact pm_shl_in _ _ | exact pm_cmp_in _ _ | exact pm_b8_in _ | (unfold pm_inI; split <;> omega)) (by first | (unfold pm_inI; omega) | exact pm_and_in _ _ | exact pm_shr_in _ _ | exact pm_or_in _ _ | exact pm_xor_in _ _ | exact pm_shl_in _ _ | exact pm_cmp_in _ _ | exact pm_b8_in _ | (unfold pm_inI; split <;> omega)) (fun h2 => ?_) (fun h2 => ?_)
          · replace h2 : ((2 ^ tC T - 1 : Nat) : Int) < (cs : Int) := h2
            refine g_iinc (ls' := [(2, ((116 : Nat) : Int)), (0, ((rs : Int) + 1)), (0, (cs : Int))]) lk_235_45 rfl rfl rfl ?_
            refine g_goto (t := 15) lk_235_48 rfl ?_
            omega
          · replace h2 : ¬ (((2 ^ tC T - 1 : Nat) : Int) < (cs : Int)) := h2
            refine g_aload_n lk_235_33 rfl ?_
            refine g_iload_n lk_235_34 rfl ?_
            refine g_iload_n lk_235_35 rfl ?_
            refine g_virtual (p := 116) (Qc := _) lk_235_36 rfl (Nat.le_of_ble_eq_true rfl) rfl rfl (lay.on (by decide) rfl) (Nat.le_of_ble_eq_true rfl) (Nat.le_of_ble_eq_true rfl) (Nat.zero_le _) (Nat.zero_le _) (c_Mo_layArea (d := d) lay hT hM hin (fun a b h q => hd a b h (by unfold bef; omega))) ?_
            rintro _ N' ⟨rfl, l2, f2, o2, k2⟩
            refine g_iinc (ls' := [(2, ((116 : Nat) : Int)), (0, (rs : Int)), (0, (cs : Int) + 1)]) lk_235_39 rfl rfl rfl ?_
            refine g_goto (t := 25) lk_235_42 rfl ?_
            have := ihm (j + 1) N' (by omega) l2 (hF.trans (frmf f2)) (by rw [f2.ct (by decide)]; exact h49) (fun a b h q => ?_)
            · rw [← hcs] at this; exact this
            · rw [← hcs] at q
              obtain ⟨x1, x2⟩ := h.r hT
              obtain ⟨y1, y2⟩ := hin.r hT
              by_cases e : a = rs ∧ b = cs
              · rw [e.1, e.2]; exact k2
              · exact o2 _ _ _ _ (by omega) (by omega) (hd a b h (by unfold bef at q ⊢; omega))
      rw [← hrs]
      refine g_iload_n lk_235_15 rfl ?_
      refine g_aload_n lk_235_16 rfl ?_
      refine g_virtual (p := 116) (Qc := _) lk_235_17 rfl (Nat.le_of_ble_eq_true rfl) rfl rfl (lay.on (by decide) rfl) (Nat.le_of_ble_eq_true rfl) (Nat.le_of_ble_eq_true rfl) (Nat.zero_le _) (Nat.zero_le _) (c_Mo_allRows lay hT hM) ?_
      rintro _ N1 ⟨rfl, hN1⟩
      rw [hN1]
      show Wp _ 235 20 [(2, ((116 : Nat) : Int)), (0, (rs : Int)), v2] [(0, ((2 ^ tR T - 1 : Nat) : Int)), (0, (rs : Int))] N _ _ _
      refine g_icmp (t := 51) lk_235_20 rfl (by first | (unfold pm_inI; omega) | exact pm_and_in _ _ | exact pm_shr_in _ _ | exact pm_or_in _ _ | exact pm_xor_in _ _ | exact pm_shl_in _ _ | exact pm_cmp_in _ _ | exact pm_b8_in _ | (unfold pm_inI; split <;> omega)) (by first | (unfold pm_inI; omega) | exact pm_and_in _ _ | exact pm_shr_in _ _ | exact pm_or_in _ _ | exact pm_xor_in _ _ | exact pm_shl_in _ _ | exact pm_cmp_in _ _ | exact pm_b8_in _ | (unfold pm_inI; split <;> omega)) (fun h2 => ?_) (fun h2 => ?_)
      · replace h2 : ((2 ^ tR T - 1 : Nat) : Int) < (rs : Int) := h2
        refine g_return lk_235_51 ?_
        omega
      · replace h2 : ¬ (((2 ^ tR T - 1 : Nat) : Int) < (rs : Int)) := h2
        refine g_iconst lk_235_23 ?_
        refine g_istore_n (ls' := [(2, ((116 : Nat) : Int)), (0, (rs : Int)), (0, 1)]) lk_235_24 rfl rfl ?_
        exact inner (2 ^ tC T - 1) 0 N (by omega) lay hF h49 (fun a b h q => hd a b h (by rw [← hrs]; exact q))
  obtain ⟨c1, c2, c3⟩ := hC0
  show Wp (d + 4) 235 0 [(2, ((116 : Nat) : Int)), (9, 0), (9, 0)] [] M mc ms Q
  refine g_aload_n lk_235_0 rfl ?_
  refine m_getfield (u := []) (M := M) lk_235_1 rfl (lay0.on (by decide) rfl) (v := (f : Int)) c1 ?_
  refine g_if (t := 8) lk_235_4 rfl (by first | (unfold pm_inI; omega) | exact pm_and_in _ _ | exact pm_shr_in _ _ | exact pm_or_in _ _ | exact pm_xor_in _ _ | exact pm_shl_in _ _ | exact pm_cmp_in _ _ | exact pm_b8_in _ | (unfold pm_inI; split <;> omega)) (fun h1 => ?_) (fun h1 => ?_)
  · replace h1 : (f : Int) = 0 := h1
    refine g_aload_n lk_235_8 rfl ?_
    refine g_iconst lk_235_9 ?_
    have lay2 : Lay (Mu [(116, pm_upd (pm_ct M 116) 49 1)] M) := lay0.muF (l := []) (a := 116) (k := 49) (z := 1) rfl rfl
    refine m_putfield (u := []) (u' := [(116, pm_upd (pm_ct M 116) 49 1)]) (M := M) lk_235_10 rfl (lay0.on (by decide) rfl) (fun _ => by omega) rfl ?_
    refine g_iconst lk_235_13 ?_
    refine g_istore_n (ls' := [(2, ((116 : Nat) : Int)), (0, 1), (9, 0)]) lk_235_14 rfl rfl ?_
    refine rows (2 ^ tR T - 1) 0 _ _ (by omega) lay2 (MF.mu _ _ rfl (fun j hj => upd_ne (by simpa using hj))) (by rw [Mu_ct]; rfl) (fun a b h q => ?_)
    have q1 := h.1
    have q2 := h.2.2.1
    unfold bef at q
    omega
  · replace h1 : ¬ ((f : Int) = 0) := h1
    refine g_return lk_235_7 ?_
    rw [hQ]
    have f1 : f = 1 := by omega
    exact ⟨rfl, lay0, MF.refl _ _ _, c1.trans (by rw [f1]), Nat.le_refl _, fun _ => c3 f1⟩
theorem c_Mo_whole {d mc ms : Nat} {M : pm_M} (lay : Lay M) {T : Tab} (hT : TabOK T) (hM : MoAt M T) :
    pm_E (d + 1) 238 [(2, ((116 : Nat) : Int))] M mc ms (fun ρ M' => ρ = some (0, ((64 * (2 ^ tR T - 1) + (2 ^ tC T - 1) : Nat) : Int)) ∧ M' = M) := by
  show Wp (d + 1) 238 0 [(2, ((116 : Nat) : Int))] [] M mc ms _
  refine g_aload_n lk_238_0 rfl ?_
  refine g_virtual (p := 116) (Qc := _) lk_238_1 rfl (Nat.le_of_ble_eq_true rfl) rfl rfl (lay.on (by decide) rfl) (Nat.le_of_ble_eq_true rfl) (Nat.le_of_ble_eq_true rfl) (Nat.zero_le _) (Nat.zero_le _) (c_Mo_allRows lay hT hM) ?_
  rintro _ N1 ⟨rfl, hN1⟩
  rw [hN1]
  show Wp _ 238 4 [(2, ((116 : Nat) : Int))] [(0, ((2 ^ tR T - 1 : Nat) : Int))] M _ _ _
  refine g_aload_n lk_238_4 rfl ?_
  refine g_virtual (p := 116) (Qc := _) lk_238_5 rfl (Nat.le_of_ble_eq_true rfl) rfl rfl (lay.on (by decide) rfl) (Nat.le_of_ble_eq_true rfl) (Nat.le_of_ble_eq_true rfl) (Nat.zero_le _) (Nat.zero_le _) (c_Mo_allColumns lay hT hM) ?_
  rintro _ N2 ⟨rfl, hN2⟩
  rw [hN2]
  show Wp _ 238 8 [(2, ((116 : Nat) : Int))] [(0, ((2 ^ tC T - 1 : Nat) : Int)), (0, ((2 ^ tR T - 1 : Nat) : Int))] M _ _ _
  refine g_static (Qc := _) lk_238_8 (by decide) rfl (Nat.le_of_ble_eq_true rfl) rfl rfl (Nat.le_of_ble_eq_true rfl) (Nat.le_of_ble_eq_true rfl) (Nat.zero_le _) (Nat.zero_le _) (c_Mo_areaOf) ?_
  rintro _ N3 ⟨rfl, hN3⟩
  rw [hN3]
  show Wp _ 238 11 [(2, ((116 : Nat) : Int))] [(0, ((64 * (2 ^ tR T - 1) + (2 ^ tC T - 1) : Nat) : Int))] M _ _ _
  refine g_ireturn lk_238_11 (fun h => absurd h (by decide)) ?_
  exact ⟨rfl, rfl⟩
def sBest (T : Tab) (w : Int) : Int := if w < 0 ∨ 2 < w then -1 else (BW T w.toNat (2 ^ tR T - 1) (2 ^ tC T - 1) : Int)
def sTurns (T : Tab) (k : Int) : Int := if k < 0 ∨ 5 < k then -1 else if TQ T k.toNat < 1000000 then (TQ T k.toNat : Int) else -1
def sWrong (T : Tab) (k : Int) : Int := if k < 0 ∨ 20 < k then -1 else (EQ T k.toNat : Int)
theorem in_no {l h v : Int} (q : (if l ≤ v ∧ v ≤ h then (1 : Int) else 0) = 0) : v < l ∨ h < v := by
  by_cases c : l ≤ v ∧ v ≤ h
  · rw [if_pos c] at q; cases q
  · omega
theorem in_yes {l h v : Int} (q : ¬ (if l ≤ v ∧ v ≤ h then (1 : Int) else 0) = 0) : l ≤ v ∧ v ≤ h := Classical.byContradiction (fun c => q (by rw [if_neg c]))
set_option maxHeartbeats 4000000 in
theorem c_Mo_best {d mc ms : Nat} {M : pm_M} (lay0 : Lay M) {T : Tab} (hT : TabOK T) (hM0 : MoAt M T) {f : Nat} (hC0 : CL M T f) {w : Int} (hw : pm_inI w) :
    pm_E (d + 5) 239 [(2, ((116 : Nat) : Int)), (0, w)] M mc ms (fun ρ M' => ρ = some (0, sBest T w) ∧ Lay M' ∧ MF [142, 143, 144] [0, 49] M M' ∧ ∃ f', CL M' T f') := by
  have wh := whole_in hT
  have hR6 := tR_64 hT
  have hC6 := tC_64 hT
  have th := MF.th (S := [142, 143, 144]) (K := [0, 49]) (by decide) M
  have cl1 : CL (Mu [(116, pm_upd (pm_ct M 116) 0 0)] M) T f := hC0.mf (MF.th (S := []) (K := [0]) (by decide) M) (by decide) (by decide) (by decide) (by decide)
  obtain ⟨K, hK⟩ : ∃ K, K = 64 * (2 ^ tR T - 1) + (2 ^ tC T - 1) := ⟨_, rfl⟩
  show Wp (d + 5) 239 0 [(2, ((116 : Nat) : Int)), (0, w)] [] M mc ms _
  refine g_aload_n lk_239_0 rfl ?_
  refine g_iconst lk_239_1 ?_
  have lay1 : Lay (Mu [(116, pm_upd (pm_ct M 116) 0 0)] M) := lay0.muF (l := []) (a := 116) (k := 0) (z := 0) rfl rfl
  refine m_putfield (u := []) (u' := [(116, pm_upd (pm_ct M 116) 0 0)]) (M := M) lk_239_2 rfl (lay0.on (by decide) rfl) (fun h => absurd h (by decide)) rfl ?_
  refine g_iload_n lk_239_5 rfl ?_
  refine g_iconst lk_239_6 ?_
  refine g_iconst lk_239_7 ?_
  refine g_static (Qc := _) lk_239_8 (by decide) rfl (Nat.le_of_ble_eq_true rfl) rfl rfl (Nat.le_of_ble_eq_true rfl) (Nat.le_of_ble_eq_true rfl) (Nat.zero_le _) (Nat.zero_le _) (c_Mo_in (by assumption) (by unfold pm_inI; omega) (by unfold pm_inI; omega)) ?_
  rintro _ N2 ⟨rfl, hN2⟩
  rw [hN2]
  show Wp _ 239 11 [(2, ((116 : Nat) : Int)), (0, w)] [(0, (if 0 ≤ w ∧ w ≤ 2 then (1 : Int) else 0))] (Mu [(116, pm_upd (pm_ct M 116) 0 0)] M) _ _ _
  refine g_if (t := 16) lk_239_11 rfl (by first | (unfold pm_inI; omega) | (unfold pm_inI; split <;> omega)) (fun h3 => ?_) (fun h3 => ?_)
  · replace h3 : ¬ (if 0 ≤ w ∧ w ≤ 2 then (1 : Int) else 0) = 0 := h3
    refine g_aload_n lk_239_16 rfl ?_
    obtain ⟨w1, w2⟩ := in_yes h3
    refine g_virtual (p := 116) (Qc := _) lk_239_17 rfl (Nat.le_of_ble_eq_true rfl) rfl rfl (lay1.on (by decide) rfl) (Nat.le_of_ble_eq_true rfl) (Nat.le_of_ble_eq_true rfl) (Nat.zero_le _) (Nat.zero_le _) (c_Mo_lay (d := d) lay1 hT hM0 cl1) ?_
    rintro _ N ⟨rfl, l2, f2, c2⟩
    have m2 : MF [142, 143, 144] [0, 49] M N := th.trans (f2.mono (fun a q => q) (fun a q => by simp at q; simp [q]))
    have hM2 : MoAt N T := hM0.mf m2 (by decide) (by decide) (by decide) (by decide)
    have ak := (c2.2.2 rfl _ _ wh).2.1 w.toNat (by omega)
    rw [← hK] at ak
    have wc := c_Mo_whole (d := d + 3) (mc := 0) (ms := 0) l2 hT hM2
    rw [← hK] at wc
    refine g_aload_n lk_239_20 rfl ?_
    refine g_getfield lk_239_21 rfl (l2.on (by decide) rfl) (v := ((142 : Nat) : Int)) (l2.rf rfl) ?_
    refine g_sipush lk_239_24 ?_
    refine g_iload_n lk_239_27 rfl ?_
    refine g_imul lk_239_28 ?_
    refine g_aload_n lk_239_29 rfl ?_
    refine g_virtual (p := 116) (Qc := _) lk_239_30 rfl (Nat.le_of_ble_eq_true rfl) rfl rfl (l2.on (by decide) rfl) (Nat.le_of_ble_eq_true rfl) (Nat.le_of_ble_eq_true rfl) (Nat.zero_le _) (Nat.zero_le _) wc ?_
    rintro _ N3 ⟨rfl, rfl⟩
    refine g_iadd lk_239_33 ?_
    refine g_iaload lk_239_34 (l2.ay (by decide) rfl) (by omega) (v := (BW T w.toNat (2 ^ tR T - 1) (2 ^ tC T - 1) : Int)) (by rw [show ((4096 : Int) * w + (K : Int)).toNat = 4096 * w.toNat + K by omega]; exact ak) ?_
    refine g_ireturn lk_239_35 (fun h => absurd h (by decide)) ⟨?_, l2, m2, 1, c2⟩
    unfold sBest
    rw [if_neg (by omega)]
  · replace h3 : ¬ (¬ (if 0 ≤ w ∧ w ≤ 2 then (1 : Int) else 0) = 0) := h3
    refine g_iconst lk_239_14 ?_
    refine g_ireturn lk_239_15 (fun h => absurd h (by decide)) ?_
    refine ⟨?_, lay1, th, f, cl1⟩
    have := in_no (Classical.byContradiction h3)
    unfold sBest
    rw [if_pos (by omega)]
set_option maxHeartbeats 4000000 in
theorem c_Mo_wrong {d mc ms : Nat} {M : pm_M} (lay0 : Lay M) {T : Tab} (hT : TabOK T) (hM0 : MoAt M T) {f : Nat} (hC0 : CL M T f) {w : Int} (hw : pm_inI w) :
    pm_E (d + 5) 241 [(2, ((116 : Nat) : Int)), (0, w)] M mc ms (fun ρ M' => ρ = some (0, sWrong T w) ∧ Lay M' ∧ MF [142, 143, 144] [0, 49] M M' ∧ ∃ f', CL M' T f') := by
  have wh := whole_in hT
  have hR6 := tR_64 hT
  have hC6 := tC_64 hT
  have th := MF.th (S := [142, 143, 144]) (K := [0, 49]) (by decide) M
  have cl1 : CL (Mu [(116, pm_upd (pm_ct M 116) 0 0)] M) T f := hC0.mf (MF.th (S := []) (K := [0]) (by decide) M) (by decide) (by decide) (by decide) (by decide)
  obtain ⟨K, hK⟩ : ∃ K, K = 64 * (2 ^ tR T - 1) + (2 ^ tC T - 1) := ⟨_, rfl⟩
  show Wp (d + 5) 241 0 [(2, ((116 : Nat) : Int)), (0, w)] [] M mc ms _
  refine g_aload_n lk_241_0 rfl ?_
  refine g_iconst lk_241_1 ?_
  have lay1 : Lay (Mu [(116, pm_upd (pm_ct M 116) 0 0)] M) := lay0.muF (l := []) (a := 116) (k := 0) (z := 0) rfl rfl
  refine m_putfield (u := []) (u' := [(116, pm_upd (pm_ct M 116) 0 0)]) (M := M) lk_241_2 rfl (lay0.on (by decide) rfl) (fun h => absurd h (by decide)) rfl ?_
  refine g_iload_n lk_241_5 rfl ?_
  refine g_iconst lk_241_6 ?_
  refine g_bipush lk_241_7 ?_
  refine g_static (Qc := _) lk_241_9 (by decide) rfl (Nat.le_of_ble_eq_true rfl) rfl rfl (Nat.le_of_ble_eq_true rfl) (Nat.le_of_ble_eq_true rfl) (Nat.zero_le _) (Nat.zero_le _) (c_Mo_in (by assumption) (by unfold pm_inI; omega) (by unfold pm_inI; omega)) ?_
  rintro _ N2 ⟨rfl, hN2⟩
  rw [hN2]
  show Wp _ 241 12 [(2, ((116 : Nat) : Int)), (0, w)] [(0, (if 0 ≤ w ∧ w ≤ 20 then (1 : Int) else 0))] (Mu [(116, pm_upd (pm_ct M 116) 0 0)] M) _ _ _
  refine g_if (t := 17) lk_241_12 rfl (by first | (unfold pm_inI; omega) | (unfold pm_inI; split <;> omega)) (fun h3 => ?_) (fun h3 => ?_)
  · replace h3 : ¬ (if 0 ≤ w ∧ w ≤ 20 then (1 : Int) else 0) = 0 := h3
    refine g_aload_n lk_241_17 rfl ?_
    obtain ⟨w1, w2⟩ := in_yes h3
    refine g_virtual (p := 116) (Qc := _) lk_241_18 rfl (Nat.le_of_ble_eq_true rfl) rfl rfl (lay1.on (by decide) rfl) (Nat.le_of_ble_eq_true rfl) (Nat.le_of_ble_eq_true rfl) (Nat.zero_le _) (Nat.zero_le _) (c_Mo_lay (d := d) lay1 hT hM0 cl1) ?_
    rintro _ N ⟨rfl, l2, f2, c2⟩
    have m2 : MF [142, 143, 144] [0, 49] M N := th.trans (f2.mono (fun a q => q) (fun a q => by simp at q; simp [q]))
    have hM2 : MoAt N T := hM0.mf m2 (by decide) (by decide) (by decide) (by decide)
    have ak := (c2.2.2 rfl _ _ wh).1 w.toNat (by omega)
    rw [← hK] at ak
    have wc := c_Mo_whole (d := d + 3) (mc := 0) (ms := 0) l2 hT hM2
    rw [← hK] at wc
    refine g_aload_n lk_241_21 rfl ?_
    refine g_getfield lk_241_22 rfl (l2.on (by decide) rfl) (v := ((144 : Nat) : Int)) (l2.rf rfl) ?_
    refine g_bipush lk_241_25 ?_
    refine g_aload_n lk_241_27 rfl ?_
    refine g_virtual (p := 116) (Qc := _) lk_241_28 rfl (Nat.le_of_ble_eq_true rfl) rfl rfl (l2.on (by decide) rfl) (Nat.le_of_ble_eq_true rfl) (Nat.le_of_ble_eq_true rfl) (Nat.zero_le _) (Nat.zero_le _) wc ?_
    rintro _ N3 ⟨rfl, rfl⟩
    refine g_imul lk_241_31 ?_
    refine g_iload_n lk_241_32 rfl ?_
    refine g_iadd lk_241_33 ?_
    refine g_iaload lk_241_34 (l2.ay (by decide) rfl) (by omega) (v := (EQ T w.toNat : Int)) (by rw [show ((21 : Int) * (K : Int) + w).toNat = 21 * K + w.toNat by omega]; exact ak) ?_
    refine g_ireturn lk_241_35 (fun h => absurd h (by decide)) ⟨?_, l2, m2, 1, c2⟩
    unfold sWrong
    rw [if_neg (by omega)]
  · replace h3 : ¬ (¬ (if 0 ≤ w ∧ w ≤ 20 then (1 : Int) else 0) = 0) := h3
    refine g_iconst lk_241_15 ?_
    refine g_ireturn lk_241_16 (fun h => absurd h (by decide)) ?_
    refine ⟨?_, lay1, th, f, cl1⟩
    have := in_no (Classical.byContradiction h3)
    unfold sWrong
    rw [if_pos (by omega)]
set_option maxHeartbeats 4000000 in
theorem c_Mo_byTurns {d mc ms : Nat} {M : pm_M} (lay0 : Lay M) {T : Tab} (hT : TabOK T) (hM0 : MoAt M T) {f : Nat} (hC0 : CL M T f) {w : Int} (hw : pm_inI w) :
    pm_E (d + 5) 240 [(2, ((116 : Nat) : Int)), (0, w)] M mc ms (fun ρ M' => ρ = some (0, sTurns T w) ∧ Lay M' ∧ MF [142, 143, 144] [0, 49] M M' ∧ ∃ f', CL M' T f') := by
  have wh := whole_in hT
  have hR6 := tR_64 hT
  have hC6 := tC_64 hT
  have th := MF.th (S := [142, 143, 144]) (K := [0, 49]) (by decide) M
  have cl1 : CL (Mu [(116, pm_upd (pm_ct M 116) 0 0)] M) T f := hC0.mf (MF.th (S := []) (K := [0]) (by decide) M) (by decide) (by decide) (by decide) (by decide)
  obtain ⟨K, hK⟩ : ∃ K, K = 64 * (2 ^ tR T - 1) + (2 ^ tC T - 1) := ⟨_, rfl⟩
  show Wp (d + 5) 240 0 [(2, ((116 : Nat) : Int)), (0, w), (9, 0)] [] M mc ms _
  refine g_aload_n lk_240_0 rfl ?_
  refine g_iconst lk_240_1 ?_
  have lay1 : Lay (Mu [(116, pm_upd (pm_ct M 116) 0 0)] M) := lay0.muF (l := []) (a := 116) (k := 0) (z := 0) rfl rfl
  refine m_putfield (u := []) (u' := [(116, pm_upd (pm_ct M 116) 0 0)]) (M := M) lk_240_2 rfl (lay0.on (by decide) rfl) (fun h => absurd h (by decide)) rfl ?_
  refine g_iload_n lk_240_5 rfl ?_
  refine g_iconst lk_240_6 ?_
  refine g_iconst lk_240_7 ?_
  refine g_static (Qc := _) lk_240_8 (by decide) rfl (Nat.le_of_ble_eq_true rfl) rfl rfl (Nat.le_of_ble_eq_true rfl) (Nat.le_of_ble_eq_true rfl) (Nat.zero_le _) (Nat.zero_le _) (c_Mo_in (by assumption) (by unfold pm_inI; omega) (by unfold pm_inI; omega)) ?_
  rintro _ N2 ⟨rfl, hN2⟩
  rw [hN2]
  show Wp _ 240 11 [(2, ((116 : Nat) : Int)), (0, w), (9, 0)] [(0, (if 0 ≤ w ∧ w ≤ 5 then (1 : Int) else 0))] (Mu [(116, pm_upd (pm_ct M 116) 0 0)] M) _ _ _
  refine g_if (t := 16) lk_240_11 rfl (by first | (unfold pm_inI; omega) | (unfold pm_inI; split <;> omega)) (fun h3 => ?_) (fun h3 => ?_)
  · replace h3 : ¬ (if 0 ≤ w ∧ w ≤ 5 then (1 : Int) else 0) = 0 := h3
    refine g_aload_n lk_240_16 rfl ?_
    obtain ⟨w1, w2⟩ := in_yes h3
    refine g_virtual (p := 116) (Qc := _) lk_240_17 rfl (Nat.le_of_ble_eq_true rfl) rfl rfl (lay1.on (by decide) rfl) (Nat.le_of_ble_eq_true rfl) (Nat.le_of_ble_eq_true rfl) (Nat.zero_le _) (Nat.zero_le _) (c_Mo_lay (d := d) lay1 hT hM0 cl1) ?_
    rintro _ N ⟨rfl, l2, f2, c2⟩
    have m2 : MF [142, 143, 144] [0, 49] M N := th.trans (f2.mono (fun a q => q) (fun a q => by simp at q; simp [q]))
    have hM2 : MoAt N T := hM0.mf m2 (by decide) (by decide) (by decide) (by decide)
    obtain ⟨k, hk⟩ : ∃ k, k = w.toNat := ⟨_, rfl⟩
    have a1 := (c2.2.2 rfl _ _ wh).2.2 k (by omega)
    have a2 := (c2.2.2 rfl _ _ wh).2.2 (6 + k) (by omega)
    rw [← hK, TX_lo T _ _ (by omega)] at a1
    rw [← hK, TX_hi T _ _ (by omega)] at a2
    have b1 := TW_far T 0 k (by omega) (by omega) wh.1 wh.2.2.1
    have b2 := TW_far T 1 k (by omega) (by omega) wh.1 wh.2.2.1
    have tq : TQ T k = min (TW T 0 k (2 ^ tR T - 1) (2 ^ tC T - 1)) (TW T 1 k (2 ^ tR T - 1) (2 ^ tC T - 1)) := rfl
    obtain ⟨x, hx⟩ : ∃ x, x = TW T 0 k (2 ^ tR T - 1) (2 ^ tC T - 1) := ⟨_, rfl⟩
    obtain ⟨y, hy⟩ : ∃ y, y = TW T 1 k (2 ^ tR T - 1) (2 ^ tC T - 1) := ⟨_, rfl⟩
    rw [← hx] at a1 b1
    rw [← hy] at a2 b2
    rw [← hx, ← hy] at tq
    have wc := c_Mo_whole (d := d + 3) (mc := 0) (ms := 0) l2 hT hM2
    rw [← hK] at wc
    refine g_aload_n lk_240_20 rfl ?_
    refine g_getfield lk_240_21 rfl (l2.on (by decide) rfl) (v := ((143 : Nat) : Int)) (l2.rf rfl) ?_
    refine g_sipush lk_240_24 ?_
    refine g_iload_n lk_240_27 rfl ?_
    refine g_imul lk_240_28 ?_
    refine g_aload_n lk_240_29 rfl ?_
    refine g_virtual (p := 116) (Qc := _) lk_240_30 rfl (Nat.le_of_ble_eq_true rfl) rfl rfl (l2.on (by decide) rfl) (Nat.le_of_ble_eq_true rfl) (Nat.le_of_ble_eq_true rfl) (Nat.zero_le _) (Nat.zero_le _) wc ?_
    rintro _ N3 ⟨rfl, e33⟩
    rw [e33]
    refine g_iadd lk_240_33 ?_
    refine g_iaload lk_240_34 (l2.ay (by decide) rfl) (by omega) (v := (x : Int)) (by rw [show ((4096 : Int) * w + (K : Int)).toNat = 4096 * k + K by omega]; exact a1) ?_
    refine g_aload_n lk_240_35 rfl ?_
    refine g_getfield lk_240_36 rfl (l2.on (by decide) rfl) (v := ((143 : Nat) : Int)) (l2.rf rfl) ?_
    refine g_sipush lk_240_39 ?_
    refine g_bipush lk_240_42 ?_
    refine g_iload_n lk_240_44 rfl ?_
    refine g_iadd lk_240_45 ?_
    refine g_imul lk_240_46 ?_
    refine g_aload_n lk_240_47 rfl ?_
    refine g_virtual (p := 116) (Qc := _) lk_240_48 rfl (Nat.le_of_ble_eq_true rfl) rfl rfl (l2.on (by decide) rfl) (Nat.le_of_ble_eq_true rfl) (Nat.le_of_ble_eq_true rfl) (Nat.zero_le _) (Nat.zero_le _) wc ?_
    rintro _ N4 ⟨rfl, e44⟩
    rw [e44]
    refine g_iadd lk_240_51 ?_
    refine g_iaload lk_240_52 (l2.ay (by decide) rfl) (by omega) (v := (y : Int)) (by rw [show ((4096 : Int) * (6 + w) + (K : Int)).toNat = 4096 * (6 + k) + K by omega]; exact a2) ?_
    refine g_static (Qc := _) lk_240_53 (by decide) rfl (Nat.le_of_ble_eq_true rfl) rfl rfl (Nat.le_of_ble_eq_true rfl) (Nat.le_of_ble_eq_true rfl) (Nat.zero_le _) (Nat.zero_le _) (c_Mo_lesser (a := (x : Int)) (b := (y : Int)) (by unfold pm_inI; omega) (by unfold pm_inI; omega)) ?_
    rintro _ N5 ⟨rfl, e55⟩
    rw [e55]
    have em : min (x : Int) (y : Int) = (TQ T k : Int) := by rw [tq]; omega
    rw [em]
    have tq6 : TQ T k ≤ 1000000 := by rw [tq]; omega
    have fin : Lay N ∧ MF [142, 143, 144] [0, 49] M N ∧ ∃ f', CL N T f' := ⟨l2, m2, 1, c2⟩
    refine g_istore_n (ls' := [(2, ((116 : Nat) : Int)), (0, w), (0, (TQ T k : Int))]) lk_240_56 rfl rfl ?_
    refine g_iload_n lk_240_57 rfl ?_
    refine g_ldc_w lk_240_58 ?_
    refine g_icmp (t := 68) lk_240_61 rfl (by unfold pm_inI; omega) (by unfold pm_inI; omega) (fun q => ?_) (fun q => ?_)
    · replace q : (TQ T k : Int) < 1000000 := q
      refine g_iload_n lk_240_68 rfl ?_
      refine g_ireturn lk_240_69 (fun h => absurd h (by decide)) ⟨?_, fin⟩
      unfold sTurns
      rw [← hk, if_neg (by omega), if_pos (by omega)]
    · replace q : ¬ (TQ T k : Int) < 1000000 := q
      refine g_iconst lk_240_64 ?_
      refine g_goto (t := 69) lk_240_65 rfl ?_
      refine g_ireturn lk_240_69 (fun h => absurd h (by decide)) ⟨?_, fin⟩
      unfold sTurns
      rw [← hk, if_neg (by omega), if_neg (by omega)]
  · replace h3 : ¬ (¬ (if 0 ≤ w ∧ w ≤ 5 then (1 : Int) else 0) = 0) := h3
    refine g_iconst lk_240_14 ?_
    refine g_ireturn lk_240_15 (fun h => absurd h (by decide)) ?_
    refine ⟨?_, lay1, th, f, cl1⟩
    have := in_no (Classical.byContradiction h3)
    unfold sTurns
    rw [if_pos (by omega)]
