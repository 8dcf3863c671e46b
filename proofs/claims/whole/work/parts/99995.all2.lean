/-! ===== readAll, by the class ===== -/
theorem pRs_ok {ch : Nat → Nat} {n : Nat} (hn : n ≤ 500) : ∀ (f : Nat) {r : Nat} {T T' : Tab} {t t' : Tok}, r ≤ 6 → TkOK ch n t → RwOK T r → pRs ch n f r T t = .inr (T', t') → TkOK ch n t' ∧ ∃ k, r ≤ k ∧ k ≤ 6 ∧ RwOK T' k
  | 0, r, T, T', t, t', h6, hK, ro, e => by
    replace e : (Sum.inr (T, t) : Sum (Nat × Nat) (Tab × Tok)) = .inr (T', t') := e
    cases e
    exact ⟨hK, r, Nat.le_refl _, h6, ro⟩
  | f + 1, r, T, T', t, t', h6, hK, ro, e => by
    by_cases a : t.1 = 2
    · cases hp : pRow ch n r T t with
      | inl x => rw [pRs_two a hp] at e; cases e
      | inr y =>
        obtain ⟨T1, t1⟩ := y
        rw [pRs_on a hp] at e
        obtain ⟨o1, o2, o3, _⟩ := pRow_ok hn hK a ro hp
        obtain ⟨k1, k, k2, k3, k4⟩ := pRs_ok hn f (by omega) o1 o2 e
        exact ⟨k1, k, by omega, k3, k4⟩
    · rw [pRs_end a] at e
      cases e
      exact ⟨hK, r, Nat.le_refl _, h6, ro⟩
theorem pRows_ok {ch : Nat → Nat} {n : Nat} {T : Tab} {t t' : Tok} (hn : n ≤ 500) (hK : TkOK ch n t) (e : pRows ch n t = .inr (T, t')) : TkOK ch n t' ∧ ∃ k, 1 ≤ k ∧ k ≤ 6 ∧ RwOK T k := by
  unfold pRows at e
  by_cases a : t.1 = 2
  · rw [if_pos a] at e
    cases hp : pRow ch n 0 T00 t with
    | inl x => rw [pRs_two a hp] at e; cases e
    | inr y =>
      obtain ⟨T1, t1⟩ := y
      rw [pRs_on a hp] at e
      obtain ⟨o1, o2, o3, _⟩ := pRow_ok hn hK a T00_ok hp
      exact pRs_ok hn 6 (by omega) o1 o2 e
  · rw [if_neg a] at e; cases e
theorem RwF.ra {M N : pm_M} (h : RwF M N) : RaF M N := h.co.ra
theorem c_Reader_readAll {d mc ms n : Nat} {ch : Nat → Nat} {M : pm_M} (lay : Lay M) (hM : TcX M n ch) :
    pm_E (d + 14) 57 [(2, ((2 : Nat) : Int))] M mc ms (fun ρ M' => Lay M' ∧ RaF M M' ∧ ResX ρ M' (fun x => TbAt M' 4 x.1 ∧ TrsX M' x.2 ∧ pm_ct M' 2 6 = 0 ∧ pm_ct M' 2 7 = -1) (pAll ch n)) := by
  obtain ⟨Q, hQ⟩ : ∃ Q : pm_Q, Q = (fun ρ M' => Lay M' ∧ RaF M M' ∧ ResX ρ M' (fun x => TbAt M' 4 x.1 ∧ TrsX M' x.2 ∧ pm_ct M' 2 6 = 0 ∧ pm_ct M' 2 7 = -1) (pAll ch n)) := ⟨_, rfl⟩
  rw [← hQ]
  have n5 := hM.1
  have uk := (lxt_ok (ch := ch) (n := n) (p := 0) (by omega) n5).1
  show Wp (d + 14) 57 0 [(2, ((2 : Nat) : Int)), (9, 0), (9, 0)] [] M mc ms Q
  have st : ∀ K : pm_M, Lay K → RaF M K → pm_ct K 2 6 = 0 → pm_ct K 2 7 = -1 → pm_ct K 2 9 = 0 → pm_ct K 2 5 = 0 → pm_ct K 2 8 = 0 → Wp (d + 14) 57 25 [(2, ((2 : Nat) : Int)), (9, 0), (9, 0)] [] K mc ms Q := by
    intro K layK fK c6 c7 c9 c5 c8
    have tcK := fK.tc hM
    have wi := c_Table_wipe (d := d + 13) (mc := 0) (ms := 0) layK
    cases hp : pRows ch n (lxt ch n 0) with
    | inl e =>
      have ep : pAll ch n = .inl e := by unfold pAll; rw [hp]
      refine g_aload_n lk_57_25 rfl ?_
      refine g_getfield lk_57_26 rfl (layK.on (by decide) rfl) (v := ((4 : Nat) : Int)) (layK.rf rfl) ?_
      refine g_virtual (p := 4) (Qc := _) lk_57_29 rfl (Nat.le_of_ble_eq_true rfl) rfl rfl (layK.on (by decide) rfl) (Nat.le_of_ble_eq_true rfl) (Nat.le_of_ble_eq_true rfl) (Nat.zero_le _) (Nat.zero_le _) (wi) ?_
      rintro _ K1 ⟨rfl, lay1, fr1, tb1⟩
      have ad := c_Reader_advance (d := d + 12) (mc := 0) (ms := 0) lay1 (fr1.rw.tc tcK) (p := 0) (by rw [fr1.ct (by decide)]; exact c9) (by omega)
      show Wp _ 57 32 [(2, ((2 : Nat) : Int)), (9, 0), (9, 0)] [] K1 _ _ _
      refine g_aload_n lk_57_32 rfl ?_
      refine g_virtual (p := 2) (Qc := _) lk_57_33 rfl (Nat.le_of_ble_eq_true rfl) rfl rfl (lay1.on (by decide) rfl) (Nat.le_of_ble_eq_true rfl) (Nat.le_of_ble_eq_true rfl) (Nat.zero_le _) (Nat.zero_le _) (ad) ?_
      rintro _ K2 ⟨rfl, lay2, rd2, tk2⟩
      have rr := c_Reader_readRows (d := d + 9) (mc := 0) (ms := 0) lay2 ((fr1.rw.tc tcK).rd rd2) tk2 uk (rd2.re.tb tb1)
      rw [hp] at rr
      show Wp _ 57 36 [(2, ((2 : Nat) : Int)), (9, 0), (9, 0)] [] K2 _ _ _
      refine g_aload_n lk_57_36 rfl ?_
      refine g_virtual (p := 2) (Qc := _) lk_57_37 rfl (Nat.le_of_ble_eq_true rfl) rfl rfl (lay2.on (by decide) rfl) (Nat.le_of_ble_eq_true rfl) (Nat.le_of_ble_eq_true rfl) (Nat.zero_le _) (Nat.zero_le _) (rr) ?_
      rintro _ K3 ⟨lay3, rw3, rfl, ft3⟩
      show Wp _ 57 40 [(2, ((2 : Nat) : Int)), (9, 0), (9, 0)] [(0, 0)] K3 _ _ _
      refine g_if (t := 45) lk_57_40 rfl (by first | (unfold pm_inI; omega) | exact pm_and_in _ _ | exact pm_shr_in _ _ | exact pm_or_in _ _ | exact pm_xor_in _ _ | exact pm_shl_in _ _ | exact pm_cmp_in _ _ | exact pm_b8_in _ | (unfold pm_inI; split <;> omega)) (fun h => absurd h (show ¬ (¬ (0 : Int) = (0 : Int)) by omega)) (fun _ => ?_)
      refine g_iconst lk_57_43 ?_
      refine g_ireturn lk_57_44 (fun _ => by omega) ?_
      rw [hQ, ep]
      exact ⟨lay3, ((fK.trans fr1.rw.ra).trans rd2.re.rw.ra).trans rw3.ra, rfl, ft3⟩
    | inr y =>
      obtain ⟨T, t1⟩ := y
      have ep : pAll ch n = pLs ch n 500 T 0 [] t1 := by unfold pAll; rw [hp]
      obtain ⟨o1, k, k1, k6, ro⟩ := pRows_ok n5 uk hp
      have li := c_Reader_lines (d := d) (mc := mc) (ms := ms) tcK Q (9, 0) (pAll ch n) (fun e N h l f ft => by rw [hQ, h]; exact ⟨l, fK.trans f, rfl, ft⟩) (fun T' Ts N h l f s tb ts => by rw [hQ, h]; exact ⟨l, fK.trans f, rfl, tb, ts, s.1.trans c6, s.2.trans c7⟩) 500 0 0
      refine g_aload_n lk_57_25 rfl ?_
      refine g_getfield lk_57_26 rfl (layK.on (by decide) rfl) (v := ((4 : Nat) : Int)) (layK.rf rfl) ?_
      refine g_virtual (p := 4) (Qc := _) lk_57_29 rfl (Nat.le_of_ble_eq_true rfl) rfl rfl (layK.on (by decide) rfl) (Nat.le_of_ble_eq_true rfl) (Nat.le_of_ble_eq_true rfl) (Nat.zero_le _) (Nat.zero_le _) (wi) ?_
      rintro _ K1 ⟨rfl, lay1, fr1, tb1⟩
      have ad := c_Reader_advance (d := d + 12) (mc := 0) (ms := 0) lay1 (fr1.rw.tc tcK) (p := 0) (by rw [fr1.ct (by decide)]; exact c9) (by omega)
      show Wp _ 57 32 [(2, ((2 : Nat) : Int)), (9, 0), (9, 0)] [] K1 _ _ _
      refine g_aload_n lk_57_32 rfl ?_
      refine g_virtual (p := 2) (Qc := _) lk_57_33 rfl (Nat.le_of_ble_eq_true rfl) rfl rfl (lay1.on (by decide) rfl) (Nat.le_of_ble_eq_true rfl) (Nat.le_of_ble_eq_true rfl) (Nat.zero_le _) (Nat.zero_le _) (ad) ?_
      rintro _ K2 ⟨rfl, lay2, rd2, tk2⟩
      have rr := c_Reader_readRows (d := d + 9) (mc := 0) (ms := 0) lay2 ((fr1.rw.tc tcK).rd rd2) tk2 uk (rd2.re.tb tb1)
      rw [hp] at rr
      show Wp _ 57 36 [(2, ((2 : Nat) : Int)), (9, 0), (9, 0)] [] K2 _ _ _
      refine g_aload_n lk_57_36 rfl ?_
      refine g_virtual (p := 2) (Qc := _) lk_57_37 rfl (Nat.le_of_ble_eq_true rfl) rfl rfl (lay2.on (by decide) rfl) (Nat.le_of_ble_eq_true rfl) (Nat.le_of_ble_eq_true rfl) (Nat.zero_le _) (Nat.zero_le _) (rr) ?_
      rintro _ K3 ⟨lay3, rw3, rfl, tk3, tb3, sv3⟩
      show Wp _ 57 40 [(2, ((2 : Nat) : Int)), (9, 0), (9, 0)] [(0, 1)] K3 _ _ _
      refine g_if (t := 45) lk_57_40 rfl (by first | (unfold pm_inI; omega) | exact pm_and_in _ _ | exact pm_shr_in _ _ | exact pm_or_in _ _ | exact pm_xor_in _ _ | exact pm_shl_in _ _ | exact pm_cmp_in _ _ | exact pm_b8_in _ | (unfold pm_inI; split <;> omega)) (fun _ => ?_) (fun h => absurd (show ¬ (1 : Int) = (0 : Int) by omega) h)
      refine g_iconst lk_57_45 ?_
      refine g_istore_n (ls' := [(2, ((2 : Nat) : Int)), (0, 0), (9, 0)]) lk_57_46 rfl rfl ?_
      have F : RwF K K3 := (fr1.rw.trans rd2.re.rw).trans rw3
      exact li K3 T [] t1 _ (by omega) lay3 F.ra (((fr1.sv (by decide)).trans rd2.sv).trans sv3) tk3 o1 tb3 (by rw [ro.1]; exact k6) ro.2.1 ⟨by rw [F.2 5 (by decide)]; exact c5, fun i x hx => by cases hx⟩ (by decide) (by rw [F.2 8 (by decide)]; exact c8) (by omega) ep
  refine g_aload_n lk_57_0 rfl ?_
  refine g_iconst lk_57_1 ?_
  have lay1 : Lay (Mu [(2, pm_upd (pm_ct M 2) 6 0)] M) := lay.muF (l := []) (a := 2) (k := 6) (z := 0) rfl rfl
  refine m_putfield (u := []) (u' := [(2, pm_upd (pm_ct M 2) 6 0)]) (M := M) lk_57_2 rfl (lay.on (by decide) rfl) (fun h => absurd h (by decide)) rfl ?_
  refine g_aload_n lk_57_5 rfl ?_
  refine g_iconst lk_57_6 ?_
  have lay2 : Lay (Mu [(2, pm_upd (pm_upd (pm_ct M 2) 6 0) 7 (-1))] M) := lay1.muF (l := [(2, pm_upd (pm_ct M 2) 6 0)]) (a := 2) (k := 7) (z := (-1)) rfl rfl
  refine m_putfield (u := [(2, pm_upd (pm_ct M 2) 6 0)]) (u' := [(2, pm_upd (pm_upd (pm_ct M 2) 6 0) 7 (-1))]) (M := M) lk_57_7 rfl (lay1.on (by decide) rfl) (fun h => absurd h (by decide)) rfl ?_
  refine g_aload_n lk_57_10 rfl ?_
  refine g_iconst lk_57_11 ?_
  have lay3 : Lay (Mu [(2, pm_upd (pm_upd (pm_upd (pm_ct M 2) 6 0) 7 (-1)) 9 0)] M) := lay2.muF (l := [(2, pm_upd (pm_upd (pm_ct M 2) 6 0) 7 (-1))]) (a := 2) (k := 9) (z := 0) rfl rfl
  refine m_putfield (u := [(2, pm_upd (pm_upd (pm_ct M 2) 6 0) 7 (-1))]) (u' := [(2, pm_upd (pm_upd (pm_upd (pm_ct M 2) 6 0) 7 (-1)) 9 0)]) (M := M) lk_57_12 rfl (lay2.on (by decide) rfl) (fun h => absurd h (by decide)) rfl ?_
  refine g_aload_n lk_57_15 rfl ?_
  refine g_iconst lk_57_16 ?_
  have lay4 : Lay (Mu [(2, pm_upd (pm_upd (pm_upd (pm_upd (pm_ct M 2) 6 0) 7 (-1)) 9 0) 5 0)] M) := lay3.muF (l := [(2, pm_upd (pm_upd (pm_upd (pm_ct M 2) 6 0) 7 (-1)) 9 0)]) (a := 2) (k := 5) (z := 0) rfl rfl
  refine m_putfield (u := [(2, pm_upd (pm_upd (pm_upd (pm_ct M 2) 6 0) 7 (-1)) 9 0)]) (u' := [(2, pm_upd (pm_upd (pm_upd (pm_upd (pm_ct M 2) 6 0) 7 (-1)) 9 0) 5 0)]) (M := M) lk_57_17 rfl (lay3.on (by decide) rfl) (fun h => absurd h (by decide)) rfl ?_
  refine g_aload_n lk_57_20 rfl ?_
  refine g_iconst lk_57_21 ?_
  have lay5 : Lay (Mu [(2, pm_upd (pm_upd (pm_upd (pm_upd (pm_upd (pm_ct M 2) 6 0) 7 (-1)) 9 0) 5 0) 8 0)] M) := lay4.muF (l := [(2, pm_upd (pm_upd (pm_upd (pm_upd (pm_ct M 2) 6 0) 7 (-1)) 9 0) 5 0)]) (a := 2) (k := 8) (z := 0) rfl rfl
  refine m_putfield (u := [(2, pm_upd (pm_upd (pm_upd (pm_upd (pm_ct M 2) 6 0) 7 (-1)) 9 0) 5 0)]) (u' := [(2, pm_upd (pm_upd (pm_upd (pm_upd (pm_upd (pm_ct M 2) 6 0) 7 (-1)) 9 0) 5 0) 8 0)]) (M := M) lk_57_22 rfl (lay4.on (by decide) rfl) (fun _ => by omega) rfl ?_
  have fM : Fr [2] M (Mu [(2, pm_upd (pm_upd (pm_upd (pm_upd (pm_upd (pm_ct M 2) 6 0) 7 (-1)) 9 0) 5 0) 8 0)] M) := Fr.mu _ _ rfl
  refine st (Mu [(2, pm_upd (pm_upd (pm_upd (pm_upd (pm_upd (pm_ct M 2) 6 0) 7 (-1)) 9 0) 5 0) 8 0)] M) lay5 ⟨fM.mono (fun a q => by simp at q; simp [q]), fun j hj => ?_⟩ (by rw [Mu_ct]; rfl) (by rw [Mu_ct]; rfl) (by rw [Mu_ct]; rfl) (by rw [Mu_ct]; rfl) (by rw [Mu_ct]; rfl)
  rw [Mu_ct]
  simp at hj
  show pm_upd _ _ _ j = _
  rw [pm_upd_ne (by omega), pm_upd_ne (by omega), pm_upd_ne (by omega), pm_upd_ne (by omega), pm_upd_ne (by omega)]
