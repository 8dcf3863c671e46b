/-! ===== a line of costs, by the class ===== -/
theorem pCost_no {ch : Nat → Nat} {n w : Nat} {T : Tab} {t : Tok} (h : ¬ (t.1 = 1 ∧ twd ch t = wCost ∧ w = 0)) : pCost ch n T w t = .inl (flt 2 t) := by
  unfold pCost
  rw [if_neg h]
theorem pCost_0 {ch : Nat → Nat} {n w : Nat} {T : Tab} {t : Tok} (h : t.1 = 1 ∧ twd ch t = wCost ∧ w = 0) {e : Nat × Nat} (k1 : pNum ch 1 (lxt ch n t.2.2) = .inl e) : pCost ch n T w t = .inl e := by
  unfold pCost
  rw [if_pos h, k1]
theorem pCost_1 {ch : Nat → Nat} {n w a : Nat} {T : Tab} {t : Tok} (h : t.1 = 1 ∧ twd ch t = wCost ∧ w = 0) {e : Nat × Nat} (k1 : pNum ch 1 (lxt ch n t.2.2) = .inr a) (k2 : pNum ch 1 (lxt ch n (lxt ch n t.2.2).2.2) = .inl e) : pCost ch n T w t = .inl e := by
  unfold pCost
  rw [if_pos h, k1]
  show (match pNum ch 1 (lxt ch n (lxt ch n t.2.2).2.2) with | .inl e => _ | .inr b => _) = _
  rw [k2]
theorem pCost_2 {ch : Nat → Nat} {n w a b : Nat} {T : Tab} {t : Tok} (h : t.1 = 1 ∧ twd ch t = wCost ∧ w = 0) {e : Nat × Nat} (k1 : pNum ch 1 (lxt ch n t.2.2) = .inr a) (k2 : pNum ch 1 (lxt ch n (lxt ch n t.2.2).2.2) = .inr b) (k3 : pStop ch n (lxt ch n (lxt ch n (lxt ch n t.2.2).2.2).2.2) = .inl e) : pCost ch n T w t = .inl e := by
  unfold pCost
  rw [if_pos h, k1]
  show (match pNum ch 1 (lxt ch n (lxt ch n t.2.2).2.2) with | .inl e => _ | .inr b => _) = _
  rw [k2]
  show (match pStop ch n (lxt ch n (lxt ch n (lxt ch n t.2.2).2.2).2.2) with | .inl e => _ | .inr t' => _) = _
  rw [k3]
theorem pCost_3 {ch : Nat → Nat} {n w a b : Nat} {T : Tab} {t t' : Tok} (h : t.1 = 1 ∧ twd ch t = wCost ∧ w = 0) (k1 : pNum ch 1 (lxt ch n t.2.2) = .inr a) (k2 : pNum ch 1 (lxt ch n (lxt ch n t.2.2).2.2) = .inr b) (k3 : pStop ch n (lxt ch n (lxt ch n (lxt ch n t.2.2).2.2).2.2) = .inr t') : pCost ch n T w t = .inr ((tR T, tC T, T.2.2.1, a, b), t') := by
  unfold pCost
  rw [if_pos h, k1]
  show (match pNum ch 1 (lxt ch n (lxt ch n t.2.2).2.2) with | .inl e => _ | .inr b => _) = _
  rw [k2]
  show (match pStop ch n (lxt ch n (lxt ch n (lxt ch n t.2.2).2.2).2.2) with | .inl e => _ | .inr t' => _) = _
  rw [k3]
theorem CoF.tc {n : Nat} {ch : Nat → Nat} {M N : pm_M} (h : CoF M N) (hM : TcX M n ch) : TcX N n ch := by
  unfold TcX at hM ⊢
  rw [h.2 4 (by decide), h.1.ct (a := 3) (by decide)]; exact hM
theorem num_9 {ch : Nat → Nat} {n l v : Nat} {t : Tok} (hK : TkOK ch n t) (h : pNum ch l t = .inr v) : l ≤ v ∧ v ≤ 9 := by
  obtain ⟨p1, p2, p3, p4⟩ := pNum_inr h
  have := run_ch hK p1 (i := t.2.1) (by omega) (by omega)
  omega
theorem co_told {M N : pm_M} (h : Fr [2] M N) (k : ∀ j, j ≠ 8 → pm_ct N 2 j = pm_ct M 2 j) : CoF M N := ⟨h.mono (fun a q => by simp at q; simp [q]), fun j hj => k j (fun e => hj (by rw [e]; decide))⟩
set_option maxHeartbeats 4000000 in
theorem c_Reader_readCosts {d mc ms : Nat} {M : pm_M} (lay : Lay M) {n : Nat} {ch : Nat → Nat} (hM : TcX M n ch) {t : Tok} (hT : TkX M ch t) (hK : TkOK ch n t) {T : Tab} (hB : TbAt M 4 T) {w : Nat} (hw : pm_ct M 2 8 = (w : Int)) (w1 : w ≤ 1) :
    pm_E (d + 3) 61 [(2, ((2 : Nat) : Int))] M mc ms (fun ρ M' => Lay M' ∧ CoF M M' ∧ ResX ρ M' (fun x => TkX M' ch x.2 ∧ TbAt M' 4 x.1 ∧ pm_ct M' 2 8 = 1 ∧ Sv M M') (pCost ch n T w t)) := by
  obtain ⟨Q, hQ⟩ : ∃ Q : pm_Q, Q = (fun ρ M' => Lay M' ∧ CoF M M' ∧ ResX ρ M' (fun x => TkX M' ch x.2 ∧ TbAt M' 4 x.1 ∧ pm_ct M' 2 8 = 1 ∧ Sv M M') (pCost ch n T w t)) := ⟨_, rfl⟩
  rw [← hQ]
  have n5 := hM.1
  have t4 := hK.1
  have f10 := hT.1
  have rf2 := c_Reader_refuse (d := d + 2) (mc := 0) (ms := 0) lay hT hK.1 (w := 2)
  have u1 := (lxt_ok (ch := ch) hK.2.2.1 n5).1
  have u2 := (lxt_ok (ch := ch) u1.2.2.1 n5).1
  have u3 := (lxt_ok (ch := ch) u2.2.2.1 n5).1
  show Wp (d + 3) 61 0 [(2, ((2 : Nat) : Int))] [] M mc ms Q
  by_cases a : t.1 = 1 ∧ twd ch t = wCost ∧ w = 0
  · have f10' : pm_ct M 2 10 = 1 := by rw [f10, a.1]; rfl
    have f13' : pm_ct M 2 13 = 70517 := by
      have : pm_ct M 2 13 = ((nr 27 (twd ch t) : Nat) : Int) := hT.2.2.2.2 a.1
      rw [this]
      exact (w27_con (hK.lt a.1)).2.2.1.mpr a.2.1
    have f8' : pm_ct M 2 8 = 0 := by rw [hw, a.2.2]; rfl
    have st3 : ∀ (x y : Nat) (K : pm_M), pNum ch 1 (lxt ch n t.2.2) = .inr x → pNum ch 1 (lxt ch n (lxt ch n t.2.2).2.2) = .inr y → Lay K → CoF M K → Sv M K → TkX K ch (lxt ch n (lxt ch n t.2.2).2.2) → TbAt K 4 (tR T, tC T, T.2.2.1, x, y) → pm_ct K 2 8 = 1 → Wp (d + 3) 61 93 [(2, ((2 : Nat) : Int))] [] K mc ms Q := by
      intro x y K k1 k2 layK fK sK tk tb f8
      have ad := c_Reader_advance (d := d + 1) (mc := 0) (ms := 0) layK (fK.tc hM) tk.2.2.2.1 u2.2.2.1
      cases k3 : pStop ch n (lxt ch n (lxt ch n (lxt ch n t.2.2).2.2).2.2) with
      | inl e =>
        rw [pCost_2 a k1 k2 k3] at hQ
        refine g_aload_n lk_61_93 rfl ?_
        refine g_virtual (p := 2) (Qc := _) lk_61_94 rfl (Nat.le_of_ble_eq_true rfl) rfl rfl (layK.on (by decide) rfl) (Nat.le_of_ble_eq_true rfl) (Nat.le_of_ble_eq_true rfl) (Nat.zero_le _) (Nat.zero_le _) (ad) ?_
        rintro _ K2 ⟨rfl, lay2, rd2, tk2⟩
        have st := c_Reader_readStop (d := d) (mc := 0) (ms := 0) lay2 ((fK.tc hM).rd rd2) tk2 u3
        rw [k3] at st
        show Wp _ 61 97 [(2, ((2 : Nat) : Int))] [] K2 _ _ _
        refine g_aload_n lk_61_97 rfl ?_
        refine g_virtual (p := 2) (Qc := _) lk_61_98 rfl (Nat.le_of_ble_eq_true rfl) rfl rfl (lay2.on (by decide) rfl) (Nat.le_of_ble_eq_true rfl) (Nat.le_of_ble_eq_true rfl) (Nat.zero_le _) (Nat.zero_le _) (st) ?_
        rintro _ K3 ⟨lay3, re3, rfl, ft3⟩
        show Wp _ 61 101 [(2, ((2 : Nat) : Int))] [(0, 0)] K3 _ _ _
        refine g_ireturn lk_61_101 (fun _ => by omega) ?_
        rw [hQ]
        exact ⟨lay3, (fK.trans rd2.re.rw.co).trans re3.rw.co, rfl, ft3⟩
      | inr t' =>
        rw [pCost_3 a k1 k2 k3] at hQ
        refine g_aload_n lk_61_93 rfl ?_
        refine g_virtual (p := 2) (Qc := _) lk_61_94 rfl (Nat.le_of_ble_eq_true rfl) rfl rfl (layK.on (by decide) rfl) (Nat.le_of_ble_eq_true rfl) (Nat.le_of_ble_eq_true rfl) (Nat.zero_le _) (Nat.zero_le _) (ad) ?_
        rintro _ K2 ⟨rfl, lay2, rd2, tk2⟩
        have st := c_Reader_readStop (d := d) (mc := 0) (ms := 0) lay2 ((fK.tc hM).rd rd2) tk2 u3
        rw [k3] at st
        show Wp _ 61 97 [(2, ((2 : Nat) : Int))] [] K2 _ _ _
        refine g_aload_n lk_61_97 rfl ?_
        refine g_virtual (p := 2) (Qc := _) lk_61_98 rfl (Nat.le_of_ble_eq_true rfl) rfl rfl (lay2.on (by decide) rfl) (Nat.le_of_ble_eq_true rfl) (Nat.le_of_ble_eq_true rfl) (Nat.zero_le _) (Nat.zero_le _) (st) ?_
        rintro _ K3 ⟨lay3, re3, rfl, tk3, sv3⟩
        show Wp _ 61 101 [(2, ((2 : Nat) : Int))] [(0, 1)] K3 _ _ _
        refine g_ireturn lk_61_101 (fun _ => by omega) ?_
        rw [hQ]
        exact ⟨lay3, (fK.trans rd2.re.rw.co).trans re3.rw.co, rfl, tk3, re3.tb (rd2.re.tb tb), by rw [re3.2 8 (by decide), rd2.2 8 (by decide)]; exact f8, (sK.trans rd2.sv).trans sv3⟩
    have st2 : ∀ (x : Nat) (K : pm_M), pNum ch 1 (lxt ch n t.2.2) = .inr x → Lay K → CoF M K → Sv M K → TkX K ch (lxt ch n t.2.2) → TbAt K 4 (tR T, tC T, T.2.2.1, x, tB T) → pm_ct K 2 8 = 1 → Wp (d + 3) 61 64 [(2, ((2 : Nat) : Int))] [] K mc ms Q := by
      intro x K k1 layK fK sK tk tb f8
      have ad := c_Reader_advance (d := d + 1) (mc := 0) (ms := 0) layK (fK.tc hM) tk.2.2.2.1 u1.2.2.1
      cases k2 : pNum ch 1 (lxt ch n (lxt ch n t.2.2).2.2) with
      | inl e =>
        rw [pCost_1 a k1 k2] at hQ
        clear st3
        refine g_aload_n lk_61_64 rfl ?_
        refine g_virtual (p := 2) (Qc := _) lk_61_65 rfl (Nat.le_of_ble_eq_true rfl) rfl rfl (layK.on (by decide) rfl) (Nat.le_of_ble_eq_true rfl) (Nat.le_of_ble_eq_true rfl) (Nat.zero_le _) (Nat.zero_le _) (ad) ?_
        rintro _ K2 ⟨rfl, lay2, rd2, tk2⟩
        have inf := c_Reader_isNumberFrom (d := d + 1) (mc := 0) (ms := 0) lay2 ((fK.tc hM).rd rd2) tk2 u2 (l := 1) (by omega)
        rw [k2] at inf
        show Wp _ 61 68 [(2, ((2 : Nat) : Int))] [] K2 _ _ _
        refine g_aload_n lk_61_68 rfl ?_
        refine g_iconst lk_61_69 ?_
        refine g_virtual (p := 2) (Qc := _) lk_61_70 rfl (Nat.le_of_ble_eq_true rfl) rfl rfl (lay2.on (by decide) rfl) (Nat.le_of_ble_eq_true rfl) (Nat.le_of_ble_eq_true rfl) (Nat.zero_le _) (Nat.zero_le _) (inf) ?_
        rintro _ K3 ⟨lay3, re3, rfl, ft3⟩
        show Wp _ 61 73 [(2, ((2 : Nat) : Int))] [(0, 0)] K3 _ _ _
        refine g_if (t := 78) lk_61_73 rfl (by first | (unfold pm_inI; omega) | exact pm_and_in _ _ | exact pm_shr_in _ _ | exact pm_or_in _ _ | exact pm_xor_in _ _ | exact pm_shl_in _ _ | exact pm_cmp_in _ _ | exact pm_b8_in _ | (unfold pm_inI; split <;> omega)) (fun h => absurd h (show ¬ (¬ (0 : Int) = (0 : Int)) by omega)) (fun _ => ?_)
        refine g_iconst lk_61_76 ?_
        refine g_ireturn lk_61_77 (fun _ => by omega) ?_
        rw [hQ]
        exact ⟨lay3, (fK.trans rd2.re.rw.co).trans re3.rw.co, rfl, ft3⟩
      | inr y =>
        obtain ⟨p1, p2, p3, p4⟩ := pNum_inr k2
        obtain ⟨c, hc⟩ : ∃ c, c = ch (lxt ch n (lxt ch n t.2.2).2.2).2.1 := ⟨_, rfl⟩
        have ev : (c : Int) - 48 = (y : Int) := by omega
        have y9 := num_9 u2 k2
        have nx := fun K1 l1 g1 g0 g2 g3 g4 => st3 x y K1 k1 k2 l1 g1 g0 g2 g3 g4
        clear st3
        refine g_aload_n lk_61_64 rfl ?_
        refine g_virtual (p := 2) (Qc := _) lk_61_65 rfl (Nat.le_of_ble_eq_true rfl) rfl rfl (layK.on (by decide) rfl) (Nat.le_of_ble_eq_true rfl) (Nat.le_of_ble_eq_true rfl) (Nat.zero_le _) (Nat.zero_le _) (ad) ?_
        rintro _ K2 ⟨rfl, lay2, rd2, tk2⟩
        have inf := c_Reader_isNumberFrom (d := d + 1) (mc := 0) (ms := 0) lay2 ((fK.tc hM).rd rd2) tk2 u2 (l := 1) (by omega)
        rw [k2] at inf
        have sg := c_Reader_sign0 (d := d + 2) (mc := 0) (ms := 0) lay2 ((fK.tc hM).rd rd2) tk2 u2 p1 hc
        show Wp _ 61 68 [(2, ((2 : Nat) : Int))] [] K2 _ _ _
        refine g_aload_n lk_61_68 rfl ?_
        refine g_iconst lk_61_69 ?_
        refine g_virtual (p := 2) (Qc := _) lk_61_70 rfl (Nat.le_of_ble_eq_true rfl) rfl rfl (lay2.on (by decide) rfl) (Nat.le_of_ble_eq_true rfl) (Nat.le_of_ble_eq_true rfl) (Nat.zero_le _) (Nat.zero_le _) (inf) ?_
        rintro _ K3 ⟨lay3, re3, rfl, eK⟩
        rw [eK]
        show Wp _ 61 73 [(2, ((2 : Nat) : Int))] [(0, 1)] K2 _ _ _
        refine g_if (t := 78) lk_61_73 rfl (by first | (unfold pm_inI; omega) | exact pm_and_in _ _ | exact pm_shr_in _ _ | exact pm_or_in _ _ | exact pm_xor_in _ _ | exact pm_shl_in _ _ | exact pm_cmp_in _ _ | exact pm_b8_in _ | (unfold pm_inI; split <;> omega)) (fun _ => ?_) (fun h => absurd (show ¬ (1 : Int) = (0 : Int) by omega) h)
        refine g_aload_n lk_61_78 rfl ?_
        refine g_getfield lk_61_79 rfl (lay2.on (by decide) rfl) (v := ((4 : Nat) : Int)) (lay2.rf rfl) ?_
        refine g_aload_n lk_61_82 rfl ?_
        refine g_iconst lk_61_83 ?_
        refine g_virtual (p := 2) (Qc := _) lk_61_84 rfl (Nat.le_of_ble_eq_true rfl) rfl rfl (lay2.on (by decide) rfl) (Nat.le_of_ble_eq_true rfl) (Nat.le_of_ble_eq_true rfl) (Nat.zero_le _) (Nat.zero_le _) (sg) ?_
        rintro _ N1 ⟨rfl, hN1⟩
        rw [hN1]
        show Wp _ 61 87 [(2, ((2 : Nat) : Int))] [(0, (c : Int)), (2, ((4 : Nat) : Int))] K2 _ _ _
        refine g_bipush lk_61_87 ?_
        refine g_isub lk_61_89 ?_
        refine g_top (z := ((c : Int) - 48)) (z' := (y : Int)) (ev) ?_
        have lay2 : Lay (Mu [(4, pm_upd (pm_ct K2 4) 4 (y : Int))] K2) := lay2.muF (l := []) (a := 4) (k := 4) (z := (y : Int)) rfl rfl
        refine m_putfield (u := []) (u' := [(4, pm_upd (pm_ct K2 4) 4 (y : Int))]) (M := K2) lk_61_90 rfl (lay2.on (by decide) rfl) (fun h => absurd h (by decide)) rfl ?_
        have fM : Fr [4, 5] K2 (Mu [(4, pm_upd (pm_ct K2 4) 4 (y : Int))] K2) := Fr.mu _ _ rfl
        have tb2 := rd2.re.tb tb
        exact nx (Mu [(4, pm_upd (pm_ct K2 4) 4 (y : Int))] K2) lay2 ((fK.trans rd2.re.rw.co).trans fM.rw.co) ((sK.trans rd2.sv).trans (fM.sv (by decide))) (fM.tk45 tk2) ⟨by rw [Mu_ct]; exact tb2.1, by rw [Mu_ct]; exact tb2.2.1, by rw [Mu_ct]; exact tb2.2.2.1, by rw [Mu_ct]; rfl, fun j hj => by rw [Mu_ct]; exact tb2.2.2.2.2 j hj⟩ (by rw [fM.ct (by decide), rd2.2 8 (by decide)]; exact f8)
    have st1 : ∀ (K : pm_M), Lay K → CoF M K → Sv M K → TkX K ch t → TbAt K 4 T → pm_ct K 2 8 = 1 → Wp (d + 3) 61 35 [(2, ((2 : Nat) : Int))] [] K mc ms Q := by
      intro K layK fK sK tk tb f8
      have ad := c_Reader_advance (d := d + 1) (mc := 0) (ms := 0) layK (fK.tc hM) tk.2.2.2.1 hK.2.2.1
      clear st3
      cases k1 : pNum ch 1 (lxt ch n t.2.2) with
      | inl e =>
        rw [pCost_0 a k1] at hQ
        clear st2
        refine g_aload_n lk_61_35 rfl ?_
        refine g_virtual (p := 2) (Qc := _) lk_61_36 rfl (Nat.le_of_ble_eq_true rfl) rfl rfl (layK.on (by decide) rfl) (Nat.le_of_ble_eq_true rfl) (Nat.le_of_ble_eq_true rfl) (Nat.zero_le _) (Nat.zero_le _) (ad) ?_
        rintro _ K2 ⟨rfl, lay2, rd2, tk2⟩
        have inf := c_Reader_isNumberFrom (d := d + 1) (mc := 0) (ms := 0) lay2 ((fK.tc hM).rd rd2) tk2 u1 (l := 1) (by omega)
        rw [k1] at inf
        show Wp _ 61 39 [(2, ((2 : Nat) : Int))] [] K2 _ _ _
        refine g_aload_n lk_61_39 rfl ?_
        refine g_iconst lk_61_40 ?_
        refine g_virtual (p := 2) (Qc := _) lk_61_41 rfl (Nat.le_of_ble_eq_true rfl) rfl rfl (lay2.on (by decide) rfl) (Nat.le_of_ble_eq_true rfl) (Nat.le_of_ble_eq_true rfl) (Nat.zero_le _) (Nat.zero_le _) (inf) ?_
        rintro _ K3 ⟨lay3, re3, rfl, ft3⟩
        show Wp _ 61 44 [(2, ((2 : Nat) : Int))] [(0, 0)] K3 _ _ _
        refine g_if (t := 49) lk_61_44 rfl (by first | (unfold pm_inI; omega) | exact pm_and_in _ _ | exact pm_shr_in _ _ | exact pm_or_in _ _ | exact pm_xor_in _ _ | exact pm_shl_in _ _ | exact pm_cmp_in _ _ | exact pm_b8_in _ | (unfold pm_inI; split <;> omega)) (fun h => absurd h (show ¬ (¬ (0 : Int) = (0 : Int)) by omega)) (fun _ => ?_)
        refine g_iconst lk_61_47 ?_
        refine g_ireturn lk_61_48 (fun _ => by omega) ?_
        rw [hQ]
        exact ⟨lay3, (fK.trans rd2.re.rw.co).trans re3.rw.co, rfl, ft3⟩
      | inr x =>
        obtain ⟨p1, p2, p3, p4⟩ := pNum_inr k1
        obtain ⟨c, hc⟩ : ∃ c, c = ch (lxt ch n t.2.2).2.1 := ⟨_, rfl⟩
        have ev : (c : Int) - 48 = (x : Int) := by omega
        have y9 := num_9 u1 k1
        have nx := fun K1 l1 g1 g0 g2 g3 g4 => st2 x K1 k1 l1 g1 g0 g2 g3 g4
        clear st2
        refine g_aload_n lk_61_35 rfl ?_
        refine g_virtual (p := 2) (Qc := _) lk_61_36 rfl (Nat.le_of_ble_eq_true rfl) rfl rfl (layK.on (by decide) rfl) (Nat.le_of_ble_eq_true rfl) (Nat.le_of_ble_eq_true rfl) (Nat.zero_le _) (Nat.zero_le _) (ad) ?_
        rintro _ K2 ⟨rfl, lay2, rd2, tk2⟩
        have inf := c_Reader_isNumberFrom (d := d + 1) (mc := 0) (ms := 0) lay2 ((fK.tc hM).rd rd2) tk2 u1 (l := 1) (by omega)
        rw [k1] at inf
        have sg := c_Reader_sign0 (d := d + 2) (mc := 0) (ms := 0) lay2 ((fK.tc hM).rd rd2) tk2 u1 p1 hc
        show Wp _ 61 39 [(2, ((2 : Nat) : Int))] [] K2 _ _ _
        refine g_aload_n lk_61_39 rfl ?_
        refine g_iconst lk_61_40 ?_
        refine g_virtual (p := 2) (Qc := _) lk_61_41 rfl (Nat.le_of_ble_eq_true rfl) rfl rfl (lay2.on (by decide) rfl) (Nat.le_of_ble_eq_true rfl) (Nat.le_of_ble_eq_true rfl) (Nat.zero_le _) (Nat.zero_le _) (inf) ?_
        rintro _ K3 ⟨lay3, re3, rfl, eK⟩
        rw [eK]
        show Wp _ 61 44 [(2, ((2 : Nat) : Int))] [(0, 1)] K2 _ _ _
        refine g_if (t := 49) lk_61_44 rfl (by first | (unfold pm_inI; omega) | exact pm_and_in _ _ | exact pm_shr_in _ _ | exact pm_or_in _ _ | exact pm_xor_in _ _ | exact pm_shl_in _ _ | exact pm_cmp_in _ _ | exact pm_b8_in _ | (unfold pm_inI; split <;> omega)) (fun _ => ?_) (fun h => absurd (show ¬ (1 : Int) = (0 : Int) by omega) h)
        refine g_aload_n lk_61_49 rfl ?_
        refine g_getfield lk_61_50 rfl (lay2.on (by decide) rfl) (v := ((4 : Nat) : Int)) (lay2.rf rfl) ?_
        refine g_aload_n lk_61_53 rfl ?_
        refine g_iconst lk_61_54 ?_
        refine g_virtual (p := 2) (Qc := _) lk_61_55 rfl (Nat.le_of_ble_eq_true rfl) rfl rfl (lay2.on (by decide) rfl) (Nat.le_of_ble_eq_true rfl) (Nat.le_of_ble_eq_true rfl) (Nat.zero_le _) (Nat.zero_le _) (sg) ?_
        rintro _ N1 ⟨rfl, hN1⟩
        rw [hN1]
        show Wp _ 61 58 [(2, ((2 : Nat) : Int))] [(0, (c : Int)), (2, ((4 : Nat) : Int))] K2 _ _ _
        refine g_bipush lk_61_58 ?_
        refine g_isub lk_61_60 ?_
        refine g_top (z := ((c : Int) - 48)) (z' := (x : Int)) (ev) ?_
        have lay2 : Lay (Mu [(4, pm_upd (pm_ct K2 4) 3 (x : Int))] K2) := lay2.muF (l := []) (a := 4) (k := 3) (z := (x : Int)) rfl rfl
        refine m_putfield (u := []) (u' := [(4, pm_upd (pm_ct K2 4) 3 (x : Int))]) (M := K2) lk_61_61 rfl (lay2.on (by decide) rfl) (fun h => absurd h (by decide)) rfl ?_
        have fM : Fr [4, 5] K2 (Mu [(4, pm_upd (pm_ct K2 4) 3 (x : Int))] K2) := Fr.mu _ _ rfl
        have tb2 := rd2.re.tb tb
        exact nx (Mu [(4, pm_upd (pm_ct K2 4) 3 (x : Int))] K2) lay2 ((fK.trans rd2.re.rw.co).trans fM.rw.co) ((sK.trans rd2.sv).trans (fM.sv (by decide))) (fM.tk45 tk2) ⟨by rw [Mu_ct]; exact tb2.1, by rw [Mu_ct]; exact tb2.2.1, by rw [Mu_ct]; rfl, by rw [Mu_ct]; exact tb2.2.2.2.1, fun j hj => by rw [Mu_ct]; exact tb2.2.2.2.2 j hj⟩ (by rw [fM.ct (by decide), rd2.2 8 (by decide)]; exact f8)
    clear st2 st3
    refine g_aload_n lk_61_0 rfl ?_
    refine m_getfield (u := []) (M := M) lk_61_1 rfl (lay.on (by decide) rfl) (v := 1) f10' ?_
    refine g_iconst lk_61_4 ?_
    refine g_icmp (t := 24) lk_61_5 rfl (by first | (unfold pm_inI; omega) | exact pm_and_in _ _ | exact pm_shr_in _ _ | exact pm_or_in _ _ | exact pm_xor_in _ _ | exact pm_shl_in _ _ | exact pm_cmp_in _ _ | exact pm_b8_in _ | (unfold pm_inI; split <;> omega)) (by first | (unfold pm_inI; omega) | exact pm_and_in _ _ | exact pm_shr_in _ _ | exact pm_or_in _ _ | exact pm_xor_in _ _ | exact pm_shl_in _ _ | exact pm_cmp_in _ _ | exact pm_b8_in _ | (unfold pm_inI; split <;> omega)) (fun h => absurd h (show ¬ (¬ (1 : Int) = (1 : Int)) by omega)) (fun _ => ?_)
    refine g_aload_n lk_61_8 rfl ?_
    refine m_getfield (u := []) (M := M) lk_61_9 rfl (lay.on (by decide) rfl) (v := 70517) f13' ?_
    refine g_ldc lk_61_12 ?_
    refine g_icmp (t := 24) lk_61_14 rfl (by first | (unfold pm_inI; omega) | exact pm_and_in _ _ | exact pm_shr_in _ _ | exact pm_or_in _ _ | exact pm_xor_in _ _ | exact pm_shl_in _ _ | exact pm_cmp_in _ _ | exact pm_b8_in _ | (unfold pm_inI; split <;> omega)) (by first | (unfold pm_inI; omega) | exact pm_and_in _ _ | exact pm_shr_in _ _ | exact pm_or_in _ _ | exact pm_xor_in _ _ | exact pm_shl_in _ _ | exact pm_cmp_in _ _ | exact pm_b8_in _ | (unfold pm_inI; split <;> omega)) (fun h => absurd h (show ¬ (¬ (70517 : Int) = (70517 : Int)) by omega)) (fun _ => ?_)
    refine g_aload_n lk_61_17 rfl ?_
    refine m_getfield (u := []) (M := M) lk_61_18 rfl (lay.on (by decide) rfl) (v := 0) f8' ?_
    refine g_if (t := 30) lk_61_21 rfl (by first | (unfold pm_inI; omega) | exact pm_and_in _ _ | exact pm_shr_in _ _ | exact pm_or_in _ _ | exact pm_xor_in _ _ | exact pm_shl_in _ _ | exact pm_cmp_in _ _ | exact pm_b8_in _ | (unfold pm_inI; split <;> omega)) (fun _ => ?_) (fun h => absurd (show (0 : Int) = (0 : Int) by omega) h)
    refine g_aload_n lk_61_30 rfl ?_
    refine g_iconst lk_61_31 ?_
    have lay1 : Lay (Mu [(2, pm_upd (pm_ct M 2) 8 1)] M) := lay.muF (l := []) (a := 2) (k := 8) (z := 1) rfl rfl
    refine m_putfield (u := []) (u' := [(2, pm_upd (pm_ct M 2) 8 1)]) (M := M) lk_61_32 rfl (lay.on (by decide) rfl) (fun _ => by omega) rfl ?_
    have fM : Fr [2] M (Mu [(2, pm_upd (pm_ct M 2) 8 1)] M) := Fr.mu _ _ rfl
    have fk : ∀ j, j ≠ 8 → pm_ct (Mu [(2, pm_upd (pm_ct M 2) 8 1)] M) 2 j = pm_ct M 2 j := fun j hj => by
      rw [Mu_ct]
      exact pm_upd_ne hj
    exact st1 (Mu [(2, pm_upd (pm_ct M 2) 8 1)] M) lay1 (co_told fM fk) ⟨fk 6 (by omega), fk 7 (by omega)⟩ (by unfold TkX at hT ⊢; rw [fk 10 (by omega), fk 11 (by omega), fk 12 (by omega), fk 9 (by omega), fk 13 (by omega)]; exact hT) (by unfold TbAt at hB ⊢; rw [fM.ct (a := 4) (by decide), fM.ct (a := 4 + 1) (by decide)]; exact hB) (by rw [Mu_ct]; rfl)
  · rw [pCost_no a] at hQ
    by_cases e : t.1 = 1
    · have f10' : pm_ct M 2 10 = 1 := by rw [f10, e]; rfl
      have w3 := (w27_con (hK.lt e)).2.2.1
      have f13' : pm_ct M 2 13 = ((nr 27 (twd ch t) : Nat) : Int) := hT.2.2.2.2 e
      have ws : nr 27 (twd ch t) < 1073741824 := nr_small (b := 27) (by omega) (by omega) (hK.lt e)
      have no : (nr 27 (twd ch t) : Int) = 70517 → ¬ w = 0 := fun k q => a ⟨e, w3.mp k, q⟩
      obtain ⟨v, hv⟩ : ∃ v, v = nr 27 (twd ch t) := ⟨_, rfl⟩
      rw [← hv] at f13' ws no
      have no' : ¬ (v : Int) = 70517 ∨ w = 1 := by
        by_cases q : (v : Int) = 70517
        · exact Or.inr (by have := no q; omega)
        · exact Or.inl q
      clear w3 a no
      refine g_aload_n lk_61_0 rfl ?_
      refine m_getfield (u := []) (M := M) lk_61_1 rfl (lay.on (by decide) rfl) (v := 1) f10' ?_
      refine g_iconst lk_61_4 ?_
      refine g_icmp (t := 24) lk_61_5 rfl (by first | (unfold pm_inI; omega) | exact pm_and_in _ _ | exact pm_shr_in _ _ | exact pm_or_in _ _ | exact pm_xor_in _ _ | exact pm_shl_in _ _ | exact pm_cmp_in _ _ | exact pm_b8_in _ | (unfold pm_inI; split <;> omega)) (by first | (unfold pm_inI; omega) | exact pm_and_in _ _ | exact pm_shr_in _ _ | exact pm_or_in _ _ | exact pm_xor_in _ _ | exact pm_shl_in _ _ | exact pm_cmp_in _ _ | exact pm_b8_in _ | (unfold pm_inI; split <;> omega)) (fun h => absurd h (show ¬ (¬ (1 : Int) = (1 : Int)) by omega)) (fun _ => ?_)
      refine g_aload_n lk_61_8 rfl ?_
      refine m_getfield (u := []) (M := M) lk_61_9 rfl (lay.on (by decide) rfl) (v := (v : Int)) f13' ?_
      refine g_ldc lk_61_12 ?_
      refine g_icmp (t := 24) lk_61_14 rfl (by first | (unfold pm_inI; omega) | exact pm_and_in _ _ | exact pm_shr_in _ _ | exact pm_or_in _ _ | exact pm_xor_in _ _ | exact pm_shl_in _ _ | exact pm_cmp_in _ _ | exact pm_b8_in _ | (unfold pm_inI; split <;> omega)) (by first | (unfold pm_inI; omega) | exact pm_and_in _ _ | exact pm_shr_in _ _ | exact pm_or_in _ _ | exact pm_xor_in _ _ | exact pm_shl_in _ _ | exact pm_cmp_in _ _ | exact pm_b8_in _ | (unfold pm_inI; split <;> omega)) (fun h1 => ?_) (fun h1 => ?_)
      · replace h1 : ¬ (v : Int) = 70517 := h1
        refine g_aload_n lk_61_24 rfl ?_
        refine g_iconst lk_61_25 ?_
        refine g_virtual (p := 2) (Qc := _) lk_61_26 rfl (Nat.le_of_ble_eq_true rfl) rfl rfl (lay.on (by decide) rfl) (Nat.le_of_ble_eq_true rfl) (Nat.le_of_ble_eq_true rfl) (Nat.zero_le _) (Nat.zero_le _) (rf2) ?_
        rintro _ K1 ⟨rfl, lay1, re1, ft1⟩
        show Wp _ 61 29 [(2, ((2 : Nat) : Int))] [(0, 0)] K1 _ _ _
        refine g_ireturn lk_61_29 (fun _ => by omega) ?_
        rw [hQ]
        exact ⟨lay1, re1.rw.co, rfl, ft1⟩
      · replace h1 : ¬ (¬ (v : Int) = 70517) := h1
        refine g_aload_n lk_61_17 rfl ?_
        refine m_getfield (u := []) (M := M) lk_61_18 rfl (lay.on (by decide) rfl) (v := (w : Int)) hw ?_
        refine g_if (t := 30) lk_61_21 rfl (by first | (unfold pm_inI; omega) | exact pm_and_in _ _ | exact pm_shr_in _ _ | exact pm_or_in _ _ | exact pm_xor_in _ _ | exact pm_shl_in _ _ | exact pm_cmp_in _ _ | exact pm_b8_in _ | (unfold pm_inI; split <;> omega)) (fun h2 => ?_) (fun h2 => ?_)
        · replace h2 : (w : Int) = 0 := h2
          omega
        · replace h2 : ¬ ((w : Int) = 0) := h2
          refine g_aload_n lk_61_24 rfl ?_
          refine g_iconst lk_61_25 ?_
          refine g_virtual (p := 2) (Qc := _) lk_61_26 rfl (Nat.le_of_ble_eq_true rfl) rfl rfl (lay.on (by decide) rfl) (Nat.le_of_ble_eq_true rfl) (Nat.le_of_ble_eq_true rfl) (Nat.zero_le _) (Nat.zero_le _) (rf2) ?_
          rintro _ K1 ⟨rfl, lay1, re1, ft1⟩
          show Wp _ 61 29 [(2, ((2 : Nat) : Int))] [(0, 0)] K1 _ _ _
          refine g_ireturn lk_61_29 (fun _ => by omega) ?_
          rw [hQ]
          exact ⟨lay1, re1.rw.co, rfl, ft1⟩
    · obtain ⟨v, hv⟩ : ∃ v, v = t.1 := ⟨_, rfl⟩
      rw [← hv] at f10 t4 e
      clear a
      refine g_aload_n lk_61_0 rfl ?_
      refine m_getfield (u := []) (M := M) lk_61_1 rfl (lay.on (by decide) rfl) (v := (v : Int)) f10 ?_
      refine g_iconst lk_61_4 ?_
      refine g_icmp (t := 24) lk_61_5 rfl (by first | (unfold pm_inI; omega) | exact pm_and_in _ _ | exact pm_shr_in _ _ | exact pm_or_in _ _ | exact pm_xor_in _ _ | exact pm_shl_in _ _ | exact pm_cmp_in _ _ | exact pm_b8_in _ | (unfold pm_inI; split <;> omega)) (by first | (unfold pm_inI; omega) | exact pm_and_in _ _ | exact pm_shr_in _ _ | exact pm_or_in _ _ | exact pm_xor_in _ _ | exact pm_shl_in _ _ | exact pm_cmp_in _ _ | exact pm_b8_in _ | (unfold pm_inI; split <;> omega)) (fun h1 => ?_) (fun h1 => ?_)
      · replace h1 : ¬ (v : Int) = 1 := h1
        refine g_aload_n lk_61_24 rfl ?_
        refine g_iconst lk_61_25 ?_
        refine g_virtual (p := 2) (Qc := _) lk_61_26 rfl (Nat.le_of_ble_eq_true rfl) rfl rfl (lay.on (by decide) rfl) (Nat.le_of_ble_eq_true rfl) (Nat.le_of_ble_eq_true rfl) (Nat.zero_le _) (Nat.zero_le _) (rf2) ?_
        rintro _ K1 ⟨rfl, lay1, re1, ft1⟩
        show Wp _ 61 29 [(2, ((2 : Nat) : Int))] [(0, 0)] K1 _ _ _
        refine g_ireturn lk_61_29 (fun _ => by omega) ?_
        rw [hQ]
        exact ⟨lay1, re1.rw.co, rfl, ft1⟩
      · replace h1 : ¬ (¬ (v : Int) = 1) := h1
        omega
