/-! ===== the end of a tree's line, by the class ===== -/
/-- what reading a tree may change -/
def TeF (M N : pm_M) : Prop := Fr [2, 7, 8, 9, 10, 11, 12, 13, 14, 15, 16, 17, 18, 19, 20, 21, 22, 23] M N ∧ ∀ k, k ∉ [5, 6, 7, 9, 10, 11, 12, 13] → pm_ct N 2 k = pm_ct M 2 k
theorem TeF.refl (M : pm_M) : TeF M M := ⟨Fr.refl _ _, fun _ _ => rfl⟩
theorem TeF.trans {M N K : pm_M} (h : TeF M N) (k : TeF N K) : TeF M K := ⟨h.1.trans k.1, fun j hj => (k.2 j hj).trans (h.2 j hj)⟩
theorem NdF.te {P : Nat} {M N : pm_M} (h : NdF P M N) (h8 : 8 ≤ P) (h2 : P ≤ 20) : TeF M N := ⟨h.1.mono (fun a q => by simp at q ⊢; omega), fun k hk => h.2 k (fun q => hk (by simp at q ⊢; omega))⟩
theorem ReF.te {M N : pm_M} (h : ReF M N) : TeF M N := ⟨h.1.mono (fun a q => by simp at q; simp [q]), fun k hk => h.2 k (fun q => hk (by simp at q ⊢; omega))⟩
theorem TeF.tc {n : Nat} {ch : Nat → Nat} {M N : pm_M} (h : TeF M N) (hM : TcX M n ch) : TcX N n ch := by
  unfold TcX at hM ⊢
  rw [h.2 4 (by decide), h.1.ct (a := 3) (by decide)]; exact hM
set_option maxHeartbeats 4000000 in
theorem c_Reader_tail0 {d mc ms n R C : Nat} {ch : Nat → Nat} {M : pm_M} (lay : Lay M) (r6 : R ≤ 6) (c6 : C ≤ 6) (hM : TcX M n ch) {u : Tok} (hT : TkX M ch u) (hK : TkOK ch n u) (hR : pm_ct M 4 1 = (R : Int)) (hC : pm_ct M 4 2 = (C : Int)) (hm : pm_ct M 2 5 = 0) (v1 : pm_V) (Q : pm_Q)
    (q0 : ∀ e K, pN ch n R C 10 0 0 0 (lxt ch n u.2.2) = .inl e → Lay K → TeF M K → FtX K e → Q (some (0, 0)) K)
    (q1 : ∀ L t1 e K, pN ch n R C 10 0 0 0 (lxt ch n u.2.2) = .inr (L, t1) → pStop ch n t1 = .inl e → Lay K → TeF M K → FtX K e → Q (some (0, 0)) K)
    (q2 : ∀ L t1 t' K, pN ch n R C 10 0 0 0 (lxt ch n u.2.2) = .inr (L, t1) → pStop ch n t1 = .inr t' → Lay K → TeF M K → Fr [2, 8, 9, 10, 11] M K → TkX K ch t' → Sv M K → pm_ct K 2 5 = 0 + 1 → pm_ct K 8 3 = (L.length : Int) → SgAt K 8 0 (L.map (fun y => y.1)) → Q (some (0, 1)) K) :
    Wp (d + 13) 62 90 [(2, ((2 : Nat) : Int)), v1] [] M mc ms Q := by
  have n5 := hM.1
  have ad := c_Reader_advance (d := d + 11) (mc := 0) (ms := 0) lay hM hT.2.2.2.1 hK.2.2.1
  have uk := (lxt_ok (ch := ch) hK.2.2.1 n5).1
  obtain ⟨t0, h0⟩ : ∃ x, x = lxt ch n u.2.2 := ⟨_, rfl⟩
  rw [← h0] at ad uk q0 q1 q2
  have st : ∀ K : pm_M, Lay K → NdF 8 M K → Sv M K → pm_ct K 2 5 = 0 → TkX K ch t0 → pm_ct K 8 3 = 0 → Wp (d + 13) 62 107 [(2, ((2 : Nat) : Int)), v1] [] K mc ms Q := by
    intro K layK fK sK f5 tk c0
    have g := c_Reader_readNode0 (n := n) (ch := ch) r6 c6 10 (d + 12) 0 0 K 0 0 0 t0 (by omega) (by omega) (by omega) layK (fK.tc (by omega) hM) tk uk (by rw [fK.c (by omega) (Or.inr rfl)]; exact hR) (by rw [fK.c (by omega) (Or.inr rfl)]; exact hC) c0 (by omega)
    have t5 : ∀ {A B : pm_M}, NdF 8 A B → pm_ct B 2 5 = pm_ct A 2 5 := fun h => h.2 5 (by decide)
    cases k1 : pN ch n R C 10 0 0 0 t0 with
    | inl e =>
      rw [k1] at g
      refine g_aload_n lk_62_107 rfl ?_
      refine g_aload_n lk_62_108 rfl ?_
      refine g_getfield lk_62_109 rfl (layK.on (by decide) rfl) (v := ((6 : Nat) : Int)) (layK.rf rfl) ?_
      refine g_aload_n lk_62_112 rfl ?_
      refine m_getfield (u := []) (M := K) lk_62_113 rfl (layK.on (by decide) rfl) (v := 0) f5 ?_
      refine g_aaload lk_62_116 (by decide) (layK.ay (by decide) rfl) (by omega) (v := ((8 : Nat) : Int)) (layK.rf rfl) ?_
      refine g_iconst lk_62_117 ?_
      refine g_virtual (p := 2) (Qc := _) lk_62_118 rfl (Nat.le_of_ble_eq_true rfl) rfl rfl (layK.on (by decide) rfl) (Nat.le_of_ble_eq_true rfl) (Nat.le_of_ble_eq_true rfl) (Nat.zero_le _) (Nat.zero_le _) (g) ?_
      rintro _ K1 ⟨lay1, nf1, rfl, ft1⟩
      show Wp _ 62 121 [(2, ((2 : Nat) : Int)), v1] [(0, 0)] K1 _ _ _
      refine g_if (t := 131) lk_62_121 rfl (by first | (unfold pm_inI; omega) | exact pm_and_in _ _ | exact pm_shr_in _ _ | exact pm_or_in _ _ | exact pm_xor_in _ _ | exact pm_shl_in _ _ | exact pm_cmp_in _ _ | exact pm_b8_in _ | (unfold pm_inI; split <;> omega)) (fun _ => ?_) (fun h => absurd (show (0 : Int) = (0 : Int) by omega) h)
      refine g_iconst lk_62_131 ?_
      refine g_ireturn lk_62_132 (fun _ => by omega) ?_
      exact q0 e K1 k1 lay1 ((fK.trans nf1).te (by omega) (by omega)) ft1
    | inr y =>
      obtain ⟨L, t1⟩ := y
      rw [k1] at g
      have o1 := (pN_ok n5 10 uk k1).1
      cases k2 : pStop ch n t1 with
      | inl e =>
        refine g_aload_n lk_62_107 rfl ?_
        refine g_aload_n lk_62_108 rfl ?_
        refine g_getfield lk_62_109 rfl (layK.on (by decide) rfl) (v := ((6 : Nat) : Int)) (layK.rf rfl) ?_
        refine g_aload_n lk_62_112 rfl ?_
        refine m_getfield (u := []) (M := K) lk_62_113 rfl (layK.on (by decide) rfl) (v := 0) f5 ?_
        refine g_aaload lk_62_116 (by decide) (layK.ay (by decide) rfl) (by omega) (v := ((8 : Nat) : Int)) (layK.rf rfl) ?_
        refine g_iconst lk_62_117 ?_
        refine g_virtual (p := 2) (Qc := _) lk_62_118 rfl (Nat.le_of_ble_eq_true rfl) rfl rfl (layK.on (by decide) rfl) (Nat.le_of_ble_eq_true rfl) (Nat.le_of_ble_eq_true rfl) (Nat.zero_le _) (Nat.zero_le _) (g) ?_
        rintro _ K1 ⟨lay1, nf1, rfl, tk1, x1, x2, x3, sv1⟩
        have sp := c_Reader_readStop (d := d + 10) (mc := 0) (ms := 0) lay1 ((fK.trans nf1).tc (by omega) hM) tk1 o1
        rw [k2] at sp
        show Wp _ 62 121 [(2, ((2 : Nat) : Int)), v1] [(0, 1)] K1 _ _ _
        refine g_if (t := 131) lk_62_121 rfl (by first | (unfold pm_inI; omega) | exact pm_and_in _ _ | exact pm_shr_in _ _ | exact pm_or_in _ _ | exact pm_xor_in _ _ | exact pm_shl_in _ _ | exact pm_cmp_in _ _ | exact pm_b8_in _ | (unfold pm_inI; split <;> omega)) (fun h => absurd h (show ¬ ((1 : Int) = (0 : Int)) by omega)) (fun _ => ?_)
        refine g_aload_n lk_62_124 rfl ?_
        refine g_virtual (p := 2) (Qc := _) lk_62_125 rfl (Nat.le_of_ble_eq_true rfl) rfl rfl (lay1.on (by decide) rfl) (Nat.le_of_ble_eq_true rfl) (Nat.le_of_ble_eq_true rfl) (Nat.zero_le _) (Nat.zero_le _) (sp) ?_
        rintro _ K2 ⟨lay2, re2, rfl, ft2⟩
        show Wp _ 62 128 [(2, ((2 : Nat) : Int)), v1] [(0, 0)] K2 _ _ _
        refine g_if (t := 133) lk_62_128 rfl (by first | (unfold pm_inI; omega) | exact pm_and_in _ _ | exact pm_shr_in _ _ | exact pm_or_in _ _ | exact pm_xor_in _ _ | exact pm_shl_in _ _ | exact pm_cmp_in _ _ | exact pm_b8_in _ | (unfold pm_inI; split <;> omega)) (fun h => absurd h (show ¬ (¬ (0 : Int) = (0 : Int)) by omega)) (fun _ => ?_)
        refine g_iconst lk_62_131 ?_
        refine g_ireturn lk_62_132 (fun _ => by omega) ?_
        exact q1 L t1 e K2 k1 k2 lay2 (((fK.trans nf1).trans re2.nd).te (by omega) (by omega)) ft2
      | inr t' =>
        refine g_aload_n lk_62_107 rfl ?_
        refine g_aload_n lk_62_108 rfl ?_
        refine g_getfield lk_62_109 rfl (layK.on (by decide) rfl) (v := ((6 : Nat) : Int)) (layK.rf rfl) ?_
        refine g_aload_n lk_62_112 rfl ?_
        refine m_getfield (u := []) (M := K) lk_62_113 rfl (layK.on (by decide) rfl) (v := 0) f5 ?_
        refine g_aaload lk_62_116 (by decide) (layK.ay (by decide) rfl) (by omega) (v := ((8 : Nat) : Int)) (layK.rf rfl) ?_
        refine g_iconst lk_62_117 ?_
        refine g_virtual (p := 2) (Qc := _) lk_62_118 rfl (Nat.le_of_ble_eq_true rfl) rfl rfl (layK.on (by decide) rfl) (Nat.le_of_ble_eq_true rfl) (Nat.le_of_ble_eq_true rfl) (Nat.zero_le _) (Nat.zero_le _) (g) ?_
        rintro _ K1 ⟨lay1, nf1, rfl, tk1, x1, x2, x3, sv1⟩
        have sp := c_Reader_readStop (d := d + 10) (mc := 0) (ms := 0) lay1 ((fK.trans nf1).tc (by omega) hM) tk1 o1
        rw [k2] at sp
        show Wp _ 62 121 [(2, ((2 : Nat) : Int)), v1] [(0, 1)] K1 _ _ _
        refine g_if (t := 131) lk_62_121 rfl (by first | (unfold pm_inI; omega) | exact pm_and_in _ _ | exact pm_shr_in _ _ | exact pm_or_in _ _ | exact pm_xor_in _ _ | exact pm_shl_in _ _ | exact pm_cmp_in _ _ | exact pm_b8_in _ | (unfold pm_inI; split <;> omega)) (fun h => absurd h (show ¬ ((1 : Int) = (0 : Int)) by omega)) (fun _ => ?_)
        refine g_aload_n lk_62_124 rfl ?_
        refine g_virtual (p := 2) (Qc := _) lk_62_125 rfl (Nat.le_of_ble_eq_true rfl) rfl rfl (lay1.on (by decide) rfl) (Nat.le_of_ble_eq_true rfl) (Nat.le_of_ble_eq_true rfl) (Nat.zero_le _) (Nat.zero_le _) (sp) ?_
        rintro _ K2 ⟨lay2, re2, rfl, tk2, sv2⟩
        have f52 : pm_ct K2 2 5 = 0 := (by rw [t5 (re2.nd (P := 8)), t5 nf1]; exact f5)
        show Wp _ 62 128 [(2, ((2 : Nat) : Int)), v1] [(0, 1)] K2 _ _ _
        refine g_if (t := 133) lk_62_128 rfl (by first | (unfold pm_inI; omega) | exact pm_and_in _ _ | exact pm_shr_in _ _ | exact pm_or_in _ _ | exact pm_xor_in _ _ | exact pm_shl_in _ _ | exact pm_cmp_in _ _ | exact pm_b8_in _ | (unfold pm_inI; split <;> omega)) (fun _ => ?_) (fun h => absurd (show ¬ (1 : Int) = (0 : Int) by omega) h)
        refine g_aload_n lk_62_133 rfl ?_
        refine g_dup lk_62_134 rfl ?_
        refine m_getfield (u := []) (M := K2) lk_62_135 rfl (lay2.on (by decide) rfl) (v := 0) f52 ?_
        refine g_iconst lk_62_138 ?_
        refine g_iadd lk_62_139 ?_
        have lay1 : Lay (Mu [(2, pm_upd (pm_ct K2 2) 5 (0 + 1))] K2) := lay2.muF (l := []) (a := 2) (k := 5) (z := (0 + 1)) rfl rfl
        refine m_putfield (u := []) (u' := [(2, pm_upd (pm_ct K2 2) 5 (0 + 1))]) (M := K2) lk_62_140 rfl (lay2.on (by decide) rfl) (fun h => absurd h (by decide)) rfl ?_
        refine g_iconst lk_62_143 ?_
        refine g_ireturn lk_62_144 (fun _ => by omega) ?_
        have fM : Fr [2] K2 (Mu [(2, pm_upd (pm_ct K2 2) 5 (0 + 1))] K2) := Fr.mu _ _ rfl
        have fk : ∀ j, j ≠ 5 → pm_ct (Mu [(2, pm_upd (pm_ct K2 2) 5 (0 + 1))] K2) 2 j = pm_ct K2 2 j := fun j hj => by
          rw [Mu_ct]
          exact pm_upd_ne hj
        have N2 : NdF 8 M K2 := (fK.trans nf1).trans re2.nd
        have fM' : TeF K2 (Mu [(2, pm_upd (pm_ct K2 2) 5 (0 + 1))] K2) := ⟨fM.mono (fun a q => by simp at q; simp [q]), fun j hj => fk j (fun e => hj (by rw [e]; decide))⟩
        refine q2 L t1 t' (Mu [(2, pm_upd (pm_ct K2 2) 5 (0 + 1))] K2) k1 k2 lay1 ((N2.te (by omega) (by omega)).trans fM') (N2.1.trans (fM.mono (fun a q => by simp at q; simp [q]))) ?_ (((sK.trans sv1).trans sv2).trans ⟨fk 6 (by omega), fk 7 (by omega)⟩) (by rw [Mu_ct]; rfl) ?_ ?_
        · unfold TkX at tk2 ⊢
          rw [fk 10 (by omega), fk 11 (by omega), fk 12 (by omega), fk 9 (by omega), fk 13 (by omega)]; exact tk2
        · rw [fM.ct (by decide), re2.1.ct (by decide), x1]
          rw [Nat.zero_add]
        · intro i y hy
          have := x2 i y hy
          rw [fM.ct (a := 8 + 1) (by decide), fM.ct (a := 8 + 2) (by decide), fM.ct (a := 8 + 3) (by decide), re2.1.ct (a := 8 + 1) (by decide), re2.1.ct (a := 8 + 2) (by decide), re2.1.ct (a := 8 + 3) (by decide)]
          exact this
  refine g_aload_n lk_62_90 rfl ?_
  refine g_virtual (p := 2) (Qc := _) lk_62_91 rfl (Nat.le_of_ble_eq_true rfl) rfl rfl (lay.on (by decide) rfl) (Nat.le_of_ble_eq_true rfl) (Nat.le_of_ble_eq_true rfl) (Nat.zero_le _) (Nat.zero_le _) (ad) ?_
  rintro _ K1 ⟨rfl, lay1, rd1, tk1⟩
  have f51 : pm_ct K1 2 5 = 0 := (by rw [rd1.2 5 (by decide)]; exact hm)
  show Wp _ 62 94 [(2, ((2 : Nat) : Int)), v1] [] K1 _ _ _
  refine g_aload_n lk_62_94 rfl ?_
  refine g_getfield lk_62_95 rfl (lay1.on (by decide) rfl) (v := ((6 : Nat) : Int)) (lay1.rf rfl) ?_
  refine g_aload_n lk_62_98 rfl ?_
  refine m_getfield (u := []) (M := K1) lk_62_99 rfl (lay1.on (by decide) rfl) (v := 0) f51 ?_
  refine g_aaload lk_62_102 (by decide) (lay1.ay (by decide) rfl) (by omega) (v := ((8 : Nat) : Int)) (lay1.rf rfl) ?_
  refine g_iconst lk_62_103 ?_
  have lay1 : Lay (Mu [(8, pm_upd (pm_ct K1 8) 3 0)] K1) := lay1.muF (l := []) (a := 8) (k := 3) (z := 0) rfl rfl
  refine m_putfield (u := []) (u' := [(8, pm_upd (pm_ct K1 8) 3 0)]) (M := K1) lk_62_104 rfl (lay1.on (by decide) rfl) (fun h => absurd h (by decide)) rfl ?_
  have fM : Fr [8] K1 (Mu [(8, pm_upd (pm_ct K1 8) 3 0)] K1) := Fr.mu _ _ rfl
  exact st (Mu [(8, pm_upd (pm_ct K1 8) 3 0)] K1) lay1 (rd1.re.nd.trans ⟨fM.mono (fun a q => by simp at q; simp [q]), fun j _ => by rw [fM.ct (by decide)]⟩) (rd1.sv.trans (fM.sv (by decide))) (by rw [fM.ct (by decide)]; exact f51) (by unfold TkX at tk1 ⊢; rw [fM.ct (by decide)]; exact tk1) (by rw [Mu_ct]; rfl)
set_option maxHeartbeats 4000000 in
theorem c_Reader_tail1 {d mc ms n R C : Nat} {ch : Nat → Nat} {M : pm_M} (lay : Lay M) (r6 : R ≤ 6) (c6 : C ≤ 6) (hM : TcX M n ch) {u : Tok} (hT : TkX M ch u) (hK : TkOK ch n u) (hR : pm_ct M 4 1 = (R : Int)) (hC : pm_ct M 4 2 = (C : Int)) (hm : pm_ct M 2 5 = 1) (v1 : pm_V) (Q : pm_Q)
    (q0 : ∀ e K, pN ch n R C 10 0 0 0 (lxt ch n u.2.2) = .inl e → Lay K → TeF M K → FtX K e → Q (some (0, 0)) K)
    (q1 : ∀ L t1 e K, pN ch n R C 10 0 0 0 (lxt ch n u.2.2) = .inr (L, t1) → pStop ch n t1 = .inl e → Lay K → TeF M K → FtX K e → Q (some (0, 0)) K)
    (q2 : ∀ L t1 t' K, pN ch n R C 10 0 0 0 (lxt ch n u.2.2) = .inr (L, t1) → pStop ch n t1 = .inr t' → Lay K → TeF M K → Fr [2, 12, 13, 14, 15] M K → TkX K ch t' → Sv M K → pm_ct K 2 5 = 1 + 1 → pm_ct K 12 3 = (L.length : Int) → SgAt K 12 0 (L.map (fun y => y.1)) → Q (some (0, 1)) K) :
    Wp (d + 13) 62 90 [(2, ((2 : Nat) : Int)), v1] [] M mc ms Q := by
  have n5 := hM.1
  have ad := c_Reader_advance (d := d + 11) (mc := 0) (ms := 0) lay hM hT.2.2.2.1 hK.2.2.1
  have uk := (lxt_ok (ch := ch) hK.2.2.1 n5).1
  obtain ⟨t0, h0⟩ : ∃ x, x = lxt ch n u.2.2 := ⟨_, rfl⟩
  rw [← h0] at ad uk q0 q1 q2
  have st : ∀ K : pm_M, Lay K → NdF 12 M K → Sv M K → pm_ct K 2 5 = 1 → TkX K ch t0 → pm_ct K 12 3 = 0 → Wp (d + 13) 62 107 [(2, ((2 : Nat) : Int)), v1] [] K mc ms Q := by
    intro K layK fK sK f5 tk c0
    have g := c_Reader_readNode1 (n := n) (ch := ch) r6 c6 10 (d + 12) 0 0 K 0 0 0 t0 (by omega) (by omega) (by omega) layK (fK.tc (by omega) hM) tk uk (by rw [fK.c (by omega) (Or.inr rfl)]; exact hR) (by rw [fK.c (by omega) (Or.inr rfl)]; exact hC) c0 (by omega)
    have t5 : ∀ {A B : pm_M}, NdF 12 A B → pm_ct B 2 5 = pm_ct A 2 5 := fun h => h.2 5 (by decide)
    cases k1 : pN ch n R C 10 0 0 0 t0 with
    | inl e =>
      rw [k1] at g
      refine g_aload_n lk_62_107 rfl ?_
      refine g_aload_n lk_62_108 rfl ?_
      refine g_getfield lk_62_109 rfl (layK.on (by decide) rfl) (v := ((6 : Nat) : Int)) (layK.rf rfl) ?_
      refine g_aload_n lk_62_112 rfl ?_
      refine m_getfield (u := []) (M := K) lk_62_113 rfl (layK.on (by decide) rfl) (v := 1) f5 ?_
      refine g_aaload lk_62_116 (by decide) (layK.ay (by decide) rfl) (by omega) (v := ((12 : Nat) : Int)) (layK.rf rfl) ?_
      refine g_iconst lk_62_117 ?_
      refine g_virtual (p := 2) (Qc := _) lk_62_118 rfl (Nat.le_of_ble_eq_true rfl) rfl rfl (layK.on (by decide) rfl) (Nat.le_of_ble_eq_true rfl) (Nat.le_of_ble_eq_true rfl) (Nat.zero_le _) (Nat.zero_le _) (g) ?_
      rintro _ K1 ⟨lay1, nf1, rfl, ft1⟩
      show Wp _ 62 121 [(2, ((2 : Nat) : Int)), v1] [(0, 0)] K1 _ _ _
      refine g_if (t := 131) lk_62_121 rfl (by first | (unfold pm_inI; omega) | exact pm_and_in _ _ | exact pm_shr_in _ _ | exact pm_or_in _ _ | exact pm_xor_in _ _ | exact pm_shl_in _ _ | exact pm_cmp_in _ _ | exact pm_b8_in _ | (unfold pm_inI; split <;> omega)) (fun _ => ?_) (fun h => absurd (show (0 : Int) = (0 : Int) by omega) h)
      refine g_iconst lk_62_131 ?_
      refine g_ireturn lk_62_132 (fun _ => by omega) ?_
      exact q0 e K1 k1 lay1 ((fK.trans nf1).te (by omega) (by omega)) ft1
    | inr y =>
      obtain ⟨L, t1⟩ := y
      rw [k1] at g
      have o1 := (pN_ok n5 10 uk k1).1
      cases k2 : pStop ch n t1 with
      | inl e =>
        refine g_aload_n lk_62_107 rfl ?_
        refine g_aload_n lk_62_108 rfl ?_
        refine g_getfield lk_62_109 rfl (layK.on (by decide) rfl) (v := ((6 : Nat) : Int)) (layK.rf rfl) ?_
        refine g_aload_n lk_62_112 rfl ?_
        refine m_getfield (u := []) (M := K) lk_62_113 rfl (layK.on (by decide) rfl) (v := 1) f5 ?_
        refine g_aaload lk_62_116 (by decide) (layK.ay (by decide) rfl) (by omega) (v := ((12 : Nat) : Int)) (layK.rf rfl) ?_
        refine g_iconst lk_62_117 ?_
        refine g_virtual (p := 2) (Qc := _) lk_62_118 rfl (Nat.le_of_ble_eq_true rfl) rfl rfl (layK.on (by decide) rfl) (Nat.le_of_ble_eq_true rfl) (Nat.le_of_ble_eq_true rfl) (Nat.zero_le _) (Nat.zero_le _) (g) ?_
        rintro _ K1 ⟨lay1, nf1, rfl, tk1, x1, x2, x3, sv1⟩
        have sp := c_Reader_readStop (d := d + 10) (mc := 0) (ms := 0) lay1 ((fK.trans nf1).tc (by omega) hM) tk1 o1
        rw [k2] at sp
        show Wp _ 62 121 [(2, ((2 : Nat) : Int)), v1] [(0, 1)] K1 _ _ _
        refine g_if (t := 131) lk_62_121 rfl (by first | (unfold pm_inI; omega) | exact pm_and_in _ _ | exact pm_shr_in _ _ | exact pm_or_in _ _ | exact pm_xor_in _ _ | exact pm_shl_in _ _ | exact pm_cmp_in _ _ | exact pm_b8_in _ | (unfold pm_inI; split <;> omega)) (fun h => absurd h (show ¬ ((1 : Int) = (0 : Int)) by omega)) (fun _ => ?_)
        refine g_aload_n lk_62_124 rfl ?_
        refine g_virtual (p := 2) (Qc := _) lk_62_125 rfl (Nat.le_of_ble_eq_true rfl) rfl rfl (lay1.on (by decide) rfl) (Nat.le_of_ble_eq_true rfl) (Nat.le_of_ble_eq_true rfl) (Nat.zero_le _) (Nat.zero_le _) (sp) ?_
        rintro _ K2 ⟨lay2, re2, rfl, ft2⟩
        show Wp _ 62 128 [(2, ((2 : Nat) : Int)), v1] [(0, 0)] K2 _ _ _
        refine g_if (t := 133) lk_62_128 rfl (by first | (unfold pm_inI; omega) | exact pm_and_in _ _ | exact pm_shr_in _ _ | exact pm_or_in _ _ | exact pm_xor_in _ _ | exact pm_shl_in _ _ | exact pm_cmp_in _ _ | exact pm_b8_in _ | (unfold pm_inI; split <;> omega)) (fun h => absurd h (show ¬ (¬ (0 : Int) = (0 : Int)) by omega)) (fun _ => ?_)
        refine g_iconst lk_62_131 ?_
        refine g_ireturn lk_62_132 (fun _ => by omega) ?_
        exact q1 L t1 e K2 k1 k2 lay2 (((fK.trans nf1).trans re2.nd).te (by omega) (by omega)) ft2
      | inr t' =>
        refine g_aload_n lk_62_107 rfl ?_
        refine g_aload_n lk_62_108 rfl ?_
        refine g_getfield lk_62_109 rfl (layK.on (by decide) rfl) (v := ((6 : Nat) : Int)) (layK.rf rfl) ?_
        refine g_aload_n lk_62_112 rfl ?_
        refine m_getfield (u := []) (M := K) lk_62_113 rfl (layK.on (by decide) rfl) (v := 1) f5 ?_
        refine g_aaload lk_62_116 (by decide) (layK.ay (by decide) rfl) (by omega) (v := ((12 : Nat) : Int)) (layK.rf rfl) ?_
        refine g_iconst lk_62_117 ?_
        refine g_virtual (p := 2) (Qc := _) lk_62_118 rfl (Nat.le_of_ble_eq_true rfl) rfl rfl (layK.on (by decide) rfl) (Nat.le_of_ble_eq_true rfl) (Nat.le_of_ble_eq_true rfl) (Nat.zero_le _) (Nat.zero_le _) (g) ?_
        rintro _ K1 ⟨lay1, nf1, rfl, tk1, x1, x2, x3, sv1⟩
        have sp := c_Reader_readStop (d := d + 10) (mc := 0) (ms := 0) lay1 ((fK.trans nf1).tc (by omega) hM) tk1 o1
        rw [k2] at sp
        show Wp _ 62 121 [(2, ((2 : Nat) : Int)), v1] [(0, 1)] K1 _ _ _
        refine g_if (t := 131) lk_62_121 rfl (by first | (unfold pm_inI; omega) | exact pm_and_in _ _ | exact pm_shr_in _ _ | exact pm_or_in _ _ | exact pm_xor_in _ _ | exact pm_shl_in _ _ | exact pm_cmp_in _ _ | exact pm_b8_in _ | (unfold pm_inI; split <;> omega)) (fun h => absurd h (show ¬ ((1 : Int) = (0 : Int)) by omega)) (fun _ => ?_)
        refine g_aload_n lk_62_124 rfl ?_
        refine g_virtual (p := 2) (Qc := _) lk_62_125 rfl (Nat.le_of_ble_eq_true rfl) rfl rfl (lay1.on (by decide) rfl) (Nat.le_of_ble_eq_true rfl) (Nat.le_of_ble_eq_true rfl) (Nat.zero_le _) (Nat.zero_le _) (sp) ?_
        rintro _ K2 ⟨lay2, re2, rfl, tk2, sv2⟩
        have f52 : pm_ct K2 2 5 = 1 := (by rw [t5 (re2.nd (P := 12)), t5 nf1]; exact f5)
        show Wp _ 62 128 [(2, ((2 : Nat) : Int)), v1] [(0, 1)] K2 _ _ _
        refine g_if (t := 133) lk_62_128 rfl (by first | (unfold pm_inI; omega) | exact pm_and_in _ _ | exact pm_shr_in _ _ | exact pm_or_in _ _ | exact pm_xor_in _ _ | exact pm_shl_in _ _ | exact pm_cmp_in _ _ | exact pm_b8_in _ | (unfold pm_inI; split <;> omega)) (fun _ => ?_) (fun h => absurd (show ¬ (1 : Int) = (0 : Int) by omega) h)
        refine g_aload_n lk_62_133 rfl ?_
        refine g_dup lk_62_134 rfl ?_
        refine m_getfield (u := []) (M := K2) lk_62_135 rfl (lay2.on (by decide) rfl) (v := 1) f52 ?_
        refine g_iconst lk_62_138 ?_
        refine g_iadd lk_62_139 ?_
        have lay1 : Lay (Mu [(2, pm_upd (pm_ct K2 2) 5 (1 + 1))] K2) := lay2.muF (l := []) (a := 2) (k := 5) (z := (1 + 1)) rfl rfl
        refine m_putfield (u := []) (u' := [(2, pm_upd (pm_ct K2 2) 5 (1 + 1))]) (M := K2) lk_62_140 rfl (lay2.on (by decide) rfl) (fun h => absurd h (by decide)) rfl ?_
        refine g_iconst lk_62_143 ?_
        refine g_ireturn lk_62_144 (fun _ => by omega) ?_
        have fM : Fr [2] K2 (Mu [(2, pm_upd (pm_ct K2 2) 5 (1 + 1))] K2) := Fr.mu _ _ rfl
        have fk : ∀ j, j ≠ 5 → pm_ct (Mu [(2, pm_upd (pm_ct K2 2) 5 (1 + 1))] K2) 2 j = pm_ct K2 2 j := fun j hj => by
          rw [Mu_ct]
          exact pm_upd_ne hj
        have N2 : NdF 12 M K2 := (fK.trans nf1).trans re2.nd
        have fM' : TeF K2 (Mu [(2, pm_upd (pm_ct K2 2) 5 (1 + 1))] K2) := ⟨fM.mono (fun a q => by simp at q; simp [q]), fun j hj => fk j (fun e => hj (by rw [e]; decide))⟩
        refine q2 L t1 t' (Mu [(2, pm_upd (pm_ct K2 2) 5 (1 + 1))] K2) k1 k2 lay1 ((N2.te (by omega) (by omega)).trans fM') (N2.1.trans (fM.mono (fun a q => by simp at q; simp [q]))) ?_ (((sK.trans sv1).trans sv2).trans ⟨fk 6 (by omega), fk 7 (by omega)⟩) (by rw [Mu_ct]; rfl) ?_ ?_
        · unfold TkX at tk2 ⊢
          rw [fk 10 (by omega), fk 11 (by omega), fk 12 (by omega), fk 9 (by omega), fk 13 (by omega)]; exact tk2
        · rw [fM.ct (by decide), re2.1.ct (by decide), x1]
          rw [Nat.zero_add]
        · intro i y hy
          have := x2 i y hy
          rw [fM.ct (a := 12 + 1) (by decide), fM.ct (a := 12 + 2) (by decide), fM.ct (a := 12 + 3) (by decide), re2.1.ct (a := 12 + 1) (by decide), re2.1.ct (a := 12 + 2) (by decide), re2.1.ct (a := 12 + 3) (by decide)]
          exact this
  refine g_aload_n lk_62_90 rfl ?_
  refine g_virtual (p := 2) (Qc := _) lk_62_91 rfl (Nat.le_of_ble_eq_true rfl) rfl rfl (lay.on (by decide) rfl) (Nat.le_of_ble_eq_true rfl) (Nat.le_of_ble_eq_true rfl) (Nat.zero_le _) (Nat.zero_le _) (ad) ?_
  rintro _ K1 ⟨rfl, lay1, rd1, tk1⟩
  have f51 : pm_ct K1 2 5 = 1 := (by rw [rd1.2 5 (by decide)]; exact hm)
  show Wp _ 62 94 [(2, ((2 : Nat) : Int)), v1] [] K1 _ _ _
  refine g_aload_n lk_62_94 rfl ?_
  refine g_getfield lk_62_95 rfl (lay1.on (by decide) rfl) (v := ((6 : Nat) : Int)) (lay1.rf rfl) ?_
  refine g_aload_n lk_62_98 rfl ?_
  refine m_getfield (u := []) (M := K1) lk_62_99 rfl (lay1.on (by decide) rfl) (v := 1) f51 ?_
  refine g_aaload lk_62_102 (by decide) (lay1.ay (by decide) rfl) (by omega) (v := ((12 : Nat) : Int)) (lay1.rf rfl) ?_
  refine g_iconst lk_62_103 ?_
  have lay1 : Lay (Mu [(12, pm_upd (pm_ct K1 12) 3 0)] K1) := lay1.muF (l := []) (a := 12) (k := 3) (z := 0) rfl rfl
  refine m_putfield (u := []) (u' := [(12, pm_upd (pm_ct K1 12) 3 0)]) (M := K1) lk_62_104 rfl (lay1.on (by decide) rfl) (fun h => absurd h (by decide)) rfl ?_
  have fM : Fr [12] K1 (Mu [(12, pm_upd (pm_ct K1 12) 3 0)] K1) := Fr.mu _ _ rfl
  exact st (Mu [(12, pm_upd (pm_ct K1 12) 3 0)] K1) lay1 (rd1.re.nd.trans ⟨fM.mono (fun a q => by simp at q; simp [q]), fun j _ => by rw [fM.ct (by decide)]⟩) (rd1.sv.trans (fM.sv (by decide))) (by rw [fM.ct (by decide)]; exact f51) (by unfold TkX at tk1 ⊢; rw [fM.ct (by decide)]; exact tk1) (by rw [Mu_ct]; rfl)
set_option maxHeartbeats 4000000 in
theorem c_Reader_tail2 {d mc ms n R C : Nat} {ch : Nat → Nat} {M : pm_M} (lay : Lay M) (r6 : R ≤ 6) (c6 : C ≤ 6) (hM : TcX M n ch) {u : Tok} (hT : TkX M ch u) (hK : TkOK ch n u) (hR : pm_ct M 4 1 = (R : Int)) (hC : pm_ct M 4 2 = (C : Int)) (hm : pm_ct M 2 5 = 2) (v1 : pm_V) (Q : pm_Q)
    (q0 : ∀ e K, pN ch n R C 10 0 0 0 (lxt ch n u.2.2) = .inl e → Lay K → TeF M K → FtX K e → Q (some (0, 0)) K)
    (q1 : ∀ L t1 e K, pN ch n R C 10 0 0 0 (lxt ch n u.2.2) = .inr (L, t1) → pStop ch n t1 = .inl e → Lay K → TeF M K → FtX K e → Q (some (0, 0)) K)
    (q2 : ∀ L t1 t' K, pN ch n R C 10 0 0 0 (lxt ch n u.2.2) = .inr (L, t1) → pStop ch n t1 = .inr t' → Lay K → TeF M K → Fr [2, 16, 17, 18, 19] M K → TkX K ch t' → Sv M K → pm_ct K 2 5 = 2 + 1 → pm_ct K 16 3 = (L.length : Int) → SgAt K 16 0 (L.map (fun y => y.1)) → Q (some (0, 1)) K) :
    Wp (d + 13) 62 90 [(2, ((2 : Nat) : Int)), v1] [] M mc ms Q := by
  have n5 := hM.1
  have ad := c_Reader_advance (d := d + 11) (mc := 0) (ms := 0) lay hM hT.2.2.2.1 hK.2.2.1
  have uk := (lxt_ok (ch := ch) hK.2.2.1 n5).1
  obtain ⟨t0, h0⟩ : ∃ x, x = lxt ch n u.2.2 := ⟨_, rfl⟩
  rw [← h0] at ad uk q0 q1 q2
  have st : ∀ K : pm_M, Lay K → NdF 16 M K → Sv M K → pm_ct K 2 5 = 2 → TkX K ch t0 → pm_ct K 16 3 = 0 → Wp (d + 13) 62 107 [(2, ((2 : Nat) : Int)), v1] [] K mc ms Q := by
    intro K layK fK sK f5 tk c0
    have g := c_Reader_readNode2 (n := n) (ch := ch) r6 c6 10 (d + 12) 0 0 K 0 0 0 t0 (by omega) (by omega) (by omega) layK (fK.tc (by omega) hM) tk uk (by rw [fK.c (by omega) (Or.inr rfl)]; exact hR) (by rw [fK.c (by omega) (Or.inr rfl)]; exact hC) c0 (by omega)
    have t5 : ∀ {A B : pm_M}, NdF 16 A B → pm_ct B 2 5 = pm_ct A 2 5 := fun h => h.2 5 (by decide)
    cases k1 : pN ch n R C 10 0 0 0 t0 with
    | inl e =>
      rw [k1] at g
      refine g_aload_n lk_62_107 rfl ?_
      refine g_aload_n lk_62_108 rfl ?_
      refine g_getfield lk_62_109 rfl (layK.on (by decide) rfl) (v := ((6 : Nat) : Int)) (layK.rf rfl) ?_
      refine g_aload_n lk_62_112 rfl ?_
      refine m_getfield (u := []) (M := K) lk_62_113 rfl (layK.on (by decide) rfl) (v := 2) f5 ?_
      refine g_aaload lk_62_116 (by decide) (layK.ay (by decide) rfl) (by omega) (v := ((16 : Nat) : Int)) (layK.rf rfl) ?_
      refine g_iconst lk_62_117 ?_
      refine g_virtual (p := 2) (Qc := _) lk_62_118 rfl (Nat.le_of_ble_eq_true rfl) rfl rfl (layK.on (by decide) rfl) (Nat.le_of_ble_eq_true rfl) (Nat.le_of_ble_eq_true rfl) (Nat.zero_le _) (Nat.zero_le _) (g) ?_
      rintro _ K1 ⟨lay1, nf1, rfl, ft1⟩
      show Wp _ 62 121 [(2, ((2 : Nat) : Int)), v1] [(0, 0)] K1 _ _ _
      refine g_if (t := 131) lk_62_121 rfl (by first | (unfold pm_inI; omega) | exact pm_and_in _ _ | exact pm_shr_in _ _ | exact pm_or_in _ _ | exact pm_xor_in _ _ | exact pm_shl_in _ _ | exact pm_cmp_in _ _ | exact pm_b8_in _ | (unfold pm_inI; split <;> omega)) (fun _ => ?_) (fun h => absurd (show (0 : Int) = (0 : Int) by omega) h)
      refine g_iconst lk_62_131 ?_
      refine g_ireturn lk_62_132 (fun _ => by omega) ?_
      exact q0 e K1 k1 lay1 ((fK.trans nf1).te (by omega) (by omega)) ft1
    | inr y =>
      obtain ⟨L, t1⟩ := y
      rw [k1] at g
      have o1 := (pN_ok n5 10 uk k1).1
      cases k2 : pStop ch n t1 with
      | inl e =>
        refine g_aload_n lk_62_107 rfl ?_
        refine g_aload_n lk_62_108 rfl ?_
        refine g_getfield lk_62_109 rfl (layK.on (by decide) rfl) (v := ((6 : Nat) : Int)) (layK.rf rfl) ?_
        refine g_aload_n lk_62_112 rfl ?_
        refine m_getfield (u := []) (M := K) lk_62_113 rfl (layK.on (by decide) rfl) (v := 2) f5 ?_
        refine g_aaload lk_62_116 (by decide) (layK.ay (by decide) rfl) (by omega) (v := ((16 : Nat) : Int)) (layK.rf rfl) ?_
        refine g_iconst lk_62_117 ?_
        refine g_virtual (p := 2) (Qc := _) lk_62_118 rfl (Nat.le_of_ble_eq_true rfl) rfl rfl (layK.on (by decide) rfl) (Nat.le_of_ble_eq_true rfl) (Nat.le_of_ble_eq_true rfl) (Nat.zero_le _) (Nat.zero_le _) (g) ?_
        rintro _ K1 ⟨lay1, nf1, rfl, tk1, x1, x2, x3, sv1⟩
        have sp := c_Reader_readStop (d := d + 10) (mc := 0) (ms := 0) lay1 ((fK.trans nf1).tc (by omega) hM) tk1 o1
        rw [k2] at sp
        show Wp _ 62 121 [(2, ((2 : Nat) : Int)), v1] [(0, 1)] K1 _ _ _
        refine g_if (t := 131) lk_62_121 rfl (by first | (unfold pm_inI; omega) | exact pm_and_in _ _ | exact pm_shr_in _ _ | exact pm_or_in _ _ | exact pm_xor_in _ _ | exact pm_shl_in _ _ | exact pm_cmp_in _ _ | exact pm_b8_in _ | (unfold pm_inI; split <;> omega)) (fun h => absurd h (show ¬ ((1 : Int) = (0 : Int)) by omega)) (fun _ => ?_)
        refine g_aload_n lk_62_124 rfl ?_
        refine g_virtual (p := 2) (Qc := _) lk_62_125 rfl (Nat.le_of_ble_eq_true rfl) rfl rfl (lay1.on (by decide) rfl) (Nat.le_of_ble_eq_true rfl) (Nat.le_of_ble_eq_true rfl) (Nat.zero_le _) (Nat.zero_le _) (sp) ?_
        rintro _ K2 ⟨lay2, re2, rfl, ft2⟩
        show Wp _ 62 128 [(2, ((2 : Nat) : Int)), v1] [(0, 0)] K2 _ _ _
        refine g_if (t := 133) lk_62_128 rfl (by first | (unfold pm_inI; omega) | exact pm_and_in _ _ | exact pm_shr_in _ _ | exact pm_or_in _ _ | exact pm_xor_in _ _ | exact pm_shl_in _ _ | exact pm_cmp_in _ _ | exact pm_b8_in _ | (unfold pm_inI; split <;> omega)) (fun h => absurd h (show ¬ (¬ (0 : Int) = (0 : Int)) by omega)) (fun _ => ?_)
        refine g_iconst lk_62_131 ?_
        refine g_ireturn lk_62_132 (fun _ => by omega) ?_
        exact q1 L t1 e K2 k1 k2 lay2 (((fK.trans nf1).trans re2.nd).te (by omega) (by omega)) ft2
      | inr t' =>
        refine g_aload_n lk_62_107 rfl ?_
        refine g_aload_n lk_62_108 rfl ?_
        refine g_getfield lk_62_109 rfl (layK.on (by decide) rfl) (v := ((6 : Nat) : Int)) (layK.rf rfl) ?_
        refine g_aload_n lk_62_112 rfl ?_
        refine m_getfield (u := []) (M := K) lk_62_113 rfl (layK.on (by decide) rfl) (v := 2) f5 ?_
        refine g_aaload lk_62_116 (by decide) (layK.ay (by decide) rfl) (by omega) (v := ((16 : Nat) : Int)) (layK.rf rfl) ?_
        refine g_iconst lk_62_117 ?_
        refine g_virtual (p := 2) (Qc := _) lk_62_118 rfl (Nat.le_of_ble_eq_true rfl) rfl rfl (layK.on (by decide) rfl) (Nat.le_of_ble_eq_true rfl) (Nat.le_of_ble_eq_true rfl) (Nat.zero_le _) (Nat.zero_le _) (g) ?_
        rintro _ K1 ⟨lay1, nf1, rfl, tk1, x1, x2, x3, sv1⟩
        have sp := c_Reader_readStop (d := d + 10) (mc := 0) (ms := 0) lay1 ((fK.trans nf1).tc (by omega) hM) tk1 o1
        rw [k2] at sp
        show Wp _ 62 121 [(2, ((2 : Nat) : Int)), v1] [(0, 1)] K1 _ _ _
        refine g_if (t := 131) lk_62_121 rfl (by first | (unfold pm_inI; omega) | exact pm_and_in _ _ | exact pm_shr_in _ _ | exact pm_or_in _ _ | exact pm_xor_in _ _ | exact pm_shl_in _ _ | exact pm_cmp_in _ _ | exact pm_b8_in _ | (unfold pm_inI; split <;> omega)) (fun h => absurd h (show ¬ ((1 : Int) = (0 : Int)) by omega)) (fun _ => ?_)
        refine g_aload_n lk_62_124 rfl ?_
        refine g_virtual (p := 2) (Qc := _) lk_62_125 rfl (Nat.le_of_ble_eq_true rfl) rfl rfl (lay1.on (by decide) rfl) (Nat.le_of_ble_eq_true rfl) (Nat.le_of_ble_eq_true rfl) (Nat.zero_le _) (Nat.zero_le _) (sp) ?_
        rintro _ K2 ⟨lay2, re2, rfl, tk2, sv2⟩
        have f52 : pm_ct K2 2 5 = 2 := (by rw [t5 (re2.nd (P := 16)), t5 nf1]; exact f5)
        show Wp _ 62 128 [(2, ((2 : Nat) : Int)), v1] [(0, 1)] K2 _ _ _
        refine g_if (t := 133) lk_62_128 rfl (by first | (unfold pm_inI; omega) | exact pm_and_in _ _ | exact pm_shr_in _ _ | exact pm_or_in _ _ | exact pm_xor_in _ _ | exact pm_shl_in _ _ | exact pm_cmp_in _ _ | exact pm_b8_in _ | (unfold pm_inI; split <;> omega)) (fun _ => ?_) (fun h => absurd (show ¬ (1 : Int) = (0 : Int) by omega) h)
        refine g_aload_n lk_62_133 rfl ?_
        refine g_dup lk_62_134 rfl ?_
        refine m_getfield (u := []) (M := K2) lk_62_135 rfl (lay2.on (by decide) rfl) (v := 2) f52 ?_
        refine g_iconst lk_62_138 ?_
        refine g_iadd lk_62_139 ?_
        have lay1 : Lay (Mu [(2, pm_upd (pm_ct K2 2) 5 (2 + 1))] K2) := lay2.muF (l := []) (a := 2) (k := 5) (z := (2 + 1)) rfl rfl
        refine m_putfield (u := []) (u' := [(2, pm_upd (pm_ct K2 2) 5 (2 + 1))]) (M := K2) lk_62_140 rfl (lay2.on (by decide) rfl) (fun h => absurd h (by decide)) rfl ?_
        refine g_iconst lk_62_143 ?_
        refine g_ireturn lk_62_144 (fun _ => by omega) ?_
        have fM : Fr [2] K2 (Mu [(2, pm_upd (pm_ct K2 2) 5 (2 + 1))] K2) := Fr.mu _ _ rfl
        have fk : ∀ j, j ≠ 5 → pm_ct (Mu [(2, pm_upd (pm_ct K2 2) 5 (2 + 1))] K2) 2 j = pm_ct K2 2 j := fun j hj => by
          rw [Mu_ct]
          exact pm_upd_ne hj
        have N2 : NdF 16 M K2 := (fK.trans nf1).trans re2.nd
        have fM' : TeF K2 (Mu [(2, pm_upd (pm_ct K2 2) 5 (2 + 1))] K2) := ⟨fM.mono (fun a q => by simp at q; simp [q]), fun j hj => fk j (fun e => hj (by rw [e]; decide))⟩
        refine q2 L t1 t' (Mu [(2, pm_upd (pm_ct K2 2) 5 (2 + 1))] K2) k1 k2 lay1 ((N2.te (by omega) (by omega)).trans fM') (N2.1.trans (fM.mono (fun a q => by simp at q; simp [q]))) ?_ (((sK.trans sv1).trans sv2).trans ⟨fk 6 (by omega), fk 7 (by omega)⟩) (by rw [Mu_ct]; rfl) ?_ ?_
        · unfold TkX at tk2 ⊢
          rw [fk 10 (by omega), fk 11 (by omega), fk 12 (by omega), fk 9 (by omega), fk 13 (by omega)]; exact tk2
        · rw [fM.ct (by decide), re2.1.ct (by decide), x1]
          rw [Nat.zero_add]
        · intro i y hy
          have := x2 i y hy
          rw [fM.ct (a := 16 + 1) (by decide), fM.ct (a := 16 + 2) (by decide), fM.ct (a := 16 + 3) (by decide), re2.1.ct (a := 16 + 1) (by decide), re2.1.ct (a := 16 + 2) (by decide), re2.1.ct (a := 16 + 3) (by decide)]
          exact this
  refine g_aload_n lk_62_90 rfl ?_
  refine g_virtual (p := 2) (Qc := _) lk_62_91 rfl (Nat.le_of_ble_eq_true rfl) rfl rfl (lay.on (by decide) rfl) (Nat.le_of_ble_eq_true rfl) (Nat.le_of_ble_eq_true rfl) (Nat.zero_le _) (Nat.zero_le _) (ad) ?_
  rintro _ K1 ⟨rfl, lay1, rd1, tk1⟩
  have f51 : pm_ct K1 2 5 = 2 := (by rw [rd1.2 5 (by decide)]; exact hm)
  show Wp _ 62 94 [(2, ((2 : Nat) : Int)), v1] [] K1 _ _ _
  refine g_aload_n lk_62_94 rfl ?_
  refine g_getfield lk_62_95 rfl (lay1.on (by decide) rfl) (v := ((6 : Nat) : Int)) (lay1.rf rfl) ?_
  refine g_aload_n lk_62_98 rfl ?_
  refine m_getfield (u := []) (M := K1) lk_62_99 rfl (lay1.on (by decide) rfl) (v := 2) f51 ?_
  refine g_aaload lk_62_102 (by decide) (lay1.ay (by decide) rfl) (by omega) (v := ((16 : Nat) : Int)) (lay1.rf rfl) ?_
  refine g_iconst lk_62_103 ?_
  have lay1 : Lay (Mu [(16, pm_upd (pm_ct K1 16) 3 0)] K1) := lay1.muF (l := []) (a := 16) (k := 3) (z := 0) rfl rfl
  refine m_putfield (u := []) (u' := [(16, pm_upd (pm_ct K1 16) 3 0)]) (M := K1) lk_62_104 rfl (lay1.on (by decide) rfl) (fun h => absurd h (by decide)) rfl ?_
  have fM : Fr [16] K1 (Mu [(16, pm_upd (pm_ct K1 16) 3 0)] K1) := Fr.mu _ _ rfl
  exact st (Mu [(16, pm_upd (pm_ct K1 16) 3 0)] K1) lay1 (rd1.re.nd.trans ⟨fM.mono (fun a q => by simp at q; simp [q]), fun j _ => by rw [fM.ct (by decide)]⟩) (rd1.sv.trans (fM.sv (by decide))) (by rw [fM.ct (by decide)]; exact f51) (by unfold TkX at tk1 ⊢; rw [fM.ct (by decide)]; exact tk1) (by rw [Mu_ct]; rfl)
set_option maxHeartbeats 4000000 in
theorem c_Reader_tail3 {d mc ms n R C : Nat} {ch : Nat → Nat} {M : pm_M} (lay : Lay M) (r6 : R ≤ 6) (c6 : C ≤ 6) (hM : TcX M n ch) {u : Tok} (hT : TkX M ch u) (hK : TkOK ch n u) (hR : pm_ct M 4 1 = (R : Int)) (hC : pm_ct M 4 2 = (C : Int)) (hm : pm_ct M 2 5 = 3) (v1 : pm_V) (Q : pm_Q)
    (q0 : ∀ e K, pN ch n R C 10 0 0 0 (lxt ch n u.2.2) = .inl e → Lay K → TeF M K → FtX K e → Q (some (0, 0)) K)
    (q1 : ∀ L t1 e K, pN ch n R C 10 0 0 0 (lxt ch n u.2.2) = .inr (L, t1) → pStop ch n t1 = .inl e → Lay K → TeF M K → FtX K e → Q (some (0, 0)) K)
    (q2 : ∀ L t1 t' K, pN ch n R C 10 0 0 0 (lxt ch n u.2.2) = .inr (L, t1) → pStop ch n t1 = .inr t' → Lay K → TeF M K → Fr [2, 20, 21, 22, 23] M K → TkX K ch t' → Sv M K → pm_ct K 2 5 = 3 + 1 → pm_ct K 20 3 = (L.length : Int) → SgAt K 20 0 (L.map (fun y => y.1)) → Q (some (0, 1)) K) :
    Wp (d + 13) 62 90 [(2, ((2 : Nat) : Int)), v1] [] M mc ms Q := by
  have n5 := hM.1
  have ad := c_Reader_advance (d := d + 11) (mc := 0) (ms := 0) lay hM hT.2.2.2.1 hK.2.2.1
  have uk := (lxt_ok (ch := ch) hK.2.2.1 n5).1
  obtain ⟨t0, h0⟩ : ∃ x, x = lxt ch n u.2.2 := ⟨_, rfl⟩
  rw [← h0] at ad uk q0 q1 q2
  have st : ∀ K : pm_M, Lay K → NdF 20 M K → Sv M K → pm_ct K 2 5 = 3 → TkX K ch t0 → pm_ct K 20 3 = 0 → Wp (d + 13) 62 107 [(2, ((2 : Nat) : Int)), v1] [] K mc ms Q := by
    intro K layK fK sK f5 tk c0
    have g := c_Reader_readNode3 (n := n) (ch := ch) r6 c6 10 (d + 12) 0 0 K 0 0 0 t0 (by omega) (by omega) (by omega) layK (fK.tc (by omega) hM) tk uk (by rw [fK.c (by omega) (Or.inr rfl)]; exact hR) (by rw [fK.c (by omega) (Or.inr rfl)]; exact hC) c0 (by omega)
    have t5 : ∀ {A B : pm_M}, NdF 20 A B → pm_ct B 2 5 = pm_ct A 2 5 := fun h => h.2 5 (by decide)
    cases k1 : pN ch n R C 10 0 0 0 t0 with
    | inl e =>
      rw [k1] at g
      refine g_aload_n lk_62_107 rfl ?_
      refine g_aload_n lk_62_108 rfl ?_
      refine g_getfield lk_62_109 rfl (layK.on (by decide) rfl) (v := ((6 : Nat) : Int)) (layK.rf rfl) ?_
      refine g_aload_n lk_62_112 rfl ?_
      refine m_getfield (u := []) (M := K) lk_62_113 rfl (layK.on (by decide) rfl) (v := 3) f5 ?_
      refine g_aaload lk_62_116 (by decide) (layK.ay (by decide) rfl) (by omega) (v := ((20 : Nat) : Int)) (layK.rf rfl) ?_
      refine g_iconst lk_62_117 ?_
      refine g_virtual (p := 2) (Qc := _) lk_62_118 rfl (Nat.le_of_ble_eq_true rfl) rfl rfl (layK.on (by decide) rfl) (Nat.le_of_ble_eq_true rfl) (Nat.le_of_ble_eq_true rfl) (Nat.zero_le _) (Nat.zero_le _) (g) ?_
      rintro _ K1 ⟨lay1, nf1, rfl, ft1⟩
      show Wp _ 62 121 [(2, ((2 : Nat) : Int)), v1] [(0, 0)] K1 _ _ _
      refine g_if (t := 131) lk_62_121 rfl (by first | (unfold pm_inI; omega) | exact pm_and_in _ _ | exact pm_shr_in _ _ | exact pm_or_in _ _ | exact pm_xor_in _ _ | exact pm_shl_in _ _ | exact pm_cmp_in _ _ | exact pm_b8_in _ | (unfold pm_inI; split <;> omega)) (fun _ => ?_) (fun h => absurd (show (0 : Int) = (0 : Int) by omega) h)
      refine g_iconst lk_62_131 ?_
      refine g_ireturn lk_62_132 (fun _ => by omega) ?_
      exact q0 e K1 k1 lay1 ((fK.trans nf1).te (by omega) (by omega)) ft1
    | inr y =>
      obtain ⟨L, t1⟩ := y
      rw [k1] at g
      have o1 := (pN_ok n5 10 uk k1).1
      cases k2 : pStop ch n t1 with
      | inl e =>
        refine g_aload_n lk_62_107 rfl ?_
        refine g_aload_n lk_62_108 rfl ?_
        refine g_getfield lk_62_109 rfl (layK.on (by decide) rfl) (v := ((6 : Nat) : Int)) (layK.rf rfl) ?_
        refine g_aload_n lk_62_112 rfl ?_
        refine m_getfield (u := []) (M := K) lk_62_113 rfl (layK.on (by decide) rfl) (v := 3) f5 ?_
        refine g_aaload lk_62_116 (by decide) (layK.ay (by decide) rfl) (by omega) (v := ((20 : Nat) : Int)) (layK.rf rfl) ?_
        refine g_iconst lk_62_117 ?_
        refine g_virtual (p := 2) (Qc := _) lk_62_118 rfl (Nat.le_of_ble_eq_true rfl) rfl rfl (layK.on (by decide) rfl) (Nat.le_of_ble_eq_true rfl) (Nat.le_of_ble_eq_true rfl) (Nat.zero_le _) (Nat.zero_le _) (g) ?_
        rintro _ K1 ⟨lay1, nf1, rfl, tk1, x1, x2, x3, sv1⟩
        have sp := c_Reader_readStop (d := d + 10) (mc := 0) (ms := 0) lay1 ((fK.trans nf1).tc (by omega) hM) tk1 o1
        rw [k2] at sp
        show Wp _ 62 121 [(2, ((2 : Nat) : Int)), v1] [(0, 1)] K1 _ _ _
        refine g_if (t := 131) lk_62_121 rfl (by first | (unfold pm_inI; omega) | exact pm_and_in _ _ | exact pm_shr_in _ _ | exact pm_or_in _ _ | exact pm_xor_in _ _ | exact pm_shl_in _ _ | exact pm_cmp_in _ _ | exact pm_b8_in _ | (unfold pm_inI; split <;> omega)) (fun h => absurd h (show ¬ ((1 : Int) = (0 : Int)) by omega)) (fun _ => ?_)
        refine g_aload_n lk_62_124 rfl ?_
        refine g_virtual (p := 2) (Qc := _) lk_62_125 rfl (Nat.le_of_ble_eq_true rfl) rfl rfl (lay1.on (by decide) rfl) (Nat.le_of_ble_eq_true rfl) (Nat.le_of_ble_eq_true rfl) (Nat.zero_le _) (Nat.zero_le _) (sp) ?_
        rintro _ K2 ⟨lay2, re2, rfl, ft2⟩
        show Wp _ 62 128 [(2, ((2 : Nat) : Int)), v1] [(0, 0)] K2 _ _ _
        refine g_if (t := 133) lk_62_128 rfl (by first | (unfold pm_inI; omega) | exact pm_and_in _ _ | exact pm_shr_in _ _ | exact pm_or_in _ _ | exact pm_xor_in _ _ | exact pm_shl_in _ _ | exact pm_cmp_in _ _ | exact pm_b8_in _ | (unfold pm_inI; split <;> omega)) (fun h => absurd h (show ¬ (¬ (0 : Int) = (0 : Int)) by omega)) (fun _ => ?_)
        refine g_iconst lk_62_131 ?_
        refine g_ireturn lk_62_132 (fun _ => by omega) ?_
        exact q1 L t1 e K2 k1 k2 lay2 (((fK.trans nf1).trans re2.nd).te (by omega) (by omega)) ft2
      | inr t' =>
        refine g_aload_n lk_62_107 rfl ?_
        refine g_aload_n lk_62_108 rfl ?_
        refine g_getfield lk_62_109 rfl (layK.on (by decide) rfl) (v := ((6 : Nat) : Int)) (layK.rf rfl) ?_
        refine g_aload_n lk_62_112 rfl ?_
        refine m_getfield (u := []) (M := K) lk_62_113 rfl (layK.on (by decide) rfl) (v := 3) f5 ?_
        refine g_aaload lk_62_116 (by decide) (layK.ay (by decide) rfl) (by omega) (v := ((20 : Nat) : Int)) (layK.rf rfl) ?_
        refine g_iconst lk_62_117 ?_
        refine g_virtual (p := 2) (Qc := _) lk_62_118 rfl (Nat.le_of_ble_eq_true rfl) rfl rfl (layK.on (by decide) rfl) (Nat.le_of_ble_eq_true rfl) (Nat.le_of_ble_eq_true rfl) (Nat.zero_le _) (Nat.zero_le _) (g) ?_
        rintro _ K1 ⟨lay1, nf1, rfl, tk1, x1, x2, x3, sv1⟩
        have sp := c_Reader_readStop (d := d + 10) (mc := 0) (ms := 0) lay1 ((fK.trans nf1).tc (by omega) hM) tk1 o1
        rw [k2] at sp
        show Wp _ 62 121 [(2, ((2 : Nat) : Int)), v1] [(0, 1)] K1 _ _ _
        refine g_if (t := 131) lk_62_121 rfl (by first | (unfold pm_inI; omega) | exact pm_and_in _ _ | exact pm_shr_in _ _ | exact pm_or_in _ _ | exact pm_xor_in _ _ | exact pm_shl_in _ _ | exact pm_cmp_in _ _ | exact pm_b8_in _ | (unfold pm_inI; split <;> omega)) (fun h => absurd h (show ¬ ((1 : Int) = (0 : Int)) by omega)) (fun _ => ?_)
        refine g_aload_n lk_62_124 rfl ?_
        refine g_virtual (p := 2) (Qc := _) lk_62_125 rfl (Nat.le_of_ble_eq_true rfl) rfl rfl (lay1.on (by decide) rfl) (Nat.le_of_ble_eq_true rfl) (Nat.le_of_ble_eq_true rfl) (Nat.zero_le _) (Nat.zero_le _) (sp) ?_
        rintro _ K2 ⟨lay2, re2, rfl, tk2, sv2⟩
        have f52 : pm_ct K2 2 5 = 3 := (by rw [t5 (re2.nd (P := 20)), t5 nf1]; exact f5)
        show Wp _ 62 128 [(2, ((2 : Nat) : Int)), v1] [(0, 1)] K2 _ _ _
        refine g_if (t := 133) lk_62_128 rfl (by first | (unfold pm_inI; omega) | exact pm_and_in _ _ | exact pm_shr_in _ _ | exact pm_or_in _ _ | exact pm_xor_in _ _ | exact pm_shl_in _ _ | exact pm_cmp_in _ _ | exact pm_b8_in _ | (unfold pm_inI; split <;> omega)) (fun _ => ?_) (fun h => absurd (show ¬ (1 : Int) = (0 : Int) by omega) h)
        refine g_aload_n lk_62_133 rfl ?_
        refine g_dup lk_62_134 rfl ?_
        refine m_getfield (u := []) (M := K2) lk_62_135 rfl (lay2.on (by decide) rfl) (v := 3) f52 ?_
        refine g_iconst lk_62_138 ?_
        refine g_iadd lk_62_139 ?_
        have lay1 : Lay (Mu [(2, pm_upd (pm_ct K2 2) 5 (3 + 1))] K2) := lay2.muF (l := []) (a := 2) (k := 5) (z := (3 + 1)) rfl rfl
        refine m_putfield (u := []) (u' := [(2, pm_upd (pm_ct K2 2) 5 (3 + 1))]) (M := K2) lk_62_140 rfl (lay2.on (by decide) rfl) (fun h => absurd h (by decide)) rfl ?_
        refine g_iconst lk_62_143 ?_
        refine g_ireturn lk_62_144 (fun _ => by omega) ?_
        have fM : Fr [2] K2 (Mu [(2, pm_upd (pm_ct K2 2) 5 (3 + 1))] K2) := Fr.mu _ _ rfl
        have fk : ∀ j, j ≠ 5 → pm_ct (Mu [(2, pm_upd (pm_ct K2 2) 5 (3 + 1))] K2) 2 j = pm_ct K2 2 j := fun j hj => by
          rw [Mu_ct]
          exact pm_upd_ne hj
        have N2 : NdF 20 M K2 := (fK.trans nf1).trans re2.nd
        have fM' : TeF K2 (Mu [(2, pm_upd (pm_ct K2 2) 5 (3 + 1))] K2) := ⟨fM.mono (fun a q => by simp at q; simp [q]), fun j hj => fk j (fun e => hj (by rw [e]; decide))⟩
        refine q2 L t1 t' (Mu [(2, pm_upd (pm_ct K2 2) 5 (3 + 1))] K2) k1 k2 lay1 ((N2.te (by omega) (by omega)).trans fM') (N2.1.trans (fM.mono (fun a q => by simp at q; simp [q]))) ?_ (((sK.trans sv1).trans sv2).trans ⟨fk 6 (by omega), fk 7 (by omega)⟩) (by rw [Mu_ct]; rfl) ?_ ?_
        · unfold TkX at tk2 ⊢
          rw [fk 10 (by omega), fk 11 (by omega), fk 12 (by omega), fk 9 (by omega), fk 13 (by omega)]; exact tk2
        · rw [fM.ct (by decide), re2.1.ct (by decide), x1]
          rw [Nat.zero_add]
        · intro i y hy
          have := x2 i y hy
          rw [fM.ct (a := 20 + 1) (by decide), fM.ct (a := 20 + 2) (by decide), fM.ct (a := 20 + 3) (by decide), re2.1.ct (a := 20 + 1) (by decide), re2.1.ct (a := 20 + 2) (by decide), re2.1.ct (a := 20 + 3) (by decide)]
          exact this
  refine g_aload_n lk_62_90 rfl ?_
  refine g_virtual (p := 2) (Qc := _) lk_62_91 rfl (Nat.le_of_ble_eq_true rfl) rfl rfl (lay.on (by decide) rfl) (Nat.le_of_ble_eq_true rfl) (Nat.le_of_ble_eq_true rfl) (Nat.zero_le _) (Nat.zero_le _) (ad) ?_
  rintro _ K1 ⟨rfl, lay1, rd1, tk1⟩
  have f51 : pm_ct K1 2 5 = 3 := (by rw [rd1.2 5 (by decide)]; exact hm)
  show Wp _ 62 94 [(2, ((2 : Nat) : Int)), v1] [] K1 _ _ _
  refine g_aload_n lk_62_94 rfl ?_
  refine g_getfield lk_62_95 rfl (lay1.on (by decide) rfl) (v := ((6 : Nat) : Int)) (lay1.rf rfl) ?_
  refine g_aload_n lk_62_98 rfl ?_
  refine m_getfield (u := []) (M := K1) lk_62_99 rfl (lay1.on (by decide) rfl) (v := 3) f51 ?_
  refine g_aaload lk_62_102 (by decide) (lay1.ay (by decide) rfl) (by omega) (v := ((20 : Nat) : Int)) (lay1.rf rfl) ?_
  refine g_iconst lk_62_103 ?_
  have lay1 : Lay (Mu [(20, pm_upd (pm_ct K1 20) 3 0)] K1) := lay1.muF (l := []) (a := 20) (k := 3) (z := 0) rfl rfl
  refine m_putfield (u := []) (u' := [(20, pm_upd (pm_ct K1 20) 3 0)]) (M := K1) lk_62_104 rfl (lay1.on (by decide) rfl) (fun h => absurd h (by decide)) rfl ?_
  have fM : Fr [20] K1 (Mu [(20, pm_upd (pm_ct K1 20) 3 0)] K1) := Fr.mu _ _ rfl
  exact st (Mu [(20, pm_upd (pm_ct K1 20) 3 0)] K1) lay1 (rd1.re.nd.trans ⟨fM.mono (fun a q => by simp at q; simp [q]), fun j _ => by rw [fM.ct (by decide)]⟩) (rd1.sv.trans (fM.sv (by decide))) (by rw [fM.ct (by decide)]; exact f51) (by unfold TkX at tk1 ⊢; rw [fM.ct (by decide)]; exact tk1) (by rw [Mu_ct]; rfl)
