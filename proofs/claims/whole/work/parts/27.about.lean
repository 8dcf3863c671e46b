/-! ===== about, area ===== -/
theorem pop_ones : ∀ n : Fin 7, pop (2 ^ (n : Nat) - 1) = (n : Nat) := by decide +kernel
def sAbout (T : Tab) (tn kp n : Nat) (w : Int) : Int := if w = 0 then (tR T : Int) else if w = 1 then (tC T : Int) else if w = 2 then (tn : Int) else if w = 3 then (kp : Int) else if w = 4 then (n : Int) else if w = 5 then (tA T : Int) else if w = 6 then (tB T : Int) else if w = 7 then (vIn T (2 ^ tR T - 1) (2 ^ tC T - 1) : Int) else if w = 8 then (nV T (2 ^ tR T - 1) (2 ^ tC T - 1) 10 : Int) else -1
set_option maxHeartbeats 4000000 in
theorem c_X_about {d mc ms : Nat} {M : pm_M} (lay : Lay M) {T : Tab} (hT : TabOK T) (hM : TbAt M 24 T) {tn kp n : Nat} (h11 : pm_ct M 1 11 = (tn : Int)) (h12 : pm_ct M 1 12 = (kp : Int)) (h24 : pm_ct M 2 4 = (n : Int)) {w : Int} (hw : pm_inI w) :
    pm_E (d + 5) 123 [(2, ((1 : Nat) : Int)), (0, w)] M mc ms (fun ρ M' => ρ = some (0, sAbout T tn kp n w) ∧ M' = M) := by
  have ht : (24 : Nat) = 4 ∨ (24 : Nat) = 24 := Or.inr rfl
  have hR := tR_64 hT
  have hC := tC_64 hT
  show Wp (d + 5) 123 0 [(2, ((1 : Nat) : Int)), (0, w)] [] M mc ms _
  refine g_iload_n lk_123_0 rfl ?_
  refine g_tsw lk_123_1 (by assumption) (And.intro (fun h1 => ?_) (fun h1 => (And.intro (fun h2 => ?_) (fun h2 => (And.intro (fun h3 => ?_) (fun h3 => (And.intro (fun h4 => ?_) (fun h4 => (And.intro (fun h5 => ?_) (fun h5 => (And.intro (fun h6 => ?_) (fun h6 => (And.intro (fun h7 => ?_) (fun h7 => (And.intro (fun h8 => ?_) (fun h8 => (And.intro (fun h9 => ?_) (fun h9 => ?_))))))))))))))))))
  · replace h1 : w = 0 := h1
    show Wp _ 123 52 [(2, ((1 : Nat) : Int)), (0, w)] [] M _ _ _
    refine g_aload_n lk_123_52 rfl ?_
    refine g_getfield lk_123_53 rfl (lay.on (by decide) rfl) (v := ((24 : Nat) : Int)) (lay.rf rfl) ?_
    refine m_getfield (u := []) (M := M) lk_123_56 rfl (lay.on (by decide) rfl) (v := (tR T : Int)) hM.1 ?_
    refine g_ireturn lk_123_59 (fun h => absurd h (by decide)) ?_
    exact ⟨by unfold sAbout; simp_all, rfl⟩
  · replace h2 : w = 1 := h2
    show Wp _ 123 60 [(2, ((1 : Nat) : Int)), (0, w)] [] M _ _ _
    refine g_aload_n lk_123_60 rfl ?_
    refine g_getfield lk_123_61 rfl (lay.on (by decide) rfl) (v := ((24 : Nat) : Int)) (lay.rf rfl) ?_
    refine m_getfield (u := []) (M := M) lk_123_64 rfl (lay.on (by decide) rfl) (v := (tC T : Int)) hM.2.1 ?_
    refine g_ireturn lk_123_67 (fun h => absurd h (by decide)) ?_
    exact ⟨by unfold sAbout; simp_all, rfl⟩
  · replace h3 : w = 2 := h3
    show Wp _ 123 68 [(2, ((1 : Nat) : Int)), (0, w)] [] M _ _ _
    refine g_aload_n lk_123_68 rfl ?_
    refine m_getfield (u := []) (M := M) lk_123_69 rfl (lay.on (by decide) rfl) (v := (tn : Int)) h11 ?_
    refine g_ireturn lk_123_72 (fun h => absurd h (by decide)) ?_
    exact ⟨by unfold sAbout; simp_all, rfl⟩
  · replace h4 : w = 3 := h4
    show Wp _ 123 73 [(2, ((1 : Nat) : Int)), (0, w)] [] M _ _ _
    refine g_aload_n lk_123_73 rfl ?_
    refine m_getfield (u := []) (M := M) lk_123_74 rfl (lay.on (by decide) rfl) (v := (kp : Int)) h12 ?_
    refine g_ireturn lk_123_77 (fun h => absurd h (by decide)) ?_
    exact ⟨by unfold sAbout; simp_all, rfl⟩
  · replace h5 : w = 4 := h5
    show Wp _ 123 78 [(2, ((1 : Nat) : Int)), (0, w)] [] M _ _ _
    refine g_aload_n lk_123_78 rfl ?_
    refine g_getfield lk_123_79 rfl (lay.on (by decide) rfl) (v := ((2 : Nat) : Int)) (lay.rf rfl) ?_
    refine m_getfield (u := []) (M := M) lk_123_82 rfl (lay.on (by decide) rfl) (v := (n : Int)) h24 ?_
    refine g_ireturn lk_123_85 (fun h => absurd h (by decide)) ?_
    exact ⟨by unfold sAbout; simp_all, rfl⟩
  · replace h6 : w = 5 := h6
    show Wp _ 123 86 [(2, ((1 : Nat) : Int)), (0, w)] [] M _ _ _
    refine g_aload_n lk_123_86 rfl ?_
    refine g_getfield lk_123_87 rfl (lay.on (by decide) rfl) (v := ((24 : Nat) : Int)) (lay.rf rfl) ?_
    refine m_getfield (u := []) (M := M) lk_123_90 rfl (lay.on (by decide) rfl) (v := (tA T : Int)) hM.2.2.1 ?_
    refine g_ireturn lk_123_93 (fun h => absurd h (by decide)) ?_
    exact ⟨by unfold sAbout; simp_all, rfl⟩
  · replace h7 : w = 6 := h7
    show Wp _ 123 94 [(2, ((1 : Nat) : Int)), (0, w)] [] M _ _ _
    refine g_aload_n lk_123_94 rfl ?_
    refine g_getfield lk_123_95 rfl (lay.on (by decide) rfl) (v := ((24 : Nat) : Int)) (lay.rf rfl) ?_
    refine m_getfield (u := []) (M := M) lk_123_98 rfl (lay.on (by decide) rfl) (v := (tB T : Int)) hM.2.2.2.1 ?_
    refine g_ireturn lk_123_101 (fun h => absurd h (by decide)) ?_
    exact ⟨by unfold sAbout; simp_all, rfl⟩
  · replace h8 : w = 7 := h8
    show Wp _ 123 102 [(2, ((1 : Nat) : Int)), (0, w)] [] M _ _ _
    refine g_aload_n lk_123_102 rfl ?_
    refine g_getfield lk_123_103 rfl (lay.on (by decide) rfl) (v := ((24 : Nat) : Int)) (lay.rf rfl) ?_
    refine g_aload_n lk_123_106 rfl ?_
    refine g_getfield lk_123_107 rfl (lay.on (by decide) rfl) (v := ((24 : Nat) : Int)) (lay.rf rfl) ?_
    refine g_virtual (p := 24) (Qc := _) lk_123_110 rfl (Nat.le_of_ble_eq_true rfl) rfl rfl (lay.on (by decide) rfl) (Nat.le_of_ble_eq_true rfl) (Nat.le_of_ble_eq_true rfl) (Nat.zero_le _) (Nat.zero_le _) (c_Table_allRows lay ht hT hM) ?_
    rintro _ N11 ⟨rfl, hN11⟩
    rw [hN11]
    show Wp _ 123 113 [(2, ((1 : Nat) : Int)), (0, w)] [(0, ((2 ^ tR T - 1 : Nat) : Int)), (2, ((24 : Nat) : Int))] M _ _ _
    refine g_aload_n lk_123_113 rfl ?_
    refine g_getfield lk_123_114 rfl (lay.on (by decide) rfl) (v := ((24 : Nat) : Int)) (lay.rf rfl) ?_
    refine g_virtual (p := 24) (Qc := _) lk_123_117 rfl (Nat.le_of_ble_eq_true rfl) rfl rfl (lay.on (by decide) rfl) (Nat.le_of_ble_eq_true rfl) (Nat.le_of_ble_eq_true rfl) (Nat.zero_le _) (Nat.zero_le _) (c_Table_allColumns lay ht hT hM) ?_
    rintro _ N12 ⟨rfl, hN12⟩
    rw [hN12]
    show Wp _ 123 120 [(2, ((1 : Nat) : Int)), (0, w)] [(0, ((2 ^ tC T - 1 : Nat) : Int)), (0, ((2 ^ tR T - 1 : Nat) : Int)), (2, ((24 : Nat) : Int))] M _ _ _
    refine g_virtual (p := 24) (Qc := _) lk_123_120 rfl (Nat.le_of_ble_eq_true rfl) rfl rfl (lay.on (by decide) rfl) (Nat.le_of_ble_eq_true rfl) (Nat.le_of_ble_eq_true rfl) (Nat.zero_le _) (Nat.zero_le _) (c_Table_valuesIn lay ht hT hM hR hC) ?_
    rintro _ N13 ⟨rfl, hN13⟩
    rw [hN13]
    show Wp _ 123 123 [(2, ((1 : Nat) : Int)), (0, w)] [(0, ((vIn T (2 ^ tR T - 1) (2 ^ tC T - 1) : Nat) : Int))] M _ _ _
    refine g_ireturn lk_123_123 (fun h => absurd h (by decide)) ?_
    exact ⟨by unfold sAbout; simp_all, rfl⟩
  · replace h9 : w = 8 := h9
    show Wp _ 123 124 [(2, ((1 : Nat) : Int)), (0, w)] [] M _ _ _
    refine g_aload_n lk_123_124 rfl ?_
    refine g_getfield lk_123_125 rfl (lay.on (by decide) rfl) (v := ((24 : Nat) : Int)) (lay.rf rfl) ?_
    refine m_getfield (u := []) (M := M) lk_123_128 rfl (lay.on (by decide) rfl) (v := (tR T : Int)) hM.1 ?_
    refine g_aload_n lk_123_131 rfl ?_
    refine g_getfield lk_123_132 rfl (lay.on (by decide) rfl) (v := ((24 : Nat) : Int)) (lay.rf rfl) ?_
    refine m_getfield (u := []) (M := M) lk_123_135 rfl (lay.on (by decide) rfl) (v := (tC T : Int)) hM.2.1 ?_
    refine g_imul lk_123_138 ?_
    refine g_aload_n lk_123_139 rfl ?_
    refine g_getfield lk_123_140 rfl (lay.on (by decide) rfl) (v := ((24 : Nat) : Int)) (lay.rf rfl) ?_
    refine g_aload_n lk_123_143 rfl ?_
    refine g_getfield lk_123_144 rfl (lay.on (by decide) rfl) (v := ((24 : Nat) : Int)) (lay.rf rfl) ?_
    refine g_virtual (p := 24) (Qc := _) lk_123_147 rfl (Nat.le_of_ble_eq_true rfl) rfl rfl (lay.on (by decide) rfl) (Nat.le_of_ble_eq_true rfl) (Nat.le_of_ble_eq_true rfl) (Nat.zero_le _) (Nat.zero_le _) (c_Table_allRows lay ht hT hM) ?_
    rintro _ N14 ⟨rfl, hN14⟩
    rw [hN14]
    show Wp _ 123 150 [(2, ((1 : Nat) : Int)), (0, w)] [(0, ((2 ^ tR T - 1 : Nat) : Int)), (2, ((24 : Nat) : Int)), (0, ((tR T : Int) * (tC T : Int)))] M _ _ _
    refine g_aload_n lk_123_150 rfl ?_
    refine g_getfield lk_123_151 rfl (lay.on (by decide) rfl) (v := ((24 : Nat) : Int)) (lay.rf rfl) ?_
    refine g_virtual (p := 24) (Qc := _) lk_123_154 rfl (Nat.le_of_ble_eq_true rfl) rfl rfl (lay.on (by decide) rfl) (Nat.le_of_ble_eq_true rfl) (Nat.le_of_ble_eq_true rfl) (Nat.zero_le _) (Nat.zero_le _) (c_Table_allColumns lay ht hT hM) ?_
    rintro _ N15 ⟨rfl, hN15⟩
    rw [hN15]
    show Wp _ 123 157 [(2, ((1 : Nat) : Int)), (0, w)] [(0, ((2 ^ tC T - 1 : Nat) : Int)), (0, ((2 ^ tR T - 1 : Nat) : Int)), (2, ((24 : Nat) : Int)), (0, ((tR T : Int) * (tC T : Int)))] M _ _ _
    refine g_virtual (p := 24) (Qc := _) lk_123_157 rfl (Nat.le_of_ble_eq_true rfl) rfl rfl (lay.on (by decide) rfl) (Nat.le_of_ble_eq_true rfl) (Nat.le_of_ble_eq_true rfl) (Nat.zero_le _) (Nat.zero_le _) (c_Table_filledIn lay ht hT hM hR hC) ?_
    rintro _ N16 ⟨rfl, hN16⟩
    rw [hN16]
    show Wp _ 123 160 [(2, ((1 : Nat) : Int)), (0, w)] [(0, ((uIn T (2 ^ tR T - 1) (2 ^ tC T - 1) 10 (tR T) : Nat) : Int)), (0, ((tR T : Int) * (tC T : Int)))] M _ _ _
    refine g_isub lk_123_160 ?_
    refine g_ireturn lk_123_161 (fun h => absurd h (by decide)) ?_
    refine ⟨?_, rfl⟩
    have e1 := pop_area hT (rs := 2 ^ tR T - 1) (cs := 2 ^ tC T - 1) (by have : 1 ≤ 2 ^ tR T := Nat.one_le_two_pow; omega) (by have : 1 ≤ 2 ^ tC T := Nat.one_le_two_pow; omega)
    have e2 := pop_ones ⟨tR T, by have := hT.1; omega⟩
    have e3 := pop_ones ⟨tC T, by have := hT.2.1; omega⟩
    have e4 := uIn_nU hT (rs := 2 ^ tR T - 1) (v := 10) hC
    rw [nU_10] at e4
    rw [e2, e3] at e1
    have e1 : tR T * tC T = nA T (2 ^ tR T - 1) (2 ^ tC T - 1) + nV T (2 ^ tR T - 1) (2 ^ tC T - 1) 10 := e1
    have e5 : ((tR T : Nat) : Int) * ((tC T : Nat) : Int) - ((uIn T (2 ^ tR T - 1) (2 ^ tC T - 1) 10 (tR T) : Nat) : Int) = (nV T (2 ^ tR T - 1) (2 ^ tC T - 1) 10 : Int) := by
      rw [← Int.natCast_mul, e1, e4]; omega
    rw [e5]
    unfold sAbout
    simp_all
  · show Wp _ 123 162 [(2, ((1 : Nat) : Int)), (0, w)] [] M _ _ _
    replace h1 : ¬ w = 0 := h1
    replace h2 : ¬ w = 1 := h2
    replace h3 : ¬ w = 2 := h3
    replace h4 : ¬ w = 3 := h4
    replace h5 : ¬ w = 4 := h5
    replace h6 : ¬ w = 5 := h6
    replace h7 : ¬ w = 6 := h7
    replace h8 : ¬ w = 7 := h8
    replace h9 : ¬ w = 8 := h9
    refine g_iconst lk_123_162 ?_
    refine g_ireturn lk_123_163 (fun h => absurd h (by decide)) ?_
    exact ⟨by unfold sAbout; simp_all, rfl⟩
set_option maxHeartbeats 4000000 in
theorem c_Mo_about {d mc ms : Nat} {M : pm_M} (lay : Lay M) {T : Tab} (hT : TabOK T) (hM0 : MoAt M T) {tn kp n : Nat} (h11 : pm_ct M 116 3 = (tn : Int)) (h12 : pm_ct M 116 70 = (kp : Int)) (h24 : pm_ct M 116 23 = (n : Int)) {w : Int} (hw : pm_inI w) :
    pm_E (d + 2) 203 [(2, ((116 : Nat) : Int)), (0, w)] M mc ms (fun ρ M' => ρ = some (0, sAbout T tn kp n w) ∧ Lay M' ∧ M' = Mu [(116, pm_upd (pm_ct M 116) 0 0)] M) := by
  have hM : MoAt (Mu [(116, pm_upd (pm_ct M 116) 0 0)] M) T := hM0
  have hR := tR_64 hT
  have hC := tC_64 hT
  show Wp (d + 2) 203 0 [(2, ((116 : Nat) : Int)), (0, w)] [] M mc ms _
  refine g_aload_n lk_203_0 rfl ?_
  refine g_iconst lk_203_1 ?_
  have lay1 : Lay (Mu [(116, pm_upd (pm_ct M 116) 0 0)] M) := lay.muF (l := []) (a := 116) (k := 0) (z := 0) rfl rfl
  refine m_putfield (u := []) (u' := [(116, pm_upd (pm_ct M 116) 0 0)]) (M := M) lk_203_2 rfl (lay.on (by decide) rfl) (fun h => absurd h (by decide)) rfl ?_
  refine g_iload_n lk_203_5 rfl ?_
  refine g_tsw lk_203_6 (by assumption) (And.intro (fun h2 => ?_) (fun h2 => (And.intro (fun h3 => ?_) (fun h3 => (And.intro (fun h4 => ?_) (fun h4 => (And.intro (fun h5 => ?_) (fun h5 => (And.intro (fun h6 => ?_) (fun h6 => (And.intro (fun h7 => ?_) (fun h7 => (And.intro (fun h8 => ?_) (fun h8 => (And.intro (fun h9 => ?_) (fun h9 => (And.intro (fun h10 => ?_) (fun h10 => ?_))))))))))))))))))
  · replace h2 : w = 0 := h2
    show Wp _ 203 56 [(2, ((116 : Nat) : Int)), (0, w)] [] (Mu [(116, pm_upd (pm_ct M 116) 0 0)] M) _ _ _
    refine g_aload_n lk_203_56 rfl ?_
    refine m_getfield (u := [(116, pm_upd (pm_ct M 116) 0 0)]) (M := M) lk_203_57 rfl (lay1.on (by decide) rfl) (v := (tR T : Int)) hM.1 ?_
    refine g_ireturn lk_203_60 (fun h => absurd h (by decide)) ?_
    exact ⟨by unfold sAbout; simp_all, lay1, rfl⟩
  · replace h3 : w = 1 := h3
    show Wp _ 203 61 [(2, ((116 : Nat) : Int)), (0, w)] [] (Mu [(116, pm_upd (pm_ct M 116) 0 0)] M) _ _ _
    refine g_aload_n lk_203_61 rfl ?_
    refine m_getfield (u := [(116, pm_upd (pm_ct M 116) 0 0)]) (M := M) lk_203_62 rfl (lay1.on (by decide) rfl) (v := (tC T : Int)) hM.2.1 ?_
    refine g_ireturn lk_203_65 (fun h => absurd h (by decide)) ?_
    exact ⟨by unfold sAbout; simp_all, lay1, rfl⟩
  · replace h4 : w = 2 := h4
    show Wp _ 203 66 [(2, ((116 : Nat) : Int)), (0, w)] [] (Mu [(116, pm_upd (pm_ct M 116) 0 0)] M) _ _ _
    refine g_aload_n lk_203_66 rfl ?_
    refine m_getfield (u := [(116, pm_upd (pm_ct M 116) 0 0)]) (M := M) lk_203_67 rfl (lay1.on (by decide) rfl) (v := (tn : Int)) h11 ?_
    refine g_ireturn lk_203_70 (fun h => absurd h (by decide)) ?_
    exact ⟨by unfold sAbout; simp_all, lay1, rfl⟩
  · replace h5 : w = 3 := h5
    show Wp _ 203 71 [(2, ((116 : Nat) : Int)), (0, w)] [] (Mu [(116, pm_upd (pm_ct M 116) 0 0)] M) _ _ _
    refine g_aload_n lk_203_71 rfl ?_
    refine m_getfield (u := [(116, pm_upd (pm_ct M 116) 0 0)]) (M := M) lk_203_72 rfl (lay1.on (by decide) rfl) (v := (kp : Int)) h12 ?_
    refine g_ireturn lk_203_75 (fun h => absurd h (by decide)) ?_
    exact ⟨by unfold sAbout; simp_all, lay1, rfl⟩
  · replace h6 : w = 4 := h6
    show Wp _ 203 76 [(2, ((116 : Nat) : Int)), (0, w)] [] (Mu [(116, pm_upd (pm_ct M 116) 0 0)] M) _ _ _
    refine g_aload_n lk_203_76 rfl ?_
    refine m_getfield (u := [(116, pm_upd (pm_ct M 116) 0 0)]) (M := M) lk_203_77 rfl (lay1.on (by decide) rfl) (v := (n : Int)) h24 ?_
    refine g_ireturn lk_203_80 (fun h => absurd h (by decide)) ?_
    exact ⟨by unfold sAbout; simp_all, lay1, rfl⟩
  · replace h7 : w = 5 := h7
    show Wp _ 203 81 [(2, ((116 : Nat) : Int)), (0, w)] [] (Mu [(116, pm_upd (pm_ct M 116) 0 0)] M) _ _ _
    refine g_aload_n lk_203_81 rfl ?_
    refine g_getfield lk_203_82 rfl (lay1.on (by decide) rfl) (v := ((120 : Nat) : Int)) (lay1.rf rfl) ?_
    refine g_iconst lk_203_85 ?_
    refine m_iaload (u := [(116, pm_upd (pm_ct M 116) 0 0)]) (M := M) lk_203_86 (lay1.ay (by decide) rfl) (by omega) (j := 1) (by omega) (v := (tA T : Int)) hM.2.2.1 ?_
    refine g_ireturn lk_203_87 (fun h => absurd h (by decide)) ?_
    exact ⟨by unfold sAbout; simp_all, lay1, rfl⟩
  · replace h8 : w = 6 := h8
    show Wp _ 203 88 [(2, ((116 : Nat) : Int)), (0, w)] [] (Mu [(116, pm_upd (pm_ct M 116) 0 0)] M) _ _ _
    refine g_aload_n lk_203_88 rfl ?_
    refine g_getfield lk_203_89 rfl (lay1.on (by decide) rfl) (v := ((120 : Nat) : Int)) (lay1.rf rfl) ?_
    refine g_iconst lk_203_92 ?_
    refine m_iaload (u := [(116, pm_upd (pm_ct M 116) 0 0)]) (M := M) lk_203_93 (lay1.ay (by decide) rfl) (by omega) (j := 2) (by omega) (v := (tB T : Int)) hM.2.2.2.1 ?_
    refine g_ireturn lk_203_94 (fun h => absurd h (by decide)) ?_
    exact ⟨by unfold sAbout; simp_all, lay1, rfl⟩
  · replace h9 : w = 7 := h9
    show Wp _ 203 95 [(2, ((116 : Nat) : Int)), (0, w)] [] (Mu [(116, pm_upd (pm_ct M 116) 0 0)] M) _ _ _
    refine g_aload_n lk_203_95 rfl ?_
    refine g_aload_n lk_203_96 rfl ?_
    refine g_virtual (p := 116) (Qc := _) lk_203_97 rfl (Nat.le_of_ble_eq_true rfl) rfl rfl (lay1.on (by decide) rfl) (Nat.le_of_ble_eq_true rfl) (Nat.le_of_ble_eq_true rfl) (Nat.zero_le _) (Nat.zero_le _) (c_Mo_allRows lay1 hT hM) ?_
    rintro _ N12 ⟨rfl, hN12⟩
    rw [hN12]
    show Wp _ 203 100 [(2, ((116 : Nat) : Int)), (0, w)] [(0, ((2 ^ tR T - 1 : Nat) : Int)), (2, ((116 : Nat) : Int))] (Mu [(116, pm_upd (pm_ct M 116) 0 0)] M) _ _ _
    refine g_aload_n lk_203_100 rfl ?_
    refine g_virtual (p := 116) (Qc := _) lk_203_101 rfl (Nat.le_of_ble_eq_true rfl) rfl rfl (lay1.on (by decide) rfl) (Nat.le_of_ble_eq_true rfl) (Nat.le_of_ble_eq_true rfl) (Nat.zero_le _) (Nat.zero_le _) (c_Mo_allColumns lay1 hT hM) ?_
    rintro _ N13 ⟨rfl, hN13⟩
    rw [hN13]
    show Wp _ 203 104 [(2, ((116 : Nat) : Int)), (0, w)] [(0, ((2 ^ tC T - 1 : Nat) : Int)), (0, ((2 ^ tR T - 1 : Nat) : Int)), (2, ((116 : Nat) : Int))] (Mu [(116, pm_upd (pm_ct M 116) 0 0)] M) _ _ _
    refine g_virtual (p := 116) (Qc := _) lk_203_104 rfl (Nat.le_of_ble_eq_true rfl) rfl rfl (lay1.on (by decide) rfl) (Nat.le_of_ble_eq_true rfl) (Nat.le_of_ble_eq_true rfl) (Nat.zero_le _) (Nat.zero_le _) (c_Mo_valuesIn lay1 hT hM hR hC) ?_
    rintro _ N14 ⟨rfl, hN14⟩
    rw [hN14]
    show Wp _ 203 107 [(2, ((116 : Nat) : Int)), (0, w)] [(0, ((vIn T (2 ^ tR T - 1) (2 ^ tC T - 1) : Nat) : Int))] (Mu [(116, pm_upd (pm_ct M 116) 0 0)] M) _ _ _
    refine g_ireturn lk_203_107 (fun h => absurd h (by decide)) ?_
    exact ⟨by unfold sAbout; simp_all, lay1, rfl⟩
  · replace h10 : w = 8 := h10
    show Wp _ 203 108 [(2, ((116 : Nat) : Int)), (0, w)] [] (Mu [(116, pm_upd (pm_ct M 116) 0 0)] M) _ _ _
    refine g_aload_n lk_203_108 rfl ?_
    refine g_aload_n lk_203_109 rfl ?_
    refine g_virtual (p := 116) (Qc := _) lk_203_110 rfl (Nat.le_of_ble_eq_true rfl) rfl rfl (lay1.on (by decide) rfl) (Nat.le_of_ble_eq_true rfl) (Nat.le_of_ble_eq_true rfl) (Nat.zero_le _) (Nat.zero_le _) (c_Mo_allRows lay1 hT hM) ?_
    rintro _ N15 ⟨rfl, hN15⟩
    rw [hN15]
    show Wp _ 203 113 [(2, ((116 : Nat) : Int)), (0, w)] [(0, ((2 ^ tR T - 1 : Nat) : Int)), (2, ((116 : Nat) : Int))] (Mu [(116, pm_upd (pm_ct M 116) 0 0)] M) _ _ _
    refine g_aload_n lk_203_113 rfl ?_
    refine g_virtual (p := 116) (Qc := _) lk_203_114 rfl (Nat.le_of_ble_eq_true rfl) rfl rfl (lay1.on (by decide) rfl) (Nat.le_of_ble_eq_true rfl) (Nat.le_of_ble_eq_true rfl) (Nat.zero_le _) (Nat.zero_le _) (c_Mo_allColumns lay1 hT hM) ?_
    rintro _ N16 ⟨rfl, hN16⟩
    rw [hN16]
    show Wp _ 203 117 [(2, ((116 : Nat) : Int)), (0, w)] [(0, ((2 ^ tC T - 1 : Nat) : Int)), (0, ((2 ^ tR T - 1 : Nat) : Int)), (2, ((116 : Nat) : Int))] (Mu [(116, pm_upd (pm_ct M 116) 0 0)] M) _ _ _
    refine g_bipush lk_203_117 ?_
    refine g_virtual (p := 116) (Qc := _) lk_203_119 rfl (Nat.le_of_ble_eq_true rfl) rfl rfl (lay1.on (by decide) rfl) (Nat.le_of_ble_eq_true rfl) (Nat.le_of_ble_eq_true rfl) (Nat.zero_le _) (Nat.zero_le _) (c_Mo_countIn (v := 10) lay1 hT hM hR hC (by omega)) ?_
    rintro _ N17 ⟨rfl, hN17⟩
    rw [hN17]
    show Wp _ 203 122 [(2, ((116 : Nat) : Int)), (0, w)] [(0, (cIn T (2 ^ tR T - 1) (2 ^ tC T - 1) 10 : Int))] (Mu [(116, pm_upd (pm_ct M 116) 0 0)] M) _ _ _
    refine g_ireturn lk_203_122 (fun h => absurd h (by decide)) ?_
    refine ⟨?_, lay1, rfl⟩
    rw [cIn_nV]
    unfold sAbout
    simp_all
  · show Wp _ 203 123 [(2, ((116 : Nat) : Int)), (0, w)] [] (Mu [(116, pm_upd (pm_ct M 116) 0 0)] M) _ _ _
    replace h2 : ¬ w = 0 := h2
    replace h3 : ¬ w = 1 := h3
    replace h4 : ¬ w = 2 := h4
    replace h5 : ¬ w = 3 := h5
    replace h6 : ¬ w = 4 := h6
    replace h7 : ¬ w = 5 := h7
    replace h8 : ¬ w = 6 := h8
    replace h9 : ¬ w = 7 := h9
    replace h10 : ¬ w = 8 := h10
    refine g_iconst lk_203_123 ?_
    refine g_ireturn lk_203_124 (fun h => absurd h (by decide)) ?_
    exact ⟨by unfold sAbout; simp_all, lay1, rfl⟩
/-! what one set of values comes to -/
def fstb (v : Nat) : Nat := ((List.range 12).find? (fun k => v.testBit k)).getD 0
theorem alike_tab : ∀ v : Fin 1024, (pm_and ((v : Nat) : Int) (((v : Nat) : Int) - 1) = 0 ↔ pop (v : Nat) < 2) := by decide +kernel
theorem place_tab : ∀ v : Fin 1024, pop (v : Nat) = 1 → 1 ≤ (v : Nat) ∧ pop ((v : Nat) - 1) = fstb (v : Nat) := by decide +kernel
theorem pop0_tab : ∀ v : Fin 1024, (pop (v : Nat) = 0 ↔ (v : Nat) = 0) := by decide +kernel
theorem fstb_tab : ∀ v : Fin 1024, (v : Nat) ≠ 0 → (v : Nat).testBit (fstb (v : Nat)) = true ∧ fstb (v : Nat) < 10 ∧ ∀ k : Fin 10, (k : Nat) < fstb (v : Nat) → (v : Nat).testBit (k : Nat) = false := by decide +kernel
theorem vIn_lt (T : Tab) (rs cs : Nat) : vIn T rs cs < 1024 := Nat.lt_of_le_of_lt Nat.and_le_right (by decide)
theorem c_X_isAlike {d mc ms : Nat} {M : pm_M} {v : Nat} (hv : v < 1024) :
    pm_E d 163 [(0, (v : Int))] M mc ms (fun ρ M' => ρ = some (0, if pop v < 2 then 1 else 0) ∧ M' = M) := by
  show Wp d 163 0 [(0, (v : Int))] [] M mc ms _
  refine g_iload_n lk_163_0 rfl ?_
  refine g_iload_n lk_163_1 rfl ?_
  refine g_iconst lk_163_2 ?_
  refine g_isub lk_163_3 ?_
  refine g_iand lk_163_4 ?_
  refine g_if (t := 12) lk_163_5 rfl (by first | (unfold pm_inI; omega) | exact pm_and_in _ _ | exact pm_shr_in _ _ | exact pm_or_in _ _ | exact pm_xor_in _ _ | exact pm_shl_in _ _ | exact pm_cmp_in _ _ | exact pm_b8_in _ | (unfold pm_inI; split <;> omega)) (fun h1 => ?_) (fun h1 => ?_)
  · replace h1 : ¬ (pm_and (v : Int) ((v : Int) - 1)) = 0 := h1
    refine g_iconst lk_163_12 ?_
    refine g_ireturn lk_163_13 (fun _ => by omega) ?_
    exact ⟨by rw [if_neg (fun q => h1 ((alike_tab ⟨v, hv⟩).mpr q))], rfl⟩
  · replace h1 : ¬ (¬ (pm_and (v : Int) ((v : Int) - 1)) = 0) := h1
    refine g_iconst lk_163_8 ?_
    refine g_goto (t := 13) lk_163_9 rfl ?_
    refine g_ireturn lk_163_13 (fun _ => by omega) ?_
    exact ⟨by rw [if_pos ((alike_tab ⟨v, hv⟩).mp (Classical.not_not.mp h1))], rfl⟩
theorem c_X_placeOf {d mc ms : Nat} {M : pm_M} {v : Nat} (hv : v < 1024) (h1 : pop v = 1) :
    pm_E (d + 1) 165 [(0, (v : Int))] M mc ms (fun ρ M' => ρ = some (0, (fstb v : Int)) ∧ M' = M) := by
  obtain ⟨h2, h3⟩ := place_tab ⟨v, hv⟩ h1
  have h2 : 1 ≤ v := h2
  have e : (v : Int) - 1 = ((v - 1 : Nat) : Int) := by omega
  show Wp (d + 1) 165 0 [(0, (v : Int))] [] M mc ms _
  refine g_iload_n lk_165_0 rfl ?_
  refine g_iconst lk_165_1 ?_
  refine g_isub lk_165_2 ?_
  refine g_static (Qc := _) lk_165_3 (by decide) rfl (Nat.le_of_ble_eq_true rfl) rfl rfl (Nat.le_of_ble_eq_true rfl) (Nat.le_of_ble_eq_true rfl) (Nat.zero_le _) (Nat.zero_le _) ((by rw [e]; exact c_Integer_bitCount (by omega))) ?_
  rintro _ N1 ⟨rfl, hN1⟩
  rw [hN1]
  show Wp _ 165 6 [(0, (v : Int))] [(0, (pop (v - 1) : Int))] M _ _ _
  refine g_ireturn lk_165_6 (fun h => absurd h (by decide)) ?_
  exact ⟨congrArg (fun z : Nat => some (0, (z : Int))) h3, rfl⟩
theorem c_X_onlyValue {d mc ms : Nat} {M : pm_M} {v : Nat} (hv : v < 1024) (h1 : pop v < 2) :
    pm_E (d + 2) 164 [(0, (v : Int))] M mc ms (fun ρ M' => ρ = some (0, if v = 0 then 10 else (fstb v : Int)) ∧ M' = M) := by
  have h0 := pop0_tab ⟨v, hv⟩
  have h0 : pop v = 0 ↔ v = 0 := h0
  show Wp (d + 2) 164 0 [(0, (v : Int))] [] M mc ms _
  refine g_iload_n lk_164_0 rfl ?_
  refine g_if (t := 9) lk_164_1 rfl (by first | (unfold pm_inI; omega) | exact pm_and_in _ _ | exact pm_shr_in _ _ | exact pm_or_in _ _ | exact pm_xor_in _ _ | exact pm_shl_in _ _ | exact pm_cmp_in _ _ | exact pm_b8_in _ | (unfold pm_inI; split <;> omega)) (fun h1 => ?_) (fun h1 => ?_)
  · replace h1 : ¬ (v : Int) = 0 := h1
    refine g_iload_n lk_164_9 rfl ?_
    refine g_static (Qc := _) lk_164_10 (by decide) rfl (Nat.le_of_ble_eq_true rfl) rfl rfl (Nat.le_of_ble_eq_true rfl) (Nat.le_of_ble_eq_true rfl) (Nat.zero_le _) (Nat.zero_le _) (c_X_placeOf hv (by omega)) ?_
    rintro _ N2 ⟨rfl, hN2⟩
    rw [hN2]
    show Wp _ 164 13 [(0, (v : Int))] [(0, (fstb v : Int))] M _ _ _
    refine g_ireturn lk_164_13 (fun h => absurd h (by decide)) ?_
    exact ⟨by rw [if_neg (by omega)], rfl⟩
  · replace h1 : ¬ (¬ (v : Int) = 0) := h1
    refine g_bipush lk_164_4 ?_
    refine g_goto (t := 13) lk_164_6 rfl ?_
    refine g_ireturn lk_164_13 (fun h => absurd h (by decide)) ?_
    exact ⟨by rw [if_pos (by omega)], rfl⟩
theorem c_Mo_firstOf {d mc ms : Nat} {M : pm_M} {v : Nat} (hv : v < 1024) (h0 : v ≠ 0) :
    pm_E (d + 1) 206 [(0, (v : Int))] M mc ms (fun ρ M' => ρ = some (0, (fstb v : Int)) ∧ M' = M) := by
  obtain ⟨h2, h3, h4⟩ := fstb_tab ⟨v, hv⟩ h0
  have hb2 : v.testBit (fstb v) = true := h2
  have h3 : fstb v < 10 := h3
  obtain ⟨Q, hQ⟩ : ∃ Q : pm_Q, Q = (fun ρ M' => ρ = some (0, (fstb v : Int)) ∧ M' = M) := ⟨_, rfl⟩
  rw [← hQ]
  have loop : ∀ (n k : Nat), k + n = fstb v → Wp (d + 1) 206 2 [(0, (v : Int)), (0, (k : Int))] [] M mc ms Q := by
    intro n
    induction n with
    | zero =>
      intro k hk
      have hk : k = fstb v := by omega
      subst hk
      refine g_iload_n lk_206_2 rfl ?_
      refine g_iload_n lk_206_3 rfl ?_
      refine g_static (Qc := _) lk_206_4 (by decide) rfl (Nat.le_of_ble_eq_true rfl) rfl rfl (Nat.le_of_ble_eq_true rfl) (Nat.le_of_ble_eq_true rfl) (Nat.zero_le _) (Nat.zero_le _) (c_Mo_isOf (m := fstb v) (by omega) (by omega)) ?_
      rintro _ N1 ⟨rfl, hN1⟩
      rw [hN1]
      show Wp _ 206 7 [(0, (v : Int)), (0, (fstb v : Int))] [(0, (if Nat.testBit v (fstb v) then (1 : Int) else 0))] M _ _ _
      refine g_if (t := 16) lk_206_7 rfl (by first | (unfold pm_inI; omega) | exact pm_and_in _ _ | exact pm_shr_in _ _ | exact pm_or_in _ _ | exact pm_xor_in _ _ | exact pm_shl_in _ _ | exact pm_cmp_in _ _ | exact pm_b8_in _ | (unfold pm_inI; split <;> omega)) (fun h2 => ?_) (fun h2 => ?_)
      · replace h2 : ¬ (if Nat.testBit v (fstb v) then (1 : Int) else 0) = 0 := h2
        refine g_iload_n lk_206_16 rfl ?_
        refine g_ireturn lk_206_17 (fun h => absurd h (by decide)) ?_
        rw [hQ]
        exact ⟨rfl, rfl⟩
      · replace h2 : ¬ (¬ (if Nat.testBit v (fstb v) then (1 : Int) else 0) = 0) := h2
        refine g_iinc (ls' := [(0, (v : Int)), (0, ((fstb v : Int) + 1))]) lk_206_10 rfl rfl rfl ?_
        refine g_goto (t := 2) lk_206_13 rfl ?_
        exfalso; rw [if_pos hb2] at h2; omega
    | succ n ih =>
      intro k hk
      have h5 : v.testBit k = false := h4 ⟨k, by omega⟩ (show k < fstb v by omega)
      refine g_iload_n lk_206_2 rfl ?_
      refine g_iload_n lk_206_3 rfl ?_
      refine g_static (Qc := _) lk_206_4 (by decide) rfl (Nat.le_of_ble_eq_true rfl) rfl rfl (Nat.le_of_ble_eq_true rfl) (Nat.le_of_ble_eq_true rfl) (Nat.zero_le _) (Nat.zero_le _) (c_Mo_isOf (by omega) (by omega)) ?_
      rintro _ N1 ⟨rfl, hN1⟩
      rw [hN1]
      show Wp _ 206 7 [(0, (v : Int)), (0, (k : Int))] [(0, (if Nat.testBit v k then (1 : Int) else 0))] M _ _ _
      refine g_if (t := 16) lk_206_7 rfl (by first | (unfold pm_inI; omega) | exact pm_and_in _ _ | exact pm_shr_in _ _ | exact pm_or_in _ _ | exact pm_xor_in _ _ | exact pm_shl_in _ _ | exact pm_cmp_in _ _ | exact pm_b8_in _ | (unfold pm_inI; split <;> omega)) (fun h2 => ?_) (fun h2 => ?_)
      · replace h2 : ¬ (if Nat.testBit v k then (1 : Int) else 0) = 0 := h2
        refine g_iload_n lk_206_16 rfl ?_
        refine g_ireturn lk_206_17 (fun h => absurd h (by decide)) ?_
        exfalso; rw [h5] at h2; simp at h2
      · replace h2 : ¬ (¬ (if Nat.testBit v k then (1 : Int) else 0) = 0) := h2
        refine g_iinc (ls' := [(0, (v : Int)), (0, ((k : Int) + 1))]) lk_206_10 rfl rfl rfl ?_
        refine g_goto (t := 2) lk_206_13 rfl ?_
        exact ih (k + 1) (by omega)
  show Wp (d + 1) 206 0 [(0, (v : Int)), (9, 0)] [] M mc ms Q
  refine g_iconst lk_206_0 ?_
  refine g_istore_n (ls' := [(0, (v : Int)), (0, 0)]) lk_206_1 rfl rfl ?_
  exact loop (fstb v) 0 (by omega)
