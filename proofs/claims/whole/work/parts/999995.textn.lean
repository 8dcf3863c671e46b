/-! ===== text, the model ===== -/
abbrev txS : List Nat := [118, 119, 121, 127, 128, 129, 130, 131, 133]
abbrev txK : List Nat := [0, 4, 5, 6, 23, 24, 25, 26, 27, 28, 31, 32, 33, 35]
abbrev txS2 : List Nat := [117, 118, 119, 120, 121, 122, 123, 124, 125, 126, 127, 128, 129, 130, 131, 133]
abbrev txK2 : List Nat := [0, 1, 2, 3, 4, 5, 6, 23, 24, 25, 26, 27, 28, 29, 30, 31, 32, 33, 35, 49, 70]
/-- what the model's state is after a text -/
def TxM (ρ : Option pm_V) (N : pm_M) (T : Tab) (Ts : List (List Nd)) (ps dps : Nat → Nat → Nat) (na : Nat) (aa : Nat → Int) (r : Sum (Nat × Nat) (Tab × List Nt)) : Prop := match r with
  | .inl e => ρ = some (0, -1) ∧ (pm_ct N 116 29 = (e.1 : Int) ∧ pm_ct N 116 30 = (e.2 : Int)) ∧ StM N T Ts ps dps na aa
  | .inr x => ρ = some (0, (x.2.length : Int)) ∧ (pm_ct N 116 29 = 0 ∧ pm_ct N 116 30 = -1) ∧ StM N x.1 (tsN x.2) (psN x.2) (dpN x.2) 0 aa
set_option maxHeartbeats 8000000 in
theorem c_Mo_text {d mc ms n : Nat} {ch : Nat → Nat} {M : pm_M} {T0 : Tab} {Ts0 : List (List Nd)} {ps dps : Nat → Nat → Nat} {na : Nat} {aa : Nat → Int} (hS : StM M T0 Ts0 ps dps na aa) (hKd : KdM M 128) (n5 : n ≤ 500) (h23 : pm_ct M 116 23 = (n : Int)) (hch : ∀ i, i < n → ch i < 256 ∧ pm_ct M 132 i = (ch i : Int)) :
    pm_E (d + 6) 197 [(2, ((116 : Nat) : Int))] M mc ms (fun ρ M' => MF txS2 txK2 M M' ∧ pm_ct M' 116 23 = 0 ∧ KdM M' 128 ∧ TxM ρ M' T0 Ts0 ps dps na aa (pAll ch n)) := by
  obtain ⟨Q, hQ⟩ : ∃ Q : pm_Q, Q = (fun ρ M' => MF txS2 txK2 M M' ∧ pm_ct M' 116 23 = 0 ∧ KdM M' 128 ∧ TxM ρ M' T0 Ts0 ps dps na aa (pAll ch n)) := ⟨_, rfl⟩
  rw [← hQ]
  have lay := hS.1
  have uk := (lxt_ok (ch := ch) (n := n) (p := 0) (by omega) n5).1
  show Wp (d + 6) 197 0 [(2, ((116 : Nat) : Int))] [] M mc ms Q
  have b122 : ∀ (e : Nat × Nat) (K : pm_M), pAll ch n = .inl e → Lay K → MF txS txK M K → pm_ct K 116 23 = 0 → KdM K 128 → BdM K e → Wp (d + 6) 197 122 [(2, ((116 : Nat) : Int))] [] K mc ms Q := by
    intro e K hp lK mK K23 kK bK
    obtain ⟨⟨g31, g32⟩, ge1, ge2⟩ := id bK
    obtain ⟨x, hx⟩ : ∃ x, x = e.1 := ⟨_, rfl⟩
    obtain ⟨y, hy⟩ : ∃ y, y = e.2 := ⟨_, rfl⟩
    rw [← hx] at g31
    rw [← hy] at g32
    have k149 : ∀ N : pm_M, Lay N → MF [] [29, 30] K N → pm_ct N 116 29 = (x : Int) → pm_ct N 116 30 = (y : Int) → Wp (d + 6) 197 149 [(2, ((116 : Nat) : Int))] [] N mc ms Q := by
      intro N lN mN c29 c30
      have ig := (bK.mf mN (by decide) (by decide)).ig lN (d := d + 5) (mc := 0) (ms := 0)
      have mA : MF txS (29 :: 30 :: txK) M N := (mK.mono (fun a q => q) (fun a q => List.mem_cons_of_mem _ (List.mem_cons_of_mem _ q))).trans (mN.mono (fun a q => by cases q) (fun a q => by simp at q ⊢; omega))
      refine g_aload_n lk_197_149 rfl ?_
      refine g_virtual (p := 116) (Qc := _) lk_197_150 rfl (Nat.le_of_ble_eq_true rfl) rfl rfl (lN.on (by decide) rfl) (Nat.le_of_ble_eq_true rfl) (Nat.le_of_ble_eq_true rfl) (Nat.zero_le _) (Nat.zero_le _) (ig) ?_
      rintro _ N1 ⟨rfl, hN1⟩
      rw [hN1]
      show Wp _ 197 153 [(2, ((116 : Nat) : Int))] [(0, 0)] N _ _ _
      refine g_if (t := 158) lk_197_153 rfl (by first | (unfold pm_inI; omega) | exact pm_and_in _ _ | exact pm_shr_in _ _ | exact pm_or_in _ _ | exact pm_xor_in _ _ | exact pm_shl_in _ _ | exact pm_cmp_in _ _ | exact pm_b8_in _ | (unfold pm_inI; split <;> omega)) (fun h => absurd h (show ¬ (¬ (0 : Int) = (0 : Int)) by omega)) (fun _ => ?_)
      refine g_iconst lk_197_156 ?_
      refine g_ireturn lk_197_157 (fun h => absurd h (by decide)) ?_
      rw [hQ, hp]
      exact ⟨mA.mono (fun a q => by simp at q ⊢; omega) (fun a q => by simp at q ⊢; omega), by show pm_ct N 116 23 = 0; rw [mN.fd (by decide)]; exact K23, kK.mf mN (by decide) (by decide), rfl, ⟨by rw [← hx]; exact c29, by rw [← hy]; exact c30⟩, hS.mf mA lN (by decide) (by decide)⟩
    have k130 : ∀ N : pm_M, Lay N → MF [] [29] K N → pm_ct N 116 29 = (x : Int) → Wp (d + 6) 197 130 [(2, ((116 : Nat) : Int))] [] N mc ms Q := by
      intro N lN mN c29
      have ig := (bK.mf mN (by decide) (by decide)).ig lN (d := d + 5) (mc := 0) (ms := 0)
      have f32 : pm_ct N 116 32 = (y : Int) := by rw [mN.fd (by decide)]; exact g32
      refine g_aload_n lk_197_130 rfl ?_
      refine g_aload_n lk_197_131 rfl ?_
      refine g_virtual (p := 116) (Qc := _) lk_197_132 rfl (Nat.le_of_ble_eq_true rfl) rfl rfl (lN.on (by decide) rfl) (Nat.le_of_ble_eq_true rfl) (Nat.le_of_ble_eq_true rfl) (Nat.zero_le _) (Nat.zero_le _) (ig) ?_
      rintro _ N1 ⟨rfl, hN1⟩
      rw [hN1]
      show Wp _ 197 135 [(2, ((116 : Nat) : Int))] [(0, 0), (2, ((116 : Nat) : Int))] N _ _ _
      refine g_if (t := 142) lk_197_135 rfl (by first | (unfold pm_inI; omega) | exact pm_and_in _ _ | exact pm_shr_in _ _ | exact pm_or_in _ _ | exact pm_xor_in _ _ | exact pm_shl_in _ _ | exact pm_cmp_in _ _ | exact pm_b8_in _ | (unfold pm_inI; split <;> omega)) (fun _ => ?_) (fun h => absurd (show (0 : Int) = (0 : Int) by omega) h)
      refine g_aload_n lk_197_142 rfl ?_
      refine m_getfield (u := []) (M := N) lk_197_143 rfl (lN.on (by decide) rfl) (v := (y : Int)) f32 ?_
      have lay2 : Lay (Mu [(116, pm_upd (pm_ct N 116) 30 (y : Int))] N) := lN.muF (l := []) (a := 116) (k := 30) (z := (y : Int)) rfl rfl
      refine m_putfield (u := []) (u' := [(116, pm_upd (pm_ct N 116) 30 (y : Int))]) (M := N) lk_197_146 rfl (lN.on (by decide) rfl) (fun h => absurd h (by decide)) rfl ?_
      have m4 : MF [] [30] N (Mu [(116, pm_upd (pm_ct N 116) 30 (y : Int))] N) := MF.mu _ _ rfl (fun k hk => upd_ne (by intro q; rw [q] at hk; exact hk (by decide)))
      exact k149 (Mu [(116, pm_upd (pm_ct N 116) 30 (y : Int))] N) lay2 ((mN.mono (fun a q => q) (fun a q => by simp at q ⊢; omega)).trans (m4.mono (fun a q => q) (fun a q => by simp at q ⊢; omega))) (by rw [m4.fd (by decide)]; exact c29) (by rw [Mu_ct]; rfl)
    refine g_aload_n lk_197_122 rfl ?_
    refine g_aload_n lk_197_123 rfl ?_
    refine m_getfield (u := []) (M := K) lk_197_124 rfl (lK.on (by decide) rfl) (v := (x : Int)) g31 ?_
    have lay1 : Lay (Mu [(116, pm_upd (pm_ct K 116) 29 (x : Int))] K) := lK.muF (l := []) (a := 116) (k := 29) (z := (x : Int)) rfl rfl
    refine m_putfield (u := []) (u' := [(116, pm_upd (pm_ct K 116) 29 (x : Int))]) (M := K) lk_197_127 rfl (lK.on (by decide) rfl) (fun h => absurd h (by decide)) rfl ?_
    exact k130 (Mu [(116, pm_upd (pm_ct K 116) 29 (x : Int))] K) lay1 (MF.mu _ _ rfl (fun k hk => upd_ne (by intro q; rw [q] at hk; exact hk (by decide)))) (by rw [Mu_ct]; rfl)
  have b101 : ∀ (e : Nat × Nat) (K : pm_M), pAll ch n = .inl e → Lay K → MF txS txK M K → pm_ct K 116 23 = 0 → KdM K 128 → BdM K e → Wp (d + 6) 197 101 [(2, ((116 : Nat) : Int))] [] K mc ms Q := by
    intro e K hp lK mK K23 kK bK
    have ig := bK.ig lK (d := d + 5) (mc := 0) (ms := 0)
    refine g_aload_n lk_197_101 rfl ?_
    refine g_virtual (p := 116) (Qc := _) lk_197_102 rfl (Nat.le_of_ble_eq_true rfl) rfl rfl (lK.on (by decide) rfl) (Nat.le_of_ble_eq_true rfl) (Nat.le_of_ble_eq_true rfl) (Nat.zero_le _) (Nat.zero_le _) (ig) ?_
    rintro _ N1 ⟨rfl, hN1⟩
    rw [hN1]
    show Wp _ 197 105 [(2, ((116 : Nat) : Int))] [(0, 0)] K _ _ _
    refine g_if (t := 122) lk_197_105 rfl (by first | (unfold pm_inI; omega) | exact pm_and_in _ _ | exact pm_shr_in _ _ | exact pm_or_in _ _ | exact pm_xor_in _ _ | exact pm_shl_in _ _ | exact pm_cmp_in _ _ | exact pm_b8_in _ | (unfold pm_inI; split <;> omega)) (fun _ => ?_) (fun h => absurd (show (0 : Int) = (0 : Int) by omega) h)
    exact b122 e K hp lK mK K23 kK bK
  have b79 : ∀ (e : Nat × Nat) (K : pm_M), pAll ch n = .inl e → Lay K → MF txS txK M K → pm_ct K 116 23 = 0 → KdM K 128 → BdM K e → Wp (d + 6) 197 79 [(2, ((116 : Nat) : Int))] [] K mc ms Q := by
    intro e K hp lK mK K23 kK bK
    have ig := bK.ig lK (d := d + 5) (mc := 0) (ms := 0)
    refine g_aload_n lk_197_79 rfl ?_
    refine g_virtual (p := 116) (Qc := _) lk_197_80 rfl (Nat.le_of_ble_eq_true rfl) rfl rfl (lK.on (by decide) rfl) (Nat.le_of_ble_eq_true rfl) (Nat.le_of_ble_eq_true rfl) (Nat.zero_le _) (Nat.zero_le _) (ig) ?_
    rintro _ N1 ⟨rfl, hN1⟩
    rw [hN1]
    show Wp _ 197 83 [(2, ((116 : Nat) : Int))] [(0, 0)] K _ _ _
    refine g_if (t := 101) lk_197_83 rfl (by first | (unfold pm_inI; omega) | exact pm_and_in _ _ | exact pm_shr_in _ _ | exact pm_or_in _ _ | exact pm_xor_in _ _ | exact pm_shl_in _ _ | exact pm_cmp_in _ _ | exact pm_b8_in _ | (unfold pm_inI; split <;> omega)) (fun _ => ?_) (fun h => absurd (show (0 : Int) = (0 : Int) by omega) h)
    exact b101 e K hp lK mK K23 kK bK
  have g122 : ∀ (T : Tab) (Ts : List Nt) (t : Tok) (K : pm_M), pAll ch n = .inr (T, Ts) → Lay K → MF txS txK M K → pm_ct K 116 23 = 0 → KdM K 128 → GdM K ch n t → RtM K T (tR T) → TabOK T → TabX T → pm_ct K 121 1 = (tA T : Int) → pm_ct K 121 2 = (tB T : Int) → TrsM K Ts → Ts.length ≤ 4 → (∀ x, x ∈ Ts → NtOK x) → Wp (d + 6) 197 122 [(2, ((116 : Nat) : Int))] [] K mc ms Q := by
    intro T Ts t K hp lK mK K23 kK gK rt okT okX q1 q2 ts l4 okN
    have g31 := gK.2.1
    have k149 : ∀ N : pm_M, Lay N → MF [] [29, 30] K N → pm_ct N 116 29 = 0 → pm_ct N 116 30 = -1 → Wp (d + 6) 197 149 [(2, ((116 : Nat) : Int))] [] N mc ms Q := by
      intro N lN mN c29 c30
      have ig := (gK.mf mN (by decide) (by decide)).ig lN (d := d + 5) (mc := 0) (ms := 0)
      have mA : MF txS (29 :: 30 :: txK) M N := (mK.mono (fun a q => q) (fun a q => List.mem_cons_of_mem _ (List.mem_cons_of_mem _ q))).trans (mN.mono (fun a q => by cases q) (fun a q => by simp at q ⊢; omega))
      have be := c_Mo_becomes (d := d + 5) (mc := 0) (ms := 0) lN okT okX (rt.mf mN (by decide) (by decide) (by decide)) (by rw [mN.ct (by decide) (by decide)]; exact q1) (by rw [mN.ct (by decide) (by decide)]; exact q2) (ts.mf mN (by decide) (by decide)) l4 okN (kK.mf mN (by decide) (by decide))
      obtain ⟨l, hl⟩ : ∃ l, l = Ts.length := ⟨_, rfl⟩
      rw [← hl] at be
      refine g_aload_n lk_197_149 rfl ?_
      refine g_virtual (p := 116) (Qc := _) lk_197_150 rfl (Nat.le_of_ble_eq_true rfl) rfl rfl (lN.on (by decide) rfl) (Nat.le_of_ble_eq_true rfl) (Nat.le_of_ble_eq_true rfl) (Nat.zero_le _) (Nat.zero_le _) (ig) ?_
      rintro _ N1 ⟨rfl, hN1⟩
      rw [hN1]
      show Wp _ 197 153 [(2, ((116 : Nat) : Int))] [(0, 1)] N _ _ _
      refine g_if (t := 158) lk_197_153 rfl (by first | (unfold pm_inI; omega) | exact pm_and_in _ _ | exact pm_shr_in _ _ | exact pm_or_in _ _ | exact pm_xor_in _ _ | exact pm_shl_in _ _ | exact pm_cmp_in _ _ | exact pm_b8_in _ | (unfold pm_inI; split <;> omega)) (fun _ => ?_) (fun h => absurd (show ¬ (1 : Int) = (0 : Int) by omega) h)
      refine g_aload_n lk_197_158 rfl ?_
      refine g_virtual (p := 116) (Qc := _) lk_197_159 rfl (Nat.le_of_ble_eq_true rfl) rfl rfl (lN.on (by decide) rfl) (Nat.le_of_ble_eq_true rfl) (Nat.le_of_ble_eq_true rfl) (Nat.zero_le _) (Nat.zero_le _) (be) ?_
      rintro _ K2 ⟨rfl, m2, c3, st2⟩
      have lay2 := (st2 aa).1
      show Wp _ 197 162 [(2, ((116 : Nat) : Int))] [] K2 _ _ _
      refine g_aload_n lk_197_162 rfl ?_
      refine m_getfield (u := []) (M := K2) lk_197_163 rfl (lay2.on (by decide) rfl) (v := (l : Int)) c3 ?_
      refine g_ireturn lk_197_166 (fun h => absurd h (by decide)) ?_
      rw [hQ, hp]
      have mB : MF txS2 txK2 M K2 := (mA.mono (fun a q => by simp at q ⊢; omega) (fun a q => by simp at q ⊢; omega)).trans (m2.mono (fun a q => by simp at q ⊢; omega) (fun a q => by simp at q ⊢; omega))
      exact ⟨mB, by show pm_ct K2 116 23 = 0; rw [m2.fd (by decide), mN.fd (by decide)]; exact K23, (kK.mf mN (by decide) (by decide)).mf m2 (by decide) (by decide), by rw [hl], ⟨by show pm_ct K2 116 29 = 0; rw [m2.fd (by decide)]; exact c29, by show pm_ct K2 116 30 = -1; rw [m2.fd (by decide)]; exact c30⟩, st2 aa⟩
    have k130 : ∀ N : pm_M, Lay N → MF [] [29] K N → pm_ct N 116 29 = 0 → Wp (d + 6) 197 130 [(2, ((116 : Nat) : Int))] [] N mc ms Q := by
      intro N lN mN c29
      have ig := (gK.mf mN (by decide) (by decide)).ig lN (d := d + 5) (mc := 0) (ms := 0)
      refine g_aload_n lk_197_130 rfl ?_
      refine g_aload_n lk_197_131 rfl ?_
      refine g_virtual (p := 116) (Qc := _) lk_197_132 rfl (Nat.le_of_ble_eq_true rfl) rfl rfl (lN.on (by decide) rfl) (Nat.le_of_ble_eq_true rfl) (Nat.le_of_ble_eq_true rfl) (Nat.zero_le _) (Nat.zero_le _) (ig) ?_
      rintro _ N1 ⟨rfl, hN1⟩
      rw [hN1]
      show Wp _ 197 135 [(2, ((116 : Nat) : Int))] [(0, 1), (2, ((116 : Nat) : Int))] N _ _ _
      refine g_if (t := 142) lk_197_135 rfl (by first | (unfold pm_inI; omega) | exact pm_and_in _ _ | exact pm_shr_in _ _ | exact pm_or_in _ _ | exact pm_xor_in _ _ | exact pm_shl_in _ _ | exact pm_cmp_in _ _ | exact pm_b8_in _ | (unfold pm_inI; split <;> omega)) (fun h => absurd h (show ¬ ((1 : Int) = (0 : Int)) by omega)) (fun _ => ?_)
      refine g_iconst lk_197_138 ?_
      refine g_goto (t := 146) lk_197_139 rfl ?_
      have lay2 : Lay (Mu [(116, pm_upd (pm_ct N 116) 30 (-1))] N) := lN.muF (l := []) (a := 116) (k := 30) (z := (-1)) rfl rfl
      refine m_putfield (u := []) (u' := [(116, pm_upd (pm_ct N 116) 30 (-1))]) (M := N) lk_197_146 rfl (lN.on (by decide) rfl) (fun h => absurd h (by decide)) rfl ?_
      have m4 : MF [] [30] N (Mu [(116, pm_upd (pm_ct N 116) 30 (-1))] N) := MF.mu _ _ rfl (fun k hk => upd_ne (by intro q; rw [q] at hk; exact hk (by decide)))
      exact k149 (Mu [(116, pm_upd (pm_ct N 116) 30 (-1))] N) lay2 ((mN.mono (fun a q => q) (fun a q => by simp at q ⊢; omega)).trans (m4.mono (fun a q => q) (fun a q => by simp at q ⊢; omega))) (by rw [m4.fd (by decide)]; exact c29) (by rw [Mu_ct]; rfl)
    refine g_aload_n lk_197_122 rfl ?_
    refine g_aload_n lk_197_123 rfl ?_
    refine m_getfield (u := []) (M := K) lk_197_124 rfl (lK.on (by decide) rfl) (v := 0) g31 ?_
    have lay1 : Lay (Mu [(116, pm_upd (pm_ct K 116) 29 0)] K) := lK.muF (l := []) (a := 116) (k := 29) (z := 0) rfl rfl
    refine m_putfield (u := []) (u' := [(116, pm_upd (pm_ct K 116) 29 0)]) (M := K) lk_197_127 rfl (lK.on (by decide) rfl) (fun h => absurd h (by decide)) rfl ?_
    exact k130 (Mu [(116, pm_upd (pm_ct K 116) 29 0)] K) lay1 (MF.mu _ _ rfl (fun k hk => upd_ne (by intro q; rw [q] at hk; exact hk (by decide)))) (by rw [Mu_ct]; rfl)
  have lines : ∀ (f w : Nat) (T : Tab) (Ts : List Nt) (t : Tok) (K : pm_M), n < t.2.1 + f → w ≤ 1 → pAll ch n = pLs ch n f T w Ts t → Lay K → MF txS txK M K → pm_ct K 116 23 = 0 → KdM K 128 → GdM K ch n t → RtM K T (tR T) → TabOK T → TabX T → pm_ct K 121 1 = (tA T : Int) → pm_ct K 121 2 = (tB T : Int) → pm_ct K 116 33 = (w : Int) → TrsM K Ts → Ts.length ≤ 4 → (∀ x, x ∈ Ts → NtOK x) → Wp (d + 6) 197 101 [(2, ((116 : Nat) : Int))] [] K mc ms Q := by
    intro f
    induction f with
    | zero =>
      intro w T Ts t K hf w1 hp lK mK K23 kK gK
      have a1 := gK.2.2.2.2.1
      have a2 := gK.2.2.2.2.2.1
      omega
    | succ f ih =>
      intro w T Ts t K hf w1 hp lK mK K23 kK gK rt okT okX q1 q2 h33 ts l4 okN
      have ig := gK.ig lK (d := d + 5) (mc := 0) (ms := 0)
      have f27 := gK.2.2.1.1
      have t4 := gK.2.2.2.1
      have hK := gK.2.2.2
      by_cases a : t.1 = 0
      · have f27' : pm_ct K 116 27 = 0 := by rw [f27, a]; rfl
        rw [pLs_end a] at hp
        refine g_aload_n lk_197_101 rfl ?_
        refine g_virtual (p := 116) (Qc := _) lk_197_102 rfl (Nat.le_of_ble_eq_true rfl) rfl rfl (lK.on (by decide) rfl) (Nat.le_of_ble_eq_true rfl) (Nat.le_of_ble_eq_true rfl) (Nat.zero_le _) (Nat.zero_le _) (ig) ?_
        rintro _ N1 ⟨rfl, hN1⟩
        rw [hN1]
        show Wp _ 197 105 [(2, ((116 : Nat) : Int))] [(0, 1)] K _ _ _
        refine g_if (t := 122) lk_197_105 rfl (by first | (unfold pm_inI; omega) | exact pm_and_in _ _ | exact pm_shr_in _ _ | exact pm_or_in _ _ | exact pm_xor_in _ _ | exact pm_shl_in _ _ | exact pm_cmp_in _ _ | exact pm_b8_in _ | (unfold pm_inI; split <;> omega)) (fun h => absurd h (show ¬ ((1 : Int) = (0 : Int)) by omega)) (fun _ => ?_)
        refine g_aload_n lk_197_108 rfl ?_
        refine m_getfield (u := []) (M := K) lk_197_109 rfl (lK.on (by decide) rfl) (v := 0) f27' ?_
        refine g_if (t := 122) lk_197_112 rfl (by first | (unfold pm_inI; omega) | exact pm_and_in _ _ | exact pm_shr_in _ _ | exact pm_or_in _ _ | exact pm_xor_in _ _ | exact pm_shl_in _ _ | exact pm_cmp_in _ _ | exact pm_b8_in _ | (unfold pm_inI; split <;> omega)) (fun _ => ?_) (fun h => absurd (show (0 : Int) = (0 : Int) by omega) h)
        exact g122 T Ts t K hp lK mK K23 kK gK rt okT okX q1 q2 ts l4 okN
      · obtain ⟨kk, hkk⟩ : ∃ kk, kk = t.1 := ⟨_, rfl⟩
        have f27' : pm_ct K 116 27 = (kk : Int) := by rw [f27, hkk]
        have kk0 : ¬ kk = 0 := by omega
        have kk4 : kk ≤ 4 := by omega
        by_cases b : t.1 = 1 ∧ twd ch t = wTree
        · have li := c_Mo_lineT (d := d) (mc := 0) (ms := 0) lK gK kK okT.1.2 okT.2.1.2 rt.1 rt.2.1 ts l4 b
          have k101 : ∀ N : pm_M, Lay N → MF teS teK K N → KdM N 128 → LtM N n ch Ts (pTree ch n (tR T) (tC T) Ts t) → Wp (d + 6) 197 101 [(2, ((116 : Nat) : Int))] [] N mc ms Q := by
            intro N lN mN kN tN
            have mA : MF txS txK M N := mK.trans (mN.mono (fun a q => by simp at q ⊢; omega) (fun a q => by simp at q ⊢; omega))
            have N23 : pm_ct N 116 23 = 0 := by rw [mN.fd (by decide)]; exact K23
            cases ht : pTree ch n (tR T) (tC T) Ts t with
            | inl e =>
              rw [ht] at tN
              rw [pLs_t0 a b ht] at hp
              exact b101 e N hp lN mA N23 kN tN
            | inr y =>
              obtain ⟨x, t'⟩ := y
              rw [ht] at tN
              rw [pLs_t1 a b ht] at hp
              obtain ⟨o1, o2, o3, _⟩ := pTree_all n5 hK ht
              refine ih w T (Ts ++ [x]) t' N (by omega) w1 hp lN mA N23 kN tN.1 (rt.mf mN (by decide) (by decide) (by decide)) okT okX (by rw [mN.ct (by decide) (by decide)]; exact q1) (by rw [mN.ct (by decide) (by decide)]; exact q2) (by rw [mN.fd (by decide)]; exact h33) tN.2 (by rw [List.length_append]; show Ts.length + 1 ≤ 4; omega) (fun y hy => ?_)
              rcases List.mem_append.mp hy with q | q
              · exact okN y q
              · rw [List.mem_singleton.mp q]
                exact pTree_trx n5 okT.1.2 okT.2.1.2 hK ht
          clear ih
          refine g_aload_n lk_197_101 rfl ?_
          refine g_virtual (p := 116) (Qc := _) lk_197_102 rfl (Nat.le_of_ble_eq_true rfl) rfl rfl (lK.on (by decide) rfl) (Nat.le_of_ble_eq_true rfl) (Nat.le_of_ble_eq_true rfl) (Nat.zero_le _) (Nat.zero_le _) (ig) ?_
          rintro _ N1 ⟨rfl, hN1⟩
          rw [hN1]
          show Wp _ 197 105 [(2, ((116 : Nat) : Int))] [(0, 1)] K _ _ _
          refine g_if (t := 122) lk_197_105 rfl (by first | (unfold pm_inI; omega) | exact pm_and_in _ _ | exact pm_shr_in _ _ | exact pm_or_in _ _ | exact pm_xor_in _ _ | exact pm_shl_in _ _ | exact pm_cmp_in _ _ | exact pm_b8_in _ | (unfold pm_inI; split <;> omega)) (fun h => absurd h (show ¬ ((1 : Int) = (0 : Int)) by omega)) (fun _ => ?_)
          refine g_aload_n lk_197_108 rfl ?_
          refine m_getfield (u := []) (M := K) lk_197_109 rfl (lK.on (by decide) rfl) (v := (kk : Int)) f27' ?_
          refine g_if (t := 122) lk_197_112 rfl (by first | (unfold pm_inI; omega) | exact pm_and_in _ _ | exact pm_shr_in _ _ | exact pm_or_in _ _ | exact pm_xor_in _ _ | exact pm_shl_in _ _ | exact pm_cmp_in _ _ | exact pm_b8_in _ | (unfold pm_inI; split <;> omega)) (fun h2 => ?_) (fun h2 => ?_)
          · replace h2 : (kk : Int) = 0 := h2
            omega
          · replace h2 : ¬ ((kk : Int) = 0) := h2
            refine g_aload_n lk_197_115 rfl ?_
            refine g_virtual (p := 116) (Qc := _) lk_197_116 rfl (Nat.le_of_ble_eq_true rfl) rfl rfl (lK.on (by decide) rfl) (Nat.le_of_ble_eq_true rfl) (Nat.le_of_ble_eq_true rfl) (Nat.zero_le _) (Nat.zero_le _) (li) ?_
            rintro _ K2 ⟨rfl, lay2, m2, kd2, t2⟩
            show Wp _ 197 119 [(2, ((116 : Nat) : Int))] [] K2 _ _ _
            refine g_goto (t := 101) lk_197_119 rfl ?_
            exact k101 K2 lay2 m2 kd2 t2
        · have li := c_Mo_lineC (d := d) (mc := 0) (ms := 0) (T := T) lK gK h33 w1 b
          have k101 : ∀ N : pm_M, Lay N → MF [121] coK K N → CoM N n ch (pCost ch n T w t) → Wp (d + 6) 197 101 [(2, ((116 : Nat) : Int))] [] N mc ms Q := by
            intro N lN mN tN
            have mA : MF txS txK M N := mK.trans (mN.mono (fun a q => by simp at q ⊢; omega) (fun a q => by simp at q ⊢; omega))
            have N23 : pm_ct N 116 23 = 0 := by rw [mN.fd (by decide)]; exact K23
            have kN := kK.mf mN (by decide) (by decide)
            cases ht : pCost ch n T w t with
            | inl e =>
              rw [ht] at tN
              rw [pLs_c0 a b ht] at hp
              exact b101 e N hp lN mA N23 kN tN
            | inr y =>
              obtain ⟨T', t'⟩ := y
              rw [ht] at tN
              rw [pLs_c1 a b ht] at hp
              obtain ⟨o1, o2, _, x, z, x1, x9, z1, z9, eT⟩ := pCost_ok n5 hK ht
              obtain ⟨c1, c2, c3, c4⟩ := tN
              have okT' : TabOK T' := by rw [eT]; exact ⟨okT.1, okT.2.1, okT.2.2.1, ⟨x1, x9⟩, ⟨z1, z9⟩⟩
              have okX' : TabX T' := by rw [eT]; exact okX
              have rt' : RtM N T' (tR T') := by rw [eT]; exact rt.mf mN (by decide) (by decide) (by decide)
              exact ih 1 T' Ts t' N (by omega) (Nat.le_refl _) hp lN mA N23 kN c1 rt' okT' okX' c3 c4 c2 (ts.mf mN (by decide) (by decide)) l4 okN
          clear ih
          refine g_aload_n lk_197_101 rfl ?_
          refine g_virtual (p := 116) (Qc := _) lk_197_102 rfl (Nat.le_of_ble_eq_true rfl) rfl rfl (lK.on (by decide) rfl) (Nat.le_of_ble_eq_true rfl) (Nat.le_of_ble_eq_true rfl) (Nat.zero_le _) (Nat.zero_le _) (ig) ?_
          rintro _ N1 ⟨rfl, hN1⟩
          rw [hN1]
          show Wp _ 197 105 [(2, ((116 : Nat) : Int))] [(0, 1)] K _ _ _
          refine g_if (t := 122) lk_197_105 rfl (by first | (unfold pm_inI; omega) | exact pm_and_in _ _ | exact pm_shr_in _ _ | exact pm_or_in _ _ | exact pm_xor_in _ _ | exact pm_shl_in _ _ | exact pm_cmp_in _ _ | exact pm_b8_in _ | (unfold pm_inI; split <;> omega)) (fun h => absurd h (show ¬ ((1 : Int) = (0 : Int)) by omega)) (fun _ => ?_)
          refine g_aload_n lk_197_108 rfl ?_
          refine m_getfield (u := []) (M := K) lk_197_109 rfl (lK.on (by decide) rfl) (v := (kk : Int)) f27' ?_
          refine g_if (t := 122) lk_197_112 rfl (by first | (unfold pm_inI; omega) | exact pm_and_in _ _ | exact pm_shr_in _ _ | exact pm_or_in _ _ | exact pm_xor_in _ _ | exact pm_shl_in _ _ | exact pm_cmp_in _ _ | exact pm_b8_in _ | (unfold pm_inI; split <;> omega)) (fun h2 => ?_) (fun h2 => ?_)
          · replace h2 : (kk : Int) = 0 := h2
            omega
          · replace h2 : ¬ ((kk : Int) = 0) := h2
            refine g_aload_n lk_197_115 rfl ?_
            refine g_virtual (p := 116) (Qc := _) lk_197_116 rfl (Nat.le_of_ble_eq_true rfl) rfl rfl (lK.on (by decide) rfl) (Nat.le_of_ble_eq_true rfl) (Nat.le_of_ble_eq_true rfl) (Nat.zero_le _) (Nat.zero_le _) (li) ?_
            rintro _ K2 ⟨rfl, lay2, m2, t2⟩
            show Wp _ 197 119 [(2, ((116 : Nat) : Int))] [] K2 _ _ _
            refine g_goto (t := 101) lk_197_119 rfl ?_
            exact k101 K2 lay2 m2 t2
  have rows : ∀ (f r : Nat) (T : Tab) (t : Tok) (K : pm_M), r + f = 7 → r ≤ 6 → (0 < r → 1 ≤ t.2.1) → (r = 0 → t.1 = 2) → RwOK T r → pAll ch n = (match pRs ch n f r T t with | .inl e => .inl e | .inr (T, t) => pLs ch n 500 T 0 [] t) → Lay K → MF txS txK M K → pm_ct K 116 23 = 0 → KdM K 128 → GdM K ch n t → RtM K T r → pm_ct K 121 1 = 1 → pm_ct K 121 2 = 1 → pm_ct K 116 33 = 0 → pm_ct K 116 6 = 0 → Wp (d + 6) 197 79 [(2, ((116 : Nat) : Int))] [] K mc ms Q := by
    intro f
    induction f with
    | zero =>
      intro r T t K hf r6
      omega
    | succ f ih =>
      intro r T t K hf r6 rp r0 ro hp lK mK K23 kK gK rt q1 q2 h33 h6
      have ig := gK.ig lK (d := d + 5) (mc := 0) (ms := 0)
      have f27 := gK.2.2.1.1
      have t4 := gK.2.2.2.1
      have hK := gK.2.2.2
      by_cases a : t.1 = 2
      · have f27' : pm_ct K 116 27 = 2 := by rw [f27, a]; rfl
        have rr := c_Mo_readRow (d := d + 2) (mc := 0) (ms := 0) lK gK a rt r6 ro.2.1
        have k79 : ∀ N : pm_M, Lay N → MF [118] rwK K N → RoM N ch n r (pRow ch n r T t) → Wp (d + 6) 197 79 [(2, ((116 : Nat) : Int))] [] N mc ms Q := by
          intro N lN mN tN
          have mA : MF txS txK M N := mK.trans (mN.mono (fun a q => by simp at q ⊢; omega) (fun a q => by simp at q ⊢; omega))
          have N23 : pm_ct N 116 23 = 0 := by rw [mN.fd (by decide)]; exact K23
          have kN := kK.mf mN (by decide) (by decide)
          cases ht : pRow ch n r T t with
          | inl e =>
            rw [ht] at tN
            rw [pRs_two a ht] at hp
            exact b79 e N hp lN mA N23 kN tN
          | inr y =>
            obtain ⟨T', t'⟩ := y
            rw [ht] at tN
            rw [pRs_on a ht] at hp
            obtain ⟨o1, o2, o3, o4⟩ := pRow_ok n5 hK a ro ht
            exact ih (r + 1) T' t' N (by omega) (by omega) (fun _ => by omega) (fun q => by omega) o2 hp lN mA N23 kN tN.1 tN.2 (by rw [mN.ct (by decide) (by decide)]; exact q1) (by rw [mN.ct (by decide) (by decide)]; exact q2) (by rw [mN.fd (by decide)]; exact h33) (by rw [mN.fd (by decide)]; exact h6)
        clear ih
        refine g_aload_n lk_197_79 rfl ?_
        refine g_virtual (p := 116) (Qc := _) lk_197_80 rfl (Nat.le_of_ble_eq_true rfl) rfl rfl (lK.on (by decide) rfl) (Nat.le_of_ble_eq_true rfl) (Nat.le_of_ble_eq_true rfl) (Nat.zero_le _) (Nat.zero_le _) (ig) ?_
        rintro _ N1 ⟨rfl, hN1⟩
        rw [hN1]
        show Wp _ 197 83 [(2, ((116 : Nat) : Int))] [(0, 1)] K _ _ _
        refine g_if (t := 101) lk_197_83 rfl (by first | (unfold pm_inI; omega) | exact pm_and_in _ _ | exact pm_shr_in _ _ | exact pm_or_in _ _ | exact pm_xor_in _ _ | exact pm_shl_in _ _ | exact pm_cmp_in _ _ | exact pm_b8_in _ | (unfold pm_inI; split <;> omega)) (fun h => absurd h (show ¬ ((1 : Int) = (0 : Int)) by omega)) (fun _ => ?_)
        refine g_aload_n lk_197_86 rfl ?_
        refine m_getfield (u := []) (M := K) lk_197_87 rfl (lK.on (by decide) rfl) (v := 2) f27' ?_
        refine g_iconst lk_197_90 ?_
        refine g_icmp (t := 101) lk_197_91 rfl (by first | (unfold pm_inI; omega) | exact pm_and_in _ _ | exact pm_shr_in _ _ | exact pm_or_in _ _ | exact pm_xor_in _ _ | exact pm_shl_in _ _ | exact pm_cmp_in _ _ | exact pm_b8_in _ | (unfold pm_inI; split <;> omega)) (by first | (unfold pm_inI; omega) | exact pm_and_in _ _ | exact pm_shr_in _ _ | exact pm_or_in _ _ | exact pm_xor_in _ _ | exact pm_shl_in _ _ | exact pm_cmp_in _ _ | exact pm_b8_in _ | (unfold pm_inI; split <;> omega)) (fun h => absurd h (show ¬ (¬ (2 : Int) = (2 : Int)) by omega)) (fun _ => ?_)
        refine g_aload_n lk_197_94 rfl ?_
        refine g_virtual (p := 116) (Qc := _) lk_197_95 rfl (Nat.le_of_ble_eq_true rfl) rfl rfl (lK.on (by decide) rfl) (Nat.le_of_ble_eq_true rfl) (Nat.le_of_ble_eq_true rfl) (Nat.zero_le _) (Nat.zero_le _) (rr) ?_
        rintro _ K2 ⟨rfl, lay2, m2, t2⟩
        show Wp _ 197 98 [(2, ((116 : Nat) : Int))] [] K2 _ _ _
        refine g_goto (t := 79) lk_197_98 rfl ?_
        exact k79 K2 lay2 m2 t2
      · obtain ⟨kk, hkk⟩ : ∃ kk, kk = t.1 := ⟨_, rfl⟩
        have f27' : pm_ct K 116 27 = (kk : Int) := by rw [f27, hkk]
        have kk2 : ¬ kk = 2 := by omega
        have kk4 : kk ≤ 4 := by omega
        have r1 : 1 ≤ r := by
          by_cases q : r = 0
          · exact absurd (r0 q) a
          · omega
        have t1 := rp (by omega)
        rw [pRs_end a] at hp
        obtain ⟨okT, okX⟩ := ro.tab r1 r6
        have eA : tA T = 1 := ro.2.2.2.2.2.1
        have eB : tB T = 1 := ro.2.2.2.2.2.2
        have k101 := lines 500 0 T [] t K (by omega) (by omega) hp lK mK K23 kK gK (by rw [ro.1]; exact rt) okT okX (by rw [eA]; exact q1) (by rw [eB]; exact q2) h33 ⟨⟨h6, fun i x hx => by cases hx⟩, fun i x hx => by cases hx⟩ (Nat.zero_le _) (fun x hx => by cases hx)
        clear ih rp r0
        refine g_aload_n lk_197_79 rfl ?_
        refine g_virtual (p := 116) (Qc := _) lk_197_80 rfl (Nat.le_of_ble_eq_true rfl) rfl rfl (lK.on (by decide) rfl) (Nat.le_of_ble_eq_true rfl) (Nat.le_of_ble_eq_true rfl) (Nat.zero_le _) (Nat.zero_le _) (ig) ?_
        rintro _ N1 ⟨rfl, hN1⟩
        rw [hN1]
        show Wp _ 197 83 [(2, ((116 : Nat) : Int))] [(0, 1)] K _ _ _
        refine g_if (t := 101) lk_197_83 rfl (by first | (unfold pm_inI; omega) | exact pm_and_in _ _ | exact pm_shr_in _ _ | exact pm_or_in _ _ | exact pm_xor_in _ _ | exact pm_shl_in _ _ | exact pm_cmp_in _ _ | exact pm_b8_in _ | (unfold pm_inI; split <;> omega)) (fun h => absurd h (show ¬ ((1 : Int) = (0 : Int)) by omega)) (fun _ => ?_)
        refine g_aload_n lk_197_86 rfl ?_
        refine m_getfield (u := []) (M := K) lk_197_87 rfl (lK.on (by decide) rfl) (v := (kk : Int)) f27' ?_
        refine g_iconst lk_197_90 ?_
        refine g_icmp (t := 101) lk_197_91 rfl (by first | (unfold pm_inI; omega) | exact pm_and_in _ _ | exact pm_shr_in _ _ | exact pm_or_in _ _ | exact pm_xor_in _ _ | exact pm_shl_in _ _ | exact pm_cmp_in _ _ | exact pm_b8_in _ | (unfold pm_inI; split <;> omega)) (by first | (unfold pm_inI; omega) | exact pm_and_in _ _ | exact pm_shr_in _ _ | exact pm_or_in _ _ | exact pm_xor_in _ _ | exact pm_shl_in _ _ | exact pm_cmp_in _ _ | exact pm_b8_in _ | (unfold pm_inI; split <;> omega)) (fun h2 => ?_) (fun h2 => ?_)
        · replace h2 : ¬ (kk : Int) = 2 := h2
          exact k101
        · replace h2 : ¬ (¬ (kk : Int) = 2) := h2
          omega
  have k62 : ∀ K : pm_M, Lay K → MF txS txK M K → TcM K n ch → pm_ct K 116 23 = 0 → pm_ct K 116 26 = 0 → pm_ct K 116 31 = 0 → pm_ct K 116 4 = 0 → pm_ct K 116 5 = 0 → pm_ct K 116 6 = 0 → pm_ct K 116 33 = 0 → pm_ct K 121 1 = 1 → pm_ct K 121 2 = 1 → KdM K 128 → Wp (d + 6) 197 62 [(2, ((116 : Nat) : Int))] [] K mc ms Q := by
    intro K lK mK tc K23 K26 K31 K4 K5 K6 K33 q1 q2 kK
    have go := c_Mo_goOn (d := d + 4) (mc := 0) (ms := 0) lK tc K31 (p := 0) K26 (by omega)
    have k66 : ∀ N : pm_M, Lay N → MF [] [25, 26, 27, 28] K N → TkM N ch (lxt ch n 0) → Wp (d + 6) 197 66 [(2, ((116 : Nat) : Int))] [] N mc ms Q := by
      intro N lN mN tk
      have gN : GdM N ch n (lxt ch n 0) := ⟨tc.mf mN (by decide) (by decide), by rw [mN.fd (by decide)]; exact K31, tk, uk⟩
      have mA : MF txS txK M N := mK.trans (mN.mono (fun a q => by cases q) (fun a q => by simp at q ⊢; omega))
      have N23 : pm_ct N 116 23 = 0 := by rw [mN.fd (by decide)]; exact K23
      have kN := kK.mf mN (by decide) (by decide)
      have f27 := tk.1
      by_cases a : (lxt ch n 0).1 = 2
      · have f27' : pm_ct N 116 27 = 2 := by rw [f27, a]; rfl
        have hp : pAll ch n = (match pRs ch n 7 0 T00 (lxt ch n 0) with | .inl e => .inl e | .inr (T, t) => pLs ch n 500 T 0 [] t) := by
          unfold pAll pRows
          rw [if_pos a]
          cases pRs ch n 7 0 T00 (lxt ch n 0) with
          | inl e => rfl
          | inr y => rfl
        have k79 := rows 7 0 T00 (lxt ch n 0) N (by omega) (by omega) (fun q => absurd q (Nat.lt_irrefl 0)) (fun _ => a) T00_ok hp lN mA N23 kN gN ⟨by rw [mN.fd (by decide)]; exact K4, by rw [mN.fd (by decide)]; exact K5, fun j hj => absurd hj (Nat.not_lt_zero j)⟩ (by rw [mN.ct (by decide) (by decide)]; exact q1) (by rw [mN.ct (by decide) (by decide)]; exact q2) (by rw [mN.fd (by decide)]; exact K33) (by rw [mN.fd (by decide)]; exact K6)
        refine g_aload_n lk_197_66 rfl ?_
        refine m_getfield (u := []) (M := N) lk_197_67 rfl (lN.on (by decide) rfl) (v := 2) f27' ?_
        refine g_iconst lk_197_70 ?_
        refine g_icmp (t := 79) lk_197_71 rfl (by first | (unfold pm_inI; omega) | exact pm_and_in _ _ | exact pm_shr_in _ _ | exact pm_or_in _ _ | exact pm_xor_in _ _ | exact pm_shl_in _ _ | exact pm_cmp_in _ _ | exact pm_b8_in _ | (unfold pm_inI; split <;> omega)) (by first | (unfold pm_inI; omega) | exact pm_and_in _ _ | exact pm_shr_in _ _ | exact pm_or_in _ _ | exact pm_xor_in _ _ | exact pm_shl_in _ _ | exact pm_cmp_in _ _ | exact pm_b8_in _ | (unfold pm_inI; split <;> omega)) (fun _ => ?_) (fun h => absurd (show (2 : Int) = (2 : Int) by omega) h)
        exact k79
      · have hp : pAll ch n = .inl (flt 2 (lxt ch n 0)) := by
          unfold pAll pRows
          rw [if_neg a]
        have fa := gN.fa lN (d := d + 5) (mc := 0) (ms := 0) (w := 2)
        have fr := flt_r (w := 2) (t := lxt ch n 0) (by omega)
        have t4 := uk.1
        have k79 : ∀ P : pm_M, Lay P → MF [] [31, 32] N P → FtM P (flt 2 (lxt ch n 0)) → Wp (d + 6) 197 79 [(2, ((116 : Nat) : Int))] [] P mc ms Q := fun P lP mP ft => b79 _ P hp lP (mA.trans (mP.mono (fun a q => by cases q) (fun a q => by simp at q ⊢; omega))) (by rw [mP.fd (by decide)]; exact N23) (kN.mf mP (by decide) (by decide)) ⟨ft, fr⟩
        obtain ⟨kk, hkk⟩ : ∃ kk, kk = (lxt ch n 0).1 := ⟨_, rfl⟩
        rw [← hkk] at f27 a t4
        refine g_aload_n lk_197_66 rfl ?_
        refine m_getfield (u := []) (M := N) lk_197_67 rfl (lN.on (by decide) rfl) (v := (kk : Int)) f27 ?_
        refine g_iconst lk_197_70 ?_
        refine g_icmp (t := 79) lk_197_71 rfl (by first | (unfold pm_inI; omega) | exact pm_and_in _ _ | exact pm_shr_in _ _ | exact pm_or_in _ _ | exact pm_xor_in _ _ | exact pm_shl_in _ _ | exact pm_cmp_in _ _ | exact pm_b8_in _ | (unfold pm_inI; split <;> omega)) (by first | (unfold pm_inI; omega) | exact pm_and_in _ _ | exact pm_shr_in _ _ | exact pm_or_in _ _ | exact pm_xor_in _ _ | exact pm_shl_in _ _ | exact pm_cmp_in _ _ | exact pm_b8_in _ | (unfold pm_inI; split <;> omega)) (fun h1 => ?_) (fun h1 => ?_)
        · replace h1 : (kk : Int) = 2 := h1
          omega
        · replace h1 : ¬ ((kk : Int) = 2) := h1
          refine g_aload_n lk_197_74 rfl ?_
          refine g_iconst lk_197_75 ?_
          refine g_virtual (p := 116) (Qc := _) lk_197_76 rfl (Nat.le_of_ble_eq_true rfl) rfl rfl (lN.on (by decide) rfl) (Nat.le_of_ble_eq_true rfl) (Nat.le_of_ble_eq_true rfl) (Nat.zero_le _) (Nat.zero_le _) (fa) ?_
          rintro _ K2 ⟨rfl, lay2, m2, ft2⟩
          show Wp _ 197 79 [(2, ((116 : Nat) : Int))] [] K2 _ _ _
          exact k79 K2 lay2 m2 ft2
    refine g_aload_n lk_197_62 rfl ?_
    refine g_virtual (p := 116) (Qc := _) lk_197_63 rfl (Nat.le_of_ble_eq_true rfl) rfl rfl (lK.on (by decide) rfl) (Nat.le_of_ble_eq_true rfl) (Nat.le_of_ble_eq_true rfl) (Nat.zero_le _) (Nat.zero_le _) (go) ?_
    rintro _ K2 ⟨rfl, lay2, m2, tk2⟩
    show Wp _ 197 66 [(2, ((116 : Nat) : Int))] [] K2 _ _ _
    exact k66 K2 lay2 m2 tk2
  refine g_aload_n lk_197_0 rfl ?_
  refine g_iconst lk_197_1 ?_
  have lay1 : Lay (Mu [(116, pm_upd (pm_ct M 116) 0 0)] M) := lay.muF (l := []) (a := 116) (k := 0) (z := 0) rfl rfl
  refine m_putfield (u := []) (u' := [(116, pm_upd (pm_ct M 116) 0 0)]) (M := M) lk_197_2 rfl (lay.on (by decide) rfl) (fun h => absurd h (by decide)) rfl ?_
  refine g_aload_n lk_197_5 rfl ?_
  refine g_aload_n lk_197_6 rfl ?_
  refine m_getfield (u := [(116, pm_upd (pm_ct M 116) 0 0)]) (M := M) lk_197_7 rfl (lay1.on (by decide) rfl) (v := (n : Int)) h23 ?_
  have lay2 : Lay (Mu [(116, pm_upd (pm_upd (pm_ct M 116) 0 0) 24 (n : Int))] M) := lay1.muF (l := [(116, pm_upd (pm_ct M 116) 0 0)]) (a := 116) (k := 24) (z := (n : Int)) rfl rfl
  refine m_putfield (u := [(116, pm_upd (pm_ct M 116) 0 0)]) (u' := [(116, pm_upd (pm_upd (pm_ct M 116) 0 0) 24 (n : Int))]) (M := M) lk_197_10 rfl (lay1.on (by decide) rfl) (fun h => absurd h (by decide)) rfl ?_
  refine g_aload_n lk_197_13 rfl ?_
  refine g_iconst lk_197_14 ?_
  have lay3 : Lay (Mu [(116, pm_upd (pm_upd (pm_upd (pm_ct M 116) 0 0) 24 (n : Int)) 23 0)] M) := lay2.muF (l := [(116, pm_upd (pm_upd (pm_ct M 116) 0 0) 24 (n : Int))]) (a := 116) (k := 23) (z := 0) rfl rfl
  refine m_putfield (u := [(116, pm_upd (pm_upd (pm_ct M 116) 0 0) 24 (n : Int))]) (u' := [(116, pm_upd (pm_upd (pm_upd (pm_ct M 116) 0 0) 24 (n : Int)) 23 0)]) (M := M) lk_197_15 rfl (lay2.on (by decide) rfl) (fun h => absurd h (by decide)) rfl ?_
  refine g_aload_n lk_197_18 rfl ?_
  refine g_iconst lk_197_19 ?_
  have lay4 : Lay (Mu [(116, pm_upd (pm_upd (pm_upd (pm_upd (pm_ct M 116) 0 0) 24 (n : Int)) 23 0) 26 0)] M) := lay3.muF (l := [(116, pm_upd (pm_upd (pm_upd (pm_ct M 116) 0 0) 24 (n : Int)) 23 0)]) (a := 116) (k := 26) (z := 0) rfl rfl
  refine m_putfield (u := [(116, pm_upd (pm_upd (pm_upd (pm_ct M 116) 0 0) 24 (n : Int)) 23 0)]) (u' := [(116, pm_upd (pm_upd (pm_upd (pm_upd (pm_ct M 116) 0 0) 24 (n : Int)) 23 0) 26 0)]) (M := M) lk_197_20 rfl (lay3.on (by decide) rfl) (fun h => absurd h (by decide)) rfl ?_
  refine g_aload_n lk_197_23 rfl ?_
  refine g_iconst lk_197_24 ?_
  have lay5 : Lay (Mu [(116, pm_upd (pm_upd (pm_upd (pm_upd (pm_upd (pm_ct M 116) 0 0) 24 (n : Int)) 23 0) 26 0) 31 0)] M) := lay4.muF (l := [(116, pm_upd (pm_upd (pm_upd (pm_upd (pm_ct M 116) 0 0) 24 (n : Int)) 23 0) 26 0)]) (a := 116) (k := 31) (z := 0) rfl rfl
  refine m_putfield (u := [(116, pm_upd (pm_upd (pm_upd (pm_upd (pm_ct M 116) 0 0) 24 (n : Int)) 23 0) 26 0)]) (u' := [(116, pm_upd (pm_upd (pm_upd (pm_upd (pm_upd (pm_ct M 116) 0 0) 24 (n : Int)) 23 0) 26 0) 31 0)]) (M := M) lk_197_25 rfl (lay4.on (by decide) rfl) (fun h => absurd h (by decide)) rfl ?_
  refine g_aload_n lk_197_28 rfl ?_
  refine g_iconst lk_197_29 ?_
  have lay6 : Lay (Mu [(116, pm_upd (pm_upd (pm_upd (pm_upd (pm_upd (pm_upd (pm_ct M 116) 0 0) 24 (n : Int)) 23 0) 26 0) 31 0) 4 0)] M) := lay5.muF (l := [(116, pm_upd (pm_upd (pm_upd (pm_upd (pm_upd (pm_ct M 116) 0 0) 24 (n : Int)) 23 0) 26 0) 31 0)]) (a := 116) (k := 4) (z := 0) rfl rfl
  refine m_putfield (u := [(116, pm_upd (pm_upd (pm_upd (pm_upd (pm_upd (pm_ct M 116) 0 0) 24 (n : Int)) 23 0) 26 0) 31 0)]) (u' := [(116, pm_upd (pm_upd (pm_upd (pm_upd (pm_upd (pm_upd (pm_ct M 116) 0 0) 24 (n : Int)) 23 0) 26 0) 31 0) 4 0)]) (M := M) lk_197_30 rfl (lay5.on (by decide) rfl) (fun h => absurd h (by decide)) rfl ?_
  refine g_aload_n lk_197_33 rfl ?_
  refine g_iconst lk_197_34 ?_
  have lay7 : Lay (Mu [(116, pm_upd (pm_upd (pm_upd (pm_upd (pm_upd (pm_upd (pm_upd (pm_ct M 116) 0 0) 24 (n : Int)) 23 0) 26 0) 31 0) 4 0) 5 0)] M) := lay6.muF (l := [(116, pm_upd (pm_upd (pm_upd (pm_upd (pm_upd (pm_upd (pm_ct M 116) 0 0) 24 (n : Int)) 23 0) 26 0) 31 0) 4 0)]) (a := 116) (k := 5) (z := 0) rfl rfl
  refine m_putfield (u := [(116, pm_upd (pm_upd (pm_upd (pm_upd (pm_upd (pm_upd (pm_ct M 116) 0 0) 24 (n : Int)) 23 0) 26 0) 31 0) 4 0)]) (u' := [(116, pm_upd (pm_upd (pm_upd (pm_upd (pm_upd (pm_upd (pm_upd (pm_ct M 116) 0 0) 24 (n : Int)) 23 0) 26 0) 31 0) 4 0) 5 0)]) (M := M) lk_197_35 rfl (lay6.on (by decide) rfl) (fun h => absurd h (by decide)) rfl ?_
  refine g_aload_n lk_197_38 rfl ?_
  refine g_iconst lk_197_39 ?_
  have lay8 : Lay (Mu [(116, pm_upd (pm_upd (pm_upd (pm_upd (pm_upd (pm_upd (pm_upd (pm_upd (pm_ct M 116) 0 0) 24 (n : Int)) 23 0) 26 0) 31 0) 4 0) 5 0) 6 0)] M) := lay7.muF (l := [(116, pm_upd (pm_upd (pm_upd (pm_upd (pm_upd (pm_upd (pm_upd (pm_ct M 116) 0 0) 24 (n : Int)) 23 0) 26 0) 31 0) 4 0) 5 0)]) (a := 116) (k := 6) (z := 0) rfl rfl
  refine m_putfield (u := [(116, pm_upd (pm_upd (pm_upd (pm_upd (pm_upd (pm_upd (pm_upd (pm_ct M 116) 0 0) 24 (n : Int)) 23 0) 26 0) 31 0) 4 0) 5 0)]) (u' := [(116, pm_upd (pm_upd (pm_upd (pm_upd (pm_upd (pm_upd (pm_upd (pm_upd (pm_ct M 116) 0 0) 24 (n : Int)) 23 0) 26 0) 31 0) 4 0) 5 0) 6 0)]) (M := M) lk_197_40 rfl (lay7.on (by decide) rfl) (fun h => absurd h (by decide)) rfl ?_
  refine g_aload_n lk_197_43 rfl ?_
  refine g_iconst lk_197_44 ?_
  have lay9 : Lay (Mu [(116, pm_upd (pm_upd (pm_upd (pm_upd (pm_upd (pm_upd (pm_upd (pm_upd (pm_upd (pm_ct M 116) 0 0) 24 (n : Int)) 23 0) 26 0) 31 0) 4 0) 5 0) 6 0) 33 0)] M) := lay8.muF (l := [(116, pm_upd (pm_upd (pm_upd (pm_upd (pm_upd (pm_upd (pm_upd (pm_upd (pm_ct M 116) 0 0) 24 (n : Int)) 23 0) 26 0) 31 0) 4 0) 5 0) 6 0)]) (a := 116) (k := 33) (z := 0) rfl rfl
  refine m_putfield (u := [(116, pm_upd (pm_upd (pm_upd (pm_upd (pm_upd (pm_upd (pm_upd (pm_upd (pm_ct M 116) 0 0) 24 (n : Int)) 23 0) 26 0) 31 0) 4 0) 5 0) 6 0)]) (u' := [(116, pm_upd (pm_upd (pm_upd (pm_upd (pm_upd (pm_upd (pm_upd (pm_upd (pm_upd (pm_ct M 116) 0 0) 24 (n : Int)) 23 0) 26 0) 31 0) 4 0) 5 0) 6 0) 33 0)]) (M := M) lk_197_45 rfl (lay8.on (by decide) rfl) (fun _ => by omega) rfl ?_
  refine g_aload_n lk_197_48 rfl ?_
  refine g_getfield lk_197_49 rfl (lay9.on (by decide) rfl) (v := ((121 : Nat) : Int)) (lay9.rf rfl) ?_
  refine g_iconst lk_197_52 ?_
  refine g_iconst lk_197_53 ?_
  have lay10 : Lay (Mu [(116, pm_upd (pm_upd (pm_upd (pm_upd (pm_upd (pm_upd (pm_upd (pm_upd (pm_upd (pm_ct M 116) 0 0) 24 (n : Int)) 23 0) 26 0) 31 0) 4 0) 5 0) 6 0) 33 0), (121, pm_upd (pm_ct M 121) 1 1)] M) := lay9.muA (l := [(116, pm_upd (pm_upd (pm_upd (pm_upd (pm_upd (pm_upd (pm_upd (pm_upd (pm_upd (pm_ct M 116) 0 0) 24 (n : Int)) 23 0) 26 0) 31 0) 4 0) 5 0) 6 0) 33 0)]) (a := 121) (f := pm_upd (pm_ct M 121) 1 1) rfl rfl
  refine m_iastore (u := [(116, pm_upd (pm_upd (pm_upd (pm_upd (pm_upd (pm_upd (pm_upd (pm_upd (pm_upd (pm_ct M 116) 0 0) 24 (n : Int)) 23 0) 26 0) 31 0) 4 0) 5 0) 6 0) 33 0)]) (u' := [(116, pm_upd (pm_upd (pm_upd (pm_upd (pm_upd (pm_upd (pm_upd (pm_upd (pm_upd (pm_ct M 116) 0 0) 24 (n : Int)) 23 0) 26 0) 31 0) 4 0) 5 0) 6 0) 33 0), (121, pm_upd (pm_ct M 121) 1 1)]) (M := M) lk_197_54 (lay9.ay (by decide) rfl) (by omega) (j := 1) (by omega) rfl ?_
  refine g_aload_n lk_197_55 rfl ?_
  refine g_getfield lk_197_56 rfl (lay10.on (by decide) rfl) (v := ((121 : Nat) : Int)) (lay10.rf rfl) ?_
  refine g_iconst lk_197_59 ?_
  refine g_iconst lk_197_60 ?_
  have lay11 : Lay (Mu [(116, pm_upd (pm_upd (pm_upd (pm_upd (pm_upd (pm_upd (pm_upd (pm_upd (pm_upd (pm_ct M 116) 0 0) 24 (n : Int)) 23 0) 26 0) 31 0) 4 0) 5 0) 6 0) 33 0), (121, pm_upd (pm_upd (pm_ct M 121) 1 1) 2 1)] M) := lay10.muA (l := [(116, pm_upd (pm_upd (pm_upd (pm_upd (pm_upd (pm_upd (pm_upd (pm_upd (pm_upd (pm_ct M 116) 0 0) 24 (n : Int)) 23 0) 26 0) 31 0) 4 0) 5 0) 6 0) 33 0), (121, pm_upd (pm_ct M 121) 1 1)]) (a := 121) (f := pm_upd (pm_upd (pm_ct M 121) 1 1) 2 1) rfl rfl
  refine m_iastore (u := [(116, pm_upd (pm_upd (pm_upd (pm_upd (pm_upd (pm_upd (pm_upd (pm_upd (pm_upd (pm_ct M 116) 0 0) 24 (n : Int)) 23 0) 26 0) 31 0) 4 0) 5 0) 6 0) 33 0), (121, pm_upd (pm_ct M 121) 1 1)]) (u' := [(116, pm_upd (pm_upd (pm_upd (pm_upd (pm_upd (pm_upd (pm_upd (pm_upd (pm_upd (pm_ct M 116) 0 0) 24 (n : Int)) 23 0) 26 0) 31 0) 4 0) 5 0) 6 0) 33 0), (121, pm_upd (pm_upd (pm_ct M 121) 1 1) 2 1)]) (M := M) lk_197_61 (lay10.ay (by decide) rfl) (by omega) (j := 2) (by omega) rfl ?_
  refine k62 (Mu [(116, pm_upd (pm_upd (pm_upd (pm_upd (pm_upd (pm_upd (pm_upd (pm_upd (pm_upd (pm_ct M 116) 0 0) 24 (n : Int)) 23 0) 26 0) 31 0) 4 0) 5 0) 6 0) 33 0), (121, pm_upd (pm_upd (pm_ct M 121) 1 1) 2 1)] M) lay11 (MF.mu _ _ rfl (fun k hk => ?_)) ⟨n5, by rw [Mu_ct]; rfl, fun i hi => by rw [Mu_ct]; exact hch i hi⟩ (by rw [Mu_ct]; rfl) (by rw [Mu_ct]; rfl) (by rw [Mu_ct]; rfl) (by rw [Mu_ct]; rfl) (by rw [Mu_ct]; rfl) (by rw [Mu_ct]; rfl) (by rw [Mu_ct]; rfl) (by rw [Mu_ct]; rfl) (by rw [Mu_ct]; rfl) (fun k hk => by rw [Mu_ct]; exact hKd k hk)
  show pm_upd _ _ _ k = _
  simp at hk
  rw [pm_upd_ne (by omega), pm_upd_ne (by omega), pm_upd_ne (by omega), pm_upd_ne (by omega), pm_upd_ne (by omega), pm_upd_ne (by omega), pm_upd_ne (by omega), pm_upd_ne (by omega), pm_upd_ne (by omega)]
