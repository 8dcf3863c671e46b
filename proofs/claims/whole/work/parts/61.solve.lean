/-! ===== Best.solve ===== -/
set_option maxHeartbeats 8000000 in
theorem c_Best_solve0 {d mc ms : Nat} {M : pm_M} (lay0 : Lay M) {T : Tab} (hT : TabOK T) (hM0 : TbAt M 24 T) {s fa w f : Nat} (hA0 : CA M T s fa) (hB0 : CB M T 0 98 w f) (hff : f = 1 → fa = 1) (hsw : s ≠ w) (b1 : 2 ≤ mc) (b2 : 8192 ≤ ms) :
    pm_E (d + 3) 12 [(2, ((98 : Nat) : Int))] M mc ms (fun ρ M' => ρ = none ∧ Lay M' ∧ TbAt M' 24 T ∧ ∃ s' w', CA M' T s' 1 ∧ CB M' T 0 98 w' 1 ∧ (s' = s ∨ M.1 ≤ s') ∧ (w' = w ∨ M.1 ≤ w') ∧ s' ≠ w' ∧ Gr [44, s, 98, w] M M' ∧ pm_ct M' 98 6 = pm_ct M 98 6) := by
  obtain ⟨Q, hQ⟩ : ∃ Q : pm_Q, Q = (fun ρ M' => ρ = none ∧ Lay M' ∧ TbAt M' 24 T ∧ ∃ s' w', CA M' T s' 1 ∧ CB M' T 0 98 w' 1 ∧ (s' = s ∨ M.1 ≤ s') ∧ (w' = w ∨ M.1 ≤ w') ∧ s' ≠ w' ∧ Gr [44, s, 98, w] M M' ∧ pm_ct M' 98 6 = pm_ct M 98 6) := ⟨_, rfl⟩
  rw [← hQ]
  have ht : (24 : Nat) = 4 ∨ (24 : Nat) = 24 := Or.inr rfl
  have hR6 := tR_64 hT
  have hC6 := tC_64 hT
  have pR : 1 ≤ 2 ^ tR T := Nat.one_le_two_pow
  have pC : 1 ≤ 2 ^ tC T := Nat.one_le_two_pow
  have z4 := siz_le hT
  have M157 := lay0.1
  -- all areas, one behind another
  have k48 : ∀ (s' w' n' : Nat) (M1 : pm_M) (mc ms : Nat), Lay M1 → TbAt M1 24 T → CA M1 T s' 1 → own w' → s' ≠ w' → pm_ct M1 98 4 = ((w' : Nat) : Int) → pm_ct M1 98 5 = 1 → pm_ct M1 98 2 = 0 → pm_ct M1 98 6 = pm_ct M 98 6 → pm_ay M1 w' 100 n' → n' ≤ 4096 → siz T ≤ n' → (s' = s ∨ M.1 ≤ s') → (w' = w ∨ M.1 ≤ w') → Gr [44, s, 98, w] M M1 → Wp (d + 3) 12 48 [(2, ((98 : Nat) : Int)), (9, 0), (9, 0), (9, 0), (9, 0), (9, 0)] [] M1 mc ms Q := by
    intro s' w' n' M1 mc ms layM1 hM1 hA1 hw' hne e4 e5 e2 e6 hay' n4 hn' hss hww hG
    have fre := own_fre hw'
    have w24 : 24 ∉ [44, w'] := fun q => by simp at q; exact own_ne hw' (a := 24) rfl q
    have w25 : 25 ∉ [44, w'] := fun q => by simp at q; exact own_ne hw' (a := 25) rfl q
    have wB : 98 ∉ [44, w'] := fun q => by simp at q; exact own_ne hw' (a := 98) rfl q
    have w44 : (44 : Nat) ≠ w' := own_ne hw' (a := 44) rfl
    have wS : s' ∉ [44, w'] := fun q => by
      simp at q
      rcases q with q | q
      · exact own_ne hA1.1 (a := 44) rfl q.symm
      · exact hne q
    have m44 : ∀ {A B : pm_M}, Fr [44] A B → Fr [44, w'] A B := fun h => h.mono (fun a q => by simp at q; simp [q])
    have fin : ∀ N : pm_M, Lay N → Fr [44, w'] M1 N → (∀ k, k ≠ 3 → pm_ct N 44 k = pm_ct M1 44 k) → WoOK N T 0 w' → Q none N := fun N l f k o => by
      rw [hQ]
      have eB := f.ct wB
      refine ⟨rfl, l, hM1.fr f w24 w25, s', w', hA1.fr f.gr (k 1 (by decide)) (k 2 (by decide)) wS, ⟨hw', by rw [eB]; exact e4, by rw [eB]; exact e5, by rw [eB]; exact e2, Nat.le_refl _, n', n4, f.ay hay', fun _ => ⟨hn', o⟩⟩, hss, hww, hne, ?_, by rw [eB]; exact e6⟩
      have g2 : Gr [w', 44, s, 98, w] M N := (hG.mono (fun a q => Or.inl (List.mem_cons_of_mem w' q))).trans (f.gr.mono (fun a q => Or.inl (by simp at q; simp; omega)))
      refine g2.mono (fun a q => ?_)
      rcases List.mem_cons.mp q with e | e
      · rcases hww with c | c
        · left; rw [e, c]; simp
        · right; omega
      · exact Or.inl e
    have rows : ∀ (k i : Nat) (v4 v5 : pm_V) (N : pm_M), i + k = 2 ^ tR T - 1 → Lay N → Fr [44, w'] M1 N → (∀ k, k ≠ 3 → pm_ct N 44 k = pm_ct M1 44 k) → (∀ rs cs, 1 ≤ rs → rs ≤ i → 1 ≤ cs → cs < 2 ^ tC T → pm_ct N w' (num T rs cs) = (BW T 0 rs cs : Int)) → Wp (d + 3) 12 66 [(2, ((98 : Nat) : Int)), (0, ((2 ^ tR T - 1 : Nat) : Int)), (0, ((2 ^ tC T - 1 : Nat) : Int)), (0, ((i + 1 : Nat) : Int)), v4, v5] [] N mc ms Q := by
      intro k
      induction k with
      | zero =>
        intro i v4 v5 N hi lay hF h44 hin
        refine g_iload_n lk_12_66 rfl ?_
        refine g_iload_n lk_12_67 rfl ?_
        refine g_icmp (t := 163) lk_12_68 rfl (by first | (unfold pm_inI; omega) | exact pm_and_in _ _ | exact pm_shr_in _ _ | exact pm_or_in _ _ | exact pm_xor_in _ _ | exact pm_shl_in _ _ | exact pm_cmp_in _ _ | exact pm_b8_in _ | (unfold pm_inI; split <;> omega)) (by first | (unfold pm_inI; omega) | exact pm_and_in _ _ | exact pm_shr_in _ _ | exact pm_or_in _ _ | exact pm_xor_in _ _ | exact pm_shl_in _ _ | exact pm_cmp_in _ _ | exact pm_b8_in _ | (unfold pm_inI; split <;> omega)) (fun h1 => ?_) (fun h1 => ?_)
        · replace h1 : ((2 ^ tR T - 1 : Nat) : Int) < ((i + 1 : Nat) : Int) := h1
          refine g_return lk_12_163 ?_
          exact fin N lay hF h44 (fun rs cs a1 a2 a3 a4 => hin rs cs a1 (by omega) a3 a4)
        · replace h1 : ¬ (((2 ^ tR T - 1 : Nat) : Int) < ((i + 1 : Nat) : Int)) := h1
          omega
      | succ k ih =>
        intro i v4 v5 N hi lay hF h44 hin
        obtain ⟨rs, hrs⟩ : ∃ rs, rs = i + 1 := ⟨_, rfl⟩
        have inner : ∀ (k j : Nat) (v5 : pm_V) (N : pm_M), j + k = 2 ^ tC T - 1 → Lay N → Fr [44, w'] M1 N → (∀ k, k ≠ 3 → pm_ct N 44 k = pm_ct M1 44 k) → (∀ rs' cs, 1 ≤ rs' → rs' ≤ i → 1 ≤ cs → cs < 2 ^ tC T → pm_ct N w' (num T rs' cs) = (BW T 0 rs' cs : Int)) → (∀ cs, 1 ≤ cs → cs ≤ j → pm_ct N w' (num T rs cs) = (BW T 0 rs cs : Int)) → Wp (d + 3) 12 74 [(2, ((98 : Nat) : Int)), (0, ((2 ^ tR T - 1 : Nat) : Int)), (0, ((2 ^ tC T - 1 : Nat) : Int)), (0, (rs : Int)), (0, ((j + 1 : Nat) : Int)), v5] [] N mc ms Q := by
          intro k
          induction k with
          | zero =>
            intro j v5 N hj lay hF h44 hin hro
            have := fun v4 v5 => ih (i + 1) v4 v5 N (by omega) lay hF h44 (fun a b c1 c2 c3 c4 => by
              by_cases e : a = rs
              · rw [e]; exact hro b c3 (by omega)
              · exact hin a b c1 (by omega) c3 c4)
            rw [← hrs] at this
            refine g_iload lk_12_74 rfl ?_
            refine g_iload_n lk_12_76 rfl ?_
            refine g_icmp (t := 157) lk_12_77 rfl (by first | (unfold pm_inI; omega) | exact pm_and_in _ _ | exact pm_shr_in _ _ | exact pm_or_in _ _ | exact pm_xor_in _ _ | exact pm_shl_in _ _ | exact pm_cmp_in _ _ | exact pm_b8_in _ | (unfold pm_inI; split <;> omega)) (by first | (unfold pm_inI; omega) | exact pm_and_in _ _ | exact pm_shr_in _ _ | exact pm_or_in _ _ | exact pm_xor_in _ _ | exact pm_shl_in _ _ | exact pm_cmp_in _ _ | exact pm_b8_in _ | (unfold pm_inI; split <;> omega)) (fun h1 => ?_) (fun h1 => ?_)
            · replace h1 : ((2 ^ tC T - 1 : Nat) : Int) < ((j + 1 : Nat) : Int) := h1
              refine g_iinc (ls' := [(2, ((98 : Nat) : Int)), (0, ((2 ^ tR T - 1 : Nat) : Int)), (0, ((2 ^ tC T - 1 : Nat) : Int)), (0, ((rs : Int) + 1)), (0, ((j + 1 : Nat) : Int)), v5]) lk_12_157 rfl rfl rfl ?_
              refine g_goto (t := 66) lk_12_160 rfl ?_
              exact this _ _
            · replace h1 : ¬ (((2 ^ tC T - 1 : Nat) : Int) < ((j + 1 : Nat) : Int)) := h1
              omega
          | succ k ihk =>
            intro j v5 N hj lay hF h44 hin hro
            obtain ⟨cs, hcs⟩ : ∃ cs, cs = j + 1 := ⟨_, rfl⟩
            rw [← hcs]
            have hM : TbAt N 24 T := hM1.fr hF w24 w25
            have hA : CA N T s' 1 := hA1.fr hF.gr (h44 1 (by decide)) (h44 2 (by decide)) wS
            have hayN := hF.ay hay'
            have eB := hF.ct wB
            have hh : pm_ct N 98 2 = 0 := by rw [eB]; exact e2
            have x4 : pm_ct N 98 4 = ((w' : Nat) : Int) := by rw [eB]; exact e4
            have nl := num_lt (T := T) (show rs < 2 ^ tR T by omega) (show cs < 2 ^ tC T by omega)
            have c64 : cs < 64 := by omega
            have bws := BW_s T 0 (show rs < 64 by omega) c64 (by omega) (by omega)
            have p1 := spl_far (sb 0) (fun q => BW T 0 q cs) rs
            have p2 := spl_far (sb 0) (fun q => BW T 0 rs q) cs
            have p3 := prc_le hT hT.2.2.2.1.2 0 rs cs
            have p4 := prc_le hT hT.2.2.2.2.2 0 rs cs
            obtain ⟨xA, hxA⟩ : ∃ x, x = spl (sb 0) (fun q => BW T 0 q cs) rs + prc T 0 (tA T) rs cs := ⟨_, rfl⟩
            obtain ⟨xB, hxB⟩ : ∃ x, x = spl (sb 0) (fun q => BW T 0 rs q) cs + prc T 0 (tB T) rs cs := ⟨_, rfl⟩
            have tA1 := c_Best_talkOfA0 (d := d) (mc := 0) (ms := 0) lay hT hM hA hh hw' x4 hayN hn' (rs := rs) (cs := cs) (by omega) (by omega) (by omega) (by omega) (fun q a b => hin q cs a (by omega) (by omega) (by omega))
            rw [← hxA] at tA1 bws
            rw [← hxB] at bws
            have next : ∀ (v5 : pm_V) (N1 N' : pm_M) (z : Int), N' = pm_up N1 w' (pm_upd (pm_ct N1 w') (num T rs cs) z) → Lay N' → Fr [44, w'] N N1 → pm_ct N1 w' = pm_ct N w' → (∀ k, k ≠ 3 → pm_ct N1 44 k = pm_ct N 44 k) → z = (BW T 0 rs cs : Int) → Wp (d + 3) 12 74 [(2, ((98 : Nat) : Int)), (0, ((2 ^ tR T - 1 : Nat) : Int)), (0, ((2 ^ tC T - 1 : Nat) : Int)), (0, (rs : Int)), (0, ((cs + 1 : Nat) : Int)), v5] [] N' mc ms Q := by
              intro v5 N1 N' z hN' lay' f1 ew k1 hz
              have f2 : Fr [44, w'] N1 N' := Fr.up (by simp) hN'
              have := ihk (j + 1) v5 N' (by omega) lay' ((hF.trans f1).trans f2) (fun k hk => by rw [hN', pm_ct_ne w44]; rw [k1 k hk]; exact h44 k hk) (fun a b c1 c2 c3 c4 => ?_) (fun b c1 c2 => ?_)
              · rw [← hcs] at this; exact this
              · rw [up_ct hN', ew, pm_upd_ne (fun q => by have := (num_inj (T := T) c4 (by omega) q).1; omega)]; exact hin a b c1 c2 c3 c4
              · rw [up_ct hN', ew]
                by_cases e : b = cs
                · rw [e, pm_upd_eq, hz]
                · rw [pm_upd_ne (fun q => e (num_inj (T := T) (by omega) (by omega) q).2)]; exact hro b c1 (by omega)
            refine g_iload lk_12_74 rfl ?_
            refine g_iload_n lk_12_76 rfl ?_
            refine g_icmp (t := 157) lk_12_77 rfl (by first | (unfold pm_inI; omega) | exact pm_and_in _ _ | exact pm_shr_in _ _ | exact pm_or_in _ _ | exact pm_xor_in _ _ | exact pm_shl_in _ _ | exact pm_cmp_in _ _ | exact pm_b8_in _ | (unfold pm_inI; split <;> omega)) (by first | (unfold pm_inI; omega) | exact pm_and_in _ _ | exact pm_shr_in _ _ | exact pm_or_in _ _ | exact pm_xor_in _ _ | exact pm_shl_in _ _ | exact pm_cmp_in _ _ | exact pm_b8_in _ | (unfold pm_inI; split <;> omega)) (fun h1 => ?_) (fun h1 => ?_)
            · replace h1 : ((2 ^ tC T - 1 : Nat) : Int) < (cs : Int) := h1
              refine g_iinc (ls' := [(2, ((98 : Nat) : Int)), (0, ((2 ^ tR T - 1 : Nat) : Int)), (0, ((2 ^ tC T - 1 : Nat) : Int)), (0, ((rs : Int) + 1)), (0, (cs : Int)), v5]) lk_12_157 rfl rfl rfl ?_
              refine g_goto (t := 66) lk_12_160 rfl ?_
              omega
            · replace h1 : ¬ (((2 ^ tC T - 1 : Nat) : Int) < (cs : Int)) := h1
              refine g_aload_n lk_12_80 rfl ?_
              refine g_getfield lk_12_81 rfl (lay.on (by decide) rfl) (v := ((44 : Nat) : Int)) (lay.rf rfl) ?_
              refine g_iload_n lk_12_84 rfl ?_
              refine g_iload lk_12_85 rfl ?_
              refine g_virtual (p := 44) (Qc := _) lk_12_87 rfl (Nat.le_of_ble_eq_true rfl) rfl rfl (lay.on (by decide) rfl) (Nat.le_of_ble_eq_true rfl) (Nat.le_of_ble_eq_true rfl) (Nat.zero_le _) (Nat.zero_le _) (c_Areas_numberOf lay hT hM (by omega) (by omega)) ?_
              rintro _ N2 ⟨rfl, hN2⟩
              rw [hN2]
              show Wp _ 12 90 [(2, ((98 : Nat) : Int)), (0, ((2 ^ tR T - 1 : Nat) : Int)), (0, ((2 ^ tC T - 1 : Nat) : Int)), (0, (rs : Int)), (0, (cs : Int)), v5] [(0, (num T rs cs : Int))] N _ _ _
              refine g_istore (ls' := [(2, ((98 : Nat) : Int)), (0, ((2 ^ tR T - 1 : Nat) : Int)), (0, ((2 ^ tC T - 1 : Nat) : Int)), (0, (rs : Int)), (0, (cs : Int)), (0, (num T rs cs : Int))]) lk_12_90 rfl rfl ?_
              refine g_aload_n lk_12_92 rfl ?_
              refine g_getfield lk_12_93 rfl (lay.on (by decide) rfl) (v := ((44 : Nat) : Int)) (lay.rf rfl) ?_
              refine g_iload lk_12_96 rfl ?_
              refine g_virtual (p := 44) (Qc := _) lk_12_98 rfl (Nat.le_of_ble_eq_true rfl) rfl rfl (lay.on (by decide) rfl) (Nat.le_of_ble_eq_true rfl) (Nat.le_of_ble_eq_true rfl) (Nat.zero_le _) (Nat.zero_le _) (c_Areas_isOneValue lay hT hA (by omega) (by omega) (by omega) (by omega)) ?_
              rintro _ N3 ⟨rfl, hN3⟩
              rw [hN3]
              show Wp _ 12 101 [(2, ((98 : Nat) : Int)), (0, ((2 ^ tR T - 1 : Nat) : Int)), (0, ((2 ^ tC T - 1 : Nat) : Int)), (0, (rs : Int)), (0, (cs : Int)), (0, (num T rs cs : Int))] [(0, (if pop (vIn T rs cs) < 2 then (1 : Int) else 0))] N _ _ _
              refine g_if (t := 127) lk_12_101 rfl (by first | (unfold pm_inI; omega) | exact pm_and_in _ _ | exact pm_shr_in _ _ | exact pm_or_in _ _ | exact pm_xor_in _ _ | exact pm_shl_in _ _ | exact pm_cmp_in _ _ | exact pm_b8_in _ | (unfold pm_inI; split <;> omega)) (fun h4 => ?_) (fun h4 => ?_)
              · replace h4 : (if pop (vIn T rs cs) < 2 then (1 : Int) else 0) = 0 := h4
                refine g_aload_n lk_12_127 rfl ?_
                refine m_getfield (u := []) (M := N) lk_12_128 rfl (lay.on (by decide) rfl) (v := ((w' : Nat) : Int)) x4 ?_
                refine g_iload lk_12_131 rfl ?_
                refine g_aload_n lk_12_133 rfl ?_
                refine g_iload_n lk_12_134 rfl ?_
                refine g_iload lk_12_135 rfl ?_
                refine g_virtual (p := 98) (Qc := _) lk_12_137 rfl (Nat.le_of_ble_eq_true rfl) rfl rfl (lay.on (by decide) rfl) (Nat.le_of_ble_eq_true rfl) (Nat.le_of_ble_eq_true rfl) (Nat.zero_le _) (Nat.zero_le _) (tA1) ?_
                rintro _ K1 ⟨rfl, layA, pkA, fA, fA3, -, -⟩
                have hMA : TbAt K1 24 T := hM.fr fA (by decide) (by decide)
                have hAA : CA K1 T s' 1 := hA.fr fA.gr (fA3 1 (by decide)) (fA3 2 (by decide)) (fun q => wS (by simp at q; simp [q]))
                have ewA : pm_ct K1 w' = pm_ct N w' := fA.ct (fun q => w44 (List.mem_singleton.mp q).symm)
                have tB1 := c_Best_talkOfB0 (d := d) (mc := 0) (ms := 0) layA hT hMA hAA (by rw [fA.ct (by decide)]; exact hh) hw' (by rw [fA.ct (by decide)]; exact x4) (fA.ay hayN) hn' (rs := rs) (cs := cs) (by omega) (by omega) (by omega) (by omega) (fun q a b => by rw [ewA]; exact hro q a (by omega))
                rw [← hxB] at tB1
                show Wp _ 12 140 [(2, ((98 : Nat) : Int)), (0, ((2 ^ tR T - 1 : Nat) : Int)), (0, ((2 ^ tC T - 1 : Nat) : Int)), (0, (rs : Int)), (0, (cs : Int)), (0, (num T rs cs : Int))] [(0, (xA : Int)), (0, (num T rs cs : Int)), (2, ((w' : Nat) : Int))] K1 _ _ _
                refine g_aload_n lk_12_140 rfl ?_
                refine g_iload_n lk_12_141 rfl ?_
                refine g_iload lk_12_142 rfl ?_
                refine g_virtual (p := 98) (Qc := _) lk_12_144 rfl (Nat.le_of_ble_eq_true rfl) rfl rfl (layA.on (by decide) rfl) (Nat.le_of_ble_eq_true rfl) (Nat.le_of_ble_eq_true rfl) (Nat.zero_le _) (Nat.zero_le _) (tB1) ?_
                rintro _ K2 ⟨rfl, layB, pkB, fB, fB3, -, -⟩
                have ewB : pm_ct K2 w' = pm_ct N w' := (fB.ct (fun q => w44 (List.mem_singleton.mp q).symm)).trans ewA
                have hayK := fB.ay (fA.ay hayN)
                show Wp _ 12 147 [(2, ((98 : Nat) : Int)), (0, ((2 ^ tR T - 1 : Nat) : Int)), (0, ((2 ^ tC T - 1 : Nat) : Int)), (0, (rs : Int)), (0, (cs : Int)), (0, (num T rs cs : Int))] [(0, (xB : Int)), (0, (xA : Int)), (0, (num T rs cs : Int)), (2, ((w' : Nat) : Int))] K2 _ _ _
                refine g_mmin lk_12_147 (by first | (unfold pm_inI; omega) | exact pm_and_in _ _ | exact pm_shr_in _ _ | exact pm_or_in _ _ | exact pm_xor_in _ _ | exact pm_shl_in _ _ | exact pm_cmp_in _ _ | exact pm_b8_in _ | (unfold pm_inI; split <;> omega)) (by first | (unfold pm_inI; omega) | exact pm_and_in _ _ | exact pm_shr_in _ _ | exact pm_or_in _ _ | exact pm_xor_in _ _ | exact pm_shl_in _ _ | exact pm_cmp_in _ _ | exact pm_b8_in _ | (unfold pm_inI; split <;> omega)) (Nat.le_of_ble_eq_true rfl) ?_
                refine s_iastore (M := K2) lk_12_150 (by first | exact hayK | exact hayN) (by omega) (j := (num T rs cs)) (by omega) (fun N5 hN5 => ?_)
                have lay5 : Lay N5 := (by rw [hN5]; exact layB.upA fre)
                refine g_iinc (ls' := [(2, ((98 : Nat) : Int)), (0, ((2 ^ tR T - 1 : Nat) : Int)), (0, ((2 ^ tC T - 1 : Nat) : Int)), (0, (rs : Int)), (0, ((cs : Int) + 1)), (0, (num T rs cs : Int))]) lk_12_151 rfl rfl rfl ?_
                refine g_goto (t := 74) lk_12_154 rfl ?_
                have al : ¬ pop (vIn T rs cs) < 2 := fun q => by rw [if_pos q] at h4; cases h4
                rw [if_neg al] at bws
                exact next _ K2 N5 _ hN5 lay5 ((m44 fA).trans (m44 fB)) ewB (fun k hk => (fB3 k hk).trans (fA3 k hk)) (by rw [bws]; omega)
              · replace h4 : ¬ ((if pop (vIn T rs cs) < 2 then (1 : Int) else 0) = 0) := h4
                refine g_aload_n lk_12_104 rfl ?_
                refine m_getfield (u := []) (M := N) lk_12_105 rfl (lay.on (by decide) rfl) (v := ((w' : Nat) : Int)) x4 ?_
                refine g_iload lk_12_108 rfl ?_
                refine g_aload_n lk_12_110 rfl ?_
                refine m_getfield (u := []) (M := N) lk_12_111 rfl (lay.on (by decide) rfl) (v := 0) hh ?_
                refine g_iconst lk_12_114 ?_
                refine g_icmp (t := 122) lk_12_115 rfl (by first | (unfold pm_inI; omega) | exact pm_and_in _ _ | exact pm_shr_in _ _ | exact pm_or_in _ _ | exact pm_xor_in _ _ | exact pm_shl_in _ _ | exact pm_cmp_in _ _ | exact pm_b8_in _ | (unfold pm_inI; split <;> omega)) (by first | (unfold pm_inI; omega) | exact pm_and_in _ _ | exact pm_shr_in _ _ | exact pm_or_in _ _ | exact pm_xor_in _ _ | exact pm_shl_in _ _ | exact pm_cmp_in _ _ | exact pm_b8_in _ | (unfold pm_inI; split <;> omega)) (fun _ => ?_) (fun h => absurd (show ¬ (0 : Int) = (1 : Int) by omega) h)
                refine g_iconst lk_12_122 ?_
                refine s_iastore (M := N) lk_12_123 (by first | exact hayK | exact hayN) (by omega) (j := (num T rs cs)) (by omega) (fun N6 hN6 => ?_)
                have lay6 : Lay N6 := (by rw [hN6]; exact lay.upA fre)
                refine g_goto (t := 151) lk_12_124 rfl ?_
                refine g_iinc (ls' := [(2, ((98 : Nat) : Int)), (0, ((2 ^ tR T - 1 : Nat) : Int)), (0, ((2 ^ tC T - 1 : Nat) : Int)), (0, (rs : Int)), (0, ((cs : Int) + 1)), (0, (num T rs cs : Int))]) lk_12_151 rfl rfl rfl ?_
                refine g_goto (t := 74) lk_12_154 rfl ?_
                have al : pop (vIn T rs cs) < 2 := Classical.byContradiction (fun q => h4 (by rw [if_neg q]))
                rw [if_pos al] at bws
                exact next _ N N6 _ hN6 lay6 (Fr.refl _ _) rfl (fun _ _ => rfl) (by rw [bws]; rfl)
        rw [← hrs]
        refine g_iload_n lk_12_66 rfl ?_
        refine g_iload_n lk_12_67 rfl ?_
        refine g_icmp (t := 163) lk_12_68 rfl (by first | (unfold pm_inI; omega) | exact pm_and_in _ _ | exact pm_shr_in _ _ | exact pm_or_in _ _ | exact pm_xor_in _ _ | exact pm_shl_in _ _ | exact pm_cmp_in _ _ | exact pm_b8_in _ | (unfold pm_inI; split <;> omega)) (by first | (unfold pm_inI; omega) | exact pm_and_in _ _ | exact pm_shr_in _ _ | exact pm_or_in _ _ | exact pm_xor_in _ _ | exact pm_shl_in _ _ | exact pm_cmp_in _ _ | exact pm_b8_in _ | (unfold pm_inI; split <;> omega)) (fun h1 => ?_) (fun h1 => ?_)
        · replace h1 : ((2 ^ tR T - 1 : Nat) : Int) < (rs : Int) := h1
          refine g_return lk_12_163 ?_
          omega
        · replace h1 : ¬ (((2 ^ tR T - 1 : Nat) : Int) < (rs : Int)) := h1
          refine g_iconst lk_12_71 ?_
          refine g_istore (ls' := [(2, ((98 : Nat) : Int)), (0, ((2 ^ tR T - 1 : Nat) : Int)), (0, ((2 ^ tC T - 1 : Nat) : Int)), (0, (rs : Int)), (0, 1), v5]) lk_12_72 rfl rfl ?_
          exact inner (2 ^ tC T - 1) 0 _ N (by omega) lay hF h44 hin (fun b c1 c2 => by omega)
    have hM := hM1
    refine g_aload_n lk_12_48 rfl ?_
    refine g_getfield lk_12_49 rfl (layM1.on (by decide) rfl) (v := ((24 : Nat) : Int)) (layM1.rf rfl) ?_
    refine g_virtual (p := 24) (Qc := _) lk_12_52 rfl (Nat.le_of_ble_eq_true rfl) rfl rfl (layM1.on (by decide) rfl) (Nat.le_of_ble_eq_true rfl) (Nat.le_of_ble_eq_true rfl) (Nat.zero_le _) (Nat.zero_le _) (c_Table_allRows layM1 ht hT hM) ?_
    rintro _ N1 ⟨rfl, hN1⟩
    rw [hN1]
    show Wp _ 12 55 [(2, ((98 : Nat) : Int)), (9, 0), (9, 0), (9, 0), (9, 0), (9, 0)] [(0, ((2 ^ tR T - 1 : Nat) : Int))] M1 _ _ _
    refine g_istore_n (ls' := [(2, ((98 : Nat) : Int)), (0, ((2 ^ tR T - 1 : Nat) : Int)), (9, 0), (9, 0), (9, 0), (9, 0)]) lk_12_55 rfl rfl ?_
    refine g_aload_n lk_12_56 rfl ?_
    refine g_getfield lk_12_57 rfl (layM1.on (by decide) rfl) (v := ((24 : Nat) : Int)) (layM1.rf rfl) ?_
    refine g_virtual (p := 24) (Qc := _) lk_12_60 rfl (Nat.le_of_ble_eq_true rfl) rfl rfl (layM1.on (by decide) rfl) (Nat.le_of_ble_eq_true rfl) (Nat.le_of_ble_eq_true rfl) (Nat.zero_le _) (Nat.zero_le _) (c_Table_allColumns layM1 ht hT hM) ?_
    rintro _ N2 ⟨rfl, hN2⟩
    rw [hN2]
    show Wp _ 12 63 [(2, ((98 : Nat) : Int)), (0, ((2 ^ tR T - 1 : Nat) : Int)), (9, 0), (9, 0), (9, 0), (9, 0)] [(0, ((2 ^ tC T - 1 : Nat) : Int))] M1 _ _ _
    refine g_istore_n (ls' := [(2, ((98 : Nat) : Int)), (0, ((2 ^ tR T - 1 : Nat) : Int)), (0, ((2 ^ tC T - 1 : Nat) : Int)), (9, 0), (9, 0), (9, 0)]) lk_12_63 rfl rfl ?_
    refine g_iconst lk_12_64 ?_
    refine g_istore_n (ls' := [(2, ((98 : Nat) : Int)), (0, ((2 ^ tR T - 1 : Nat) : Int)), (0, ((2 ^ tC T - 1 : Nat) : Int)), (0, 1), (9, 0), (9, 0)]) lk_12_65 rfl rfl ?_
    exact rows (2 ^ tR T - 1) 0 _ _ M1 (by omega) layM1 (Fr.refl _ _) (fun _ _ => rfl) (fun a b c1 c2 => by omega)
  have k13 : ∀ M1 : pm_M, Lay M1 → Fr [98] M M1 → pm_ct M1 98 5 = 1 → (∀ k, k ≠ 5 → pm_ct M1 98 k = pm_ct M 98 k) → Wp (d + 3) 12 13 [(2, ((98 : Nat) : Int)), (9, 0), (9, 0), (9, 0), (9, 0), (9, 0)] [] M1 mc ms Q := by
    intro M1 layM1 F1 e5 eB
    obtain ⟨hw, i4, i5, i2, _, n, n4, hay, hf⟩ := hB0
    have sB : s ∉ [98] := fun q => own_ne hA0.1 (a := 98) rfl (List.mem_singleton.mp q).symm
    have hA1 : CA M1 T s fa := hA0.fr F1.gr (by rw [F1.ct (by decide)]) (by rw [F1.ct (by decide)]) sB
    have hM1 : TbAt M1 24 T := hM0.fr F1 (by decide) (by decide)
    have m1 : M1.1 = M.1 := F1.1
    have g1 : Gr [44, s, 98, w] M M1 := F1.gr.mono (fun a q => Or.inl (by simp at q; simp [q]))
    refine g_aload_n lk_12_13 rfl ?_
    refine g_getfield lk_12_14 rfl (layM1.on (by decide) rfl) (v := ((44 : Nat) : Int)) (layM1.rf rfl) ?_
    refine g_virtual (p := 44) (Qc := _) lk_12_17 rfl (Nat.le_of_ble_eq_true rfl) rfl rfl (layM1.on (by decide) rfl) (Nat.le_of_ble_eq_true rfl) (Nat.le_of_ble_eq_true rfl) (by omega) (by omega) (c_Areas_refresh (d := d) (mc := 1) (ms := 4096) layM1 hT hM1 hA1 (by omega) (by omega)) ?_
    rintro _ K2 ⟨rfl, lay2, hM2, s', hs', hA2, g2, g2k⟩
    have hM := hM2
    have sN : 98 ∉ [44, s] := fun q => (by simp at q; exact own_ne hA0.1 (a := 98) rfl q)
    have wN : w ∉ [44, s] := fun q => (by simp at q; rcases q with q | q; exact own_ne hw (a := 44) rfl q.symm; exact hsw q.symm)
    have ayw : pm_ay M1 w 100 n := F1.ay hay
    have eK : pm_ct K2 98 = pm_ct M1 98 := g2.ct (by omega) sN
    have e4 : pm_ct K2 98 4 = ((w : Nat) : Int) := (by rw [eK, eB 4 (by decide)]; exact i4)
    have ayK : pm_ay K2 w 100 n := g2.ay ayw
    have g3 : Gr [44, s, 98, w] M K2 := g1.trans (g2.mono (fun a q => Or.inl (by simp at q; simp; omega)))
    have ss : s' = s ∨ M.1 ≤ s' := (by rcases hs' with q | q; exact Or.inl q; exact Or.inr (by omega))
    have swn : s' ≠ w := (by rcases hs' with q | q; rw [q]; exact hsw; have := ayw.2.1; omega)
    show Wp _ 12 20 [(2, ((98 : Nat) : Int)), (9, 0), (9, 0), (9, 0), (9, 0), (9, 0)] [] K2 _ _ _
    refine g_aload_n lk_12_20 rfl ?_
    refine m_getfield (u := []) (M := K2) lk_12_21 rfl (lay2.on (by decide) rfl) (v := ((w : Nat) : Int)) e4 ?_
    refine g_arraylength (n := n) lk_12_24 (by decide) ayK ?_
    refine g_aload_n lk_12_25 rfl ?_
    refine g_getfield lk_12_26 rfl (lay2.on (by decide) rfl) (v := ((44 : Nat) : Int)) (lay2.rf rfl) ?_
    refine g_virtual (p := 44) (Qc := _) lk_12_29 rfl (Nat.le_of_ble_eq_true rfl) rfl rfl (lay2.on (by decide) rfl) (Nat.le_of_ble_eq_true rfl) (Nat.le_of_ble_eq_true rfl) (Nat.zero_le _) (Nat.zero_le _) (c_Areas_size lay2 hT hM) ?_
    rintro _ N1 ⟨rfl, hN1⟩
    rw [hN1]
    show Wp _ 12 32 [(2, ((98 : Nat) : Int)), (9, 0), (9, 0), (9, 0), (9, 0), (9, 0)] [(0, (siz T : Int)), (0, ((n : Nat) : Int))] K2 _ _ _
    refine g_icmp (t := 48) lk_12_32 rfl (by first | (unfold pm_inI; omega) | exact pm_and_in _ _ | exact pm_shr_in _ _ | exact pm_or_in _ _ | exact pm_xor_in _ _ | exact pm_shl_in _ _ | exact pm_cmp_in _ _ | exact pm_b8_in _ | (unfold pm_inI; split <;> omega)) (by first | (unfold pm_inI; omega) | exact pm_and_in _ _ | exact pm_shr_in _ _ | exact pm_or_in _ _ | exact pm_xor_in _ _ | exact pm_shl_in _ _ | exact pm_cmp_in _ _ | exact pm_b8_in _ | (unfold pm_inI; split <;> omega)) (fun h2 => ?_) (fun h2 => ?_)
    · replace h2 : (siz T : Int) ≤ ((n : Nat) : Int) := h2
      exact k48 s' w n K2 _ _ lay2 hM2 hA2 hw swn e4 (by rw [eK]; exact e5) (by rw [eK, eB 2 (by decide)]; exact i2) (by rw [eK, eB 6 (by decide)]) ayK n4 (by omega) ss (Or.inl rfl) g3
    · replace h2 : ¬ ((siz T : Int) ≤ ((n : Nat) : Int)) := h2
      refine g_aload_n lk_12_35 rfl ?_
      refine g_aload_n lk_12_36 rfl ?_
      refine g_getfield lk_12_37 rfl (lay2.on (by decide) rfl) (v := ((44 : Nat) : Int)) (lay2.rf rfl) ?_
      refine g_virtual (p := 44) (Qc := _) lk_12_40 rfl (Nat.le_of_ble_eq_true rfl) rfl rfl (lay2.on (by decide) rfl) (Nat.le_of_ble_eq_true rfl) (Nat.le_of_ble_eq_true rfl) (Nat.zero_le _) (Nat.zero_le _) (c_Areas_size lay2 hT hM) ?_
      rintro _ N3 ⟨rfl, hN3⟩
      rw [hN3]
      show Wp _ 12 43 [(2, ((98 : Nat) : Int)), (9, 0), (9, 0), (9, 0), (9, 0), (9, 0)] [(0, (siz T : Int)), (2, ((98 : Nat) : Int))] K2 _ _ _
      refine g_newarray (n := siz T) lk_12_43 (by omega) (by omega) (by omega) ?_
      have ln := lay2.new (100, siz T, fun _ => 0)
      refine g_putfield lk_12_45 rfl (ln.on (by decide) rfl) (fun h => absurd h (by decide)) ?_
      have K157 := lay2.1
      have gN : Gr [] K2 (pm_new K2 (100, siz T, fun _ => 0)) := Gr.new
      have ctB : pm_ct (pm_new K2 (100, siz T, fun _ => 0)) 98 = pm_ct K2 98 := gN.ct (by omega) (by simp)
      have K1 := g3.1
      have aA := hA2.2.2.2.2
      have sK : s' < K2.1 := (by obtain ⟨_, _, a, _⟩ := aA; exact a.2.1)
      have fU := Fr.up (M := pm_new K2 (100, siz T, fun _ => 0)) (a := 98) (f := pm_upd (pm_ct (pm_new K2 (100, siz T, fun _ => 0)) 98) 4 ((K2.1 : Nat) : Int)) (S := [98]) (by simp) rfl
      have gU := (gN.mono (S' := [98]) (fun a q => by cases q)).trans fU.gr
      refine k48 s' K2.1 (siz T) _ _ _ (ln.upF rfl) (hM2.gr gU (by omega) (by decide) (by decide)) (hA2.fr gU (by rw [gU.ct (by omega) (by decide)]) (by rw [gU.ct (by omega) (by decide)]) (fun q => own_ne hA2.1 (a := 98) rfl (List.mem_singleton.mp q).symm)) (by unfold own; omega) (by omega) ?_ ?_ ?_ ?_ ?_ (by omega) (Nat.le_refl _) ss (Or.inr (by omega)) (g3.trans (gU.mono (fun a q => Or.inl (by simp at q; simp [q]))))
      · rw [pm_ct_eq, pm_upd_eq]
      · rw [pm_ct_eq, pm_upd_ne (by decide), ctB, eK]; exact e5
      · rw [pm_ct_eq, pm_upd_ne (by decide), ctB, eK, eB 2 (by decide)]; exact i2
      · rw [pm_ct_eq, pm_upd_ne (by decide), ctB, eK, eB 6 (by decide)]
      · exact pm_ay_up.mpr (new_ay (by omega))
  have i5 := hB0.2.2.1
  have f1 := hB0.2.2.2.2.1
  show Wp (d + 3) 12 0 [(2, ((98 : Nat) : Int)), (9, 0), (9, 0), (9, 0), (9, 0), (9, 0)] [] M mc ms Q
  refine g_aload_n lk_12_0 rfl ?_
  refine m_getfield (u := []) (M := M) lk_12_1 rfl (lay0.on (by decide) rfl) (v := (f : Int)) i5 ?_
  refine g_if (t := 8) lk_12_4 rfl (by first | (unfold pm_inI; omega) | exact pm_and_in _ _ | exact pm_shr_in _ _ | exact pm_or_in _ _ | exact pm_xor_in _ _ | exact pm_shl_in _ _ | exact pm_cmp_in _ _ | exact pm_b8_in _ | (unfold pm_inI; split <;> omega)) (fun h1 => ?_) (fun h1 => ?_)
  · replace h1 : (f : Int) = 0 := h1
    refine g_aload_n lk_12_8 rfl ?_
    refine g_iconst lk_12_9 ?_
    have lay2 : Lay (Mu [(98, pm_upd (pm_ct M 98) 5 1)] M) := lay0.muF (l := []) (a := 98) (k := 5) (z := 1) rfl rfl
    refine m_putfield (u := []) (u' := [(98, pm_upd (pm_ct M 98) 5 1)]) (M := M) lk_12_10 rfl (lay0.on (by decide) rfl) (fun _ => by omega) rfl ?_
    refine k13 _ lay2 (Fr.mu _ _ rfl) (by rw [Mu_ct]; rfl) (fun k hk => by rw [Mu_ct]; exact upd_ne hk)
  · replace h1 : ¬ ((f : Int) = 0) := h1
    refine g_return lk_12_7 ?_
    rw [hQ]
    have f9 : f = 1 := by omega
    have a9 := hff f9
    subst f9; subst a9
    exact ⟨rfl, lay0, hM0, s, w, hA0, hB0, Or.inl rfl, Or.inl rfl, hsw, Gr.refl _ _, rfl⟩
set_option maxHeartbeats 4000000 in
theorem c_Best_worthOf0 {d mc ms : Nat} {M : pm_M} (lay0 : Lay M) {T : Tab} (hT : TabOK T) (hM0 : TbAt M 24 T) {s fa w f : Nat} (hA0 : CA M T s fa) (hB0 : CB M T 0 98 w f) (hff : f = 1 → fa = 1) (hsw : s ≠ w) (b1 : 2 ≤ mc) (b2 : 8192 ≤ ms) {rs cs : Nat} (r1 : 1 ≤ rs) (r2 : rs < 2 ^ tR T) (c1 : 1 ≤ cs) (c2 : cs < 2 ^ tC T) :
    pm_E (d + 4) 11 [(2, ((98 : Nat) : Int)), (0, (rs : Int)), (0, (cs : Int))] M mc ms (fun ρ M' => ρ = some (0, (BW T 0 rs cs : Int)) ∧ Lay M' ∧ TbAt M' 24 T ∧ ∃ s' w', CA M' T s' 1 ∧ CB M' T 0 98 w' 1 ∧ (s' = s ∨ M.1 ≤ s') ∧ (w' = w ∨ M.1 ≤ w') ∧ s' ≠ w' ∧ Gr [44, s, 98, w] M M' ∧ pm_ct M' 98 6 = pm_ct M 98 6) := by
  have r64 := lt_64_of hT.1.2 r2
  have z4 := siz_le hT
  have nl := num_lt (T := T) r2 c2
  show Wp (d + 4) 11 0 [(2, ((98 : Nat) : Int)), (0, (rs : Int)), (0, (cs : Int)), (9, 0)] [] M mc ms _
  refine g_aload_n lk_11_0 rfl ?_
  refine g_virtual (p := 98) (Qc := _) lk_11_1 rfl (Nat.le_of_ble_eq_true rfl) rfl rfl (lay0.on (by decide) rfl) (Nat.le_of_ble_eq_true rfl) (Nat.le_of_ble_eq_true rfl) (by omega) (by omega) (c_Best_solve0 (d := d) (mc := 2) (ms := 8192) lay0 hT hM0 hA0 hB0 hff hsw (by omega) (by omega)) ?_
  rintro _ K1 ⟨rfl, lay1, hM, s', w', hA1, hB1, ss, ww, sw, gg, g6⟩
  have hB2 := hB1
  obtain ⟨hw, i4, i5, i2, _, n, n4, hay, hf⟩ := hB2
  obtain ⟨hn, hwo⟩ := hf rfl
  have rd := hwo rs cs r1 r2 c1 c2
  show Wp _ 11 4 [(2, ((98 : Nat) : Int)), (0, (rs : Int)), (0, (cs : Int)), (9, 0)] [] K1 _ _ _
  refine g_aload_n lk_11_4 rfl ?_
  refine g_getfield lk_11_5 rfl (lay1.on (by decide) rfl) (v := ((44 : Nat) : Int)) (lay1.rf rfl) ?_
  refine g_iload_n lk_11_8 rfl ?_
  refine g_iload_n lk_11_9 rfl ?_
  refine g_virtual (p := 44) (Qc := _) lk_11_10 rfl (Nat.le_of_ble_eq_true rfl) rfl rfl (lay1.on (by decide) rfl) (Nat.le_of_ble_eq_true rfl) (Nat.le_of_ble_eq_true rfl) (Nat.zero_le _) (Nat.zero_le _) (c_Areas_numberOf lay1 hT hM (by omega) (by omega)) ?_
  rintro _ N1 ⟨rfl, hN1⟩
  rw [hN1]
  show Wp _ 11 13 [(2, ((98 : Nat) : Int)), (0, (rs : Int)), (0, (cs : Int)), (9, 0)] [(0, (num T rs cs : Int))] K1 _ _ _
  refine g_istore_n (ls' := [(2, ((98 : Nat) : Int)), (0, (rs : Int)), (0, (cs : Int)), (0, (num T rs cs : Int))]) lk_11_13 rfl rfl ?_
  refine g_iload_n lk_11_14 rfl ?_
  refine g_if (t := 36) lk_11_15 rfl (by first | (unfold pm_inI; omega) | exact pm_and_in _ _ | exact pm_shr_in _ _ | exact pm_or_in _ _ | exact pm_xor_in _ _ | exact pm_shl_in _ _ | exact pm_cmp_in _ _ | exact pm_b8_in _ | (unfold pm_inI; split <;> omega)) (fun h2 => ?_) (fun h2 => ?_)
  · replace h2 : (num T rs cs : Int) < 0 := h2
    omega
  · replace h2 : ¬ ((num T rs cs : Int) < 0) := h2
    refine g_iload_n lk_11_18 rfl ?_
    refine g_aload_n lk_11_19 rfl ?_
    refine m_getfield (u := []) (M := K1) lk_11_20 rfl (lay1.on (by decide) rfl) (v := ((w' : Nat) : Int)) i4 ?_
    refine g_arraylength (n := n) lk_11_23 (by decide) hay ?_
    refine g_icmp (t := 36) lk_11_24 rfl (by first | (unfold pm_inI; omega) | exact pm_and_in _ _ | exact pm_shr_in _ _ | exact pm_or_in _ _ | exact pm_xor_in _ _ | exact pm_shl_in _ _ | exact pm_cmp_in _ _ | exact pm_b8_in _ | (unfold pm_inI; split <;> omega)) (by first | (unfold pm_inI; omega) | exact pm_and_in _ _ | exact pm_shr_in _ _ | exact pm_or_in _ _ | exact pm_xor_in _ _ | exact pm_shl_in _ _ | exact pm_cmp_in _ _ | exact pm_b8_in _ | (unfold pm_inI; split <;> omega)) (fun h3 => ?_) (fun h3 => ?_)
    · replace h3 : ((n : Nat) : Int) ≤ (num T rs cs : Int) := h3
      omega
    · replace h3 : ¬ (((n : Nat) : Int) ≤ (num T rs cs : Int)) := h3
      refine g_aload_n lk_11_27 rfl ?_
      refine m_getfield (u := []) (M := K1) lk_11_28 rfl (lay1.on (by decide) rfl) (v := ((w' : Nat) : Int)) i4 ?_
      refine g_iload_n lk_11_31 rfl ?_
      refine g_iaload lk_11_32 hay (by omega) (v := (BW T 0 rs cs : Int)) rd ?_
      refine g_goto (t := 37) lk_11_33 rfl ?_
      refine g_ireturn lk_11_37 (fun h => absurd h (by decide)) ?_
      exact ⟨rfl, lay1, hM, s', w', hA1, hB1, ss, ww, sw, gg, g6⟩
set_option maxHeartbeats 8000000 in
theorem c_Best_solve1 {d mc ms : Nat} {M : pm_M} (lay0 : Lay M) {T : Tab} (hT : TabOK T) (hM0 : TbAt M 24 T) {s fa w f : Nat} (hA0 : CA M T s fa) (hB0 : CB M T 1 104 w f) (hff : f = 1 → fa = 1) (hsw : s ≠ w) (b1 : 2 ≤ mc) (b2 : 8192 ≤ ms) :
    pm_E (d + 3) 12 [(2, ((104 : Nat) : Int))] M mc ms (fun ρ M' => ρ = none ∧ Lay M' ∧ TbAt M' 24 T ∧ ∃ s' w', CA M' T s' 1 ∧ CB M' T 1 104 w' 1 ∧ (s' = s ∨ M.1 ≤ s') ∧ (w' = w ∨ M.1 ≤ w') ∧ s' ≠ w' ∧ Gr [44, s, 104, w] M M' ∧ pm_ct M' 104 6 = pm_ct M 104 6) := by
  obtain ⟨Q, hQ⟩ : ∃ Q : pm_Q, Q = (fun ρ M' => ρ = none ∧ Lay M' ∧ TbAt M' 24 T ∧ ∃ s' w', CA M' T s' 1 ∧ CB M' T 1 104 w' 1 ∧ (s' = s ∨ M.1 ≤ s') ∧ (w' = w ∨ M.1 ≤ w') ∧ s' ≠ w' ∧ Gr [44, s, 104, w] M M' ∧ pm_ct M' 104 6 = pm_ct M 104 6) := ⟨_, rfl⟩
  rw [← hQ]
  have ht : (24 : Nat) = 4 ∨ (24 : Nat) = 24 := Or.inr rfl
  have hR6 := tR_64 hT
  have hC6 := tC_64 hT
  have pR : 1 ≤ 2 ^ tR T := Nat.one_le_two_pow
  have pC : 1 ≤ 2 ^ tC T := Nat.one_le_two_pow
  have z4 := siz_le hT
  have M157 := lay0.1
  -- all areas, one behind another
  have k48 : ∀ (s' w' n' : Nat) (M1 : pm_M) (mc ms : Nat), Lay M1 → TbAt M1 24 T → CA M1 T s' 1 → own w' → s' ≠ w' → pm_ct M1 104 4 = ((w' : Nat) : Int) → pm_ct M1 104 5 = 1 → pm_ct M1 104 2 = 1 → pm_ct M1 104 6 = pm_ct M 104 6 → pm_ay M1 w' 100 n' → n' ≤ 4096 → siz T ≤ n' → (s' = s ∨ M.1 ≤ s') → (w' = w ∨ M.1 ≤ w') → Gr [44, s, 104, w] M M1 → Wp (d + 3) 12 48 [(2, ((104 : Nat) : Int)), (9, 0), (9, 0), (9, 0), (9, 0), (9, 0)] [] M1 mc ms Q := by
    intro s' w' n' M1 mc ms layM1 hM1 hA1 hw' hne e4 e5 e2 e6 hay' n4 hn' hss hww hG
    have fre := own_fre hw'
    have w24 : 24 ∉ [44, w'] := fun q => by simp at q; exact own_ne hw' (a := 24) rfl q
    have w25 : 25 ∉ [44, w'] := fun q => by simp at q; exact own_ne hw' (a := 25) rfl q
    have wB : 104 ∉ [44, w'] := fun q => by simp at q; exact own_ne hw' (a := 104) rfl q
    have w44 : (44 : Nat) ≠ w' := own_ne hw' (a := 44) rfl
    have wS : s' ∉ [44, w'] := fun q => by
      simp at q
      rcases q with q | q
      · exact own_ne hA1.1 (a := 44) rfl q.symm
      · exact hne q
    have m44 : ∀ {A B : pm_M}, Fr [44] A B → Fr [44, w'] A B := fun h => h.mono (fun a q => by simp at q; simp [q])
    have fin : ∀ N : pm_M, Lay N → Fr [44, w'] M1 N → (∀ k, k ≠ 3 → pm_ct N 44 k = pm_ct M1 44 k) → WoOK N T 1 w' → Q none N := fun N l f k o => by
      rw [hQ]
      have eB := f.ct wB
      refine ⟨rfl, l, hM1.fr f w24 w25, s', w', hA1.fr f.gr (k 1 (by decide)) (k 2 (by decide)) wS, ⟨hw', by rw [eB]; exact e4, by rw [eB]; exact e5, by rw [eB]; exact e2, Nat.le_refl _, n', n4, f.ay hay', fun _ => ⟨hn', o⟩⟩, hss, hww, hne, ?_, by rw [eB]; exact e6⟩
      have g2 : Gr [w', 44, s, 104, w] M N := (hG.mono (fun a q => Or.inl (List.mem_cons_of_mem w' q))).trans (f.gr.mono (fun a q => Or.inl (by simp at q; simp; omega)))
      refine g2.mono (fun a q => ?_)
      rcases List.mem_cons.mp q with e | e
      · rcases hww with c | c
        · left; rw [e, c]; simp
        · right; omega
      · exact Or.inl e
    have rows : ∀ (k i : Nat) (v4 v5 : pm_V) (N : pm_M), i + k = 2 ^ tR T - 1 → Lay N → Fr [44, w'] M1 N → (∀ k, k ≠ 3 → pm_ct N 44 k = pm_ct M1 44 k) → (∀ rs cs, 1 ≤ rs → rs ≤ i → 1 ≤ cs → cs < 2 ^ tC T → pm_ct N w' (num T rs cs) = (BW T 1 rs cs : Int)) → Wp (d + 3) 12 66 [(2, ((104 : Nat) : Int)), (0, ((2 ^ tR T - 1 : Nat) : Int)), (0, ((2 ^ tC T - 1 : Nat) : Int)), (0, ((i + 1 : Nat) : Int)), v4, v5] [] N mc ms Q := by
      intro k
      induction k with
      | zero =>
        intro i v4 v5 N hi lay hF h44 hin
        refine g_iload_n lk_12_66 rfl ?_
        refine g_iload_n lk_12_67 rfl ?_
        refine g_icmp (t := 163) lk_12_68 rfl (by first | (unfold pm_inI; omega) | exact pm_and_in _ _ | exact pm_shr_in _ _ | exact pm_or_in _ _ | exact pm_xor_in _ _ | exact pm_shl_in _ _ | exact pm_cmp_in _ _ | exact pm_b8_in _ | (unfold pm_inI; split <;> omega)) (by first | (unfold pm_inI; omega) | exact pm_and_in _ _ | exact pm_shr_in _ _ | exact pm_or_in _ _ | exact pm_xor_in _ _ | exact pm_shl_in _ _ | exact pm_cmp_in _ _ | exact pm_b8_in _ | (unfold pm_inI; split <;> omega)) (fun h1 => ?_) (fun h1 => ?_)
        · replace h1 : ((2 ^ tR T - 1 : Nat) : Int) < ((i + 1 : Nat) : Int) := h1
          refine g_return lk_12_163 ?_
          exact fin N lay hF h44 (fun rs cs a1 a2 a3 a4 => hin rs cs a1 (by omega) a3 a4)
        · replace h1 : ¬ (((2 ^ tR T - 1 : Nat) : Int) < ((i + 1 : Nat) : Int)) := h1
          omega
      | succ k ih =>
        intro i v4 v5 N hi lay hF h44 hin
        obtain ⟨rs, hrs⟩ : ∃ rs, rs = i + 1 := ⟨_, rfl⟩
        have inner : ∀ (k j : Nat) (v5 : pm_V) (N : pm_M), j + k = 2 ^ tC T - 1 → Lay N → Fr [44, w'] M1 N → (∀ k, k ≠ 3 → pm_ct N 44 k = pm_ct M1 44 k) → (∀ rs' cs, 1 ≤ rs' → rs' ≤ i → 1 ≤ cs → cs < 2 ^ tC T → pm_ct N w' (num T rs' cs) = (BW T 1 rs' cs : Int)) → (∀ cs, 1 ≤ cs → cs ≤ j → pm_ct N w' (num T rs cs) = (BW T 1 rs cs : Int)) → Wp (d + 3) 12 74 [(2, ((104 : Nat) : Int)), (0, ((2 ^ tR T - 1 : Nat) : Int)), (0, ((2 ^ tC T - 1 : Nat) : Int)), (0, (rs : Int)), (0, ((j + 1 : Nat) : Int)), v5] [] N mc ms Q := by
          intro k
          induction k with
          | zero =>
            intro j v5 N hj lay hF h44 hin hro
            have := fun v4 v5 => ih (i + 1) v4 v5 N (by omega) lay hF h44 (fun a b c1 c2 c3 c4 => by
              by_cases e : a = rs
              · rw [e]; exact hro b c3 (by omega)
              · exact hin a b c1 (by omega) c3 c4)
            rw [← hrs] at this
            refine g_iload lk_12_74 rfl ?_
            refine g_iload_n lk_12_76 rfl ?_
            refine g_icmp (t := 157) lk_12_77 rfl (by first | (unfold pm_inI; omega) | exact pm_and_in _ _ | exact pm_shr_in _ _ | exact pm_or_in _ _ | exact pm_xor_in _ _ | exact pm_shl_in _ _ | exact pm_cmp_in _ _ | exact pm_b8_in _ | (unfold pm_inI; split <;> omega)) (by first | (unfold pm_inI; omega) | exact pm_and_in _ _ | exact pm_shr_in _ _ | exact pm_or_in _ _ | exact pm_xor_in _ _ | exact pm_shl_in _ _ | exact pm_cmp_in _ _ | exact pm_b8_in _ | (unfold pm_inI; split <;> omega)) (fun h1 => ?_) (fun h1 => ?_)
            · replace h1 : ((2 ^ tC T - 1 : Nat) : Int) < ((j + 1 : Nat) : Int) := h1
              refine g_iinc (ls' := [(2, ((104 : Nat) : Int)), (0, ((2 ^ tR T - 1 : Nat) : Int)), (0, ((2 ^ tC T - 1 : Nat) : Int)), (0, ((rs : Int) + 1)), (0, ((j + 1 : Nat) : Int)), v5]) lk_12_157 rfl rfl rfl ?_
              refine g_goto (t := 66) lk_12_160 rfl ?_
              exact this _ _
            · replace h1 : ¬ (((2 ^ tC T - 1 : Nat) : Int) < ((j + 1 : Nat) : Int)) := h1
              omega
          | succ k ihk =>
            intro j v5 N hj lay hF h44 hin hro
            obtain ⟨cs, hcs⟩ : ∃ cs, cs = j + 1 := ⟨_, rfl⟩
            rw [← hcs]
            have hM : TbAt N 24 T := hM1.fr hF w24 w25
            have hA : CA N T s' 1 := hA1.fr hF.gr (h44 1 (by decide)) (h44 2 (by decide)) wS
            have hayN := hF.ay hay'
            have eB := hF.ct wB
            have hh : pm_ct N 104 2 = 1 := by rw [eB]; exact e2
            have x4 : pm_ct N 104 4 = ((w' : Nat) : Int) := by rw [eB]; exact e4
            have nl := num_lt (T := T) (show rs < 2 ^ tR T by omega) (show cs < 2 ^ tC T by omega)
            have c64 : cs < 64 := by omega
            have bws := BW_s T 1 (show rs < 64 by omega) c64 (by omega) (by omega)
            have p1 := spl_far (sb 1) (fun q => BW T 1 q cs) rs
            have p2 := spl_far (sb 1) (fun q => BW T 1 rs q) cs
            have p3 := prc_le hT hT.2.2.2.1.2 1 rs cs
            have p4 := prc_le hT hT.2.2.2.2.2 1 rs cs
            obtain ⟨xA, hxA⟩ : ∃ x, x = spl (sb 1) (fun q => BW T 1 q cs) rs + prc T 1 (tA T) rs cs := ⟨_, rfl⟩
            obtain ⟨xB, hxB⟩ : ∃ x, x = spl (sb 1) (fun q => BW T 1 rs q) cs + prc T 1 (tB T) rs cs := ⟨_, rfl⟩
            have tA1 := c_Best_talkOfA1 (d := d) (mc := 0) (ms := 0) lay hT hM hA hh hw' x4 hayN hn' (rs := rs) (cs := cs) (by omega) (by omega) (by omega) (by omega) (fun q a b => hin q cs a (by omega) (by omega) (by omega))
            rw [← hxA] at tA1 bws
            rw [← hxB] at bws
            have next : ∀ (v5 : pm_V) (N1 N' : pm_M) (z : Int), N' = pm_up N1 w' (pm_upd (pm_ct N1 w') (num T rs cs) z) → Lay N' → Fr [44, w'] N N1 → pm_ct N1 w' = pm_ct N w' → (∀ k, k ≠ 3 → pm_ct N1 44 k = pm_ct N 44 k) → z = (BW T 1 rs cs : Int) → Wp (d + 3) 12 74 [(2, ((104 : Nat) : Int)), (0, ((2 ^ tR T - 1 : Nat) : Int)), (0, ((2 ^ tC T - 1 : Nat) : Int)), (0, (rs : Int)), (0, ((cs + 1 : Nat) : Int)), v5] [] N' mc ms Q := by
              intro v5 N1 N' z hN' lay' f1 ew k1 hz
              have f2 : Fr [44, w'] N1 N' := Fr.up (by simp) hN'
              have := ihk (j + 1) v5 N' (by omega) lay' ((hF.trans f1).trans f2) (fun k hk => by rw [hN', pm_ct_ne w44]; rw [k1 k hk]; exact h44 k hk) (fun a b c1 c2 c3 c4 => ?_) (fun b c1 c2 => ?_)
              · rw [← hcs] at this; exact this
              · rw [up_ct hN', ew, pm_upd_ne (fun q => by have := (num_inj (T := T) c4 (by omega) q).1; omega)]; exact hin a b c1 c2 c3 c4
              · rw [up_ct hN', ew]
                by_cases e : b = cs
                · rw [e, pm_upd_eq, hz]
                · rw [pm_upd_ne (fun q => e (num_inj (T := T) (by omega) (by omega) q).2)]; exact hro b c1 (by omega)
            refine g_iload lk_12_74 rfl ?_
            refine g_iload_n lk_12_76 rfl ?_
            refine g_icmp (t := 157) lk_12_77 rfl (by first | (unfold pm_inI; omega) | exact pm_and_in _ _ | exact pm_shr_in _ _ | exact pm_or_in _ _ | exact pm_xor_in _ _ | exact pm_shl_in _ _ | exact pm_cmp_in _ _ | exact pm_b8_in _ | (unfold pm_inI; split <;> omega)) (by first | (unfold pm_inI; omega) | exact pm_and_in _ _ | exact pm_shr_in _ _ | exact pm_or_in _ _ | exact pm_xor_in _ _ | exact pm_shl_in _ _ | exact pm_cmp_in _ _ | exact pm_b8_in _ | (unfold pm_inI; split <;> omega)) (fun h1 => ?_) (fun h1 => ?_)
            · replace h1 : ((2 ^ tC T - 1 : Nat) : Int) < (cs : Int) := h1
              refine g_iinc (ls' := [(2, ((104 : Nat) : Int)), (0, ((2 ^ tR T - 1 : Nat) : Int)), (0, ((2 ^ tC T - 1 : Nat) : Int)), (0, ((rs : Int) + 1)), (0, (cs : Int)), v5]) lk_12_157 rfl rfl rfl ?_
              refine g_goto (t := 66) lk_12_160 rfl ?_
              omega
            · replace h1 : ¬ (((2 ^ tC T - 1 : Nat) : Int) < (cs : Int)) := h1
              refine g_aload_n lk_12_80 rfl ?_
              refine g_getfield lk_12_81 rfl (lay.on (by decide) rfl) (v := ((44 : Nat) : Int)) (lay.rf rfl) ?_
              refine g_iload_n lk_12_84 rfl ?_
              refine g_iload lk_12_85 rfl ?_
              refine g_virtual (p := 44) (Qc := _) lk_12_87 rfl (Nat.le_of_ble_eq_true rfl) rfl rfl (lay.on (by decide) rfl) (Nat.le_of_ble_eq_true rfl) (Nat.le_of_ble_eq_true rfl) (Nat.zero_le _) (Nat.zero_le _) (c_Areas_numberOf lay hT hM (by omega) (by omega)) ?_
              rintro _ N2 ⟨rfl, hN2⟩
              rw [hN2]
              show Wp _ 12 90 [(2, ((104 : Nat) : Int)), (0, ((2 ^ tR T - 1 : Nat) : Int)), (0, ((2 ^ tC T - 1 : Nat) : Int)), (0, (rs : Int)), (0, (cs : Int)), v5] [(0, (num T rs cs : Int))] N _ _ _
              refine g_istore (ls' := [(2, ((104 : Nat) : Int)), (0, ((2 ^ tR T - 1 : Nat) : Int)), (0, ((2 ^ tC T - 1 : Nat) : Int)), (0, (rs : Int)), (0, (cs : Int)), (0, (num T rs cs : Int))]) lk_12_90 rfl rfl ?_
              refine g_aload_n lk_12_92 rfl ?_
              refine g_getfield lk_12_93 rfl (lay.on (by decide) rfl) (v := ((44 : Nat) : Int)) (lay.rf rfl) ?_
              refine g_iload lk_12_96 rfl ?_
              refine g_virtual (p := 44) (Qc := _) lk_12_98 rfl (Nat.le_of_ble_eq_true rfl) rfl rfl (lay.on (by decide) rfl) (Nat.le_of_ble_eq_true rfl) (Nat.le_of_ble_eq_true rfl) (Nat.zero_le _) (Nat.zero_le _) (c_Areas_isOneValue lay hT hA (by omega) (by omega) (by omega) (by omega)) ?_
              rintro _ N3 ⟨rfl, hN3⟩
              rw [hN3]
              show Wp _ 12 101 [(2, ((104 : Nat) : Int)), (0, ((2 ^ tR T - 1 : Nat) : Int)), (0, ((2 ^ tC T - 1 : Nat) : Int)), (0, (rs : Int)), (0, (cs : Int)), (0, (num T rs cs : Int))] [(0, (if pop (vIn T rs cs) < 2 then (1 : Int) else 0))] N _ _ _
              refine g_if (t := 127) lk_12_101 rfl (by first | (unfold pm_inI; omega) | exact pm_and_in _ _ | exact pm_shr_in _ _ | exact pm_or_in _ _ | exact pm_xor_in _ _ | exact pm_shl_in _ _ | exact pm_cmp_in _ _ | exact pm_b8_in _ | (unfold pm_inI; split <;> omega)) (fun h4 => ?_) (fun h4 => ?_)
              · replace h4 : (if pop (vIn T rs cs) < 2 then (1 : Int) else 0) = 0 := h4
                refine g_aload_n lk_12_127 rfl ?_
                refine m_getfield (u := []) (M := N) lk_12_128 rfl (lay.on (by decide) rfl) (v := ((w' : Nat) : Int)) x4 ?_
                refine g_iload lk_12_131 rfl ?_
                refine g_aload_n lk_12_133 rfl ?_
                refine g_iload_n lk_12_134 rfl ?_
                refine g_iload lk_12_135 rfl ?_
                refine g_virtual (p := 104) (Qc := _) lk_12_137 rfl (Nat.le_of_ble_eq_true rfl) rfl rfl (lay.on (by decide) rfl) (Nat.le_of_ble_eq_true rfl) (Nat.le_of_ble_eq_true rfl) (Nat.zero_le _) (Nat.zero_le _) (tA1) ?_
                rintro _ K1 ⟨rfl, layA, pkA, fA, fA3, -, -⟩
                have hMA : TbAt K1 24 T := hM.fr fA (by decide) (by decide)
                have hAA : CA K1 T s' 1 := hA.fr fA.gr (fA3 1 (by decide)) (fA3 2 (by decide)) (fun q => wS (by simp at q; simp [q]))
                have ewA : pm_ct K1 w' = pm_ct N w' := fA.ct (fun q => w44 (List.mem_singleton.mp q).symm)
                have tB1 := c_Best_talkOfB1 (d := d) (mc := 0) (ms := 0) layA hT hMA hAA (by rw [fA.ct (by decide)]; exact hh) hw' (by rw [fA.ct (by decide)]; exact x4) (fA.ay hayN) hn' (rs := rs) (cs := cs) (by omega) (by omega) (by omega) (by omega) (fun q a b => by rw [ewA]; exact hro q a (by omega))
                rw [← hxB] at tB1
                show Wp _ 12 140 [(2, ((104 : Nat) : Int)), (0, ((2 ^ tR T - 1 : Nat) : Int)), (0, ((2 ^ tC T - 1 : Nat) : Int)), (0, (rs : Int)), (0, (cs : Int)), (0, (num T rs cs : Int))] [(0, (xA : Int)), (0, (num T rs cs : Int)), (2, ((w' : Nat) : Int))] K1 _ _ _
                refine g_aload_n lk_12_140 rfl ?_
                refine g_iload_n lk_12_141 rfl ?_
                refine g_iload lk_12_142 rfl ?_
                refine g_virtual (p := 104) (Qc := _) lk_12_144 rfl (Nat.le_of_ble_eq_true rfl) rfl rfl (layA.on (by decide) rfl) (Nat.le_of_ble_eq_true rfl) (Nat.le_of_ble_eq_true rfl) (Nat.zero_le _) (Nat.zero_le _) (tB1) ?_
                rintro _ K2 ⟨rfl, layB, pkB, fB, fB3, -, -⟩
                have ewB : pm_ct K2 w' = pm_ct N w' := (fB.ct (fun q => w44 (List.mem_singleton.mp q).symm)).trans ewA
                have hayK := fB.ay (fA.ay hayN)
                show Wp _ 12 147 [(2, ((104 : Nat) : Int)), (0, ((2 ^ tR T - 1 : Nat) : Int)), (0, ((2 ^ tC T - 1 : Nat) : Int)), (0, (rs : Int)), (0, (cs : Int)), (0, (num T rs cs : Int))] [(0, (xB : Int)), (0, (xA : Int)), (0, (num T rs cs : Int)), (2, ((w' : Nat) : Int))] K2 _ _ _
                refine g_mmin lk_12_147 (by first | (unfold pm_inI; omega) | exact pm_and_in _ _ | exact pm_shr_in _ _ | exact pm_or_in _ _ | exact pm_xor_in _ _ | exact pm_shl_in _ _ | exact pm_cmp_in _ _ | exact pm_b8_in _ | (unfold pm_inI; split <;> omega)) (by first | (unfold pm_inI; omega) | exact pm_and_in _ _ | exact pm_shr_in _ _ | exact pm_or_in _ _ | exact pm_xor_in _ _ | exact pm_shl_in _ _ | exact pm_cmp_in _ _ | exact pm_b8_in _ | (unfold pm_inI; split <;> omega)) (Nat.le_of_ble_eq_true rfl) ?_
                refine s_iastore (M := K2) lk_12_150 (by first | exact hayK | exact hayN) (by omega) (j := (num T rs cs)) (by omega) (fun N5 hN5 => ?_)
                have lay5 : Lay N5 := (by rw [hN5]; exact layB.upA fre)
                refine g_iinc (ls' := [(2, ((104 : Nat) : Int)), (0, ((2 ^ tR T - 1 : Nat) : Int)), (0, ((2 ^ tC T - 1 : Nat) : Int)), (0, (rs : Int)), (0, ((cs : Int) + 1)), (0, (num T rs cs : Int))]) lk_12_151 rfl rfl rfl ?_
                refine g_goto (t := 74) lk_12_154 rfl ?_
                have al : ¬ pop (vIn T rs cs) < 2 := fun q => by rw [if_pos q] at h4; cases h4
                rw [if_neg al] at bws
                exact next _ K2 N5 _ hN5 lay5 ((m44 fA).trans (m44 fB)) ewB (fun k hk => (fB3 k hk).trans (fA3 k hk)) (by rw [bws]; omega)
              · replace h4 : ¬ ((if pop (vIn T rs cs) < 2 then (1 : Int) else 0) = 0) := h4
                refine g_aload_n lk_12_104 rfl ?_
                refine m_getfield (u := []) (M := N) lk_12_105 rfl (lay.on (by decide) rfl) (v := ((w' : Nat) : Int)) x4 ?_
                refine g_iload lk_12_108 rfl ?_
                refine g_aload_n lk_12_110 rfl ?_
                refine m_getfield (u := []) (M := N) lk_12_111 rfl (lay.on (by decide) rfl) (v := 1) hh ?_
                refine g_iconst lk_12_114 ?_
                refine g_icmp (t := 122) lk_12_115 rfl (by first | (unfold pm_inI; omega) | exact pm_and_in _ _ | exact pm_shr_in _ _ | exact pm_or_in _ _ | exact pm_xor_in _ _ | exact pm_shl_in _ _ | exact pm_cmp_in _ _ | exact pm_b8_in _ | (unfold pm_inI; split <;> omega)) (by first | (unfold pm_inI; omega) | exact pm_and_in _ _ | exact pm_shr_in _ _ | exact pm_or_in _ _ | exact pm_xor_in _ _ | exact pm_shl_in _ _ | exact pm_cmp_in _ _ | exact pm_b8_in _ | (unfold pm_inI; split <;> omega)) (fun h => absurd h (show ¬ (¬ (1 : Int) = (1 : Int)) by omega)) (fun _ => ?_)
                refine g_iconst lk_12_118 ?_
                refine g_goto (t := 123) lk_12_119 rfl ?_
                refine s_iastore (M := N) lk_12_123 (by first | exact hayK | exact hayN) (by omega) (j := (num T rs cs)) (by omega) (fun N6 hN6 => ?_)
                have lay6 : Lay N6 := (by rw [hN6]; exact lay.upA fre)
                refine g_goto (t := 151) lk_12_124 rfl ?_
                refine g_iinc (ls' := [(2, ((104 : Nat) : Int)), (0, ((2 ^ tR T - 1 : Nat) : Int)), (0, ((2 ^ tC T - 1 : Nat) : Int)), (0, (rs : Int)), (0, ((cs : Int) + 1)), (0, (num T rs cs : Int))]) lk_12_151 rfl rfl rfl ?_
                refine g_goto (t := 74) lk_12_154 rfl ?_
                have al : pop (vIn T rs cs) < 2 := Classical.byContradiction (fun q => h4 (by rw [if_neg q]))
                rw [if_pos al] at bws
                exact next _ N N6 _ hN6 lay6 (Fr.refl _ _) rfl (fun _ _ => rfl) (by rw [bws]; rfl)
        rw [← hrs]
        refine g_iload_n lk_12_66 rfl ?_
        refine g_iload_n lk_12_67 rfl ?_
        refine g_icmp (t := 163) lk_12_68 rfl (by first | (unfold pm_inI; omega) | exact pm_and_in _ _ | exact pm_shr_in _ _ | exact pm_or_in _ _ | exact pm_xor_in _ _ | exact pm_shl_in _ _ | exact pm_cmp_in _ _ | exact pm_b8_in _ | (unfold pm_inI; split <;> omega)) (by first | (unfold pm_inI; omega) | exact pm_and_in _ _ | exact pm_shr_in _ _ | exact pm_or_in _ _ | exact pm_xor_in _ _ | exact pm_shl_in _ _ | exact pm_cmp_in _ _ | exact pm_b8_in _ | (unfold pm_inI; split <;> omega)) (fun h1 => ?_) (fun h1 => ?_)
        · replace h1 : ((2 ^ tR T - 1 : Nat) : Int) < (rs : Int) := h1
          refine g_return lk_12_163 ?_
          omega
        · replace h1 : ¬ (((2 ^ tR T - 1 : Nat) : Int) < (rs : Int)) := h1
          refine g_iconst lk_12_71 ?_
          refine g_istore (ls' := [(2, ((104 : Nat) : Int)), (0, ((2 ^ tR T - 1 : Nat) : Int)), (0, ((2 ^ tC T - 1 : Nat) : Int)), (0, (rs : Int)), (0, 1), v5]) lk_12_72 rfl rfl ?_
          exact inner (2 ^ tC T - 1) 0 _ N (by omega) lay hF h44 hin (fun b c1 c2 => by omega)
    have hM := hM1
    refine g_aload_n lk_12_48 rfl ?_
    refine g_getfield lk_12_49 rfl (layM1.on (by decide) rfl) (v := ((24 : Nat) : Int)) (layM1.rf rfl) ?_
    refine g_virtual (p := 24) (Qc := _) lk_12_52 rfl (Nat.le_of_ble_eq_true rfl) rfl rfl (layM1.on (by decide) rfl) (Nat.le_of_ble_eq_true rfl) (Nat.le_of_ble_eq_true rfl) (Nat.zero_le _) (Nat.zero_le _) (c_Table_allRows layM1 ht hT hM) ?_
    rintro _ N1 ⟨rfl, hN1⟩
    rw [hN1]
    show Wp _ 12 55 [(2, ((104 : Nat) : Int)), (9, 0), (9, 0), (9, 0), (9, 0), (9, 0)] [(0, ((2 ^ tR T - 1 : Nat) : Int))] M1 _ _ _
    refine g_istore_n (ls' := [(2, ((104 : Nat) : Int)), (0, ((2 ^ tR T - 1 : Nat) : Int)), (9, 0), (9, 0), (9, 0), (9, 0)]) lk_12_55 rfl rfl ?_
    refine g_aload_n lk_12_56 rfl ?_
    refine g_getfield lk_12_57 rfl (layM1.on (by decide) rfl) (v := ((24 : Nat) : Int)) (layM1.rf rfl) ?_
    refine g_virtual (p := 24) (Qc := _) lk_12_60 rfl (Nat.le_of_ble_eq_true rfl) rfl rfl (layM1.on (by decide) rfl) (Nat.le_of_ble_eq_true rfl) (Nat.le_of_ble_eq_true rfl) (Nat.zero_le _) (Nat.zero_le _) (c_Table_allColumns layM1 ht hT hM) ?_
    rintro _ N2 ⟨rfl, hN2⟩
    rw [hN2]
    show Wp _ 12 63 [(2, ((104 : Nat) : Int)), (0, ((2 ^ tR T - 1 : Nat) : Int)), (9, 0), (9, 0), (9, 0), (9, 0)] [(0, ((2 ^ tC T - 1 : Nat) : Int))] M1 _ _ _
    refine g_istore_n (ls' := [(2, ((104 : Nat) : Int)), (0, ((2 ^ tR T - 1 : Nat) : Int)), (0, ((2 ^ tC T - 1 : Nat) : Int)), (9, 0), (9, 0), (9, 0)]) lk_12_63 rfl rfl ?_
    refine g_iconst lk_12_64 ?_
    refine g_istore_n (ls' := [(2, ((104 : Nat) : Int)), (0, ((2 ^ tR T - 1 : Nat) : Int)), (0, ((2 ^ tC T - 1 : Nat) : Int)), (0, 1), (9, 0), (9, 0)]) lk_12_65 rfl rfl ?_
    exact rows (2 ^ tR T - 1) 0 _ _ M1 (by omega) layM1 (Fr.refl _ _) (fun _ _ => rfl) (fun a b c1 c2 => by omega)
  have k13 : ∀ M1 : pm_M, Lay M1 → Fr [104] M M1 → pm_ct M1 104 5 = 1 → (∀ k, k ≠ 5 → pm_ct M1 104 k = pm_ct M 104 k) → Wp (d + 3) 12 13 [(2, ((104 : Nat) : Int)), (9, 0), (9, 0), (9, 0), (9, 0), (9, 0)] [] M1 mc ms Q := by
    intro M1 layM1 F1 e5 eB
    obtain ⟨hw, i4, i5, i2, _, n, n4, hay, hf⟩ := hB0
    have sB : s ∉ [104] := fun q => own_ne hA0.1 (a := 104) rfl (List.mem_singleton.mp q).symm
    have hA1 : CA M1 T s fa := hA0.fr F1.gr (by rw [F1.ct (by decide)]) (by rw [F1.ct (by decide)]) sB
    have hM1 : TbAt M1 24 T := hM0.fr F1 (by decide) (by decide)
    have m1 : M1.1 = M.1 := F1.1
    have g1 : Gr [44, s, 104, w] M M1 := F1.gr.mono (fun a q => Or.inl (by simp at q; simp [q]))
    refine g_aload_n lk_12_13 rfl ?_
    refine g_getfield lk_12_14 rfl (layM1.on (by decide) rfl) (v := ((44 : Nat) : Int)) (layM1.rf rfl) ?_
    refine g_virtual (p := 44) (Qc := _) lk_12_17 rfl (Nat.le_of_ble_eq_true rfl) rfl rfl (layM1.on (by decide) rfl) (Nat.le_of_ble_eq_true rfl) (Nat.le_of_ble_eq_true rfl) (by omega) (by omega) (c_Areas_refresh (d := d) (mc := 1) (ms := 4096) layM1 hT hM1 hA1 (by omega) (by omega)) ?_
    rintro _ K2 ⟨rfl, lay2, hM2, s', hs', hA2, g2, g2k⟩
    have hM := hM2
    have sN : 104 ∉ [44, s] := fun q => (by simp at q; exact own_ne hA0.1 (a := 104) rfl q)
    have wN : w ∉ [44, s] := fun q => (by simp at q; rcases q with q | q; exact own_ne hw (a := 44) rfl q.symm; exact hsw q.symm)
    have ayw : pm_ay M1 w 100 n := F1.ay hay
    have eK : pm_ct K2 104 = pm_ct M1 104 := g2.ct (by omega) sN
    have e4 : pm_ct K2 104 4 = ((w : Nat) : Int) := (by rw [eK, eB 4 (by decide)]; exact i4)
    have ayK : pm_ay K2 w 100 n := g2.ay ayw
    have g3 : Gr [44, s, 104, w] M K2 := g1.trans (g2.mono (fun a q => Or.inl (by simp at q; simp; omega)))
    have ss : s' = s ∨ M.1 ≤ s' := (by rcases hs' with q | q; exact Or.inl q; exact Or.inr (by omega))
    have swn : s' ≠ w := (by rcases hs' with q | q; rw [q]; exact hsw; have := ayw.2.1; omega)
    show Wp _ 12 20 [(2, ((104 : Nat) : Int)), (9, 0), (9, 0), (9, 0), (9, 0), (9, 0)] [] K2 _ _ _
    refine g_aload_n lk_12_20 rfl ?_
    refine m_getfield (u := []) (M := K2) lk_12_21 rfl (lay2.on (by decide) rfl) (v := ((w : Nat) : Int)) e4 ?_
    refine g_arraylength (n := n) lk_12_24 (by decide) ayK ?_
    refine g_aload_n lk_12_25 rfl ?_
    refine g_getfield lk_12_26 rfl (lay2.on (by decide) rfl) (v := ((44 : Nat) : Int)) (lay2.rf rfl) ?_
    refine g_virtual (p := 44) (Qc := _) lk_12_29 rfl (Nat.le_of_ble_eq_true rfl) rfl rfl (lay2.on (by decide) rfl) (Nat.le_of_ble_eq_true rfl) (Nat.le_of_ble_eq_true rfl) (Nat.zero_le _) (Nat.zero_le _) (c_Areas_size lay2 hT hM) ?_
    rintro _ N1 ⟨rfl, hN1⟩
    rw [hN1]
    show Wp _ 12 32 [(2, ((104 : Nat) : Int)), (9, 0), (9, 0), (9, 0), (9, 0), (9, 0)] [(0, (siz T : Int)), (0, ((n : Nat) : Int))] K2 _ _ _
    refine g_icmp (t := 48) lk_12_32 rfl (by first | (unfold pm_inI; omega) | exact pm_and_in _ _ | exact pm_shr_in _ _ | exact pm_or_in _ _ | exact pm_xor_in _ _ | exact pm_shl_in _ _ | exact pm_cmp_in _ _ | exact pm_b8_in _ | (unfold pm_inI; split <;> omega)) (by first | (unfold pm_inI; omega) | exact pm_and_in _ _ | exact pm_shr_in _ _ | exact pm_or_in _ _ | exact pm_xor_in _ _ | exact pm_shl_in _ _ | exact pm_cmp_in _ _ | exact pm_b8_in _ | (unfold pm_inI; split <;> omega)) (fun h2 => ?_) (fun h2 => ?_)
    · replace h2 : (siz T : Int) ≤ ((n : Nat) : Int) := h2
      exact k48 s' w n K2 _ _ lay2 hM2 hA2 hw swn e4 (by rw [eK]; exact e5) (by rw [eK, eB 2 (by decide)]; exact i2) (by rw [eK, eB 6 (by decide)]) ayK n4 (by omega) ss (Or.inl rfl) g3
    · replace h2 : ¬ ((siz T : Int) ≤ ((n : Nat) : Int)) := h2
      refine g_aload_n lk_12_35 rfl ?_
      refine g_aload_n lk_12_36 rfl ?_
      refine g_getfield lk_12_37 rfl (lay2.on (by decide) rfl) (v := ((44 : Nat) : Int)) (lay2.rf rfl) ?_
      refine g_virtual (p := 44) (Qc := _) lk_12_40 rfl (Nat.le_of_ble_eq_true rfl) rfl rfl (lay2.on (by decide) rfl) (Nat.le_of_ble_eq_true rfl) (Nat.le_of_ble_eq_true rfl) (Nat.zero_le _) (Nat.zero_le _) (c_Areas_size lay2 hT hM) ?_
      rintro _ N3 ⟨rfl, hN3⟩
      rw [hN3]
      show Wp _ 12 43 [(2, ((104 : Nat) : Int)), (9, 0), (9, 0), (9, 0), (9, 0), (9, 0)] [(0, (siz T : Int)), (2, ((104 : Nat) : Int))] K2 _ _ _
      refine g_newarray (n := siz T) lk_12_43 (by omega) (by omega) (by omega) ?_
      have ln := lay2.new (100, siz T, fun _ => 0)
      refine g_putfield lk_12_45 rfl (ln.on (by decide) rfl) (fun h => absurd h (by decide)) ?_
      have K157 := lay2.1
      have gN : Gr [] K2 (pm_new K2 (100, siz T, fun _ => 0)) := Gr.new
      have ctB : pm_ct (pm_new K2 (100, siz T, fun _ => 0)) 104 = pm_ct K2 104 := gN.ct (by omega) (by simp)
      have K1 := g3.1
      have aA := hA2.2.2.2.2
      have sK : s' < K2.1 := (by obtain ⟨_, _, a, _⟩ := aA; exact a.2.1)
      have fU := Fr.up (M := pm_new K2 (100, siz T, fun _ => 0)) (a := 104) (f := pm_upd (pm_ct (pm_new K2 (100, siz T, fun _ => 0)) 104) 4 ((K2.1 : Nat) : Int)) (S := [104]) (by simp) rfl
      have gU := (gN.mono (S' := [104]) (fun a q => by cases q)).trans fU.gr
      refine k48 s' K2.1 (siz T) _ _ _ (ln.upF rfl) (hM2.gr gU (by omega) (by decide) (by decide)) (hA2.fr gU (by rw [gU.ct (by omega) (by decide)]) (by rw [gU.ct (by omega) (by decide)]) (fun q => own_ne hA2.1 (a := 104) rfl (List.mem_singleton.mp q).symm)) (by unfold own; omega) (by omega) ?_ ?_ ?_ ?_ ?_ (by omega) (Nat.le_refl _) ss (Or.inr (by omega)) (g3.trans (gU.mono (fun a q => Or.inl (by simp at q; simp [q]))))
      · rw [pm_ct_eq, pm_upd_eq]
      · rw [pm_ct_eq, pm_upd_ne (by decide), ctB, eK]; exact e5
      · rw [pm_ct_eq, pm_upd_ne (by decide), ctB, eK, eB 2 (by decide)]; exact i2
      · rw [pm_ct_eq, pm_upd_ne (by decide), ctB, eK, eB 6 (by decide)]
      · exact pm_ay_up.mpr (new_ay (by omega))
  have i5 := hB0.2.2.1
  have f1 := hB0.2.2.2.2.1
  show Wp (d + 3) 12 0 [(2, ((104 : Nat) : Int)), (9, 0), (9, 0), (9, 0), (9, 0), (9, 0)] [] M mc ms Q
  refine g_aload_n lk_12_0 rfl ?_
  refine m_getfield (u := []) (M := M) lk_12_1 rfl (lay0.on (by decide) rfl) (v := (f : Int)) i5 ?_
  refine g_if (t := 8) lk_12_4 rfl (by first | (unfold pm_inI; omega) | exact pm_and_in _ _ | exact pm_shr_in _ _ | exact pm_or_in _ _ | exact pm_xor_in _ _ | exact pm_shl_in _ _ | exact pm_cmp_in _ _ | exact pm_b8_in _ | (unfold pm_inI; split <;> omega)) (fun h1 => ?_) (fun h1 => ?_)
  · replace h1 : (f : Int) = 0 := h1
    refine g_aload_n lk_12_8 rfl ?_
    refine g_iconst lk_12_9 ?_
    have lay2 : Lay (Mu [(104, pm_upd (pm_ct M 104) 5 1)] M) := lay0.muF (l := []) (a := 104) (k := 5) (z := 1) rfl rfl
    refine m_putfield (u := []) (u' := [(104, pm_upd (pm_ct M 104) 5 1)]) (M := M) lk_12_10 rfl (lay0.on (by decide) rfl) (fun _ => by omega) rfl ?_
    refine k13 _ lay2 (Fr.mu _ _ rfl) (by rw [Mu_ct]; rfl) (fun k hk => by rw [Mu_ct]; exact upd_ne hk)
  · replace h1 : ¬ ((f : Int) = 0) := h1
    refine g_return lk_12_7 ?_
    rw [hQ]
    have f9 : f = 1 := by omega
    have a9 := hff f9
    subst f9; subst a9
    exact ⟨rfl, lay0, hM0, s, w, hA0, hB0, Or.inl rfl, Or.inl rfl, hsw, Gr.refl _ _, rfl⟩
set_option maxHeartbeats 4000000 in
theorem c_Best_worthOf1 {d mc ms : Nat} {M : pm_M} (lay0 : Lay M) {T : Tab} (hT : TabOK T) (hM0 : TbAt M 24 T) {s fa w f : Nat} (hA0 : CA M T s fa) (hB0 : CB M T 1 104 w f) (hff : f = 1 → fa = 1) (hsw : s ≠ w) (b1 : 2 ≤ mc) (b2 : 8192 ≤ ms) {rs cs : Nat} (r1 : 1 ≤ rs) (r2 : rs < 2 ^ tR T) (c1 : 1 ≤ cs) (c2 : cs < 2 ^ tC T) :
    pm_E (d + 4) 11 [(2, ((104 : Nat) : Int)), (0, (rs : Int)), (0, (cs : Int))] M mc ms (fun ρ M' => ρ = some (0, (BW T 1 rs cs : Int)) ∧ Lay M' ∧ TbAt M' 24 T ∧ ∃ s' w', CA M' T s' 1 ∧ CB M' T 1 104 w' 1 ∧ (s' = s ∨ M.1 ≤ s') ∧ (w' = w ∨ M.1 ≤ w') ∧ s' ≠ w' ∧ Gr [44, s, 104, w] M M' ∧ pm_ct M' 104 6 = pm_ct M 104 6) := by
  have r64 := lt_64_of hT.1.2 r2
  have z4 := siz_le hT
  have nl := num_lt (T := T) r2 c2
  show Wp (d + 4) 11 0 [(2, ((104 : Nat) : Int)), (0, (rs : Int)), (0, (cs : Int)), (9, 0)] [] M mc ms _
  refine g_aload_n lk_11_0 rfl ?_
  refine g_virtual (p := 104) (Qc := _) lk_11_1 rfl (Nat.le_of_ble_eq_true rfl) rfl rfl (lay0.on (by decide) rfl) (Nat.le_of_ble_eq_true rfl) (Nat.le_of_ble_eq_true rfl) (by omega) (by omega) (c_Best_solve1 (d := d) (mc := 2) (ms := 8192) lay0 hT hM0 hA0 hB0 hff hsw (by omega) (by omega)) ?_
  rintro _ K1 ⟨rfl, lay1, hM, s', w', hA1, hB1, ss, ww, sw, gg, g6⟩
  have hB2 := hB1
  obtain ⟨hw, i4, i5, i2, _, n, n4, hay, hf⟩ := hB2
  obtain ⟨hn, hwo⟩ := hf rfl
  have rd := hwo rs cs r1 r2 c1 c2
  show Wp _ 11 4 [(2, ((104 : Nat) : Int)), (0, (rs : Int)), (0, (cs : Int)), (9, 0)] [] K1 _ _ _
  refine g_aload_n lk_11_4 rfl ?_
  refine g_getfield lk_11_5 rfl (lay1.on (by decide) rfl) (v := ((44 : Nat) : Int)) (lay1.rf rfl) ?_
  refine g_iload_n lk_11_8 rfl ?_
  refine g_iload_n lk_11_9 rfl ?_
  refine g_virtual (p := 44) (Qc := _) lk_11_10 rfl (Nat.le_of_ble_eq_true rfl) rfl rfl (lay1.on (by decide) rfl) (Nat.le_of_ble_eq_true rfl) (Nat.le_of_ble_eq_true rfl) (Nat.zero_le _) (Nat.zero_le _) (c_Areas_numberOf lay1 hT hM (by omega) (by omega)) ?_
  rintro _ N1 ⟨rfl, hN1⟩
  rw [hN1]
  show Wp _ 11 13 [(2, ((104 : Nat) : Int)), (0, (rs : Int)), (0, (cs : Int)), (9, 0)] [(0, (num T rs cs : Int))] K1 _ _ _
  refine g_istore_n (ls' := [(2, ((104 : Nat) : Int)), (0, (rs : Int)), (0, (cs : Int)), (0, (num T rs cs : Int))]) lk_11_13 rfl rfl ?_
  refine g_iload_n lk_11_14 rfl ?_
  refine g_if (t := 36) lk_11_15 rfl (by first | (unfold pm_inI; omega) | exact pm_and_in _ _ | exact pm_shr_in _ _ | exact pm_or_in _ _ | exact pm_xor_in _ _ | exact pm_shl_in _ _ | exact pm_cmp_in _ _ | exact pm_b8_in _ | (unfold pm_inI; split <;> omega)) (fun h2 => ?_) (fun h2 => ?_)
  · replace h2 : (num T rs cs : Int) < 0 := h2
    omega
  · replace h2 : ¬ ((num T rs cs : Int) < 0) := h2
    refine g_iload_n lk_11_18 rfl ?_
    refine g_aload_n lk_11_19 rfl ?_
    refine m_getfield (u := []) (M := K1) lk_11_20 rfl (lay1.on (by decide) rfl) (v := ((w' : Nat) : Int)) i4 ?_
    refine g_arraylength (n := n) lk_11_23 (by decide) hay ?_
    refine g_icmp (t := 36) lk_11_24 rfl (by first | (unfold pm_inI; omega) | exact pm_and_in _ _ | exact pm_shr_in _ _ | exact pm_or_in _ _ | exact pm_xor_in _ _ | exact pm_shl_in _ _ | exact pm_cmp_in _ _ | exact pm_b8_in _ | (unfold pm_inI; split <;> omega)) (by first | (unfold pm_inI; omega) | exact pm_and_in _ _ | exact pm_shr_in _ _ | exact pm_or_in _ _ | exact pm_xor_in _ _ | exact pm_shl_in _ _ | exact pm_cmp_in _ _ | exact pm_b8_in _ | (unfold pm_inI; split <;> omega)) (fun h3 => ?_) (fun h3 => ?_)
    · replace h3 : ((n : Nat) : Int) ≤ (num T rs cs : Int) := h3
      omega
    · replace h3 : ¬ (((n : Nat) : Int) ≤ (num T rs cs : Int)) := h3
      refine g_aload_n lk_11_27 rfl ?_
      refine m_getfield (u := []) (M := K1) lk_11_28 rfl (lay1.on (by decide) rfl) (v := ((w' : Nat) : Int)) i4 ?_
      refine g_iload_n lk_11_31 rfl ?_
      refine g_iaload lk_11_32 hay (by omega) (v := (BW T 1 rs cs : Int)) rd ?_
      refine g_goto (t := 37) lk_11_33 rfl ?_
      refine g_ireturn lk_11_37 (fun h => absurd h (by decide)) ?_
      exact ⟨rfl, lay1, hM, s', w', hA1, hB1, ss, ww, sw, gg, g6⟩
set_option maxHeartbeats 8000000 in
theorem c_Best_solve2 {d mc ms : Nat} {M : pm_M} (lay0 : Lay M) {T : Tab} (hT : TabOK T) (hM0 : TbAt M 24 T) {s fa w f : Nat} (hA0 : CA M T s fa) (hB0 : CB M T 2 110 w f) (hff : f = 1 → fa = 1) (hsw : s ≠ w) (b1 : 2 ≤ mc) (b2 : 8192 ≤ ms) :
    pm_E (d + 3) 12 [(2, ((110 : Nat) : Int))] M mc ms (fun ρ M' => ρ = none ∧ Lay M' ∧ TbAt M' 24 T ∧ ∃ s' w', CA M' T s' 1 ∧ CB M' T 2 110 w' 1 ∧ (s' = s ∨ M.1 ≤ s') ∧ (w' = w ∨ M.1 ≤ w') ∧ s' ≠ w' ∧ Gr [44, s, 110, w] M M' ∧ pm_ct M' 110 6 = pm_ct M 110 6) := by
  obtain ⟨Q, hQ⟩ : ∃ Q : pm_Q, Q = (fun ρ M' => ρ = none ∧ Lay M' ∧ TbAt M' 24 T ∧ ∃ s' w', CA M' T s' 1 ∧ CB M' T 2 110 w' 1 ∧ (s' = s ∨ M.1 ≤ s') ∧ (w' = w ∨ M.1 ≤ w') ∧ s' ≠ w' ∧ Gr [44, s, 110, w] M M' ∧ pm_ct M' 110 6 = pm_ct M 110 6) := ⟨_, rfl⟩
  rw [← hQ]
  have ht : (24 : Nat) = 4 ∨ (24 : Nat) = 24 := Or.inr rfl
  have hR6 := tR_64 hT
  have hC6 := tC_64 hT
  have pR : 1 ≤ 2 ^ tR T := Nat.one_le_two_pow
  have pC : 1 ≤ 2 ^ tC T := Nat.one_le_two_pow
  have z4 := siz_le hT
  have M157 := lay0.1
  -- all areas, one behind another
  have k48 : ∀ (s' w' n' : Nat) (M1 : pm_M) (mc ms : Nat), Lay M1 → TbAt M1 24 T → CA M1 T s' 1 → own w' → s' ≠ w' → pm_ct M1 110 4 = ((w' : Nat) : Int) → pm_ct M1 110 5 = 1 → pm_ct M1 110 2 = 2 → pm_ct M1 110 6 = pm_ct M 110 6 → pm_ay M1 w' 100 n' → n' ≤ 4096 → siz T ≤ n' → (s' = s ∨ M.1 ≤ s') → (w' = w ∨ M.1 ≤ w') → Gr [44, s, 110, w] M M1 → Wp (d + 3) 12 48 [(2, ((110 : Nat) : Int)), (9, 0), (9, 0), (9, 0), (9, 0), (9, 0)] [] M1 mc ms Q := by
    intro s' w' n' M1 mc ms layM1 hM1 hA1 hw' hne e4 e5 e2 e6 hay' n4 hn' hss hww hG
    have fre := own_fre hw'
    have w24 : 24 ∉ [44, w'] := fun q => by simp at q; exact own_ne hw' (a := 24) rfl q
    have w25 : 25 ∉ [44, w'] := fun q => by simp at q; exact own_ne hw' (a := 25) rfl q
    have wB : 110 ∉ [44, w'] := fun q => by simp at q; exact own_ne hw' (a := 110) rfl q
    have w44 : (44 : Nat) ≠ w' := own_ne hw' (a := 44) rfl
    have wS : s' ∉ [44, w'] := fun q => by
      simp at q
      rcases q with q | q
      · exact own_ne hA1.1 (a := 44) rfl q.symm
      · exact hne q
    have m44 : ∀ {A B : pm_M}, Fr [44] A B → Fr [44, w'] A B := fun h => h.mono (fun a q => by simp at q; simp [q])
    have fin : ∀ N : pm_M, Lay N → Fr [44, w'] M1 N → (∀ k, k ≠ 3 → pm_ct N 44 k = pm_ct M1 44 k) → WoOK N T 2 w' → Q none N := fun N l f k o => by
      rw [hQ]
      have eB := f.ct wB
      refine ⟨rfl, l, hM1.fr f w24 w25, s', w', hA1.fr f.gr (k 1 (by decide)) (k 2 (by decide)) wS, ⟨hw', by rw [eB]; exact e4, by rw [eB]; exact e5, by rw [eB]; exact e2, Nat.le_refl _, n', n4, f.ay hay', fun _ => ⟨hn', o⟩⟩, hss, hww, hne, ?_, by rw [eB]; exact e6⟩
      have g2 : Gr [w', 44, s, 110, w] M N := (hG.mono (fun a q => Or.inl (List.mem_cons_of_mem w' q))).trans (f.gr.mono (fun a q => Or.inl (by simp at q; simp; omega)))
      refine g2.mono (fun a q => ?_)
      rcases List.mem_cons.mp q with e | e
      · rcases hww with c | c
        · left; rw [e, c]; simp
        · right; omega
      · exact Or.inl e
    have rows : ∀ (k i : Nat) (v4 v5 : pm_V) (N : pm_M), i + k = 2 ^ tR T - 1 → Lay N → Fr [44, w'] M1 N → (∀ k, k ≠ 3 → pm_ct N 44 k = pm_ct M1 44 k) → (∀ rs cs, 1 ≤ rs → rs ≤ i → 1 ≤ cs → cs < 2 ^ tC T → pm_ct N w' (num T rs cs) = (BW T 2 rs cs : Int)) → Wp (d + 3) 12 66 [(2, ((110 : Nat) : Int)), (0, ((2 ^ tR T - 1 : Nat) : Int)), (0, ((2 ^ tC T - 1 : Nat) : Int)), (0, ((i + 1 : Nat) : Int)), v4, v5] [] N mc ms Q := by
      intro k
      induction k with
      | zero =>
        intro i v4 v5 N hi lay hF h44 hin
        refine g_iload_n lk_12_66 rfl ?_
        refine g_iload_n lk_12_67 rfl ?_
        refine g_icmp (t := 163) lk_12_68 rfl (by first | (unfold pm_inI; omega) | exact pm_and_in _ _ | exact pm_shr_in _ _ | exact pm_or_in _ _ | exact pm_xor_in _ _ | exact pm_shl_in _ _ | exact pm_cmp_in _ _ | exact pm_b8_in _ | (unfold pm_inI; split <;> omega)) (by first | (unfold pm_inI; omega) | exact pm_and_in _ _ | exact pm_shr_in _ _ | exact pm_or_in _ _ | exact pm_xor_in _ _ | exact pm_shl_in _ _ | exact pm_cmp_in _ _ | exact pm_b8_in _ | (unfold pm_inI; split <;> omega)) (fun h1 => ?_) (fun h1 => ?_)
        · replace h1 : ((2 ^ tR T - 1 : Nat) : Int) < ((i + 1 : Nat) : Int) := h1
          refine g_return lk_12_163 ?_
          exact fin N lay hF h44 (fun rs cs a1 a2 a3 a4 => hin rs cs a1 (by omega) a3 a4)
        · replace h1 : ¬ (((2 ^ tR T - 1 : Nat) : Int) < ((i + 1 : Nat) : Int)) := h1
          omega
      | succ k ih =>
        intro i v4 v5 N hi lay hF h44 hin
        obtain ⟨rs, hrs⟩ : ∃ rs, rs = i + 1 := ⟨_, rfl⟩
        have inner : ∀ (k j : Nat) (v5 : pm_V) (N : pm_M), j + k = 2 ^ tC T - 1 → Lay N → Fr [44, w'] M1 N → (∀ k, k ≠ 3 → pm_ct N 44 k = pm_ct M1 44 k) → (∀ rs' cs, 1 ≤ rs' → rs' ≤ i → 1 ≤ cs → cs < 2 ^ tC T → pm_ct N w' (num T rs' cs) = (BW T 2 rs' cs : Int)) → (∀ cs, 1 ≤ cs → cs ≤ j → pm_ct N w' (num T rs cs) = (BW T 2 rs cs : Int)) → Wp (d + 3) 12 74 [(2, ((110 : Nat) : Int)), (0, ((2 ^ tR T - 1 : Nat) : Int)), (0, ((2 ^ tC T - 1 : Nat) : Int)), (0, (rs : Int)), (0, ((j + 1 : Nat) : Int)), v5] [] N mc ms Q := by
          intro k
          induction k with
          | zero =>
            intro j v5 N hj lay hF h44 hin hro
            have := fun v4 v5 => ih (i + 1) v4 v5 N (by omega) lay hF h44 (fun a b c1 c2 c3 c4 => by
              by_cases e : a = rs
              · rw [e]; exact hro b c3 (by omega)
              · exact hin a b c1 (by omega) c3 c4)
            rw [← hrs] at this
            refine g_iload lk_12_74 rfl ?_
            refine g_iload_n lk_12_76 rfl ?_
            refine g_icmp (t := 157) lk_12_77 rfl (by first | (unfold pm_inI; omega) | exact pm_and_in _ _ | exact pm_shr_in _ _ | exact pm_or_in _ _ | exact pm_xor_in _ _ | exact pm_shl_in _ _ | exact pm_cmp_in _ _ | exact pm_b8_in _ | (unfold pm_inI; split <;> omega)) (by first | (unfold pm_inI; omega) | exact pm_and_in _ _ | exact pm_shr_in _ _ | exact pm_or_in _ _ | exact pm_xor_in _ _ | exact pm_shl_in _ _ | exact pm_cmp_in _ _ | exact pm_b8_in _ | (unfold pm_inI; split <;> omega)) (fun h1 => ?_) (fun h1 => ?_)
            · replace h1 : ((2 ^ tC T - 1 : Nat) : Int) < ((j + 1 : Nat) : Int) := h1
              refine g_iinc (ls' := [(2, ((110 : Nat) : Int)), (0, ((2 ^ tR T - 1 : Nat) : Int)), (0, ((2 ^ tC T - 1 : Nat) : Int)), (0, ((rs : Int) + 1)), (0, ((j + 1 : Nat) : Int)), v5]) lk_12_157 rfl rfl rfl ?_
              refine g_goto (t := 66) lk_12_160 rfl ?_
              exact this _ _
            · replace h1 : ¬ (((2 ^ tC T - 1 : Nat) : Int) < ((j + 1 : Nat) : Int)) := h1
              omega
          | succ k ihk =>
            intro j v5 N hj lay hF h44 hin hro
            obtain ⟨cs, hcs⟩ : ∃ cs, cs = j + 1 := ⟨_, rfl⟩
            rw [← hcs]
            have hM : TbAt N 24 T := hM1.fr hF w24 w25
            have hA : CA N T s' 1 := hA1.fr hF.gr (h44 1 (by decide)) (h44 2 (by decide)) wS
            have hayN := hF.ay hay'
            have eB := hF.ct wB
            have hh : pm_ct N 110 2 = 2 := by rw [eB]; exact e2
            have x4 : pm_ct N 110 4 = ((w' : Nat) : Int) := by rw [eB]; exact e4
            have nl := num_lt (T := T) (show rs < 2 ^ tR T by omega) (show cs < 2 ^ tC T by omega)
            have c64 : cs < 64 := by omega
            have bws := BW_s T 2 (show rs < 64 by omega) c64 (by omega) (by omega)
            have p1 := spl_far (sb 2) (fun q => BW T 2 q cs) rs
            have p2 := spl_far (sb 2) (fun q => BW T 2 rs q) cs
            have p3 := prc_le hT hT.2.2.2.1.2 2 rs cs
            have p4 := prc_le hT hT.2.2.2.2.2 2 rs cs
            obtain ⟨xA, hxA⟩ : ∃ x, x = spl (sb 2) (fun q => BW T 2 q cs) rs + prc T 2 (tA T) rs cs := ⟨_, rfl⟩
            obtain ⟨xB, hxB⟩ : ∃ x, x = spl (sb 2) (fun q => BW T 2 rs q) cs + prc T 2 (tB T) rs cs := ⟨_, rfl⟩
            have tA1 := c_Best_talkOfA2 (d := d) (mc := 0) (ms := 0) lay hT hM hA hh hw' x4 hayN hn' (rs := rs) (cs := cs) (by omega) (by omega) (by omega) (by omega) (fun q a b => hin q cs a (by omega) (by omega) (by omega))
            rw [← hxA] at tA1 bws
            rw [← hxB] at bws
            have next : ∀ (v5 : pm_V) (N1 N' : pm_M) (z : Int), N' = pm_up N1 w' (pm_upd (pm_ct N1 w') (num T rs cs) z) → Lay N' → Fr [44, w'] N N1 → pm_ct N1 w' = pm_ct N w' → (∀ k, k ≠ 3 → pm_ct N1 44 k = pm_ct N 44 k) → z = (BW T 2 rs cs : Int) → Wp (d + 3) 12 74 [(2, ((110 : Nat) : Int)), (0, ((2 ^ tR T - 1 : Nat) : Int)), (0, ((2 ^ tC T - 1 : Nat) : Int)), (0, (rs : Int)), (0, ((cs + 1 : Nat) : Int)), v5] [] N' mc ms Q := by
              intro v5 N1 N' z hN' lay' f1 ew k1 hz
              have f2 : Fr [44, w'] N1 N' := Fr.up (by simp) hN'
              have := ihk (j + 1) v5 N' (by omega) lay' ((hF.trans f1).trans f2) (fun k hk => by rw [hN', pm_ct_ne w44]; rw [k1 k hk]; exact h44 k hk) (fun a b c1 c2 c3 c4 => ?_) (fun b c1 c2 => ?_)
              · rw [← hcs] at this; exact this
              · rw [up_ct hN', ew, pm_upd_ne (fun q => by have := (num_inj (T := T) c4 (by omega) q).1; omega)]; exact hin a b c1 c2 c3 c4
              · rw [up_ct hN', ew]
                by_cases e : b = cs
                · rw [e, pm_upd_eq, hz]
                · rw [pm_upd_ne (fun q => e (num_inj (T := T) (by omega) (by omega) q).2)]; exact hro b c1 (by omega)
            refine g_iload lk_12_74 rfl ?_
            refine g_iload_n lk_12_76 rfl ?_
            refine g_icmp (t := 157) lk_12_77 rfl (by first | (unfold pm_inI; omega) | exact pm_and_in _ _ | exact pm_shr_in _ _ | exact pm_or_in _ _ | exact pm_xor_in _ _ | exact pm_shl_in _ _ | exact pm_cmp_in _ _ | exact pm_b8_in _ | (unfold pm_inI; split <;> omega)) (by first | (unfold pm_inI; omega) | exact pm_and_in _ _ | exact pm_shr_in _ _ | exact pm_or_in _ _ | exact pm_xor_in _ _ | exact pm_shl_in _ _ | exact pm_cmp_in _ _ | exact pm_b8_in _ | (unfold pm_inI; split <;> omega)) (fun h1 => ?_) (fun h1 => ?_)
            · replace h1 : ((2 ^ tC T - 1 : Nat) : Int) < (cs : Int) := h1
              refine g_iinc (ls' := [(2, ((110 : Nat) : Int)), (0, ((2 ^ tR T - 1 : Nat) : Int)), (0, ((2 ^ tC T - 1 : Nat) : Int)), (0, ((rs : Int) + 1)), (0, (cs : Int)), v5]) lk_12_157 rfl rfl rfl ?_
              refine g_goto (t := 66) lk_12_160 rfl ?_
              omega
            · replace h1 : ¬ (((2 ^ tC T - 1 : Nat) : Int) < (cs : Int)) := h1
              refine g_aload_n lk_12_80 rfl ?_
              refine g_getfield lk_12_81 rfl (lay.on (by decide) rfl) (v := ((44 : Nat) : Int)) (lay.rf rfl) ?_
              refine g_iload_n lk_12_84 rfl ?_
              refine g_iload lk_12_85 rfl ?_
              refine g_virtual (p := 44) (Qc := _) lk_12_87 rfl (Nat.le_of_ble_eq_true rfl) rfl rfl (lay.on (by decide) rfl) (Nat.le_of_ble_eq_true rfl) (Nat.le_of_ble_eq_true rfl) (Nat.zero_le _) (Nat.zero_le _) (c_Areas_numberOf lay hT hM (by omega) (by omega)) ?_
              rintro _ N2 ⟨rfl, hN2⟩
              rw [hN2]
              show Wp _ 12 90 [(2, ((110 : Nat) : Int)), (0, ((2 ^ tR T - 1 : Nat) : Int)), (0, ((2 ^ tC T - 1 : Nat) : Int)), (0, (rs : Int)), (0, (cs : Int)), v5] [(0, (num T rs cs : Int))] N _ _ _
              refine g_istore (ls' := [(2, ((110 : Nat) : Int)), (0, ((2 ^ tR T - 1 : Nat) : Int)), (0, ((2 ^ tC T - 1 : Nat) : Int)), (0, (rs : Int)), (0, (cs : Int)), (0, (num T rs cs : Int))]) lk_12_90 rfl rfl ?_
              refine g_aload_n lk_12_92 rfl ?_
              refine g_getfield lk_12_93 rfl (lay.on (by decide) rfl) (v := ((44 : Nat) : Int)) (lay.rf rfl) ?_
              refine g_iload lk_12_96 rfl ?_
              refine g_virtual (p := 44) (Qc := _) lk_12_98 rfl (Nat.le_of_ble_eq_true rfl) rfl rfl (lay.on (by decide) rfl) (Nat.le_of_ble_eq_true rfl) (Nat.le_of_ble_eq_true rfl) (Nat.zero_le _) (Nat.zero_le _) (c_Areas_isOneValue lay hT hA (by omega) (by omega) (by omega) (by omega)) ?_
              rintro _ N3 ⟨rfl, hN3⟩
              rw [hN3]
              show Wp _ 12 101 [(2, ((110 : Nat) : Int)), (0, ((2 ^ tR T - 1 : Nat) : Int)), (0, ((2 ^ tC T - 1 : Nat) : Int)), (0, (rs : Int)), (0, (cs : Int)), (0, (num T rs cs : Int))] [(0, (if pop (vIn T rs cs) < 2 then (1 : Int) else 0))] N _ _ _
              refine g_if (t := 127) lk_12_101 rfl (by first | (unfold pm_inI; omega) | exact pm_and_in _ _ | exact pm_shr_in _ _ | exact pm_or_in _ _ | exact pm_xor_in _ _ | exact pm_shl_in _ _ | exact pm_cmp_in _ _ | exact pm_b8_in _ | (unfold pm_inI; split <;> omega)) (fun h4 => ?_) (fun h4 => ?_)
              · replace h4 : (if pop (vIn T rs cs) < 2 then (1 : Int) else 0) = 0 := h4
                refine g_aload_n lk_12_127 rfl ?_
                refine m_getfield (u := []) (M := N) lk_12_128 rfl (lay.on (by decide) rfl) (v := ((w' : Nat) : Int)) x4 ?_
                refine g_iload lk_12_131 rfl ?_
                refine g_aload_n lk_12_133 rfl ?_
                refine g_iload_n lk_12_134 rfl ?_
                refine g_iload lk_12_135 rfl ?_
                refine g_virtual (p := 110) (Qc := _) lk_12_137 rfl (Nat.le_of_ble_eq_true rfl) rfl rfl (lay.on (by decide) rfl) (Nat.le_of_ble_eq_true rfl) (Nat.le_of_ble_eq_true rfl) (Nat.zero_le _) (Nat.zero_le _) (tA1) ?_
                rintro _ K1 ⟨rfl, layA, pkA, fA, fA3, -, -⟩
                have hMA : TbAt K1 24 T := hM.fr fA (by decide) (by decide)
                have hAA : CA K1 T s' 1 := hA.fr fA.gr (fA3 1 (by decide)) (fA3 2 (by decide)) (fun q => wS (by simp at q; simp [q]))
                have ewA : pm_ct K1 w' = pm_ct N w' := fA.ct (fun q => w44 (List.mem_singleton.mp q).symm)
                have tB1 := c_Best_talkOfB2 (d := d) (mc := 0) (ms := 0) layA hT hMA hAA (by rw [fA.ct (by decide)]; exact hh) hw' (by rw [fA.ct (by decide)]; exact x4) (fA.ay hayN) hn' (rs := rs) (cs := cs) (by omega) (by omega) (by omega) (by omega) (fun q a b => by rw [ewA]; exact hro q a (by omega))
                rw [← hxB] at tB1
                show Wp _ 12 140 [(2, ((110 : Nat) : Int)), (0, ((2 ^ tR T - 1 : Nat) : Int)), (0, ((2 ^ tC T - 1 : Nat) : Int)), (0, (rs : Int)), (0, (cs : Int)), (0, (num T rs cs : Int))] [(0, (xA : Int)), (0, (num T rs cs : Int)), (2, ((w' : Nat) : Int))] K1 _ _ _
                refine g_aload_n lk_12_140 rfl ?_
                refine g_iload_n lk_12_141 rfl ?_
                refine g_iload lk_12_142 rfl ?_
                refine g_virtual (p := 110) (Qc := _) lk_12_144 rfl (Nat.le_of_ble_eq_true rfl) rfl rfl (layA.on (by decide) rfl) (Nat.le_of_ble_eq_true rfl) (Nat.le_of_ble_eq_true rfl) (Nat.zero_le _) (Nat.zero_le _) (tB1) ?_
                rintro _ K2 ⟨rfl, layB, pkB, fB, fB3, -, -⟩
                have ewB : pm_ct K2 w' = pm_ct N w' := (fB.ct (fun q => w44 (List.mem_singleton.mp q).symm)).trans ewA
                have hayK := fB.ay (fA.ay hayN)
                show Wp _ 12 147 [(2, ((110 : Nat) : Int)), (0, ((2 ^ tR T - 1 : Nat) : Int)), (0, ((2 ^ tC T - 1 : Nat) : Int)), (0, (rs : Int)), (0, (cs : Int)), (0, (num T rs cs : Int))] [(0, (xB : Int)), (0, (xA : Int)), (0, (num T rs cs : Int)), (2, ((w' : Nat) : Int))] K2 _ _ _
                refine g_mmin lk_12_147 (by first | (unfold pm_inI; omega) | exact pm_and_in _ _ | exact pm_shr_in _ _ | exact pm_or_in _ _ | exact pm_xor_in _ _ | exact pm_shl_in _ _ | exact pm_cmp_in _ _ | exact pm_b8_in _ | (unfold pm_inI; split <;> omega)) (by first | (unfold pm_inI; omega) | exact pm_and_in _ _ | exact pm_shr_in _ _ | exact pm_or_in _ _ | exact pm_xor_in _ _ | exact pm_shl_in _ _ | exact pm_cmp_in _ _ | exact pm_b8_in _ | (unfold pm_inI; split <;> omega)) (Nat.le_of_ble_eq_true rfl) ?_
                refine s_iastore (M := K2) lk_12_150 (by first | exact hayK | exact hayN) (by omega) (j := (num T rs cs)) (by omega) (fun N5 hN5 => ?_)
                have lay5 : Lay N5 := (by rw [hN5]; exact layB.upA fre)
                refine g_iinc (ls' := [(2, ((110 : Nat) : Int)), (0, ((2 ^ tR T - 1 : Nat) : Int)), (0, ((2 ^ tC T - 1 : Nat) : Int)), (0, (rs : Int)), (0, ((cs : Int) + 1)), (0, (num T rs cs : Int))]) lk_12_151 rfl rfl rfl ?_
                refine g_goto (t := 74) lk_12_154 rfl ?_
                have al : ¬ pop (vIn T rs cs) < 2 := fun q => by rw [if_pos q] at h4; cases h4
                rw [if_neg al] at bws
                exact next _ K2 N5 _ hN5 lay5 ((m44 fA).trans (m44 fB)) ewB (fun k hk => (fB3 k hk).trans (fA3 k hk)) (by rw [bws]; omega)
              · replace h4 : ¬ ((if pop (vIn T rs cs) < 2 then (1 : Int) else 0) = 0) := h4
                refine g_aload_n lk_12_104 rfl ?_
                refine m_getfield (u := []) (M := N) lk_12_105 rfl (lay.on (by decide) rfl) (v := ((w' : Nat) : Int)) x4 ?_
                refine g_iload lk_12_108 rfl ?_
                refine g_aload_n lk_12_110 rfl ?_
                refine m_getfield (u := []) (M := N) lk_12_111 rfl (lay.on (by decide) rfl) (v := 2) hh ?_
                refine g_iconst lk_12_114 ?_
                refine g_icmp (t := 122) lk_12_115 rfl (by first | (unfold pm_inI; omega) | exact pm_and_in _ _ | exact pm_shr_in _ _ | exact pm_or_in _ _ | exact pm_xor_in _ _ | exact pm_shl_in _ _ | exact pm_cmp_in _ _ | exact pm_b8_in _ | (unfold pm_inI; split <;> omega)) (by first | (unfold pm_inI; omega) | exact pm_and_in _ _ | exact pm_shr_in _ _ | exact pm_or_in _ _ | exact pm_xor_in _ _ | exact pm_shl_in _ _ | exact pm_cmp_in _ _ | exact pm_b8_in _ | (unfold pm_inI; split <;> omega)) (fun _ => ?_) (fun h => absurd (show ¬ (2 : Int) = (1 : Int) by omega) h)
                refine g_iconst lk_12_122 ?_
                refine s_iastore (M := N) lk_12_123 (by first | exact hayK | exact hayN) (by omega) (j := (num T rs cs)) (by omega) (fun N6 hN6 => ?_)
                have lay6 : Lay N6 := (by rw [hN6]; exact lay.upA fre)
                refine g_goto (t := 151) lk_12_124 rfl ?_
                refine g_iinc (ls' := [(2, ((110 : Nat) : Int)), (0, ((2 ^ tR T - 1 : Nat) : Int)), (0, ((2 ^ tC T - 1 : Nat) : Int)), (0, (rs : Int)), (0, ((cs : Int) + 1)), (0, (num T rs cs : Int))]) lk_12_151 rfl rfl rfl ?_
                refine g_goto (t := 74) lk_12_154 rfl ?_
                have al : pop (vIn T rs cs) < 2 := Classical.byContradiction (fun q => h4 (by rw [if_neg q]))
                rw [if_pos al] at bws
                exact next _ N N6 _ hN6 lay6 (Fr.refl _ _) rfl (fun _ _ => rfl) (by rw [bws]; rfl)
        rw [← hrs]
        refine g_iload_n lk_12_66 rfl ?_
        refine g_iload_n lk_12_67 rfl ?_
        refine g_icmp (t := 163) lk_12_68 rfl (by first | (unfold pm_inI; omega) | exact pm_and_in _ _ | exact pm_shr_in _ _ | exact pm_or_in _ _ | exact pm_xor_in _ _ | exact pm_shl_in _ _ | exact pm_cmp_in _ _ | exact pm_b8_in _ | (unfold pm_inI; split <;> omega)) (by first | (unfold pm_inI; omega) | exact pm_and_in _ _ | exact pm_shr_in _ _ | exact pm_or_in _ _ | exact pm_xor_in _ _ | exact pm_shl_in _ _ | exact pm_cmp_in _ _ | exact pm_b8_in _ | (unfold pm_inI; split <;> omega)) (fun h1 => ?_) (fun h1 => ?_)
        · replace h1 : ((2 ^ tR T - 1 : Nat) : Int) < (rs : Int) := h1
          refine g_return lk_12_163 ?_
          omega
        · replace h1 : ¬ (((2 ^ tR T - 1 : Nat) : Int) < (rs : Int)) := h1
          refine g_iconst lk_12_71 ?_
          refine g_istore (ls' := [(2, ((110 : Nat) : Int)), (0, ((2 ^ tR T - 1 : Nat) : Int)), (0, ((2 ^ tC T - 1 : Nat) : Int)), (0, (rs : Int)), (0, 1), v5]) lk_12_72 rfl rfl ?_
          exact inner (2 ^ tC T - 1) 0 _ N (by omega) lay hF h44 hin (fun b c1 c2 => by omega)
    have hM := hM1
    refine g_aload_n lk_12_48 rfl ?_
    refine g_getfield lk_12_49 rfl (layM1.on (by decide) rfl) (v := ((24 : Nat) : Int)) (layM1.rf rfl) ?_
    refine g_virtual (p := 24) (Qc := _) lk_12_52 rfl (Nat.le_of_ble_eq_true rfl) rfl rfl (layM1.on (by decide) rfl) (Nat.le_of_ble_eq_true rfl) (Nat.le_of_ble_eq_true rfl) (Nat.zero_le _) (Nat.zero_le _) (c_Table_allRows layM1 ht hT hM) ?_
    rintro _ N1 ⟨rfl, hN1⟩
    rw [hN1]
    show Wp _ 12 55 [(2, ((110 : Nat) : Int)), (9, 0), (9, 0), (9, 0), (9, 0), (9, 0)] [(0, ((2 ^ tR T - 1 : Nat) : Int))] M1 _ _ _
    refine g_istore_n (ls' := [(2, ((110 : Nat) : Int)), (0, ((2 ^ tR T - 1 : Nat) : Int)), (9, 0), (9, 0), (9, 0), (9, 0)]) lk_12_55 rfl rfl ?_
    refine g_aload_n lk_12_56 rfl ?_
    refine g_getfield lk_12_57 rfl (layM1.on (by decide) rfl) (v := ((24 : Nat) : Int)) (layM1.rf rfl) ?_
    refine g_virtual (p := 24) (Qc := _) lk_12_60 rfl (Nat.le_of_ble_eq_true rfl) rfl rfl (layM1.on (by decide) rfl) (Nat.le_of_ble_eq_true rfl) (Nat.le_of_ble_eq_true rfl) (Nat.zero_le _) (Nat.zero_le _) (c_Table_allColumns layM1 ht hT hM) ?_
    rintro _ N2 ⟨rfl, hN2⟩
    rw [hN2]
    show Wp _ 12 63 [(2, ((110 : Nat) : Int)), (0, ((2 ^ tR T - 1 : Nat) : Int)), (9, 0), (9, 0), (9, 0), (9, 0)] [(0, ((2 ^ tC T - 1 : Nat) : Int))] M1 _ _ _
    refine g_istore_n (ls' := [(2, ((110 : Nat) : Int)), (0, ((2 ^ tR T - 1 : Nat) : Int)), (0, ((2 ^ tC T - 1 : Nat) : Int)), (9, 0), (9, 0), (9, 0)]) lk_12_63 rfl rfl ?_
    refine g_iconst lk_12_64 ?_
    refine g_istore_n (ls' := [(2, ((110 : Nat) : Int)), (0, ((2 ^ tR T - 1 : Nat) : Int)), (0, ((2 ^ tC T - 1 : Nat) : Int)), (0, 1), (9, 0), (9, 0)]) lk_12_65 rfl rfl ?_
    exact rows (2 ^ tR T - 1) 0 _ _ M1 (by omega) layM1 (Fr.refl _ _) (fun _ _ => rfl) (fun a b c1 c2 => by omega)
  have k13 : ∀ M1 : pm_M, Lay M1 → Fr [110] M M1 → pm_ct M1 110 5 = 1 → (∀ k, k ≠ 5 → pm_ct M1 110 k = pm_ct M 110 k) → Wp (d + 3) 12 13 [(2, ((110 : Nat) : Int)), (9, 0), (9, 0), (9, 0), (9, 0), (9, 0)] [] M1 mc ms Q := by
    intro M1 layM1 F1 e5 eB
    obtain ⟨hw, i4, i5, i2, _, n, n4, hay, hf⟩ := hB0
    have sB : s ∉ [110] := fun q => own_ne hA0.1 (a := 110) rfl (List.mem_singleton.mp q).symm
    have hA1 : CA M1 T s fa := hA0.fr F1.gr (by rw [F1.ct (by decide)]) (by rw [F1.ct (by decide)]) sB
    have hM1 : TbAt M1 24 T := hM0.fr F1 (by decide) (by decide)
    have m1 : M1.1 = M.1 := F1.1
    have g1 : Gr [44, s, 110, w] M M1 := F1.gr.mono (fun a q => Or.inl (by simp at q; simp [q]))
    refine g_aload_n lk_12_13 rfl ?_
    refine g_getfield lk_12_14 rfl (layM1.on (by decide) rfl) (v := ((44 : Nat) : Int)) (layM1.rf rfl) ?_
    refine g_virtual (p := 44) (Qc := _) lk_12_17 rfl (Nat.le_of_ble_eq_true rfl) rfl rfl (layM1.on (by decide) rfl) (Nat.le_of_ble_eq_true rfl) (Nat.le_of_ble_eq_true rfl) (by omega) (by omega) (c_Areas_refresh (d := d) (mc := 1) (ms := 4096) layM1 hT hM1 hA1 (by omega) (by omega)) ?_
    rintro _ K2 ⟨rfl, lay2, hM2, s', hs', hA2, g2, g2k⟩
    have hM := hM2
    have sN : 110 ∉ [44, s] := fun q => (by simp at q; exact own_ne hA0.1 (a := 110) rfl q)
    have wN : w ∉ [44, s] := fun q => (by simp at q; rcases q with q | q; exact own_ne hw (a := 44) rfl q.symm; exact hsw q.symm)
    have ayw : pm_ay M1 w 100 n := F1.ay hay
    have eK : pm_ct K2 110 = pm_ct M1 110 := g2.ct (by omega) sN
    have e4 : pm_ct K2 110 4 = ((w : Nat) : Int) := (by rw [eK, eB 4 (by decide)]; exact i4)
    have ayK : pm_ay K2 w 100 n := g2.ay ayw
    have g3 : Gr [44, s, 110, w] M K2 := g1.trans (g2.mono (fun a q => Or.inl (by simp at q; simp; omega)))
    have ss : s' = s ∨ M.1 ≤ s' := (by rcases hs' with q | q; exact Or.inl q; exact Or.inr (by omega))
    have swn : s' ≠ w := (by rcases hs' with q | q; rw [q]; exact hsw; have := ayw.2.1; omega)
    show Wp _ 12 20 [(2, ((110 : Nat) : Int)), (9, 0), (9, 0), (9, 0), (9, 0), (9, 0)] [] K2 _ _ _
    refine g_aload_n lk_12_20 rfl ?_
    refine m_getfield (u := []) (M := K2) lk_12_21 rfl (lay2.on (by decide) rfl) (v := ((w : Nat) : Int)) e4 ?_
    refine g_arraylength (n := n) lk_12_24 (by decide) ayK ?_
    refine g_aload_n lk_12_25 rfl ?_
    refine g_getfield lk_12_26 rfl (lay2.on (by decide) rfl) (v := ((44 : Nat) : Int)) (lay2.rf rfl) ?_
    refine g_virtual (p := 44) (Qc := _) lk_12_29 rfl (Nat.le_of_ble_eq_true rfl) rfl rfl (lay2.on (by decide) rfl) (Nat.le_of_ble_eq_true rfl) (Nat.le_of_ble_eq_true rfl) (Nat.zero_le _) (Nat.zero_le _) (c_Areas_size lay2 hT hM) ?_
    rintro _ N1 ⟨rfl, hN1⟩
    rw [hN1]
    show Wp _ 12 32 [(2, ((110 : Nat) : Int)), (9, 0), (9, 0), (9, 0), (9, 0), (9, 0)] [(0, (siz T : Int)), (0, ((n : Nat) : Int))] K2 _ _ _
    refine g_icmp (t := 48) lk_12_32 rfl (by first | (unfold pm_inI; omega) | exact pm_and_in _ _ | exact pm_shr_in _ _ | exact pm_or_in _ _ | exact pm_xor_in _ _ | exact pm_shl_in _ _ | exact pm_cmp_in _ _ | exact pm_b8_in _ | (unfold pm_inI; split <;> omega)) (by first | (unfold pm_inI; omega) | exact pm_and_in _ _ | exact pm_shr_in _ _ | exact pm_or_in _ _ | exact pm_xor_in _ _ | exact pm_shl_in _ _ | exact pm_cmp_in _ _ | exact pm_b8_in _ | (unfold pm_inI; split <;> omega)) (fun h2 => ?_) (fun h2 => ?_)
    · replace h2 : (siz T : Int) ≤ ((n : Nat) : Int) := h2
      exact k48 s' w n K2 _ _ lay2 hM2 hA2 hw swn e4 (by rw [eK]; exact e5) (by rw [eK, eB 2 (by decide)]; exact i2) (by rw [eK, eB 6 (by decide)]) ayK n4 (by omega) ss (Or.inl rfl) g3
    · replace h2 : ¬ ((siz T : Int) ≤ ((n : Nat) : Int)) := h2
      refine g_aload_n lk_12_35 rfl ?_
      refine g_aload_n lk_12_36 rfl ?_
      refine g_getfield lk_12_37 rfl (lay2.on (by decide) rfl) (v := ((44 : Nat) : Int)) (lay2.rf rfl) ?_
      refine g_virtual (p := 44) (Qc := _) lk_12_40 rfl (Nat.le_of_ble_eq_true rfl) rfl rfl (lay2.on (by decide) rfl) (Nat.le_of_ble_eq_true rfl) (Nat.le_of_ble_eq_true rfl) (Nat.zero_le _) (Nat.zero_le _) (c_Areas_size lay2 hT hM) ?_
      rintro _ N3 ⟨rfl, hN3⟩
      rw [hN3]
      show Wp _ 12 43 [(2, ((110 : Nat) : Int)), (9, 0), (9, 0), (9, 0), (9, 0), (9, 0)] [(0, (siz T : Int)), (2, ((110 : Nat) : Int))] K2 _ _ _
      refine g_newarray (n := siz T) lk_12_43 (by omega) (by omega) (by omega) ?_
      have ln := lay2.new (100, siz T, fun _ => 0)
      refine g_putfield lk_12_45 rfl (ln.on (by decide) rfl) (fun h => absurd h (by decide)) ?_
      have K157 := lay2.1
      have gN : Gr [] K2 (pm_new K2 (100, siz T, fun _ => 0)) := Gr.new
      have ctB : pm_ct (pm_new K2 (100, siz T, fun _ => 0)) 110 = pm_ct K2 110 := gN.ct (by omega) (by simp)
      have K1 := g3.1
      have aA := hA2.2.2.2.2
      have sK : s' < K2.1 := (by obtain ⟨_, _, a, _⟩ := aA; exact a.2.1)
      have fU := Fr.up (M := pm_new K2 (100, siz T, fun _ => 0)) (a := 110) (f := pm_upd (pm_ct (pm_new K2 (100, siz T, fun _ => 0)) 110) 4 ((K2.1 : Nat) : Int)) (S := [110]) (by simp) rfl
      have gU := (gN.mono (S' := [110]) (fun a q => by cases q)).trans fU.gr
      refine k48 s' K2.1 (siz T) _ _ _ (ln.upF rfl) (hM2.gr gU (by omega) (by decide) (by decide)) (hA2.fr gU (by rw [gU.ct (by omega) (by decide)]) (by rw [gU.ct (by omega) (by decide)]) (fun q => own_ne hA2.1 (a := 110) rfl (List.mem_singleton.mp q).symm)) (by unfold own; omega) (by omega) ?_ ?_ ?_ ?_ ?_ (by omega) (Nat.le_refl _) ss (Or.inr (by omega)) (g3.trans (gU.mono (fun a q => Or.inl (by simp at q; simp [q]))))
      · rw [pm_ct_eq, pm_upd_eq]
      · rw [pm_ct_eq, pm_upd_ne (by decide), ctB, eK]; exact e5
      · rw [pm_ct_eq, pm_upd_ne (by decide), ctB, eK, eB 2 (by decide)]; exact i2
      · rw [pm_ct_eq, pm_upd_ne (by decide), ctB, eK, eB 6 (by decide)]
      · exact pm_ay_up.mpr (new_ay (by omega))
  have i5 := hB0.2.2.1
  have f1 := hB0.2.2.2.2.1
  show Wp (d + 3) 12 0 [(2, ((110 : Nat) : Int)), (9, 0), (9, 0), (9, 0), (9, 0), (9, 0)] [] M mc ms Q
  refine g_aload_n lk_12_0 rfl ?_
  refine m_getfield (u := []) (M := M) lk_12_1 rfl (lay0.on (by decide) rfl) (v := (f : Int)) i5 ?_
  refine g_if (t := 8) lk_12_4 rfl (by first | (unfold pm_inI; omega) | exact pm_and_in _ _ | exact pm_shr_in _ _ | exact pm_or_in _ _ | exact pm_xor_in _ _ | exact pm_shl_in _ _ | exact pm_cmp_in _ _ | exact pm_b8_in _ | (unfold pm_inI; split <;> omega)) (fun h1 => ?_) (fun h1 => ?_)
  · replace h1 : (f : Int) = 0 := h1
    refine g_aload_n lk_12_8 rfl ?_
    refine g_iconst lk_12_9 ?_
    have lay2 : Lay (Mu [(110, pm_upd (pm_ct M 110) 5 1)] M) := lay0.muF (l := []) (a := 110) (k := 5) (z := 1) rfl rfl
    refine m_putfield (u := []) (u' := [(110, pm_upd (pm_ct M 110) 5 1)]) (M := M) lk_12_10 rfl (lay0.on (by decide) rfl) (fun _ => by omega) rfl ?_
    refine k13 _ lay2 (Fr.mu _ _ rfl) (by rw [Mu_ct]; rfl) (fun k hk => by rw [Mu_ct]; exact upd_ne hk)
  · replace h1 : ¬ ((f : Int) = 0) := h1
    refine g_return lk_12_7 ?_
    rw [hQ]
    have f9 : f = 1 := by omega
    have a9 := hff f9
    subst f9; subst a9
    exact ⟨rfl, lay0, hM0, s, w, hA0, hB0, Or.inl rfl, Or.inl rfl, hsw, Gr.refl _ _, rfl⟩
set_option maxHeartbeats 4000000 in
theorem c_Best_worthOf2 {d mc ms : Nat} {M : pm_M} (lay0 : Lay M) {T : Tab} (hT : TabOK T) (hM0 : TbAt M 24 T) {s fa w f : Nat} (hA0 : CA M T s fa) (hB0 : CB M T 2 110 w f) (hff : f = 1 → fa = 1) (hsw : s ≠ w) (b1 : 2 ≤ mc) (b2 : 8192 ≤ ms) {rs cs : Nat} (r1 : 1 ≤ rs) (r2 : rs < 2 ^ tR T) (c1 : 1 ≤ cs) (c2 : cs < 2 ^ tC T) :
    pm_E (d + 4) 11 [(2, ((110 : Nat) : Int)), (0, (rs : Int)), (0, (cs : Int))] M mc ms (fun ρ M' => ρ = some (0, (BW T 2 rs cs : Int)) ∧ Lay M' ∧ TbAt M' 24 T ∧ ∃ s' w', CA M' T s' 1 ∧ CB M' T 2 110 w' 1 ∧ (s' = s ∨ M.1 ≤ s') ∧ (w' = w ∨ M.1 ≤ w') ∧ s' ≠ w' ∧ Gr [44, s, 110, w] M M' ∧ pm_ct M' 110 6 = pm_ct M 110 6) := by
  have r64 := lt_64_of hT.1.2 r2
  have z4 := siz_le hT
  have nl := num_lt (T := T) r2 c2
  show Wp (d + 4) 11 0 [(2, ((110 : Nat) : Int)), (0, (rs : Int)), (0, (cs : Int)), (9, 0)] [] M mc ms _
  refine g_aload_n lk_11_0 rfl ?_
  refine g_virtual (p := 110) (Qc := _) lk_11_1 rfl (Nat.le_of_ble_eq_true rfl) rfl rfl (lay0.on (by decide) rfl) (Nat.le_of_ble_eq_true rfl) (Nat.le_of_ble_eq_true rfl) (by omega) (by omega) (c_Best_solve2 (d := d) (mc := 2) (ms := 8192) lay0 hT hM0 hA0 hB0 hff hsw (by omega) (by omega)) ?_
  rintro _ K1 ⟨rfl, lay1, hM, s', w', hA1, hB1, ss, ww, sw, gg, g6⟩
  have hB2 := hB1
  obtain ⟨hw, i4, i5, i2, _, n, n4, hay, hf⟩ := hB2
  obtain ⟨hn, hwo⟩ := hf rfl
  have rd := hwo rs cs r1 r2 c1 c2
  show Wp _ 11 4 [(2, ((110 : Nat) : Int)), (0, (rs : Int)), (0, (cs : Int)), (9, 0)] [] K1 _ _ _
  refine g_aload_n lk_11_4 rfl ?_
  refine g_getfield lk_11_5 rfl (lay1.on (by decide) rfl) (v := ((44 : Nat) : Int)) (lay1.rf rfl) ?_
  refine g_iload_n lk_11_8 rfl ?_
  refine g_iload_n lk_11_9 rfl ?_
  refine g_virtual (p := 44) (Qc := _) lk_11_10 rfl (Nat.le_of_ble_eq_true rfl) rfl rfl (lay1.on (by decide) rfl) (Nat.le_of_ble_eq_true rfl) (Nat.le_of_ble_eq_true rfl) (Nat.zero_le _) (Nat.zero_le _) (c_Areas_numberOf lay1 hT hM (by omega) (by omega)) ?_
  rintro _ N1 ⟨rfl, hN1⟩
  rw [hN1]
  show Wp _ 11 13 [(2, ((110 : Nat) : Int)), (0, (rs : Int)), (0, (cs : Int)), (9, 0)] [(0, (num T rs cs : Int))] K1 _ _ _
  refine g_istore_n (ls' := [(2, ((110 : Nat) : Int)), (0, (rs : Int)), (0, (cs : Int)), (0, (num T rs cs : Int))]) lk_11_13 rfl rfl ?_
  refine g_iload_n lk_11_14 rfl ?_
  refine g_if (t := 36) lk_11_15 rfl (by first | (unfold pm_inI; omega) | exact pm_and_in _ _ | exact pm_shr_in _ _ | exact pm_or_in _ _ | exact pm_xor_in _ _ | exact pm_shl_in _ _ | exact pm_cmp_in _ _ | exact pm_b8_in _ | (unfold pm_inI; split <;> omega)) (fun h2 => ?_) (fun h2 => ?_)
  · replace h2 : (num T rs cs : Int) < 0 := h2
    omega
  · replace h2 : ¬ ((num T rs cs : Int) < 0) := h2
    refine g_iload_n lk_11_18 rfl ?_
    refine g_aload_n lk_11_19 rfl ?_
    refine m_getfield (u := []) (M := K1) lk_11_20 rfl (lay1.on (by decide) rfl) (v := ((w' : Nat) : Int)) i4 ?_
    refine g_arraylength (n := n) lk_11_23 (by decide) hay ?_
    refine g_icmp (t := 36) lk_11_24 rfl (by first | (unfold pm_inI; omega) | exact pm_and_in _ _ | exact pm_shr_in _ _ | exact pm_or_in _ _ | exact pm_xor_in _ _ | exact pm_shl_in _ _ | exact pm_cmp_in _ _ | exact pm_b8_in _ | (unfold pm_inI; split <;> omega)) (by first | (unfold pm_inI; omega) | exact pm_and_in _ _ | exact pm_shr_in _ _ | exact pm_or_in _ _ | exact pm_xor_in _ _ | exact pm_shl_in _ _ | exact pm_cmp_in _ _ | exact pm_b8_in _ | (unfold pm_inI; split <;> omega)) (fun h3 => ?_) (fun h3 => ?_)
    · replace h3 : ((n : Nat) : Int) ≤ (num T rs cs : Int) := h3
      omega
    · replace h3 : ¬ (((n : Nat) : Int) ≤ (num T rs cs : Int)) := h3
      refine g_aload_n lk_11_27 rfl ?_
      refine m_getfield (u := []) (M := K1) lk_11_28 rfl (lay1.on (by decide) rfl) (v := ((w' : Nat) : Int)) i4 ?_
      refine g_iload_n lk_11_31 rfl ?_
      refine g_iaload lk_11_32 hay (by omega) (v := (BW T 2 rs cs : Int)) rd ?_
      refine g_goto (t := 37) lk_11_33 rfl ?_
      refine g_ireturn lk_11_37 (fun h => absurd h (by decide)) ?_
      exact ⟨rfl, lay1, hM, s', w', hA1, hB1, ss, ww, sw, gg, g6⟩
