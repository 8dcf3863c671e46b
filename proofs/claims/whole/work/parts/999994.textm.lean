/-! ===== a text, the model ===== -/
abbrev beS : List Nat := [117, 120, 122, 123, 124, 125, 126]
abbrev beK : List Nat := [1, 2, 3, 49, 70]
set_option maxHeartbeats 8000000 in
theorem c_Mo_becomes {d mc ms : Nat} {M : pm_M} {T : Tab} {Ts : List Nt} (lay : Lay M) (hT : TabOK T) (hX : TabX T) (rt : RtM M T (tR T)) (q1 : pm_ct M 121 1 = (tA T : Int)) (q2 : pm_ct M 121 2 = (tB T : Int)) (ts : TrsM M Ts) (l4 : Ts.length ≤ 4) (ok : ∀ x, x ∈ Ts → NtOK x) (kd : KdM M 128) :
    pm_E d 198 [(2, ((116 : Nat) : Int))] M mc ms (fun ρ M' => ρ = none ∧ MF beS beK M M' ∧ pm_ct M' 116 3 = (Ts.length : Int) ∧ ∀ aa, StM M' T (tsN Ts) (psN Ts) (dpN Ts) 0 aa) := by
  obtain ⟨Q, hQ⟩ : ∃ Q : pm_Q, Q = (fun ρ M' => ρ = none ∧ MF beS beK M M' ∧ pm_ct M' 116 3 = (Ts.length : Int) ∧ ∀ aa, StM M' T (tsN Ts) (psN Ts) (dpN Ts) 0 aa) := ⟨_, rfl⟩
  rw [← hQ]
  obtain ⟨r4, r5, r8⟩ := rt
  have r6 := ts.1.1
  have hR6 := hT.1.2
  have hC6 := hT.2.1.2
  obtain ⟨R, hR⟩ : ∃ R, R = tR T := ⟨_, rfl⟩
  obtain ⟨C, hC⟩ : ∃ C, C = tC T := ⟨_, rfl⟩
  obtain ⟨l, hl⟩ : ∃ l, l = Ts.length := ⟨_, rfl⟩
  rw [← hR] at r4 hR6
  rw [← hC] at r5 hC6
  rw [← hl] at r6 l4
  show Wp d 198 0 [(2, ((116 : Nat) : Int)), (9, 0)] [] M mc ms Q
  have phC : ∀ (k i : Nat) (K : pm_M), i + k = 124 → Lay K → MF beS [1, 2, 3] M K → MoAt K T → pm_ct K 116 3 = (l : Int) → (∀ j, j < 4 → pm_ct K 122 j = pm_ct M 127 j) → (∀ j, j < i → pm_ct K 123 j = pm_ct M 128 j ∧ pm_ct K 124 j = pm_ct M 129 j ∧ pm_ct K 125 j = pm_ct M 130 j) → Wp d 198 128 [(2, ((116 : Nat) : Int)), (0, (i : Int))] [] K mc ms Q := by
    intro k
    induction k with
    | zero =>
      intro i K hi lK mK mo K3 h22 h23
      refine g_iload_n lk_198_128 rfl ?_
      refine g_bipush lk_198_129 ?_
      refine g_icmp (t := 188) lk_198_131 rfl (by first | (unfold pm_inI; omega) | exact pm_and_in _ _ | exact pm_shr_in _ _ | exact pm_or_in _ _ | exact pm_xor_in _ _ | exact pm_shl_in _ _ | exact pm_cmp_in _ _ | exact pm_b8_in _ | (unfold pm_inI; split <;> omega)) (by first | (unfold pm_inI; omega) | exact pm_and_in _ _ | exact pm_shr_in _ _ | exact pm_or_in _ _ | exact pm_xor_in _ _ | exact pm_shl_in _ _ | exact pm_cmp_in _ _ | exact pm_b8_in _ | (unfold pm_inI; split <;> omega)) (fun h1 => ?_) (fun h1 => ?_)
      · replace h1 : 124 ≤ (i : Int) := h1
        refine g_aload_n lk_198_188 rfl ?_
        refine g_iconst lk_198_189 ?_
        have lay2 : Lay (Mu [(116, pm_upd (pm_ct K 116) 70 0)] K) := lK.muF (l := []) (a := 116) (k := 70) (z := 0) rfl rfl
        refine m_putfield (u := []) (u' := [(116, pm_upd (pm_ct K 116) 70 0)]) (M := K) lk_198_190 rfl (lK.on (by decide) rfl) (fun h => absurd h (by decide)) rfl ?_
        refine g_aload_n lk_198_193 rfl ?_
        refine g_iconst lk_198_194 ?_
        have lay3 : Lay (Mu [(116, pm_upd (pm_upd (pm_ct K 116) 70 0) 49 0)] K) := lay2.muF (l := [(116, pm_upd (pm_ct K 116) 70 0)]) (a := 116) (k := 49) (z := 0) rfl rfl
        refine m_putfield (u := [(116, pm_upd (pm_ct K 116) 70 0)]) (u' := [(116, pm_upd (pm_upd (pm_ct K 116) 70 0) 49 0)]) (M := K) lk_198_195 rfl (lay2.on (by decide) rfl) (fun _ => by omega) rfl ?_
        refine g_return lk_198_198 ?_
        have m4 : MF [] [49, 70] K (Mu [(116, pm_upd (pm_upd (pm_ct K 116) 70 0) 49 0)] K) := MF.mu _ _ rfl (fun k hk => by show pm_upd (pm_upd (pm_ct K 116) 70 0) 49 0 k = _; rw [pm_upd_ne (by intro q; rw [q] at hk; exact hk (by decide)), pm_upd_ne (by intro q; rw [q] at hk; exact hk (by decide))])
        have mA : MF beS beK M (Mu [(116, pm_upd (pm_upd (pm_ct K 116) 70 0) 49 0)] K) := (mK.mono (fun a q => q) (fun a q => by simp at q ⊢; omega)).trans (m4.mono (fun a q => by cases q) (fun a q => by simp at q ⊢; omega))
        rw [hQ]
        refine ⟨rfl, mA, by rw [m4.fd (by decide), ← hl]; exact K3, fun aa => ⟨lay3, mo.mf m4 (by decide) (by decide) (by decide) (by decide), ⟨?_, ?_, fun t ht => ?_⟩, ⟨Nat.zero_le _, by rw [Mu_ct]; rfl, fun i hi => absurd hi (Nat.not_lt_zero i)⟩, ⟨0, by rw [Mu_ct]; rfl, Nat.zero_le _, fun q => absurd q (by decide)⟩, fun k hk => ?_⟩⟩
        · show (Ts.map nds).length ≤ 4
          rw [List.length_map, ← hl]; exact l4
        · show _ = ((Ts.map nds).length : Int)
          rw [List.length_map, ← hl, m4.fd (by decide)]; exact K3
        · have ht' : t < (Ts.map nds).length := ht
          rw [List.length_map] at ht'
          rw [tsN_getD]
          have gt := ntA_get ht'
          obtain ⟨b1, b2, b3⟩ := ts.2 t _ gt
          obtain ⟨_, _, tx⟩ := ok _ (List.mem_of_getElem? gt)
          have ln : (nds (ntA Ts t)).length = (ntA Ts t).2.length := List.length_map _
          refine ⟨⟨?_, fun j hj => ?_⟩, tx⟩
          · rw [m4.ct (by decide) (by decide), h22 t (by omega), ln]; exact b2
          · obtain ⟨c1, c2, c3⟩ := b3 j _ (ndA_get hj)
            obtain ⟨d1, d2, d3⟩ := h23 (31 * t + j) (by omega)
            rw [m4.ct (by decide) (by decide), m4.ct (by decide) (by decide), m4.ct (by decide) (by decide), d1, d2, d3]
            exact ⟨c1, c2, c3⟩
        · rw [m4.ct (by decide) (by decide), (h23 k (by omega)).1]; exact kd k hk
      · replace h1 : ¬ (124 ≤ (i : Int)) := h1
        omega
    | succ k ih =>
      intro i K hi lK mK mo K3 h22 h23
      obtain ⟨x1, y1⟩ : ∃ x, x = pm_ct M 128 i := ⟨_, rfl⟩
      obtain ⟨x2, y2⟩ : ∃ x, x = pm_ct M 129 i := ⟨_, rfl⟩
      obtain ⟨x3, y3⟩ : ∃ x, x = pm_ct M 130 i := ⟨_, rfl⟩
      obtain ⟨x4, y4⟩ : ∃ x, x = pm_ct M 131 i := ⟨_, rfl⟩
      have z1 : pm_ct K 128 i = x1 := by rw [mK.ct (by decide) (by decide), y1]
      have z2 : pm_ct K 129 i = x2 := by rw [mK.ct (by decide) (by decide), y2]
      have z3 : pm_ct K 130 i = x3 := by rw [mK.ct (by decide) (by decide), y3]
      have z4 : pm_ct K 131 i = x4 := by rw [mK.ct (by decide) (by decide), y4]
      have fd := fun N => ih (i + 1) N (by omega)
      clear ih
      refine g_iload_n lk_198_128 rfl ?_
      refine g_bipush lk_198_129 ?_
      refine g_icmp (t := 188) lk_198_131 rfl (by first | (unfold pm_inI; omega) | exact pm_and_in _ _ | exact pm_shr_in _ _ | exact pm_or_in _ _ | exact pm_xor_in _ _ | exact pm_shl_in _ _ | exact pm_cmp_in _ _ | exact pm_b8_in _ | (unfold pm_inI; split <;> omega)) (by first | (unfold pm_inI; omega) | exact pm_and_in _ _ | exact pm_shr_in _ _ | exact pm_or_in _ _ | exact pm_xor_in _ _ | exact pm_shl_in _ _ | exact pm_cmp_in _ _ | exact pm_b8_in _ | (unfold pm_inI; split <;> omega)) (fun h1 => ?_) (fun h1 => ?_)
      · replace h1 : 124 ≤ (i : Int) := h1
        omega
      · replace h1 : ¬ (124 ≤ (i : Int)) := h1
        refine g_aload_n lk_198_134 rfl ?_
        refine g_getfield lk_198_135 rfl (lK.on (by decide) rfl) (v := ((123 : Nat) : Int)) (lK.rf rfl) ?_
        refine g_iload_n lk_198_138 rfl ?_
        refine g_aload_n lk_198_139 rfl ?_
        refine g_getfield lk_198_140 rfl (lK.on (by decide) rfl) (v := ((128 : Nat) : Int)) (lK.rf rfl) ?_
        refine g_iload_n lk_198_143 rfl ?_
        refine m_iaload (u := []) (M := K) lk_198_144 (lK.ay (by decide) rfl) (by omega) (j := i) (by omega) (v := x1) z1 ?_
        have lay2 : Lay (Mu [(123, pm_upd (pm_ct K 123) i x1)] K) := lK.muA (l := []) (a := 123) (f := pm_upd (pm_ct K 123) i x1) rfl rfl
        refine m_iastore (u := []) (u' := [(123, pm_upd (pm_ct K 123) i x1)]) (M := K) lk_198_145 (lK.ay (by decide) rfl) (by omega) (j := i) (by omega) rfl ?_
        refine g_aload_n lk_198_146 rfl ?_
        refine g_getfield lk_198_147 rfl (lay2.on (by decide) rfl) (v := ((124 : Nat) : Int)) (lay2.rf rfl) ?_
        refine g_iload_n lk_198_150 rfl ?_
        refine g_aload_n lk_198_151 rfl ?_
        refine g_getfield lk_198_152 rfl (lay2.on (by decide) rfl) (v := ((129 : Nat) : Int)) (lay2.rf rfl) ?_
        refine g_iload_n lk_198_155 rfl ?_
        refine m_iaload (u := [(123, pm_upd (pm_ct K 123) i x1)]) (M := K) lk_198_156 (lay2.ay (by decide) rfl) (by omega) (j := i) (by omega) (v := x2) z2 ?_
        have lay3 : Lay (Mu [(123, pm_upd (pm_ct K 123) i x1), (124, pm_upd (pm_ct K 124) i x2)] K) := lay2.muA (l := [(123, pm_upd (pm_ct K 123) i x1)]) (a := 124) (f := pm_upd (pm_ct K 124) i x2) rfl rfl
        refine m_iastore (u := [(123, pm_upd (pm_ct K 123) i x1)]) (u' := [(123, pm_upd (pm_ct K 123) i x1), (124, pm_upd (pm_ct K 124) i x2)]) (M := K) lk_198_157 (lay2.ay (by decide) rfl) (by omega) (j := i) (by omega) rfl ?_
        refine g_aload_n lk_198_158 rfl ?_
        refine g_getfield lk_198_159 rfl (lay3.on (by decide) rfl) (v := ((125 : Nat) : Int)) (lay3.rf rfl) ?_
        refine g_iload_n lk_198_162 rfl ?_
        refine g_aload_n lk_198_163 rfl ?_
        refine g_getfield lk_198_164 rfl (lay3.on (by decide) rfl) (v := ((130 : Nat) : Int)) (lay3.rf rfl) ?_
        refine g_iload_n lk_198_167 rfl ?_
        refine m_iaload (u := [(123, pm_upd (pm_ct K 123) i x1), (124, pm_upd (pm_ct K 124) i x2)]) (M := K) lk_198_168 (lay3.ay (by decide) rfl) (by omega) (j := i) (by omega) (v := x3) z3 ?_
        have lay4 : Lay (Mu [(123, pm_upd (pm_ct K 123) i x1), (124, pm_upd (pm_ct K 124) i x2), (125, pm_upd (pm_ct K 125) i x3)] K) := lay3.muA (l := [(123, pm_upd (pm_ct K 123) i x1), (124, pm_upd (pm_ct K 124) i x2)]) (a := 125) (f := pm_upd (pm_ct K 125) i x3) rfl rfl
        refine m_iastore (u := [(123, pm_upd (pm_ct K 123) i x1), (124, pm_upd (pm_ct K 124) i x2)]) (u' := [(123, pm_upd (pm_ct K 123) i x1), (124, pm_upd (pm_ct K 124) i x2), (125, pm_upd (pm_ct K 125) i x3)]) (M := K) lk_198_169 (lay3.ay (by decide) rfl) (by omega) (j := i) (by omega) rfl ?_
        refine g_aload_n lk_198_170 rfl ?_
        refine g_getfield lk_198_171 rfl (lay4.on (by decide) rfl) (v := ((126 : Nat) : Int)) (lay4.rf rfl) ?_
        refine g_iload_n lk_198_174 rfl ?_
        refine g_aload_n lk_198_175 rfl ?_
        refine g_getfield lk_198_176 rfl (lay4.on (by decide) rfl) (v := ((131 : Nat) : Int)) (lay4.rf rfl) ?_
        refine g_iload_n lk_198_179 rfl ?_
        refine m_iaload (u := [(123, pm_upd (pm_ct K 123) i x1), (124, pm_upd (pm_ct K 124) i x2), (125, pm_upd (pm_ct K 125) i x3)]) (M := K) lk_198_180 (lay4.ay (by decide) rfl) (by omega) (j := i) (by omega) (v := x4) z4 ?_
        have lay5 : Lay (Mu [(123, pm_upd (pm_ct K 123) i x1), (124, pm_upd (pm_ct K 124) i x2), (125, pm_upd (pm_ct K 125) i x3), (126, pm_upd (pm_ct K 126) i x4)] K) := lay4.muA (l := [(123, pm_upd (pm_ct K 123) i x1), (124, pm_upd (pm_ct K 124) i x2), (125, pm_upd (pm_ct K 125) i x3)]) (a := 126) (f := pm_upd (pm_ct K 126) i x4) rfl rfl
        refine m_iastore (u := [(123, pm_upd (pm_ct K 123) i x1), (124, pm_upd (pm_ct K 124) i x2), (125, pm_upd (pm_ct K 125) i x3)]) (u' := [(123, pm_upd (pm_ct K 123) i x1), (124, pm_upd (pm_ct K 124) i x2), (125, pm_upd (pm_ct K 125) i x3), (126, pm_upd (pm_ct K 126) i x4)]) (M := K) lk_198_181 (lay4.ay (by decide) rfl) (by omega) (j := i) (by omega) rfl ?_
        refine g_iinc (ls' := [(2, ((116 : Nat) : Int)), (0, ((i : Int) + 1))]) lk_198_182 rfl rfl rfl ?_
        refine g_goto (t := 128) lk_198_185 rfl ?_
        have m4 : MF [123, 124, 125, 126] [] K (Mu [(123, pm_upd (pm_ct K 123) i x1), (124, pm_upd (pm_ct K 124) i x2), (125, pm_upd (pm_ct K 125) i x3), (126, pm_upd (pm_ct K 126) i x4)] K) := MF.mu _ _ rfl (fun _ _ => rfl)
        refine fd (Mu [(123, pm_upd (pm_ct K 123) i x1), (124, pm_upd (pm_ct K 124) i x2), (125, pm_upd (pm_ct K 125) i x3), (126, pm_upd (pm_ct K 126) i x4)] K) lay5 (mK.trans (m4.mono (fun a q => by simp at q ⊢; omega) (fun a q => by cases q))) (mo.mf m4 (by decide) (by decide) (by decide) (by decide)) (by rw [m4.fd (by decide)]; exact K3) (fun j hj => by rw [m4.ct (by decide) (by decide)]; exact h22 j hj) (fun j hj => ?_)
        rw [Mu_ct, Mu_ct, Mu_ct]
        show pm_upd (pm_ct K 123) i x1 j = _ ∧ pm_upd (pm_ct K 124) i x2 j = _ ∧ pm_upd (pm_ct K 125) i x3 j = _
        by_cases e : j = i
        · rw [e, pm_upd_eq, pm_upd_eq, pm_upd_eq]; exact ⟨y1, y2, y3⟩
        · rw [pm_upd_ne e, pm_upd_ne e, pm_upd_ne e]; exact h23 j (by omega)
  have phB : ∀ (k i : Nat) (K : pm_M), i + k = 4 → Lay K → MF beS [1, 2, 3] M K → MoAt K T → pm_ct K 116 3 = (l : Int) → (∀ j, j < i → pm_ct K 122 j = pm_ct M 127 j) → Wp d 198 103 [(2, ((116 : Nat) : Int)), (0, (i : Int))] [] K mc ms Q := by
    intro k
    induction k with
    | zero =>
      intro i K hi lK mK mo K3 h22
      refine g_iload_n lk_198_103 rfl ?_
      refine g_iconst lk_198_104 ?_
      refine g_icmp (t := 126) lk_198_105 rfl (by first | (unfold pm_inI; omega) | exact pm_and_in _ _ | exact pm_shr_in _ _ | exact pm_or_in _ _ | exact pm_xor_in _ _ | exact pm_shl_in _ _ | exact pm_cmp_in _ _ | exact pm_b8_in _ | (unfold pm_inI; split <;> omega)) (by first | (unfold pm_inI; omega) | exact pm_and_in _ _ | exact pm_shr_in _ _ | exact pm_or_in _ _ | exact pm_xor_in _ _ | exact pm_shl_in _ _ | exact pm_cmp_in _ _ | exact pm_b8_in _ | (unfold pm_inI; split <;> omega)) (fun h1 => ?_) (fun h1 => ?_)
      · replace h1 : 4 ≤ (i : Int) := h1
        refine g_iconst lk_198_126 ?_
        refine g_istore_n (ls' := [(2, ((116 : Nat) : Int)), (0, 0)]) lk_198_127 rfl rfl ?_
        exact phC 124 0 K (by omega) lK mK mo K3 (fun j hj => h22 j (by omega)) (fun j hj => absurd hj (Nat.not_lt_zero j))
      · replace h1 : ¬ (4 ≤ (i : Int)) := h1
        omega
    | succ k ih =>
      intro i K hi lK mK mo K3 h22
      obtain ⟨x1, y1⟩ : ∃ x, x = pm_ct M 127 i := ⟨_, rfl⟩
      have z1 : pm_ct K 127 i = x1 := by rw [mK.ct (by decide) (by decide), y1]
      have fd := fun N => ih (i + 1) N (by omega)
      clear ih
      refine g_iload_n lk_198_103 rfl ?_
      refine g_iconst lk_198_104 ?_
      refine g_icmp (t := 126) lk_198_105 rfl (by first | (unfold pm_inI; omega) | exact pm_and_in _ _ | exact pm_shr_in _ _ | exact pm_or_in _ _ | exact pm_xor_in _ _ | exact pm_shl_in _ _ | exact pm_cmp_in _ _ | exact pm_b8_in _ | (unfold pm_inI; split <;> omega)) (by first | (unfold pm_inI; omega) | exact pm_and_in _ _ | exact pm_shr_in _ _ | exact pm_or_in _ _ | exact pm_xor_in _ _ | exact pm_shl_in _ _ | exact pm_cmp_in _ _ | exact pm_b8_in _ | (unfold pm_inI; split <;> omega)) (fun h1 => ?_) (fun h1 => ?_)
      · replace h1 : 4 ≤ (i : Int) := h1
        omega
      · replace h1 : ¬ (4 ≤ (i : Int)) := h1
        refine g_aload_n lk_198_108 rfl ?_
        refine g_getfield lk_198_109 rfl (lK.on (by decide) rfl) (v := ((122 : Nat) : Int)) (lK.rf rfl) ?_
        refine g_iload_n lk_198_112 rfl ?_
        refine g_aload_n lk_198_113 rfl ?_
        refine g_getfield lk_198_114 rfl (lK.on (by decide) rfl) (v := ((127 : Nat) : Int)) (lK.rf rfl) ?_
        refine g_iload_n lk_198_117 rfl ?_
        refine m_iaload (u := []) (M := K) lk_198_118 (lK.ay (by decide) rfl) (by omega) (j := i) (by omega) (v := x1) z1 ?_
        have lay2 : Lay (Mu [(122, pm_upd (pm_ct K 122) i x1)] K) := lK.muA (l := []) (a := 122) (f := pm_upd (pm_ct K 122) i x1) rfl rfl
        refine m_iastore (u := []) (u' := [(122, pm_upd (pm_ct K 122) i x1)]) (M := K) lk_198_119 (lK.ay (by decide) rfl) (by omega) (j := i) (by omega) rfl ?_
        refine g_iinc (ls' := [(2, ((116 : Nat) : Int)), (0, ((i : Int) + 1))]) lk_198_120 rfl rfl rfl ?_
        refine g_goto (t := 103) lk_198_123 rfl ?_
        have m4 : MF [122] [] K (Mu [(122, pm_upd (pm_ct K 122) i x1)] K) := MF.mu _ _ rfl (fun _ _ => rfl)
        refine fd (Mu [(122, pm_upd (pm_ct K 122) i x1)] K) lay2 (mK.trans (m4.mono (fun a q => by simp at q ⊢; omega) (fun a q => by cases q))) (mo.mf m4 (by decide) (by decide) (by decide) (by decide)) (by rw [m4.fd (by decide)]; exact K3) (fun j hj => ?_)
        rw [Mu_ct]
        show pm_upd (pm_ct K 122) i x1 j = _
        by_cases e : j = i
        · rw [e, pm_upd_eq]; exact y1
        · rw [pm_upd_ne e]; exact h22 j (by omega)
  have phA : ∀ (k i : Nat) (K : pm_M), i + k = 36 → Lay K → MF beS [1, 2, 3] M K → pm_ct K 116 1 = (R : Int) → pm_ct K 116 2 = (C : Int) → pm_ct K 116 3 = (l : Int) → (∀ j, j < i → pm_ct K 117 j = (tX T j : Int)) → Wp d 198 26 [(2, ((116 : Nat) : Int)), (0, (i : Int))] [] K mc ms Q := by
    intro k
    induction k with
    | zero =>
      intro i K hi lK mK K1 K2 K3 h17
      have z1 : pm_ct K 121 1 = (tA T : Int) := by rw [mK.ct (by decide) (by decide)]; exact q1
      have z2 : pm_ct K 121 2 = (tB T : Int) := by rw [mK.ct (by decide) (by decide)]; exact q2
      refine g_iload_n lk_198_26 rfl ?_
      refine g_bipush lk_198_27 ?_
      refine g_icmp (t := 77) lk_198_29 rfl (by first | (unfold pm_inI; omega) | exact pm_and_in _ _ | exact pm_shr_in _ _ | exact pm_or_in _ _ | exact pm_xor_in _ _ | exact pm_shl_in _ _ | exact pm_cmp_in _ _ | exact pm_b8_in _ | (unfold pm_inI; split <;> omega)) (by first | (unfold pm_inI; omega) | exact pm_and_in _ _ | exact pm_shr_in _ _ | exact pm_or_in _ _ | exact pm_xor_in _ _ | exact pm_shl_in _ _ | exact pm_cmp_in _ _ | exact pm_b8_in _ | (unfold pm_inI; split <;> omega)) (fun h1 => ?_) (fun h1 => ?_)
      · replace h1 : 36 ≤ (i : Int) := h1
        refine g_aload_n lk_198_77 rfl ?_
        refine g_getfield lk_198_78 rfl (lK.on (by decide) rfl) (v := ((120 : Nat) : Int)) (lK.rf rfl) ?_
        refine g_iconst lk_198_81 ?_
        refine g_aload_n lk_198_82 rfl ?_
        refine g_getfield lk_198_83 rfl (lK.on (by decide) rfl) (v := ((121 : Nat) : Int)) (lK.rf rfl) ?_
        refine g_iconst lk_198_86 ?_
        refine m_iaload (u := []) (M := K) lk_198_87 (lK.ay (by decide) rfl) (by omega) (j := 1) (by omega) (v := (tA T : Int)) z1 ?_
        have lay2 : Lay (Mu [(120, pm_upd (pm_ct K 120) 1 (tA T : Int))] K) := lK.muA (l := []) (a := 120) (f := pm_upd (pm_ct K 120) 1 (tA T : Int)) rfl rfl
        refine m_iastore (u := []) (u' := [(120, pm_upd (pm_ct K 120) 1 (tA T : Int))]) (M := K) lk_198_88 (lK.ay (by decide) rfl) (by omega) (j := 1) (by omega) rfl ?_
        refine g_aload_n lk_198_89 rfl ?_
        refine g_getfield lk_198_90 rfl (lay2.on (by decide) rfl) (v := ((120 : Nat) : Int)) (lay2.rf rfl) ?_
        refine g_iconst lk_198_93 ?_
        refine g_aload_n lk_198_94 rfl ?_
        refine g_getfield lk_198_95 rfl (lay2.on (by decide) rfl) (v := ((121 : Nat) : Int)) (lay2.rf rfl) ?_
        refine g_iconst lk_198_98 ?_
        refine m_iaload (u := [(120, pm_upd (pm_ct K 120) 1 (tA T : Int))]) (M := K) lk_198_99 (lay2.ay (by decide) rfl) (by omega) (j := 2) (by omega) (v := (tB T : Int)) z2 ?_
        have lay3 : Lay (Mu [(120, pm_upd (pm_upd (pm_ct K 120) 1 (tA T : Int)) 2 (tB T : Int))] K) := lay2.muA (l := [(120, pm_upd (pm_ct K 120) 1 (tA T : Int))]) (a := 120) (f := pm_upd (pm_upd (pm_ct K 120) 1 (tA T : Int)) 2 (tB T : Int)) rfl rfl
        refine m_iastore (u := [(120, pm_upd (pm_ct K 120) 1 (tA T : Int))]) (u' := [(120, pm_upd (pm_upd (pm_ct K 120) 1 (tA T : Int)) 2 (tB T : Int))]) (M := K) lk_198_100 (lay2.ay (by decide) rfl) (by omega) (j := 2) (by omega) rfl ?_
        refine g_iconst lk_198_101 ?_
        refine g_istore_n (ls' := [(2, ((116 : Nat) : Int)), (0, 0)]) lk_198_102 rfl rfl ?_
        have m4 : MF [120] [] K (Mu [(120, pm_upd (pm_upd (pm_ct K 120) 1 (tA T : Int)) 2 (tB T : Int))] K) := MF.mu _ _ rfl (fun _ _ => rfl)
        exact phB 4 0 (Mu [(120, pm_upd (pm_upd (pm_ct K 120) 1 (tA T : Int)) 2 (tB T : Int))] K) (by omega) lay3 (mK.trans (m4.mono (fun a q => by simp at q ⊢; omega) (fun a q => by cases q))) ⟨by rw [m4.fd (by decide), ← hR]; exact K1, by rw [m4.fd (by decide), ← hC]; exact K2, by rw [Mu_ct]; rfl, by rw [Mu_ct]; rfl, fun j hj => by rw [m4.ct (by decide) (by decide)]; exact h17 j (by omega)⟩ (by rw [m4.fd (by decide)]; exact K3) (fun j hj => absurd hj (Nat.not_lt_zero j))
      · replace h1 : ¬ (36 ≤ (i : Int)) := h1
        omega
    | succ k ih =>
      intro i K hi lK mK K1 K2 K3 h17
      have xx := hX i (by omega)
      have r8i := r8 i
      rw [← hR, ← hC] at xx r8i
      obtain ⟨i6, hi6⟩ : ∃ x, x = i / 6 := ⟨_, rfl⟩
      obtain ⟨im, him⟩ : ∃ x, x = i % 6 := ⟨_, rfl⟩
      have e1 : (i : Int).tdiv 6 = (i6 : Int) := by rw [hi6]; rfl
      have e2 : (i : Int).tmod 6 = (im : Int) := by rw [him]; rfl
      obtain ⟨y, hy⟩ : ∃ y, y = pm_ct M 118 i := ⟨_, rfl⟩
      have z8 : pm_ct K 118 i = y := by rw [mK.ct (by decide) (by decide), hy]
      have nx : ∀ (v : Int) (N : pm_M), v = (tX T i : Int) → Lay N → MF [117] [] K N → pm_ct N 117 = pm_upd (pm_ct K 117) i v → Wp d 198 26 [(2, ((116 : Nat) : Int)), (0, ((i + 1 : Nat) : Int))] [] N mc ms Q := fun v N hv lN mN c7 => ih (i + 1) N (by omega) lN (mK.trans (mN.mono (fun a q => by simp at q ⊢; omega) (fun a q => by cases q))) (by rw [mN.fd (by decide)]; exact K1) (by rw [mN.fd (by decide)]; exact K2) (by rw [mN.fd (by decide)]; exact K3) (fun j hj => by
        rw [c7]
        by_cases e : j = i
        · rw [e, pm_upd_eq, hv]
        · rw [pm_upd_ne e]; exact h17 j (by omega))
      have vin : i6 < R → im < C → y = (tX T i : Int) := fun a b => by rw [hy]; exact r8i (by omega) (by omega)
      have vou : ¬ (i6 < R ∧ im < C) → (10 : Int) = (tX T i : Int) := fun a => by
        rcases xx with q | q
        · exact absurd (by rw [hi6, him]; exact q) a
        · rw [q]; rfl
      clear ih
      refine g_iload_n lk_198_26 rfl ?_
      refine g_bipush lk_198_27 ?_
      refine g_icmp (t := 77) lk_198_29 rfl (by first | (unfold pm_inI; omega) | exact pm_and_in _ _ | exact pm_shr_in _ _ | exact pm_or_in _ _ | exact pm_xor_in _ _ | exact pm_shl_in _ _ | exact pm_cmp_in _ _ | exact pm_b8_in _ | (unfold pm_inI; split <;> omega)) (by first | (unfold pm_inI; omega) | exact pm_and_in _ _ | exact pm_shr_in _ _ | exact pm_or_in _ _ | exact pm_xor_in _ _ | exact pm_shl_in _ _ | exact pm_cmp_in _ _ | exact pm_b8_in _ | (unfold pm_inI; split <;> omega)) (fun h1 => ?_) (fun h1 => ?_)
      · replace h1 : 36 ≤ (i : Int) := h1
        omega
      · replace h1 : ¬ (36 ≤ (i : Int)) := h1
        refine g_aload_n lk_198_32 rfl ?_
        refine g_getfield lk_198_33 rfl (lK.on (by decide) rfl) (v := ((117 : Nat) : Int)) (lK.rf rfl) ?_
        refine g_iload_n lk_198_36 rfl ?_
        refine g_iload_n lk_198_37 rfl ?_
        refine g_bipush lk_198_38 ?_
        refine g_idiv lk_198_40 (by unfold pm_inI; omega) (by unfold pm_inI; omega) (by omega) ?_
        refine g_top (z := ((i : Int).tdiv 6)) (z' := (i6 : Int)) (e1) ?_
        refine g_aload_n lk_198_41 rfl ?_
        refine m_getfield (u := []) (M := K) lk_198_42 rfl (lK.on (by decide) rfl) (v := (R : Int)) K1 ?_
        refine g_icmp (t := 68) lk_198_45 rfl (by first | (unfold pm_inI; omega) | exact pm_and_in _ _ | exact pm_shr_in _ _ | exact pm_or_in _ _ | exact pm_xor_in _ _ | exact pm_shl_in _ _ | exact pm_cmp_in _ _ | exact pm_b8_in _ | (unfold pm_inI; split <;> omega)) (by first | (unfold pm_inI; omega) | exact pm_and_in _ _ | exact pm_shr_in _ _ | exact pm_or_in _ _ | exact pm_xor_in _ _ | exact pm_shl_in _ _ | exact pm_cmp_in _ _ | exact pm_b8_in _ | (unfold pm_inI; split <;> omega)) (fun h2 => ?_) (fun h2 => ?_)
        · replace h2 : (R : Int) ≤ (i6 : Int) := h2
          refine g_bipush lk_198_68 ?_
          have lay3 : Lay (Mu [(117, pm_upd (pm_ct K 117) i 10)] K) := lK.muA (l := []) (a := 117) (f := pm_upd (pm_ct K 117) i 10) rfl rfl
          refine m_iastore (u := []) (u' := [(117, pm_upd (pm_ct K 117) i 10)]) (M := K) lk_198_70 (lK.ay (by decide) rfl) (by omega) (j := i) (by omega) rfl ?_
          refine g_iinc (ls' := [(2, ((116 : Nat) : Int)), (0, ((i : Int) + 1))]) lk_198_71 rfl rfl rfl ?_
          refine g_goto (t := 26) lk_198_74 rfl ?_
          first | exact nx _ (Mu [(117, pm_upd (pm_ct K 117) i 10)] K) (vin (by omega) (by omega)) lay3 (MF.mu _ _ rfl (fun _ _ => rfl)) (by rw [Mu_ct]; rfl) | exact nx _ (Mu [(117, pm_upd (pm_ct K 117) i 10)] K) (vou (by omega)) lay3 (MF.mu _ _ rfl (fun _ _ => rfl)) (by rw [Mu_ct]; rfl)
        · replace h2 : ¬ ((R : Int) ≤ (i6 : Int)) := h2
          refine g_iload_n lk_198_48 rfl ?_
          refine g_bipush lk_198_49 ?_
          refine g_irem lk_198_51 (by unfold pm_inI; omega) (by unfold pm_inI; omega) (by omega) ?_
          refine g_top (z := ((i : Int).tmod 6)) (z' := (im : Int)) (e2) ?_
          refine g_aload_n lk_198_52 rfl ?_
          refine m_getfield (u := []) (M := K) lk_198_53 rfl (lK.on (by decide) rfl) (v := (C : Int)) K2 ?_
          refine g_icmp (t := 68) lk_198_56 rfl (by first | (unfold pm_inI; omega) | exact pm_and_in _ _ | exact pm_shr_in _ _ | exact pm_or_in _ _ | exact pm_xor_in _ _ | exact pm_shl_in _ _ | exact pm_cmp_in _ _ | exact pm_b8_in _ | (unfold pm_inI; split <;> omega)) (by first | (unfold pm_inI; omega) | exact pm_and_in _ _ | exact pm_shr_in _ _ | exact pm_or_in _ _ | exact pm_xor_in _ _ | exact pm_shl_in _ _ | exact pm_cmp_in _ _ | exact pm_b8_in _ | (unfold pm_inI; split <;> omega)) (fun h4 => ?_) (fun h4 => ?_)
          · replace h4 : (C : Int) ≤ (im : Int) := h4
            refine g_bipush lk_198_68 ?_
            have lay5 : Lay (Mu [(117, pm_upd (pm_ct K 117) i 10)] K) := lK.muA (l := []) (a := 117) (f := pm_upd (pm_ct K 117) i 10) rfl rfl
            refine m_iastore (u := []) (u' := [(117, pm_upd (pm_ct K 117) i 10)]) (M := K) lk_198_70 (lK.ay (by decide) rfl) (by omega) (j := i) (by omega) rfl ?_
            refine g_iinc (ls' := [(2, ((116 : Nat) : Int)), (0, ((i : Int) + 1))]) lk_198_71 rfl rfl rfl ?_
            refine g_goto (t := 26) lk_198_74 rfl ?_
            first | exact nx _ (Mu [(117, pm_upd (pm_ct K 117) i 10)] K) (vin (by omega) (by omega)) lay5 (MF.mu _ _ rfl (fun _ _ => rfl)) (by rw [Mu_ct]; rfl) | exact nx _ (Mu [(117, pm_upd (pm_ct K 117) i 10)] K) (vou (by omega)) lay5 (MF.mu _ _ rfl (fun _ _ => rfl)) (by rw [Mu_ct]; rfl)
          · replace h4 : ¬ ((C : Int) ≤ (im : Int)) := h4
            refine g_aload_n lk_198_59 rfl ?_
            refine g_getfield lk_198_60 rfl (lK.on (by decide) rfl) (v := ((118 : Nat) : Int)) (lK.rf rfl) ?_
            refine g_iload_n lk_198_63 rfl ?_
            refine m_iaload (u := []) (M := K) lk_198_64 (lK.ay (by decide) rfl) (by omega) (j := i) (by omega) (v := y) z8 ?_
            refine g_goto (t := 70) lk_198_65 rfl ?_
            have lay6 : Lay (Mu [(117, pm_upd (pm_ct K 117) i y)] K) := lK.muA (l := []) (a := 117) (f := pm_upd (pm_ct K 117) i y) rfl rfl
            refine m_iastore (u := []) (u' := [(117, pm_upd (pm_ct K 117) i y)]) (M := K) lk_198_70 (lK.ay (by decide) rfl) (by omega) (j := i) (by omega) rfl ?_
            refine g_iinc (ls' := [(2, ((116 : Nat) : Int)), (0, ((i : Int) + 1))]) lk_198_71 rfl rfl rfl ?_
            refine g_goto (t := 26) lk_198_74 rfl ?_
            first | exact nx _ (Mu [(117, pm_upd (pm_ct K 117) i y)] K) (vin (by omega) (by omega)) lay6 (MF.mu _ _ rfl (fun _ _ => rfl)) (by rw [Mu_ct]; rfl) | exact nx _ (Mu [(117, pm_upd (pm_ct K 117) i y)] K) (vou (by omega)) lay6 (MF.mu _ _ rfl (fun _ _ => rfl)) (by rw [Mu_ct]; rfl)
  refine g_aload_n lk_198_0 rfl ?_
  refine g_aload_n lk_198_1 rfl ?_
  refine m_getfield (u := []) (M := M) lk_198_2 rfl (lay.on (by decide) rfl) (v := (R : Int)) r4 ?_
  have lay1 : Lay (Mu [(116, pm_upd (pm_ct M 116) 1 (R : Int))] M) := lay.muF (l := []) (a := 116) (k := 1) (z := (R : Int)) rfl rfl
  refine m_putfield (u := []) (u' := [(116, pm_upd (pm_ct M 116) 1 (R : Int))]) (M := M) lk_198_5 rfl (lay.on (by decide) rfl) (fun h => absurd h (by decide)) rfl ?_
  refine g_aload_n lk_198_8 rfl ?_
  refine g_aload_n lk_198_9 rfl ?_
  refine m_getfield (u := [(116, pm_upd (pm_ct M 116) 1 (R : Int))]) (M := M) lk_198_10 rfl (lay1.on (by decide) rfl) (v := (C : Int)) r5 ?_
  have lay2 : Lay (Mu [(116, pm_upd (pm_upd (pm_ct M 116) 1 (R : Int)) 2 (C : Int))] M) := lay1.muF (l := [(116, pm_upd (pm_ct M 116) 1 (R : Int))]) (a := 116) (k := 2) (z := (C : Int)) rfl rfl
  refine m_putfield (u := [(116, pm_upd (pm_ct M 116) 1 (R : Int))]) (u' := [(116, pm_upd (pm_upd (pm_ct M 116) 1 (R : Int)) 2 (C : Int))]) (M := M) lk_198_13 rfl (lay1.on (by decide) rfl) (fun h => absurd h (by decide)) rfl ?_
  refine g_aload_n lk_198_16 rfl ?_
  refine g_aload_n lk_198_17 rfl ?_
  refine m_getfield (u := [(116, pm_upd (pm_upd (pm_ct M 116) 1 (R : Int)) 2 (C : Int))]) (M := M) lk_198_18 rfl (lay2.on (by decide) rfl) (v := (l : Int)) r6 ?_
  have lay3 : Lay (Mu [(116, pm_upd (pm_upd (pm_upd (pm_ct M 116) 1 (R : Int)) 2 (C : Int)) 3 (l : Int))] M) := lay2.muF (l := [(116, pm_upd (pm_upd (pm_ct M 116) 1 (R : Int)) 2 (C : Int))]) (a := 116) (k := 3) (z := (l : Int)) rfl rfl
  refine m_putfield (u := [(116, pm_upd (pm_upd (pm_ct M 116) 1 (R : Int)) 2 (C : Int))]) (u' := [(116, pm_upd (pm_upd (pm_upd (pm_ct M 116) 1 (R : Int)) 2 (C : Int)) 3 (l : Int))]) (M := M) lk_198_21 rfl (lay2.on (by decide) rfl) (fun h => absurd h (by decide)) rfl ?_
  refine g_iconst lk_198_24 ?_
  refine g_istore_n (ls' := [(2, ((116 : Nat) : Int)), (0, 0)]) lk_198_25 rfl rfl ?_
  exact phA 36 0 (Mu [(116, pm_upd (pm_upd (pm_upd (pm_ct M 116) 1 (R : Int)) 2 (C : Int)) 3 (l : Int))] M) (by omega) lay3 (MF.mu _ _ rfl (fun k hk => by show pm_upd (pm_upd (pm_upd (pm_ct M 116) 1 _) 2 _) 3 _ k = _; rw [pm_upd_ne (by intro q; rw [q] at hk; exact hk (by decide)), pm_upd_ne (by intro q; rw [q] at hk; exact hk (by decide)), pm_upd_ne (by intro q; rw [q] at hk; exact hk (by decide))])) (by rw [Mu_ct]; rfl) (by rw [Mu_ct]; rfl) (by rw [Mu_ct]; rfl) (fun j hj => absurd hj (Nat.not_lt_zero j))
