/-! ===== Turns: the answers ===== -/
def TQ (T : Tab) (k : Nat) : Nat := min (TW T 0 k (2 ^ tR T - 1) (2 ^ tC T - 1)) (TW T 1 k (2 ^ tR T - 1) (2 ^ tC T - 1))
/-- what Turns holds: r answers, ch is 1 while things change -/
def CT (M : pm_M) (T : Tab) (ga gb r ch : Nat) : Prop := own ga ∧ own gb ∧ ga ≠ gb ∧ pm_ct M 47 3 = ((ga : Nat) : Int) ∧ pm_ct M 47 4 = ((gb : Nat) : Int) ∧ pm_ct M 47 5 = (r : Int) ∧ pm_ct M 47 6 = (ch : Int) ∧ r ≤ 6 ∧ ch ≤ 1 ∧ (∀ k, k < r → pm_ct M 48 k = (TQ T k : Int)) ∧ ∃ n, n ≤ 4096 ∧ pm_ay M ga 100 n ∧ pm_ay M gb 100 n ∧ (1 ≤ r → siz T ≤ n ∧ GaOK M T (TW T 0 (r - 1)) ga ∧ GaOK M T (TW T 1 (r - 1)) gb ∧ (ch = 1 ∨ ∀ w rs cs, w ≤ 1 → inT T rs cs → TW T w r rs cs = TW T w (r - 1) rs cs))
theorem CT.fr {S : List Nat} {M N : pm_M} {T : Tab} {ga gb r ch : Nat} (h : CT M T ga gb r ch) (k : Gr S M N) (m : 157 ≤ M.1) (h1 : 47 ∉ S) (h2 : 48 ∉ S) (h3 : ga ∉ S) (h4 : gb ∉ S) : CT N T ga gb r ch := by
  obtain ⟨a1, a2, a3, a4, a5, a6, a7, a8, a9, a10, n, b1, b2, b3, b4⟩ := h
  have e1 := k.ct (a := 47) (by omega) h1
  have e2 := k.ct (a := 48) (by omega) h2
  have e3 := k.ct b2.2.1 h3
  have e4 := k.ct b3.2.1 h4
  refine ⟨a1, a2, a3, by rw [e1]; exact a4, by rw [e1]; exact a5, by rw [e1]; exact a6, by rw [e1]; exact a7, a8, a9, fun k hk => by rw [e2]; exact a10 k hk, n, b1, k.ay b2, k.ay b3, fun q => ?_⟩
  have := b4 q
  unfold GaOK at this ⊢
  rw [e3, e4]; exact this
theorem whole_in {T : Tab} (hT : TabOK T) : inT T (2 ^ tR T - 1) (2 ^ tC T - 1) := by
  have h1 := hT.1
  have h2 := hT.2.1
  have a : 2 ^ 1 ≤ 2 ^ tR T := Nat.pow_le_pow_right (by omega) h1.1
  have b : 2 ^ 1 ≤ 2 ^ tC T := Nat.pow_le_pow_right (by omega) h2.1
  exact ⟨by omega, by omega, by omega, by omega⟩
/-- large enough -/
def Big (M : pm_M) (T : Tab) (g : Nat) : Prop := ∃ n, pm_ay M g 100 n ∧ siz T ≤ n
set_option maxHeartbeats 16000000 in
theorem c_Turns_leastWith {d mc ms : Nat} {M : pm_M} (lay0 : Lay M) {T : Tab} (hT : TabOK T) (hM0 : TbAt M 24 T) {s fa ga gb r ch : Nat} (hA0 : CA M T s fa) (hC0 : CT M T ga gb r ch) (hff : 1 ≤ r → fa = 1) (nsa : s ≠ ga) (nsb : s ≠ gb) {k : Nat} (hk : k ≤ 5) (b1 : 3 ≤ mc) (b2 : 12288 ≤ ms) :
    pm_E (d + 4) 115 [(2, ((47 : Nat) : Int)), (0, (k : Int))] M mc ms (fun ρ M' => ρ = some (0, if TQ T k < 1000000 then (TQ T k : Int) else -1) ∧ Lay M' ∧ TbAt M' 24 T ∧ ∃ s' ga' gb' r' ch', CA M' T s' 1 ∧ CT M' T ga' gb' r' ch' ∧ (s' = s ∨ M.1 ≤ s') ∧ (ga' = ga ∨ M.1 ≤ ga') ∧ (gb' = gb ∨ M.1 ≤ gb') ∧ s' ≠ ga' ∧ s' ≠ gb' ∧ Gr [44, s, 47, 48, ga, gb] M M') := by
  obtain ⟨Q, hQ⟩ : ∃ Q : pm_Q, Q = (fun ρ M' => ρ = some (0, if TQ T k < 1000000 then (TQ T k : Int) else -1) ∧ Lay M' ∧ TbAt M' 24 T ∧ ∃ s' ga' gb' r' ch', CA M' T s' 1 ∧ CT M' T ga' gb' r' ch' ∧ (s' = s ∨ M.1 ≤ s') ∧ (ga' = ga ∨ M.1 ≤ ga') ∧ (gb' = gb ∨ M.1 ≤ gb') ∧ s' ≠ ga' ∧ s' ≠ gb' ∧ Gr [44, s, 47, 48, ga, gb] M M') := ⟨_, rfl⟩
  rw [← hQ]
  have ht : (24 : Nat) = 4 ∨ (24 : Nat) = 24 := Or.inr rfl
  have hR6 := tR_64 hT
  have hC6 := tC_64 hT
  have z4 := siz_le hT
  have M157 := lay0.1
  have wh := whole_in hT
  have tq : ∀ j, TQ T j ≤ 1000000 := fun j => Nat.le_trans (Nat.min_le_left _ _) (TW_far T 0 j (by omega) (by omega) wh.1 wh.2.2.1)
  obtain ⟨wn, hwn⟩ : ∃ wn, wn = num T (2 ^ tR T - 1) (2 ^ tC T - 1) := ⟨_, rfl⟩
  have wnl : wn < siz T := by rw [hwn]; exact num_lt wh.2.1 wh.2.2.2
  -- from the loop's head on, while the arrays are large enough
  have loop : ∀ (m r ch s ga gb : Nat) (N : pm_M) (mc ms : Nat) (Lo : pm_M), r + m = k + 1 ∨ (k + 1 ≤ r ∧ m = 0) → Lay N → TbAt N 24 T → CA N T s 1 → CT N T ga gb r ch → (r = 0 → ch = 1 ∧ Big N T ga) → s ≠ ga → s ≠ gb → (∀ N' r' ch' z, Lay N' → TbAt N' 24 T → CA N' T s 1 → CT N' T ga gb r' ch' → Gr [44, 47, 48, ga, gb] N N' → z = (if TQ T k < 1000000 then (TQ T k : Int) else -1) → Q (some (0, z)) N') → Wp (d + 4) 115 33 [(2, ((47 : Nat) : Int)), (0, (k : Int)), (0, (wn : Int))] [] N mc ms Q := by
    intro m
    induction m with
    | zero =>
      intro r ch s ga gb N mc ms Lo hr lay hM hA hC hn nsa nsb fin
      have hC' := hC
      obtain ⟨a1, a2, a3, a4, a5, a6, a7, a8, a9, a10, n, c1, c2, c3, c4⟩ := hC'
      have rd := a10 k (by omega)
      have tk := tq k
      obtain ⟨x, hx⟩ : ∃ x, x = TQ T k := ⟨_, rfl⟩
      rw [← hx] at rd tk fin
      refine g_aload_n lk_115_33 rfl ?_
      refine m_getfield (u := []) (M := N) lk_115_34 rfl (lay.on (by decide) rfl) (v := (r : Int)) a6 ?_
      refine g_iload_n lk_115_37 rfl ?_
      refine g_icmp (t := 114) lk_115_38 rfl (by first | (unfold pm_inI; omega) | exact pm_and_in _ _ | exact pm_shr_in _ _ | exact pm_or_in _ _ | exact pm_xor_in _ _ | exact pm_shl_in _ _ | exact pm_cmp_in _ _ | exact pm_b8_in _ | (unfold pm_inI; split <;> omega)) (by first | (unfold pm_inI; omega) | exact pm_and_in _ _ | exact pm_shr_in _ _ | exact pm_or_in _ _ | exact pm_xor_in _ _ | exact pm_shl_in _ _ | exact pm_cmp_in _ _ | exact pm_b8_in _ | (unfold pm_inI; split <;> omega)) (fun h1 => ?_) (fun h1 => ?_)
      · replace h1 : (k : Int) < (r : Int) := h1
        refine g_iload_n lk_115_114 rfl ?_
        refine g_if (t := 144) lk_115_115 rfl (by first | (unfold pm_inI; omega) | exact pm_and_in _ _ | exact pm_shr_in _ _ | exact pm_or_in _ _ | exact pm_xor_in _ _ | exact pm_shl_in _ _ | exact pm_cmp_in _ _ | exact pm_b8_in _ | (unfold pm_inI; split <;> omega)) (fun h2 => ?_) (fun h2 => ?_)
        · replace h2 : (k : Int) < 0 := h2
          refine g_iconst lk_115_144 ?_
          refine g_ireturn lk_115_145 (fun h => absurd h (by decide)) ?_
          omega
        · replace h2 : ¬ ((k : Int) < 0) := h2
          refine g_iload_n lk_115_118 rfl ?_
          refine g_bipush lk_115_119 ?_
          refine g_icmp (t := 144) lk_115_121 rfl (by first | (unfold pm_inI; omega) | exact pm_and_in _ _ | exact pm_shr_in _ _ | exact pm_or_in _ _ | exact pm_xor_in _ _ | exact pm_shl_in _ _ | exact pm_cmp_in _ _ | exact pm_b8_in _ | (unfold pm_inI; split <;> omega)) (by first | (unfold pm_inI; omega) | exact pm_and_in _ _ | exact pm_shr_in _ _ | exact pm_or_in _ _ | exact pm_xor_in _ _ | exact pm_shl_in _ _ | exact pm_cmp_in _ _ | exact pm_b8_in _ | (unfold pm_inI; split <;> omega)) (fun h3 => ?_) (fun h3 => ?_)
          · replace h3 : 6 ≤ (k : Int) := h3
            refine g_iconst lk_115_144 ?_
            refine g_ireturn lk_115_145 (fun h => absurd h (by decide)) ?_
            omega
          · replace h3 : ¬ (6 ≤ (k : Int)) := h3
            refine g_aload_n lk_115_124 rfl ?_
            refine g_getfield lk_115_125 rfl (lay.on (by decide) rfl) (v := ((48 : Nat) : Int)) (lay.rf rfl) ?_
            refine g_iload_n lk_115_128 rfl ?_
            refine m_iaload (u := []) (M := N) lk_115_129 (lay.ay (by decide) rfl) (by omega) (j := k) (by omega) (v := (x : Int)) rd ?_
            refine g_ldc lk_115_130 ?_
            refine g_icmp (t := 144) lk_115_132 rfl (by first | (unfold pm_inI; omega) | exact pm_and_in _ _ | exact pm_shr_in _ _ | exact pm_or_in _ _ | exact pm_xor_in _ _ | exact pm_shl_in _ _ | exact pm_cmp_in _ _ | exact pm_b8_in _ | (unfold pm_inI; split <;> omega)) (by first | (unfold pm_inI; omega) | exact pm_and_in _ _ | exact pm_shr_in _ _ | exact pm_or_in _ _ | exact pm_xor_in _ _ | exact pm_shl_in _ _ | exact pm_cmp_in _ _ | exact pm_b8_in _ | (unfold pm_inI; split <;> omega)) (fun h4 => ?_) (fun h4 => ?_)
            · replace h4 : 1000000 ≤ (x : Int) := h4
              refine g_iconst lk_115_144 ?_
              refine g_ireturn lk_115_145 (fun h => absurd h (by decide)) ?_
              refine fin N r ch _ lay hM hA hC (Gr.refl _ _) ?_
              rw [if_neg (by omega)]
            · replace h4 : ¬ (1000000 ≤ (x : Int)) := h4
              refine g_aload_n lk_115_135 rfl ?_
              refine g_getfield lk_115_136 rfl (lay.on (by decide) rfl) (v := ((48 : Nat) : Int)) (lay.rf rfl) ?_
              refine g_iload_n lk_115_139 rfl ?_
              refine m_iaload (u := []) (M := N) lk_115_140 (lay.ay (by decide) rfl) (by omega) (j := k) (by omega) (v := (x : Int)) rd ?_
              refine g_goto (t := 145) lk_115_141 rfl ?_
              refine g_ireturn lk_115_145 (fun h => absurd h (by decide)) ?_
              refine fin N r ch _ lay hM hA hC (Gr.refl _ _) ?_
              rw [if_pos (by omega)]
      · replace h1 : ¬ ((k : Int) < (r : Int)) := h1
        omega
    | succ m ih =>
      intro r ch s ga gb N mc ms Lo hr lay hM hA hC hn nsa nsb fin
      have hC' := hC
      obtain ⟨a1, a2, a3, a4, a5, a6, a7, a8, a9, a10, n, c1, c2, c3, c4⟩ := hC'
      have N157 := lay.1
      have sn : siz T ≤ n := by
        rcases Nat.eq_zero_or_pos r with q | q
        · obtain ⟨-, n', x1, x2⟩ := hn q
          have : n' = n := x1.2.2.2.symm.trans c2.2.2.2
          omega
        · exact (c4 q).1
      have g47 : ga ∉ [47, 48] := fun q => by simp at q; rcases q with q | q; exact own_ne a1 (a := 47) rfl q.symm; exact own_ne a1 (a := 48) rfl q.symm
      have b47 : gb ∉ [47, 48] := fun q => by simp at q; rcases q with q | q; exact own_ne a2 (a := 47) rfl q.symm; exact own_ne a2 (a := 48) rfl q.symm
      have s47 : s ∉ [47, 48] := fun q => by simp at q; rcases q with q | q; exact own_ne hA.1 (a := 47) rfl q.symm; exact own_ne hA.1 (a := 48) rfl q.symm
      -- the tables stand for r changes
      have k77 : ∀ (K : pm_M) (c' : Nat), Lay K → Fr [44, 47, ga, gb] N K → (∀ j, j ≠ 3 → pm_ct K 44 j = pm_ct N 44 j) → (∀ j, j ≠ 6 → pm_ct K 47 j = pm_ct N 47 j) → pm_ct K 47 6 = (c' : Int) → c' ≤ 1 → GaOK K T (TW T 0 r) ga → GaOK K T (TW T 1 r) gb → (c' = 1 ∨ ∀ w rs cs, w ≤ 1 → inT T rs cs → TW T w (r + 1) rs cs = TW T w r rs cs) → Wp (d + 4) 115 77 [(2, ((47 : Nat) : Int)), (0, (k : Int)), (0, (wn : Int))] [] K mc ms Q := by
        intro K c' layK fK k44 k47 e6 c'1 oA oB hst
        have nn : ∀ a, (a == 45 || a == 49 || a == 50 || a == 53 || a == 99 || a == 105 || a == 111 || Nat.ble 157 a) = false → a ≠ 44 → a ≠ 47 → a ∉ [44, 47, ga, gb] := fun a h1 h2 h3 q => by
          simp at q
          rcases q with q | q | q | q
          · exact h2 q
          · exact h3 q
          · exact own_ne a1 h1 q
          · exact own_ne a2 h1 q
        have e3 : pm_ct K 47 3 = ((ga : Nat) : Int) := by rw [k47 3 (by decide)]; exact a4
        have e4 : pm_ct K 47 4 = ((gb : Nat) : Int) := by rw [k47 4 (by decide)]; exact a5
        have e5 : pm_ct K 47 5 = (r : Int) := by rw [k47 5 (by decide)]; exact a6
        have rA := oA _ _ wh
        have rB := oB _ _ wh
        rw [← hwn] at rA rB
        have tA := TW_far T 0 r (by omega) (by omega) wh.1 wh.2.2.1
        have tB := TW_far T 1 r (by omega) (by omega) wh.1 wh.2.2.1
        have eq : TQ T r = min (TW T 0 r (2 ^ tR T - 1) (2 ^ tC T - 1)) (TW T 1 r (2 ^ tR T - 1) (2 ^ tC T - 1)) := rfl
        obtain ⟨xA, hxA⟩ : ∃ x, x = TW T 0 r (2 ^ tR T - 1) (2 ^ tC T - 1) := ⟨_, rfl⟩
        obtain ⟨xB, hxB⟩ : ∃ x, x = TW T 1 r (2 ^ tR T - 1) (2 ^ tC T - 1) := ⟨_, rfl⟩
        rw [← hxA] at rA tA
        rw [← hxB] at rB tB
        rw [← hxA, ← hxB] at eq
        refine g_aload_n lk_115_77 rfl ?_
        refine g_getfield lk_115_78 rfl (layK.on (by decide) rfl) (v := ((48 : Nat) : Int)) (layK.rf rfl) ?_
        refine g_aload_n lk_115_81 rfl ?_
        refine m_getfield (u := []) (M := K) lk_115_82 rfl (layK.on (by decide) rfl) (v := (r : Int)) e5 ?_
        refine g_aload_n lk_115_85 rfl ?_
        refine m_getfield (u := []) (M := K) lk_115_86 rfl (layK.on (by decide) rfl) (v := ((ga : Nat) : Int)) e3 ?_
        refine g_iload_n lk_115_89 rfl ?_
        refine g_iaload lk_115_90 (fK.ay c2) (by omega) (v := (xA : Int)) rA ?_
        refine g_aload_n lk_115_91 rfl ?_
        refine m_getfield (u := []) (M := K) lk_115_92 rfl (layK.on (by decide) rfl) (v := ((gb : Nat) : Int)) e4 ?_
        refine g_iload_n lk_115_95 rfl ?_
        refine g_iaload lk_115_96 (fK.ay c3) (by omega) (v := (xB : Int)) rB ?_
        refine g_mmin lk_115_97 (by first | (unfold pm_inI; omega) | exact pm_and_in _ _ | exact pm_shr_in _ _ | exact pm_or_in _ _ | exact pm_xor_in _ _ | exact pm_shl_in _ _ | exact pm_cmp_in _ _ | exact pm_b8_in _ | (unfold pm_inI; split <;> omega)) (by first | (unfold pm_inI; omega) | exact pm_and_in _ _ | exact pm_shr_in _ _ | exact pm_or_in _ _ | exact pm_xor_in _ _ | exact pm_shl_in _ _ | exact pm_cmp_in _ _ | exact pm_b8_in _ | (unfold pm_inI; split <;> omega)) (Nat.le_of_ble_eq_true rfl) ?_
        have lay1 : Lay (Mu [(48, pm_upd (pm_ct K 48) r (min (xA : Int) (xB : Int)))] K) := layK.muA (l := []) (a := 48) (f := pm_upd (pm_ct K 48) r (min (xA : Int) (xB : Int))) rfl rfl
        refine m_iastore (u := []) (u' := [(48, pm_upd (pm_ct K 48) r (min (xA : Int) (xB : Int)))]) (M := K) lk_115_100 (layK.ay (by decide) rfl) (by omega) (j := r) (by omega) rfl ?_
        refine g_aload_n lk_115_101 rfl ?_
        refine g_dup lk_115_102 rfl ?_
        refine m_getfield (u := [(48, pm_upd (pm_ct K 48) r (min (xA : Int) (xB : Int)))]) (M := K) lk_115_103 rfl (lay1.on (by decide) rfl) (v := (r : Int)) e5 ?_
        refine g_iconst lk_115_106 ?_
        refine g_iadd lk_115_107 ?_
        have lay2 : Lay (Mu [(48, pm_upd (pm_ct K 48) r (min (xA : Int) (xB : Int))), (47, pm_upd (pm_ct K 47) 5 ((r : Int) + 1))] K) := lay1.muF (l := [(48, pm_upd (pm_ct K 48) r (min (xA : Int) (xB : Int)))]) (a := 47) (k := 5) (z := ((r : Int) + 1)) rfl rfl
        refine m_putfield (u := [(48, pm_upd (pm_ct K 48) r (min (xA : Int) (xB : Int)))]) (u' := [(48, pm_upd (pm_ct K 48) r (min (xA : Int) (xB : Int))), (47, pm_upd (pm_ct K 47) 5 ((r : Int) + 1))]) (M := K) lk_115_108 rfl (lay1.on (by decide) rfl) (fun h => absurd h (by decide)) rfl ?_
        refine g_goto (t := 33) lk_115_111 rfl ?_
        have fM : Fr [47, 48] K (Mu [(48, pm_upd (pm_ct K 48) r (min (xA : Int) (xB : Int))), (47, pm_upd (pm_ct K 47) 5 ((r : Int) + 1))] K) := Fr.mu _ _ rfl
        have gK : Gr [44, 47, 48, ga, gb] N (Mu [(48, pm_upd (pm_ct K 48) r (min (xA : Int) (xB : Int))), (47, pm_upd (pm_ct K 47) 5 ((r : Int) + 1))] K) := (fK.gr.mono (fun a q => Or.inl (by simp at q; simp; omega))).trans (fM.gr.mono (fun a q => Or.inl (by simp at q; simp; omega)))
        have k47' : pm_ct (Mu [(48, pm_upd (pm_ct K 48) r (min (xA : Int) (xB : Int))), (47, pm_upd (pm_ct K 47) 5 ((r : Int) + 1))] K) 47 = pm_upd (pm_ct K 47) 5 ((r : Int) + 1) := by rw [Mu_ct]; rfl
        have sN : s ∉ [44, 47, 48, ga, gb] := fun q => by
          simp at q
          rcases q with q | q | q | q | q
          · exact own_ne hA.1 (a := 44) rfl q.symm
          · exact own_ne hA.1 (a := 47) rfl q.symm
          · exact own_ne hA.1 (a := 48) rfl q.symm
          · exact nsa q
          · exact nsb q
        have t24 : ∀ a, (a == 45 || a == 49 || a == 50 || a == 53 || a == 99 || a == 105 || a == 111 || Nat.ble 157 a) = false → a ≠ 44 → a ≠ 47 → a ≠ 48 → a ∉ [44, 47, 48, ga, gb] := fun a h1 h2 h3 h4 q => by
          simp at q
          rcases q with q | q | q | q | q
          · exact h2 q
          · exact h3 q
          · exact h4 q
          · exact own_ne a1 h1 q
          · exact own_ne a2 h1 q
        have hM' : TbAt (Mu [(48, pm_upd (pm_ct K 48) r (min (xA : Int) (xB : Int))), (47, pm_upd (pm_ct K 47) 5 ((r : Int) + 1))] K) 24 T := hM.gr gK (by omega) (t24 24 rfl (by decide) (by decide) (by decide)) (t24 25 rfl (by decide) (by decide) (by decide))
        have hA' : CA (Mu [(48, pm_upd (pm_ct K 48) r (min (xA : Int) (xB : Int))), (47, pm_upd (pm_ct K 47) 5 ((r : Int) + 1))] K) T s 1 := hA.fr gK (by rw [fM.ct (by decide), k44 1 (by decide)]) (by rw [fM.ct (by decide), k44 2 (by decide)]) sN
        refine ih (r + 1) c' s ga gb _ _ _ Lo (by omega) lay2 hM' hA' ⟨a1, a2, a3, by rw [k47', pm_upd_ne (by decide)]; exact e3, by rw [k47', pm_upd_ne (by decide)]; exact e4, by rw [k47', pm_upd_eq]; rfl, by rw [k47', pm_upd_ne (by decide)]; exact e6, by omega, c'1, fun j hj => ?_, n, c1, fM.ay (fK.ay c2), fM.ay (fK.ay c3), fun _ => ⟨sn, ?_, ?_, hst⟩⟩ (fun q => absurd q (Nat.succ_ne_zero r)) nsa nsb (fun N' r' ch' z l2 m2 a2' c2' g2 hz => fin N' r' ch' z l2 m2 a2' c2' (gK.trans g2) hz)
        · rw [Mu_ct]
          show pm_upd (pm_ct K 48) r _ j = _
          by_cases e : j = r
          · rw [e, pm_upd_eq, eq]; omega
          · rw [pm_upd_ne e, fK.ct (nn 48 rfl (by decide) (by decide))]; exact a10 j (by omega)
        · unfold GaOK; rw [fM.ct g47]; exact oA
        · unfold GaOK; rw [fM.ct b47]; exact oB
      have e47 : ∀ {K : pm_M}, Fr [44, ga, gb] N K → pm_ct K 47 = pm_ct N 47 := fun f => f.ct (fun q => by
        simp at q
        rcases q with q | q
        · exact own_ne a1 (a := 47) rfl q
        · exact own_ne a2 (a := 47) rfl q)
      -- after an addTurn, or none
      have k74 : ∀ (K : pm_M) (c' : Nat), Lay K → Fr [44, ga, gb] N K → (∀ j, j ≠ 3 → pm_ct K 44 j = pm_ct N 44 j) → c' ≤ 1 → GaOK K T (TW T 0 r) ga → GaOK K T (TW T 1 r) gb → (c' = 1 ∨ ∀ w rs cs, w ≤ 1 → inT T rs cs → TW T w (r + 1) rs cs = TW T w r rs cs) → Wp (d + 4) 115 74 [(2, ((47 : Nat) : Int)), (0, (k : Int)), (0, (wn : Int))] [(0, (c' : Int)), (2, ((47 : Nat) : Int))] K mc ms Q := by
        intro K c' layK fK k44 c'1 oA oB hst
        have lay1 : Lay (Mu [(47, pm_upd (pm_ct K 47) 6 (c' : Int))] K) := layK.muF (l := []) (a := 47) (k := 6) (z := (c' : Int)) rfl rfl
        refine m_putfield (u := []) (u' := [(47, pm_upd (pm_ct K 47) 6 (c' : Int))]) (M := K) lk_115_74 rfl (layK.on (by decide) rfl) (fun _ => by omega) rfl ?_
        have fM : Fr [47] K (Mu [(47, pm_upd (pm_ct K 47) 6 (c' : Int))] K) := Fr.mu _ _ rfl
        have k47' : pm_ct (Mu [(47, pm_upd (pm_ct K 47) 6 (c' : Int))] K) 47 = pm_upd (pm_ct K 47) 6 (c' : Int) := by rw [Mu_ct]; rfl
        refine k77 _ c' lay1 ((fK.mono (fun a q => by simp at q; simp; omega)).trans (fM.mono (fun a q => by simp at q; simp [q]))) (fun j hj => by rw [fM.ct (by decide)]; exact k44 j hj) (fun j hj => by rw [k47', pm_upd_ne hj, e47 fK]) (by rw [k47', pm_upd_eq]) c'1 ?_ ?_ hst
        · unfold GaOK; rw [fM.ct (fun q => own_ne a1 (a := 47) rfl (List.mem_singleton.mp q).symm)]; exact oA
        · unfold GaOK; rw [fM.ct (fun q => own_ne a2 (a := 47) rfl (List.mem_singleton.mp q).symm)]; exact oB
      refine g_aload_n lk_115_33 rfl ?_
      refine m_getfield (u := []) (M := N) lk_115_34 rfl (lay.on (by decide) rfl) (v := (r : Int)) a6 ?_
      refine g_iload_n lk_115_37 rfl ?_
      refine g_icmp (t := 114) lk_115_38 rfl (by first | (unfold pm_inI; omega) | exact pm_and_in _ _ | exact pm_shr_in _ _ | exact pm_or_in _ _ | exact pm_xor_in _ _ | exact pm_shl_in _ _ | exact pm_cmp_in _ _ | exact pm_b8_in _ | (unfold pm_inI; split <;> omega)) (by first | (unfold pm_inI; omega) | exact pm_and_in _ _ | exact pm_shr_in _ _ | exact pm_or_in _ _ | exact pm_xor_in _ _ | exact pm_shl_in _ _ | exact pm_cmp_in _ _ | exact pm_b8_in _ | (unfold pm_inI; split <;> omega)) (fun h1 => ?_) (fun h1 => ?_)
      · replace h1 : (k : Int) < (r : Int) := h1
        refine g_iload_n lk_115_114 rfl ?_
        refine g_if (t := 144) lk_115_115 rfl (by first | (unfold pm_inI; omega) | exact pm_and_in _ _ | exact pm_shr_in _ _ | exact pm_or_in _ _ | exact pm_xor_in _ _ | exact pm_shl_in _ _ | exact pm_cmp_in _ _ | exact pm_b8_in _ | (unfold pm_inI; split <;> omega)) (fun h2 => ?_) (fun h2 => ?_)
        · replace h2 : (k : Int) < 0 := h2
          refine g_iconst lk_115_144 ?_
          refine g_ireturn lk_115_145 (fun h => absurd h (by decide)) ?_
          omega
        · replace h2 : ¬ ((k : Int) < 0) := h2
          refine g_iload_n lk_115_118 rfl ?_
          refine g_bipush lk_115_119 ?_
          refine g_icmp (t := 144) lk_115_121 rfl (by first | (unfold pm_inI; omega) | exact pm_and_in _ _ | exact pm_shr_in _ _ | exact pm_or_in _ _ | exact pm_xor_in _ _ | exact pm_shl_in _ _ | exact pm_cmp_in _ _ | exact pm_b8_in _ | (unfold pm_inI; split <;> omega)) (by first | (unfold pm_inI; omega) | exact pm_and_in _ _ | exact pm_shr_in _ _ | exact pm_or_in _ _ | exact pm_xor_in _ _ | exact pm_shl_in _ _ | exact pm_cmp_in _ _ | exact pm_b8_in _ | (unfold pm_inI; split <;> omega)) (fun h3 => ?_) (fun h3 => ?_)
          · replace h3 : 6 ≤ (k : Int) := h3
            refine g_iconst lk_115_144 ?_
            refine g_ireturn lk_115_145 (fun h => absurd h (by decide)) ?_
            omega
          · replace h3 : ¬ (6 ≤ (k : Int)) := h3
            refine g_aload_n lk_115_124 rfl ?_
            refine g_getfield lk_115_125 rfl (lay.on (by decide) rfl) (v := ((48 : Nat) : Int)) (lay.rf rfl) ?_
            refine g_iload_n lk_115_128 rfl ?_
            refine m_iaload (u := []) (M := N) lk_115_129 (lay.ay (by decide) rfl) (by omega) (j := k) (by omega) (v := pm_ct N 48 k) rfl ?_
            refine g_ldc lk_115_130 ?_
            refine g_icmp (t := 144) lk_115_132 rfl (by first | (unfold pm_inI; omega) | exact pm_and_in _ _ | exact pm_shr_in _ _ | exact pm_or_in _ _ | exact pm_xor_in _ _ | exact pm_shl_in _ _ | exact pm_cmp_in _ _ | exact pm_b8_in _ | (unfold pm_inI; split <;> omega)) (by first | (unfold pm_inI; omega) | exact pm_and_in _ _ | exact pm_shr_in _ _ | exact pm_or_in _ _ | exact pm_xor_in _ _ | exact pm_shl_in _ _ | exact pm_cmp_in _ _ | exact pm_b8_in _ | (unfold pm_inI; split <;> omega)) (fun h4 => ?_) (fun h4 => ?_)
            · replace h4 : 1000000 ≤ (pm_ct N 48 k) := h4
              refine g_iconst lk_115_144 ?_
              refine g_ireturn lk_115_145 (fun h => absurd h (by decide)) ?_
              omega
            · replace h4 : ¬ (1000000 ≤ (pm_ct N 48 k)) := h4
              refine g_aload_n lk_115_135 rfl ?_
              refine g_getfield lk_115_136 rfl (lay.on (by decide) rfl) (v := ((48 : Nat) : Int)) (lay.rf rfl) ?_
              refine g_iload_n lk_115_139 rfl ?_
              refine m_iaload (u := []) (M := N) lk_115_140 (lay.ay (by decide) rfl) (by omega) (j := k) (by omega) (v := pm_ct N 48 k) rfl ?_
              refine g_goto (t := 145) lk_115_141 rfl ?_
              refine g_ireturn lk_115_145 (fun h => absurd h (by decide)) ?_
              omega
      · replace h1 : ¬ ((k : Int) < (r : Int)) := h1
        refine g_aload_n lk_115_41 rfl ?_
        refine m_getfield (u := []) (M := N) lk_115_42 rfl (lay.on (by decide) rfl) (v := (r : Int)) a6 ?_
        refine g_bipush lk_115_45 ?_
        refine g_icmp (t := 114) lk_115_47 rfl (by first | (unfold pm_inI; omega) | exact pm_and_in _ _ | exact pm_shr_in _ _ | exact pm_or_in _ _ | exact pm_xor_in _ _ | exact pm_shl_in _ _ | exact pm_cmp_in _ _ | exact pm_b8_in _ | (unfold pm_inI; split <;> omega)) (by first | (unfold pm_inI; omega) | exact pm_and_in _ _ | exact pm_shr_in _ _ | exact pm_or_in _ _ | exact pm_xor_in _ _ | exact pm_shl_in _ _ | exact pm_cmp_in _ _ | exact pm_b8_in _ | (unfold pm_inI; split <;> omega)) (fun h5 => ?_) (fun h5 => ?_)
        · replace h5 : 6 ≤ (r : Int) := h5
          refine g_iload_n lk_115_114 rfl ?_
          refine g_if (t := 144) lk_115_115 rfl (by first | (unfold pm_inI; omega) | exact pm_and_in _ _ | exact pm_shr_in _ _ | exact pm_or_in _ _ | exact pm_xor_in _ _ | exact pm_shl_in _ _ | exact pm_cmp_in _ _ | exact pm_b8_in _ | (unfold pm_inI; split <;> omega)) (fun h6 => ?_) (fun h6 => ?_)
          · replace h6 : (k : Int) < 0 := h6
            refine g_iconst lk_115_144 ?_
            refine g_ireturn lk_115_145 (fun h => absurd h (by decide)) ?_
            omega
          · replace h6 : ¬ ((k : Int) < 0) := h6
            refine g_iload_n lk_115_118 rfl ?_
            refine g_bipush lk_115_119 ?_
            refine g_icmp (t := 144) lk_115_121 rfl (by first | (unfold pm_inI; omega) | exact pm_and_in _ _ | exact pm_shr_in _ _ | exact pm_or_in _ _ | exact pm_xor_in _ _ | exact pm_shl_in _ _ | exact pm_cmp_in _ _ | exact pm_b8_in _ | (unfold pm_inI; split <;> omega)) (by first | (unfold pm_inI; omega) | exact pm_and_in _ _ | exact pm_shr_in _ _ | exact pm_or_in _ _ | exact pm_xor_in _ _ | exact pm_shl_in _ _ | exact pm_cmp_in _ _ | exact pm_b8_in _ | (unfold pm_inI; split <;> omega)) (fun h7 => ?_) (fun h7 => ?_)
            · replace h7 : 6 ≤ (k : Int) := h7
              refine g_iconst lk_115_144 ?_
              refine g_ireturn lk_115_145 (fun h => absurd h (by decide)) ?_
              omega
            · replace h7 : ¬ (6 ≤ (k : Int)) := h7
              refine g_aload_n lk_115_124 rfl ?_
              refine g_getfield lk_115_125 rfl (lay.on (by decide) rfl) (v := ((48 : Nat) : Int)) (lay.rf rfl) ?_
              refine g_iload_n lk_115_128 rfl ?_
              refine m_iaload (u := []) (M := N) lk_115_129 (lay.ay (by decide) rfl) (by omega) (j := k) (by omega) (v := pm_ct N 48 k) rfl ?_
              refine g_ldc lk_115_130 ?_
              refine g_icmp (t := 144) lk_115_132 rfl (by first | (unfold pm_inI; omega) | exact pm_and_in _ _ | exact pm_shr_in _ _ | exact pm_or_in _ _ | exact pm_xor_in _ _ | exact pm_shl_in _ _ | exact pm_cmp_in _ _ | exact pm_b8_in _ | (unfold pm_inI; split <;> omega)) (by first | (unfold pm_inI; omega) | exact pm_and_in _ _ | exact pm_shr_in _ _ | exact pm_or_in _ _ | exact pm_xor_in _ _ | exact pm_shl_in _ _ | exact pm_cmp_in _ _ | exact pm_b8_in _ | (unfold pm_inI; split <;> omega)) (fun h8 => ?_) (fun h8 => ?_)
              · replace h8 : 1000000 ≤ (pm_ct N 48 k) := h8
                refine g_iconst lk_115_144 ?_
                refine g_ireturn lk_115_145 (fun h => absurd h (by decide)) ?_
                omega
              · replace h8 : ¬ (1000000 ≤ (pm_ct N 48 k)) := h8
                refine g_aload_n lk_115_135 rfl ?_
                refine g_getfield lk_115_136 rfl (lay.on (by decide) rfl) (v := ((48 : Nat) : Int)) (lay.rf rfl) ?_
                refine g_iload_n lk_115_139 rfl ?_
                refine m_iaload (u := []) (M := N) lk_115_140 (lay.ay (by decide) rfl) (by omega) (j := k) (by omega) (v := pm_ct N 48 k) rfl ?_
                refine g_goto (t := 145) lk_115_141 rfl ?_
                refine g_ireturn lk_115_145 (fun h => absurd h (by decide)) ?_
                omega
        · replace h5 : ¬ (6 ≤ (r : Int)) := h5
          refine g_aload_n lk_115_50 rfl ?_
          refine g_aload_n lk_115_51 rfl ?_
          refine m_getfield (u := []) (M := N) lk_115_52 rfl (lay.on (by decide) rfl) (v := (ch : Int)) a7 ?_
          refine g_if (t := 73) lk_115_55 rfl (by first | (unfold pm_inI; omega) | exact pm_and_in _ _ | exact pm_shr_in _ _ | exact pm_or_in _ _ | exact pm_xor_in _ _ | exact pm_shl_in _ _ | exact pm_cmp_in _ _ | exact pm_b8_in _ | (unfold pm_inI; split <;> omega)) (fun h9 => ?_) (fun h9 => ?_)
          · replace h9 : (ch : Int) = 0 := h9
            refine g_iconst lk_115_73 ?_
            have r1 : 1 ≤ r := by rcases Nat.eq_zero_or_pos r with q | q; (have := (hn q).1; omega); exact q
            obtain ⟨d1, d2, d3, d4⟩ := c4 r1
            have d5 : ∀ w rs cs, w ≤ 1 → inT T rs cs → TW T w r rs cs = TW T w (r - 1) rs cs := by rcases d4 with q | q; omega; exact q
            refine k74 N 0 lay (Fr.refl _ _) (fun _ _ => rfl) (by omega) (fun a b h => by rw [d2 a b h, d5 0 a b (by omega) h]) (fun a b h => by rw [d3 a b h, d5 1 a b (by omega) h]) (Or.inr (fun w a b hw h => ?_))
            have := TW_stable hT (t := r - 1) (by rw [show r - 1 + 1 = r by omega]; exact d5) _ w a b hw h (Nat.le_refl _)
            rw [show r - 1 + 2 = r + 1 by omega, show r - 1 + 1 = r by omega] at this
            exact this
          · replace h9 : ¬ ((ch : Int) = 0) := h9
            refine g_aload_n lk_115_58 rfl ?_
            refine g_aload_n lk_115_59 rfl ?_
            refine m_getfield (u := []) (M := N) lk_115_60 rfl (lay.on (by decide) rfl) (v := (r : Int)) a6 ?_
            refine g_virtual (p := 47) (Qc := _) lk_115_63 rfl (Nat.le_of_ble_eq_true rfl) rfl rfl (lay.on (by decide) rfl) (Nat.le_of_ble_eq_true rfl) (Nat.le_of_ble_eq_true rfl) (Nat.zero_le _) (Nat.zero_le _) (c_Turns_addTurn (d := d + 1) lay hT hM hA a1 a2 a3 nsa nsb a4 a5 c2 c3 sn sn (k := r) (by omega) (fun q => ⟨(c4 q).2.1, (c4 q).2.2.1⟩)) ?_
            rintro _ K ⟨⟨b, rfl, hb⟩, layK, fK, k44, oA, oB⟩
            rcases hb with rfl | ⟨rfl, q1, q2⟩
            · refine g_if (t := 73) lk_115_66 rfl (by unfold pm_inI; omega) (fun q => absurd q (show ¬ ((1 : Nat) : Int) = 0 by omega)) (fun _ => ?_)
              refine g_iconst lk_115_69 ?_
              refine g_goto (t := 74) lk_115_70 rfl ?_
              exact k74 K 1 layK fK k44 (Nat.le_refl _) oA oB (Or.inl rfl)
            · refine g_if (t := 73) lk_115_66 rfl (by unfold pm_inI; omega) (fun _ => ?_) (fun q => absurd (show ((0 : Nat) : Int) = 0 by omega) q)
              refine g_iconst lk_115_73 ?_
              refine k74 K 0 layK fK k44 (by omega) oA oB (Or.inr (fun w a b hw h => ?_))
              have := TW_stable hT (t := r - 1) (by rw [show r - 1 + 1 = r by omega]; exact q2) _ w a b hw h (Nat.le_refl _)
              rw [show r - 1 + 2 = r + 1 by omega, show r - 1 + 1 = r by omega] at this
              exact this
  have k11 : ∀ (s' ga' gb' ch' : Nat) (N : pm_M) (mc ms : Nat), Lay N → TbAt N 24 T → CA N T s' 1 → CT N T ga' gb' r ch' → (r = 0 → ch' = 1 ∧ Big N T ga') → s' ≠ ga' → s' ≠ gb' → (s' = s ∨ M.1 ≤ s') → (ga' = ga ∨ M.1 ≤ ga') → (gb' = gb ∨ M.1 ≤ gb') → Gr [44, s, 47, 48, ga, gb] M N → Wp (d + 4) 115 11 [(2, ((47 : Nat) : Int)), (0, (k : Int)), (9, 0)] [] N mc ms Q := by
    intro s' ga' gb' ch' N mc ms lay hM hA hC hn na nb ss sa sb hG
    have hr6 := hC.2.2.2.2.2.2.2.1
    refine g_aload_n lk_115_11 rfl ?_
    refine g_getfield lk_115_12 rfl (lay.on (by decide) rfl) (v := ((44 : Nat) : Int)) (lay.rf rfl) ?_
    refine g_aload_n lk_115_15 rfl ?_
    refine g_getfield lk_115_16 rfl (lay.on (by decide) rfl) (v := ((24 : Nat) : Int)) (lay.rf rfl) ?_
    refine g_virtual (p := 24) (Qc := _) lk_115_19 rfl (Nat.le_of_ble_eq_true rfl) rfl rfl (lay.on (by decide) rfl) (Nat.le_of_ble_eq_true rfl) (Nat.le_of_ble_eq_true rfl) (Nat.zero_le _) (Nat.zero_le _) (c_Table_allRows lay ht hT hM) ?_
    rintro _ N1 ⟨rfl, hN1⟩
    rw [hN1]
    show Wp _ 115 22 [(2, ((47 : Nat) : Int)), (0, (k : Int)), (9, 0)] [(0, ((2 ^ tR T - 1 : Nat) : Int)), (2, ((44 : Nat) : Int))] N _ _ _
    refine g_aload_n lk_115_22 rfl ?_
    refine g_getfield lk_115_23 rfl (lay.on (by decide) rfl) (v := ((24 : Nat) : Int)) (lay.rf rfl) ?_
    refine g_virtual (p := 24) (Qc := _) lk_115_26 rfl (Nat.le_of_ble_eq_true rfl) rfl rfl (lay.on (by decide) rfl) (Nat.le_of_ble_eq_true rfl) (Nat.le_of_ble_eq_true rfl) (Nat.zero_le _) (Nat.zero_le _) (c_Table_allColumns lay ht hT hM) ?_
    rintro _ N2 ⟨rfl, hN2⟩
    rw [hN2]
    show Wp _ 115 29 [(2, ((47 : Nat) : Int)), (0, (k : Int)), (9, 0)] [(0, ((2 ^ tC T - 1 : Nat) : Int)), (0, ((2 ^ tR T - 1 : Nat) : Int)), (2, ((44 : Nat) : Int))] N _ _ _
    refine g_virtual (p := 44) (Qc := _) lk_115_29 rfl (Nat.le_of_ble_eq_true rfl) rfl rfl (lay.on (by decide) rfl) (Nat.le_of_ble_eq_true rfl) (Nat.le_of_ble_eq_true rfl) (Nat.zero_le _) (Nat.zero_le _) ((by have := c_Areas_numberOf (d := d + 3) (mc := 0) (ms := 0) lay hT hM (rs := 2 ^ tR T - 1) (cs := 2 ^ tC T - 1) (by omega) wh.2.2.2; rw [← hwn] at this; exact this)) ?_
    rintro _ N3 ⟨rfl, hN3⟩
    rw [hN3]
    show Wp _ 115 32 [(2, ((47 : Nat) : Int)), (0, (k : Int)), (9, 0)] [(0, (wn : Int))] N _ _ _
    refine g_istore_n (ls' := [(2, ((47 : Nat) : Int)), (0, (k : Int)), (0, (wn : Int))]) lk_115_32 rfl rfl ?_
    refine loop (k + 1 - r) r ch' s' ga' gb' N _ _ N (by omega) lay hM hA hC hn na nb (fun N' r' c' z l2 m2 a2 c2 g2 hz => ?_)
    rw [hQ, hz]
    refine ⟨rfl, l2, m2, s', ga', gb', r', c', a2, c2, ss, sa, sb, na, nb, ?_⟩
    have g3 : Gr [ga', gb', 44, s, 47, 48, ga, gb] M N' := (hG.mono (fun a q => Or.inl (List.mem_cons_of_mem ga' (List.mem_cons_of_mem gb' q)))).trans (g2.mono (fun a q => Or.inl (by simp at q; simp; omega)))
    refine g3.mono (fun a q => ?_)
    rcases List.mem_cons.mp q with e | q
    · rcases sa with c | c
      · left; rw [e, c]; simp
      · right; omega
    · rcases List.mem_cons.mp q with e | e
      · rcases sb with c | c
        · left; rw [e, c]; simp
        · right; omega
      · exact Or.inl e
  obtain ⟨a1, a2, a3, a4, a5, a6, a7, a8, a9, a10, n, c1, c2, c3, c4⟩ := id hC0
  have begin : r = 0 → pm_E (d + 3) 116 [(2, ((47 : Nat) : Int))] M 3 12288 (fun ρ N => ρ = none ∧ Lay N ∧ TbAt N 24 T ∧ ∃ s' ga' gb', CA N T s' 1 ∧ CT N T ga' gb' r 1 ∧ Big N T ga' ∧ s' ≠ ga' ∧ s' ≠ gb' ∧ (s' = s ∨ M.1 ≤ s') ∧ (ga' = ga ∨ M.1 ≤ ga') ∧ (gb' = gb ∨ M.1 ≤ gb') ∧ Gr [44, s, 47, 48, ga, gb] M N) := by
    intro r0
    obtain ⟨Q', hQ'⟩ : ∃ Q' : pm_Q, Q' = (fun ρ N => ρ = none ∧ Lay N ∧ TbAt N 24 T ∧ ∃ s' ga' gb', CA N T s' 1 ∧ CT N T ga' gb' r 1 ∧ Big N T ga' ∧ s' ≠ ga' ∧ s' ≠ gb' ∧ (s' = s ∨ M.1 ≤ s') ∧ (ga' = ga ∨ M.1 ≤ ga') ∧ (gb' = gb ∨ M.1 ≤ gb') ∧ Gr [44, s, 47, 48, ga, gb] M N) := ⟨_, rfl⟩
    rw [← hQ']
    have k48 : ∀ (N : pm_M) (s' ga' gb' n' cb sb : Nat), Lay N → TbAt N 24 T → CA N T s' 1 → own ga' → own gb' → ga' ≠ gb' → pm_ct N 47 3 = ((ga' : Nat) : Int) → pm_ct N 47 4 = ((gb' : Nat) : Int) → pm_ct N 47 5 = (r : Int) → pm_ay N ga' 100 n' → pm_ay N gb' 100 n' → n' ≤ 4096 → siz T ≤ n' → s' ≠ ga' → s' ≠ gb' → (s' = s ∨ M.1 ≤ s') → (ga' = ga ∨ M.1 ≤ ga') → (gb' = gb ∨ M.1 ≤ gb') → Gr [44, s, 47, 48, ga, gb] M N → Wp (d + 3) 116 48 [(2, ((47 : Nat) : Int))] [] N cb sb Q' := by
      intro N s' ga' gb' n' cb sb lay hM hA x1 x2 x3 x4 x5 x6 x7 x8 x9 y1 y2 y3 y4 y5 y6 hG
      refine g_aload_n lk_116_48 rfl ?_
      refine g_iconst lk_116_49 ?_
      have lay1 : Lay (Mu [(47, pm_upd (pm_ct N 47) 6 1)] N) := lay.muF (l := []) (a := 47) (k := 6) (z := 1) rfl rfl
      refine m_putfield (u := []) (u' := [(47, pm_upd (pm_ct N 47) 6 1)]) (M := N) lk_116_50 rfl (lay.on (by decide) rfl) (fun _ => by omega) rfl ?_
      refine g_return lk_116_53 ?_
      rw [hQ']
      have fM : Fr [47] N (Mu [(47, pm_upd (pm_ct N 47) 6 1)] N) := Fr.mu _ _ rfl
      have k47' : pm_ct (Mu [(47, pm_upd (pm_ct N 47) 6 1)] N) 47 = pm_upd (pm_ct N 47) 6 1 := by rw [Mu_ct]; rfl
      refine ⟨rfl, lay1, hM.fr fM (by decide) (by decide), s', ga', gb', hA.fr fM.gr (by rw [fM.ct (by decide)]) (by rw [fM.ct (by decide)]) (fun q => own_ne hA.1 (a := 47) rfl (List.mem_singleton.mp q).symm), ⟨x1, x2, x3, by rw [k47', pm_upd_ne (by decide)]; exact x4, by rw [k47', pm_upd_ne (by decide)]; exact x5, by rw [k47', pm_upd_ne (by decide)]; exact x6, by rw [k47', pm_upd_eq]; rfl, a8, Nat.le_refl _, fun j hj => by omega, n', x9, fM.ay x7, fM.ay x8, fun q => by omega⟩, ⟨n', fM.ay x7, y1⟩, y2, y3, y4, y5, y6, hG.trans (fM.gr.mono (fun a q => Or.inl (by simp at q; simp [q])))⟩
    show Wp (d + 3) 116 0 [(2, ((47 : Nat) : Int))] [] M 3 12288 Q'
    refine g_aload_n lk_116_0 rfl ?_
    refine g_getfield lk_116_1 rfl (lay0.on (by decide) rfl) (v := ((44 : Nat) : Int)) (lay0.rf rfl) ?_
    refine g_virtual (p := 44) (Qc := _) lk_116_4 rfl (Nat.le_of_ble_eq_true rfl) rfl rfl (lay0.on (by decide) rfl) (Nat.le_of_ble_eq_true rfl) (Nat.le_of_ble_eq_true rfl) (by omega) (by omega) (c_Areas_refresh (d := d) (mc := 1) (ms := 4096) lay0 hT hM0 hA0 (by omega) (by omega)) ?_
    rintro _ K2 ⟨rfl, lay2, hM2, s', hs', hA2, g2, g2k⟩
    have hM := hM2
    have nA : ∀ a, (a == 45 || a == 49 || a == 50 || a == 53 || a == 99 || a == 105 || a == 111 || Nat.ble 157 a) = false → a ≠ 44 → a ∉ [44, s] := fun a h1 h2 q => (by simp at q; rcases q with q | q; exact h2 q; exact own_ne hA0.1 h1 q)
    have gaN : ga ∉ [44, s] := fun q => (by simp at q; rcases q with q | q; exact own_ne a1 (a := 44) rfl q.symm; exact nsa q.symm)
    have gbN : gb ∉ [44, s] := fun q => (by simp at q; rcases q with q | q; exact own_ne a2 (a := 44) rfl q.symm; exact nsb q.symm)
    have e47 : pm_ct K2 47 = pm_ct M 47 := g2.ct (by omega) (nA 47 rfl (by decide))
    have e3 : pm_ct K2 47 3 = ((ga : Nat) : Int) := (by rw [e47]; exact a4)
    have e4 : pm_ct K2 47 4 = ((gb : Nat) : Int) := (by rw [e47]; exact a5)
    have e5 : pm_ct K2 47 5 = (r : Int) := (by rw [e47]; exact a6)
    have ayA : pm_ay K2 ga 100 n := g2.ay c2
    have ayB : pm_ay K2 gb 100 n := g2.ay c3
    have gM : Gr [44, s, 47, 48, ga, gb] M K2 := g2.mono (fun a q => Or.inl (by simp at q; simp; omega))
    have ss : s' = s ∨ M.1 ≤ s' := (by rcases hs' with q | q; exact Or.inl q; exact Or.inr (by omega))
    have sga : s' ≠ ga := (by rcases hs' with q | q; rw [q]; exact nsa; have := c2.2.1; omega)
    have sgb : s' ≠ gb := (by rcases hs' with q | q; rw [q]; exact nsb; have := c3.2.1; omega)
    show Wp _ 116 7 [(2, ((47 : Nat) : Int))] [] K2 _ _ _
    refine g_aload_n lk_116_7 rfl ?_
    refine m_getfield (u := []) (M := K2) lk_116_8 rfl (lay2.on (by decide) rfl) (v := ((ga : Nat) : Int)) e3 ?_
    refine g_arraylength (n := n) lk_116_11 (by decide) ayA ?_
    refine g_aload_n lk_116_12 rfl ?_
    refine g_getfield lk_116_13 rfl (lay2.on (by decide) rfl) (v := ((44 : Nat) : Int)) (lay2.rf rfl) ?_
    refine g_virtual (p := 44) (Qc := _) lk_116_16 rfl (Nat.le_of_ble_eq_true rfl) rfl rfl (lay2.on (by decide) rfl) (Nat.le_of_ble_eq_true rfl) (Nat.le_of_ble_eq_true rfl) (Nat.zero_le _) (Nat.zero_le _) (c_Areas_size lay2 hT hM) ?_
    rintro _ N1 ⟨rfl, hN1⟩
    rw [hN1]
    show Wp _ 116 19 [(2, ((47 : Nat) : Int))] [(0, (siz T : Int)), (0, ((n : Nat) : Int))] K2 _ _ _
    refine g_icmp (t := 48) lk_116_19 rfl (by first | (unfold pm_inI; omega) | exact pm_and_in _ _ | exact pm_shr_in _ _ | exact pm_or_in _ _ | exact pm_xor_in _ _ | exact pm_shl_in _ _ | exact pm_cmp_in _ _ | exact pm_b8_in _ | (unfold pm_inI; split <;> omega)) (by first | (unfold pm_inI; omega) | exact pm_and_in _ _ | exact pm_shr_in _ _ | exact pm_or_in _ _ | exact pm_xor_in _ _ | exact pm_shl_in _ _ | exact pm_cmp_in _ _ | exact pm_b8_in _ | (unfold pm_inI; split <;> omega)) (fun h2 => ?_) (fun h2 => ?_)
    · replace h2 : (siz T : Int) ≤ ((n : Nat) : Int) := h2
      exact k48 K2 s' ga gb n _ _ lay2 hM2 hA2 a1 a2 a3 e3 e4 e5 ayA ayB c1 (by omega) sga sgb ss (Or.inl rfl) (Or.inl rfl) gM
    · replace h2 : ¬ ((siz T : Int) ≤ ((n : Nat) : Int)) := h2
      refine g_aload_n lk_116_22 rfl ?_
      refine g_aload_n lk_116_23 rfl ?_
      refine g_getfield lk_116_24 rfl (lay2.on (by decide) rfl) (v := ((44 : Nat) : Int)) (lay2.rf rfl) ?_
      refine g_virtual (p := 44) (Qc := _) lk_116_27 rfl (Nat.le_of_ble_eq_true rfl) rfl rfl (lay2.on (by decide) rfl) (Nat.le_of_ble_eq_true rfl) (Nat.le_of_ble_eq_true rfl) (Nat.zero_le _) (Nat.zero_le _) (c_Areas_size lay2 hT hM) ?_
      rintro _ N3 ⟨rfl, hN3⟩
      rw [hN3]
      show Wp _ 116 30 [(2, ((47 : Nat) : Int))] [(0, (siz T : Int)), (2, ((47 : Nat) : Int))] K2 _ _ _
      have K157 := lay2.1
      have KM := gM.1
      have sK : s' < K2.1 := (by obtain ⟨_, _, _, _, _, _, a, _⟩ := hA2; exact a.2.1)
      refine g_newarray (n := siz T) lk_116_30 (by omega) (by omega) (by omega) ?_
      have ln := lay2.new (100, siz T, fun _ => 0)
      refine g_putfield lk_116_32 rfl (ln.on (by decide) rfl) (fun h => absurd h (by decide)) ?_
      obtain ⟨K3, hK3⟩ : ∃ K3, K3 = pm_up (pm_new K2 (100, siz T, fun _ => 0)) 47 (pm_upd (pm_ct (pm_new K2 (100, siz T, fun _ => 0)) 47) 3 ((K2.1 : Nat) : Int)) := ⟨_, rfl⟩
      have gN : Gr [] K2 (pm_new K2 (100, siz T, fun _ => 0)) := Gr.new
      have g3 : Gr [47] K2 K3 := (gN.mono (fun a q => by cases q)).trans (Fr.up (S := [47]) (by simp) hK3).gr
      have lay3 : Lay K3 := by rw [hK3]; exact ln.upF rfl
      have m3 : K3.1 = K2.1 + 1 := by rw [hK3]; rfl
      have ct3 : pm_ct K3 47 = pm_upd (pm_ct K2 47) 3 ((K2.1 : Nat) : Int) := by rw [up_ct hK3, gN.ct (by omega) (by simp)]
      have ay3 : pm_ay K3 K2.1 100 (siz T) := by rw [hK3]; exact pm_ay_up.mpr (new_ay (by omega))
      rw [← hK3]
      have hM3 : TbAt K3 24 T := hM2.gr g3 (by omega) (by decide) (by decide)
      have sz := c_Areas_size (d := d + 2) (mc := 0) (ms := 0) lay3 hT hM3
      refine g_aload_n lk_116_35 rfl ?_
      refine g_aload_n lk_116_36 rfl ?_
      refine g_getfield lk_116_37 rfl (lay3.on (by decide) rfl) (v := ((44 : Nat) : Int)) (lay3.rf rfl) ?_
      refine g_virtual (p := 44) (Qc := _) lk_116_40 rfl (Nat.le_of_ble_eq_true rfl) rfl rfl (lay3.on (by decide) rfl) (Nat.le_of_ble_eq_true rfl) (Nat.le_of_ble_eq_true rfl) (Nat.zero_le _) (Nat.zero_le _) sz ?_
      rintro _ K3' ⟨rfl, e33⟩
      rw [e33]
      refine g_newarray (n := siz T) lk_116_43 (by omega) (by omega) (by omega) ?_
      have ln4 := lay3.new (100, siz T, fun _ => 0)
      refine g_putfield lk_116_45 rfl (ln4.on (by decide) rfl) (fun h => absurd h (by decide)) ?_
      obtain ⟨K4, hK4⟩ : ∃ K4, K4 = pm_up (pm_new K3 (100, siz T, fun _ => 0)) 47 (pm_upd (pm_ct (pm_new K3 (100, siz T, fun _ => 0)) 47) 4 ((K3.1 : Nat) : Int)) := ⟨_, rfl⟩
      have gN4 : Gr [] K3 (pm_new K3 (100, siz T, fun _ => 0)) := Gr.new
      have g4 : Gr [47] K3 K4 := (gN4.mono (fun a q => by cases q)).trans (Fr.up (S := [47]) (by simp) hK4).gr
      have lay4 : Lay K4 := by rw [hK4]; exact ln4.upF rfl
      have ct4 : pm_ct K4 47 = pm_upd (pm_ct K3 47) 4 ((K3.1 : Nat) : Int) := by rw [up_ct hK4, gN4.ct (by omega) (by simp)]
      have ay4 : pm_ay K4 K3.1 100 (siz T) := by rw [hK4]; exact pm_ay_up.mpr (new_ay (by omega))
      have g34 := g3.trans g4
      rw [← hK4]
      refine k48 K4 s' K2.1 K3.1 (siz T) _ _ lay4 (hM2.gr g34 (by omega) (by decide) (by decide)) (hA2.fr g34 (by rw [g34.ct (by omega) (by decide)]) (by rw [g34.ct (by omega) (by decide)]) (fun q => own_ne hA2.1 (a := 47) rfl (List.mem_singleton.mp q).symm)) (by unfold own; omega) (by unfold own; omega) (by omega) (by rw [ct4, pm_upd_ne (by decide), ct3, pm_upd_eq]) (by rw [ct4, pm_upd_eq]) (by rw [ct4, pm_upd_ne (by decide), ct3, pm_upd_ne (by decide)]; exact e5) (g4.ay ay3) ay4 (by omega) (Nat.le_refl _) (by omega) (by omega) ss (Or.inr (by omega)) (Or.inr (by omega)) (gM.trans (g34.mono (fun a q => Or.inl (by simp at q; simp [q]))))
  show Wp (d + 4) 115 0 [(2, ((47 : Nat) : Int)), (0, (k : Int)), (9, 0)] [] M mc ms Q
  refine g_aload_n lk_115_0 rfl ?_
  refine m_getfield (u := []) (M := M) lk_115_1 rfl (lay0.on (by decide) rfl) (v := (r : Int)) a6 ?_
  refine g_if (t := 11) lk_115_4 rfl (by first | (unfold pm_inI; omega) | exact pm_and_in _ _ | exact pm_shr_in _ _ | exact pm_or_in _ _ | exact pm_xor_in _ _ | exact pm_shl_in _ _ | exact pm_cmp_in _ _ | exact pm_b8_in _ | (unfold pm_inI; split <;> omega)) (fun h1 => ?_) (fun h1 => ?_)
  · replace h1 : ¬ (r : Int) = 0 := h1
    have f1 : fa = 1 := hff (by omega)
    subst f1
    exact k11 s ga gb ch M _ _ lay0 hM0 hA0 hC0 (fun q => by omega) nsa nsb (Or.inl rfl) (Or.inl rfl) (Or.inl rfl) (Gr.refl _ _)
  · replace h1 : ¬ (¬ (r : Int) = 0) := h1
    refine g_aload_n lk_115_7 rfl ?_
    refine g_virtual (p := 47) (Qc := _) lk_115_8 rfl (Nat.le_of_ble_eq_true rfl) rfl rfl (lay0.on (by decide) rfl) (Nat.le_of_ble_eq_true rfl) (Nat.le_of_ble_eq_true rfl) (by omega) (by omega) (begin (by omega)) ?_
    rintro _ N ⟨rfl, l2, m2, s', ga', gb', x1, x2, x3, x4, x5, x6, x7, x8, x9⟩
    exact k11 s' ga' gb' 1 N _ _ l2 m2 x1 x2 (fun _ => ⟨rfl, x3⟩) x4 x5 x6 x7 x8 x9
