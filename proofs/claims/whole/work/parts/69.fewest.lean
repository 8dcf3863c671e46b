/-! ===== Spoilt: the answers ===== -/
def EQ (T : Tab) (k : Nat) : Nat := ER T k (2 ^ tR T - 1) (2 ^ tC T - 1)
def Ze (M : pm_M) (cn i : Nat) : Prop := ∃ c : Nat, pm_ct M cn i = (c : Int) ∧ c < 1152921504606846976 ∧ c % 64 = 0
def Fl (T : Tab) (z : Int) (L : Nat) : Prop := ∃ f : Nat, z = (f : Int) ∧ Flb T f L
/-- the numbers stand for budget L -/
def SpO (M : pm_M) (T : Tab) (cn L : Nat) : Prop := (0 < EQ T L → LvOK M T cn L ∧ Fl T (pm_ct M 51 5) L) ∧ (EQ T L = 0 → Ze M cn (num T (2 ^ tR T - 1) (2 ^ tC T - 1)))
theorem SpO.of {M N : pm_M} {T : Tab} {cn L : Nat} (h : SpO M T cn L) (h1 : pm_ct N cn = pm_ct M cn) (h2 : pm_ct N 51 5 = pm_ct M 51 5) : SpO N T cn L := by
  unfold SpO LvOK Ze at h ⊢; rw [h1, h2]; exact h
def CS (M : pm_M) (T : Tab) (cn r : Nat) : Prop := own cn ∧ pm_ct M 51 3 = ((cn : Nat) : Int) ∧ pm_ct M 51 4 = (r : Int) ∧ r ≤ 21 ∧ (∀ k, k < r → pm_ct M 52 k = (EQ T k : Int)) ∧ ∃ n, n ≤ 4096 ∧ pm_ay M cn 101 n ∧ (1 ≤ r → siz T ≤ n ∧ SpO M T cn (r - 1))
theorem CS.fr {S : List Nat} {M N : pm_M} {T : Tab} {cn r : Nat} (h : CS M T cn r) (k : Gr S M N) (m : 157 ≤ M.1) (h1 : 51 ∉ S) (h2 : 52 ∉ S) (h3 : cn ∉ S) : CS N T cn r := by
  obtain ⟨a1, a2, a3, a4, a5, n, b1, b2, b3⟩ := h
  have e1 := k.ct (a := 51) (by omega) h1
  have e2 := k.ct (a := 52) (by omega) h2
  have e3 := k.ct b2.2.1 h3
  exact ⟨a1, by rw [e1]; exact a2, by rw [e1]; exact a3, a4, fun k hk => by rw [e2]; exact a5 k hk, n, b1, k.ay b2, fun q => ⟨(b3 q).1, (b3 q).2.of e3 (by rw [e1])⟩⟩
set_option maxHeartbeats 16000000 in
theorem c_Spoilt_fewestWith {d mc ms : Nat} {M : pm_M} (lay0 : Lay M) {T : Tab} (hT : TabOK T) (hM0 : TbAt M 24 T) {s fa cn r : Nat} (hA0 : CA M T s fa) (hC0 : CS M T cn r) (hff : 1 ≤ r → fa = 1) (nsc : s ≠ cn) {k : Nat} (hk : k ≤ 20) (b1 : 2 ≤ mc) (b2 : 8192 ≤ ms) :
    pm_E (d + 5) 73 [(2, ((51 : Nat) : Int)), (0, (k : Int))] M mc ms (fun ρ M' => ρ = some (0, (EQ T k : Int)) ∧ Lay M' ∧ TbAt M' 24 T ∧ ∃ s' cn' r', CA M' T s' 1 ∧ CS M' T cn' r' ∧ (s' = s ∨ M.1 ≤ s') ∧ (cn' = cn ∨ M.1 ≤ cn') ∧ s' ≠ cn' ∧ Gr [44, s, 51, 52, cn] M M') := by
  obtain ⟨Q, hQ⟩ : ∃ Q : pm_Q, Q = (fun ρ M' => ρ = some (0, (EQ T k : Int)) ∧ Lay M' ∧ TbAt M' 24 T ∧ ∃ s' cn' r', CA M' T s' 1 ∧ CS M' T cn' r' ∧ (s' = s ∨ M.1 ≤ s') ∧ (cn' = cn ∨ M.1 ≤ cn') ∧ s' ≠ cn' ∧ Gr [44, s, 51, 52, cn] M M') := ⟨_, rfl⟩
  rw [← hQ]
  have ht : (24 : Nat) = 4 ∨ (24 : Nat) = 24 := Or.inr rfl
  have hR6 := tR_64 hT
  have hC6 := tC_64 hT
  have z4 := siz_le hT
  have M157 := lay0.1
  have wh := whole_in hT
  have eq36 : ∀ j, EQ T j ≤ 36 := fun j => ER_36 hT j wh
  have eqm : ∀ j, EQ T (j + 1) ≤ EQ T j := fun j => (ER_mono hT _ j _ _ wh (Nat.le_refl _)).1
  obtain ⟨wn, hwn⟩ : ∃ wn, wn = num T (2 ^ tR T - 1) (2 ^ tC T - 1) := ⟨_, rfl⟩
  have wnl : wn < siz T := by rw [hwn]; exact num_lt wh.2.1 wh.2.2.2
  have loop : ∀ (m r s cn n : Nat) (N : pm_M) (mc ms : Nat), r + m = k + 1 ∨ (k + 1 ≤ r ∧ m = 0) → r ≤ 21 → Lay N → TbAt N 24 T → CA N T s 1 → own cn → pm_ct N 51 3 = ((cn : Nat) : Int) → pm_ct N 51 4 = (r : Int) → (∀ k, k < r → pm_ct N 52 k = (EQ T k : Int)) → pm_ay N cn 101 n → n ≤ 4096 → siz T ≤ n → (r = 0 → LvOK N T cn 0 ∧ Fl T (pm_ct N 51 5) 0) → (1 ≤ r → SpO N T cn (r - 1)) → s ≠ cn → (∀ N' r' z, Lay N' → TbAt N' 24 T → CA N' T s 1 → CS N' T cn r' → Gr [51, 52, cn] N N' → z = (EQ T k : Int) → Q (some (0, z)) N') → Wp (d + 5) 73 33 [(2, ((51 : Nat) : Int)), (0, (k : Int)), (0, (wn : Int))] [] N mc ms Q := by
    intro m
    induction m with
    | zero =>
      intro r s cn n N mc ms hr r21 lay hM hA oc a3 a4 a5 hay n4 sn h0 h1 nsc fin
      have y9 := h1
      have rd := a5 k (by omega)
      have tk := eq36 k
      obtain ⟨x, hx⟩ : ∃ x, x = EQ T k := ⟨_, rfl⟩
      rw [← hx] at rd tk fin
      refine g_aload_n lk_73_33 rfl ?_
      refine m_getfield (u := []) (M := N) lk_73_34 rfl (lay.on (by decide) rfl) (v := (r : Int)) a4 ?_
      refine g_iload_n lk_73_37 rfl ?_
      refine g_icmp (t := 112) lk_73_38 rfl (by first | (unfold pm_inI; omega) | exact pm_and_in _ _ | exact pm_shr_in _ _ | exact pm_or_in _ _ | exact pm_xor_in _ _ | exact pm_shl_in _ _ | exact pm_cmp_in _ _ | exact pm_b8_in _ | (unfold pm_inI; split <;> omega)) (by first | (unfold pm_inI; omega) | exact pm_and_in _ _ | exact pm_shr_in _ _ | exact pm_or_in _ _ | exact pm_xor_in _ _ | exact pm_shl_in _ _ | exact pm_cmp_in _ _ | exact pm_b8_in _ | (unfold pm_inI; split <;> omega)) (fun h1 => ?_) (fun h1 => ?_)
      · replace h1 : (k : Int) < (r : Int) := h1
        refine g_iload_n lk_73_112 rfl ?_
        refine g_if (t := 131) lk_73_113 rfl (by first | (unfold pm_inI; omega) | exact pm_and_in _ _ | exact pm_shr_in _ _ | exact pm_or_in _ _ | exact pm_xor_in _ _ | exact pm_shl_in _ _ | exact pm_cmp_in _ _ | exact pm_b8_in _ | (unfold pm_inI; split <;> omega)) (fun h2 => ?_) (fun h2 => ?_)
        · replace h2 : (k : Int) < 0 := h2
          refine g_iconst lk_73_131 ?_
          refine g_ireturn lk_73_132 (fun h => absurd h (by decide)) ?_
          omega
        · replace h2 : ¬ ((k : Int) < 0) := h2
          refine g_iload_n lk_73_116 rfl ?_
          refine g_bipush lk_73_117 ?_
          refine g_icmp (t := 131) lk_73_119 rfl (by first | (unfold pm_inI; omega) | exact pm_and_in _ _ | exact pm_shr_in _ _ | exact pm_or_in _ _ | exact pm_xor_in _ _ | exact pm_shl_in _ _ | exact pm_cmp_in _ _ | exact pm_b8_in _ | (unfold pm_inI; split <;> omega)) (by first | (unfold pm_inI; omega) | exact pm_and_in _ _ | exact pm_shr_in _ _ | exact pm_or_in _ _ | exact pm_xor_in _ _ | exact pm_shl_in _ _ | exact pm_cmp_in _ _ | exact pm_b8_in _ | (unfold pm_inI; split <;> omega)) (fun h3 => ?_) (fun h3 => ?_)
          · replace h3 : 21 ≤ (k : Int) := h3
            refine g_iconst lk_73_131 ?_
            refine g_ireturn lk_73_132 (fun h => absurd h (by decide)) ?_
            omega
          · replace h3 : ¬ (21 ≤ (k : Int)) := h3
            refine g_aload_n lk_73_122 rfl ?_
            refine g_getfield lk_73_123 rfl (lay.on (by decide) rfl) (v := ((52 : Nat) : Int)) (lay.rf rfl) ?_
            refine g_iload_n lk_73_126 rfl ?_
            refine m_iaload (u := []) (M := N) lk_73_127 (lay.ay (by decide) rfl) (by omega) (j := k) (by omega) (v := (x : Int)) rd ?_
            refine g_goto (t := 132) lk_73_128 rfl ?_
            refine g_ireturn lk_73_132 (fun h => absurd h (by decide)) ?_
            exact fin N r _ lay hM hA ⟨oc, a3, a4, r21, a5, n, n4, hay, fun q => ⟨sn, y9 q⟩⟩ (Gr.refl _ _) rfl
      · replace h1 : ¬ ((k : Int) < (r : Int)) := h1
        omega
    | succ m ih =>
      intro r s cn n N mc ms hr r21 lay hM hA oc a3 a4 a5 hay n4 sn h0 h1 nsc fin
      have N157 := lay.1
      have c51 : (51 : Nat) ≠ cn := own_ne oc rfl
      have c52 : (52 : Nat) ≠ cn := own_ne oc rfl
      have nn : ∀ a, (a == 45 || a == 49 || a == 50 || a == 53 || a == 99 || a == 105 || a == 111 || Nat.ble 157 a) = false → a ≠ 51 → a ≠ 52 → a ∉ [51, 52, cn] := fun a q1 q2 q3 q => by
        simp at q
        rcases q with q | q | q
        · exact q2 q
        · exact q3 q
        · exact own_ne oc q1 q
      have sN : s ∉ [51, 52, cn] := fun q => by
        simp at q
        rcases q with q | q | q
        · exact own_ne hA.1 (a := 51) rfl q.symm
        · exact own_ne hA.1 (a := 52) rfl q.symm
        · exact nsc q
      have k79 : ∀ (K : pm_M) (c : Nat), Lay K → Fr [51, cn] N K → (∀ j, j ≠ 5 → pm_ct K 51 j = pm_ct N 51 j) → pm_ct K cn wn = (c : Int) → c < 1152921504606846976 → c % 64 = EQ T r → SpO K T cn r → Wp (d + 5) 73 79 [(2, ((51 : Nat) : Int)), (0, (k : Int)), (0, (wn : Int))] [] K mc ms Q := by
        intro K c layK fK k51 rd c60 cm hsp
        have e3 : pm_ct K 51 3 = ((cn : Nat) : Int) := by rw [k51 3 (by decide)]; exact a3
        have e4 : pm_ct K 51 4 = (r : Int) := by rw [k51 4 (by decide)]; exact a4
        have and63 : pm_andL (c : Int) 63 = (EQ T r : Int) := by
          have q2 := pm_andL_n (a := c) (b := 63) (by omega)
          rw [show ((63 : Nat) : Int) = 63 from rfl] at q2
          rw [q2, show (63 : Nat) = 2 ^ 6 - 1 from rfl, Nat.and_two_pow_sub_one_eq_mod]
          rw [show c % 2 ^ 6 = EQ T r from cm]
        refine g_aload_n lk_73_79 rfl ?_
        refine g_getfield lk_73_80 rfl (layK.on (by decide) rfl) (v := ((52 : Nat) : Int)) (layK.rf rfl) ?_
        refine g_aload_n lk_73_83 rfl ?_
        refine m_getfield (u := []) (M := K) lk_73_84 rfl (layK.on (by decide) rfl) (v := (r : Int)) e4 ?_
        refine g_aload_n lk_73_87 rfl ?_
        refine m_getfield (u := []) (M := K) lk_73_88 rfl (layK.on (by decide) rfl) (v := ((cn : Nat) : Int)) e3 ?_
        refine g_iload_n lk_73_91 rfl ?_
        refine g_laload lk_73_92 (fK.ay hay) (by omega) (v := (c : Int)) rd ?_
        refine g_ldc2_w lk_73_93 ?_
        refine g_land lk_73_96 ?_
        refine g_top (z := (pm_andL (c : Int) 63)) (z' := (EQ T r : Int)) (and63) ?_
        refine g_l2i lk_73_97 ?_
        have lay1 : Lay (Mu [(52, pm_upd (pm_ct K 52) r (EQ T r : Int))] K) := layK.muA (l := []) (a := 52) (f := pm_upd (pm_ct K 52) r (EQ T r : Int)) rfl rfl
        refine m_iastore (u := []) (u' := [(52, pm_upd (pm_ct K 52) r (EQ T r : Int))]) (M := K) lk_73_98 (layK.ay (by decide) rfl) (by omega) (j := r) (by omega) rfl ?_
        refine g_aload_n lk_73_99 rfl ?_
        refine g_dup lk_73_100 rfl ?_
        refine m_getfield (u := [(52, pm_upd (pm_ct K 52) r (EQ T r : Int))]) (M := K) lk_73_101 rfl (lay1.on (by decide) rfl) (v := (r : Int)) e4 ?_
        refine g_iconst lk_73_104 ?_
        refine g_iadd lk_73_105 ?_
        have lay2 : Lay (Mu [(52, pm_upd (pm_ct K 52) r (EQ T r : Int)), (51, pm_upd (pm_ct K 51) 4 ((r : Int) + 1))] K) := lay1.muF (l := [(52, pm_upd (pm_ct K 52) r (EQ T r : Int))]) (a := 51) (k := 4) (z := ((r : Int) + 1)) rfl rfl
        refine m_putfield (u := [(52, pm_upd (pm_ct K 52) r (EQ T r : Int))]) (u' := [(52, pm_upd (pm_ct K 52) r (EQ T r : Int)), (51, pm_upd (pm_ct K 51) 4 ((r : Int) + 1))]) (M := K) lk_73_106 rfl (lay1.on (by decide) rfl) (fun h => absurd h (by decide)) rfl ?_
        refine g_goto (t := 33) lk_73_109 rfl ?_
        have fM : Fr [51, 52] K (Mu [(52, pm_upd (pm_ct K 52) r (EQ T r : Int)), (51, pm_upd (pm_ct K 51) 4 ((r : Int) + 1))] K) := Fr.mu _ _ rfl
        have gK : Gr [51, 52, cn] N (Mu [(52, pm_upd (pm_ct K 52) r (EQ T r : Int)), (51, pm_upd (pm_ct K 51) 4 ((r : Int) + 1))] K) := (fK.gr.mono (fun a q => Or.inl (by simp at q; simp; omega))).trans (fM.gr.mono (fun a q => Or.inl (by simp at q; simp; omega)))
        have k51' : pm_ct (Mu [(52, pm_upd (pm_ct K 52) r (EQ T r : Int)), (51, pm_upd (pm_ct K 51) 4 ((r : Int) + 1))] K) 51 = pm_upd (pm_ct K 51) 4 ((r : Int) + 1) := by rw [Mu_ct]; rfl
        have kcn : pm_ct (Mu [(52, pm_upd (pm_ct K 52) r (EQ T r : Int)), (51, pm_upd (pm_ct K 51) 4 ((r : Int) + 1))] K) cn = pm_ct K cn := fM.ct (fun q => by simp at q; rcases q with q | q; exact c51 q.symm; exact c52 q.symm)
        have e44 : pm_ct (Mu [(52, pm_upd (pm_ct K 52) r (EQ T r : Int)), (51, pm_upd (pm_ct K 51) 4 ((r : Int) + 1))] K) 44 = pm_ct N 44 := gK.ct (by omega) (nn 44 rfl (by decide) (by decide))
        refine ih (r + 1) s cn n _ _ _ (by omega) (by omega) lay2 (hM.gr gK (by omega) (nn 24 rfl (by decide) (by decide)) (nn 25 rfl (by decide) (by decide))) (hA.fr gK (by rw [e44]) (by rw [e44]) sN) oc (by rw [k51', pm_upd_ne (by decide)]; exact e3) (by rw [k51', pm_upd_eq]; rfl) (fun j hj => ?_) (gK.ay hay) n4 sn (fun q => absurd q (Nat.succ_ne_zero r)) (fun _ => hsp.of kcn (by rw [k51', pm_upd_ne (by decide)])) nsc (fun N' r' z l2 m2 a2' c2' g2 hz => fin N' r' z l2 m2 a2' c2' (gK.trans g2) hz)
        rw [Mu_ct]
        show pm_upd (pm_ct K 52) r _ j = _
        by_cases e : j = r
        · rw [e, pm_upd_eq]
        · rw [pm_upd_ne e, fK.ct (fun q => by simp at q; exact c52 q)]; exact a5 j (by omega)
      -- of a level: its lowest count, and that it serves
      have lev : ∀ (K : pm_M) (L : Nat), LvOK K T cn L → Fl T (pm_ct K 51 5) L → (∃ c : Nat, pm_ct K cn wn = (c : Int) ∧ c < 1152921504606846976 ∧ c % 64 = EQ T L) ∧ SpO K T cn L := fun K L o1 o2 => by
        obtain ⟨c, x1, x2⟩ := o1 _ _ wh
        have x3 := x2.2 0 (by omega) (by omega)
        rw [Nat.pow_zero, Nat.div_one, Nat.sub_zero] at x3
        replace x3 : c % 64 = EQ T L := x3
        refine ⟨⟨c, by rw [hwn]; exact x1, x2.1, x3⟩, fun _ => ⟨o1, o2⟩, fun q => ⟨c, x1, x2.1, by omega⟩⟩
      rcases Nat.eq_zero_or_pos r with hr0 | hr0
      · obtain ⟨o1, o2⟩ := h0 hr0
        obtain ⟨⟨c, x1, x2, x3⟩, x4⟩ := lev N 0 o1 o2
        have a4' : pm_ct N 51 4 = 0 := by rw [a4, hr0]; rfl
        have go := k79 N c lay (Fr.refl _ _) (fun _ _ => rfl) x1 x2 (by rw [x3, hr0]) (by rw [hr0]; exact x4)
        refine g_aload_n lk_73_33 rfl ?_
        refine m_getfield (u := []) (M := N) lk_73_34 rfl (lay.on (by decide) rfl) (v := 0) a4' ?_
        refine g_iload_n lk_73_37 rfl ?_
        refine g_icmp (t := 112) lk_73_38 rfl (by first | (unfold pm_inI; omega) | exact pm_and_in _ _ | exact pm_shr_in _ _ | exact pm_or_in _ _ | exact pm_xor_in _ _ | exact pm_shl_in _ _ | exact pm_cmp_in _ _ | exact pm_b8_in _ | (unfold pm_inI; split <;> omega)) (by first | (unfold pm_inI; omega) | exact pm_and_in _ _ | exact pm_shr_in _ _ | exact pm_or_in _ _ | exact pm_xor_in _ _ | exact pm_shl_in _ _ | exact pm_cmp_in _ _ | exact pm_b8_in _ | (unfold pm_inI; split <;> omega)) (fun h1 => ?_) (fun h1 => ?_)
        · replace h1 : (k : Int) < 0 := h1
          refine g_iload_n lk_73_112 rfl ?_
          refine g_if (t := 131) lk_73_113 rfl (by first | (unfold pm_inI; omega) | exact pm_and_in _ _ | exact pm_shr_in _ _ | exact pm_or_in _ _ | exact pm_xor_in _ _ | exact pm_shl_in _ _ | exact pm_cmp_in _ _ | exact pm_b8_in _ | (unfold pm_inI; split <;> omega)) (fun h2 => ?_) (fun h2 => ?_)
          · replace h2 : (k : Int) < 0 := h2
            refine g_iconst lk_73_131 ?_
            refine g_ireturn lk_73_132 (fun h => absurd h (by decide)) ?_
            omega
          · replace h2 : ¬ ((k : Int) < 0) := h2
            refine g_iload_n lk_73_116 rfl ?_
            refine g_bipush lk_73_117 ?_
            refine g_icmp (t := 131) lk_73_119 rfl (by first | (unfold pm_inI; omega) | exact pm_and_in _ _ | exact pm_shr_in _ _ | exact pm_or_in _ _ | exact pm_xor_in _ _ | exact pm_shl_in _ _ | exact pm_cmp_in _ _ | exact pm_b8_in _ | (unfold pm_inI; split <;> omega)) (by first | (unfold pm_inI; omega) | exact pm_and_in _ _ | exact pm_shr_in _ _ | exact pm_or_in _ _ | exact pm_xor_in _ _ | exact pm_shl_in _ _ | exact pm_cmp_in _ _ | exact pm_b8_in _ | (unfold pm_inI; split <;> omega)) (fun h3 => ?_) (fun h3 => ?_)
            · replace h3 : 21 ≤ (k : Int) := h3
              refine g_iconst lk_73_131 ?_
              refine g_ireturn lk_73_132 (fun h => absurd h (by decide)) ?_
              omega
            · replace h3 : ¬ (21 ≤ (k : Int)) := h3
              refine g_aload_n lk_73_122 rfl ?_
              refine g_getfield lk_73_123 rfl (lay.on (by decide) rfl) (v := ((52 : Nat) : Int)) (lay.rf rfl) ?_
              refine g_iload_n lk_73_126 rfl ?_
              refine m_iaload (u := []) (M := N) lk_73_127 (lay.ay (by decide) rfl) (by omega) (j := k) (by omega) (v := pm_ct N 52 k) rfl ?_
              refine g_goto (t := 132) lk_73_128 rfl ?_
              refine g_ireturn lk_73_132 (fun h => absurd h (by decide)) ?_
              omega
        · replace h1 : ¬ ((k : Int) < 0) := h1
          refine g_aload_n lk_73_41 rfl ?_
          refine m_getfield (u := []) (M := N) lk_73_42 rfl (lay.on (by decide) rfl) (v := 0) a4' ?_
          refine g_bipush lk_73_45 ?_
          refine g_icmp (t := 112) lk_73_47 rfl (by first | (unfold pm_inI; omega) | exact pm_and_in _ _ | exact pm_shr_in _ _ | exact pm_or_in _ _ | exact pm_xor_in _ _ | exact pm_shl_in _ _ | exact pm_cmp_in _ _ | exact pm_b8_in _ | (unfold pm_inI; split <;> omega)) (by first | (unfold pm_inI; omega) | exact pm_and_in _ _ | exact pm_shr_in _ _ | exact pm_or_in _ _ | exact pm_xor_in _ _ | exact pm_shl_in _ _ | exact pm_cmp_in _ _ | exact pm_b8_in _ | (unfold pm_inI; split <;> omega)) (fun h => absurd h (show ¬ ((21 : Int) ≤ (0 : Int)) by omega)) (fun _ => ?_)
          refine g_aload_n lk_73_50 rfl ?_
          refine m_getfield (u := []) (M := N) lk_73_51 rfl (lay.on (by decide) rfl) (v := 0) a4' ?_
          refine g_if (t := 79) lk_73_54 rfl (by first | (unfold pm_inI; omega) | exact pm_and_in _ _ | exact pm_shr_in _ _ | exact pm_or_in _ _ | exact pm_xor_in _ _ | exact pm_shl_in _ _ | exact pm_cmp_in _ _ | exact pm_b8_in _ | (unfold pm_inI; split <;> omega)) (fun _ => ?_) (fun h => absurd (show (0 : Int) ≤ (0 : Int) by omega) h)
          exact go
      · obtain ⟨p, hp⟩ : ∃ p, p = r - 1 := ⟨_, rfl⟩
        have rd := a5 p (by omega)
        have tk := eq36 p
        obtain ⟨x, hx⟩ : ∃ x, x = EQ T p := ⟨_, rfl⟩
        rw [← hx] at rd tk
        have rm : (r : Int) - 1 = (p : Int) := by omega
        obtain ⟨y1, y2⟩ := h1 hr0
        rw [← hp, ← hx] at y1 y2
        refine g_aload_n lk_73_33 rfl ?_
        refine m_getfield (u := []) (M := N) lk_73_34 rfl (lay.on (by decide) rfl) (v := (r : Int)) a4 ?_
        refine g_iload_n lk_73_37 rfl ?_
        refine g_icmp (t := 112) lk_73_38 rfl (by first | (unfold pm_inI; omega) | exact pm_and_in _ _ | exact pm_shr_in _ _ | exact pm_or_in _ _ | exact pm_xor_in _ _ | exact pm_shl_in _ _ | exact pm_cmp_in _ _ | exact pm_b8_in _ | (unfold pm_inI; split <;> omega)) (by first | (unfold pm_inI; omega) | exact pm_and_in _ _ | exact pm_shr_in _ _ | exact pm_or_in _ _ | exact pm_xor_in _ _ | exact pm_shl_in _ _ | exact pm_cmp_in _ _ | exact pm_b8_in _ | (unfold pm_inI; split <;> omega)) (fun h1 => ?_) (fun h1 => ?_)
        · replace h1 : (k : Int) < (r : Int) := h1
          refine g_iload_n lk_73_112 rfl ?_
          refine g_if (t := 131) lk_73_113 rfl (by first | (unfold pm_inI; omega) | exact pm_and_in _ _ | exact pm_shr_in _ _ | exact pm_or_in _ _ | exact pm_xor_in _ _ | exact pm_shl_in _ _ | exact pm_cmp_in _ _ | exact pm_b8_in _ | (unfold pm_inI; split <;> omega)) (fun h2 => ?_) (fun h2 => ?_)
          · replace h2 : (k : Int) < 0 := h2
            refine g_iconst lk_73_131 ?_
            refine g_ireturn lk_73_132 (fun h => absurd h (by decide)) ?_
            omega
          · replace h2 : ¬ ((k : Int) < 0) := h2
            refine g_iload_n lk_73_116 rfl ?_
            refine g_bipush lk_73_117 ?_
            refine g_icmp (t := 131) lk_73_119 rfl (by first | (unfold pm_inI; omega) | exact pm_and_in _ _ | exact pm_shr_in _ _ | exact pm_or_in _ _ | exact pm_xor_in _ _ | exact pm_shl_in _ _ | exact pm_cmp_in _ _ | exact pm_b8_in _ | (unfold pm_inI; split <;> omega)) (by first | (unfold pm_inI; omega) | exact pm_and_in _ _ | exact pm_shr_in _ _ | exact pm_or_in _ _ | exact pm_xor_in _ _ | exact pm_shl_in _ _ | exact pm_cmp_in _ _ | exact pm_b8_in _ | (unfold pm_inI; split <;> omega)) (fun h3 => ?_) (fun h3 => ?_)
            · replace h3 : 21 ≤ (k : Int) := h3
              refine g_iconst lk_73_131 ?_
              refine g_ireturn lk_73_132 (fun h => absurd h (by decide)) ?_
              omega
            · replace h3 : ¬ (21 ≤ (k : Int)) := h3
              refine g_aload_n lk_73_122 rfl ?_
              refine g_getfield lk_73_123 rfl (lay.on (by decide) rfl) (v := ((52 : Nat) : Int)) (lay.rf rfl) ?_
              refine g_iload_n lk_73_126 rfl ?_
              refine m_iaload (u := []) (M := N) lk_73_127 (lay.ay (by decide) rfl) (by omega) (j := k) (by omega) (v := pm_ct N 52 k) rfl ?_
              refine g_goto (t := 132) lk_73_128 rfl ?_
              refine g_ireturn lk_73_132 (fun h => absurd h (by decide)) ?_
              omega
        · replace h1 : ¬ ((k : Int) < (r : Int)) := h1
          refine g_aload_n lk_73_41 rfl ?_
          refine m_getfield (u := []) (M := N) lk_73_42 rfl (lay.on (by decide) rfl) (v := (r : Int)) a4 ?_
          refine g_bipush lk_73_45 ?_
          refine g_icmp (t := 112) lk_73_47 rfl (by first | (unfold pm_inI; omega) | exact pm_and_in _ _ | exact pm_shr_in _ _ | exact pm_or_in _ _ | exact pm_xor_in _ _ | exact pm_shl_in _ _ | exact pm_cmp_in _ _ | exact pm_b8_in _ | (unfold pm_inI; split <;> omega)) (by first | (unfold pm_inI; omega) | exact pm_and_in _ _ | exact pm_shr_in _ _ | exact pm_or_in _ _ | exact pm_xor_in _ _ | exact pm_shl_in _ _ | exact pm_cmp_in _ _ | exact pm_b8_in _ | (unfold pm_inI; split <;> omega)) (fun h4 => ?_) (fun h4 => ?_)
          · replace h4 : 21 ≤ (r : Int) := h4
            refine g_iload_n lk_73_112 rfl ?_
            refine g_if (t := 131) lk_73_113 rfl (by first | (unfold pm_inI; omega) | exact pm_and_in _ _ | exact pm_shr_in _ _ | exact pm_or_in _ _ | exact pm_xor_in _ _ | exact pm_shl_in _ _ | exact pm_cmp_in _ _ | exact pm_b8_in _ | (unfold pm_inI; split <;> omega)) (fun h5 => ?_) (fun h5 => ?_)
            · replace h5 : (k : Int) < 0 := h5
              refine g_iconst lk_73_131 ?_
              refine g_ireturn lk_73_132 (fun h => absurd h (by decide)) ?_
              omega
            · replace h5 : ¬ ((k : Int) < 0) := h5
              refine g_iload_n lk_73_116 rfl ?_
              refine g_bipush lk_73_117 ?_
              refine g_icmp (t := 131) lk_73_119 rfl (by first | (unfold pm_inI; omega) | exact pm_and_in _ _ | exact pm_shr_in _ _ | exact pm_or_in _ _ | exact pm_xor_in _ _ | exact pm_shl_in _ _ | exact pm_cmp_in _ _ | exact pm_b8_in _ | (unfold pm_inI; split <;> omega)) (by first | (unfold pm_inI; omega) | exact pm_and_in _ _ | exact pm_shr_in _ _ | exact pm_or_in _ _ | exact pm_xor_in _ _ | exact pm_shl_in _ _ | exact pm_cmp_in _ _ | exact pm_b8_in _ | (unfold pm_inI; split <;> omega)) (fun h6 => ?_) (fun h6 => ?_)
              · replace h6 : 21 ≤ (k : Int) := h6
                refine g_iconst lk_73_131 ?_
                refine g_ireturn lk_73_132 (fun h => absurd h (by decide)) ?_
                omega
              · replace h6 : ¬ (21 ≤ (k : Int)) := h6
                refine g_aload_n lk_73_122 rfl ?_
                refine g_getfield lk_73_123 rfl (lay.on (by decide) rfl) (v := ((52 : Nat) : Int)) (lay.rf rfl) ?_
                refine g_iload_n lk_73_126 rfl ?_
                refine m_iaload (u := []) (M := N) lk_73_127 (lay.ay (by decide) rfl) (by omega) (j := k) (by omega) (v := pm_ct N 52 k) rfl ?_
                refine g_goto (t := 132) lk_73_128 rfl ?_
                refine g_ireturn lk_73_132 (fun h => absurd h (by decide)) ?_
                omega
          · replace h4 : ¬ (21 ≤ (r : Int)) := h4
            refine g_aload_n lk_73_50 rfl ?_
            refine m_getfield (u := []) (M := N) lk_73_51 rfl (lay.on (by decide) rfl) (v := (r : Int)) a4 ?_
            refine g_if (t := 79) lk_73_54 rfl (by first | (unfold pm_inI; omega) | exact pm_and_in _ _ | exact pm_shr_in _ _ | exact pm_or_in _ _ | exact pm_xor_in _ _ | exact pm_shl_in _ _ | exact pm_cmp_in _ _ | exact pm_b8_in _ | (unfold pm_inI; split <;> omega)) (fun h7 => ?_) (fun h7 => ?_)
            · replace h7 : (r : Int) ≤ 0 := h7
              omega
            · replace h7 : ¬ ((r : Int) ≤ 0) := h7
              refine g_aload_n lk_73_57 rfl ?_
              refine g_getfield lk_73_58 rfl (lay.on (by decide) rfl) (v := ((52 : Nat) : Int)) (lay.rf rfl) ?_
              refine g_aload_n lk_73_61 rfl ?_
              refine m_getfield (u := []) (M := N) lk_73_62 rfl (lay.on (by decide) rfl) (v := (r : Int)) a4 ?_
              refine g_iconst lk_73_65 ?_
              refine g_isub lk_73_66 ?_
              refine g_top (z := ((r : Int) - 1)) (z' := (p : Int)) (rm) ?_
              refine m_iaload (u := []) (M := N) lk_73_67 (lay.ay (by decide) rfl) (by omega) (j := p) (by omega) (v := (x : Int)) rd ?_
              refine g_if (t := 79) lk_73_68 rfl (by first | (unfold pm_inI; omega) | exact pm_and_in _ _ | exact pm_shr_in _ _ | exact pm_or_in _ _ | exact pm_xor_in _ _ | exact pm_shl_in _ _ | exact pm_cmp_in _ _ | exact pm_b8_in _ | (unfold pm_inI; split <;> omega)) (fun h8 => ?_) (fun h8 => ?_)
              · replace h8 : (x : Int) ≤ 0 := h8
                have x0 : x = 0 := by omega
                obtain ⟨c, z1, z2, z3⟩ := y2 x0
                have m0 := eqm p
                rw [show p + 1 = r by omega] at m0
                have r0 : EQ T r = 0 := by omega
                exact k79 N c lay (Fr.refl _ _) (fun _ _ => rfl) (by rw [hwn]; exact z1) z2 (by omega) ⟨fun q => by omega, fun _ => ⟨c, z1, z2, z3⟩⟩
              · replace h8 : ¬ ((x : Int) ≤ 0) := h8
                refine g_aload_n lk_73_71 rfl ?_
                refine g_aload_n lk_73_72 rfl ?_
                refine m_getfield (u := []) (M := N) lk_73_73 rfl (lay.on (by decide) rfl) (v := (r : Int)) a4 ?_
                obtain ⟨o1, f, o2, o3⟩ := y1 (by omega)
                have ab := c_Spoilt_addBudget (d := d + 2) (mc := 0) (ms := 0) lay hT hM oc a3 hay sn (L := p) (by omega) o1 o2 o3
                rw [show p + 1 = r by omega] at ab
                refine g_virtual (p := 51) (Qc := _) lk_73_76 rfl (Nat.le_of_ble_eq_true rfl) rfl rfl (lay.on (by decide) rfl) (Nat.le_of_ble_eq_true rfl) (Nat.le_of_ble_eq_true rfl) (Nat.zero_le _) (Nat.zero_le _) ab ?_
                rintro _ K ⟨rfl, layK, fK, k51, lv, f', kf, fl⟩
                obtain ⟨⟨c, x1, x2, x3⟩, x4⟩ := lev K r lv ⟨f', kf, fl⟩
                exact k79 K c layK fK k51 x1 x2 x3 x4
  have k11 : ∀ (s' cn' n' : Nat) (N : pm_M) (mc ms : Nat), Lay N → TbAt N 24 T → CA N T s' 1 → own cn' → pm_ct N 51 3 = ((cn' : Nat) : Int) → pm_ct N 51 4 = (r : Int) → (∀ k, k < r → pm_ct N 52 k = (EQ T k : Int)) → pm_ay N cn' 101 n' → n' ≤ 4096 → siz T ≤ n' → (r = 0 → LvOK N T cn' 0 ∧ Fl T (pm_ct N 51 5) 0) → (1 ≤ r → SpO N T cn' (r - 1)) → s' ≠ cn' → (s' = s ∨ M.1 ≤ s') → (cn' = cn ∨ M.1 ≤ cn') → Gr [44, s, 51, 52, cn] M N → Wp (d + 5) 73 11 [(2, ((51 : Nat) : Int)), (0, (k : Int)), (9, 0)] [] N mc ms Q := by
    intro s' cn' n' N mc ms lay hM hA oc e3 e4 e5 hay n4 sn h0 h1 nsc ss sc hG
    have r21 := hC0.2.2.2.1
    refine g_aload_n lk_73_11 rfl ?_
    refine g_getfield lk_73_12 rfl (lay.on (by decide) rfl) (v := ((44 : Nat) : Int)) (lay.rf rfl) ?_
    refine g_aload_n lk_73_15 rfl ?_
    refine g_getfield lk_73_16 rfl (lay.on (by decide) rfl) (v := ((24 : Nat) : Int)) (lay.rf rfl) ?_
    refine g_virtual (p := 24) (Qc := _) lk_73_19 rfl (Nat.le_of_ble_eq_true rfl) rfl rfl (lay.on (by decide) rfl) (Nat.le_of_ble_eq_true rfl) (Nat.le_of_ble_eq_true rfl) (Nat.zero_le _) (Nat.zero_le _) (c_Table_allRows lay ht hT hM) ?_
    rintro _ N1 ⟨rfl, hN1⟩
    rw [hN1]
    show Wp _ 73 22 [(2, ((51 : Nat) : Int)), (0, (k : Int)), (9, 0)] [(0, ((2 ^ tR T - 1 : Nat) : Int)), (2, ((44 : Nat) : Int))] N _ _ _
    refine g_aload_n lk_73_22 rfl ?_
    refine g_getfield lk_73_23 rfl (lay.on (by decide) rfl) (v := ((24 : Nat) : Int)) (lay.rf rfl) ?_
    refine g_virtual (p := 24) (Qc := _) lk_73_26 rfl (Nat.le_of_ble_eq_true rfl) rfl rfl (lay.on (by decide) rfl) (Nat.le_of_ble_eq_true rfl) (Nat.le_of_ble_eq_true rfl) (Nat.zero_le _) (Nat.zero_le _) (c_Table_allColumns lay ht hT hM) ?_
    rintro _ N2 ⟨rfl, hN2⟩
    rw [hN2]
    show Wp _ 73 29 [(2, ((51 : Nat) : Int)), (0, (k : Int)), (9, 0)] [(0, ((2 ^ tC T - 1 : Nat) : Int)), (0, ((2 ^ tR T - 1 : Nat) : Int)), (2, ((44 : Nat) : Int))] N _ _ _
    refine g_virtual (p := 44) (Qc := _) lk_73_29 rfl (Nat.le_of_ble_eq_true rfl) rfl rfl (lay.on (by decide) rfl) (Nat.le_of_ble_eq_true rfl) (Nat.le_of_ble_eq_true rfl) (Nat.zero_le _) (Nat.zero_le _) ((by have := c_Areas_numberOf (d := d + 4) (mc := 0) (ms := 0) lay hT hM (rs := 2 ^ tR T - 1) (cs := 2 ^ tC T - 1) (by omega) wh.2.2.2; rw [← hwn] at this; exact this)) ?_
    rintro _ N3 ⟨rfl, hN3⟩
    rw [hN3]
    show Wp _ 73 32 [(2, ((51 : Nat) : Int)), (0, (k : Int)), (9, 0)] [(0, (wn : Int))] N _ _ _
    refine g_istore_n (ls' := [(2, ((51 : Nat) : Int)), (0, (k : Int)), (0, (wn : Int))]) lk_73_32 rfl rfl ?_
    refine loop (k + 1 - r) r s' cn' n' N _ _ (by omega) r21 lay hM hA oc e3 e4 e5 hay n4 sn h0 h1 nsc (fun N' r' z l2 m2 a2 c2 g2 hz => ?_)
    rw [hQ, hz]
    refine ⟨rfl, l2, m2, s', cn', r', a2, c2, ss, sc, nsc, ?_⟩
    have g3 : Gr [cn', 44, s, 51, 52, cn] M N' := (hG.mono (fun a q => Or.inl (List.mem_cons_of_mem cn' q))).trans (g2.mono (fun a q => Or.inl (by simp at q; simp; omega)))
    refine g3.mono (fun a q => ?_)
    rcases List.mem_cons.mp q with e | e
    · rcases sc with c | c
      · left; rw [e, c]; simp
      · right; omega
    · exact Or.inl e
  obtain ⟨oc, a3, a4, r21, a5, n, c1, c2, c3⟩ := id hC0
  have start : r = 0 → pm_E (d + 4) 74 [(2, ((51 : Nat) : Int))] M 2 8192 (fun ρ N => ρ = none ∧ Lay N ∧ TbAt N 24 T ∧ ∃ s' cn' n', CA N T s' 1 ∧ own cn' ∧ pm_ct N 51 3 = ((cn' : Nat) : Int) ∧ pm_ct N 51 4 = (r : Int) ∧ pm_ay N cn' 101 n' ∧ n' ≤ 4096 ∧ siz T ≤ n' ∧ LvOK N T cn' 0 ∧ Fl T (pm_ct N 51 5) 0 ∧ s' ≠ cn' ∧ (s' = s ∨ M.1 ≤ s') ∧ (cn' = cn ∨ M.1 ≤ cn') ∧ Gr [44, s, 51, 52, cn] M N) := by
    intro r0
    obtain ⟨Q', hQ'⟩ : ∃ Q' : pm_Q, Q' = (fun ρ N => ρ = none ∧ Lay N ∧ TbAt N 24 T ∧ ∃ s' cn' n', CA N T s' 1 ∧ own cn' ∧ pm_ct N 51 3 = ((cn' : Nat) : Int) ∧ pm_ct N 51 4 = (r : Int) ∧ pm_ay N cn' 101 n' ∧ n' ≤ 4096 ∧ siz T ≤ n' ∧ LvOK N T cn' 0 ∧ Fl T (pm_ct N 51 5) 0 ∧ s' ≠ cn' ∧ (s' = s ∨ M.1 ≤ s') ∧ (cn' = cn ∨ M.1 ≤ cn') ∧ Gr [44, s, 51, 52, cn] M N) := ⟨_, rfl⟩
    rw [← hQ']
    have k35 : ∀ (N : pm_M) (s' cn' n' cb sb : Nat), Lay N → TbAt N 24 T → CA N T s' 1 → own cn' → pm_ct N 51 3 = ((cn' : Nat) : Int) → pm_ct N 51 4 = (r : Int) → pm_ay N cn' 101 n' → n' ≤ 4096 → siz T ≤ n' → s' ≠ cn' → (s' = s ∨ M.1 ≤ s') → (cn' = cn ∨ M.1 ≤ cn') → Gr [44, s, 51, 52, cn] M N → Wp (d + 4) 74 35 [(2, ((51 : Nat) : Int))] [] N cb sb Q' := by
      intro N s' cn' n' cb sb lay hM hA oc' x3 x4 x5 x6 x7 y1 y2 y3 hG
      have c51' : 51 ∉ [cn'] := own_nm oc' rfl
      refine g_aload_n lk_74_35 rfl ?_
      refine g_virtual (p := 51) (Qc := _) lk_74_36 rfl (Nat.le_of_ble_eq_true rfl) rfl rfl (lay.on (by decide) rfl) (Nat.le_of_ble_eq_true rfl) (Nat.le_of_ble_eq_true rfl) (Nat.zero_le _) (Nat.zero_le _) (c_Spoilt_tellByLeaves (d := d) (mc := 0) (ms := 0) lay hT hM hA oc' y1 x3 x5 x7) ?_
      rintro _ K ⟨rfl, layK, fK, oK⟩
      show Wp _ 74 39 [(2, ((51 : Nat) : Int))] [] K _ _ _
      refine g_aload_n lk_74_39 rfl ?_
      refine g_iconst lk_74_40 ?_
      have lay1 : Lay (Mu [(51, pm_upd (pm_ct K 51) 5 1)] K) := layK.muF (l := []) (a := 51) (k := 5) (z := 1) rfl rfl
      refine m_putfield (u := []) (u' := [(51, pm_upd (pm_ct K 51) 5 1)]) (M := K) lk_74_41 rfl (layK.on (by decide) rfl) (fun h => absurd h (by decide)) rfl ?_
      refine g_return lk_74_44 ?_
      rw [hQ']
      have fM : Fr [51] K (Mu [(51, pm_upd (pm_ct K 51) 5 1)] K) := Fr.mu _ _ rfl
      have k51' : pm_ct (Mu [(51, pm_upd (pm_ct K 51) 5 1)] K) 51 = pm_upd (pm_ct K 51) 5 1 := by rw [Mu_ct]; rfl
      have f2 : Fr [51, cn'] N (Mu [(51, pm_upd (pm_ct K 51) 5 1)] K) := (fK.mono (fun a q => by simp at q; simp [q])).trans (fM.mono (fun a q => by simp at q; simp [q]))
      have nn : ∀ a, (a == 45 || a == 49 || a == 50 || a == 53 || a == 99 || a == 105 || a == 111 || Nat.ble 157 a) = false → a ≠ 51 → a ∉ [51, cn'] := fun a q1 q2 q => by
        simp at q
        rcases q with q | q
        · exact q2 q
        · exact own_ne oc' q1 q
      have e51 := fK.ct c51'
      refine ⟨rfl, lay1, hM.fr f2 (nn 24 rfl (by decide)) (nn 25 rfl (by decide)), s', cn', n', hA.fr f2.gr (by rw [f2.ct (nn 44 rfl (by decide))]) (by rw [f2.ct (nn 44 rfl (by decide))]) (fun q => ?_), oc', by rw [k51', pm_upd_ne (by decide), e51]; exact x3, by rw [k51', pm_upd_ne (by decide), e51]; exact x4, f2.ay x5, x6, x7, fun a b h => ?_, ⟨1, by rw [k51', pm_upd_eq]; rfl, by decide, by decide, fun j j1 j2 => by omega⟩, y1, y2, y3, ?_⟩
      · simp at q
        rcases q with q | q
        · exact own_ne hA.1 (a := 51) rfl q.symm
        · exact y1 q
      · refine ⟨e0 T a b, ?_, ?_, fun j j1 j2 => ?_⟩
        · rw [fM.ct (fun q => own_ne oc' (a := 51) rfl (List.mem_singleton.mp q).symm)]; exact oK a b h
        · have := e0_36 hT a b; omega
        · have := e0_36 hT a b
          rw [show j = 0 by omega, Nat.pow_zero, Nat.div_one, Nat.mod_eq_of_lt (by omega)]
          exact (ER_0 hT h).symm
      · have g3 : Gr [cn', 44, s, 51, 52, cn] M (Mu [(51, pm_upd (pm_ct K 51) 5 1)] K) := (hG.mono (fun a q => Or.inl (List.mem_cons_of_mem cn' q))).trans (f2.gr.mono (fun a q => Or.inl (by simp at q; simp; omega)))
        refine g3.mono (fun a q => ?_)
        rcases List.mem_cons.mp q with e | e
        · rcases y3 with c | c
          · left; rw [e, c]; simp
          · right; omega
        · exact Or.inl e
    show Wp (d + 4) 74 0 [(2, ((51 : Nat) : Int))] [] M 2 8192 Q'
    refine g_aload_n lk_74_0 rfl ?_
    refine g_getfield lk_74_1 rfl (lay0.on (by decide) rfl) (v := ((44 : Nat) : Int)) (lay0.rf rfl) ?_
    refine g_virtual (p := 44) (Qc := _) lk_74_4 rfl (Nat.le_of_ble_eq_true rfl) rfl rfl (lay0.on (by decide) rfl) (Nat.le_of_ble_eq_true rfl) (Nat.le_of_ble_eq_true rfl) (by omega) (by omega) (c_Areas_refresh (d := d + 1) (mc := 1) (ms := 4096) lay0 hT hM0 hA0 (by omega) (by omega)) ?_
    rintro _ K2 ⟨rfl, lay2, hM2, s', hs', hA2, g2, g2k⟩
    have hM := hM2
    have e51 : pm_ct K2 51 = pm_ct M 51 := g2.ct (by omega) (fun q => (by simp at q; exact own_ne hA0.1 (a := 51) rfl q))
    have e3 : pm_ct K2 51 3 = ((cn : Nat) : Int) := (by rw [e51]; exact a3)
    have e4 : pm_ct K2 51 4 = (r : Int) := (by rw [e51]; exact a4)
    have ayC : pm_ay K2 cn 101 n := g2.ay c2
    have gM : Gr [44, s, 51, 52, cn] M K2 := g2.mono (fun a q => Or.inl (by simp at q; simp; omega))
    have ss : s' = s ∨ M.1 ≤ s' := (by rcases hs' with q | q; exact Or.inl q; exact Or.inr (by omega))
    have sc : s' ≠ cn := (by rcases hs' with q | q; rw [q]; exact nsc; have := c2.2.1; omega)
    show Wp _ 74 7 [(2, ((51 : Nat) : Int))] [] K2 _ _ _
    refine g_aload_n lk_74_7 rfl ?_
    refine m_getfield (u := []) (M := K2) lk_74_8 rfl (lay2.on (by decide) rfl) (v := ((cn : Nat) : Int)) e3 ?_
    refine g_arraylength (n := n) lk_74_11 (by decide) ayC ?_
    refine g_aload_n lk_74_12 rfl ?_
    refine g_getfield lk_74_13 rfl (lay2.on (by decide) rfl) (v := ((44 : Nat) : Int)) (lay2.rf rfl) ?_
    refine g_virtual (p := 44) (Qc := _) lk_74_16 rfl (Nat.le_of_ble_eq_true rfl) rfl rfl (lay2.on (by decide) rfl) (Nat.le_of_ble_eq_true rfl) (Nat.le_of_ble_eq_true rfl) (Nat.zero_le _) (Nat.zero_le _) (c_Areas_size lay2 hT hM) ?_
    rintro _ N1 ⟨rfl, hN1⟩
    rw [hN1]
    show Wp _ 74 19 [(2, ((51 : Nat) : Int))] [(0, (siz T : Int)), (0, ((n : Nat) : Int))] K2 _ _ _
    refine g_icmp (t := 35) lk_74_19 rfl (by first | (unfold pm_inI; omega) | exact pm_and_in _ _ | exact pm_shr_in _ _ | exact pm_or_in _ _ | exact pm_xor_in _ _ | exact pm_shl_in _ _ | exact pm_cmp_in _ _ | exact pm_b8_in _ | (unfold pm_inI; split <;> omega)) (by first | (unfold pm_inI; omega) | exact pm_and_in _ _ | exact pm_shr_in _ _ | exact pm_or_in _ _ | exact pm_xor_in _ _ | exact pm_shl_in _ _ | exact pm_cmp_in _ _ | exact pm_b8_in _ | (unfold pm_inI; split <;> omega)) (fun h2 => ?_) (fun h2 => ?_)
    · replace h2 : (siz T : Int) ≤ ((n : Nat) : Int) := h2
      exact k35 K2 s' cn n _ _ lay2 hM2 hA2 oc e3 e4 ayC c1 (by omega) sc ss (Or.inl rfl) gM
    · replace h2 : ¬ ((siz T : Int) ≤ ((n : Nat) : Int)) := h2
      refine g_aload_n lk_74_22 rfl ?_
      refine g_aload_n lk_74_23 rfl ?_
      refine g_getfield lk_74_24 rfl (lay2.on (by decide) rfl) (v := ((44 : Nat) : Int)) (lay2.rf rfl) ?_
      refine g_virtual (p := 44) (Qc := _) lk_74_27 rfl (Nat.le_of_ble_eq_true rfl) rfl rfl (lay2.on (by decide) rfl) (Nat.le_of_ble_eq_true rfl) (Nat.le_of_ble_eq_true rfl) (Nat.zero_le _) (Nat.zero_le _) (c_Areas_size lay2 hT hM) ?_
      rintro _ N3 ⟨rfl, hN3⟩
      rw [hN3]
      show Wp _ 74 30 [(2, ((51 : Nat) : Int))] [(0, (siz T : Int)), (2, ((51 : Nat) : Int))] K2 _ _ _
      have K157 := lay2.1
      have KM := gM.1
      have sK : s' < K2.1 := (by obtain ⟨_, _, _, _, _, _, a, _⟩ := hA2; exact a.2.1)
      refine g_newarray (n := siz T) lk_74_30 (by omega) (by omega) (by omega) ?_
      have ln := lay2.new (101, siz T, fun _ => 0)
      refine g_putfield lk_74_32 rfl (ln.on (by decide) rfl) (fun h => absurd h (by decide)) ?_
      obtain ⟨K3, hK3⟩ : ∃ K3, K3 = pm_up (pm_new K2 (101, siz T, fun _ => 0)) 51 (pm_upd (pm_ct (pm_new K2 (101, siz T, fun _ => 0)) 51) 3 ((K2.1 : Nat) : Int)) := ⟨_, rfl⟩
      have gN : Gr [] K2 (pm_new K2 (101, siz T, fun _ => 0)) := Gr.new
      have g3 : Gr [51] K2 K3 := (gN.mono (fun a q => by cases q)).trans (Fr.up (S := [51]) (by simp) hK3).gr
      have lay3 : Lay K3 := by rw [hK3]; exact ln.upF rfl
      have ct3 : pm_ct K3 51 = pm_upd (pm_ct K2 51) 3 ((K2.1 : Nat) : Int) := by rw [up_ct hK3, gN.ct (by omega) (by simp)]
      have ay3 : pm_ay K3 K2.1 101 (siz T) := by rw [hK3]; exact pm_ay_up.mpr (new_ay (by omega))
      rw [← hK3]
      exact k35 K3 s' K2.1 (siz T) _ _ lay3 (hM2.gr g3 (by omega) (by decide) (by decide)) (hA2.fr g3 (by rw [g3.ct (by omega) (by decide)]) (by rw [g3.ct (by omega) (by decide)]) (fun q => own_ne hA2.1 (a := 51) rfl (List.mem_singleton.mp q).symm)) (by unfold own; omega) (by rw [ct3, pm_upd_eq]) (by rw [ct3, pm_upd_ne (by decide)]; exact e4) ay3 (by omega) (Nat.le_refl _) (by omega) ss (Or.inr (by omega)) (gM.trans (g3.mono (fun a q => Or.inl (by simp at q; simp [q]))))
  show Wp (d + 5) 73 0 [(2, ((51 : Nat) : Int)), (0, (k : Int)), (9, 0)] [] M mc ms Q
  refine g_aload_n lk_73_0 rfl ?_
  refine m_getfield (u := []) (M := M) lk_73_1 rfl (lay0.on (by decide) rfl) (v := (r : Int)) a4 ?_
  refine g_if (t := 11) lk_73_4 rfl (by first | (unfold pm_inI; omega) | exact pm_and_in _ _ | exact pm_shr_in _ _ | exact pm_or_in _ _ | exact pm_xor_in _ _ | exact pm_shl_in _ _ | exact pm_cmp_in _ _ | exact pm_b8_in _ | (unfold pm_inI; split <;> omega)) (fun h1 => ?_) (fun h1 => ?_)
  · replace h1 : ¬ (r : Int) = 0 := h1
    have f1 : fa = 1 := hff (by omega)
    subst f1
    exact k11 s cn n M _ _ lay0 hM0 hA0 oc a3 a4 a5 c2 c1 (c3 (by omega)).1 (fun q => by omega) (fun q => (c3 q).2) nsc (Or.inl rfl) (Or.inl rfl) (Gr.refl _ _)
  · replace h1 : ¬ (¬ (r : Int) = 0) := h1
    refine g_aload_n lk_73_7 rfl ?_
    refine g_virtual (p := 51) (Qc := _) lk_73_8 rfl (Nat.le_of_ble_eq_true rfl) rfl rfl (lay0.on (by decide) rfl) (Nat.le_of_ble_eq_true rfl) (Nat.le_of_ble_eq_true rfl) (by omega) (by omega) (start (by omega)) ?_
    rintro _ N ⟨rfl, l2, m2, s', cn', n', x1, x2, x3, x4, x5, x6, x7, x8, x9, y1, y2, y3, y4⟩
    exact k11 s' cn' n' N _ _ l2 m2 x1 x2 x3 x4 (fun j hj => by omega) x5 x6 x7 (fun _ => ⟨x8, x9⟩) (fun q => by omega) y1 y2 y3 y4
