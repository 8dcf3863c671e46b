/-! ===== trees told: the model's calls ===== -/
theorem TrM.mf {S K : List Nat} {M N : pm_M} {t : Nat} {L : List Nd} (h : TrM M t L) (k : MF S K M N) (h2 : 122 ∉ S) (h3 : 123 ∉ S) (h4 : 124 ∉ S) (h5 : 125 ∉ S) : TrM N t L := by
  unfold TrM at h ⊢
  rw [k.ct h2 (by decide), k.ct h3 (by decide), k.ct h4 (by decide), k.ct h5 (by decide)]; exact h
theorem CoAt.mf {S K : List Nat} {M N : pm_M} {T : Tab} {L : List Nd} {p : Nat → Nat} {i : Nat} (h : CoAt M T L p i) (k : MF S K M N) (h2 : 153 ∉ S) (h3 : 154 ∉ S) : CoAt N T L p i := by
  unfold CoAt at h ⊢
  rw [k.ct h2 (by decide), k.ct h3 (by decide)]; exact h
/-- the model's trees, their parents and depths -/
def TsMX (M : pm_M) (Ts : List (List Nd)) (ps dps : Nat → Nat → Nat) : Prop := Ts.length ≤ 4 ∧ pm_ct M 116 3 = (Ts.length : Int) ∧ ∀ t, t < Ts.length → TrM M t (Ts.getD t []) ∧ TrX (Ts.getD t []) (ps t) (dps t)
theorem TsMX.at {M : pm_M} {Ts : List (List Nd)} {ps dps : Nat → Nat → Nat} (h : TsMX M Ts ps dps) : TsM M Ts :=
  ⟨h.1, h.2.1, fun t ht => ⟨(h.2.2 t ht).1, _, (h.2.2 t ht).2.1⟩⟩
theorem TsMX.mf {S K : List Nat} {M N : pm_M} {Ts : List (List Nd)} {ps dps : Nat → Nat → Nat} (h : TsMX M Ts ps dps) (k : MF S K M N) (h1 : 3 ∉ K) (h2 : 122 ∉ S) (h3 : 123 ∉ S) (h4 : 124 ∉ S) (h5 : 125 ∉ S) : TsMX N Ts ps dps :=
  ⟨h.1, by rw [k.fd h1]; exact h.2.1, fun t ht => ⟨(h.2.2 t ht).1.mf k h2 h3 h4 h5, (h.2.2 t ht).2⟩⟩
set_option maxHeartbeats 4000000 in
theorem c_Mo_told {d mc ms : Nat} {M : pm_M} (lay0 : Lay M) {T : Tab} (hT : TabOK T) (hM0 : MoAt M T) {Ts : List (List Nd)} {ps dps : Nat → Nat → Nat} (hTs0 : TsMX M Ts ps dps) {t k w : Int} (ht : pm_inI t) (hk : pm_inI k) (hw : pm_inI w) :
    pm_E (d + 2) 257 [(2, ((116 : Nat) : Int)), (0, t), (0, k), (0, w)] M mc ms (fun ρ M' => ρ = some (0, sTold T Ts ps t k w) ∧ Lay M' ∧ MF [153, 154] [0] M M') := by
  have th := MF.th (S := [153, 154]) (K := [0]) (by decide) M
  have mo := hM0.mf th (by decide) (by decide) (by decide) (by decide)
  have ts := hTs0.mf th (by decide) (by decide) (by decide) (by decide) (by decide)
  have it := fun l => c_Mo_isTree (d := d) (mc := 0) (ms := 0) (M := Mu [(116, pm_upd (pm_ct M 116) 0 0)] M) l ts.at ht
  show Wp (d + 2) 257 0 [(2, ((116 : Nat) : Int)), (0, t), (0, k), (0, w), (9, 0)] [] M mc ms _
  by_cases e1 : 0 ≤ t ∧ t < (Ts.length : Int)
  · rw [if_pos e1] at it
    have l4 := hTs0.1
    have e1' := e1
    obtain ⟨t, rfl⟩ := Int.eq_ofNat_of_zero_le e1.1
    have es : sTold T Ts ps (t : Int) k w = if inTs Ts (t : Int) ∧ (0 ≤ k ∧ k < ((Ts.getD t []).length : Int)) then tdOf T (Ts.getD t []) (ps t) k w else -1 := rfl
    rw [es]
    obtain ⟨tm, hD, hp, hx⟩ := ts.2.2 t (by omega)
    obtain ⟨L, hL⟩ : ∃ L, L = Ts.getD t [] := ⟨_, rfl⟩
    rw [← hL] at tm hD hp ⊢
    have l31 := hD.2.1
    have nm := tm.1
    obtain ⟨l, hl⟩ : ∃ l, l = L.length := ⟨_, rfl⟩
    rw [← hl] at nm l31 ⊢
    have nm0 : pm_ct M 122 t = (l : Int) := by rw [← nm, th.ct (by decide) (by decide)]
    have ci := fun (M : pm_M) => c_Mo_in (d := d + 1) (mc := 0) (ms := 0) (M := M) (v := k) (l := 0) (h := (l : Int) - 1) hk (by unfold pm_inI; omega) (by unfold pm_inI; omega)
    by_cases e2 : 0 ≤ k ∧ k < (l : Int)
    · rw [if_pos ⟨e1', e2⟩]
      rw [if_pos (show 0 ≤ k ∧ k ≤ (l : Int) - 1 by omega)] at ci
      obtain ⟨n, rfl⟩ := Int.eq_ofNat_of_zero_le e2.1
      have ed : tdOf T L (ps t) (n : Int) w = if w = 3 then (if idl (CM T L (ps t) n) then 0 else ((CM T L (ps t) n).1 : Int)) else if w = 4 then (if idl (CM T L (ps t) n) then 0 else ((CM T L (ps t) n).2.1 : Int)) else ndOf L (n : Int) w := rfl
      rw [ed]
      have hn : n < L.length := by omega
      have en : ndOf L (n : Int) w = if w = 0 then ((ndA L n).1 : Int) else if w = 1 then ((ndA L n).2.1 : Int) else if w = 2 then (ndA L n).2.2 else -1 := by
        unfold ndOf
        rw [if_neg (by omega)]
        rfl
      rw [en]
      obtain ⟨y1, y2, y3⟩ := tm.2 n hn
      obtain ⟨j, hj⟩ : ∃ j, j = 31 * t + n := ⟨_, rfl⟩
      rw [← hj] at y1 y2 y3
      have ej : (31 : Int) * (t : Int) + (n : Int) = (j : Int) := by omega
      have lc := fun l => c_Mo_layComers (d := d) (mc := 0) (ms := 0) (M := Mu [(116, pm_upd (pm_ct M 116) 0 0)] M) l hT mo hD hp (show t < 4 by omega) tm
      have fi : ∀ {K : pm_M}, MF [153, 154] [] (Mu [(116, pm_upd (pm_ct M 116) 0 0)] M) K → MF [153, 154] [0] M K := fun m => th.trans (m.mono (fun a q => q) (fun a q => by cases q))
      have hpn : n = 0 ∨ (ps t) n < L.length := by
        by_cases z : n = 0
        · exact Or.inl z
        · exact Or.inr (by have := (hp.2 n (by omega) hn).1; omega)
      obtain ⟨e, he⟩ : ∃ e, e = CM T L (ps t) n := ⟨_, rfl⟩
      rw [← he]
      by_cases q : idl e
      · rw [if_pos q, if_pos q]
        refine g_aload_n lk_257_0 rfl ?_
        refine g_iconst lk_257_1 ?_
        have lay1 : Lay (Mu [(116, pm_upd (pm_ct M 116) 0 0)] M) := lay0.muF (l := []) (a := 116) (k := 0) (z := 0) rfl rfl
        refine m_putfield (u := []) (u' := [(116, pm_upd (pm_ct M 116) 0 0)]) (M := M) lk_257_2 rfl (lay0.on (by decide) rfl) (fun h => absurd h (by decide)) rfl ?_
        refine g_aload_n lk_257_5 rfl ?_
        refine g_iload_n lk_257_6 rfl ?_
        refine g_virtual (p := 116) (Qc := _) lk_257_7 rfl (Nat.le_of_ble_eq_true rfl) rfl rfl (lay1.on (by decide) rfl) (Nat.le_of_ble_eq_true rfl) (Nat.le_of_ble_eq_true rfl) (Nat.zero_le _) (Nat.zero_le _) (it lay1) ?_
        rintro _ N2 ⟨rfl, hN2⟩
        rw [hN2]
        show Wp _ 257 10 [(2, ((116 : Nat) : Int)), (0, (t : Int)), (0, (n : Int)), (0, w), (9, 0)] [(0, 1)] (Mu [(116, pm_upd (pm_ct M 116) 0 0)] M) _ _ _
        refine g_if (t := 29) lk_257_10 rfl (by first | assumption | (unfold pm_inI; omega)) (fun h => absurd h (show ¬ ((1 : Int) = (0 : Int)) by omega)) (fun _ => ?_)
        refine g_iload_n lk_257_13 rfl ?_
        refine g_iconst lk_257_14 ?_
        refine g_aload_n lk_257_15 rfl ?_
        refine g_getfield lk_257_16 rfl (lay1.on (by decide) rfl) (v := ((122 : Nat) : Int)) (lay1.rf rfl) ?_
        refine g_iload_n lk_257_19 rfl ?_
        refine m_iaload (u := [(116, pm_upd (pm_ct M 116) 0 0)]) (M := M) lk_257_20 (lay1.ay (by decide) rfl) (by omega) (j := t) (by omega) (v := (l : Int)) nm0 ?_
        refine g_iconst lk_257_21 ?_
        refine g_isub lk_257_22 ?_
        refine g_static (Qc := _) lk_257_23 (by decide) rfl (Nat.le_of_ble_eq_true rfl) rfl rfl (Nat.le_of_ble_eq_true rfl) (Nat.le_of_ble_eq_true rfl) (Nat.zero_le _) (Nat.zero_le _) (ci _) ?_
        rintro _ N3 ⟨rfl, hN3⟩
        rw [hN3]
        show Wp _ 257 26 [(2, ((116 : Nat) : Int)), (0, (t : Int)), (0, (n : Int)), (0, w), (9, 0)] [(0, 1)] (Mu [(116, pm_upd (pm_ct M 116) 0 0)] M) _ _ _
        refine g_if (t := 31) lk_257_26 rfl (by first | assumption | (unfold pm_inI; omega)) (fun _ => ?_) (fun h => absurd (show ¬ (1 : Int) = (0 : Int) by omega) h)
        refine g_aload_n lk_257_31 rfl ?_
        refine g_iload_n lk_257_32 rfl ?_
        refine g_virtual (p := 116) (Qc := _) lk_257_33 rfl (Nat.le_of_ble_eq_true rfl) rfl rfl (lay1.on (by decide) rfl) (Nat.le_of_ble_eq_true rfl) (Nat.le_of_ble_eq_true rfl) (Nat.zero_le _) (Nat.zero_le _) (lc lay1) ?_
        rintro _ K1 ⟨rfl, lay1, mf1, co1⟩
        have r1 : pm_ct K1 123 j = ((ndA L n).1 : Int) := (by rw [mf1.ct (by decide) (by decide)]; exact y1)
        have r2 : pm_ct K1 124 j = ((ndA L n).2.1 : Int) := (by rw [mf1.ct (by decide) (by decide)]; exact y2)
        have r3 : pm_ct K1 125 j = (ndA L n).2.2 := (by rw [mf1.ct (by decide) (by decide)]; exact y3)
        have ii := c_Mo_isIdle (d := d + 1) (mc := 0) (ms := 0) lay1 hT hD hp co1 hn
        rw [← he, if_pos q] at ii
        show Wp _ 257 36 [(2, ((116 : Nat) : Int)), (0, (t : Int)), (0, (n : Int)), (0, w), (9, 0)] [] K1 _ _ _
        refine g_bipush lk_257_36 ?_
        refine g_iload_n lk_257_38 rfl ?_
        refine g_imul lk_257_39 ?_
        refine g_iload_n lk_257_40 rfl ?_
        refine g_iadd lk_257_41 ?_
        refine g_top (z := ((31 * (t : Int)) + (n : Int))) (z' := (j : Int)) (ej) ?_
        refine g_istore (ls' := [(2, ((116 : Nat) : Int)), (0, (t : Int)), (0, (n : Int)), (0, w), (0, (j : Int))]) lk_257_42 rfl rfl ?_
        refine g_iload_n lk_257_44 rfl ?_
        refine g_tsw lk_257_45 (by first | assumption | (unfold pm_inI; omega)) (And.intro (fun h4 => ?_) (fun h4 => (And.intro (fun h5 => ?_) (fun h5 => (And.intro (fun h6 => ?_) (fun h6 => (And.intro (fun h7 => ?_) (fun h7 => (And.intro (fun h8 => ?_) (fun h8 => ?_))))))))))
        · replace h4 : w = 0 := h4
          show Wp _ 257 80 [(2, ((116 : Nat) : Int)), (0, (t : Int)), (0, (n : Int)), (0, w), (0, (j : Int))] [] K1 _ _ _
          refine g_aload_n lk_257_80 rfl ?_
          refine g_getfield lk_257_81 rfl (lay1.on (by decide) rfl) (v := ((123 : Nat) : Int)) (lay1.rf rfl) ?_
          refine g_iload lk_257_84 rfl ?_
          refine m_iaload (u := []) (M := K1) lk_257_86 (lay1.ay (by decide) rfl) (by omega) (j := j) (by omega) (v := ((ndA L n).1 : Int)) r1 ?_
          refine g_ireturn lk_257_87 (fun h => absurd h (by decide)) ?_
          exact ⟨by rw [if_neg (by omega), if_neg (by omega), if_pos (by omega)], lay1, fi mf1⟩
        · replace h5 : w = 1 := h5
          show Wp _ 257 88 [(2, ((116 : Nat) : Int)), (0, (t : Int)), (0, (n : Int)), (0, w), (0, (j : Int))] [] K1 _ _ _
          refine g_aload_n lk_257_88 rfl ?_
          refine g_getfield lk_257_89 rfl (lay1.on (by decide) rfl) (v := ((124 : Nat) : Int)) (lay1.rf rfl) ?_
          refine g_iload lk_257_92 rfl ?_
          refine m_iaload (u := []) (M := K1) lk_257_94 (lay1.ay (by decide) rfl) (by omega) (j := j) (by omega) (v := ((ndA L n).2.1 : Int)) r2 ?_
          refine g_ireturn lk_257_95 (fun h => absurd h (by decide)) ?_
          exact ⟨by rw [if_neg (by omega), if_neg (by omega), if_neg (by omega), if_pos (by omega)], lay1, fi mf1⟩
        · replace h6 : w = 2 := h6
          show Wp _ 257 96 [(2, ((116 : Nat) : Int)), (0, (t : Int)), (0, (n : Int)), (0, w), (0, (j : Int))] [] K1 _ _ _
          refine g_aload_n lk_257_96 rfl ?_
          refine g_getfield lk_257_97 rfl (lay1.on (by decide) rfl) (v := ((125 : Nat) : Int)) (lay1.rf rfl) ?_
          refine g_iload lk_257_100 rfl ?_
          refine m_iaload (u := []) (M := K1) lk_257_102 (lay1.ay (by decide) rfl) (by omega) (j := j) (by omega) (v := (ndA L n).2.2) r3 ?_
          refine g_ireturn lk_257_103 (fun h => absurd h (by decide)) ?_
          exact ⟨by rw [if_neg (by omega), if_neg (by omega), if_neg (by omega), if_neg (by omega), if_pos (by omega)], lay1, fi mf1⟩
        · replace h7 : w = 3 := h7
          show Wp _ 257 104 [(2, ((116 : Nat) : Int)), (0, (t : Int)), (0, (n : Int)), (0, w), (0, (j : Int))] [] K1 _ _ _
          refine g_aload_n lk_257_104 rfl ?_
          refine g_iload_n lk_257_105 rfl ?_
          refine g_virtual (p := 116) (Qc := _) lk_257_106 rfl (Nat.le_of_ble_eq_true rfl) rfl rfl (lay1.on (by decide) rfl) (Nat.le_of_ble_eq_true rfl) (Nat.le_of_ble_eq_true rfl) (Nat.zero_le _) (Nat.zero_le _) (ii) ?_
          rintro _ N10 ⟨rfl, hN10⟩
          rw [hN10]
          show Wp _ 257 109 [(2, ((116 : Nat) : Int)), (0, (t : Int)), (0, (n : Int)), (0, w), (0, (j : Int))] [(0, 1)] K1 _ _ _
          refine g_if (t := 116) lk_257_109 rfl (by first | assumption | (unfold pm_inI; omega)) (fun h => absurd h (show ¬ ((1 : Int) = (0 : Int)) by omega)) (fun _ => ?_)
          refine g_iconst lk_257_112 ?_
          refine g_goto (t := 122) lk_257_113 rfl ?_
          refine g_ireturn lk_257_122 (fun h => absurd h (by decide)) ?_
          exact ⟨by rw [if_pos (by omega)], lay1, fi mf1⟩
        · replace h8 : w = 4 := h8
          show Wp _ 257 123 [(2, ((116 : Nat) : Int)), (0, (t : Int)), (0, (n : Int)), (0, w), (0, (j : Int))] [] K1 _ _ _
          refine g_aload_n lk_257_123 rfl ?_
          refine g_iload_n lk_257_124 rfl ?_
          refine g_virtual (p := 116) (Qc := _) lk_257_125 rfl (Nat.le_of_ble_eq_true rfl) rfl rfl (lay1.on (by decide) rfl) (Nat.le_of_ble_eq_true rfl) (Nat.le_of_ble_eq_true rfl) (Nat.zero_le _) (Nat.zero_le _) (ii) ?_
          rintro _ N11 ⟨rfl, hN11⟩
          rw [hN11]
          show Wp _ 257 128 [(2, ((116 : Nat) : Int)), (0, (t : Int)), (0, (n : Int)), (0, w), (0, (j : Int))] [(0, 1)] K1 _ _ _
          refine g_if (t := 135) lk_257_128 rfl (by first | assumption | (unfold pm_inI; omega)) (fun h => absurd h (show ¬ ((1 : Int) = (0 : Int)) by omega)) (fun _ => ?_)
          refine g_iconst lk_257_131 ?_
          refine g_goto (t := 141) lk_257_132 rfl ?_
          refine g_ireturn lk_257_141 (fun h => absurd h (by decide)) ?_
          exact ⟨by rw [if_neg (by omega), if_pos (by omega)], lay1, fi mf1⟩
        · show Wp _ 257 142 [(2, ((116 : Nat) : Int)), (0, (t : Int)), (0, (n : Int)), (0, w), (0, (j : Int))] [] K1 _ _ _
          replace h4 : ¬ w = 0 := h4
          replace h5 : ¬ w = 1 := h5
          replace h6 : ¬ w = 2 := h6
          replace h7 : ¬ w = 3 := h7
          replace h8 : ¬ w = 4 := h8
          refine g_iconst lk_257_142 ?_
          refine g_ireturn lk_257_143 (fun h => absurd h (by decide)) ?_
          exact ⟨by rw [if_neg (by omega), if_neg (by omega), if_neg (by omega), if_neg (by omega), if_neg (by omega)], lay1, fi mf1⟩
      · rw [if_neg q, if_neg q]
        refine g_aload_n lk_257_0 rfl ?_
        refine g_iconst lk_257_1 ?_
        have lay1 : Lay (Mu [(116, pm_upd (pm_ct M 116) 0 0)] M) := lay0.muF (l := []) (a := 116) (k := 0) (z := 0) rfl rfl
        refine m_putfield (u := []) (u' := [(116, pm_upd (pm_ct M 116) 0 0)]) (M := M) lk_257_2 rfl (lay0.on (by decide) rfl) (fun h => absurd h (by decide)) rfl ?_
        refine g_aload_n lk_257_5 rfl ?_
        refine g_iload_n lk_257_6 rfl ?_
        refine g_virtual (p := 116) (Qc := _) lk_257_7 rfl (Nat.le_of_ble_eq_true rfl) rfl rfl (lay1.on (by decide) rfl) (Nat.le_of_ble_eq_true rfl) (Nat.le_of_ble_eq_true rfl) (Nat.zero_le _) (Nat.zero_le _) (it lay1) ?_
        rintro _ N2 ⟨rfl, hN2⟩
        rw [hN2]
        show Wp _ 257 10 [(2, ((116 : Nat) : Int)), (0, (t : Int)), (0, (n : Int)), (0, w), (9, 0)] [(0, 1)] (Mu [(116, pm_upd (pm_ct M 116) 0 0)] M) _ _ _
        refine g_if (t := 29) lk_257_10 rfl (by first | assumption | (unfold pm_inI; omega)) (fun h => absurd h (show ¬ ((1 : Int) = (0 : Int)) by omega)) (fun _ => ?_)
        refine g_iload_n lk_257_13 rfl ?_
        refine g_iconst lk_257_14 ?_
        refine g_aload_n lk_257_15 rfl ?_
        refine g_getfield lk_257_16 rfl (lay1.on (by decide) rfl) (v := ((122 : Nat) : Int)) (lay1.rf rfl) ?_
        refine g_iload_n lk_257_19 rfl ?_
        refine m_iaload (u := [(116, pm_upd (pm_ct M 116) 0 0)]) (M := M) lk_257_20 (lay1.ay (by decide) rfl) (by omega) (j := t) (by omega) (v := (l : Int)) nm0 ?_
        refine g_iconst lk_257_21 ?_
        refine g_isub lk_257_22 ?_
        refine g_static (Qc := _) lk_257_23 (by decide) rfl (Nat.le_of_ble_eq_true rfl) rfl rfl (Nat.le_of_ble_eq_true rfl) (Nat.le_of_ble_eq_true rfl) (Nat.zero_le _) (Nat.zero_le _) (ci _) ?_
        rintro _ N3 ⟨rfl, hN3⟩
        rw [hN3]
        show Wp _ 257 26 [(2, ((116 : Nat) : Int)), (0, (t : Int)), (0, (n : Int)), (0, w), (9, 0)] [(0, 1)] (Mu [(116, pm_upd (pm_ct M 116) 0 0)] M) _ _ _
        refine g_if (t := 31) lk_257_26 rfl (by first | assumption | (unfold pm_inI; omega)) (fun _ => ?_) (fun h => absurd (show ¬ (1 : Int) = (0 : Int) by omega) h)
        refine g_aload_n lk_257_31 rfl ?_
        refine g_iload_n lk_257_32 rfl ?_
        refine g_virtual (p := 116) (Qc := _) lk_257_33 rfl (Nat.le_of_ble_eq_true rfl) rfl rfl (lay1.on (by decide) rfl) (Nat.le_of_ble_eq_true rfl) (Nat.le_of_ble_eq_true rfl) (Nat.zero_le _) (Nat.zero_le _) (lc lay1) ?_
        rintro _ K1 ⟨rfl, lay1, mf1, co1⟩
        have r1 : pm_ct K1 123 j = ((ndA L n).1 : Int) := (by rw [mf1.ct (by decide) (by decide)]; exact y1)
        have r2 : pm_ct K1 124 j = ((ndA L n).2.1 : Int) := (by rw [mf1.ct (by decide) (by decide)]; exact y2)
        have r3 : pm_ct K1 125 j = (ndA L n).2.2 := (by rw [mf1.ct (by decide) (by decide)]; exact y3)
        have ii := c_Mo_isIdle (d := d + 1) (mc := 0) (ms := 0) lay1 hT hD hp co1 hn
        have r4 := co1 n hn hpn
        rw [← he] at r4
        rw [← he, if_neg q] at ii
        show Wp _ 257 36 [(2, ((116 : Nat) : Int)), (0, (t : Int)), (0, (n : Int)), (0, w), (9, 0)] [] K1 _ _ _
        refine g_bipush lk_257_36 ?_
        refine g_iload_n lk_257_38 rfl ?_
        refine g_imul lk_257_39 ?_
        refine g_iload_n lk_257_40 rfl ?_
        refine g_iadd lk_257_41 ?_
        refine g_top (z := ((31 * (t : Int)) + (n : Int))) (z' := (j : Int)) (ej) ?_
        refine g_istore (ls' := [(2, ((116 : Nat) : Int)), (0, (t : Int)), (0, (n : Int)), (0, w), (0, (j : Int))]) lk_257_42 rfl rfl ?_
        refine g_iload_n lk_257_44 rfl ?_
        refine g_tsw lk_257_45 (by first | assumption | (unfold pm_inI; omega)) (And.intro (fun h4 => ?_) (fun h4 => (And.intro (fun h5 => ?_) (fun h5 => (And.intro (fun h6 => ?_) (fun h6 => (And.intro (fun h7 => ?_) (fun h7 => (And.intro (fun h8 => ?_) (fun h8 => ?_))))))))))
        · replace h4 : w = 0 := h4
          show Wp _ 257 80 [(2, ((116 : Nat) : Int)), (0, (t : Int)), (0, (n : Int)), (0, w), (0, (j : Int))] [] K1 _ _ _
          refine g_aload_n lk_257_80 rfl ?_
          refine g_getfield lk_257_81 rfl (lay1.on (by decide) rfl) (v := ((123 : Nat) : Int)) (lay1.rf rfl) ?_
          refine g_iload lk_257_84 rfl ?_
          refine m_iaload (u := []) (M := K1) lk_257_86 (lay1.ay (by decide) rfl) (by omega) (j := j) (by omega) (v := ((ndA L n).1 : Int)) r1 ?_
          refine g_ireturn lk_257_87 (fun h => absurd h (by decide)) ?_
          exact ⟨by rw [if_neg (by omega), if_neg (by omega), if_pos (by omega)], lay1, fi mf1⟩
        · replace h5 : w = 1 := h5
          show Wp _ 257 88 [(2, ((116 : Nat) : Int)), (0, (t : Int)), (0, (n : Int)), (0, w), (0, (j : Int))] [] K1 _ _ _
          refine g_aload_n lk_257_88 rfl ?_
          refine g_getfield lk_257_89 rfl (lay1.on (by decide) rfl) (v := ((124 : Nat) : Int)) (lay1.rf rfl) ?_
          refine g_iload lk_257_92 rfl ?_
          refine m_iaload (u := []) (M := K1) lk_257_94 (lay1.ay (by decide) rfl) (by omega) (j := j) (by omega) (v := ((ndA L n).2.1 : Int)) r2 ?_
          refine g_ireturn lk_257_95 (fun h => absurd h (by decide)) ?_
          exact ⟨by rw [if_neg (by omega), if_neg (by omega), if_neg (by omega), if_pos (by omega)], lay1, fi mf1⟩
        · replace h6 : w = 2 := h6
          show Wp _ 257 96 [(2, ((116 : Nat) : Int)), (0, (t : Int)), (0, (n : Int)), (0, w), (0, (j : Int))] [] K1 _ _ _
          refine g_aload_n lk_257_96 rfl ?_
          refine g_getfield lk_257_97 rfl (lay1.on (by decide) rfl) (v := ((125 : Nat) : Int)) (lay1.rf rfl) ?_
          refine g_iload lk_257_100 rfl ?_
          refine m_iaload (u := []) (M := K1) lk_257_102 (lay1.ay (by decide) rfl) (by omega) (j := j) (by omega) (v := (ndA L n).2.2) r3 ?_
          refine g_ireturn lk_257_103 (fun h => absurd h (by decide)) ?_
          exact ⟨by rw [if_neg (by omega), if_neg (by omega), if_neg (by omega), if_neg (by omega), if_pos (by omega)], lay1, fi mf1⟩
        · replace h7 : w = 3 := h7
          show Wp _ 257 104 [(2, ((116 : Nat) : Int)), (0, (t : Int)), (0, (n : Int)), (0, w), (0, (j : Int))] [] K1 _ _ _
          refine g_aload_n lk_257_104 rfl ?_
          refine g_iload_n lk_257_105 rfl ?_
          refine g_virtual (p := 116) (Qc := _) lk_257_106 rfl (Nat.le_of_ble_eq_true rfl) rfl rfl (lay1.on (by decide) rfl) (Nat.le_of_ble_eq_true rfl) (Nat.le_of_ble_eq_true rfl) (Nat.zero_le _) (Nat.zero_le _) (ii) ?_
          rintro _ N10 ⟨rfl, hN10⟩
          rw [hN10]
          show Wp _ 257 109 [(2, ((116 : Nat) : Int)), (0, (t : Int)), (0, (n : Int)), (0, w), (0, (j : Int))] [(0, 0)] K1 _ _ _
          refine g_if (t := 116) lk_257_109 rfl (by first | assumption | (unfold pm_inI; omega)) (fun _ => ?_) (fun h => absurd (show (0 : Int) = (0 : Int) by omega) h)
          refine g_aload_n lk_257_116 rfl ?_
          refine g_getfield lk_257_117 rfl (lay1.on (by decide) rfl) (v := ((153 : Nat) : Int)) (lay1.rf rfl) ?_
          refine g_iload_n lk_257_120 rfl ?_
          refine m_iaload (u := []) (M := K1) lk_257_121 (lay1.ay (by decide) rfl) (by omega) (j := n) (by omega) (v := (e.1 : Int)) r4.1 ?_
          refine g_ireturn lk_257_122 (fun h => absurd h (by decide)) ?_
          exact ⟨by rw [if_pos (by omega)], lay1, fi mf1⟩
        · replace h8 : w = 4 := h8
          show Wp _ 257 123 [(2, ((116 : Nat) : Int)), (0, (t : Int)), (0, (n : Int)), (0, w), (0, (j : Int))] [] K1 _ _ _
          refine g_aload_n lk_257_123 rfl ?_
          refine g_iload_n lk_257_124 rfl ?_
          refine g_virtual (p := 116) (Qc := _) lk_257_125 rfl (Nat.le_of_ble_eq_true rfl) rfl rfl (lay1.on (by decide) rfl) (Nat.le_of_ble_eq_true rfl) (Nat.le_of_ble_eq_true rfl) (Nat.zero_le _) (Nat.zero_le _) (ii) ?_
          rintro _ N11 ⟨rfl, hN11⟩
          rw [hN11]
          show Wp _ 257 128 [(2, ((116 : Nat) : Int)), (0, (t : Int)), (0, (n : Int)), (0, w), (0, (j : Int))] [(0, 0)] K1 _ _ _
          refine g_if (t := 135) lk_257_128 rfl (by first | assumption | (unfold pm_inI; omega)) (fun _ => ?_) (fun h => absurd (show (0 : Int) = (0 : Int) by omega) h)
          refine g_aload_n lk_257_135 rfl ?_
          refine g_getfield lk_257_136 rfl (lay1.on (by decide) rfl) (v := ((154 : Nat) : Int)) (lay1.rf rfl) ?_
          refine g_iload_n lk_257_139 rfl ?_
          refine m_iaload (u := []) (M := K1) lk_257_140 (lay1.ay (by decide) rfl) (by omega) (j := n) (by omega) (v := (e.2.1 : Int)) r4.2 ?_
          refine g_ireturn lk_257_141 (fun h => absurd h (by decide)) ?_
          exact ⟨by rw [if_neg (by omega), if_pos (by omega)], lay1, fi mf1⟩
        · show Wp _ 257 142 [(2, ((116 : Nat) : Int)), (0, (t : Int)), (0, (n : Int)), (0, w), (0, (j : Int))] [] K1 _ _ _
          replace h4 : ¬ w = 0 := h4
          replace h5 : ¬ w = 1 := h5
          replace h6 : ¬ w = 2 := h6
          replace h7 : ¬ w = 3 := h7
          replace h8 : ¬ w = 4 := h8
          refine g_iconst lk_257_142 ?_
          refine g_ireturn lk_257_143 (fun h => absurd h (by decide)) ?_
          exact ⟨by rw [if_neg (by omega), if_neg (by omega), if_neg (by omega), if_neg (by omega), if_neg (by omega)], lay1, fi mf1⟩
    · rw [if_neg (fun z => e2 z.2)]
      rw [if_neg (show ¬ (0 ≤ k ∧ k ≤ (l : Int) - 1) by omega)] at ci
      refine g_aload_n lk_257_0 rfl ?_
      refine g_iconst lk_257_1 ?_
      have lay1 : Lay (Mu [(116, pm_upd (pm_ct M 116) 0 0)] M) := lay0.muF (l := []) (a := 116) (k := 0) (z := 0) rfl rfl
      refine m_putfield (u := []) (u' := [(116, pm_upd (pm_ct M 116) 0 0)]) (M := M) lk_257_2 rfl (lay0.on (by decide) rfl) (fun h => absurd h (by decide)) rfl ?_
      refine g_aload_n lk_257_5 rfl ?_
      refine g_iload_n lk_257_6 rfl ?_
      refine g_virtual (p := 116) (Qc := _) lk_257_7 rfl (Nat.le_of_ble_eq_true rfl) rfl rfl (lay1.on (by decide) rfl) (Nat.le_of_ble_eq_true rfl) (Nat.le_of_ble_eq_true rfl) (Nat.zero_le _) (Nat.zero_le _) (it lay1) ?_
      rintro _ N2 ⟨rfl, hN2⟩
      rw [hN2]
      show Wp _ 257 10 [(2, ((116 : Nat) : Int)), (0, (t : Int)), (0, k), (0, w), (9, 0)] [(0, 1)] (Mu [(116, pm_upd (pm_ct M 116) 0 0)] M) _ _ _
      refine g_if (t := 29) lk_257_10 rfl (by first | assumption | (unfold pm_inI; omega)) (fun h => absurd h (show ¬ ((1 : Int) = (0 : Int)) by omega)) (fun _ => ?_)
      refine g_iload_n lk_257_13 rfl ?_
      refine g_iconst lk_257_14 ?_
      refine g_aload_n lk_257_15 rfl ?_
      refine g_getfield lk_257_16 rfl (lay1.on (by decide) rfl) (v := ((122 : Nat) : Int)) (lay1.rf rfl) ?_
      refine g_iload_n lk_257_19 rfl ?_
      refine m_iaload (u := [(116, pm_upd (pm_ct M 116) 0 0)]) (M := M) lk_257_20 (lay1.ay (by decide) rfl) (by omega) (j := t) (by omega) (v := (l : Int)) nm0 ?_
      refine g_iconst lk_257_21 ?_
      refine g_isub lk_257_22 ?_
      refine g_static (Qc := _) lk_257_23 (by decide) rfl (Nat.le_of_ble_eq_true rfl) rfl rfl (Nat.le_of_ble_eq_true rfl) (Nat.le_of_ble_eq_true rfl) (Nat.zero_le _) (Nat.zero_le _) (ci _) ?_
      rintro _ N3 ⟨rfl, hN3⟩
      rw [hN3]
      show Wp _ 257 26 [(2, ((116 : Nat) : Int)), (0, (t : Int)), (0, k), (0, w), (9, 0)] [(0, 0)] (Mu [(116, pm_upd (pm_ct M 116) 0 0)] M) _ _ _
      refine g_if (t := 31) lk_257_26 rfl (by first | assumption | (unfold pm_inI; omega)) (fun h => absurd h (show ¬ (¬ (0 : Int) = (0 : Int)) by omega)) (fun _ => ?_)
      refine g_iconst lk_257_29 ?_
      refine g_ireturn lk_257_30 (fun h => absurd h (by decide)) ?_
      exact ⟨rfl, lay1, th⟩
  · rw [if_neg e1] at it
    have es : sTold T Ts ps t k w = -1 := by unfold sTold; rw [if_neg (fun z => e1 z.1)]
    rw [es]
    refine g_aload_n lk_257_0 rfl ?_
    refine g_iconst lk_257_1 ?_
    have lay1 : Lay (Mu [(116, pm_upd (pm_ct M 116) 0 0)] M) := lay0.muF (l := []) (a := 116) (k := 0) (z := 0) rfl rfl
    refine m_putfield (u := []) (u' := [(116, pm_upd (pm_ct M 116) 0 0)]) (M := M) lk_257_2 rfl (lay0.on (by decide) rfl) (fun h => absurd h (by decide)) rfl ?_
    refine g_aload_n lk_257_5 rfl ?_
    refine g_iload_n lk_257_6 rfl ?_
    refine g_virtual (p := 116) (Qc := _) lk_257_7 rfl (Nat.le_of_ble_eq_true rfl) rfl rfl (lay1.on (by decide) rfl) (Nat.le_of_ble_eq_true rfl) (Nat.le_of_ble_eq_true rfl) (Nat.zero_le _) (Nat.zero_le _) (it lay1) ?_
    rintro _ N2 ⟨rfl, hN2⟩
    rw [hN2]
    show Wp _ 257 10 [(2, ((116 : Nat) : Int)), (0, t), (0, k), (0, w), (9, 0)] [(0, 0)] (Mu [(116, pm_upd (pm_ct M 116) 0 0)] M) _ _ _
    refine g_if (t := 29) lk_257_10 rfl (by first | (unfold pm_inI; omega) | exact pm_and_in _ _ | exact pm_shr_in _ _ | exact pm_or_in _ _ | exact pm_xor_in _ _ | exact pm_shl_in _ _ | exact pm_cmp_in _ _ | exact pm_b8_in _ | (unfold pm_inI; split <;> omega)) (fun _ => ?_) (fun h => absurd (show (0 : Int) = (0 : Int) by omega) h)
    refine g_iconst lk_257_29 ?_
    refine g_ireturn lk_257_30 (fun h => absurd h (by decide)) ?_
    exact ⟨rfl, lay1, th⟩
set_option maxHeartbeats 8000000 in
theorem c_Mo_tree {d mc ms : Nat} {M : pm_M} (lay0 : Lay M) {T : Tab} (hT : TabOK T) (hM0 : MoAt M T) {Ts : List (List Nd)} {ps dps : Nat → Nat → Nat} (hTs0 : TsMX M Ts ps dps) {t w : Int} (ht : pm_inI t) (hw : pm_inI w) :
    pm_E (d + 3) 256 [(2, ((116 : Nat) : Int)), (0, t), (0, w)] M mc ms (fun ρ M' => ρ = some (0, sTree T Ts ps t w) ∧ Lay M' ∧ MF [151, 152, 153, 154] [0, 59, 60, 61, 64, 65, 66, 67] M M') := by
  have th := MF.th (S := [151, 152, 153, 154]) (K := [0, 59, 60, 61, 64, 65, 66, 67]) (by decide) M
  have mo := hM0.mf th (by decide) (by decide) (by decide) (by decide)
  have ts := hTs0.mf th (by decide) (by decide) (by decide) (by decide) (by decide)
  have it := fun l => c_Mo_isTree (d := d + 1) (mc := 0) (ms := 0) (M := Mu [(116, pm_upd (pm_ct M 116) 0 0)] M) l ts.at ht
  show Wp (d + 3) 256 0 [(2, ((116 : Nat) : Int)), (0, t), (0, w), (9, 0), (9, 0), (9, 0)] [] M mc ms _
  by_cases e1 : 0 ≤ t ∧ t < (Ts.length : Int)
  · rw [if_pos e1] at it
    have l4 := hTs0.1
    obtain ⟨t, rfl⟩ := Int.eq_ofNat_of_zero_le e1.1
    obtain ⟨tm, hX⟩ := ts.2.2 t (by omega)
    obtain ⟨hD, hp, hx⟩ := id hX
    obtain ⟨L, hL⟩ : ∃ L, L = Ts.getD t [] := ⟨_, rfl⟩
    have es : sTree T Ts ps (t : Int) w = (if w = 0 then (L.length : Int) else if w = 1 then (tLf L : Int) else if w = 2 then (x2 T (fun r c => wc T L r c 9 0) : Int) else if w = 3 then (tSum T L : Int) else if w = 4 then (tWro T L 9 : Int) else if w = 5 then (tId T L (ps t) : Int) else if w = 6 then (x2 T (fun r c => wt L r c 9 0 0) : Int) else -1) := by
      unfold sTree
      rw [if_pos e1, hL]
      rfl
    rw [← hL] at tm hD hp hx hX
    rw [es, tWro_9 hT hX, tSum_csa]
    obtain ⟨Q, hQ⟩ : ∃ Q : pm_Q, Q = (fun ρ M' => ρ = some (0, (if w = 0 then (L.length : Int) else if w = 1 then (tLf L : Int) else if w = 2 then (x2 T (fun r c => wc T L r c 9 0) : Int) else if w = 3 then (s2 T (csa T L) : Int) else if w = 4 then (s2 T (wrg T L) : Int) else if w = 5 then (tId T L (ps t) : Int) else if w = 6 then (x2 T (fun r c => wt L r c 9 0 0) : Int) else -1)) ∧ Lay M' ∧ MF [151, 152, 153, 154] [0, 59, 60, 61, 64, 65, 66, 67] M M') := ⟨_, rfl⟩
    rw [← hQ]
    have l31 := hD.2.1
    obtain ⟨l, hl⟩ : ∃ l, l = L.length := ⟨_, rfl⟩
    rw [← hl] at l31
    obtain ⟨f, hf⟩ : ∃ f : Nat → Nat, f = fun k => if (ndA L k).1 = 0 then 1 else 0 := ⟨_, rfl⟩
    obtain ⟨g, hg⟩ : ∃ g : Nat → Nat, g = fun k => if idl (CM T L (ps t) k) then 1 else 0 := ⟨_, rfl⟩
    have ef : sm f l = tLf L := by rw [hf, hl]; rfl
    have eg : sm g l = tId T L (ps t) := by rw [hg, hl]; rfl
    obtain ⟨X1, hX1⟩ : ∃ x, x = x2 T (fun r c => wc T L r c 9 0) := ⟨_, rfl⟩
    obtain ⟨X2, hX2⟩ : ∃ x, x = x2 T (fun r c => wt L r c 9 0 0) := ⟨_, rfl⟩
    rw [← hX1, ← hX2, ← ef, ← eg, ← hl] at hQ
    have loop : ∀ (N : pm_M), Lay N → MF [151, 152, 153, 154] [0, 59, 60, 61, 64, 65, 66, 67] M N → TrM N t L → CoAt N T L (ps t) L.length → pm_ct N 116 64 = (X1 : Int) → pm_ct N 116 65 = (s2 T (csa T L) : Int) → pm_ct N 116 66 = (s2 T (wrg T L) : Int) → pm_ct N 116 67 = (X2 : Int) → ∀ (n i : Nat), i + n = l → Wp (d + 3) 256 33 [(2, ((116 : Nat) : Int)), (0, (t : Int)), (0, w), (0, ((sm f i : Nat) : Int)), (0, ((sm g i : Nat) : Int)), (0, (i : Int))] [] N mc ms Q := by
      intro N lay mf tmN co f64 f65 f66 f67 n
      have nm := tmN.1
      rw [← hl] at nm
      induction n with
      | zero =>
        intro i hi
        have e : i = l := by omega
        rw [e]
        refine g_iload lk_256_33 rfl ?_
        refine g_aload_n lk_256_35 rfl ?_
        refine g_getfield lk_256_36 rfl (lay.on (by decide) rfl) (v := ((122 : Nat) : Int)) (lay.rf rfl) ?_
        refine g_iload_n lk_256_39 rfl ?_
        refine m_iaload (u := []) (M := N) lk_256_40 (lay.ay (by decide) rfl) (by omega) (j := t) (by omega) (v := (l : Int)) nm ?_
        refine g_icmp (t := 92) lk_256_41 rfl (by first | assumption | (unfold pm_inI; omega)) (by first | assumption | (unfold pm_inI; omega)) (fun h1 => ?_) (fun h1 => ?_)
        · replace h1 : (l : Int) ≤ (l : Int) := h1
          refine g_iload_n lk_256_92 rfl ?_
          refine g_tsw lk_256_93 (by first | assumption | (unfold pm_inI; omega)) (And.intro (fun h2 => ?_) (fun h2 => (And.intro (fun h3 => ?_) (fun h3 => (And.intro (fun h4 => ?_) (fun h4 => (And.intro (fun h5 => ?_) (fun h5 => (And.intro (fun h6 => ?_) (fun h6 => (And.intro (fun h7 => ?_) (fun h7 => (And.intro (fun h8 => ?_) (fun h8 => ?_))))))))))))))
          · replace h2 : w = 0 := h2
            show Wp _ 256 136 [(2, ((116 : Nat) : Int)), (0, (t : Int)), (0, w), (0, ((sm f l : Nat) : Int)), (0, ((sm g l : Nat) : Int)), (0, (l : Int))] [] N _ _ _
            refine g_aload_n lk_256_136 rfl ?_
            refine g_getfield lk_256_137 rfl (lay.on (by decide) rfl) (v := ((122 : Nat) : Int)) (lay.rf rfl) ?_
            refine g_iload_n lk_256_140 rfl ?_
            refine m_iaload (u := []) (M := N) lk_256_141 (lay.ay (by decide) rfl) (by omega) (j := t) (by omega) (v := (l : Int)) nm ?_
            refine g_ireturn lk_256_142 (fun h => absurd h (by decide)) ?_
            rw [hQ]
            exact ⟨by rw [if_pos (by omega)], lay, mf⟩
          · replace h3 : w = 1 := h3
            show Wp _ 256 143 [(2, ((116 : Nat) : Int)), (0, (t : Int)), (0, w), (0, ((sm f l : Nat) : Int)), (0, ((sm g l : Nat) : Int)), (0, (l : Int))] [] N _ _ _
            refine g_iload_n lk_256_143 rfl ?_
            refine g_ireturn lk_256_144 (fun h => absurd h (by decide)) ?_
            rw [hQ]
            exact ⟨by rw [if_neg (by omega), if_pos (by omega)], lay, mf⟩
          · replace h4 : w = 2 := h4
            show Wp _ 256 145 [(2, ((116 : Nat) : Int)), (0, (t : Int)), (0, w), (0, ((sm f l : Nat) : Int)), (0, ((sm g l : Nat) : Int)), (0, (l : Int))] [] N _ _ _
            refine g_aload_n lk_256_145 rfl ?_
            refine m_getfield (u := []) (M := N) lk_256_146 rfl (lay.on (by decide) rfl) (v := (X1 : Int)) f64 ?_
            refine g_ireturn lk_256_149 (fun h => absurd h (by decide)) ?_
            rw [hQ]
            exact ⟨by rw [if_neg (by omega), if_neg (by omega), if_pos (by omega)], lay, mf⟩
          · replace h5 : w = 3 := h5
            show Wp _ 256 150 [(2, ((116 : Nat) : Int)), (0, (t : Int)), (0, w), (0, ((sm f l : Nat) : Int)), (0, ((sm g l : Nat) : Int)), (0, (l : Int))] [] N _ _ _
            refine g_aload_n lk_256_150 rfl ?_
            refine m_getfield (u := []) (M := N) lk_256_151 rfl (lay.on (by decide) rfl) (v := (s2 T (csa T L) : Int)) f65 ?_
            refine g_ireturn lk_256_154 (fun h => absurd h (by decide)) ?_
            rw [hQ]
            exact ⟨by rw [if_neg (by omega), if_neg (by omega), if_neg (by omega), if_pos (by omega)], lay, mf⟩
          · replace h6 : w = 4 := h6
            show Wp _ 256 155 [(2, ((116 : Nat) : Int)), (0, (t : Int)), (0, w), (0, ((sm f l : Nat) : Int)), (0, ((sm g l : Nat) : Int)), (0, (l : Int))] [] N _ _ _
            refine g_aload_n lk_256_155 rfl ?_
            refine m_getfield (u := []) (M := N) lk_256_156 rfl (lay.on (by decide) rfl) (v := (s2 T (wrg T L) : Int)) f66 ?_
            refine g_ireturn lk_256_159 (fun h => absurd h (by decide)) ?_
            rw [hQ]
            exact ⟨by rw [if_neg (by omega), if_neg (by omega), if_neg (by omega), if_neg (by omega), if_pos (by omega)], lay, mf⟩
          · replace h7 : w = 5 := h7
            show Wp _ 256 160 [(2, ((116 : Nat) : Int)), (0, (t : Int)), (0, w), (0, ((sm f l : Nat) : Int)), (0, ((sm g l : Nat) : Int)), (0, (l : Int))] [] N _ _ _
            refine g_iload lk_256_160 rfl ?_
            refine g_ireturn lk_256_162 (fun h => absurd h (by decide)) ?_
            rw [hQ]
            exact ⟨by rw [if_neg (by omega), if_neg (by omega), if_neg (by omega), if_neg (by omega), if_neg (by omega), if_pos (by omega)], lay, mf⟩
          · replace h8 : w = 6 := h8
            show Wp _ 256 163 [(2, ((116 : Nat) : Int)), (0, (t : Int)), (0, w), (0, ((sm f l : Nat) : Int)), (0, ((sm g l : Nat) : Int)), (0, (l : Int))] [] N _ _ _
            refine g_aload_n lk_256_163 rfl ?_
            refine m_getfield (u := []) (M := N) lk_256_164 rfl (lay.on (by decide) rfl) (v := (X2 : Int)) f67 ?_
            refine g_ireturn lk_256_167 (fun h => absurd h (by decide)) ?_
            rw [hQ]
            exact ⟨by rw [if_neg (by omega), if_neg (by omega), if_neg (by omega), if_neg (by omega), if_neg (by omega), if_neg (by omega), if_pos (by omega)], lay, mf⟩
          · show Wp _ 256 168 [(2, ((116 : Nat) : Int)), (0, (t : Int)), (0, w), (0, ((sm f l : Nat) : Int)), (0, ((sm g l : Nat) : Int)), (0, (l : Int))] [] N _ _ _
            replace h2 : ¬ w = 0 := h2
            replace h3 : ¬ w = 1 := h3
            replace h4 : ¬ w = 2 := h4
            replace h5 : ¬ w = 3 := h5
            replace h6 : ¬ w = 4 := h6
            replace h7 : ¬ w = 5 := h7
            replace h8 : ¬ w = 6 := h8
            refine g_iconst lk_256_168 ?_
            refine g_ireturn lk_256_169 (fun h => absurd h (by decide)) ?_
            rw [hQ]
            exact ⟨by rw [if_neg (by omega), if_neg (by omega), if_neg (by omega), if_neg (by omega), if_neg (by omega), if_neg (by omega), if_neg (by omega)], lay, mf⟩
        · replace h1 : ¬ ((l : Int) ≤ (l : Int)) := h1
          omega
      | succ n ih =>
        intro i hi
        have hk : i < L.length := by omega
        have y1 := (tmN.2 i hk).1
        have a1 := (hD.2.2.2 i hk).1
        obtain ⟨j, hj⟩ : ∃ j, j = 31 * t + i := ⟨_, rfl⟩
        rw [← hj] at y1
        have ej : (31 : Int) * (t : Int) + (i : Int) = (j : Int) := by omega
        have ii := c_Mo_isIdle (d := d + 2) (mc := 0) (ms := 0) lay hT hD hp co hk
        have fi : f i = if (ndA L i).1 = 0 then 1 else 0 := by rw [hf]
        have gi : g i = if idl (CM T L (ps t) i) then 1 else 0 := by rw [hg]
        obtain ⟨x, hx1⟩ : ∃ x, x = (ndA L i).1 := ⟨_, rfl⟩
        rw [← hx1] at y1 a1 fi
        have go : ∀ z z' : Int, z = ((sm f i + f i : Nat) : Int) → z' = ((sm g i + g i : Nat) : Int) → Wp (d + 3) 256 33 [(2, ((116 : Nat) : Int)), (0, (t : Int)), (0, w), (0, z), (0, z'), (0, (i : Int) + 1)] [] N mc ms Q := fun z z' hz hz' => by
          rw [hz, hz']; exact ih (i + 1) (by omega)
        clear ih
        by_cases q : idl (CM T L (ps t) i)
        · rw [if_pos q] at ii gi
          refine g_iload lk_256_33 rfl ?_
          refine g_aload_n lk_256_35 rfl ?_
          refine g_getfield lk_256_36 rfl (lay.on (by decide) rfl) (v := ((122 : Nat) : Int)) (lay.rf rfl) ?_
          refine g_iload_n lk_256_39 rfl ?_
          refine m_iaload (u := []) (M := N) lk_256_40 (lay.ay (by decide) rfl) (by omega) (j := t) (by omega) (v := (l : Int)) nm ?_
          refine g_icmp (t := 92) lk_256_41 rfl (by first | (unfold pm_inI; omega) | exact pm_and_in _ _ | exact pm_shr_in _ _ | exact pm_or_in _ _ | exact pm_xor_in _ _ | exact pm_shl_in _ _ | exact pm_cmp_in _ _ | exact pm_b8_in _ | (unfold pm_inI; split <;> omega)) (by first | (unfold pm_inI; omega) | exact pm_and_in _ _ | exact pm_shr_in _ _ | exact pm_or_in _ _ | exact pm_xor_in _ _ | exact pm_shl_in _ _ | exact pm_cmp_in _ _ | exact pm_b8_in _ | (unfold pm_inI; split <;> omega)) (fun h1 => ?_) (fun h1 => ?_)
          · replace h1 : (l : Int) ≤ (i : Int) := h1
            omega
          · replace h1 : ¬ ((l : Int) ≤ (i : Int)) := h1
            refine g_iload_n lk_256_44 rfl ?_
            refine g_aload_n lk_256_45 rfl ?_
            refine g_getfield lk_256_46 rfl (lay.on (by decide) rfl) (v := ((123 : Nat) : Int)) (lay.rf rfl) ?_
            refine g_bipush lk_256_49 ?_
            refine g_iload_n lk_256_51 rfl ?_
            refine g_imul lk_256_52 ?_
            refine g_iload lk_256_53 rfl ?_
            refine g_iadd lk_256_55 ?_
            refine g_top (z := ((31 * (t : Int)) + (i : Int))) (z' := (j : Int)) (ej) ?_
            refine m_iaload (u := []) (M := N) lk_256_56 (lay.ay (by decide) rfl) (by omega) (j := j) (by omega) (v := (x : Int)) y1 ?_
            refine g_if (t := 64) lk_256_57 rfl (by first | (unfold pm_inI; omega) | exact pm_and_in _ _ | exact pm_shr_in _ _ | exact pm_or_in _ _ | exact pm_xor_in _ _ | exact pm_shl_in _ _ | exact pm_cmp_in _ _ | exact pm_b8_in _ | (unfold pm_inI; split <;> omega)) (fun h2 => ?_) (fun h2 => ?_)
            · replace h2 : ¬ (x : Int) = 0 := h2
              refine g_iconst lk_256_64 ?_
              refine g_iadd lk_256_65 ?_
              refine g_istore_n (ls' := [(2, ((116 : Nat) : Int)), (0, (t : Int)), (0, w), (0, (((sm f i : Nat) : Int) + 0)), (0, ((sm g i : Nat) : Int)), (0, (i : Int))]) lk_256_66 rfl rfl ?_
              refine g_iload lk_256_67 rfl ?_
              refine g_aload_n lk_256_69 rfl ?_
              refine g_iload lk_256_70 rfl ?_
              refine g_virtual (p := 116) (Qc := _) lk_256_72 rfl (Nat.le_of_ble_eq_true rfl) rfl rfl (lay.on (by decide) rfl) (Nat.le_of_ble_eq_true rfl) (Nat.le_of_ble_eq_true rfl) (Nat.zero_le _) (Nat.zero_le _) (ii) ?_
              rintro _ N3 ⟨rfl, hN3⟩
              rw [hN3]
              show Wp _ 256 75 [(2, ((116 : Nat) : Int)), (0, (t : Int)), (0, w), (0, (((sm f i : Nat) : Int) + 0)), (0, ((sm g i : Nat) : Int)), (0, (i : Int))] [(0, 1), (0, ((sm g i : Nat) : Int))] N _ _ _
              refine g_if (t := 82) lk_256_75 rfl (by first | (unfold pm_inI; omega) | exact pm_and_in _ _ | exact pm_shr_in _ _ | exact pm_or_in _ _ | exact pm_xor_in _ _ | exact pm_shl_in _ _ | exact pm_cmp_in _ _ | exact pm_b8_in _ | (unfold pm_inI; split <;> omega)) (fun h => absurd h (show ¬ ((1 : Int) = (0 : Int)) by omega)) (fun _ => ?_)
              refine g_iconst lk_256_78 ?_
              refine g_goto (t := 83) lk_256_79 rfl ?_
              refine g_iadd lk_256_83 ?_
              refine g_istore (ls' := [(2, ((116 : Nat) : Int)), (0, (t : Int)), (0, w), (0, (((sm f i : Nat) : Int) + 0)), (0, (((sm g i : Nat) : Int) + 1)), (0, (i : Int))]) lk_256_84 rfl rfl ?_
              refine g_iinc (ls' := [(2, ((116 : Nat) : Int)), (0, (t : Int)), (0, w), (0, (((sm f i : Nat) : Int) + 0)), (0, (((sm g i : Nat) : Int) + 1)), (0, ((i : Int) + 1))]) lk_256_86 rfl rfl rfl ?_
              refine g_goto (t := 33) lk_256_89 rfl ?_
              exact go _ _ (by rw [fi, if_neg (by omega)]; omega) (by rw [gi]; omega)
            · replace h2 : ¬ (¬ (x : Int) = 0) := h2
              refine g_iconst lk_256_60 ?_
              refine g_goto (t := 65) lk_256_61 rfl ?_
              refine g_iadd lk_256_65 ?_
              refine g_istore_n (ls' := [(2, ((116 : Nat) : Int)), (0, (t : Int)), (0, w), (0, (((sm f i : Nat) : Int) + 1)), (0, ((sm g i : Nat) : Int)), (0, (i : Int))]) lk_256_66 rfl rfl ?_
              refine g_iload lk_256_67 rfl ?_
              refine g_aload_n lk_256_69 rfl ?_
              refine g_iload lk_256_70 rfl ?_
              refine g_virtual (p := 116) (Qc := _) lk_256_72 rfl (Nat.le_of_ble_eq_true rfl) rfl rfl (lay.on (by decide) rfl) (Nat.le_of_ble_eq_true rfl) (Nat.le_of_ble_eq_true rfl) (Nat.zero_le _) (Nat.zero_le _) (ii) ?_
              rintro _ N4 ⟨rfl, hN4⟩
              rw [hN4]
              show Wp _ 256 75 [(2, ((116 : Nat) : Int)), (0, (t : Int)), (0, w), (0, (((sm f i : Nat) : Int) + 1)), (0, ((sm g i : Nat) : Int)), (0, (i : Int))] [(0, 1), (0, ((sm g i : Nat) : Int))] N _ _ _
              refine g_if (t := 82) lk_256_75 rfl (by first | (unfold pm_inI; omega) | exact pm_and_in _ _ | exact pm_shr_in _ _ | exact pm_or_in _ _ | exact pm_xor_in _ _ | exact pm_shl_in _ _ | exact pm_cmp_in _ _ | exact pm_b8_in _ | (unfold pm_inI; split <;> omega)) (fun h => absurd h (show ¬ ((1 : Int) = (0 : Int)) by omega)) (fun _ => ?_)
              refine g_iconst lk_256_78 ?_
              refine g_goto (t := 83) lk_256_79 rfl ?_
              refine g_iadd lk_256_83 ?_
              refine g_istore (ls' := [(2, ((116 : Nat) : Int)), (0, (t : Int)), (0, w), (0, (((sm f i : Nat) : Int) + 1)), (0, (((sm g i : Nat) : Int) + 1)), (0, (i : Int))]) lk_256_84 rfl rfl ?_
              refine g_iinc (ls' := [(2, ((116 : Nat) : Int)), (0, (t : Int)), (0, w), (0, (((sm f i : Nat) : Int) + 1)), (0, (((sm g i : Nat) : Int) + 1)), (0, ((i : Int) + 1))]) lk_256_86 rfl rfl rfl ?_
              refine g_goto (t := 33) lk_256_89 rfl ?_
              exact go _ _ (by rw [fi, if_pos (by omega)]; omega) (by rw [gi]; omega)
        · rw [if_neg q] at ii gi
          refine g_iload lk_256_33 rfl ?_
          refine g_aload_n lk_256_35 rfl ?_
          refine g_getfield lk_256_36 rfl (lay.on (by decide) rfl) (v := ((122 : Nat) : Int)) (lay.rf rfl) ?_
          refine g_iload_n lk_256_39 rfl ?_
          refine m_iaload (u := []) (M := N) lk_256_40 (lay.ay (by decide) rfl) (by omega) (j := t) (by omega) (v := (l : Int)) nm ?_
          refine g_icmp (t := 92) lk_256_41 rfl (by first | (unfold pm_inI; omega) | exact pm_and_in _ _ | exact pm_shr_in _ _ | exact pm_or_in _ _ | exact pm_xor_in _ _ | exact pm_shl_in _ _ | exact pm_cmp_in _ _ | exact pm_b8_in _ | (unfold pm_inI; split <;> omega)) (by first | (unfold pm_inI; omega) | exact pm_and_in _ _ | exact pm_shr_in _ _ | exact pm_or_in _ _ | exact pm_xor_in _ _ | exact pm_shl_in _ _ | exact pm_cmp_in _ _ | exact pm_b8_in _ | (unfold pm_inI; split <;> omega)) (fun h1 => ?_) (fun h1 => ?_)
          · replace h1 : (l : Int) ≤ (i : Int) := h1
            omega
          · replace h1 : ¬ ((l : Int) ≤ (i : Int)) := h1
            refine g_iload_n lk_256_44 rfl ?_
            refine g_aload_n lk_256_45 rfl ?_
            refine g_getfield lk_256_46 rfl (lay.on (by decide) rfl) (v := ((123 : Nat) : Int)) (lay.rf rfl) ?_
            refine g_bipush lk_256_49 ?_
            refine g_iload_n lk_256_51 rfl ?_
            refine g_imul lk_256_52 ?_
            refine g_iload lk_256_53 rfl ?_
            refine g_iadd lk_256_55 ?_
            refine g_top (z := ((31 * (t : Int)) + (i : Int))) (z' := (j : Int)) (ej) ?_
            refine m_iaload (u := []) (M := N) lk_256_56 (lay.ay (by decide) rfl) (by omega) (j := j) (by omega) (v := (x : Int)) y1 ?_
            refine g_if (t := 64) lk_256_57 rfl (by first | (unfold pm_inI; omega) | exact pm_and_in _ _ | exact pm_shr_in _ _ | exact pm_or_in _ _ | exact pm_xor_in _ _ | exact pm_shl_in _ _ | exact pm_cmp_in _ _ | exact pm_b8_in _ | (unfold pm_inI; split <;> omega)) (fun h2 => ?_) (fun h2 => ?_)
            · replace h2 : ¬ (x : Int) = 0 := h2
              refine g_iconst lk_256_64 ?_
              refine g_iadd lk_256_65 ?_
              refine g_istore_n (ls' := [(2, ((116 : Nat) : Int)), (0, (t : Int)), (0, w), (0, (((sm f i : Nat) : Int) + 0)), (0, ((sm g i : Nat) : Int)), (0, (i : Int))]) lk_256_66 rfl rfl ?_
              refine g_iload lk_256_67 rfl ?_
              refine g_aload_n lk_256_69 rfl ?_
              refine g_iload lk_256_70 rfl ?_
              refine g_virtual (p := 116) (Qc := _) lk_256_72 rfl (Nat.le_of_ble_eq_true rfl) rfl rfl (lay.on (by decide) rfl) (Nat.le_of_ble_eq_true rfl) (Nat.le_of_ble_eq_true rfl) (Nat.zero_le _) (Nat.zero_le _) (ii) ?_
              rintro _ N3 ⟨rfl, hN3⟩
              rw [hN3]
              show Wp _ 256 75 [(2, ((116 : Nat) : Int)), (0, (t : Int)), (0, w), (0, (((sm f i : Nat) : Int) + 0)), (0, ((sm g i : Nat) : Int)), (0, (i : Int))] [(0, 0), (0, ((sm g i : Nat) : Int))] N _ _ _
              refine g_if (t := 82) lk_256_75 rfl (by first | (unfold pm_inI; omega) | exact pm_and_in _ _ | exact pm_shr_in _ _ | exact pm_or_in _ _ | exact pm_xor_in _ _ | exact pm_shl_in _ _ | exact pm_cmp_in _ _ | exact pm_b8_in _ | (unfold pm_inI; split <;> omega)) (fun _ => ?_) (fun h => absurd (show (0 : Int) = (0 : Int) by omega) h)
              refine g_iconst lk_256_82 ?_
              refine g_iadd lk_256_83 ?_
              refine g_istore (ls' := [(2, ((116 : Nat) : Int)), (0, (t : Int)), (0, w), (0, (((sm f i : Nat) : Int) + 0)), (0, (((sm g i : Nat) : Int) + 0)), (0, (i : Int))]) lk_256_84 rfl rfl ?_
              refine g_iinc (ls' := [(2, ((116 : Nat) : Int)), (0, (t : Int)), (0, w), (0, (((sm f i : Nat) : Int) + 0)), (0, (((sm g i : Nat) : Int) + 0)), (0, ((i : Int) + 1))]) lk_256_86 rfl rfl rfl ?_
              refine g_goto (t := 33) lk_256_89 rfl ?_
              exact go _ _ (by rw [fi, if_neg (by omega)]; omega) (by rw [gi]; omega)
            · replace h2 : ¬ (¬ (x : Int) = 0) := h2
              refine g_iconst lk_256_60 ?_
              refine g_goto (t := 65) lk_256_61 rfl ?_
              refine g_iadd lk_256_65 ?_
              refine g_istore_n (ls' := [(2, ((116 : Nat) : Int)), (0, (t : Int)), (0, w), (0, (((sm f i : Nat) : Int) + 1)), (0, ((sm g i : Nat) : Int)), (0, (i : Int))]) lk_256_66 rfl rfl ?_
              refine g_iload lk_256_67 rfl ?_
              refine g_aload_n lk_256_69 rfl ?_
              refine g_iload lk_256_70 rfl ?_
              refine g_virtual (p := 116) (Qc := _) lk_256_72 rfl (Nat.le_of_ble_eq_true rfl) rfl rfl (lay.on (by decide) rfl) (Nat.le_of_ble_eq_true rfl) (Nat.le_of_ble_eq_true rfl) (Nat.zero_le _) (Nat.zero_le _) (ii) ?_
              rintro _ N4 ⟨rfl, hN4⟩
              rw [hN4]
              show Wp _ 256 75 [(2, ((116 : Nat) : Int)), (0, (t : Int)), (0, w), (0, (((sm f i : Nat) : Int) + 1)), (0, ((sm g i : Nat) : Int)), (0, (i : Int))] [(0, 0), (0, ((sm g i : Nat) : Int))] N _ _ _
              refine g_if (t := 82) lk_256_75 rfl (by first | (unfold pm_inI; omega) | exact pm_and_in _ _ | exact pm_shr_in _ _ | exact pm_or_in _ _ | exact pm_xor_in _ _ | exact pm_shl_in _ _ | exact pm_cmp_in _ _ | exact pm_b8_in _ | (unfold pm_inI; split <;> omega)) (fun _ => ?_) (fun h => absurd (show (0 : Int) = (0 : Int) by omega) h)
              refine g_iconst lk_256_82 ?_
              refine g_iadd lk_256_83 ?_
              refine g_istore (ls' := [(2, ((116 : Nat) : Int)), (0, (t : Int)), (0, w), (0, (((sm f i : Nat) : Int) + 1)), (0, (((sm g i : Nat) : Int) + 0)), (0, (i : Int))]) lk_256_84 rfl rfl ?_
              refine g_iinc (ls' := [(2, ((116 : Nat) : Int)), (0, (t : Int)), (0, w), (0, (((sm f i : Nat) : Int) + 1)), (0, (((sm g i : Nat) : Int) + 0)), (0, ((i : Int) + 1))]) lk_256_86 rfl rfl rfl ?_
              refine g_goto (t := 33) lk_256_89 rfl ?_
              exact go _ _ (by rw [fi, if_pos (by omega)]; omega) (by rw [gi]; omega)
    have la := fun l => c_Mo_layAll (d := d) (mc := 0) (ms := 0) (M := Mu [(116, pm_upd (pm_ct M 116) 0 0)] M) l hT mo hD (show t < 4 by omega) tm
    rw [← hX1, ← hX2] at la
    refine g_aload_n lk_256_0 rfl ?_
    refine g_iconst lk_256_1 ?_
    have lay1 : Lay (Mu [(116, pm_upd (pm_ct M 116) 0 0)] M) := lay0.muF (l := []) (a := 116) (k := 0) (z := 0) rfl rfl
    refine m_putfield (u := []) (u' := [(116, pm_upd (pm_ct M 116) 0 0)]) (M := M) lk_256_2 rfl (lay0.on (by decide) rfl) (fun h => absurd h (by decide)) rfl ?_
    refine g_aload_n lk_256_5 rfl ?_
    refine g_iload_n lk_256_6 rfl ?_
    refine g_virtual (p := 116) (Qc := _) lk_256_7 rfl (Nat.le_of_ble_eq_true rfl) rfl rfl (lay1.on (by decide) rfl) (Nat.le_of_ble_eq_true rfl) (Nat.le_of_ble_eq_true rfl) (Nat.zero_le _) (Nat.zero_le _) (it lay1) ?_
    rintro _ N2 ⟨rfl, hN2⟩
    rw [hN2]
    show Wp _ 256 10 [(2, ((116 : Nat) : Int)), (0, (t : Int)), (0, w), (9, 0), (9, 0), (9, 0)] [(0, 1)] (Mu [(116, pm_upd (pm_ct M 116) 0 0)] M) _ _ _
    refine g_if (t := 15) lk_256_10 rfl (by first | (unfold pm_inI; omega) | exact pm_and_in _ _ | exact pm_shr_in _ _ | exact pm_or_in _ _ | exact pm_xor_in _ _ | exact pm_shl_in _ _ | exact pm_cmp_in _ _ | exact pm_b8_in _ | (unfold pm_inI; split <;> omega)) (fun _ => ?_) (fun h => absurd (show ¬ (1 : Int) = (0 : Int) by omega) h)
    refine g_aload_n lk_256_15 rfl ?_
    refine g_iload_n lk_256_16 rfl ?_
    refine g_virtual (p := 116) (Qc := _) lk_256_17 rfl (Nat.le_of_ble_eq_true rfl) rfl rfl (lay1.on (by decide) rfl) (Nat.le_of_ble_eq_true rfl) (Nat.le_of_ble_eq_true rfl) (Nat.zero_le _) (Nat.zero_le _) (la lay1) ?_
    rintro _ K1 ⟨rfl, lay1, mf1, c64, c65, c66, c67⟩
    have mo1 := mo.mf mf1 (by decide) (by decide) (by decide) (by decide)
    have tm1 := tm.mf mf1 (by decide) (by decide) (by decide) (by decide)
    have lc := c_Mo_layComers (d := d + 1) (mc := 0) (ms := 0) lay1 hT mo1 hD hp (show t < 4 by omega) tm1
    show Wp _ 256 20 [(2, ((116 : Nat) : Int)), (0, (t : Int)), (0, w), (9, 0), (9, 0), (9, 0)] [] K1 _ _ _
    refine g_aload_n lk_256_20 rfl ?_
    refine g_iload_n lk_256_21 rfl ?_
    refine g_virtual (p := 116) (Qc := _) lk_256_22 rfl (Nat.le_of_ble_eq_true rfl) rfl rfl (lay1.on (by decide) rfl) (Nat.le_of_ble_eq_true rfl) (Nat.le_of_ble_eq_true rfl) (Nat.zero_le _) (Nat.zero_le _) (lc) ?_
    rintro _ K2 ⟨rfl, lay2, mf2, co2⟩
    show Wp _ 256 25 [(2, ((116 : Nat) : Int)), (0, (t : Int)), (0, w), (9, 0), (9, 0), (9, 0)] [] K2 _ _ _
    refine g_iconst lk_256_25 ?_
    refine g_istore_n (ls' := [(2, ((116 : Nat) : Int)), (0, (t : Int)), (0, w), (0, 0), (9, 0), (9, 0)]) lk_256_26 rfl rfl ?_
    refine g_iconst lk_256_27 ?_
    refine g_istore (ls' := [(2, ((116 : Nat) : Int)), (0, (t : Int)), (0, w), (0, 0), (0, 0), (9, 0)]) lk_256_28 rfl rfl ?_
    refine g_iconst lk_256_30 ?_
    refine g_istore (ls' := [(2, ((116 : Nat) : Int)), (0, (t : Int)), (0, w), (0, 0), (0, 0), (0, 0)]) lk_256_31 rfl rfl ?_
    refine loop K2 lay2 ((th.trans (mf1.mono (fun a q => by simp at q ⊢; omega) (fun a q => by simp at q ⊢; omega))).trans (mf2.mono (fun a q => by simp at q ⊢; omega) (fun a q => by cases q))) (tm1.mf mf2 (by decide) (by decide) (by decide) (by decide)) co2 ?_ ?_ ?_ ?_ l 0 (by omega)
    · rw [mf2.fd (by decide)]; exact c64
    · rw [mf2.fd (by decide)]; exact c65
    · rw [mf2.fd (by decide)]; exact c66
    · rw [mf2.fd (by decide)]; exact c67
  · rw [if_neg e1] at it
    have es : sTree T Ts ps t w = -1 := by unfold sTree; rw [if_neg e1]
    rw [es]
    refine g_aload_n lk_256_0 rfl ?_
    refine g_iconst lk_256_1 ?_
    have lay1 : Lay (Mu [(116, pm_upd (pm_ct M 116) 0 0)] M) := lay0.muF (l := []) (a := 116) (k := 0) (z := 0) rfl rfl
    refine m_putfield (u := []) (u' := [(116, pm_upd (pm_ct M 116) 0 0)]) (M := M) lk_256_2 rfl (lay0.on (by decide) rfl) (fun h => absurd h (by decide)) rfl ?_
    refine g_aload_n lk_256_5 rfl ?_
    refine g_iload_n lk_256_6 rfl ?_
    refine g_virtual (p := 116) (Qc := _) lk_256_7 rfl (Nat.le_of_ble_eq_true rfl) rfl rfl (lay1.on (by decide) rfl) (Nat.le_of_ble_eq_true rfl) (Nat.le_of_ble_eq_true rfl) (Nat.zero_le _) (Nat.zero_le _) (it lay1) ?_
    rintro _ N2 ⟨rfl, hN2⟩
    rw [hN2]
    show Wp _ 256 10 [(2, ((116 : Nat) : Int)), (0, t), (0, w), (9, 0), (9, 0), (9, 0)] [(0, 0)] (Mu [(116, pm_upd (pm_ct M 116) 0 0)] M) _ _ _
    refine g_if (t := 15) lk_256_10 rfl (by first | (unfold pm_inI; omega) | exact pm_and_in _ _ | exact pm_shr_in _ _ | exact pm_or_in _ _ | exact pm_xor_in _ _ | exact pm_shl_in _ _ | exact pm_cmp_in _ _ | exact pm_b8_in _ | (unfold pm_inI; split <;> omega)) (fun h => absurd h (show ¬ (¬ (0 : Int) = (0 : Int)) by omega)) (fun _ => ?_)
    refine g_iconst lk_256_13 ?_
    refine g_ireturn lk_256_14 (fun h => absurd h (by decide)) ?_
    exact ⟨rfl, lay1, th⟩
