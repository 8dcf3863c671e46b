/-! ===== the model: over all entries of a tree ===== -/
def pX (T : Tab) (f : Nat → Nat → Nat) (r c : Nat) : Nat := max (xm (fun r => xm (fun c => f r c) (tC T)) r) (xm (fun c => f r c) c)
def pS (T : Tab) (f : Nat → Nat → Nat) (r c : Nat) : Nat := sm (fun r => sm (fun c => f r c) (tC T)) r + sm (fun c => f r c) c
theorem pX_s (T : Tab) (f : Nat → Nat → Nat) (r c : Nat) : pX T f r (c + 1) = max (pX T f r c) (f r c) := by
  show max (xm (fun r => xm (fun c => f r c) (tC T)) r) (max (xm (fun c => f r c) c) (f r c)) = max (max (xm (fun r => xm (fun c => f r c) (tC T)) r) (xm (fun c => f r c) c)) (f r c)
  omega
theorem pX_r (T : Tab) (f : Nat → Nat → Nat) (r : Nat) : pX T f (r + 1) 0 = pX T f r (tC T) := by
  show max (max (xm (fun r => xm (fun c => f r c) (tC T)) r) (xm (fun c => f r c) (tC T))) 0 = _
  unfold pX
  omega
theorem pX_e (T : Tab) (f : Nat → Nat → Nat) : pX T f (tR T) 0 = x2 T f := by
  show max (xm (fun r => xm (fun c => f r c) (tC T)) (tR T)) 0 = xm (fun r => xm (fun c => f r c) (tC T)) (tR T)
  omega
theorem pX_le {T : Tab} {f : Nat → Nat → Nat} {b : Nat} (h : ∀ r c, f r c ≤ b) (r c : Nat) : pX T f r c ≤ b := by
  unfold pX
  have := xm_le (f := fun r => xm (fun c => f r c) (tC T)) (b := b) (n := r) (fun i _ => xm_le (fun j _ => h i j))
  have := xm_le (f := fun c => f r c) (b := b) (n := c) (fun j _ => h r j)
  omega
theorem pS_s (T : Tab) (f : Nat → Nat → Nat) (r c : Nat) : pS T f r (c + 1) = pS T f r c + f r c := by
  show sm (fun r => sm (fun c => f r c) (tC T)) r + (sm (fun c => f r c) c + f r c) = sm (fun r => sm (fun c => f r c) (tC T)) r + sm (fun c => f r c) c + f r c
  omega
theorem pS_r (T : Tab) (f : Nat → Nat → Nat) (r : Nat) : pS T f (r + 1) 0 = pS T f r (tC T) := rfl
theorem pS_e (T : Tab) (f : Nat → Nat → Nat) : pS T f (tR T) 0 = s2 T f := rfl
theorem wc_81 {T : Tab} (hT : TabOK T) (L : List Nd) (r c : Nat) : ∀ n k, wc T L r c n k ≤ 9 * n
  | 0, _ => Nat.le_refl _
  | n + 1, k => by
    show (if (ndA L k).1 = 0 then 0 else prK T (ndA L k).1 + wc T L r c n (nxt L r c k)) ≤ 9 * (n + 1)
    have := wc_81 hT L r c n (nxt L r c k)
    have ca := hT.2.2.2.1
    have cb := hT.2.2.2.2
    have : prK T (ndA L k).1 ≤ 9 := by unfold prK; split <;> omega
    split <;> omega
theorem wt_9 (L : List Nd) (r c : Nat) : ∀ n k q, wt L r c n k q ≤ n
  | 0, _, _ => Nat.le_refl _
  | n + 1, k, q => by
    show (if (ndA L k).1 = 0 then 0 else tu q (ndA L k).1 + wt L r c n (nxt L r c k) (ndA L k).1) ≤ n + 1
    have := wt_9 L r c n (nxt L r c k) (ndA L k).1
    have : tu q (ndA L k).1 ≤ 1 := by unfold tu; split; omega; split <;> omega
    split <;> omega
theorem MoAt.u116 {M : pm_M} {T : Tab} (h : MoAt M T) {f : Nat → Int} (h1 : f 1 = pm_ct M 116 1) (h2 : f 2 = pm_ct M 116 2) : MoAt (Mu [(116, f)] M) T := by
  unfold MoAt at h ⊢
  rw [Mu_ct, Mu_ct, Mu_ct]
  exact ⟨by rw [← h.1]; exact h1, by rw [← h.2.1]; exact h2, h.2.2⟩
/-- an entry that is told wrong -/
def wrg (T : Tab) (L : List Nd) (r c : Nat) : Nat := if tX T (6 * r + c) ≠ 10 ∧ (ndA L (wy L r c 9 0)).2.1 ≠ tX T (6 * r + c) then 1 else 0
def csa (T : Tab) (L : List Nd) (r c : Nat) : Nat := if tX T (6 * r + c) = 10 then 0 else wc T L r c 9 0
theorem tSum_csa (T : Tab) (L : List Nd) : tSum T L = s2 T (csa T L) := rfl
theorem tWro_9 {T : Tab} (hT : TabOK T) {L : List Nd} {p dp : Nat → Nat} (h : TrX L p dp) : tWro T L 9 = s2 T (wrg T L) := s2_congr (fun r c hr hc => by
  have a := leaf_at hT h.1 h.2.1 hr hc
  have b := (CM_bd hT h.1 h.2.1 _ _ (Nat.lt_succ_self _) a.1).2.2.1
  have := (h.2.2 _ a.1).1
  rw [if_pos (by omega)]
  rfl)
set_option maxHeartbeats 8000000 in
theorem c_Mo_layAll {d mc ms : Nat} {M : pm_M} (lay0 : Lay M) {T : Tab} (hT : TabOK T) (hM0 : MoAt M T) {L : List Nd} {dp : Nat → Nat} (hD : TrD L dp) {t : Nat} (t4 : t < 4) (hL0 : TrM M t L) :
    pm_E (d + 2) 255 [(2, ((116 : Nat) : Int)), (0, (t : Int))] M mc ms (fun ρ M' => ρ = none ∧ Lay M' ∧ MF [151, 152] [59, 60, 61, 64, 65, 66, 67] M M' ∧ pm_ct M' 116 64 = ((x2 T (fun r c => wc T L r c 9 0) : Nat) : Int) ∧ pm_ct M' 116 65 = ((s2 T (csa T L) : Nat) : Int) ∧ pm_ct M' 116 66 = ((s2 T (wrg T L) : Nat) : Int) ∧ pm_ct M' 116 67 = ((x2 T (fun r c => wt L r c 9 0 0) : Nat) : Int)) := by
  obtain ⟨Q, hQ⟩ : ∃ Q : pm_Q, Q = (fun ρ M' => ρ = none ∧ Lay M' ∧ MF [151, 152] [59, 60, 61, 64, 65, 66, 67] M M' ∧ pm_ct M' 116 64 = ((x2 T (fun r c => wc T L r c 9 0) : Nat) : Int) ∧ pm_ct M' 116 65 = ((s2 T (csa T L) : Nat) : Int) ∧ pm_ct M' 116 66 = ((s2 T (wrg T L) : Nat) : Int) ∧ pm_ct M' 116 67 = ((x2 T (fun r c => wt L r c 9 0 0) : Nat) : Int)) := ⟨_, rfl⟩
  rw [← hQ]
  have l31 := hD.2.1
  have hR := hT.1
  have hC := hT.2.1
  have c81 : ∀ r c, wc T L r c 9 0 ≤ 81 := fun r c => wc_81 hT L r c 9 0
  have t99 : ∀ r c, wt L r c 9 0 0 ≤ 9 := fun r c => wt_9 L r c 9 0 0
  obtain ⟨fC, hfC⟩ : ∃ f : Nat → Nat → Nat, f = fun r c => wc T L r c 9 0 := ⟨_, rfl⟩
  obtain ⟨fT, hfT⟩ : ∃ f : Nat → Nat → Nat, f = fun r c => wt L r c 9 0 0 := ⟨_, rfl⟩
  rw [← hfC, ← hfT] at hQ
  have cI : ∀ r c, fC r c ≤ 81 := fun r c => by rw [hfC]; exact c81 r c
  have tI : ∀ r c, fT r c ≤ 9 := fun r c => by rw [hfT]; exact t99 r c
  have mo : ∀ {N : pm_M}, MF [151, 152] [59, 60, 61, 64, 65, 66, 67] M N → MoAt N T := fun k => hM0.mf k (by decide) (by decide) (by decide) (by decide)
  have inner : ∀ (r : Nat), r < tR T → (∀ (v4 v5 : pm_V) (N : pm_M), Lay N → MF [151, 152] [59, 60, 61, 64, 65, 66, 67] M N → pm_ct N 116 64 = ((pX T fC (r + 1) 0 : Nat) : Int) → pm_ct N 116 65 = ((pS T (csa T L) (r + 1) 0 : Nat) : Int) → pm_ct N 116 66 = ((pS T (wrg T L) (r + 1) 0 : Nat) : Int) → pm_ct N 116 67 = ((pX T fT (r + 1) 0 : Nat) : Int) → Wp (d + 2) 255 22 [(2, ((116 : Nat) : Int)), (0, (t : Int)), (0, ((r + 1 : Nat) : Int)), (0, (tC T : Int)), v4, v5] [] N mc ms Q) →
      ∀ (n c : Nat) (v4 v5 : pm_V) (N : pm_M), c + n = tC T → Lay N → MF [151, 152] [59, 60, 61, 64, 65, 66, 67] M N → pm_ct N 116 64 = ((pX T fC r c : Nat) : Int) → pm_ct N 116 65 = ((pS T (csa T L) r c : Nat) : Int) → pm_ct N 116 66 = ((pS T (wrg T L) r c : Nat) : Int) → pm_ct N 116 67 = ((pX T fT r c : Nat) : Int) → Wp (d + 2) 255 32 [(2, ((116 : Nat) : Int)), (0, (t : Int)), (0, (r : Int)), (0, (c : Int)), v4, v5] [] N mc ms Q := by
    intro r hr go n
    induction n with
    | zero =>
      intro c v4 v5 N hi lay mf f64 f65 f66 f67
      have m2 := (mo mf).2.1
      have e : c = tC T := by omega
      rw [e] at f64 f65 f66 f67 ⊢
      refine g_iload_n lk_255_32 rfl ?_
      refine g_aload_n lk_255_33 rfl ?_
      refine m_getfield (u := []) (M := N) lk_255_34 rfl (lay.on (by decide) rfl) (v := (tC T : Int)) m2 ?_
      refine g_icmp (t := 165) lk_255_37 rfl (by first | (unfold pm_inI; omega) | exact pm_and_in _ _ | exact pm_shr_in _ _ | exact pm_or_in _ _ | exact pm_xor_in _ _ | exact pm_shl_in _ _ | exact pm_cmp_in _ _ | exact pm_b8_in _ | (unfold pm_inI; split <;> omega)) (by first | (unfold pm_inI; omega) | exact pm_and_in _ _ | exact pm_shr_in _ _ | exact pm_or_in _ _ | exact pm_xor_in _ _ | exact pm_shl_in _ _ | exact pm_cmp_in _ _ | exact pm_b8_in _ | (unfold pm_inI; split <;> omega)) (fun h1 => ?_) (fun h1 => ?_)
      · replace h1 : (tC T : Int) ≤ (tC T : Int) := h1
        refine g_iinc (ls' := [(2, ((116 : Nat) : Int)), (0, (t : Int)), (0, ((r : Int) + 1)), (0, (tC T : Int)), v4, v5]) lk_255_165 rfl rfl rfl ?_
        refine g_goto (t := 22) lk_255_168 rfl ?_
        exact go _ _ _ lay mf (by rw [pX_r]; exact f64) (by rw [pS_r]; exact f65) (by rw [pS_r]; exact f66) (by rw [pX_r]; exact f67)
      · replace h1 : ¬ ((tC T : Int) ≤ (tC T : Int)) := h1
        omega
    | succ n ih =>
      intro c v4 v5 N hi lay mf f64 f65 f66 f67
      have moN := mo mf
      have m2 := moN.2.1
      have tmN : TrM N t L := by unfold TrM at hL0 ⊢; rw [mf.ct (by decide) (by decide), mf.ct (by decide) (by decide), mf.ct (by decide) (by decide), mf.ct (by decide) (by decide)]; exact hL0
      have wlf := (wy_leaf hD (r := r) (c := c) (n := 9) (k := 0) (by have := hD.1; omega) (by omega)).2
      have gs := fun l => c_Mo_goes (d := d) (mc := 0) (ms := 0) (M := N) l hT moN hD t4 tmN (r := r) (c := c) (by omega) (by omega)
      have eC : wc T L r c 9 0 = fC r c := by rw [hfC]
      have eT : wt L r c 9 0 0 = fT r c := by rw [hfT]
      rw [eC, eT] at gs
      have gc : csa T L r c = if tX T (6 * r + c) = 10 then 0 else wc T L r c 9 0 := rfl
      have gw : wrg T L r c = if tX T (6 * r + c) ≠ 10 ∧ (ndA L (wy L r c 9 0)).2.1 ≠ tX T (6 * r + c) then 1 else 0 := rfl
      rw [eC] at gc
      have cb := cI r c
      have tb := tI r c
      have xb := pX_le (T := T) cI r c
      have yb := pX_le (T := T) tI r c
      have x10 := hT.2.2.1 (6 * r + c)
      obtain ⟨w, hw⟩ : ∃ w, w = wy L r c 9 0 := ⟨_, rfl⟩
      rw [← hw] at wlf gs gw
      obtain ⟨u1, hu1⟩ : ∃ u, u = fC r c := ⟨_, rfl⟩
      obtain ⟨u2, hu2⟩ : ∃ u, u = fT r c := ⟨_, rfl⟩
      have n64 := pX_s T fC r c
      have n67 := pX_s T fT r c
      have n65 := pS_s T (csa T L) r c
      have n66 := pS_s T (wrg T L) r c
      rw [← hu1] at gs gc cb n64
      rw [← hu2] at gs tb n67
      obtain ⟨p1, hp1⟩ : ∃ u, u = pX T fC r c := ⟨_, rfl⟩
      obtain ⟨p2, hp2⟩ : ∃ u, u = pX T fT r c := ⟨_, rfl⟩
      obtain ⟨p3, hp3⟩ : ∃ u, u = pS T (csa T L) r c := ⟨_, rfl⟩
      obtain ⟨p4, hp4⟩ : ∃ u, u = pS T (wrg T L) r c := ⟨_, rfl⟩
      rw [← hp1] at f64 n64 xb
      rw [← hp2] at f67 n67 yb
      rw [← hp3] at f65 n65
      rw [← hp4] at f66 n66
      have rd := (tmN.2 w wlf).2.1
      obtain ⟨j, hj⟩ : ∃ j, j = 31 * t + w := ⟨_, rfl⟩
      rw [← hj] at rd
      have ej : (31 : Int) * (t : Int) + (w : Int) = (j : Int) := by omega
      have v64 := (hD.2.2.2 w wlf).2.1
      obtain ⟨v, hv⟩ : ∃ v, v = (ndA L w).2.1 := ⟨_, rfl⟩
      rw [← hv] at rd gw v64
      have fld : ∀ (K : pm_M) (z1 z2 z3 z4 : Int) (a : Nat), a ∉ [59, 60, 61, 64, 65, 66, 67] → pm_upd (pm_upd (pm_upd (pm_upd (pm_ct K 116) 64 z1) 67 z2) 65 z3) 66 z4 a = pm_ct K 116 a := fun K z1 z2 z3 z4 a ha => by
        simp at ha
        rw [pm_upd_ne (by omega), pm_upd_ne (by omega), pm_upd_ne (by omega), pm_upd_ne (by omega)]
      obtain ⟨x, hx⟩ : ∃ x, x = tX T (6 * r + c) := ⟨_, rfl⟩
      rw [← hx] at gc gw x10
      have ca : ∀ {K : pm_M}, Lay K → MoAt K T → pm_E (d + 1) 174 [(2, ((116 : Nat) : Int)), (0, (r : Int)), (0, (c : Int))] K 0 0 (fun ρ M' => ρ = some (0, (x : Int)) ∧ M' = K) := fun l m => by
        have := c_Mo_cellAt (d := d + 1) (mc := 0) (ms := 0) l m (r := r) (c := c) (by omega) (by omega)
        rw [← hx] at this
        exact this
      have kk : ∀ (K : pm_M) (z1 z2 z3 z4 : Int) (v4 v5 : pm_V), MF [151, 152] [59, 60, 61, 64, 65, 66, 67] N K → Lay (Mu [(116, pm_upd (pm_upd (pm_upd (pm_upd (pm_ct K 116) 64 z1) 67 z2) 65 z3) 66 z4)] K) → z1 = max (p1 : Int) (u1 : Int) → z2 = max (p2 : Int) (u2 : Int) → z3 = (p3 : Int) + (csa T L r c : Int) → z4 = (p4 : Int) + (wrg T L r c : Int) → Wp (d + 2) 255 32 [(2, ((116 : Nat) : Int)), (0, (t : Int)), (0, (r : Int)), (0, (c : Int) + 1), v4, v5] [] (Mu [(116, pm_upd (pm_upd (pm_upd (pm_upd (pm_ct K 116) 64 z1) 67 z2) 65 z3) 66 z4)] K) mc ms Q := by
        intro K z1 z2 z3 z4 v4 v5 mfK lK e1 e2 e3 e4
        refine ih (c + 1) _ _ _ (by omega) lK (mf.trans (mfK.trans (MF.mu _ _ rfl (fld K _ _ _ _)))) ?_ ?_ ?_ ?_
        · rw [Mu_ct, n64]
          show z1 = _
          omega
        · rw [Mu_ct, n65]
          show z3 = _
          omega
        · rw [Mu_ct, n66]
          show z4 = _
          omega
        · rw [Mu_ct, n67]
          show z2 = _
          omega
      clear ih go
      refine g_iload_n lk_255_32 rfl ?_
      refine g_aload_n lk_255_33 rfl ?_
      refine m_getfield (u := []) (M := N) lk_255_34 rfl (lay.on (by decide) rfl) (v := (tC T : Int)) m2 ?_
      refine g_icmp (t := 165) lk_255_37 rfl (by first | (unfold pm_inI; omega) | exact pm_and_in _ _ | exact pm_shr_in _ _ | exact pm_or_in _ _ | exact pm_xor_in _ _ | exact pm_shl_in _ _ | exact pm_cmp_in _ _ | exact pm_b8_in _ | (unfold pm_inI; split <;> omega)) (by first | (unfold pm_inI; omega) | exact pm_and_in _ _ | exact pm_shr_in _ _ | exact pm_or_in _ _ | exact pm_xor_in _ _ | exact pm_shl_in _ _ | exact pm_cmp_in _ _ | exact pm_b8_in _ | (unfold pm_inI; split <;> omega)) (fun h1 => ?_) (fun h1 => ?_)
      · replace h1 : (tC T : Int) ≤ (c : Int) := h1
        omega
      · replace h1 : ¬ ((tC T : Int) ≤ (c : Int)) := h1
        refine g_aload_n lk_255_40 rfl ?_
        refine g_getfield lk_255_41 rfl (lay.on (by decide) rfl) (v := ((124 : Nat) : Int)) (lay.rf rfl) ?_
        refine g_bipush lk_255_44 ?_
        refine g_iload_n lk_255_46 rfl ?_
        refine g_imul lk_255_47 ?_
        refine g_aload_n lk_255_48 rfl ?_
        refine g_iload_n lk_255_49 rfl ?_
        refine g_iload_n lk_255_50 rfl ?_
        refine g_iload_n lk_255_51 rfl ?_
        refine g_virtual (p := 116) (Qc := _) lk_255_52 rfl (Nat.le_of_ble_eq_true rfl) rfl rfl (lay.on (by decide) rfl) (Nat.le_of_ble_eq_true rfl) (Nat.le_of_ble_eq_true rfl) (Nat.zero_le _) (Nat.zero_le _) (gs lay) ?_
        rintro _ K1 ⟨rfl, lay1, mf1, c59, c60, c61, -⟩
        have rd1 : pm_ct K1 124 j = (v : Int) := (by rw [mf1.ct (by decide) (by decide)]; exact rd)
        have g64 : pm_ct K1 116 64 = (p1 : Int) := (by rw [mf1.fd (by decide)]; exact f64)
        have g65 : pm_ct K1 116 65 = (p3 : Int) := (by rw [mf1.fd (by decide)]; exact f65)
        have g66 : pm_ct K1 116 66 = (p4 : Int) := (by rw [mf1.fd (by decide)]; exact f66)
        have g67 : pm_ct K1 116 67 = (p2 : Int) := (by rw [mf1.fd (by decide)]; exact f67)
        have moK := moN.mf mf1 (by decide) (by decide) (by decide) (by decide)
        have mfK : MF [151, 152] [59, 60, 61, 64, 65, 66, 67] N K1 := mf1.mono (fun a q => q) (fun a q => by simp at q ⊢; omega)
        show Wp _ 255 55 [(2, ((116 : Nat) : Int)), (0, (t : Int)), (0, (r : Int)), (0, (c : Int)), v4, v5] [(0, (w : Int)), (0, (31 * (t : Int))), (2, ((124 : Nat) : Int))] K1 _ _ _
        refine g_iadd lk_255_55 ?_
        refine g_top (z := ((31 * (t : Int)) + (w : Int))) (z' := (j : Int)) (ej) ?_
        refine m_iaload (u := []) (M := K1) lk_255_56 (lay1.ay (by decide) rfl) (by omega) (j := j) (by omega) (v := (v : Int)) rd1 ?_
        refine g_istore (ls' := [(2, ((116 : Nat) : Int)), (0, (t : Int)), (0, (r : Int)), (0, (c : Int)), (0, (v : Int)), v5]) lk_255_57 rfl rfl ?_
        refine g_aload_n lk_255_59 rfl ?_
        refine g_iload_n lk_255_60 rfl ?_
        refine g_iload_n lk_255_61 rfl ?_
        refine g_virtual (p := 116) (Qc := _) lk_255_62 rfl (Nat.le_of_ble_eq_true rfl) rfl rfl (lay1.on (by decide) rfl) (Nat.le_of_ble_eq_true rfl) (Nat.le_of_ble_eq_true rfl) (Nat.zero_le _) (Nat.zero_le _) (ca lay1 moK) ?_
        rintro _ N2 ⟨rfl, hN2⟩
        rw [hN2]
        show Wp _ 255 65 [(2, ((116 : Nat) : Int)), (0, (t : Int)), (0, (r : Int)), (0, (c : Int)), (0, (v : Int)), v5] [(0, (x : Int))] K1 _ _ _
        refine g_bipush lk_255_65 ?_
        refine g_icmp (t := 74) lk_255_67 rfl (by first | (unfold pm_inI; omega) | exact pm_and_in _ _ | exact pm_shr_in _ _ | exact pm_or_in _ _ | exact pm_xor_in _ _ | exact pm_shl_in _ _ | exact pm_cmp_in _ _ | exact pm_b8_in _ | (unfold pm_inI; split <;> omega)) (by first | (unfold pm_inI; omega) | exact pm_and_in _ _ | exact pm_shr_in _ _ | exact pm_or_in _ _ | exact pm_xor_in _ _ | exact pm_shl_in _ _ | exact pm_cmp_in _ _ | exact pm_b8_in _ | (unfold pm_inI; split <;> omega)) (fun h3 => ?_) (fun h3 => ?_)
        · replace h3 : (x : Int) = 10 := h3
          refine g_iconst lk_255_74 ?_
          refine g_istore (ls' := [(2, ((116 : Nat) : Int)), (0, (t : Int)), (0, (r : Int)), (0, (c : Int)), (0, (v : Int)), (0, 0)]) lk_255_75 rfl rfl ?_
          refine g_aload_n lk_255_77 rfl ?_
          refine g_aload_n lk_255_78 rfl ?_
          refine m_getfield (u := []) (M := K1) lk_255_79 rfl (lay1.on (by decide) rfl) (v := (p1 : Int)) g64 ?_
          refine g_aload_n lk_255_82 rfl ?_
          refine m_getfield (u := []) (M := K1) lk_255_83 rfl (lay1.on (by decide) rfl) (v := (u1 : Int)) c60 ?_
          refine g_static (Qc := _) lk_255_86 (by decide) rfl (Nat.le_of_ble_eq_true rfl) rfl rfl (Nat.le_of_ble_eq_true rfl) (Nat.le_of_ble_eq_true rfl) (Nat.zero_le _) (Nat.zero_le _) (c_Mo_greater (by unfold pm_inI; omega) (by unfold pm_inI; omega)) ?_
          rintro _ N4 ⟨rfl, hN4⟩
          rw [hN4]
          show Wp _ 255 89 [(2, ((116 : Nat) : Int)), (0, (t : Int)), (0, (r : Int)), (0, (c : Int)), (0, (v : Int)), (0, 0)] [(0, (max (p1 : Int) (u1 : Int))), (2, ((116 : Nat) : Int))] K1 _ _ _
          have lay5 : Lay (Mu [(116, pm_upd (pm_ct K1 116) 64 (max (p1 : Int) (u1 : Int)))] K1) := lay1.muF (l := []) (a := 116) (k := 64) (z := (max (p1 : Int) (u1 : Int))) rfl rfl
          refine m_putfield (u := []) (u' := [(116, pm_upd (pm_ct K1 116) 64 (max (p1 : Int) (u1 : Int)))]) (M := K1) lk_255_89 rfl (lay1.on (by decide) rfl) (fun h => absurd h (by decide)) rfl ?_
          refine g_aload_n lk_255_92 rfl ?_
          refine g_aload_n lk_255_93 rfl ?_
          refine m_getfield (u := [(116, pm_upd (pm_ct K1 116) 64 (max (p1 : Int) (u1 : Int)))]) (M := K1) lk_255_94 rfl (lay5.on (by decide) rfl) (v := (p2 : Int)) g67 ?_
          refine g_aload_n lk_255_97 rfl ?_
          refine m_getfield (u := [(116, pm_upd (pm_ct K1 116) 64 (max (p1 : Int) (u1 : Int)))]) (M := K1) lk_255_98 rfl (lay5.on (by decide) rfl) (v := (u2 : Int)) c61 ?_
          refine g_static (Qc := _) lk_255_101 (by decide) rfl (Nat.le_of_ble_eq_true rfl) rfl rfl (Nat.le_of_ble_eq_true rfl) (Nat.le_of_ble_eq_true rfl) (Nat.zero_le _) (Nat.zero_le _) (c_Mo_greater (by unfold pm_inI; omega) (by unfold pm_inI; omega)) ?_
          rintro _ N6 ⟨rfl, hN6⟩
          rw [hN6]
          show Wp _ 255 104 [(2, ((116 : Nat) : Int)), (0, (t : Int)), (0, (r : Int)), (0, (c : Int)), (0, (v : Int)), (0, 0)] [(0, (max (p2 : Int) (u2 : Int))), (2, ((116 : Nat) : Int))] (Mu [(116, pm_upd (pm_ct K1 116) 64 (max (p1 : Int) (u1 : Int)))] K1) _ _ _
          have lay7 : Lay (Mu [(116, pm_upd (pm_upd (pm_ct K1 116) 64 (max (p1 : Int) (u1 : Int))) 67 (max (p2 : Int) (u2 : Int)))] K1) := lay5.muF (l := [(116, pm_upd (pm_ct K1 116) 64 (max (p1 : Int) (u1 : Int)))]) (a := 116) (k := 67) (z := (max (p2 : Int) (u2 : Int))) rfl rfl
          refine m_putfield (u := [(116, pm_upd (pm_ct K1 116) 64 (max (p1 : Int) (u1 : Int)))]) (u' := [(116, pm_upd (pm_upd (pm_ct K1 116) 64 (max (p1 : Int) (u1 : Int))) 67 (max (p2 : Int) (u2 : Int)))]) (M := K1) lk_255_104 rfl (lay5.on (by decide) rfl) (fun h => absurd h (by decide)) rfl ?_
          refine g_aload_n lk_255_107 rfl ?_
          refine g_dup lk_255_108 rfl ?_
          refine m_getfield (u := [(116, pm_upd (pm_upd (pm_ct K1 116) 64 (max (p1 : Int) (u1 : Int))) 67 (max (p2 : Int) (u2 : Int)))]) (M := K1) lk_255_109 rfl (lay7.on (by decide) rfl) (v := (p3 : Int)) g65 ?_
          refine g_iload lk_255_112 rfl ?_
          refine g_if (t := 124) lk_255_114 rfl (by first | (unfold pm_inI; omega) | exact pm_and_in _ _ | exact pm_shr_in _ _ | exact pm_or_in _ _ | exact pm_xor_in _ _ | exact pm_shl_in _ _ | exact pm_cmp_in _ _ | exact pm_b8_in _ | (unfold pm_inI; split <;> omega)) (fun _ => ?_) (fun h => absurd (show (0 : Int) = (0 : Int) by omega) h)
          refine g_iconst lk_255_124 ?_
          refine g_iadd lk_255_125 ?_
          have lay8 : Lay (Mu [(116, pm_upd (pm_upd (pm_upd (pm_ct K1 116) 64 (max (p1 : Int) (u1 : Int))) 67 (max (p2 : Int) (u2 : Int))) 65 ((p3 : Int) + 0))] K1) := lay7.muF (l := [(116, pm_upd (pm_upd (pm_ct K1 116) 64 (max (p1 : Int) (u1 : Int))) 67 (max (p2 : Int) (u2 : Int)))]) (a := 116) (k := 65) (z := ((p3 : Int) + 0)) rfl rfl
          refine m_putfield (u := [(116, pm_upd (pm_upd (pm_ct K1 116) 64 (max (p1 : Int) (u1 : Int))) 67 (max (p2 : Int) (u2 : Int)))]) (u' := [(116, pm_upd (pm_upd (pm_upd (pm_ct K1 116) 64 (max (p1 : Int) (u1 : Int))) 67 (max (p2 : Int) (u2 : Int))) 65 ((p3 : Int) + 0))]) (M := K1) lk_255_126 rfl (lay7.on (by decide) rfl) (fun h => absurd h (by decide)) rfl ?_
          refine g_aload_n lk_255_129 rfl ?_
          refine g_dup lk_255_130 rfl ?_
          refine m_getfield (u := [(116, pm_upd (pm_upd (pm_upd (pm_ct K1 116) 64 (max (p1 : Int) (u1 : Int))) 67 (max (p2 : Int) (u2 : Int))) 65 ((p3 : Int) + 0))]) (M := K1) lk_255_131 rfl (lay8.on (by decide) rfl) (v := (p4 : Int)) g66 ?_
          refine g_iload lk_255_134 rfl ?_
          refine g_if (t := 154) lk_255_136 rfl (by first | (unfold pm_inI; omega) | exact pm_and_in _ _ | exact pm_shr_in _ _ | exact pm_or_in _ _ | exact pm_xor_in _ _ | exact pm_shl_in _ _ | exact pm_cmp_in _ _ | exact pm_b8_in _ | (unfold pm_inI; split <;> omega)) (fun _ => ?_) (fun h => absurd (show (0 : Int) = (0 : Int) by omega) h)
          refine g_iconst lk_255_154 ?_
          refine g_iadd lk_255_155 ?_
          have lay9 : Lay (Mu [(116, pm_upd (pm_upd (pm_upd (pm_upd (pm_ct K1 116) 64 (max (p1 : Int) (u1 : Int))) 67 (max (p2 : Int) (u2 : Int))) 65 ((p3 : Int) + 0)) 66 ((p4 : Int) + 0))] K1) := lay8.muF (l := [(116, pm_upd (pm_upd (pm_upd (pm_ct K1 116) 64 (max (p1 : Int) (u1 : Int))) 67 (max (p2 : Int) (u2 : Int))) 65 ((p3 : Int) + 0))]) (a := 116) (k := 66) (z := ((p4 : Int) + 0)) rfl rfl
          refine m_putfield (u := [(116, pm_upd (pm_upd (pm_upd (pm_ct K1 116) 64 (max (p1 : Int) (u1 : Int))) 67 (max (p2 : Int) (u2 : Int))) 65 ((p3 : Int) + 0))]) (u' := [(116, pm_upd (pm_upd (pm_upd (pm_upd (pm_ct K1 116) 64 (max (p1 : Int) (u1 : Int))) 67 (max (p2 : Int) (u2 : Int))) 65 ((p3 : Int) + 0)) 66 ((p4 : Int) + 0))]) (M := K1) lk_255_156 rfl (lay8.on (by decide) rfl) (fun h => absurd h (by decide)) rfl ?_
          refine g_iinc (ls' := [(2, ((116 : Nat) : Int)), (0, (t : Int)), (0, (r : Int)), (0, ((c : Int) + 1)), (0, (v : Int)), (0, 0)]) lk_255_159 rfl rfl rfl ?_
          refine g_goto (t := 32) lk_255_162 rfl ?_
          exact kk _ _ _ _ _ _ _ mfK lay9 rfl rfl (by rw [gc, if_pos (by omega)]; omega) (by rw [gw, if_neg (fun q => q.1 (by omega))]; omega)
        · replace h3 : ¬ ((x : Int) = 10) := h3
          refine g_iconst lk_255_70 ?_
          refine g_goto (t := 75) lk_255_71 rfl ?_
          refine g_istore (ls' := [(2, ((116 : Nat) : Int)), (0, (t : Int)), (0, (r : Int)), (0, (c : Int)), (0, (v : Int)), (0, 1)]) lk_255_75 rfl rfl ?_
          refine g_aload_n lk_255_77 rfl ?_
          refine g_aload_n lk_255_78 rfl ?_
          refine m_getfield (u := []) (M := K1) lk_255_79 rfl (lay1.on (by decide) rfl) (v := (p1 : Int)) g64 ?_
          refine g_aload_n lk_255_82 rfl ?_
          refine m_getfield (u := []) (M := K1) lk_255_83 rfl (lay1.on (by decide) rfl) (v := (u1 : Int)) c60 ?_
          refine g_static (Qc := _) lk_255_86 (by decide) rfl (Nat.le_of_ble_eq_true rfl) rfl rfl (Nat.le_of_ble_eq_true rfl) (Nat.le_of_ble_eq_true rfl) (Nat.zero_le _) (Nat.zero_le _) (c_Mo_greater (by unfold pm_inI; omega) (by unfold pm_inI; omega)) ?_
          rintro _ N10 ⟨rfl, hN10⟩
          rw [hN10]
          show Wp _ 255 89 [(2, ((116 : Nat) : Int)), (0, (t : Int)), (0, (r : Int)), (0, (c : Int)), (0, (v : Int)), (0, 1)] [(0, (max (p1 : Int) (u1 : Int))), (2, ((116 : Nat) : Int))] K1 _ _ _
          have lay11 : Lay (Mu [(116, pm_upd (pm_ct K1 116) 64 (max (p1 : Int) (u1 : Int)))] K1) := lay1.muF (l := []) (a := 116) (k := 64) (z := (max (p1 : Int) (u1 : Int))) rfl rfl
          refine m_putfield (u := []) (u' := [(116, pm_upd (pm_ct K1 116) 64 (max (p1 : Int) (u1 : Int)))]) (M := K1) lk_255_89 rfl (lay1.on (by decide) rfl) (fun h => absurd h (by decide)) rfl ?_
          refine g_aload_n lk_255_92 rfl ?_
          refine g_aload_n lk_255_93 rfl ?_
          refine m_getfield (u := [(116, pm_upd (pm_ct K1 116) 64 (max (p1 : Int) (u1 : Int)))]) (M := K1) lk_255_94 rfl (lay11.on (by decide) rfl) (v := (p2 : Int)) g67 ?_
          refine g_aload_n lk_255_97 rfl ?_
          refine m_getfield (u := [(116, pm_upd (pm_ct K1 116) 64 (max (p1 : Int) (u1 : Int)))]) (M := K1) lk_255_98 rfl (lay11.on (by decide) rfl) (v := (u2 : Int)) c61 ?_
          refine g_static (Qc := _) lk_255_101 (by decide) rfl (Nat.le_of_ble_eq_true rfl) rfl rfl (Nat.le_of_ble_eq_true rfl) (Nat.le_of_ble_eq_true rfl) (Nat.zero_le _) (Nat.zero_le _) (c_Mo_greater (by unfold pm_inI; omega) (by unfold pm_inI; omega)) ?_
          rintro _ N12 ⟨rfl, hN12⟩
          rw [hN12]
          show Wp _ 255 104 [(2, ((116 : Nat) : Int)), (0, (t : Int)), (0, (r : Int)), (0, (c : Int)), (0, (v : Int)), (0, 1)] [(0, (max (p2 : Int) (u2 : Int))), (2, ((116 : Nat) : Int))] (Mu [(116, pm_upd (pm_ct K1 116) 64 (max (p1 : Int) (u1 : Int)))] K1) _ _ _
          have lay13 : Lay (Mu [(116, pm_upd (pm_upd (pm_ct K1 116) 64 (max (p1 : Int) (u1 : Int))) 67 (max (p2 : Int) (u2 : Int)))] K1) := lay11.muF (l := [(116, pm_upd (pm_ct K1 116) 64 (max (p1 : Int) (u1 : Int)))]) (a := 116) (k := 67) (z := (max (p2 : Int) (u2 : Int))) rfl rfl
          refine m_putfield (u := [(116, pm_upd (pm_ct K1 116) 64 (max (p1 : Int) (u1 : Int)))]) (u' := [(116, pm_upd (pm_upd (pm_ct K1 116) 64 (max (p1 : Int) (u1 : Int))) 67 (max (p2 : Int) (u2 : Int)))]) (M := K1) lk_255_104 rfl (lay11.on (by decide) rfl) (fun h => absurd h (by decide)) rfl ?_
          refine g_aload_n lk_255_107 rfl ?_
          refine g_dup lk_255_108 rfl ?_
          refine m_getfield (u := [(116, pm_upd (pm_upd (pm_ct K1 116) 64 (max (p1 : Int) (u1 : Int))) 67 (max (p2 : Int) (u2 : Int)))]) (M := K1) lk_255_109 rfl (lay13.on (by decide) rfl) (v := (p3 : Int)) g65 ?_
          refine g_iload lk_255_112 rfl ?_
          refine g_if (t := 124) lk_255_114 rfl (by first | (unfold pm_inI; omega) | exact pm_and_in _ _ | exact pm_shr_in _ _ | exact pm_or_in _ _ | exact pm_xor_in _ _ | exact pm_shl_in _ _ | exact pm_cmp_in _ _ | exact pm_b8_in _ | (unfold pm_inI; split <;> omega)) (fun h => absurd h (show ¬ ((1 : Int) = (0 : Int)) by omega)) (fun _ => ?_)
          refine g_aload_n lk_255_117 rfl ?_
          refine m_getfield (u := [(116, pm_upd (pm_upd (pm_ct K1 116) 64 (max (p1 : Int) (u1 : Int))) 67 (max (p2 : Int) (u2 : Int)))]) (M := K1) lk_255_118 rfl (lay13.on (by decide) rfl) (v := (u1 : Int)) c60 ?_
          refine g_goto (t := 125) lk_255_121 rfl ?_
          refine g_iadd lk_255_125 ?_
          have lay14 : Lay (Mu [(116, pm_upd (pm_upd (pm_upd (pm_ct K1 116) 64 (max (p1 : Int) (u1 : Int))) 67 (max (p2 : Int) (u2 : Int))) 65 ((p3 : Int) + (u1 : Int)))] K1) := lay13.muF (l := [(116, pm_upd (pm_upd (pm_ct K1 116) 64 (max (p1 : Int) (u1 : Int))) 67 (max (p2 : Int) (u2 : Int)))]) (a := 116) (k := 65) (z := ((p3 : Int) + (u1 : Int))) rfl rfl
          refine m_putfield (u := [(116, pm_upd (pm_upd (pm_ct K1 116) 64 (max (p1 : Int) (u1 : Int))) 67 (max (p2 : Int) (u2 : Int)))]) (u' := [(116, pm_upd (pm_upd (pm_upd (pm_ct K1 116) 64 (max (p1 : Int) (u1 : Int))) 67 (max (p2 : Int) (u2 : Int))) 65 ((p3 : Int) + (u1 : Int)))]) (M := K1) lk_255_126 rfl (lay13.on (by decide) rfl) (fun h => absurd h (by decide)) rfl ?_
          refine g_aload_n lk_255_129 rfl ?_
          refine g_dup lk_255_130 rfl ?_
          refine m_getfield (u := [(116, pm_upd (pm_upd (pm_upd (pm_ct K1 116) 64 (max (p1 : Int) (u1 : Int))) 67 (max (p2 : Int) (u2 : Int))) 65 ((p3 : Int) + (u1 : Int)))]) (M := K1) lk_255_131 rfl (lay14.on (by decide) rfl) (v := (p4 : Int)) g66 ?_
          refine g_iload lk_255_134 rfl ?_
          refine g_if (t := 154) lk_255_136 rfl (by first | (unfold pm_inI; omega) | exact pm_and_in _ _ | exact pm_shr_in _ _ | exact pm_or_in _ _ | exact pm_xor_in _ _ | exact pm_shl_in _ _ | exact pm_cmp_in _ _ | exact pm_b8_in _ | (unfold pm_inI; split <;> omega)) (fun h => absurd h (show ¬ ((1 : Int) = (0 : Int)) by omega)) (fun _ => ?_)
          refine g_iload lk_255_139 rfl ?_
          refine g_aload_n lk_255_141 rfl ?_
          refine g_iload_n lk_255_142 rfl ?_
          refine g_iload_n lk_255_143 rfl ?_
          refine g_virtual (p := 116) (Qc := _) lk_255_144 rfl (Nat.le_of_ble_eq_true rfl) rfl rfl (lay14.on (by decide) rfl) (Nat.le_of_ble_eq_true rfl) (Nat.le_of_ble_eq_true rfl) (Nat.zero_le _) (Nat.zero_le _) (ca lay14 (moK.u116 rfl rfl)) ?_
          rintro _ N15 ⟨rfl, hN15⟩
          rw [hN15]
          show Wp _ 255 147 [(2, ((116 : Nat) : Int)), (0, (t : Int)), (0, (r : Int)), (0, (c : Int)), (0, (v : Int)), (0, 1)] [(0, (x : Int)), (0, (v : Int)), (0, (p4 : Int)), (2, ((116 : Nat) : Int))] (Mu [(116, pm_upd (pm_upd (pm_upd (pm_ct K1 116) 64 (max (p1 : Int) (u1 : Int))) 67 (max (p2 : Int) (u2 : Int))) 65 ((p3 : Int) + (u1 : Int)))] K1) _ _ _
          refine g_icmp (t := 154) lk_255_147 rfl (by first | (unfold pm_inI; omega) | exact pm_and_in _ _ | exact pm_shr_in _ _ | exact pm_or_in _ _ | exact pm_xor_in _ _ | exact pm_shl_in _ _ | exact pm_cmp_in _ _ | exact pm_b8_in _ | (unfold pm_inI; split <;> omega)) (by first | (unfold pm_inI; omega) | exact pm_and_in _ _ | exact pm_shr_in _ _ | exact pm_or_in _ _ | exact pm_xor_in _ _ | exact pm_shl_in _ _ | exact pm_cmp_in _ _ | exact pm_b8_in _ | (unfold pm_inI; split <;> omega)) (fun h16 => ?_) (fun h16 => ?_)
          · replace h16 : (v : Int) = (x : Int) := h16
            refine g_iconst lk_255_154 ?_
            refine g_iadd lk_255_155 ?_
            have lay17 : Lay (Mu [(116, pm_upd (pm_upd (pm_upd (pm_upd (pm_ct K1 116) 64 (max (p1 : Int) (u1 : Int))) 67 (max (p2 : Int) (u2 : Int))) 65 ((p3 : Int) + (u1 : Int))) 66 ((p4 : Int) + 0))] K1) := lay14.muF (l := [(116, pm_upd (pm_upd (pm_upd (pm_ct K1 116) 64 (max (p1 : Int) (u1 : Int))) 67 (max (p2 : Int) (u2 : Int))) 65 ((p3 : Int) + (u1 : Int)))]) (a := 116) (k := 66) (z := ((p4 : Int) + 0)) rfl rfl
            refine m_putfield (u := [(116, pm_upd (pm_upd (pm_upd (pm_ct K1 116) 64 (max (p1 : Int) (u1 : Int))) 67 (max (p2 : Int) (u2 : Int))) 65 ((p3 : Int) + (u1 : Int)))]) (u' := [(116, pm_upd (pm_upd (pm_upd (pm_upd (pm_ct K1 116) 64 (max (p1 : Int) (u1 : Int))) 67 (max (p2 : Int) (u2 : Int))) 65 ((p3 : Int) + (u1 : Int))) 66 ((p4 : Int) + 0))]) (M := K1) lk_255_156 rfl (lay14.on (by decide) rfl) (fun h => absurd h (by decide)) rfl ?_
            refine g_iinc (ls' := [(2, ((116 : Nat) : Int)), (0, (t : Int)), (0, (r : Int)), (0, ((c : Int) + 1)), (0, (v : Int)), (0, 1)]) lk_255_159 rfl rfl rfl ?_
            refine g_goto (t := 32) lk_255_162 rfl ?_
            exact kk _ _ _ _ _ _ _ mfK lay17 rfl rfl (by rw [gc, if_neg (by omega)]) (by rw [gw, if_neg (fun q => q.2 (by omega))]; omega)
          · replace h16 : ¬ ((v : Int) = (x : Int)) := h16
            refine g_iconst lk_255_150 ?_
            refine g_goto (t := 155) lk_255_151 rfl ?_
            refine g_iadd lk_255_155 ?_
            have lay18 : Lay (Mu [(116, pm_upd (pm_upd (pm_upd (pm_upd (pm_ct K1 116) 64 (max (p1 : Int) (u1 : Int))) 67 (max (p2 : Int) (u2 : Int))) 65 ((p3 : Int) + (u1 : Int))) 66 ((p4 : Int) + 1))] K1) := lay14.muF (l := [(116, pm_upd (pm_upd (pm_upd (pm_ct K1 116) 64 (max (p1 : Int) (u1 : Int))) 67 (max (p2 : Int) (u2 : Int))) 65 ((p3 : Int) + (u1 : Int)))]) (a := 116) (k := 66) (z := ((p4 : Int) + 1)) rfl rfl
            refine m_putfield (u := [(116, pm_upd (pm_upd (pm_upd (pm_ct K1 116) 64 (max (p1 : Int) (u1 : Int))) 67 (max (p2 : Int) (u2 : Int))) 65 ((p3 : Int) + (u1 : Int)))]) (u' := [(116, pm_upd (pm_upd (pm_upd (pm_upd (pm_ct K1 116) 64 (max (p1 : Int) (u1 : Int))) 67 (max (p2 : Int) (u2 : Int))) 65 ((p3 : Int) + (u1 : Int))) 66 ((p4 : Int) + 1))]) (M := K1) lk_255_156 rfl (lay14.on (by decide) rfl) (fun h => absurd h (by decide)) rfl ?_
            refine g_iinc (ls' := [(2, ((116 : Nat) : Int)), (0, (t : Int)), (0, (r : Int)), (0, ((c : Int) + 1)), (0, (v : Int)), (0, 1)]) lk_255_159 rfl rfl rfl ?_
            refine g_goto (t := 32) lk_255_162 rfl ?_
            exact kk _ _ _ _ _ _ _ mfK lay18 rfl rfl (by rw [gc, if_neg (by omega)]) (by rw [gw, if_pos ⟨by omega, by omega⟩]; omega)
  have outer : ∀ (n r : Nat) (v3 v4 v5 : pm_V) (N : pm_M), r + n = tR T → Lay N → MF [151, 152] [59, 60, 61, 64, 65, 66, 67] M N → pm_ct N 116 64 = ((pX T fC r 0 : Nat) : Int) → pm_ct N 116 65 = ((pS T (csa T L) r 0 : Nat) : Int) → pm_ct N 116 66 = ((pS T (wrg T L) r 0 : Nat) : Int) → pm_ct N 116 67 = ((pX T fT r 0 : Nat) : Int) → Wp (d + 2) 255 22 [(2, ((116 : Nat) : Int)), (0, (t : Int)), (0, (r : Int)), v3, v4, v5] [] N mc ms Q := by
    intro n
    induction n with
    | zero =>
      intro r v3 v4 v5 N hi lay mf f64 f65 f66 f67
      have m1 := (mo mf).1
      have e : r = tR T := by omega
      rw [e] at f64 f65 f66 f67 ⊢
      refine g_iload_n lk_255_22 rfl ?_
      refine g_aload_n lk_255_23 rfl ?_
      refine m_getfield (u := []) (M := N) lk_255_24 rfl (lay.on (by decide) rfl) (v := (tR T : Int)) m1 ?_
      refine g_icmp (t := 171) lk_255_27 rfl (by first | (unfold pm_inI; omega) | exact pm_and_in _ _ | exact pm_shr_in _ _ | exact pm_or_in _ _ | exact pm_xor_in _ _ | exact pm_shl_in _ _ | exact pm_cmp_in _ _ | exact pm_b8_in _ | (unfold pm_inI; split <;> omega)) (by first | (unfold pm_inI; omega) | exact pm_and_in _ _ | exact pm_shr_in _ _ | exact pm_or_in _ _ | exact pm_xor_in _ _ | exact pm_shl_in _ _ | exact pm_cmp_in _ _ | exact pm_b8_in _ | (unfold pm_inI; split <;> omega)) (fun h1 => ?_) (fun h1 => ?_)
      · replace h1 : (tR T : Int) ≤ (tR T : Int) := h1
        refine g_return lk_255_171 ?_
        rw [hQ]
        exact ⟨rfl, lay, mf, by rw [← pX_e]; exact f64, by rw [← pS_e]; exact f65, by rw [← pS_e]; exact f66, by rw [← pX_e]; exact f67⟩
      · replace h1 : ¬ ((tR T : Int) ≤ (tR T : Int)) := h1
        omega
    | succ n ih =>
      intro r v3 v4 v5 N hi lay mf f64 f65 f66 f67
      have m1 := (mo mf).1
      refine g_iload_n lk_255_22 rfl ?_
      refine g_aload_n lk_255_23 rfl ?_
      refine m_getfield (u := []) (M := N) lk_255_24 rfl (lay.on (by decide) rfl) (v := (tR T : Int)) m1 ?_
      refine g_icmp (t := 171) lk_255_27 rfl (by first | (unfold pm_inI; omega) | exact pm_and_in _ _ | exact pm_shr_in _ _ | exact pm_or_in _ _ | exact pm_xor_in _ _ | exact pm_shl_in _ _ | exact pm_cmp_in _ _ | exact pm_b8_in _ | (unfold pm_inI; split <;> omega)) (by first | (unfold pm_inI; omega) | exact pm_and_in _ _ | exact pm_shr_in _ _ | exact pm_or_in _ _ | exact pm_xor_in _ _ | exact pm_shl_in _ _ | exact pm_cmp_in _ _ | exact pm_b8_in _ | (unfold pm_inI; split <;> omega)) (fun h1 => ?_) (fun h1 => ?_)
      · replace h1 : (tR T : Int) ≤ (r : Int) := h1
        omega
      · replace h1 : ¬ ((tR T : Int) ≤ (r : Int)) := h1
        refine g_iconst lk_255_30 ?_
        refine g_istore_n (ls' := [(2, ((116 : Nat) : Int)), (0, (t : Int)), (0, (r : Int)), (0, 0), v4, v5]) lk_255_31 rfl rfl ?_
        exact inner r (by omega) (fun v4 v5 N l m a1 a2 a3 a4 => ih (r + 1) _ v4 v5 N (by omega) l m a1 a2 a3 a4) (tC T) 0 v4 v5 N (by omega) lay mf f64 f65 f66 f67
  show Wp (d + 2) 255 0 [(2, ((116 : Nat) : Int)), (0, (t : Int)), (9, 0), (9, 0), (9, 0), (9, 0)] [] M mc ms Q
  have fl0 : ∀ (z1 z2 z3 z4 : Int) (a : Nat), a ∉ [59, 60, 61, 64, 65, 66, 67] → pm_upd (pm_upd (pm_upd (pm_upd (pm_ct M 116) 64 z1) 65 z2) 66 z3) 67 z4 a = pm_ct M 116 a := fun z1 z2 z3 z4 a ha => by
    simp at ha
    rw [pm_upd_ne (by omega), pm_upd_ne (by omega), pm_upd_ne (by omega), pm_upd_ne (by omega)]
  refine g_aload_n lk_255_0 rfl ?_
  refine g_iconst lk_255_1 ?_
  have lay1 : Lay (Mu [(116, pm_upd (pm_ct M 116) 64 0)] M) := lay0.muF (l := []) (a := 116) (k := 64) (z := 0) rfl rfl
  refine m_putfield (u := []) (u' := [(116, pm_upd (pm_ct M 116) 64 0)]) (M := M) lk_255_2 rfl (lay0.on (by decide) rfl) (fun h => absurd h (by decide)) rfl ?_
  refine g_aload_n lk_255_5 rfl ?_
  refine g_iconst lk_255_6 ?_
  have lay2 : Lay (Mu [(116, pm_upd (pm_upd (pm_ct M 116) 64 0) 65 0)] M) := lay1.muF (l := [(116, pm_upd (pm_ct M 116) 64 0)]) (a := 116) (k := 65) (z := 0) rfl rfl
  refine m_putfield (u := [(116, pm_upd (pm_ct M 116) 64 0)]) (u' := [(116, pm_upd (pm_upd (pm_ct M 116) 64 0) 65 0)]) (M := M) lk_255_7 rfl (lay1.on (by decide) rfl) (fun h => absurd h (by decide)) rfl ?_
  refine g_aload_n lk_255_10 rfl ?_
  refine g_iconst lk_255_11 ?_
  have lay3 : Lay (Mu [(116, pm_upd (pm_upd (pm_upd (pm_ct M 116) 64 0) 65 0) 66 0)] M) := lay2.muF (l := [(116, pm_upd (pm_upd (pm_ct M 116) 64 0) 65 0)]) (a := 116) (k := 66) (z := 0) rfl rfl
  refine m_putfield (u := [(116, pm_upd (pm_upd (pm_ct M 116) 64 0) 65 0)]) (u' := [(116, pm_upd (pm_upd (pm_upd (pm_ct M 116) 64 0) 65 0) 66 0)]) (M := M) lk_255_12 rfl (lay2.on (by decide) rfl) (fun h => absurd h (by decide)) rfl ?_
  refine g_aload_n lk_255_15 rfl ?_
  refine g_iconst lk_255_16 ?_
  have lay4 : Lay (Mu [(116, pm_upd (pm_upd (pm_upd (pm_upd (pm_ct M 116) 64 0) 65 0) 66 0) 67 0)] M) := lay3.muF (l := [(116, pm_upd (pm_upd (pm_upd (pm_ct M 116) 64 0) 65 0) 66 0)]) (a := 116) (k := 67) (z := 0) rfl rfl
  refine m_putfield (u := [(116, pm_upd (pm_upd (pm_upd (pm_ct M 116) 64 0) 65 0) 66 0)]) (u' := [(116, pm_upd (pm_upd (pm_upd (pm_upd (pm_ct M 116) 64 0) 65 0) 66 0) 67 0)]) (M := M) lk_255_17 rfl (lay3.on (by decide) rfl) (fun h => absurd h (by decide)) rfl ?_
  refine g_iconst lk_255_20 ?_
  refine g_istore_n (ls' := [(2, ((116 : Nat) : Int)), (0, (t : Int)), (0, 0), (9, 0), (9, 0), (9, 0)]) lk_255_21 rfl rfl ?_
  refine outer (tR T) 0 _ _ _ _ (by omega) lay4 (MF.mu _ _ rfl (fl0 _ _ _ _)) ?_ ?_ ?_ ?_
  · rw [Mu_ct]; rfl
  · rw [Mu_ct]; rfl
  · rw [Mu_ct]; rfl
  · rw [Mu_ct]; rfl
