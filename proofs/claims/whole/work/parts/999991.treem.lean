/-! ===== a tree of a text, the model ===== -/
def TrK (d mc ms n R C B : Nat) (ch : Nat → Nat) (M : pm_M) (Q : pm_Q) (f : Nat) : Prop := ∀ (g c q w : Nat) (t : Tok) (v5 : pm_V) (K : pm_M), f + g = 10 → g ≤ 9 → c ≤ 31 → w ≤ g → Lay K → TtL M K → GdM K ch n t → KdM K 128 → pm_ct K 116 35 = (w : Int) → WtOK K w (B + c) → (∀ (e : Nat × Nat) (N : pm_M), pN ch n R C f g c q t = .inl e → Lay N → TtM M N → KdM N 128 → BdM N e → Q none N) → (∀ (L : List Ne) (l : Nat) (t' : Tok) (z4 : Int) (u5 : pm_V) (N : pm_M), pN ch n R C f g c q t = .inr (L, t') → l = L.length → Lay N → TtL M N → KdM N 128 → GdM N ch n t' → pm_ct N 116 35 = (w : Int) → NdB K N (B + c) w → SgAt N 127 (B + c) (L.map (fun y => y.1)) → Wp (d + 3) 195 215 [(2, ((116 : Nat) : Int)), (0, (B : Int)), (0, ((c + l : Nat) : Int)), (0, 1), (0, z4), u5] [] N mc ms Q) → Wp (d + 3) 195 20 [(2, ((116 : Nat) : Int)), (0, (B : Int)), (0, (c : Int)), (0, 1), (0, (g : Int)), v5] [] K mc ms Q
/-- one node's own cells -/
theorem NdB.own {K N P : pm_M} {b w : Nat} {x y z u : Int} (a8 : pm_ct N 128 = pm_upd (pm_ct K 128) b x) (a10 : pm_ct N 130 = pm_upd (pm_ct K 130) b y) (a11 : pm_ct N 131 = pm_upd (pm_ct K 131) b z) (n9 : pm_ct N 129 = pm_ct K 129) (n13 : pm_ct N 133 = pm_ct K 133) (c8 : pm_ct P 128 = pm_ct N 128) (c9 : pm_ct P 129 = pm_upd (pm_ct N 129) b u) (c10 : pm_ct P 130 = pm_ct N 130) (c11 : pm_ct P 131 = pm_ct N 131) (c13 : ∀ j, j < w → pm_ct P 133 j = pm_ct N 133 j) : NdB K P b w :=
  ⟨fun i hi => by
    show pm_ct P 128 i = pm_ct K 128 i ∧ pm_ct P 129 i = pm_ct K 129 i ∧ pm_ct P 130 i = pm_ct K 130 i
    rw [c8, c9, c10, a8, n9, a10, pm_upd_ne (by omega), pm_upd_ne (by omega), pm_upd_ne (by omega)]
    exact ⟨rfl, rfl, rfl⟩, fun j hj => by rw [c11, a11, pm_upd_ne (by omega)], fun j hj => by rw [c13 j hj, n13]⟩
theorem WtOK.of {K N : pm_M} {w b b' : Nat} (h : WtOK K w b) (h31 : ∀ j, j < b → pm_ct N 131 j = pm_ct K 131 j) (h33 : ∀ j, j < w → pm_ct N 133 j = pm_ct K 133 j) (hb : b ≤ b') : WtOK N w b' := fun j hj => by
  obtain ⟨a1, a2, a3, a4⟩ := h j hj
  rw [h33 j hj, h31 _ (by omega)]
  exact ⟨a1, by omega, a3, a4⟩
theorem NdB.trans2 {K N P : pm_M} {b w b' w' : Nat} (h : NdB K N b' w') (g : NdB N P b w) (hb : b ≤ b') (hw : w ≤ w') : NdB K P b w :=
  ⟨fun i hi => by
    obtain ⟨a1, a2, a3⟩ := h.1 i (by omega)
    obtain ⟨b1, b2, b3⟩ := g.1 i hi
    exact ⟨b1.trans a1, b2.trans a2, b3.trans a3⟩, fun j hj => (g.2.1 j hj).trans (h.2.1 j (by omega)), fun j hj => (g.2.2 j hj).trans (h.2.2 j (by omega))⟩
theorem map_len1 {L : List Ne} {l : Nat} (h : l = L.length) : (L.map (fun y => y.1)).length = l := by rw [List.length_map, h]
set_option maxHeartbeats 4000000 in
theorem mo_step {d mc ms n R C B k f : Nat} {ch : Nat → Nat} {M : pm_M} {Q : pm_Q} (hR : R ≤ 6) (hC : C ≤ 6) (k4 : k < 4) (hB : B = 31 * k) (f4 : pm_ct M 116 4 = (R : Int)) (f5 : pm_ct M 116 5 = (C : Int)) (f6 : pm_ct M 116 6 = (k : Int)) (ih : TrK d mc ms n R C B ch M Q f) : TrK d mc ms n R C B ch M Q (f + 1) := by
  intro g c q w t v5 K fg g9 c31 wg lay hF hG hKd h35 hW bad ok
  have hK := hG.2.2.2
  have n5 := hG.1.1
  have ig := hG.ig lay (d := d + 2) (mc := 0) (ms := 0)
  have no := c_Mo_isNode (d := d + 1) (mc := 0) (ms := 0) lay hG.2.2.1 hK
  have u1 := (lxt_ok (ch := ch) hK.2.2.1 n5).1
  have u2 := (lxt_ok (ch := ch) u1.2.2.1 n5).1
  by_cases a : isNd ch t
  rotate_left
  · rw [if_neg a] at no
    have fa := hG.fa lay (d := d + 2) (mc := 0) (ms := 0) (w := 2)
    have fr := flt_r (w := 2) (t := t) (by omega)
    have bd := fun N => bad (flt 2 t) N (pN_no a)
    have k64 : ∀ N : pm_M, Lay N → MF [] [31, 32] K N → FtM N (flt 2 t) → Wp (d + 3) 195 64 [(2, ((116 : Nat) : Int)), (0, (B : Int)), (0, (c : Int)), (0, 1), (0, (g : Int)), v5] [] N mc ms Q := fun N l m ft => mo_bad64 l ⟨ft, fr⟩ (bd N l (hF.trans (m.mono (fun a q => by cases q) (fun a q => by simp at q ⊢; omega))).tt (hKd.mf m (by decide) (by decide)) ⟨ft, fr⟩)
    refine g_iload_n lk_195_20 rfl ?_
    refine g_if (t := 278) lk_195_21 rfl (by first | (unfold pm_inI; omega) | exact pm_and_in _ _ | exact pm_shr_in _ _ | exact pm_or_in _ _ | exact pm_xor_in _ _ | exact pm_shl_in _ _ | exact pm_cmp_in _ _ | exact pm_b8_in _ | (unfold pm_inI; split <;> omega)) (fun h => absurd h (show ¬ ((1 : Int) = (0 : Int)) by omega)) (fun _ => ?_)
    refine g_aload_n lk_195_24 rfl ?_
    refine g_virtual (p := 116) (Qc := _) lk_195_25 rfl (Nat.le_of_ble_eq_true rfl) rfl rfl (lay.on (by decide) rfl) (Nat.le_of_ble_eq_true rfl) (Nat.le_of_ble_eq_true rfl) (Nat.zero_le _) (Nat.zero_le _) (ig) ?_
    rintro _ N1 ⟨rfl, hN1⟩
    rw [hN1]
    show Wp _ 195 28 [(2, ((116 : Nat) : Int)), (0, (B : Int)), (0, (c : Int)), (0, 1), (0, (g : Int)), v5] [(0, 1)] K _ _ _
    refine g_if (t := 278) lk_195_28 rfl (by first | (unfold pm_inI; omega) | exact pm_and_in _ _ | exact pm_shr_in _ _ | exact pm_or_in _ _ | exact pm_xor_in _ _ | exact pm_shl_in _ _ | exact pm_cmp_in _ _ | exact pm_b8_in _ | (unfold pm_inI; split <;> omega)) (fun h => absurd h (show ¬ ((1 : Int) = (0 : Int)) by omega)) (fun _ => ?_)
    refine g_aload_n lk_195_31 rfl ?_
    refine g_virtual (p := 116) (Qc := _) lk_195_32 rfl (Nat.le_of_ble_eq_true rfl) rfl rfl (lay.on (by decide) rfl) (Nat.le_of_ble_eq_true rfl) (Nat.le_of_ble_eq_true rfl) (Nat.zero_le _) (Nat.zero_le _) (no) ?_
    rintro _ N2 ⟨rfl, hN2⟩
    rw [hN2]
    show Wp _ 195 35 [(2, ((116 : Nat) : Int)), (0, (B : Int)), (0, (c : Int)), (0, 1), (0, (g : Int)), v5] [(0, 0)] K _ _ _
    refine g_if (t := 46) lk_195_35 rfl (by first | (unfold pm_inI; omega) | exact pm_and_in _ _ | exact pm_shr_in _ _ | exact pm_or_in _ _ | exact pm_xor_in _ _ | exact pm_shl_in _ _ | exact pm_cmp_in _ _ | exact pm_b8_in _ | (unfold pm_inI; split <;> omega)) (fun h => absurd h (show ¬ (¬ (0 : Int) = (0 : Int)) by omega)) (fun _ => ?_)
    refine g_aload_n lk_195_38 rfl ?_
    refine g_iconst lk_195_39 ?_
    refine g_virtual (p := 116) (Qc := _) lk_195_40 rfl (Nat.le_of_ble_eq_true rfl) rfl rfl (lay.on (by decide) rfl) (Nat.le_of_ble_eq_true rfl) (Nat.le_of_ble_eq_true rfl) (Nat.zero_le _) (Nat.zero_le _) (fa) ?_
    rintro _ K1 ⟨rfl, lay1, m1, ft1⟩
    show Wp _ 195 43 [(2, ((116 : Nat) : Int)), (0, (B : Int)), (0, (c : Int)), (0, 1), (0, (g : Int)), v5] [] K1 _ _ _
    refine g_goto (t := 64) lk_195_43 rfl ?_
    exact k64 K1 lay1 m1 ft1
  · rw [if_pos a] at no
    by_cases b : 9 ≤ g ∨ 31 ≤ c
    · have fa := hG.fa lay (d := d + 2) (mc := 0) (ms := 0) (w := 5)
      have fr := flt_r (w := 5) (t := t) (by omega)
      have bd := fun N => bad (flt 5 t) N (pN_full a b)
      have k64 : ∀ N : pm_M, Lay N → MF [] [31, 32] K N → FtM N (flt 5 t) → Wp (d + 3) 195 64 [(2, ((116 : Nat) : Int)), (0, (B : Int)), (0, (c : Int)), (0, 1), (0, (g : Int)), v5] [] N mc ms Q := fun N l m ft => mo_bad64 l ⟨ft, fr⟩ (bd N l (hF.trans (m.mono (fun a q => by cases q) (fun a q => by simp at q ⊢; omega))).tt (hKd.mf m (by decide) (by decide)) ⟨ft, fr⟩)
      have k59 : Wp (d + 3) 195 59 [(2, ((116 : Nat) : Int)), (0, (B : Int)), (0, (c : Int)), (0, 1), (0, (g : Int)), v5] [] K mc ms Q := by
        refine g_aload_n lk_195_59 rfl ?_
        refine g_iconst lk_195_60 ?_
        refine g_virtual (p := 116) (Qc := _) lk_195_61 rfl (Nat.le_of_ble_eq_true rfl) rfl rfl (lay.on (by decide) rfl) (Nat.le_of_ble_eq_true rfl) (Nat.le_of_ble_eq_true rfl) (Nat.zero_le _) (Nat.zero_le _) (fa) ?_
        rintro _ K1 ⟨rfl, lay1, m1, ft1⟩
        show Wp _ 195 64 [(2, ((116 : Nat) : Int)), (0, (B : Int)), (0, (c : Int)), (0, 1), (0, (g : Int)), v5] [] K1 _ _ _
        exact k64 K1 lay1 m1 ft1
      clear bad ok ih
      refine g_iload_n lk_195_20 rfl ?_
      refine g_if (t := 278) lk_195_21 rfl (by first | (unfold pm_inI; omega) | exact pm_and_in _ _ | exact pm_shr_in _ _ | exact pm_or_in _ _ | exact pm_xor_in _ _ | exact pm_shl_in _ _ | exact pm_cmp_in _ _ | exact pm_b8_in _ | (unfold pm_inI; split <;> omega)) (fun h => absurd h (show ¬ ((1 : Int) = (0 : Int)) by omega)) (fun _ => ?_)
      refine g_aload_n lk_195_24 rfl ?_
      refine g_virtual (p := 116) (Qc := _) lk_195_25 rfl (Nat.le_of_ble_eq_true rfl) rfl rfl (lay.on (by decide) rfl) (Nat.le_of_ble_eq_true rfl) (Nat.le_of_ble_eq_true rfl) (Nat.zero_le _) (Nat.zero_le _) (ig) ?_
      rintro _ N1 ⟨rfl, hN1⟩
      rw [hN1]
      show Wp _ 195 28 [(2, ((116 : Nat) : Int)), (0, (B : Int)), (0, (c : Int)), (0, 1), (0, (g : Int)), v5] [(0, 1)] K _ _ _
      refine g_if (t := 278) lk_195_28 rfl (by first | (unfold pm_inI; omega) | exact pm_and_in _ _ | exact pm_shr_in _ _ | exact pm_or_in _ _ | exact pm_xor_in _ _ | exact pm_shl_in _ _ | exact pm_cmp_in _ _ | exact pm_b8_in _ | (unfold pm_inI; split <;> omega)) (fun h => absurd h (show ¬ ((1 : Int) = (0 : Int)) by omega)) (fun _ => ?_)
      refine g_aload_n lk_195_31 rfl ?_
      refine g_virtual (p := 116) (Qc := _) lk_195_32 rfl (Nat.le_of_ble_eq_true rfl) rfl rfl (lay.on (by decide) rfl) (Nat.le_of_ble_eq_true rfl) (Nat.le_of_ble_eq_true rfl) (Nat.zero_le _) (Nat.zero_le _) (no) ?_
      rintro _ N2 ⟨rfl, hN2⟩
      rw [hN2]
      show Wp _ 195 35 [(2, ((116 : Nat) : Int)), (0, (B : Int)), (0, (c : Int)), (0, 1), (0, (g : Int)), v5] [(0, 1)] K _ _ _
      refine g_if (t := 46) lk_195_35 rfl (by first | (unfold pm_inI; omega) | exact pm_and_in _ _ | exact pm_shr_in _ _ | exact pm_or_in _ _ | exact pm_xor_in _ _ | exact pm_shl_in _ _ | exact pm_cmp_in _ _ | exact pm_b8_in _ | (unfold pm_inI; split <;> omega)) (fun _ => ?_) (fun h => absurd (show ¬ (1 : Int) = (0 : Int) by omega) h)
      refine g_iload_n lk_195_46 rfl ?_
      refine g_bipush lk_195_47 ?_
      refine g_icmp (t := 59) lk_195_49 rfl (by first | (unfold pm_inI; omega) | exact pm_and_in _ _ | exact pm_shr_in _ _ | exact pm_or_in _ _ | exact pm_xor_in _ _ | exact pm_shl_in _ _ | exact pm_cmp_in _ _ | exact pm_b8_in _ | (unfold pm_inI; split <;> omega)) (by first | (unfold pm_inI; omega) | exact pm_and_in _ _ | exact pm_shr_in _ _ | exact pm_or_in _ _ | exact pm_xor_in _ _ | exact pm_shl_in _ _ | exact pm_cmp_in _ _ | exact pm_b8_in _ | (unfold pm_inI; split <;> omega)) (fun h3 => ?_) (fun h3 => ?_)
      · replace h3 : (c : Int) = 31 := h3
        exact k59
      · replace h3 : ¬ ((c : Int) = 31) := h3
        refine g_iload lk_195_52 rfl ?_
        refine g_bipush lk_195_54 ?_
        refine g_icmp (t := 64) lk_195_56 rfl (by first | (unfold pm_inI; omega) | exact pm_and_in _ _ | exact pm_shr_in _ _ | exact pm_or_in _ _ | exact pm_xor_in _ _ | exact pm_shl_in _ _ | exact pm_cmp_in _ _ | exact pm_b8_in _ | (unfold pm_inI; split <;> omega)) (by first | (unfold pm_inI; omega) | exact pm_and_in _ _ | exact pm_shr_in _ _ | exact pm_or_in _ _ | exact pm_xor_in _ _ | exact pm_shl_in _ _ | exact pm_cmp_in _ _ | exact pm_b8_in _ | (unfold pm_inI; split <;> omega)) (fun h4 => ?_) (fun h4 => ?_)
        · replace h4 : ¬ (g : Int) = 9 := h4
          omega
        · replace h4 : ¬ (¬ (g : Int) = 9) := h4
          exact k59
    · obtain ⟨b0, hb0⟩ : ∃ b0, b0 = B + c := ⟨_, rfl⟩
      have b4 : b0 < 124 := by omega
      obtain ⟨x, hx⟩ : ∃ x, x = if twd ch t = wdA then 1 else if twd ch t = wdB then 2 else 0 := ⟨_, rfl⟩
      have k72 : Wp (d + 3) 195 72 [(2, ((116 : Nat) : Int)), (0, (B : Int)), (0, (c : Int)), (0, 1), (0, (g : Int)), v5] [] K mc ms Q := by
        refine mo_put lay hG hb0 b4 a.1 hx (fun N lN mN a8 a10 a11 => ?_)
        have x02 : 0 ≤ (x : Int) ∧ (x : Int) ≤ 2 := by
          rw [hx]
          split
          · omega
          · split <;> omega
        have n9 : pm_ct N 129 = pm_ct K 129 := mN.ct (by decide) (by decide)
        have n13 : pm_ct N 133 = pm_ct K 133 := mN.ct (by decide) (by decide)
        have gN := hG.mf mN (by decide) (by decide)
        have hFN : TtL M N := hF.trans (mN.mono (fun a q => by simp at q ⊢; omega) (fun a q => by cases q))
        have hKN := hKd.upd a8 x02.1 x02.2
        have N35 : pm_ct N 116 35 = (w : Int) := by rw [mN.fd (by decide)]; exact h35
        have xN : pm_ct N 128 b0 = (x : Int) := by rw [a8, pm_upd_eq]
        have w31 : ∀ j, j < b0 → pm_ct N 131 j = pm_ct K 131 j := fun j hj => by rw [a11, pm_upd_ne (by omega)]
        by_cases l : twd ch t = wLeaf
        · have nA : ¬ twd ch t = wdA := by rw [l]; decide
          have nB : ¬ twd ch t = wdB := by rw [l]; decide
          rw [if_neg nA, if_neg nB] at hx
          rw [hx] at xN a8
          refine mo_leaf lN gN b4 xN (fun e P z hp lP mP bP => ?_) (fun v P hp lP mP gP c9 => ?_)
          · have W : WtOK P w (b0 + 1) := hW.of (fun j hj => by rw [mP.ct (by decide) (by decide)]; exact w31 j (by omega)) (fun j _ => by rw [mP.ct (by decide) (by decide), n13]) (by omega)
            exact mo_bad215 lP f6 k4 (by omega) (by rw [mP.fd (by decide)]; exact N35) (by omega) (hFN.trans (mP.mono (fun a q => by simp at q ⊢; omega) (fun a q => by simp at q ⊢; omega))).tt (hKN.mf mP (by decide) (by decide)) (by omega) W bP (fun N' l1 l2 l3 l4 => bad e N' (pN_lf0 a b l hp) l1 l2 l3 l4)
          · have nb : NdB K P b0 w := NdB.own a8 a10 a11 n9 n13 (mP.ct (by decide) (by decide)) c9 (mP.ct (by decide) (by decide)) (mP.ct (by decide) (by decide)) (fun j _ => by rw [mP.ct (by decide) (by decide)])
            rw [hb0] at nb
            refine ok _ 1 _ _ _ P (pN_lf1 a b l hp) rfl lP (hFN.trans (mP.mono (fun a q => by simp at q ⊢; omega) (fun a q => by simp at q ⊢; omega))) (hKN.mf mP (by decide) (by decide)) gP (by rw [mP.fd (by decide)]; exact N35) nb (fun i y hy => ?_)
            cases i with
            | zero =>
              have ey : y = (0, v, -1) := (Option.some.inj hy).symm
              rw [ey, ← hb0]
              refine ⟨?_, ?_, ?_⟩
              · show pm_ct P 128 b0 = _
                rw [mP.ct (by decide) (by decide), xN]
              · show pm_ct P 129 b0 = _
                rw [c9, pm_upd_eq]
              · show pm_ct P 130 b0 = _
                rw [mP.ct (by decide) (by decide), a10, pm_upd_eq]
            | succ i => cases hy
        · have x12 : x = if twd ch t = wdA then 1 else 2 := by
            rw [hx]
            by_cases e1 : twd ch t = wdA
            · rw [if_pos e1, if_pos e1]
            · rw [if_neg e1, if_neg e1]
              rcases a.2 with q | q | q
              · exact absurd q l
              · exact absurd q e1
              · rw [if_pos q]
          have badP : ∀ (e : Nat × Nat) (P : pm_M), pSet ch (if twd ch t = wdA then R else C) (lxt ch n t.2.2) = .inl e → Lay P → MF [129, 133] (35 :: rdK) N P → BdM P e → Wp (d + 3) 195 20 [(2, ((116 : Nat) : Int)), (0, (B : Int)), (0, ((c + 1 : Nat) : Int)), (0, 1), (0, ((g + 1 : Nat) : Int)), (0, (b0 : Int))] [] P mc ms Q := fun e P hp lP mP bP => mo_bad20 lP f6 k4 (by omega) (hFN.trans (mP.mono (fun a q => by simp at q ⊢; omega) (fun a q => by simp at q ⊢; omega))).tt (hKN.mf mP (by decide) (by decide)) bP (fun N' l1 l2 l3 l4 => bad e N' (pN_nd0 a b l hp) l1 l2 l3 l4)
          have okP : ∀ (s : Nat) (P : pm_M), pSet ch (if twd ch t = wdA then R else C) (lxt ch n t.2.2) = .inr s → Lay P → MF [129, 133] (35 :: rdK) N P → GdM P ch n (lxt ch n (lxt ch n t.2.2).2.2) → pm_ct P 129 = pm_upd (pm_ct N 129) b0 (s : Int) → pm_ct P 133 = pm_upd (pm_ct N 133) w (b0 : Int) → pm_ct P 116 35 = ((w + 1 : Nat) : Int) → Wp (d + 3) 195 20 [(2, ((116 : Nat) : Int)), (0, (B : Int)), (0, ((c + 1 : Nat) : Int)), (0, 1), (0, ((g + 1 : Nat) : Int)), (0, (b0 : Int))] [] P mc ms Q := by
            intro s P hp lP mP gP c9 c13 P35
            have hFP : TtL M P := hFN.trans (mP.mono (fun a q => by simp at q ⊢; omega) (fun a q => by simp at q ⊢; omega))
            have hKP := hKN.mf mP (by decide) (by decide)
            have p8 : pm_ct P 128 = pm_ct N 128 := mP.ct (by decide) (by decide)
            have p10 : pm_ct P 130 = pm_ct N 130 := mP.ct (by decide) (by decide)
            have p11 : pm_ct P 131 = pm_ct N 131 := mP.ct (by decide) (by decide)
            have nb : NdB K P b0 w := NdB.own a8 a10 a11 n9 n13 p8 c9 p10 p11 (fun j hj => by rw [c13, pm_upd_ne (by omega)])
            have W0 : WtOK P w b0 := by rw [← hb0] at hW; exact hW.nd nb (Nat.le_refl _) (Nat.le_refl _) (Nat.le_refl _)
            have pw : pm_ct P 133 w = (b0 : Int) := by rw [c13, pm_upd_eq]
            have pd : pm_ct P 131 b0 = (g : Int) := by rw [p11, a11, pm_upd_eq]
            have W1 : WtOK P (w + 1) (b0 + 1) := fun j hj => by
              by_cases e : j = w
              · rw [e, pw]
                show 0 ≤ (b0 : Int) ∧ (b0 : Int) < ((b0 + 1 : Nat) : Int) ∧ 0 ≤ pm_ct P 131 b0 ∧ pm_ct P 131 b0 ≤ 9
                rw [pd]
                omega
              · obtain ⟨z1, z2, z3, z4⟩ := W0 j (by omega)
                exact ⟨z1, by omega, z3, z4⟩
            have eb1 : B + (c + 1) = b0 + 1 := by omega
            refine ih (g + 1) (c + 1) c (w + 1) (lxt ch n (lxt ch n t.2.2).2.2) (0, (b0 : Int)) P (by omega) (by omega) (by omega) (by omega) lP hFP gP hKP P35 (by rw [eb1]; exact W1) (fun e N' h1 l1 l2 l3 l4 => bad e N' (pN_nd1 a b l hp h1) l1 l2 l3 l4) ?_
            intro L1 l1 t1 y4 u5 N1 h1 hl1 lN1 hF1 hK1 g1 N135 nb1 s1
            rw [eb1] at nb1 s1
            obtain ⟨o1, o2, o3⟩ := pN_ok n5 f u2 h1
            rw [← hl1] at o2 o3
            have q1w : pm_ct N1 133 w = (b0 : Int) := by rw [nb1.2.2 w (by omega)]; exact pw
            have q1d : pm_ct N1 131 b0 = (g : Int) := by rw [nb1.2.1 b0 (by omega)]; exact pd
            refine mo_pop lN1 N135 (by omega) q1w b4 q1d g9 (by omega) (fun N2 lN2 m2 N235 d10 => ?_)
            have e8 : pm_ct N2 128 = pm_ct N1 128 := m2.ct (by decide) (by decide)
            have e9 : pm_ct N2 129 = pm_ct N1 129 := m2.ct (by decide) (by decide)
            have e11 : pm_ct N2 131 = pm_ct N1 131 := m2.ct (by decide) (by decide)
            have e13 : pm_ct N2 133 = pm_ct N1 133 := m2.ct (by decide) (by decide)
            have hF2 : TtL M N2 := hF1.trans (m2.mono (fun a q => by simp at q ⊢; omega) (fun a q => by simp at q ⊢; omega))
            have hK2 := hK1.mf m2 (by decide) (by decide)
            have nb2 : NdB N1 N2 b0 w := ⟨fun i hi => by
              show pm_ct N2 128 i = pm_ct N1 128 i ∧ pm_ct N2 129 i = pm_ct N1 129 i ∧ pm_ct N2 130 i = pm_ct N1 130 i
              rw [e8, e9, d10, pm_upd_ne (by omega)]
              exact ⟨rfl, rfl, rfl⟩, fun j _ => by rw [e11], fun j _ => by rw [e13]⟩
            have nb02 : NdB P N2 b0 w := nb1.trans2 nb2 (by omega) (by omega)
            have eb2 : B + (c + 1 + l1) = b0 + 1 + l1 := by omega
            have W2 : WtOK N2 w (b0 + 1 + l1) := W0.nd nb02 (Nat.le_refl _) (Nat.le_refl _) (by omega)
            have h2' : ∀ z, pN ch n R C f (g + 1) (c + 1 + l1) c t1 = z → pN ch n R C f (g + 1) (c + 1 + L1.length) c t1 = z := fun z hz => by rw [← hl1]; exact hz
            refine ih (g + 1) (c + 1 + l1) c w t1 u5 N2 (by omega) (by omega) (by omega) (by omega) lN2 hF2 (g1.mf m2 (by decide) (by decide)) hK2 N235 (by rw [eb2]; exact W2) (fun e N' h2 l1 l2 l3 l4 => bad e N' (pN_nd2 a b l hp h1 (h2' _ h2)) l1 l2 l3 l4) ?_
            intro L2 l2 t2 x4 x5 N3 h2 hl2 lN3 hF3 hK3 g3 N335 nb3 s3
            rw [eb2] at nb3 s3
            have el : c + 1 + l1 + l2 = c + (l1 + l2 + 1) := by omega
            rw [el]
            refine ok _ (l1 + l2 + 1) _ _ _ N3 (pN_nd3 a b l hp h1 (h2' _ h2)) (by rw [List.length_cons, List.length_append, hl1, hl2]) lN3 hF3 hK3 g3 N335 (by rw [← hb0]; exact (nb.trans nb02 (Nat.le_refl _) (Nat.le_refl _)).trans nb3 (by omega) (Nat.le_refl _)) ?_
            rw [← hb0, List.map_cons, List.map_append, ← x12, ← hl1]
            have ml1 := map_len1 hl1
            refine SgAt.join (K4 := P) (K5 := N1) (K6 := N2) ?_ ?_ nb1.1 s1 e8 e9 d10 (by rw [ml1]; exact nb3.1) (by rw [ml1]; exact s3)
            · show pm_ct P 128 b0 = _
              rw [p8]; exact xN
            · show pm_ct P 129 b0 = _
              rw [c9, pm_upd_eq]
          by_cases e1 : twd ch t = wdA
          · rw [if_pos e1] at badP okP x12
            rw [x12] at xN
            exact mo_set1 lN gN b4 xN (by rw [hFN.fd (by decide)]; exact f4) hR N35 (by omega) g9 badP okP
          · rw [if_neg e1] at badP okP x12
            rw [x12] at xN
            exact mo_set2 lN gN b4 xN (by rw [hFN.fd (by decide)]; exact f5) hC N35 (by omega) g9 badP okP
      have ig64 := ig
      clear bad ok ih
      have k64 : Wp (d + 3) 195 64 [(2, ((116 : Nat) : Int)), (0, (B : Int)), (0, (c : Int)), (0, 1), (0, (g : Int)), v5] [] K mc ms Q := by
        refine g_aload_n lk_195_64 rfl ?_
        refine g_virtual (p := 116) (Qc := _) lk_195_65 rfl (Nat.le_of_ble_eq_true rfl) rfl rfl (lay.on (by decide) rfl) (Nat.le_of_ble_eq_true rfl) (Nat.le_of_ble_eq_true rfl) (Nat.zero_le _) (Nat.zero_le _) (ig) ?_
        rintro _ N1 ⟨rfl, hN1⟩
        rw [hN1]
        show Wp _ 195 68 [(2, ((116 : Nat) : Int)), (0, (B : Int)), (0, (c : Int)), (0, 1), (0, (g : Int)), v5] [(0, 1)] K _ _ _
        refine g_if (t := 72) lk_195_68 rfl (by first | (unfold pm_inI; omega) | exact pm_and_in _ _ | exact pm_shr_in _ _ | exact pm_or_in _ _ | exact pm_xor_in _ _ | exact pm_shl_in _ _ | exact pm_cmp_in _ _ | exact pm_b8_in _ | (unfold pm_inI; split <;> omega)) (fun _ => ?_) (fun h => absurd (show ¬ (1 : Int) = (0 : Int) by omega) h)
        exact k72
      refine g_iload_n lk_195_20 rfl ?_
      refine g_if (t := 278) lk_195_21 rfl (by first | (unfold pm_inI; omega) | exact pm_and_in _ _ | exact pm_shr_in _ _ | exact pm_or_in _ _ | exact pm_xor_in _ _ | exact pm_shl_in _ _ | exact pm_cmp_in _ _ | exact pm_b8_in _ | (unfold pm_inI; split <;> omega)) (fun h => absurd h (show ¬ ((1 : Int) = (0 : Int)) by omega)) (fun _ => ?_)
      refine g_aload_n lk_195_24 rfl ?_
      refine g_virtual (p := 116) (Qc := _) lk_195_25 rfl (Nat.le_of_ble_eq_true rfl) rfl rfl (lay.on (by decide) rfl) (Nat.le_of_ble_eq_true rfl) (Nat.le_of_ble_eq_true rfl) (Nat.zero_le _) (Nat.zero_le _) (ig) ?_
      rintro _ N1 ⟨rfl, hN1⟩
      rw [hN1]
      show Wp _ 195 28 [(2, ((116 : Nat) : Int)), (0, (B : Int)), (0, (c : Int)), (0, 1), (0, (g : Int)), v5] [(0, 1)] K _ _ _
      refine g_if (t := 278) lk_195_28 rfl (by first | (unfold pm_inI; omega) | exact pm_and_in _ _ | exact pm_shr_in _ _ | exact pm_or_in _ _ | exact pm_xor_in _ _ | exact pm_shl_in _ _ | exact pm_cmp_in _ _ | exact pm_b8_in _ | (unfold pm_inI; split <;> omega)) (fun h => absurd h (show ¬ ((1 : Int) = (0 : Int)) by omega)) (fun _ => ?_)
      refine g_aload_n lk_195_31 rfl ?_
      refine g_virtual (p := 116) (Qc := _) lk_195_32 rfl (Nat.le_of_ble_eq_true rfl) rfl rfl (lay.on (by decide) rfl) (Nat.le_of_ble_eq_true rfl) (Nat.le_of_ble_eq_true rfl) (Nat.zero_le _) (Nat.zero_le _) (no) ?_
      rintro _ N2 ⟨rfl, hN2⟩
      rw [hN2]
      show Wp _ 195 35 [(2, ((116 : Nat) : Int)), (0, (B : Int)), (0, (c : Int)), (0, 1), (0, (g : Int)), v5] [(0, 1)] K _ _ _
      refine g_if (t := 46) lk_195_35 rfl (by first | (unfold pm_inI; omega) | exact pm_and_in _ _ | exact pm_shr_in _ _ | exact pm_or_in _ _ | exact pm_xor_in _ _ | exact pm_shl_in _ _ | exact pm_cmp_in _ _ | exact pm_b8_in _ | (unfold pm_inI; split <;> omega)) (fun _ => ?_) (fun h => absurd (show ¬ (1 : Int) = (0 : Int) by omega) h)
      refine g_iload_n lk_195_46 rfl ?_
      refine g_bipush lk_195_47 ?_
      refine g_icmp (t := 59) lk_195_49 rfl (by first | (unfold pm_inI; omega) | exact pm_and_in _ _ | exact pm_shr_in _ _ | exact pm_or_in _ _ | exact pm_xor_in _ _ | exact pm_shl_in _ _ | exact pm_cmp_in _ _ | exact pm_b8_in _ | (unfold pm_inI; split <;> omega)) (by first | (unfold pm_inI; omega) | exact pm_and_in _ _ | exact pm_shr_in _ _ | exact pm_or_in _ _ | exact pm_xor_in _ _ | exact pm_shl_in _ _ | exact pm_cmp_in _ _ | exact pm_b8_in _ | (unfold pm_inI; split <;> omega)) (fun h3 => ?_) (fun h3 => ?_)
      · replace h3 : (c : Int) = 31 := h3
        omega
      · replace h3 : ¬ ((c : Int) = 31) := h3
        refine g_iload lk_195_52 rfl ?_
        refine g_bipush lk_195_54 ?_
        refine g_icmp (t := 64) lk_195_56 rfl (by first | (unfold pm_inI; omega) | exact pm_and_in _ _ | exact pm_shr_in _ _ | exact pm_or_in _ _ | exact pm_xor_in _ _ | exact pm_shl_in _ _ | exact pm_cmp_in _ _ | exact pm_b8_in _ | (unfold pm_inI; split <;> omega)) (by first | (unfold pm_inI; omega) | exact pm_and_in _ _ | exact pm_shr_in _ _ | exact pm_or_in _ _ | exact pm_xor_in _ _ | exact pm_shl_in _ _ | exact pm_cmp_in _ _ | exact pm_b8_in _ | (unfold pm_inI; split <;> omega)) (fun h4 => ?_) (fun h4 => ?_)
        · replace h4 : ¬ (g : Int) = 9 := h4
          exact k64
        · replace h4 : ¬ (¬ (g : Int) = 9) := h4
          omega
theorem mo_nodes {d mc ms n R C B k : Nat} {ch : Nat → Nat} {M : pm_M} {Q : pm_Q} (hR : R ≤ 6) (hC : C ≤ 6) (k4 : k < 4) (hB : B = 31 * k) (f4 : pm_ct M 116 4 = (R : Int)) (f5 : pm_ct M 116 5 = (C : Int)) (f6 : pm_ct M 116 6 = (k : Int)) : ∀ f, TrK d mc ms n R C B ch M Q f
  | 0 => by
    intro g c q w t v5 K fg g9
    omega
  | f + 1 => mo_step hR hC k4 hB f4 f5 f6 (mo_nodes hR hC k4 hB f4 f5 f6 f)
def NoM (M N : pm_M) (k n : Nat) (ch : Nat → Nat) (r : Sum (Nat × Nat) (List Ne × Tok)) : Prop := match r with
  | .inl e => BdM N e
  | .inr x => GdM N ch n x.2 ∧ pm_ct N 127 = pm_upd (pm_ct M 127) k (x.1.length : Int) ∧ Blw M N 127 (31 * k) ∧ SgAt N 127 (31 * k) (x.1.map (fun y => y.1))
theorem c_Mo_readNodes {d mc ms n R C k : Nat} {ch : Nat → Nat} {t : Tok} {M : pm_M} (lay : Lay M) (hG : GdM M ch n t) (hKd : KdM M 128) (hR : R ≤ 6) (hC : C ≤ 6) (k4 : k < 4) (f4 : pm_ct M 116 4 = (R : Int)) (f5 : pm_ct M 116 5 = (C : Int)) (f6 : pm_ct M 116 6 = (k : Int)) :
    pm_E (d + 3) 195 [(2, ((116 : Nat) : Int))] M mc ms (fun ρ M' => ρ = none ∧ Lay M' ∧ TtM M M' ∧ KdM M' 128 ∧ NoM M M' k n ch (pN ch n R C 10 0 0 0 t)) := by
  obtain ⟨Q, hQ⟩ : ∃ Q : pm_Q, Q = (fun ρ M' => ρ = none ∧ Lay M' ∧ TtM M M' ∧ KdM M' 128 ∧ NoM M M' k n ch (pN ch n R C 10 0 0 0 t)) := ⟨_, rfl⟩
  rw [← hQ]
  have hK := hG.2.2.2
  have n5 := hG.1.1
  show Wp (d + 3) 195 0 [(2, ((116 : Nat) : Int)), (9, 0), (9, 0), (9, 0), (9, 0), (9, 0)] [] M mc ms Q
  obtain ⟨B, hB⟩ : ∃ B, B = 31 * k := ⟨_, rfl⟩
  have eB : 31 * (k : Int) = (B : Int) := by omega
  have go : ∀ K : pm_M, Lay K → MF [] [35] M K → pm_ct K 116 35 = 0 → Wp (d + 3) 195 20 [(2, ((116 : Nat) : Int)), (0, (B : Int)), (0, ((0 : Nat) : Int)), (0, 1), (0, ((0 : Nat) : Int)), (9, 0)] [] K mc ms Q := by
    intro K layK mK K35
    have hF : TtL M K := mK.mono (fun a q => by cases q) (fun a q => by simp at q ⊢; omega)
    refine mo_nodes hR hC k4 hB f4 f5 f6 10 0 0 0 0 t (9, 0) K (by omega) (by omega) (by omega) (by omega) layK hF (hG.mf mK (by decide) (by decide)) (hKd.mf mK (by decide) (by decide)) K35 (fun j hj => absurd hj (Nat.not_lt_zero j)) (fun e N h l1 l2 l3 l4 => ?_) ?_
    · rw [hQ, h]
      exact ⟨rfl, l1, l2, l3, l4⟩
    · intro L l t' z4 u5 N h hl lN hFN hKN gN N35 nb sg
      obtain ⟨o1, o2, o3⟩ := pN_ok n5 10 hK h
      rw [← hl] at o2 o3
      refine mo_last lN N35 (by rw [hFN.fd (by decide)]; exact f6) k4 (by omega) (fun P lP mP c7 => ?_)
      rw [hQ, h]
      refine ⟨rfl, lP, hFN.tt.trans (mP.mono (fun a q => by simp at q ⊢; omega) (fun a q => by cases q)), hKN.mf mP (by decide) (by decide), gN.mf mP (by decide) (by decide), ?_, ?_, ?_⟩
      · rw [c7, hFN.ct (by decide) (by decide), Nat.zero_add, hl]
      · have nm := (NdB.mf mK (by decide) (B + 0) 0).trans nb (Nat.le_refl _) (Nat.le_refl _)
        have nn := nm.trans (NdB.mf mP (by decide) (B + 0) 0) (Nat.le_refl _) (Nat.le_refl _)
        rw [Nat.add_zero, hB] at nn
        exact nn.1
      · rw [Nat.add_zero, hB] at sg
        unfold SgAt at sg ⊢
        rw [mP.ct (a := 127 + 1) (by decide) (by decide), mP.ct (a := 127 + 2) (by decide) (by decide), mP.ct (a := 127 + 3) (by decide) (by decide)]
        exact sg
  refine g_bipush lk_195_0 ?_
  refine g_aload_n lk_195_2 rfl ?_
  refine m_getfield (u := []) (M := M) lk_195_3 rfl (lay.on (by decide) rfl) (v := (k : Int)) f6 ?_
  refine g_imul lk_195_6 ?_
  refine g_top (z := (31 * (k : Int))) (z' := (B : Int)) (eB) ?_
  refine g_istore_n (ls' := [(2, ((116 : Nat) : Int)), (0, (B : Int)), (9, 0), (9, 0), (9, 0), (9, 0)]) lk_195_7 rfl rfl ?_
  refine g_iconst lk_195_8 ?_
  refine g_istore_n (ls' := [(2, ((116 : Nat) : Int)), (0, (B : Int)), (0, 0), (9, 0), (9, 0), (9, 0)]) lk_195_9 rfl rfl ?_
  refine g_aload_n lk_195_10 rfl ?_
  refine g_iconst lk_195_11 ?_
  have lay1 : Lay (Mu [(116, pm_upd (pm_ct M 116) 35 0)] M) := lay.muF (l := []) (a := 116) (k := 35) (z := 0) rfl rfl
  refine m_putfield (u := []) (u' := [(116, pm_upd (pm_ct M 116) 35 0)]) (M := M) lk_195_12 rfl (lay.on (by decide) rfl) (fun h => absurd h (by decide)) rfl ?_
  refine g_iconst lk_195_15 ?_
  refine g_istore_n (ls' := [(2, ((116 : Nat) : Int)), (0, (B : Int)), (0, 0), (0, 1), (9, 0), (9, 0)]) lk_195_16 rfl rfl ?_
  refine g_iconst lk_195_17 ?_
  refine g_istore (ls' := [(2, ((116 : Nat) : Int)), (0, (B : Int)), (0, 0), (0, 1), (0, 0), (9, 0)]) lk_195_18 rfl rfl ?_
  exact go (Mu [(116, pm_upd (pm_ct M 116) 35 0)] M) lay1 (MF.mu _ _ rfl (fun k hk => upd_ne (by intro q; rw [q] at hk; exact hk (by decide)))) (by rw [Mu_ct]; rfl)
