/-! ===== the model's tables of all areas: one split ===== -/
theorem c_Mo_lesser {d mc ms : Nat} {M : pm_M} {a b : Int} (ha : pm_inI a) (hb : pm_inI b) :
    pm_E d 169 [(0, a), (0, b)] M mc ms (fun ρ M' => ρ = some (0, min a b) ∧ M' = M) := by
  show Wp d 169 0 [(0, a), (0, b)] [] M mc ms _
  refine g_iload_n lk_169_0 rfl ?_
  refine g_iload_n lk_169_1 rfl ?_
  refine g_icmp (t := 9) lk_169_2 rfl (by assumption) (by assumption) (fun h1 => ?_) (fun h1 => ?_)
  · replace h1 : b ≤ a := h1
    refine g_iload_n lk_169_9 rfl ?_
    refine g_ireturn lk_169_10 (fun h => absurd h (by decide)) ?_
    refine ⟨?_, rfl⟩
    congr 2
    omega
  · replace h1 : ¬ (b ≤ a) := h1
    refine g_iload_n lk_169_5 rfl ?_
    refine g_goto (t := 10) lk_169_6 rfl ?_
    refine g_ireturn lk_169_10 (fun h => absurd h (by decide)) ?_
    refine ⟨?_, rfl⟩
    congr 2
    omega
theorem c_Mo_areaOf {d mc ms : Nat} {M : pm_M} {a b : Nat} :
    pm_E d 233 [(0, (a : Int)), (0, (b : Int))] M mc ms (fun ρ M' => ρ = some (0, ((64 * a + b : Nat) : Int)) ∧ M' = M) := by
  show Wp d 233 0 [(0, (a : Int)), (0, (b : Int))] [] M mc ms _
  refine g_bipush lk_233_0 ?_
  refine g_iload_n lk_233_2 rfl ?_
  refine g_imul lk_233_3 ?_
  refine g_iload_n lk_233_4 rfl ?_
  refine g_iadd lk_233_5 ?_
  refine g_ireturn lk_233_6 (fun h => absurd h (by decide)) ?_
  refine ⟨?_, rfl⟩
  congr 2
/-- what a split may bring to the tables of an area: old values, those of the parts -/
def pE (its : Nat) (E E1 E2 : Nat → Nat) (b : Nat) : Nat := if its ≤ b then min (E b) (E1 (b - its) + E2 (b - its)) else E b
def pB (its asked : Nat) (B B1 B2 : Nat → Nat) (h : Nat) : Nat := if h = 0 then min (B 0) (its + max (B1 0) (B2 0)) else if h = 1 then min (B 1) (B1 1 + B2 1) else min (B 2) (its * asked + B1 2 + B2 2)
def pV (its w : Nat) (X1 X2 : Nat → Nat) (t : Nat) : Nat := min 1000000 (its + max (X1 (6 * w + t)) (X2 (6 * w + t)))
/-- n: so many counts of changes are through -/
def pT (its w : Nat) (X X1 X2 : Nat → Nat) (n i : Nat) : Nat := if 6 * w ≤ i ∧ i < 6 * w + n then min (X i) (pV its w X1 X2 (i - 6 * w)) else if 6 * (1 - w) + 1 ≤ i ∧ i < 6 * (1 - w) + 1 + n ∧ i < 6 * (1 - w) + 6 then min (X i) (pV its w X1 X2 (i - 6 * (1 - w) - 1)) else X i
theorem pT_same {its w : Nat} {X X1 X2 : Nat → Nat} {t i : Nat} (hw : w ≤ 1) (h1 : i ≠ 6 * w + t) (h2 : i ≠ 6 * (1 - w) + t + 1 ∨ 5 ≤ t) : pT its w X X1 X2 (t + 1) i = pT its w X X1 X2 t i := by
  unfold pT
  have a : (6 * w ≤ i ∧ i < 6 * w + (t + 1)) ↔ (6 * w ≤ i ∧ i < 6 * w + t) := by omega
  have b : (6 * (1 - w) + 1 ≤ i ∧ i < 6 * (1 - w) + 1 + (t + 1) ∧ i < 6 * (1 - w) + 6) ↔ (6 * (1 - w) + 1 ≤ i ∧ i < 6 * (1 - w) + 1 + t ∧ i < 6 * (1 - w) + 6) := by omega
  simp only [a, b]
theorem pT_own {its w : Nat} {X X1 X2 : Nat → Nat} {t : Nat} : pT its w X X1 X2 (t + 1) (6 * w + t) = min (X (6 * w + t)) (pV its w X1 X2 t) := by
  unfold pT
  rw [if_pos (by omega), show 6 * w + t - 6 * w = t by omega]
theorem pT_old {its w : Nat} {X X1 X2 : Nat → Nat} {t : Nat} (hw : w ≤ 1) (ht : t < 6) : pT its w X X1 X2 t (6 * w + t) = X (6 * w + t) := by
  unfold pT
  rw [if_neg (by omega), if_neg (by omega)]
theorem pT_chg {its w : Nat} {X X1 X2 : Nat → Nat} {t : Nat} (hw : w ≤ 1) (ht : t + 1 < 6) : pT its w X X1 X2 (t + 1) (6 * (1 - w) + t + 1) = min (X (6 * (1 - w) + t + 1)) (pV its w X1 X2 t) := by
  unfold pT
  rw [if_neg (by omega), if_pos (by omega), show 6 * (1 - w) + t + 1 - 6 * (1 - w) - 1 = t by omega]
theorem pT_cho {its w : Nat} {X X1 X2 : Nat → Nat} {t : Nat} (hw : w ≤ 1) (ht : t + 1 < 6) : pT its w X X1 X2 t (6 * (1 - w) + t + 1) = X (6 * (1 - w) + t + 1) := by
  unfold pT
  rw [if_neg (by omega), if_neg (by omega)]
def pEn (its : Nat) (E E1 E2 : Nat → Nat) (n b : Nat) : Nat := if its ≤ b ∧ b < n then min (E b) (E1 (b - its) + E2 (b - its)) else E b
/-- the tables of an area at place K -/
def TbK (M : pm_M) (K : Nat) (E B X : Nat → Nat) : Prop := (∀ b, b < 21 → pm_ct M 144 (21 * K + b) = (E b : Int)) ∧ (∀ h, h < 3 → pm_ct M 142 (4096 * h + K) = (B h : Int)) ∧ ∀ i, i < 12 → pm_ct M 143 (4096 * i + K) = (X i : Int)
def Bd (E B X : Nat → Nat) : Prop := (∀ b, E b ≤ 1000400) ∧ (∀ h, B h ≤ 1000400) ∧ ∀ i, X i ≤ 1000400
/-- all areas but one stand -/
def Oth (M N : pm_M) (K : Nat) : Prop := ∀ J E B X, J < 4096 → J ≠ K → TbK M J E B X → TbK N J E B X
set_option maxHeartbeats 16000000 in
theorem c_Mo_layParted0 {d mc ms : Nat} {M : pm_M} (lay0 : Lay M) {K K1 K2 its asked al : Nat} {E B X E1 B1 X1 E2 B2 X2 : Nat → Nat} (hK : K < 4096) (hK1 : K1 < 4096) (hK2 : K2 < 4096) (n1 : K1 ≠ K) (n2 : K2 ≠ K) (h0 : TbK M K E B X) (h1' : TbK M K1 E1 B1 X1) (h2' : TbK M K2 E2 B2 X2) (d0 : Bd E B X) (d1 : Bd E1 B1 X1) (d2 : Bd E2 B2 X2) (hits : pm_ct M 120 1 = (its : Int)) (i9 : its ≤ 9) (ha : asked ≤ 36) (hal : al ≤ 1) :
    pm_E (d + 1) 237 [(2, ((116 : Nat) : Int)), (0, (K : Int)), (0, 1), (0, (K1 : Int)), (0, (K2 : Int)), (0, (asked : Int)), (0, (al : Int))] M mc ms (fun ρ M' => ρ = none ∧ Lay M' ∧ Fr [142, 143, 144] M M' ∧ Oth M M' K ∧ TbK M' K (pE its E E1 E2) (if al = 1 then B else pB its asked B B1 B2) (if al = 1 then X else pT its 0 X X1 X2 6)) := by
  obtain ⟨Q, hQ⟩ : ∃ Q : pm_Q, Q = (fun ρ M' => ρ = none ∧ Lay M' ∧ Fr [142, 143, 144] M M' ∧ Oth M M' K ∧ TbK M' K (pE its E E1 E2) (if al = 1 then B else pB its asked B B1 B2) (if al = 1 then X else pT its 0 X X1 X2 6)) := ⟨_, rfl⟩
  rw [← hQ]
  obtain ⟨hE, hB, hX⟩ := h0
  obtain ⟨hE1, hB1, hX1⟩ := h1'
  obtain ⟨hE2, hB2, hX2⟩ := h2'
  -- talk: counts of changes
  have talk : ∀ (m t : Nat) (v9 v10 v11 : pm_V) (N : pm_M), t + m = 6 → al = 0 → Lay N → Fr [142, 143, 144] M N → (∀ b, b < 21 → pm_ct N 144 (21 * K + b) = (pE its E E1 E2 b : Int)) → (∀ J b, J ≠ K → b < 21 → pm_ct N 144 (21 * J + b) = pm_ct M 144 (21 * J + b)) → (∀ h, h < 3 → pm_ct N 142 (4096 * h + K) = (pB its asked B B1 B2 h : Int)) → (∀ J h, J < 4096 → J ≠ K → pm_ct N 142 (4096 * h + J) = pm_ct M 142 (4096 * h + J)) → (∀ i, i < 12 → pm_ct N 143 (4096 * i + K) = (pT its 0 X X1 X2 t i : Int)) → (∀ J i, J < 4096 → J ≠ K → pm_ct N 143 (4096 * i + J) = pm_ct M 143 (4096 * i + J)) → Wp (d + 1) 237 223 [(2, ((116 : Nat) : Int)), (0, (K : Int)), (0, 1), (0, (K1 : Int)), (0, (K2 : Int)), (0, (asked : Int)), (0, (al : Int)), (0, (its : Int)), (0, (t : Int)), v9, v10, v11] [] N mc ms Q := by
    intro m
    induction m with
    | zero =>
      intro t v9 v10 v11 N ht al0 lay hF gE gE' gB gB' gX gX'
      refine g_iload lk_237_223 rfl ?_
      refine g_bipush lk_237_225 ?_
      refine g_icmp (t := 356) lk_237_227 rfl (by first | (unfold pm_inI; omega) | exact pm_and_in _ _ | exact pm_shr_in _ _ | exact pm_or_in _ _ | exact pm_xor_in _ _ | exact pm_shl_in _ _ | exact pm_cmp_in _ _ | exact pm_b8_in _ | (unfold pm_inI; split <;> omega)) (by first | (unfold pm_inI; omega) | exact pm_and_in _ _ | exact pm_shr_in _ _ | exact pm_or_in _ _ | exact pm_xor_in _ _ | exact pm_shl_in _ _ | exact pm_cmp_in _ _ | exact pm_b8_in _ | (unfold pm_inI; split <;> omega)) (fun h1 => ?_) (fun h1 => ?_)
      · replace h1 : 6 ≤ (t : Int) := h1
        refine g_return lk_237_356 ?_
        rw [hQ]
        rw [if_neg (by omega), if_neg (by omega)]
        refine ⟨rfl, lay, hF, fun J E' B' X' j1 j2 hJ => ⟨fun b hb => ?_, fun h hh => ?_, fun i hi => ?_⟩, gE, gB, fun i hi => by rw [show 6 = t by omega]; exact gX i hi⟩
        · rw [gE' J b j2 hb]; exact hJ.1 b hb
        · rw [gB' J h j1 j2]; exact hJ.2.1 h hh
        · rw [gX' J i j1 j2]; exact hJ.2.2 i hi
      · replace h1 : ¬ (6 ≤ (t : Int)) := h1
        omega
    | succ m ih =>
      intro t v9 v10 v11 N ht al0 lay hF gE gE' gB gB' gX gX'
      obtain ⟨sm', hsm⟩ : ∃ s, s = 4096 * (6 * 0 + t) := ⟨_, rfl⟩
      have es : (4096 : Int) * ((6 * (1 - 1)) + (t : Int)) = (sm' : Int) := by omega
      obtain ⟨j1, hj1⟩ : ∃ j, j = sm' + K1 := ⟨_, rfl⟩
      obtain ⟨j2, hj2⟩ : ∃ j, j = sm' + K2 := ⟨_, rfl⟩
      obtain ⟨j0, hj0⟩ : ∃ j, j = sm' + K := ⟨_, rfl⟩
      have ej1 : (sm' : Int) + (K1 : Int) = (j1 : Int) := by omega
      have ej2 : (sm' : Int) + (K2 : Int) = (j2 : Int) := by omega
      have ej0 : (sm' : Int) + (K : Int) = (j0 : Int) := by omega
      have r1 : pm_ct N 143 j1 = (X1 (6 * 0 + t) : Int) := by rw [hj1, hsm, gX' K1 _ hK1 n1]; exact hX1 _ (by omega)
      have r2 : pm_ct N 143 j2 = (X2 (6 * 0 + t) : Int) := by rw [hj2, hsm, gX' K2 _ hK2 n2]; exact hX2 _ (by omega)
      have r0 : pm_ct N 143 j0 = (pT its 0 X X1 X2 t (6 * 0 + t) : Int) := by rw [hj0, hsm]; exact gX _ (by omega)
      have x1 := d1.2.2 (6 * 0 + t)
      have x2 := d2.2.2 (6 * 0 + t)
      have x0 := d0.2.2 (6 * 0 + t)
      have pt0 : pT its 0 X X1 X2 t (6 * 0 + t) ≤ 1000400 := by rw [pT_old (by omega) (by omega)]; exact x0
      obtain ⟨y1, hy1⟩ : ∃ y, y = X1 (6 * 0 + t) := ⟨_, rfl⟩
      obtain ⟨y2, hy2⟩ : ∃ y, y = X2 (6 * 0 + t) := ⟨_, rfl⟩
      obtain ⟨y0, hy0⟩ : ∃ y, y = pT its 0 X X1 X2 t (6 * 0 + t) := ⟨_, rfl⟩
      rw [← hy1] at r1 x1
      rw [← hy2] at r2 x2
      rw [← hy0] at r0 pt0
      have p0 : y0 = X (6 * 0 + t) := by rw [hy0]; exact pT_old (by omega) (by omega)
      obtain ⟨v, hv⟩ : ∃ v, v = pV its 0 X1 X2 t := ⟨_, rfl⟩
      have hv2 : v = min 1000000 (its + max y1 y2) := by rw [hv, hy1, hy2]; rfl
      have ev : min (1000000 : Int) ((its : Int) + max (y1 : Int) (y2 : Int)) = (v : Int) := by omega
      -- the second place
      obtain ⟨N1, hN1⟩ : ∃ N1, N1 = Mu [(143, pm_upd (pm_ct N 143) j0 (min (y0 : Int) (v : Int)))] N := ⟨_, rfl⟩
      have F1 : Fr [143] N N1 := by rw [hN1]; exact Fr.mu _ _ rfl
      have c1 : pm_ct N1 143 = pm_upd (pm_ct N 143) j0 (min (y0 : Int) (v : Int)) := by rw [hN1, Mu_ct]; rfl
      have base : ∀ (N2 : pm_M) (z9 z10 : Int) (v11 : pm_V), Lay N2 → Fr [143] N N2 → (∀ i, i < 12 → pm_ct N2 143 (4096 * i + K) = (pT its 0 X X1 X2 (t + 1) i : Int)) → (∀ J i, J < 4096 → J ≠ K → pm_ct N2 143 (4096 * i + J) = pm_ct N 143 (4096 * i + J)) → Wp (d + 1) 237 223 [(2, ((116 : Nat) : Int)), (0, (K : Int)), (0, 1), (0, (K1 : Int)), (0, (K2 : Int)), (0, (asked : Int)), (0, (al : Int)), (0, (its : Int)), (0, ((t + 1 : Nat) : Int)), (0, z9), (0, z10), v11] [] N2 mc ms Q := by
        intro N2 z9 z10 v11 lay2 F2 g1 g2
        exact ih (t + 1) (0, z9) (0, z10) v11 N2 (by omega) al0 lay2 (hF.trans (F2.mono (fun a q => by simp at q; simp [q]))) (fun b hb => by rw [F2.ct (by decide)]; exact gE b hb) (fun J b q1 q2 => by rw [F2.ct (by decide)]; exact gE' J b q1 q2) (fun h hh => by rw [F2.ct (by decide)]; exact gB h hh) (fun J h q1 q2 => by rw [F2.ct (by decide)]; exact gB' J h q1 q2) g1 (fun J i q1 q2 => by rw [g2 J i q1 q2]; exact gX' J i q1 q2)
      have k301 : ∀ z9 z10 : Int, z10 = (v : Int) → Lay N1 → Wp (d + 1) 237 301 [(2, ((116 : Nat) : Int)), (0, (K : Int)), (0, 1), (0, (K1 : Int)), (0, (K2 : Int)), (0, (asked : Int)), (0, (al : Int)), (0, (its : Int)), (0, (t : Int)), (0, z9), (0, z10), v11] [] N1 mc ms Q := by
        intro z9 z10 hz10 lay1
        rw [hz10]
        obtain ⟨ch, hch⟩ : ∃ s, s = 4096 * (6 * (1 - 0) + t + 1) := ⟨_, rfl⟩
        have ec : (4096 : Int) * (((6 * (2 - 1)) + (t : Int)) + 1) = (ch : Int) := by omega
        obtain ⟨jc, hjc⟩ : ∃ j, j = ch + K := ⟨_, rfl⟩
        have ejc : (ch : Int) + (K : Int) = (jc : Int) := by omega
        by_cases t5 : t + 1 < 6
        · have rc : pm_ct N1 143 jc = (pT its 0 X X1 X2 t (6 * (1 - 0) + t + 1) : Int) := by
            rw [c1, pm_upd_ne (by omega), hjc, hch]; exact gX _ (by omega)
          have xc := d0.2.2 (6 * (1 - 0) + t + 1)
          have ptc : pT its 0 X X1 X2 t (6 * (1 - 0) + t + 1) = X (6 * (1 - 0) + t + 1) := pT_cho (by omega) t5
          rw [ptc] at rc
          obtain ⟨yc, hyc⟩ : ∃ y, y = X (6 * (1 - 0) + t + 1) := ⟨_, rfl⟩
          rw [← hyc] at rc xc
          refine g_iload lk_237_301 rfl ?_
          refine g_iconst lk_237_303 ?_
          refine g_iadd lk_237_304 ?_
          refine g_bipush lk_237_305 ?_
          refine g_icmp (t := 350) lk_237_307 rfl (by first | (unfold pm_inI; omega) | exact pm_and_in _ _ | exact pm_shr_in _ _ | exact pm_or_in _ _ | exact pm_xor_in _ _ | exact pm_shl_in _ _ | exact pm_cmp_in _ _ | exact pm_b8_in _ | (unfold pm_inI; split <;> omega)) (by first | (unfold pm_inI; omega) | exact pm_and_in _ _ | exact pm_shr_in _ _ | exact pm_or_in _ _ | exact pm_xor_in _ _ | exact pm_shl_in _ _ | exact pm_cmp_in _ _ | exact pm_b8_in _ | (unfold pm_inI; split <;> omega)) (fun h1 => ?_) (fun h1 => ?_)
          · replace h1 : 6 ≤ ((t : Int) + 1) := h1
            omega
          · replace h1 : ¬ (6 ≤ ((t : Int) + 1)) := h1
            refine g_sipush lk_237_310 ?_
            refine g_bipush lk_237_313 ?_
            refine g_iconst lk_237_315 ?_
            refine g_iload_n lk_237_316 rfl ?_
            refine g_isub lk_237_317 ?_
            refine g_imul lk_237_318 ?_
            refine g_iload lk_237_319 rfl ?_
            refine g_iadd lk_237_321 ?_
            refine g_iconst lk_237_322 ?_
            refine g_iadd lk_237_323 ?_
            refine g_imul lk_237_324 ?_
            refine g_top (z := (4096 * (((6 * (2 - 1)) + (t : Int)) + 1))) (z' := (ch : Int)) (ec) ?_
            refine g_istore (ls' := [(2, ((116 : Nat) : Int)), (0, (K : Int)), (0, 1), (0, (K1 : Int)), (0, (K2 : Int)), (0, (asked : Int)), (0, (al : Int)), (0, (its : Int)), (0, (t : Int)), (0, z9), (0, (v : Int)), (0, (ch : Int))]) lk_237_325 rfl rfl ?_
            refine g_aload_n lk_237_327 rfl ?_
            refine g_getfield lk_237_328 rfl (lay1.on (by decide) rfl) (v := ((143 : Nat) : Int)) (lay1.rf rfl) ?_
            refine g_iload lk_237_331 rfl ?_
            refine g_iload_n lk_237_333 rfl ?_
            refine g_iadd lk_237_334 ?_
            refine g_top (z := ((ch : Int) + (K : Int))) (z' := (jc : Int)) (ejc) ?_
            refine g_aload_n lk_237_335 rfl ?_
            refine g_getfield lk_237_336 rfl (lay1.on (by decide) rfl) (v := ((143 : Nat) : Int)) (lay1.rf rfl) ?_
            refine g_iload lk_237_339 rfl ?_
            refine g_iload_n lk_237_341 rfl ?_
            refine g_iadd lk_237_342 ?_
            refine g_top (z := ((ch : Int) + (K : Int))) (z' := (jc : Int)) (ejc) ?_
            refine m_iaload (u := []) (M := N1) lk_237_343 (lay1.ay (by decide) rfl) (by omega) (j := jc) (by omega) (v := (yc : Int)) rc ?_
            refine g_iload lk_237_344 rfl ?_
            refine g_static (Qc := _) lk_237_346 (by decide) rfl (Nat.le_of_ble_eq_true rfl) rfl rfl (Nat.le_of_ble_eq_true rfl) (Nat.le_of_ble_eq_true rfl) (Nat.zero_le _) (Nat.zero_le _) (c_Mo_lesser (by unfold pm_inI; omega) (by unfold pm_inI; omega)) ?_
            rintro _ N2 ⟨rfl, hN2⟩
            rw [hN2]
            show Wp _ 237 349 [(2, ((116 : Nat) : Int)), (0, (K : Int)), (0, 1), (0, (K1 : Int)), (0, (K2 : Int)), (0, (asked : Int)), (0, (al : Int)), (0, (its : Int)), (0, (t : Int)), (0, z9), (0, (v : Int)), (0, (ch : Int))] [(0, (min (yc : Int) (v : Int))), (0, (jc : Int)), (2, ((143 : Nat) : Int))] N1 _ _ _
            have lay3 : Lay (Mu [(143, pm_upd (pm_ct N1 143) jc (min (yc : Int) (v : Int)))] N1) := lay1.muA (l := []) (a := 143) (f := pm_upd (pm_ct N1 143) jc (min (yc : Int) (v : Int))) rfl rfl
            refine m_iastore (u := []) (u' := [(143, pm_upd (pm_ct N1 143) jc (min (yc : Int) (v : Int)))]) (M := N1) lk_237_349 (lay1.ay (by decide) rfl) (by omega) (j := jc) (by omega) rfl ?_
            refine g_iinc (ls' := [(2, ((116 : Nat) : Int)), (0, (K : Int)), (0, 1), (0, (K1 : Int)), (0, (K2 : Int)), (0, (asked : Int)), (0, (al : Int)), (0, (its : Int)), (0, (t : Int) + 1), (0, z9), (0, (v : Int)), (0, (ch : Int))]) lk_237_350 rfl rfl rfl ?_
            refine g_goto (t := 223) lk_237_353 rfl ?_
            have F2 : Fr [143] N (Mu [(143, pm_upd (pm_ct N1 143) jc (min (yc : Int) (v : Int)))] N1) := F1.trans (Fr.mu _ _ rfl)
            have c2 : pm_ct (Mu [(143, pm_upd (pm_ct N1 143) jc (min (yc : Int) (v : Int)))] N1) 143 = pm_upd (pm_upd (pm_ct N 143) j0 (min (y0 : Int) (v : Int))) jc (min (yc : Int) (v : Int)) := by rw [Mu_ct]; show pm_upd (pm_ct N1 143) jc _ = _; rw [c1]
            refine base _ _ _ _ lay3 F2 (fun i hi => ?_) (fun J i q1 q2 => ?_)
            · rw [c2]
              by_cases e1 : i = 6 * (1 - 0) + t + 1
              · rw [e1, show 4096 * (6 * (1 - 0) + t + 1) + K = jc by omega, pm_upd_eq, pT_chg (by omega) t5, ← hyc, ← hv]; omega
              · by_cases e2 : i = 6 * 0 + t
                · rw [e2, show 4096 * (6 * 0 + t) + K = j0 by omega, pm_upd_ne (by omega), pm_upd_eq, pT_own, ← p0, ← hv]; omega
                · rw [pm_upd_ne (by omega), pm_upd_ne (by omega), gX i hi, pT_same (by omega) e2 (Or.inl e1)]
            · rw [c2, pm_upd_ne (by omega), pm_upd_ne (by omega)]
        · skip
          refine g_iload lk_237_301 rfl ?_
          refine g_iconst lk_237_303 ?_
          refine g_iadd lk_237_304 ?_
          refine g_bipush lk_237_305 ?_
          refine g_icmp (t := 350) lk_237_307 rfl (by first | (unfold pm_inI; omega) | exact pm_and_in _ _ | exact pm_shr_in _ _ | exact pm_or_in _ _ | exact pm_xor_in _ _ | exact pm_shl_in _ _ | exact pm_cmp_in _ _ | exact pm_b8_in _ | (unfold pm_inI; split <;> omega)) (by first | (unfold pm_inI; omega) | exact pm_and_in _ _ | exact pm_shr_in _ _ | exact pm_or_in _ _ | exact pm_xor_in _ _ | exact pm_shl_in _ _ | exact pm_cmp_in _ _ | exact pm_b8_in _ | (unfold pm_inI; split <;> omega)) (fun h1 => ?_) (fun h1 => ?_)
          · replace h1 : 6 ≤ ((t : Int) + 1) := h1
            refine g_iinc (ls' := [(2, ((116 : Nat) : Int)), (0, (K : Int)), (0, 1), (0, (K1 : Int)), (0, (K2 : Int)), (0, (asked : Int)), (0, (al : Int)), (0, (its : Int)), (0, ((t : Int) + 1)), (0, z9), (0, (v : Int)), v11]) lk_237_350 rfl rfl rfl ?_
            refine g_goto (t := 223) lk_237_353 rfl ?_
            refine base N1 _ _ _ lay1 F1 (fun i hi => ?_) (fun J i q1 q2 => ?_)
            · rw [c1]
              by_cases e2 : i = 6 * 0 + t
              · rw [e2, show 4096 * (6 * 0 + t) + K = j0 by omega, pm_upd_eq, pT_own, ← p0, ← hv]; omega
              · rw [pm_upd_ne (by omega), gX i hi, pT_same (by omega) e2 (Or.inr (by omega))]
            · rw [c1, pm_upd_ne (by omega)]
          · replace h1 : ¬ (6 ≤ ((t : Int) + 1)) := h1
            omega
      refine g_iload lk_237_223 rfl ?_
      refine g_bipush lk_237_225 ?_
      refine g_icmp (t := 356) lk_237_227 rfl (by first | (unfold pm_inI; omega) | exact pm_and_in _ _ | exact pm_shr_in _ _ | exact pm_or_in _ _ | exact pm_xor_in _ _ | exact pm_shl_in _ _ | exact pm_cmp_in _ _ | exact pm_b8_in _ | (unfold pm_inI; split <;> omega)) (by first | (unfold pm_inI; omega) | exact pm_and_in _ _ | exact pm_shr_in _ _ | exact pm_or_in _ _ | exact pm_xor_in _ _ | exact pm_shl_in _ _ | exact pm_cmp_in _ _ | exact pm_b8_in _ | (unfold pm_inI; split <;> omega)) (fun h1 => ?_) (fun h1 => ?_)
      · replace h1 : 6 ≤ (t : Int) := h1
        refine g_return lk_237_356 ?_
        omega
      · replace h1 : ¬ (6 ≤ (t : Int)) := h1
        refine g_sipush lk_237_230 ?_
        refine g_bipush lk_237_233 ?_
        refine g_iload_n lk_237_235 rfl ?_
        refine g_iconst lk_237_236 ?_
        refine g_isub lk_237_237 ?_
        refine g_imul lk_237_238 ?_
        refine g_iload lk_237_239 rfl ?_
        refine g_iadd lk_237_241 ?_
        refine g_imul lk_237_242 ?_
        refine g_top (z := (4096 * ((6 * (1 - 1)) + (t : Int)))) (z' := (sm' : Int)) (es) ?_
        refine g_istore (ls' := [(2, ((116 : Nat) : Int)), (0, (K : Int)), (0, 1), (0, (K1 : Int)), (0, (K2 : Int)), (0, (asked : Int)), (0, (al : Int)), (0, (its : Int)), (0, (t : Int)), (0, (sm' : Int)), v10, v11]) lk_237_243 rfl rfl ?_
        refine g_ldc_w lk_237_245 ?_
        refine g_iload lk_237_248 rfl ?_
        refine g_aload_n lk_237_250 rfl ?_
        refine g_getfield lk_237_251 rfl (lay.on (by decide) rfl) (v := ((143 : Nat) : Int)) (lay.rf rfl) ?_
        refine g_iload lk_237_254 rfl ?_
        refine g_iload_n lk_237_256 rfl ?_
        refine g_iadd lk_237_257 ?_
        refine g_top (z := ((sm' : Int) + (K1 : Int))) (z' := (j1 : Int)) (ej1) ?_
        refine m_iaload (u := []) (M := N) lk_237_258 (lay.ay (by decide) rfl) (by omega) (j := j1) (by omega) (v := (y1 : Int)) r1 ?_
        refine g_aload_n lk_237_259 rfl ?_
        refine g_getfield lk_237_260 rfl (lay.on (by decide) rfl) (v := ((143 : Nat) : Int)) (lay.rf rfl) ?_
        refine g_iload lk_237_263 rfl ?_
        refine g_iload lk_237_265 rfl ?_
        refine g_iadd lk_237_267 ?_
        refine g_top (z := ((sm' : Int) + (K2 : Int))) (z' := (j2 : Int)) (ej2) ?_
        refine m_iaload (u := []) (M := N) lk_237_268 (lay.ay (by decide) rfl) (by omega) (j := j2) (by omega) (v := (y2 : Int)) r2 ?_
        refine g_static (Qc := _) lk_237_269 (by decide) rfl (Nat.le_of_ble_eq_true rfl) rfl rfl (Nat.le_of_ble_eq_true rfl) (Nat.le_of_ble_eq_true rfl) (Nat.zero_le _) (Nat.zero_le _) (c_Mo_greater (by unfold pm_inI; omega) (by unfold pm_inI; omega)) ?_
        rintro _ N2 ⟨rfl, hN2⟩
        rw [hN2]
        show Wp _ 237 272 [(2, ((116 : Nat) : Int)), (0, (K : Int)), (0, 1), (0, (K1 : Int)), (0, (K2 : Int)), (0, (asked : Int)), (0, (al : Int)), (0, (its : Int)), (0, (t : Int)), (0, (sm' : Int)), v10, v11] [(0, (max (y1 : Int) (y2 : Int))), (0, (its : Int)), (0, 1000000)] N _ _ _
        refine g_iadd lk_237_272 ?_
        refine g_static (Qc := _) lk_237_273 (by decide) rfl (Nat.le_of_ble_eq_true rfl) rfl rfl (Nat.le_of_ble_eq_true rfl) (Nat.le_of_ble_eq_true rfl) (Nat.zero_le _) (Nat.zero_le _) (c_Mo_lesser (by unfold pm_inI; omega) (by unfold pm_inI; omega)) ?_
        rintro _ N3 ⟨rfl, hN3⟩
        rw [hN3]
        show Wp _ 237 276 [(2, ((116 : Nat) : Int)), (0, (K : Int)), (0, 1), (0, (K1 : Int)), (0, (K2 : Int)), (0, (asked : Int)), (0, (al : Int)), (0, (its : Int)), (0, (t : Int)), (0, (sm' : Int)), v10, v11] [(0, (min 1000000 ((its : Int) + (max (y1 : Int) (y2 : Int)))))] N _ _ _
        refine g_top (z := (min 1000000 ((its : Int) + (max (y1 : Int) (y2 : Int))))) (z' := (v : Int)) (ev) ?_
        refine g_istore (ls' := [(2, ((116 : Nat) : Int)), (0, (K : Int)), (0, 1), (0, (K1 : Int)), (0, (K2 : Int)), (0, (asked : Int)), (0, (al : Int)), (0, (its : Int)), (0, (t : Int)), (0, (sm' : Int)), (0, (v : Int)), v11]) lk_237_276 rfl rfl ?_
        refine g_aload_n lk_237_278 rfl ?_
        refine g_getfield lk_237_279 rfl (lay.on (by decide) rfl) (v := ((143 : Nat) : Int)) (lay.rf rfl) ?_
        refine g_iload lk_237_282 rfl ?_
        refine g_iload_n lk_237_284 rfl ?_
        refine g_iadd lk_237_285 ?_
        refine g_top (z := ((sm' : Int) + (K : Int))) (z' := (j0 : Int)) (ej0) ?_
        refine g_aload_n lk_237_286 rfl ?_
        refine g_getfield lk_237_287 rfl (lay.on (by decide) rfl) (v := ((143 : Nat) : Int)) (lay.rf rfl) ?_
        refine g_iload lk_237_290 rfl ?_
        refine g_iload_n lk_237_292 rfl ?_
        refine g_iadd lk_237_293 ?_
        refine g_top (z := ((sm' : Int) + (K : Int))) (z' := (j0 : Int)) (ej0) ?_
        refine m_iaload (u := []) (M := N) lk_237_294 (lay.ay (by decide) rfl) (by omega) (j := j0) (by omega) (v := (y0 : Int)) r0 ?_
        refine g_iload lk_237_295 rfl ?_
        refine g_static (Qc := _) lk_237_297 (by decide) rfl (Nat.le_of_ble_eq_true rfl) rfl rfl (Nat.le_of_ble_eq_true rfl) (Nat.le_of_ble_eq_true rfl) (Nat.zero_le _) (Nat.zero_le _) (c_Mo_lesser (by unfold pm_inI; omega) (by unfold pm_inI; omega)) ?_
        rintro _ N4 ⟨rfl, hN4⟩
        rw [hN4]
        show Wp _ 237 300 [(2, ((116 : Nat) : Int)), (0, (K : Int)), (0, 1), (0, (K1 : Int)), (0, (K2 : Int)), (0, (asked : Int)), (0, (al : Int)), (0, (its : Int)), (0, (t : Int)), (0, (sm' : Int)), (0, (v : Int)), v11] [(0, (min (y0 : Int) (v : Int))), (0, (j0 : Int)), (2, ((143 : Nat) : Int))] N _ _ _
        have lay5 : Lay (Mu [(143, pm_upd (pm_ct N 143) j0 (min (y0 : Int) (v : Int)))] N) := lay.muA (l := []) (a := 143) (f := pm_upd (pm_ct N 143) j0 (min (y0 : Int) (v : Int))) rfl rfl
        refine m_iastore (u := []) (u' := [(143, pm_upd (pm_ct N 143) j0 (min (y0 : Int) (v : Int)))]) (M := N) lk_237_300 (lay.ay (by decide) rfl) (by omega) (j := j0) (by omega) rfl ?_
        rw [hN1] at k301
        exact k301 _ _ rfl lay5
  -- what trees are worth
  have worth : ∀ (v8 v9 v10 v11 : pm_V) (N : pm_M), al = 0 → Lay N → Fr [142, 143, 144] M N → (∀ b, b < 21 → pm_ct N 144 (21 * K + b) = (pE its E E1 E2 b : Int)) → (∀ J b, J ≠ K → b < 21 → pm_ct N 144 (21 * J + b) = pm_ct M 144 (21 * J + b)) → pm_ct N 142 = pm_ct M 142 → pm_ct N 143 = pm_ct M 143 → Wp (d + 1) 237 90 [(2, ((116 : Nat) : Int)), (0, (K : Int)), (0, 1), (0, (K1 : Int)), (0, (K2 : Int)), (0, (asked : Int)), (0, (al : Int)), (0, (its : Int)), v8, (9, 0), (9, 0), (9, 0)] [] N mc ms Q := by
    intro v8 v9 v10 v11 N al0 lay hF gE gE' q142 q143
    have rB0 : pm_ct M 142 K = (B 0 : Int) := by have := hB 0 (by omega); rw [Nat.mul_zero, Nat.zero_add] at this; exact this
    have rB1 : pm_ct M 142 (4096 + K) = (B 1 : Int) := by have := hB 1 (by omega); rw [Nat.mul_one] at this; exact this
    have rB2 : pm_ct M 142 (8192 + K) = (B 2 : Int) := hB 2 (by omega)
    have rC0 : pm_ct M 142 K1 = (B1 0 : Int) := by have := hB1 0 (by omega); rw [Nat.mul_zero, Nat.zero_add] at this; exact this
    have rC1 : pm_ct M 142 (4096 + K1) = (B1 1 : Int) := by have := hB1 1 (by omega); rw [Nat.mul_one] at this; exact this
    have rC2 : pm_ct M 142 (8192 + K1) = (B1 2 : Int) := hB1 2 (by omega)
    have rD0 : pm_ct M 142 K2 = (B2 0 : Int) := by have := hB2 0 (by omega); rw [Nat.mul_zero, Nat.zero_add] at this; exact this
    have rD1 : pm_ct M 142 (4096 + K2) = (B2 1 : Int) := by have := hB2 1 (by omega); rw [Nat.mul_one] at this; exact this
    have rD2 : pm_ct M 142 (8192 + K2) = (B2 2 : Int) := hB2 2 (by omega)
    obtain ⟨p0, hp0⟩ : ∃ p, p = pB its asked B B1 B2 0 := ⟨_, rfl⟩
    obtain ⟨p1, hp1⟩ : ∃ p, p = pB its asked B B1 B2 1 := ⟨_, rfl⟩
    obtain ⟨p2, hp2⟩ : ∃ p, p = pB its asked B B1 B2 2 := ⟨_, rfl⟩
    have e0' : p0 = min (B 0) (its + max (B1 0) (B2 0)) := hp0
    have e1' : p1 = min (B 1) (B1 1 + B2 1) := hp1
    have e2' : p2 = min (B 2) (its * asked + B1 2 + B2 2) := hp2
    have ia : its * asked ≤ 9 * 36 := Nat.mul_le_mul i9 ha
    obtain ⟨pr, hpr⟩ : ∃ pr, pr = its * asked := ⟨_, rfl⟩
    have epr : (its : Int) * (asked : Int) = (pr : Int) := by rw [hpr]; exact (Int.natCast_mul _ _).symm
    rw [← hpr] at e2' ia
    have b00 := d0.2.1 0
    have b01 := d0.2.1 1
    have b02 := d0.2.1 2
    have b10 := d1.2.1 0
    have b11 := d1.2.1 1
    have b12 := d1.2.1 2
    have b20 := d2.2.1 0
    have b21 := d2.2.1 1
    have b22 := d2.2.1 2
    obtain ⟨x00, h00⟩ : ∃ x, x = B 0 := ⟨_, rfl⟩
    obtain ⟨x01, h01⟩ : ∃ x, x = B 1 := ⟨_, rfl⟩
    obtain ⟨x02, h02⟩ : ∃ x, x = B 2 := ⟨_, rfl⟩
    obtain ⟨x10, h10⟩ : ∃ x, x = B1 0 := ⟨_, rfl⟩
    obtain ⟨x11, h11⟩ : ∃ x, x = B1 1 := ⟨_, rfl⟩
    obtain ⟨x12, h12⟩ : ∃ x, x = B1 2 := ⟨_, rfl⟩
    obtain ⟨x20, h20⟩ : ∃ x, x = B2 0 := ⟨_, rfl⟩
    obtain ⟨x21, h21⟩ : ∃ x, x = B2 1 := ⟨_, rfl⟩
    obtain ⟨x22, h22⟩ : ∃ x, x = B2 2 := ⟨_, rfl⟩
    rw [← h00] at rB0 b00 e0'
    rw [← h01] at rB1 b01 e1'
    rw [← h02] at rB2 b02 e2'
    rw [← h10] at rC0 b10 e0'
    rw [← h11] at rC1 b11 e1'
    rw [← h12] at rC2 b12 e2'
    rw [← h20] at rD0 b20 e0'
    rw [← h21] at rD1 b21 e1'
    rw [← h22] at rD2 b22 e2'
    obtain ⟨k1, hk1⟩ : ∃ k, k = 4096 + K := ⟨_, rfl⟩
    obtain ⟨k2, hk2⟩ : ∃ k, k = 8192 + K := ⟨_, rfl⟩
    obtain ⟨m1, hm1⟩ : ∃ k, k = 4096 + K1 := ⟨_, rfl⟩
    obtain ⟨m2, hm2⟩ : ∃ k, k = 8192 + K1 := ⟨_, rfl⟩
    obtain ⟨o1, ho1⟩ : ∃ k, k = 4096 + K2 := ⟨_, rfl⟩
    obtain ⟨o2, ho2⟩ : ∃ k, k = 8192 + K2 := ⟨_, rfl⟩
    rw [← hk1] at rB1
    rw [← hk2] at rB2
    rw [← hm1] at rC1
    rw [← hm2] at rC2
    rw [← ho1] at rD1
    rw [← ho2] at rD2
    have s220 : ∀ (N' : pm_M) (v8 : pm_V), Lay N' → Fr [142] N N' → pm_ct N' 142 = pm_upd (pm_upd (pm_upd (pm_ct M 142) K (p0 : Int)) k1 (p1 : Int)) k2 (p2 : Int) → Wp (d + 1) 237 220 [(2, ((116 : Nat) : Int)), (0, (K : Int)), (0, 1), (0, (K1 : Int)), (0, (K2 : Int)), (0, (asked : Int)), (0, (al : Int)), (0, (its : Int)), v8, (9, 0), (9, 0), (9, 0)] [] N' mc ms Q := by
      intro N' v8 lay' F' c'
      refine g_iconst lk_237_220 ?_
      refine g_istore (ls' := [(2, ((116 : Nat) : Int)), (0, (K : Int)), (0, 1), (0, (K1 : Int)), (0, (K2 : Int)), (0, (asked : Int)), (0, (al : Int)), (0, (its : Int)), (0, 0), (9, 0), (9, 0), (9, 0)]) lk_237_221 rfl rfl ?_
      refine talk 6 0 _ _ _ N' rfl al0 lay' (hF.trans (F'.mono (fun a q => by simp at q; simp [q]))) (fun b hb => by rw [F'.ct (by decide)]; exact gE b hb) (fun J b j1 j2 => by rw [F'.ct (by decide)]; exact gE' J b j1 j2) (fun h hh => ?_) (fun J h j1 j2 => ?_) (fun i hi => ?_) (fun J i j1 j2 => by rw [F'.ct (by decide), q143])
      · rw [c']
        rcases (by omega : h = 0 ∨ h = 1 ∨ h = 2) with e | e | e
        · rw [e, pm_upd_ne (by omega), pm_upd_ne (by omega), Nat.mul_zero, Nat.zero_add, pm_upd_eq, hp0]
        · rw [e, pm_upd_ne (by omega), show 4096 * 1 + K = k1 by omega, pm_upd_eq, hp1]
        · rw [e, show 4096 * 2 + K = k2 by omega, pm_upd_eq, hp2]
      · rw [c', pm_upd_ne (by omega), pm_upd_ne (by omega), pm_upd_ne (by omega)]
      · rw [F'.ct (by decide), q143, hX i hi]
        congr 1
        unfold pT
        rw [if_neg (by omega), if_neg (by omega)]
    have s169 : ∀ (N' : pm_M) (v8 : pm_V), Lay N' → Fr [142] N N' → pm_ct N' 142 = pm_upd (pm_upd (pm_ct M 142) K (p0 : Int)) k1 (p1 : Int) → Wp (d + 1) 237 169 [(2, ((116 : Nat) : Int)), (0, (K : Int)), (0, 1), (0, (K1 : Int)), (0, (K2 : Int)), (0, (asked : Int)), (0, (al : Int)), (0, (its : Int)), v8, (9, 0), (9, 0), (9, 0)] [] N' mc ms Q := by
      intro N' v8 lay' F' c'
      have z0 : pm_ct N' 142 k2 = (x02 : Int) := by rw [c', pm_upd_ne (by omega), pm_upd_ne (by omega)]; exact rB2
      have z1 : pm_ct N' 142 m2 = (x12 : Int) := by rw [c', pm_upd_ne (by omega), pm_upd_ne (by omega)]; exact rC2
      have z2 : pm_ct N' 142 o2 = (x22 : Int) := by rw [c', pm_upd_ne (by omega), pm_upd_ne (by omega)]; exact rD2
      have t1 : (8192 : Int) + (K : Int) = (k2 : Int) := by omega
      have t2 : (8192 : Int) + (K1 : Int) = (m2 : Int) := by omega
      have t3 : (8192 : Int) + (K2 : Int) = (o2 : Int) := by omega
      have t4 : min (x02 : Int) (((pr : Int) + (x12 : Int)) + (x22 : Int)) = (p2 : Int) := by omega
      refine g_aload_n lk_237_169 rfl ?_
      refine g_getfield lk_237_170 rfl (lay'.on (by decide) rfl) (v := ((142 : Nat) : Int)) (lay'.rf rfl) ?_
      refine g_sipush lk_237_173 ?_
      refine g_iload_n lk_237_176 rfl ?_
      refine g_iadd lk_237_177 ?_
      refine g_top (z := (8192 + (K : Int))) (z' := (k2 : Int)) (t1) ?_
      refine g_aload_n lk_237_178 rfl ?_
      refine g_getfield lk_237_179 rfl (lay'.on (by decide) rfl) (v := ((142 : Nat) : Int)) (lay'.rf rfl) ?_
      refine g_sipush lk_237_182 ?_
      refine g_iload_n lk_237_185 rfl ?_
      refine g_iadd lk_237_186 ?_
      refine g_top (z := (8192 + (K : Int))) (z' := (k2 : Int)) (t1) ?_
      refine m_iaload (u := []) (M := N') lk_237_187 (lay'.ay (by decide) rfl) (by omega) (j := k2) (by omega) (v := (x02 : Int)) z0 ?_
      refine g_iload lk_237_188 rfl ?_
      refine g_iload lk_237_190 rfl ?_
      refine g_imul lk_237_192 ?_
      refine g_top (z := ((its : Int) * (asked : Int))) (z' := (pr : Int)) (epr) ?_
      refine g_aload_n lk_237_193 rfl ?_
      refine g_getfield lk_237_194 rfl (lay'.on (by decide) rfl) (v := ((142 : Nat) : Int)) (lay'.rf rfl) ?_
      refine g_sipush lk_237_197 ?_
      refine g_iload_n lk_237_200 rfl ?_
      refine g_iadd lk_237_201 ?_
      refine g_top (z := (8192 + (K1 : Int))) (z' := (m2 : Int)) (t2) ?_
      refine m_iaload (u := []) (M := N') lk_237_202 (lay'.ay (by decide) rfl) (by omega) (j := m2) (by omega) (v := (x12 : Int)) z1 ?_
      refine g_iadd lk_237_203 ?_
      refine g_aload_n lk_237_204 rfl ?_
      refine g_getfield lk_237_205 rfl (lay'.on (by decide) rfl) (v := ((142 : Nat) : Int)) (lay'.rf rfl) ?_
      refine g_sipush lk_237_208 ?_
      refine g_iload lk_237_211 rfl ?_
      refine g_iadd lk_237_213 ?_
      refine g_top (z := (8192 + (K2 : Int))) (z' := (o2 : Int)) (t3) ?_
      refine m_iaload (u := []) (M := N') lk_237_214 (lay'.ay (by decide) rfl) (by omega) (j := o2) (by omega) (v := (x22 : Int)) z2 ?_
      refine g_iadd lk_237_215 ?_
      refine g_static (Qc := _) lk_237_216 (by decide) rfl (Nat.le_of_ble_eq_true rfl) rfl rfl (Nat.le_of_ble_eq_true rfl) (Nat.le_of_ble_eq_true rfl) (Nat.zero_le _) (Nat.zero_le _) (c_Mo_lesser (by unfold pm_inI; omega) (by unfold pm_inI; omega)) ?_
      rintro _ N1 ⟨rfl, hN1⟩
      rw [hN1]
      show Wp _ 237 219 [(2, ((116 : Nat) : Int)), (0, (K : Int)), (0, 1), (0, (K1 : Int)), (0, (K2 : Int)), (0, (asked : Int)), (0, (al : Int)), (0, (its : Int)), v8, (9, 0), (9, 0), (9, 0)] [(0, (min (x02 : Int) (((pr : Int) + (x12 : Int)) + (x22 : Int)))), (0, (k2 : Int)), (2, ((142 : Nat) : Int))] N' _ _ _
      refine g_top (z := (min (x02 : Int) (((pr : Int) + (x12 : Int)) + (x22 : Int)))) (z' := (p2 : Int)) (t4) ?_
      have lay2 : Lay (Mu [(142, pm_upd (pm_ct N' 142) k2 (p2 : Int))] N') := lay'.muA (l := []) (a := 142) (f := pm_upd (pm_ct N' 142) k2 (p2 : Int)) rfl rfl
      refine m_iastore (u := []) (u' := [(142, pm_upd (pm_ct N' 142) k2 (p2 : Int))]) (M := N') lk_237_219 (lay'.ay (by decide) rfl) (by omega) (j := k2) (by omega) rfl ?_
      exact s220 _ _ lay2 (F'.trans (Fr.mu _ _ rfl)) (by rw [Mu_ct]; show pm_upd (pm_ct N' 142) k2 _ = _; rw [c'])
    have s124 : ∀ (N' : pm_M) (v8 : pm_V), Lay N' → Fr [142] N N' → pm_ct N' 142 = pm_upd (pm_ct M 142) K (p0 : Int) → Wp (d + 1) 237 124 [(2, ((116 : Nat) : Int)), (0, (K : Int)), (0, 1), (0, (K1 : Int)), (0, (K2 : Int)), (0, (asked : Int)), (0, (al : Int)), (0, (its : Int)), v8, (9, 0), (9, 0), (9, 0)] [] N' mc ms Q := by
      intro N' v8 lay' F' c'
      have z0 : pm_ct N' 142 k1 = (x01 : Int) := by rw [c', pm_upd_ne (by omega)]; exact rB1
      have z1 : pm_ct N' 142 m1 = (x11 : Int) := by rw [c', pm_upd_ne (by omega)]; exact rC1
      have z2 : pm_ct N' 142 o1 = (x21 : Int) := by rw [c', pm_upd_ne (by omega)]; exact rD1
      have t1 : (4096 : Int) + (K : Int) = (k1 : Int) := by omega
      have t2 : (4096 : Int) + (K1 : Int) = (m1 : Int) := by omega
      have t3 : (4096 : Int) + (K2 : Int) = (o1 : Int) := by omega
      have t4 : min (x01 : Int) ((x11 : Int) + (x21 : Int)) = (p1 : Int) := by omega
      refine g_aload_n lk_237_124 rfl ?_
      refine g_getfield lk_237_125 rfl (lay'.on (by decide) rfl) (v := ((142 : Nat) : Int)) (lay'.rf rfl) ?_
      refine g_sipush lk_237_128 ?_
      refine g_iload_n lk_237_131 rfl ?_
      refine g_iadd lk_237_132 ?_
      refine g_top (z := (4096 + (K : Int))) (z' := (k1 : Int)) (t1) ?_
      refine g_aload_n lk_237_133 rfl ?_
      refine g_getfield lk_237_134 rfl (lay'.on (by decide) rfl) (v := ((142 : Nat) : Int)) (lay'.rf rfl) ?_
      refine g_sipush lk_237_137 ?_
      refine g_iload_n lk_237_140 rfl ?_
      refine g_iadd lk_237_141 ?_
      refine g_top (z := (4096 + (K : Int))) (z' := (k1 : Int)) (t1) ?_
      refine m_iaload (u := []) (M := N') lk_237_142 (lay'.ay (by decide) rfl) (by omega) (j := k1) (by omega) (v := (x01 : Int)) z0 ?_
      refine g_aload_n lk_237_143 rfl ?_
      refine g_getfield lk_237_144 rfl (lay'.on (by decide) rfl) (v := ((142 : Nat) : Int)) (lay'.rf rfl) ?_
      refine g_sipush lk_237_147 ?_
      refine g_iload_n lk_237_150 rfl ?_
      refine g_iadd lk_237_151 ?_
      refine g_top (z := (4096 + (K1 : Int))) (z' := (m1 : Int)) (t2) ?_
      refine m_iaload (u := []) (M := N') lk_237_152 (lay'.ay (by decide) rfl) (by omega) (j := m1) (by omega) (v := (x11 : Int)) z1 ?_
      refine g_aload_n lk_237_153 rfl ?_
      refine g_getfield lk_237_154 rfl (lay'.on (by decide) rfl) (v := ((142 : Nat) : Int)) (lay'.rf rfl) ?_
      refine g_sipush lk_237_157 ?_
      refine g_iload lk_237_160 rfl ?_
      refine g_iadd lk_237_162 ?_
      refine g_top (z := (4096 + (K2 : Int))) (z' := (o1 : Int)) (t3) ?_
      refine m_iaload (u := []) (M := N') lk_237_163 (lay'.ay (by decide) rfl) (by omega) (j := o1) (by omega) (v := (x21 : Int)) z2 ?_
      refine g_iadd lk_237_164 ?_
      refine g_static (Qc := _) lk_237_165 (by decide) rfl (Nat.le_of_ble_eq_true rfl) rfl rfl (Nat.le_of_ble_eq_true rfl) (Nat.le_of_ble_eq_true rfl) (Nat.zero_le _) (Nat.zero_le _) (c_Mo_lesser (by unfold pm_inI; omega) (by unfold pm_inI; omega)) ?_
      rintro _ N1 ⟨rfl, hN1⟩
      rw [hN1]
      show Wp _ 237 168 [(2, ((116 : Nat) : Int)), (0, (K : Int)), (0, 1), (0, (K1 : Int)), (0, (K2 : Int)), (0, (asked : Int)), (0, (al : Int)), (0, (its : Int)), v8, (9, 0), (9, 0), (9, 0)] [(0, (min (x01 : Int) ((x11 : Int) + (x21 : Int)))), (0, (k1 : Int)), (2, ((142 : Nat) : Int))] N' _ _ _
      refine g_top (z := (min (x01 : Int) ((x11 : Int) + (x21 : Int)))) (z' := (p1 : Int)) (t4) ?_
      have lay2 : Lay (Mu [(142, pm_upd (pm_ct N' 142) k1 (p1 : Int))] N') := lay'.muA (l := []) (a := 142) (f := pm_upd (pm_ct N' 142) k1 (p1 : Int)) rfl rfl
      refine m_iastore (u := []) (u' := [(142, pm_upd (pm_ct N' 142) k1 (p1 : Int))]) (M := N') lk_237_168 (lay'.ay (by decide) rfl) (by omega) (j := k1) (by omega) rfl ?_
      exact s169 _ _ lay2 (F'.trans (Fr.mu _ _ rfl)) (by rw [Mu_ct]; show pm_upd (pm_ct N' 142) k1 _ = _; rw [c'])
    have z0 : pm_ct N 142 K = (x00 : Int) := by rw [q142]; exact rB0
    have z1 : pm_ct N 142 K1 = (x10 : Int) := by rw [q142]; exact rC0
    have z2 : pm_ct N 142 K2 = (x20 : Int) := by rw [q142]; exact rD0
    have t4 : min (x00 : Int) ((its : Int) + max (x10 : Int) (x20 : Int)) = (p0 : Int) := by omega
    refine g_aload_n lk_237_90 rfl ?_
    refine g_getfield lk_237_91 rfl (lay.on (by decide) rfl) (v := ((142 : Nat) : Int)) (lay.rf rfl) ?_
    refine g_iload_n lk_237_94 rfl ?_
    refine g_aload_n lk_237_95 rfl ?_
    refine g_getfield lk_237_96 rfl (lay.on (by decide) rfl) (v := ((142 : Nat) : Int)) (lay.rf rfl) ?_
    refine g_iload_n lk_237_99 rfl ?_
    refine m_iaload (u := []) (M := N) lk_237_100 (lay.ay (by decide) rfl) (by omega) (j := K) (by omega) (v := (x00 : Int)) z0 ?_
    refine g_iload lk_237_101 rfl ?_
    refine g_aload_n lk_237_103 rfl ?_
    refine g_getfield lk_237_104 rfl (lay.on (by decide) rfl) (v := ((142 : Nat) : Int)) (lay.rf rfl) ?_
    refine g_iload_n lk_237_107 rfl ?_
    refine m_iaload (u := []) (M := N) lk_237_108 (lay.ay (by decide) rfl) (by omega) (j := K1) (by omega) (v := (x10 : Int)) z1 ?_
    refine g_aload_n lk_237_109 rfl ?_
    refine g_getfield lk_237_110 rfl (lay.on (by decide) rfl) (v := ((142 : Nat) : Int)) (lay.rf rfl) ?_
    refine g_iload lk_237_113 rfl ?_
    refine m_iaload (u := []) (M := N) lk_237_115 (lay.ay (by decide) rfl) (by omega) (j := K2) (by omega) (v := (x20 : Int)) z2 ?_
    refine g_static (Qc := _) lk_237_116 (by decide) rfl (Nat.le_of_ble_eq_true rfl) rfl rfl (Nat.le_of_ble_eq_true rfl) (Nat.le_of_ble_eq_true rfl) (Nat.zero_le _) (Nat.zero_le _) (c_Mo_greater (by unfold pm_inI; omega) (by unfold pm_inI; omega)) ?_
    rintro _ N1 ⟨rfl, hN1⟩
    rw [hN1]
    show Wp _ 237 119 [(2, ((116 : Nat) : Int)), (0, (K : Int)), (0, 1), (0, (K1 : Int)), (0, (K2 : Int)), (0, (asked : Int)), (0, (al : Int)), (0, (its : Int)), v8, (9, 0), (9, 0), (9, 0)] [(0, (max (x10 : Int) (x20 : Int))), (0, (its : Int)), (0, (x00 : Int)), (0, (K : Int)), (2, ((142 : Nat) : Int))] N _ _ _
    refine g_iadd lk_237_119 ?_
    refine g_static (Qc := _) lk_237_120 (by decide) rfl (Nat.le_of_ble_eq_true rfl) rfl rfl (Nat.le_of_ble_eq_true rfl) (Nat.le_of_ble_eq_true rfl) (Nat.zero_le _) (Nat.zero_le _) (c_Mo_lesser (by unfold pm_inI; omega) (by unfold pm_inI; omega)) ?_
    rintro _ N2 ⟨rfl, hN2⟩
    rw [hN2]
    show Wp _ 237 123 [(2, ((116 : Nat) : Int)), (0, (K : Int)), (0, 1), (0, (K1 : Int)), (0, (K2 : Int)), (0, (asked : Int)), (0, (al : Int)), (0, (its : Int)), v8, (9, 0), (9, 0), (9, 0)] [(0, (min (x00 : Int) ((its : Int) + (max (x10 : Int) (x20 : Int))))), (0, (K : Int)), (2, ((142 : Nat) : Int))] N _ _ _
    refine g_top (z := (min (x00 : Int) ((its : Int) + (max (x10 : Int) (x20 : Int))))) (z' := (p0 : Int)) (t4) ?_
    have lay3 : Lay (Mu [(142, pm_upd (pm_ct N 142) K (p0 : Int))] N) := lay.muA (l := []) (a := 142) (f := pm_upd (pm_ct N 142) K (p0 : Int)) rfl rfl
    refine m_iastore (u := []) (u' := [(142, pm_upd (pm_ct N 142) K (p0 : Int))]) (M := N) lk_237_123 (lay.ay (by decide) rfl) (by omega) (j := K) (by omega) rfl ?_
    exact s124 _ _ lay3 (Fr.mu _ _ rfl) (by rw [Mu_ct]; show pm_upd (pm_ct N 142) K _ = _; rw [q142])
  -- cells told wrong, by budgets
  have errs : ∀ (m b : Nat) (N : pm_M), b + m = 21 → its ≤ b → Lay N → Fr [144] M N → (∀ e, e < 21 → pm_ct N 144 (21 * K + e) = (pEn its E E1 E2 b e : Int)) → (∀ J e, J ≠ K → e < 21 → pm_ct N 144 (21 * J + e) = pm_ct M 144 (21 * J + e)) → Wp (d + 1) 237 12 [(2, ((116 : Nat) : Int)), (0, (K : Int)), (0, 1), (0, (K1 : Int)), (0, (K2 : Int)), (0, (asked : Int)), (0, (al : Int)), (0, (its : Int)), (0, (b : Int)), (9, 0), (9, 0), (9, 0)] [] N mc ms Q := by
    intro m
    induction m with
    | zero =>
      intro b N hb ib lay hF gE gE'
      have gE2 : ∀ e, e < 21 → pm_ct N 144 (21 * K + e) = (pE its E E1 E2 e : Int) := fun e he => by
        rw [gE e he]
        congr 1
        unfold pEn pE
        by_cases q : its ≤ e
        · rw [if_pos (by omega), if_pos q]
        · rw [if_neg (by omega), if_neg q]
      have F3 : Fr [142, 143, 144] M N := hF.mono (fun a q => by simp at q; simp [q])
      refine g_iload lk_237_12 rfl ?_
      refine g_bipush lk_237_14 ?_
      refine g_icmp (t := 84) lk_237_16 rfl (by first | (unfold pm_inI; omega) | exact pm_and_in _ _ | exact pm_shr_in _ _ | exact pm_or_in _ _ | exact pm_xor_in _ _ | exact pm_shl_in _ _ | exact pm_cmp_in _ _ | exact pm_b8_in _ | (unfold pm_inI; split <;> omega)) (by first | (unfold pm_inI; omega) | exact pm_and_in _ _ | exact pm_shr_in _ _ | exact pm_or_in _ _ | exact pm_xor_in _ _ | exact pm_shl_in _ _ | exact pm_cmp_in _ _ | exact pm_b8_in _ | (unfold pm_inI; split <;> omega)) (fun h1 => ?_) (fun h1 => ?_)
      · replace h1 : 21 ≤ (b : Int) := h1
        refine g_iload lk_237_84 rfl ?_
        refine g_if (t := 90) lk_237_86 rfl (by first | (unfold pm_inI; omega) | exact pm_and_in _ _ | exact pm_shr_in _ _ | exact pm_or_in _ _ | exact pm_xor_in _ _ | exact pm_shl_in _ _ | exact pm_cmp_in _ _ | exact pm_b8_in _ | (unfold pm_inI; split <;> omega)) (fun h2 => ?_) (fun h2 => ?_)
        · replace h2 : (al : Int) = 0 := h2
          exact worth _ (9, 0) (9, 0) (9, 0) N (by omega) lay F3 gE2 gE' (hF.ct (by decide)) (hF.ct (by decide))
        · replace h2 : ¬ ((al : Int) = 0) := h2
          refine g_return lk_237_89 ?_
          rw [hQ]
          rw [if_pos (by omega), if_pos (by omega)]
          refine ⟨rfl, lay, F3, fun J E' B' X' j1 j2 hJ => ⟨fun b hb => ?_, fun h hh => ?_, fun i hi => ?_⟩, gE2, fun h hh => ?_, fun i hi => ?_⟩
          · rw [gE' J b j2 hb]; exact hJ.1 b hb
          · rw [hF.ct (by decide)]; exact hJ.2.1 h hh
          · rw [hF.ct (by decide)]; exact hJ.2.2 i hi
          · rw [hF.ct (by decide)]; exact hB h hh
          · rw [hF.ct (by decide)]; exact hX i hi
      · replace h1 : ¬ (21 ≤ (b : Int)) := h1
        omega
    | succ m ih =>
      intro b N hb ib lay hF gE gE'
      obtain ⟨i0, hi0⟩ : ∃ i, i = 21 * K + b := ⟨_, rfl⟩
      obtain ⟨i1, hi1⟩ : ∃ i, i = 21 * K1 + (b - its) := ⟨_, rfl⟩
      obtain ⟨i2, hi2⟩ : ∃ i, i = 21 * K2 + (b - its) := ⟨_, rfl⟩
      have t0 : (21 * (K : Int)) + (b : Int) = (i0 : Int) := by omega
      have t1 : ((21 * (K1 : Int)) + (b : Int)) - (its : Int) = (i1 : Int) := by omega
      have t2 : ((21 * (K2 : Int)) + (b : Int)) - (its : Int) = (i2 : Int) := by omega
      have q0 : pEn its E E1 E2 b b = E b := by unfold pEn; rw [if_neg (by omega)]
      have z0 := gE b (by omega)
      rw [q0, ← hi0] at z0
      have z1 : pm_ct N 144 i1 = (E1 (b - its) : Int) := by rw [hi1, gE' K1 _ n1 (by omega)]; exact hE1 _ (by omega)
      have z2 : pm_ct N 144 i2 = (E2 (b - its) : Int) := by rw [hi2, gE' K2 _ n2 (by omega)]; exact hE2 _ (by omega)
      have e0' := d0.1 b
      have e1' := d1.1 (b - its)
      have e2' := d2.1 (b - its)
      obtain ⟨x0, h0'⟩ : ∃ x, x = E b := ⟨_, rfl⟩
      obtain ⟨x1, h1'⟩ : ∃ x, x = E1 (b - its) := ⟨_, rfl⟩
      obtain ⟨x2, h2'⟩ : ∃ x, x = E2 (b - its) := ⟨_, rfl⟩
      rw [← h0'] at z0 e0'
      rw [← h1'] at z1 e1'
      rw [← h2'] at z2 e2'
      refine g_iload lk_237_12 rfl ?_
      refine g_bipush lk_237_14 ?_
      refine g_icmp (t := 84) lk_237_16 rfl (by first | (unfold pm_inI; omega) | exact pm_and_in _ _ | exact pm_shr_in _ _ | exact pm_or_in _ _ | exact pm_xor_in _ _ | exact pm_shl_in _ _ | exact pm_cmp_in _ _ | exact pm_b8_in _ | (unfold pm_inI; split <;> omega)) (by first | (unfold pm_inI; omega) | exact pm_and_in _ _ | exact pm_shr_in _ _ | exact pm_or_in _ _ | exact pm_xor_in _ _ | exact pm_shl_in _ _ | exact pm_cmp_in _ _ | exact pm_b8_in _ | (unfold pm_inI; split <;> omega)) (fun h1 => ?_) (fun h1 => ?_)
      · replace h1 : 21 ≤ (b : Int) := h1
        omega
      · replace h1 : ¬ (21 ≤ (b : Int)) := h1
        refine g_aload_n lk_237_19 rfl ?_
        refine g_getfield lk_237_20 rfl (lay.on (by decide) rfl) (v := ((144 : Nat) : Int)) (lay.rf rfl) ?_
        refine g_bipush lk_237_23 ?_
        refine g_iload_n lk_237_25 rfl ?_
        refine g_imul lk_237_26 ?_
        refine g_iload lk_237_27 rfl ?_
        refine g_iadd lk_237_29 ?_
        refine g_top (z := ((21 * (K : Int)) + (b : Int))) (z' := (i0 : Int)) (t0) ?_
        refine g_aload_n lk_237_30 rfl ?_
        refine g_getfield lk_237_31 rfl (lay.on (by decide) rfl) (v := ((144 : Nat) : Int)) (lay.rf rfl) ?_
        refine g_bipush lk_237_34 ?_
        refine g_iload_n lk_237_36 rfl ?_
        refine g_imul lk_237_37 ?_
        refine g_iload lk_237_38 rfl ?_
        refine g_iadd lk_237_40 ?_
        refine g_top (z := ((21 * (K : Int)) + (b : Int))) (z' := (i0 : Int)) (t0) ?_
        refine m_iaload (u := []) (M := N) lk_237_41 (lay.ay (by decide) rfl) (by omega) (j := i0) (by omega) (v := (x0 : Int)) z0 ?_
        refine g_aload_n lk_237_42 rfl ?_
        refine g_getfield lk_237_43 rfl (lay.on (by decide) rfl) (v := ((144 : Nat) : Int)) (lay.rf rfl) ?_
        refine g_bipush lk_237_46 ?_
        refine g_iload_n lk_237_48 rfl ?_
        refine g_imul lk_237_49 ?_
        refine g_iload lk_237_50 rfl ?_
        refine g_iadd lk_237_52 ?_
        refine g_iload lk_237_53 rfl ?_
        refine g_isub lk_237_55 ?_
        refine g_top (z := (((21 * (K1 : Int)) + (b : Int)) - (its : Int))) (z' := (i1 : Int)) (t1) ?_
        refine m_iaload (u := []) (M := N) lk_237_56 (lay.ay (by decide) rfl) (by omega) (j := i1) (by omega) (v := (x1 : Int)) z1 ?_
        refine g_aload_n lk_237_57 rfl ?_
        refine g_getfield lk_237_58 rfl (lay.on (by decide) rfl) (v := ((144 : Nat) : Int)) (lay.rf rfl) ?_
        refine g_bipush lk_237_61 ?_
        refine g_iload lk_237_63 rfl ?_
        refine g_imul lk_237_65 ?_
        refine g_iload lk_237_66 rfl ?_
        refine g_iadd lk_237_68 ?_
        refine g_iload lk_237_69 rfl ?_
        refine g_isub lk_237_71 ?_
        refine g_top (z := (((21 * (K2 : Int)) + (b : Int)) - (its : Int))) (z' := (i2 : Int)) (t2) ?_
        refine m_iaload (u := []) (M := N) lk_237_72 (lay.ay (by decide) rfl) (by omega) (j := i2) (by omega) (v := (x2 : Int)) z2 ?_
        refine g_iadd lk_237_73 ?_
        refine g_static (Qc := _) lk_237_74 (by decide) rfl (Nat.le_of_ble_eq_true rfl) rfl rfl (Nat.le_of_ble_eq_true rfl) (Nat.le_of_ble_eq_true rfl) (Nat.zero_le _) (Nat.zero_le _) (c_Mo_lesser (by unfold pm_inI; omega) (by unfold pm_inI; omega)) ?_
        rintro _ N2 ⟨rfl, hN2⟩
        rw [hN2]
        show Wp _ 237 77 [(2, ((116 : Nat) : Int)), (0, (K : Int)), (0, 1), (0, (K1 : Int)), (0, (K2 : Int)), (0, (asked : Int)), (0, (al : Int)), (0, (its : Int)), (0, (b : Int)), (9, 0), (9, 0), (9, 0)] [(0, (min (x0 : Int) ((x1 : Int) + (x2 : Int)))), (0, (i0 : Int)), (2, ((144 : Nat) : Int))] N _ _ _
        have lay3 : Lay (Mu [(144, pm_upd (pm_ct N 144) i0 (min (x0 : Int) ((x1 : Int) + (x2 : Int))))] N) := lay.muA (l := []) (a := 144) (f := pm_upd (pm_ct N 144) i0 (min (x0 : Int) ((x1 : Int) + (x2 : Int)))) rfl rfl
        refine m_iastore (u := []) (u' := [(144, pm_upd (pm_ct N 144) i0 (min (x0 : Int) ((x1 : Int) + (x2 : Int))))]) (M := N) lk_237_77 (lay.ay (by decide) rfl) (by omega) (j := i0) (by omega) rfl ?_
        refine g_iinc (ls' := [(2, ((116 : Nat) : Int)), (0, (K : Int)), (0, 1), (0, (K1 : Int)), (0, (K2 : Int)), (0, (asked : Int)), (0, (al : Int)), (0, (its : Int)), (0, ((b : Int) + 1)), (9, 0), (9, 0), (9, 0)]) lk_237_78 rfl rfl rfl ?_
        refine g_goto (t := 12) lk_237_81 rfl ?_
        refine ih (b + 1) _ (by omega) (by omega) lay3 (hF.trans (Fr.mu _ _ rfl)) (fun e he => ?_) (fun J e j1 j2 => ?_)
        · rw [Mu_ct]
          show pm_upd (pm_ct N 144) i0 _ _ = _
          by_cases q : e = b
          · rw [q, ← hi0, pm_upd_eq]
            unfold pEn
            rw [if_pos (by omega), ← h0', ← h1', ← h2']; omega
          · rw [pm_upd_ne (by omega), gE e he]
            congr 1
            unfold pEn
            by_cases q2 : its ≤ e ∧ e < b
            · rw [if_pos q2, if_pos (by omega)]
            · rw [if_neg q2, if_neg (by omega)]
        · rw [Mu_ct]
          show pm_upd (pm_ct N 144) i0 _ _ = _
          rw [pm_upd_ne (by omega)]; exact gE' J e j1 j2
  show Wp (d + 1) 237 0 [(2, ((116 : Nat) : Int)), (0, (K : Int)), (0, 1), (0, (K1 : Int)), (0, (K2 : Int)), (0, (asked : Int)), (0, (al : Int)), (9, 0), (9, 0), (9, 0), (9, 0), (9, 0)] [] M mc ms Q
  refine g_aload_n lk_237_0 rfl ?_
  refine g_getfield lk_237_1 rfl (lay0.on (by decide) rfl) (v := ((120 : Nat) : Int)) (lay0.rf rfl) ?_
  refine g_iload_n lk_237_4 rfl ?_
  refine m_iaload (u := []) (M := M) lk_237_5 (lay0.ay (by decide) rfl) (by omega) (j := 1) (by omega) (v := (its : Int)) hits ?_
  refine g_istore (ls' := [(2, ((116 : Nat) : Int)), (0, (K : Int)), (0, 1), (0, (K1 : Int)), (0, (K2 : Int)), (0, (asked : Int)), (0, (al : Int)), (0, (its : Int)), (9, 0), (9, 0), (9, 0), (9, 0)]) lk_237_6 rfl rfl ?_
  refine g_iload lk_237_8 rfl ?_
  refine g_istore (ls' := [(2, ((116 : Nat) : Int)), (0, (K : Int)), (0, 1), (0, (K1 : Int)), (0, (K2 : Int)), (0, (asked : Int)), (0, (al : Int)), (0, (its : Int)), (0, (its : Int)), (9, 0), (9, 0), (9, 0)]) lk_237_10 rfl rfl ?_
  refine errs (21 - its) its M (by omega) (Nat.le_refl _) lay0 (Fr.refl _ _) (fun e he => ?_) (fun J e _ _ => rfl)
  rw [hE e he]
  congr 1
  unfold pEn
  rw [if_neg (by omega)]
set_option maxHeartbeats 16000000 in
theorem c_Mo_layParted1 {d mc ms : Nat} {M : pm_M} (lay0 : Lay M) {K K1 K2 its asked al : Nat} {E B X E1 B1 X1 E2 B2 X2 : Nat → Nat} (hK : K < 4096) (hK1 : K1 < 4096) (hK2 : K2 < 4096) (n1 : K1 ≠ K) (n2 : K2 ≠ K) (h0 : TbK M K E B X) (h1' : TbK M K1 E1 B1 X1) (h2' : TbK M K2 E2 B2 X2) (d0 : Bd E B X) (d1 : Bd E1 B1 X1) (d2 : Bd E2 B2 X2) (hits : pm_ct M 120 2 = (its : Int)) (i9 : its ≤ 9) (ha : asked ≤ 36) (hal : al ≤ 1) :
    pm_E (d + 1) 237 [(2, ((116 : Nat) : Int)), (0, (K : Int)), (0, 2), (0, (K1 : Int)), (0, (K2 : Int)), (0, (asked : Int)), (0, (al : Int))] M mc ms (fun ρ M' => ρ = none ∧ Lay M' ∧ Fr [142, 143, 144] M M' ∧ Oth M M' K ∧ TbK M' K (pE its E E1 E2) (if al = 1 then B else pB its asked B B1 B2) (if al = 1 then X else pT its 1 X X1 X2 6)) := by
  obtain ⟨Q, hQ⟩ : ∃ Q : pm_Q, Q = (fun ρ M' => ρ = none ∧ Lay M' ∧ Fr [142, 143, 144] M M' ∧ Oth M M' K ∧ TbK M' K (pE its E E1 E2) (if al = 1 then B else pB its asked B B1 B2) (if al = 1 then X else pT its 1 X X1 X2 6)) := ⟨_, rfl⟩
  rw [← hQ]
  obtain ⟨hE, hB, hX⟩ := h0
  obtain ⟨hE1, hB1, hX1⟩ := h1'
  obtain ⟨hE2, hB2, hX2⟩ := h2'
  -- talk: counts of changes
  have talk : ∀ (m t : Nat) (v9 v10 v11 : pm_V) (N : pm_M), t + m = 6 → al = 0 → Lay N → Fr [142, 143, 144] M N → (∀ b, b < 21 → pm_ct N 144 (21 * K + b) = (pE its E E1 E2 b : Int)) → (∀ J b, J ≠ K → b < 21 → pm_ct N 144 (21 * J + b) = pm_ct M 144 (21 * J + b)) → (∀ h, h < 3 → pm_ct N 142 (4096 * h + K) = (pB its asked B B1 B2 h : Int)) → (∀ J h, J < 4096 → J ≠ K → pm_ct N 142 (4096 * h + J) = pm_ct M 142 (4096 * h + J)) → (∀ i, i < 12 → pm_ct N 143 (4096 * i + K) = (pT its 1 X X1 X2 t i : Int)) → (∀ J i, J < 4096 → J ≠ K → pm_ct N 143 (4096 * i + J) = pm_ct M 143 (4096 * i + J)) → Wp (d + 1) 237 223 [(2, ((116 : Nat) : Int)), (0, (K : Int)), (0, 2), (0, (K1 : Int)), (0, (K2 : Int)), (0, (asked : Int)), (0, (al : Int)), (0, (its : Int)), (0, (t : Int)), v9, v10, v11] [] N mc ms Q := by
    intro m
    induction m with
    | zero =>
      intro t v9 v10 v11 N ht al0 lay hF gE gE' gB gB' gX gX'
      refine g_iload lk_237_223 rfl ?_
      refine g_bipush lk_237_225 ?_
      refine g_icmp (t := 356) lk_237_227 rfl (by first | (unfold pm_inI; omega) | exact pm_and_in _ _ | exact pm_shr_in _ _ | exact pm_or_in _ _ | exact pm_xor_in _ _ | exact pm_shl_in _ _ | exact pm_cmp_in _ _ | exact pm_b8_in _ | (unfold pm_inI; split <;> omega)) (by first | (unfold pm_inI; omega) | exact pm_and_in _ _ | exact pm_shr_in _ _ | exact pm_or_in _ _ | exact pm_xor_in _ _ | exact pm_shl_in _ _ | exact pm_cmp_in _ _ | exact pm_b8_in _ | (unfold pm_inI; split <;> omega)) (fun h1 => ?_) (fun h1 => ?_)
      · replace h1 : 6 ≤ (t : Int) := h1
        refine g_return lk_237_356 ?_
        rw [hQ]
        rw [if_neg (by omega), if_neg (by omega)]
        refine ⟨rfl, lay, hF, fun J E' B' X' j1 j2 hJ => ⟨fun b hb => ?_, fun h hh => ?_, fun i hi => ?_⟩, gE, gB, fun i hi => by rw [show 6 = t by omega]; exact gX i hi⟩
        · rw [gE' J b j2 hb]; exact hJ.1 b hb
        · rw [gB' J h j1 j2]; exact hJ.2.1 h hh
        · rw [gX' J i j1 j2]; exact hJ.2.2 i hi
      · replace h1 : ¬ (6 ≤ (t : Int)) := h1
        omega
    | succ m ih =>
      intro t v9 v10 v11 N ht al0 lay hF gE gE' gB gB' gX gX'
      obtain ⟨sm', hsm⟩ : ∃ s, s = 4096 * (6 * 1 + t) := ⟨_, rfl⟩
      have es : (4096 : Int) * ((6 * (2 - 1)) + (t : Int)) = (sm' : Int) := by omega
      obtain ⟨j1, hj1⟩ : ∃ j, j = sm' + K1 := ⟨_, rfl⟩
      obtain ⟨j2, hj2⟩ : ∃ j, j = sm' + K2 := ⟨_, rfl⟩
      obtain ⟨j0, hj0⟩ : ∃ j, j = sm' + K := ⟨_, rfl⟩
      have ej1 : (sm' : Int) + (K1 : Int) = (j1 : Int) := by omega
      have ej2 : (sm' : Int) + (K2 : Int) = (j2 : Int) := by omega
      have ej0 : (sm' : Int) + (K : Int) = (j0 : Int) := by omega
      have r1 : pm_ct N 143 j1 = (X1 (6 * 1 + t) : Int) := by rw [hj1, hsm, gX' K1 _ hK1 n1]; exact hX1 _ (by omega)
      have r2 : pm_ct N 143 j2 = (X2 (6 * 1 + t) : Int) := by rw [hj2, hsm, gX' K2 _ hK2 n2]; exact hX2 _ (by omega)
      have r0 : pm_ct N 143 j0 = (pT its 1 X X1 X2 t (6 * 1 + t) : Int) := by rw [hj0, hsm]; exact gX _ (by omega)
      have x1 := d1.2.2 (6 * 1 + t)
      have x2 := d2.2.2 (6 * 1 + t)
      have x0 := d0.2.2 (6 * 1 + t)
      have pt0 : pT its 1 X X1 X2 t (6 * 1 + t) ≤ 1000400 := by rw [pT_old (by omega) (by omega)]; exact x0
      obtain ⟨y1, hy1⟩ : ∃ y, y = X1 (6 * 1 + t) := ⟨_, rfl⟩
      obtain ⟨y2, hy2⟩ : ∃ y, y = X2 (6 * 1 + t) := ⟨_, rfl⟩
      obtain ⟨y0, hy0⟩ : ∃ y, y = pT its 1 X X1 X2 t (6 * 1 + t) := ⟨_, rfl⟩
      rw [← hy1] at r1 x1
      rw [← hy2] at r2 x2
      rw [← hy0] at r0 pt0
      have p0 : y0 = X (6 * 1 + t) := by rw [hy0]; exact pT_old (by omega) (by omega)
      obtain ⟨v, hv⟩ : ∃ v, v = pV its 1 X1 X2 t := ⟨_, rfl⟩
      have hv2 : v = min 1000000 (its + max y1 y2) := by rw [hv, hy1, hy2]; rfl
      have ev : min (1000000 : Int) ((its : Int) + max (y1 : Int) (y2 : Int)) = (v : Int) := by omega
      -- the second place
      obtain ⟨N1, hN1⟩ : ∃ N1, N1 = Mu [(143, pm_upd (pm_ct N 143) j0 (min (y0 : Int) (v : Int)))] N := ⟨_, rfl⟩
      have F1 : Fr [143] N N1 := by rw [hN1]; exact Fr.mu _ _ rfl
      have c1 : pm_ct N1 143 = pm_upd (pm_ct N 143) j0 (min (y0 : Int) (v : Int)) := by rw [hN1, Mu_ct]; rfl
      have base : ∀ (N2 : pm_M) (z9 z10 : Int) (v11 : pm_V), Lay N2 → Fr [143] N N2 → (∀ i, i < 12 → pm_ct N2 143 (4096 * i + K) = (pT its 1 X X1 X2 (t + 1) i : Int)) → (∀ J i, J < 4096 → J ≠ K → pm_ct N2 143 (4096 * i + J) = pm_ct N 143 (4096 * i + J)) → Wp (d + 1) 237 223 [(2, ((116 : Nat) : Int)), (0, (K : Int)), (0, 2), (0, (K1 : Int)), (0, (K2 : Int)), (0, (asked : Int)), (0, (al : Int)), (0, (its : Int)), (0, ((t + 1 : Nat) : Int)), (0, z9), (0, z10), v11] [] N2 mc ms Q := by
        intro N2 z9 z10 v11 lay2 F2 g1 g2
        exact ih (t + 1) (0, z9) (0, z10) v11 N2 (by omega) al0 lay2 (hF.trans (F2.mono (fun a q => by simp at q; simp [q]))) (fun b hb => by rw [F2.ct (by decide)]; exact gE b hb) (fun J b q1 q2 => by rw [F2.ct (by decide)]; exact gE' J b q1 q2) (fun h hh => by rw [F2.ct (by decide)]; exact gB h hh) (fun J h q1 q2 => by rw [F2.ct (by decide)]; exact gB' J h q1 q2) g1 (fun J i q1 q2 => by rw [g2 J i q1 q2]; exact gX' J i q1 q2)
      have k301 : ∀ z9 z10 : Int, z10 = (v : Int) → Lay N1 → Wp (d + 1) 237 301 [(2, ((116 : Nat) : Int)), (0, (K : Int)), (0, 2), (0, (K1 : Int)), (0, (K2 : Int)), (0, (asked : Int)), (0, (al : Int)), (0, (its : Int)), (0, (t : Int)), (0, z9), (0, z10), v11] [] N1 mc ms Q := by
        intro z9 z10 hz10 lay1
        rw [hz10]
        obtain ⟨ch, hch⟩ : ∃ s, s = 4096 * (6 * (1 - 1) + t + 1) := ⟨_, rfl⟩
        have ec : (4096 : Int) * (((6 * (2 - 2)) + (t : Int)) + 1) = (ch : Int) := by omega
        obtain ⟨jc, hjc⟩ : ∃ j, j = ch + K := ⟨_, rfl⟩
        have ejc : (ch : Int) + (K : Int) = (jc : Int) := by omega
        by_cases t5 : t + 1 < 6
        · have rc : pm_ct N1 143 jc = (pT its 1 X X1 X2 t (6 * (1 - 1) + t + 1) : Int) := by
            rw [c1, pm_upd_ne (by omega), hjc, hch]; exact gX _ (by omega)
          have xc := d0.2.2 (6 * (1 - 1) + t + 1)
          have ptc : pT its 1 X X1 X2 t (6 * (1 - 1) + t + 1) = X (6 * (1 - 1) + t + 1) := pT_cho (by omega) t5
          rw [ptc] at rc
          obtain ⟨yc, hyc⟩ : ∃ y, y = X (6 * (1 - 1) + t + 1) := ⟨_, rfl⟩
          rw [← hyc] at rc xc
          refine g_iload lk_237_301 rfl ?_
          refine g_iconst lk_237_303 ?_
          refine g_iadd lk_237_304 ?_
          refine g_bipush lk_237_305 ?_
          refine g_icmp (t := 350) lk_237_307 rfl (by first | (unfold pm_inI; omega) | exact pm_and_in _ _ | exact pm_shr_in _ _ | exact pm_or_in _ _ | exact pm_xor_in _ _ | exact pm_shl_in _ _ | exact pm_cmp_in _ _ | exact pm_b8_in _ | (unfold pm_inI; split <;> omega)) (by first | (unfold pm_inI; omega) | exact pm_and_in _ _ | exact pm_shr_in _ _ | exact pm_or_in _ _ | exact pm_xor_in _ _ | exact pm_shl_in _ _ | exact pm_cmp_in _ _ | exact pm_b8_in _ | (unfold pm_inI; split <;> omega)) (fun h1 => ?_) (fun h1 => ?_)
          · replace h1 : 6 ≤ ((t : Int) + 1) := h1
            omega
          · replace h1 : ¬ (6 ≤ ((t : Int) + 1)) := h1
            refine g_sipush lk_237_310 ?_
            refine g_bipush lk_237_313 ?_
            refine g_iconst lk_237_315 ?_
            refine g_iload_n lk_237_316 rfl ?_
            refine g_isub lk_237_317 ?_
            refine g_imul lk_237_318 ?_
            refine g_iload lk_237_319 rfl ?_
            refine g_iadd lk_237_321 ?_
            refine g_iconst lk_237_322 ?_
            refine g_iadd lk_237_323 ?_
            refine g_imul lk_237_324 ?_
            refine g_top (z := (4096 * (((6 * (2 - 2)) + (t : Int)) + 1))) (z' := (ch : Int)) (ec) ?_
            refine g_istore (ls' := [(2, ((116 : Nat) : Int)), (0, (K : Int)), (0, 2), (0, (K1 : Int)), (0, (K2 : Int)), (0, (asked : Int)), (0, (al : Int)), (0, (its : Int)), (0, (t : Int)), (0, z9), (0, (v : Int)), (0, (ch : Int))]) lk_237_325 rfl rfl ?_
            refine g_aload_n lk_237_327 rfl ?_
            refine g_getfield lk_237_328 rfl (lay1.on (by decide) rfl) (v := ((143 : Nat) : Int)) (lay1.rf rfl) ?_
            refine g_iload lk_237_331 rfl ?_
            refine g_iload_n lk_237_333 rfl ?_
            refine g_iadd lk_237_334 ?_
            refine g_top (z := ((ch : Int) + (K : Int))) (z' := (jc : Int)) (ejc) ?_
            refine g_aload_n lk_237_335 rfl ?_
            refine g_getfield lk_237_336 rfl (lay1.on (by decide) rfl) (v := ((143 : Nat) : Int)) (lay1.rf rfl) ?_
            refine g_iload lk_237_339 rfl ?_
            refine g_iload_n lk_237_341 rfl ?_
            refine g_iadd lk_237_342 ?_
            refine g_top (z := ((ch : Int) + (K : Int))) (z' := (jc : Int)) (ejc) ?_
            refine m_iaload (u := []) (M := N1) lk_237_343 (lay1.ay (by decide) rfl) (by omega) (j := jc) (by omega) (v := (yc : Int)) rc ?_
            refine g_iload lk_237_344 rfl ?_
            refine g_static (Qc := _) lk_237_346 (by decide) rfl (Nat.le_of_ble_eq_true rfl) rfl rfl (Nat.le_of_ble_eq_true rfl) (Nat.le_of_ble_eq_true rfl) (Nat.zero_le _) (Nat.zero_le _) (c_Mo_lesser (by unfold pm_inI; omega) (by unfold pm_inI; omega)) ?_
            rintro _ N2 ⟨rfl, hN2⟩
            rw [hN2]
            show Wp _ 237 349 [(2, ((116 : Nat) : Int)), (0, (K : Int)), (0, 2), (0, (K1 : Int)), (0, (K2 : Int)), (0, (asked : Int)), (0, (al : Int)), (0, (its : Int)), (0, (t : Int)), (0, z9), (0, (v : Int)), (0, (ch : Int))] [(0, (min (yc : Int) (v : Int))), (0, (jc : Int)), (2, ((143 : Nat) : Int))] N1 _ _ _
            have lay3 : Lay (Mu [(143, pm_upd (pm_ct N1 143) jc (min (yc : Int) (v : Int)))] N1) := lay1.muA (l := []) (a := 143) (f := pm_upd (pm_ct N1 143) jc (min (yc : Int) (v : Int))) rfl rfl
            refine m_iastore (u := []) (u' := [(143, pm_upd (pm_ct N1 143) jc (min (yc : Int) (v : Int)))]) (M := N1) lk_237_349 (lay1.ay (by decide) rfl) (by omega) (j := jc) (by omega) rfl ?_
            refine g_iinc (ls' := [(2, ((116 : Nat) : Int)), (0, (K : Int)), (0, 2), (0, (K1 : Int)), (0, (K2 : Int)), (0, (asked : Int)), (0, (al : Int)), (0, (its : Int)), (0, (t : Int) + 1), (0, z9), (0, (v : Int)), (0, (ch : Int))]) lk_237_350 rfl rfl rfl ?_
            refine g_goto (t := 223) lk_237_353 rfl ?_
            have F2 : Fr [143] N (Mu [(143, pm_upd (pm_ct N1 143) jc (min (yc : Int) (v : Int)))] N1) := F1.trans (Fr.mu _ _ rfl)
            have c2 : pm_ct (Mu [(143, pm_upd (pm_ct N1 143) jc (min (yc : Int) (v : Int)))] N1) 143 = pm_upd (pm_upd (pm_ct N 143) j0 (min (y0 : Int) (v : Int))) jc (min (yc : Int) (v : Int)) := by rw [Mu_ct]; show pm_upd (pm_ct N1 143) jc _ = _; rw [c1]
            refine base _ _ _ _ lay3 F2 (fun i hi => ?_) (fun J i q1 q2 => ?_)
            · rw [c2]
              by_cases e1 : i = 6 * (1 - 1) + t + 1
              · rw [e1, show 4096 * (6 * (1 - 1) + t + 1) + K = jc by omega, pm_upd_eq, pT_chg (by omega) t5, ← hyc, ← hv]; omega
              · by_cases e2 : i = 6 * 1 + t
                · rw [e2, show 4096 * (6 * 1 + t) + K = j0 by omega, pm_upd_ne (by omega), pm_upd_eq, pT_own, ← p0, ← hv]; omega
                · rw [pm_upd_ne (by omega), pm_upd_ne (by omega), gX i hi, pT_same (by omega) e2 (Or.inl e1)]
            · rw [c2, pm_upd_ne (by omega), pm_upd_ne (by omega)]
        · skip
          refine g_iload lk_237_301 rfl ?_
          refine g_iconst lk_237_303 ?_
          refine g_iadd lk_237_304 ?_
          refine g_bipush lk_237_305 ?_
          refine g_icmp (t := 350) lk_237_307 rfl (by first | (unfold pm_inI; omega) | exact pm_and_in _ _ | exact pm_shr_in _ _ | exact pm_or_in _ _ | exact pm_xor_in _ _ | exact pm_shl_in _ _ | exact pm_cmp_in _ _ | exact pm_b8_in _ | (unfold pm_inI; split <;> omega)) (by first | (unfold pm_inI; omega) | exact pm_and_in _ _ | exact pm_shr_in _ _ | exact pm_or_in _ _ | exact pm_xor_in _ _ | exact pm_shl_in _ _ | exact pm_cmp_in _ _ | exact pm_b8_in _ | (unfold pm_inI; split <;> omega)) (fun h1 => ?_) (fun h1 => ?_)
          · replace h1 : 6 ≤ ((t : Int) + 1) := h1
            refine g_iinc (ls' := [(2, ((116 : Nat) : Int)), (0, (K : Int)), (0, 2), (0, (K1 : Int)), (0, (K2 : Int)), (0, (asked : Int)), (0, (al : Int)), (0, (its : Int)), (0, ((t : Int) + 1)), (0, z9), (0, (v : Int)), v11]) lk_237_350 rfl rfl rfl ?_
            refine g_goto (t := 223) lk_237_353 rfl ?_
            refine base N1 _ _ _ lay1 F1 (fun i hi => ?_) (fun J i q1 q2 => ?_)
            · rw [c1]
              by_cases e2 : i = 6 * 1 + t
              · rw [e2, show 4096 * (6 * 1 + t) + K = j0 by omega, pm_upd_eq, pT_own, ← p0, ← hv]; omega
              · rw [pm_upd_ne (by omega), gX i hi, pT_same (by omega) e2 (Or.inr (by omega))]
            · rw [c1, pm_upd_ne (by omega)]
          · replace h1 : ¬ (6 ≤ ((t : Int) + 1)) := h1
            omega
      refine g_iload lk_237_223 rfl ?_
      refine g_bipush lk_237_225 ?_
      refine g_icmp (t := 356) lk_237_227 rfl (by first | (unfold pm_inI; omega) | exact pm_and_in _ _ | exact pm_shr_in _ _ | exact pm_or_in _ _ | exact pm_xor_in _ _ | exact pm_shl_in _ _ | exact pm_cmp_in _ _ | exact pm_b8_in _ | (unfold pm_inI; split <;> omega)) (by first | (unfold pm_inI; omega) | exact pm_and_in _ _ | exact pm_shr_in _ _ | exact pm_or_in _ _ | exact pm_xor_in _ _ | exact pm_shl_in _ _ | exact pm_cmp_in _ _ | exact pm_b8_in _ | (unfold pm_inI; split <;> omega)) (fun h1 => ?_) (fun h1 => ?_)
      · replace h1 : 6 ≤ (t : Int) := h1
        refine g_return lk_237_356 ?_
        omega
      · replace h1 : ¬ (6 ≤ (t : Int)) := h1
        refine g_sipush lk_237_230 ?_
        refine g_bipush lk_237_233 ?_
        refine g_iload_n lk_237_235 rfl ?_
        refine g_iconst lk_237_236 ?_
        refine g_isub lk_237_237 ?_
        refine g_imul lk_237_238 ?_
        refine g_iload lk_237_239 rfl ?_
        refine g_iadd lk_237_241 ?_
        refine g_imul lk_237_242 ?_
        refine g_top (z := (4096 * ((6 * (2 - 1)) + (t : Int)))) (z' := (sm' : Int)) (es) ?_
        refine g_istore (ls' := [(2, ((116 : Nat) : Int)), (0, (K : Int)), (0, 2), (0, (K1 : Int)), (0, (K2 : Int)), (0, (asked : Int)), (0, (al : Int)), (0, (its : Int)), (0, (t : Int)), (0, (sm' : Int)), v10, v11]) lk_237_243 rfl rfl ?_
        refine g_ldc_w lk_237_245 ?_
        refine g_iload lk_237_248 rfl ?_
        refine g_aload_n lk_237_250 rfl ?_
        refine g_getfield lk_237_251 rfl (lay.on (by decide) rfl) (v := ((143 : Nat) : Int)) (lay.rf rfl) ?_
        refine g_iload lk_237_254 rfl ?_
        refine g_iload_n lk_237_256 rfl ?_
        refine g_iadd lk_237_257 ?_
        refine g_top (z := ((sm' : Int) + (K1 : Int))) (z' := (j1 : Int)) (ej1) ?_
        refine m_iaload (u := []) (M := N) lk_237_258 (lay.ay (by decide) rfl) (by omega) (j := j1) (by omega) (v := (y1 : Int)) r1 ?_
        refine g_aload_n lk_237_259 rfl ?_
        refine g_getfield lk_237_260 rfl (lay.on (by decide) rfl) (v := ((143 : Nat) : Int)) (lay.rf rfl) ?_
        refine g_iload lk_237_263 rfl ?_
        refine g_iload lk_237_265 rfl ?_
        refine g_iadd lk_237_267 ?_
        refine g_top (z := ((sm' : Int) + (K2 : Int))) (z' := (j2 : Int)) (ej2) ?_
        refine m_iaload (u := []) (M := N) lk_237_268 (lay.ay (by decide) rfl) (by omega) (j := j2) (by omega) (v := (y2 : Int)) r2 ?_
        refine g_static (Qc := _) lk_237_269 (by decide) rfl (Nat.le_of_ble_eq_true rfl) rfl rfl (Nat.le_of_ble_eq_true rfl) (Nat.le_of_ble_eq_true rfl) (Nat.zero_le _) (Nat.zero_le _) (c_Mo_greater (by unfold pm_inI; omega) (by unfold pm_inI; omega)) ?_
        rintro _ N2 ⟨rfl, hN2⟩
        rw [hN2]
        show Wp _ 237 272 [(2, ((116 : Nat) : Int)), (0, (K : Int)), (0, 2), (0, (K1 : Int)), (0, (K2 : Int)), (0, (asked : Int)), (0, (al : Int)), (0, (its : Int)), (0, (t : Int)), (0, (sm' : Int)), v10, v11] [(0, (max (y1 : Int) (y2 : Int))), (0, (its : Int)), (0, 1000000)] N _ _ _
        refine g_iadd lk_237_272 ?_
        refine g_static (Qc := _) lk_237_273 (by decide) rfl (Nat.le_of_ble_eq_true rfl) rfl rfl (Nat.le_of_ble_eq_true rfl) (Nat.le_of_ble_eq_true rfl) (Nat.zero_le _) (Nat.zero_le _) (c_Mo_lesser (by unfold pm_inI; omega) (by unfold pm_inI; omega)) ?_
        rintro _ N3 ⟨rfl, hN3⟩
        rw [hN3]
        show Wp _ 237 276 [(2, ((116 : Nat) : Int)), (0, (K : Int)), (0, 2), (0, (K1 : Int)), (0, (K2 : Int)), (0, (asked : Int)), (0, (al : Int)), (0, (its : Int)), (0, (t : Int)), (0, (sm' : Int)), v10, v11] [(0, (min 1000000 ((its : Int) + (max (y1 : Int) (y2 : Int)))))] N _ _ _
        refine g_top (z := (min 1000000 ((its : Int) + (max (y1 : Int) (y2 : Int))))) (z' := (v : Int)) (ev) ?_
        refine g_istore (ls' := [(2, ((116 : Nat) : Int)), (0, (K : Int)), (0, 2), (0, (K1 : Int)), (0, (K2 : Int)), (0, (asked : Int)), (0, (al : Int)), (0, (its : Int)), (0, (t : Int)), (0, (sm' : Int)), (0, (v : Int)), v11]) lk_237_276 rfl rfl ?_
        refine g_aload_n lk_237_278 rfl ?_
        refine g_getfield lk_237_279 rfl (lay.on (by decide) rfl) (v := ((143 : Nat) : Int)) (lay.rf rfl) ?_
        refine g_iload lk_237_282 rfl ?_
        refine g_iload_n lk_237_284 rfl ?_
        refine g_iadd lk_237_285 ?_
        refine g_top (z := ((sm' : Int) + (K : Int))) (z' := (j0 : Int)) (ej0) ?_
        refine g_aload_n lk_237_286 rfl ?_
        refine g_getfield lk_237_287 rfl (lay.on (by decide) rfl) (v := ((143 : Nat) : Int)) (lay.rf rfl) ?_
        refine g_iload lk_237_290 rfl ?_
        refine g_iload_n lk_237_292 rfl ?_
        refine g_iadd lk_237_293 ?_
        refine g_top (z := ((sm' : Int) + (K : Int))) (z' := (j0 : Int)) (ej0) ?_
        refine m_iaload (u := []) (M := N) lk_237_294 (lay.ay (by decide) rfl) (by omega) (j := j0) (by omega) (v := (y0 : Int)) r0 ?_
        refine g_iload lk_237_295 rfl ?_
        refine g_static (Qc := _) lk_237_297 (by decide) rfl (Nat.le_of_ble_eq_true rfl) rfl rfl (Nat.le_of_ble_eq_true rfl) (Nat.le_of_ble_eq_true rfl) (Nat.zero_le _) (Nat.zero_le _) (c_Mo_lesser (by unfold pm_inI; omega) (by unfold pm_inI; omega)) ?_
        rintro _ N4 ⟨rfl, hN4⟩
        rw [hN4]
        show Wp _ 237 300 [(2, ((116 : Nat) : Int)), (0, (K : Int)), (0, 2), (0, (K1 : Int)), (0, (K2 : Int)), (0, (asked : Int)), (0, (al : Int)), (0, (its : Int)), (0, (t : Int)), (0, (sm' : Int)), (0, (v : Int)), v11] [(0, (min (y0 : Int) (v : Int))), (0, (j0 : Int)), (2, ((143 : Nat) : Int))] N _ _ _
        have lay5 : Lay (Mu [(143, pm_upd (pm_ct N 143) j0 (min (y0 : Int) (v : Int)))] N) := lay.muA (l := []) (a := 143) (f := pm_upd (pm_ct N 143) j0 (min (y0 : Int) (v : Int))) rfl rfl
        refine m_iastore (u := []) (u' := [(143, pm_upd (pm_ct N 143) j0 (min (y0 : Int) (v : Int)))]) (M := N) lk_237_300 (lay.ay (by decide) rfl) (by omega) (j := j0) (by omega) rfl ?_
        rw [hN1] at k301
        exact k301 _ _ rfl lay5
  -- what trees are worth
  have worth : ∀ (v8 v9 v10 v11 : pm_V) (N : pm_M), al = 0 → Lay N → Fr [142, 143, 144] M N → (∀ b, b < 21 → pm_ct N 144 (21 * K + b) = (pE its E E1 E2 b : Int)) → (∀ J b, J ≠ K → b < 21 → pm_ct N 144 (21 * J + b) = pm_ct M 144 (21 * J + b)) → pm_ct N 142 = pm_ct M 142 → pm_ct N 143 = pm_ct M 143 → Wp (d + 1) 237 90 [(2, ((116 : Nat) : Int)), (0, (K : Int)), (0, 2), (0, (K1 : Int)), (0, (K2 : Int)), (0, (asked : Int)), (0, (al : Int)), (0, (its : Int)), v8, (9, 0), (9, 0), (9, 0)] [] N mc ms Q := by
    intro v8 v9 v10 v11 N al0 lay hF gE gE' q142 q143
    have rB0 : pm_ct M 142 K = (B 0 : Int) := by have := hB 0 (by omega); rw [Nat.mul_zero, Nat.zero_add] at this; exact this
    have rB1 : pm_ct M 142 (4096 + K) = (B 1 : Int) := by have := hB 1 (by omega); rw [Nat.mul_one] at this; exact this
    have rB2 : pm_ct M 142 (8192 + K) = (B 2 : Int) := hB 2 (by omega)
    have rC0 : pm_ct M 142 K1 = (B1 0 : Int) := by have := hB1 0 (by omega); rw [Nat.mul_zero, Nat.zero_add] at this; exact this
    have rC1 : pm_ct M 142 (4096 + K1) = (B1 1 : Int) := by have := hB1 1 (by omega); rw [Nat.mul_one] at this; exact this
    have rC2 : pm_ct M 142 (8192 + K1) = (B1 2 : Int) := hB1 2 (by omega)
    have rD0 : pm_ct M 142 K2 = (B2 0 : Int) := by have := hB2 0 (by omega); rw [Nat.mul_zero, Nat.zero_add] at this; exact this
    have rD1 : pm_ct M 142 (4096 + K2) = (B2 1 : Int) := by have := hB2 1 (by omega); rw [Nat.mul_one] at this; exact this
    have rD2 : pm_ct M 142 (8192 + K2) = (B2 2 : Int) := hB2 2 (by omega)
    obtain ⟨p0, hp0⟩ : ∃ p, p = pB its asked B B1 B2 0 := ⟨_, rfl⟩
    obtain ⟨p1, hp1⟩ : ∃ p, p = pB its asked B B1 B2 1 := ⟨_, rfl⟩
    obtain ⟨p2, hp2⟩ : ∃ p, p = pB its asked B B1 B2 2 := ⟨_, rfl⟩
    have e0' : p0 = min (B 0) (its + max (B1 0) (B2 0)) := hp0
    have e1' : p1 = min (B 1) (B1 1 + B2 1) := hp1
    have e2' : p2 = min (B 2) (its * asked + B1 2 + B2 2) := hp2
    have ia : its * asked ≤ 9 * 36 := Nat.mul_le_mul i9 ha
    obtain ⟨pr, hpr⟩ : ∃ pr, pr = its * asked := ⟨_, rfl⟩
    have epr : (its : Int) * (asked : Int) = (pr : Int) := by rw [hpr]; exact (Int.natCast_mul _ _).symm
    rw [← hpr] at e2' ia
    have b00 := d0.2.1 0
    have b01 := d0.2.1 1
    have b02 := d0.2.1 2
    have b10 := d1.2.1 0
    have b11 := d1.2.1 1
    have b12 := d1.2.1 2
    have b20 := d2.2.1 0
    have b21 := d2.2.1 1
    have b22 := d2.2.1 2
    obtain ⟨x00, h00⟩ : ∃ x, x = B 0 := ⟨_, rfl⟩
    obtain ⟨x01, h01⟩ : ∃ x, x = B 1 := ⟨_, rfl⟩
    obtain ⟨x02, h02⟩ : ∃ x, x = B 2 := ⟨_, rfl⟩
    obtain ⟨x10, h10⟩ : ∃ x, x = B1 0 := ⟨_, rfl⟩
    obtain ⟨x11, h11⟩ : ∃ x, x = B1 1 := ⟨_, rfl⟩
    obtain ⟨x12, h12⟩ : ∃ x, x = B1 2 := ⟨_, rfl⟩
    obtain ⟨x20, h20⟩ : ∃ x, x = B2 0 := ⟨_, rfl⟩
    obtain ⟨x21, h21⟩ : ∃ x, x = B2 1 := ⟨_, rfl⟩
    obtain ⟨x22, h22⟩ : ∃ x, x = B2 2 := ⟨_, rfl⟩
    rw [← h00] at rB0 b00 e0'
    rw [← h01] at rB1 b01 e1'
    rw [← h02] at rB2 b02 e2'
    rw [← h10] at rC0 b10 e0'
    rw [← h11] at rC1 b11 e1'
    rw [← h12] at rC2 b12 e2'
    rw [← h20] at rD0 b20 e0'
    rw [← h21] at rD1 b21 e1'
    rw [← h22] at rD2 b22 e2'
    obtain ⟨k1, hk1⟩ : ∃ k, k = 4096 + K := ⟨_, rfl⟩
    obtain ⟨k2, hk2⟩ : ∃ k, k = 8192 + K := ⟨_, rfl⟩
    obtain ⟨m1, hm1⟩ : ∃ k, k = 4096 + K1 := ⟨_, rfl⟩
    obtain ⟨m2, hm2⟩ : ∃ k, k = 8192 + K1 := ⟨_, rfl⟩
    obtain ⟨o1, ho1⟩ : ∃ k, k = 4096 + K2 := ⟨_, rfl⟩
    obtain ⟨o2, ho2⟩ : ∃ k, k = 8192 + K2 := ⟨_, rfl⟩
    rw [← hk1] at rB1
    rw [← hk2] at rB2
    rw [← hm1] at rC1
    rw [← hm2] at rC2
    rw [← ho1] at rD1
    rw [← ho2] at rD2
    have s220 : ∀ (N' : pm_M) (v8 : pm_V), Lay N' → Fr [142] N N' → pm_ct N' 142 = pm_upd (pm_upd (pm_upd (pm_ct M 142) K (p0 : Int)) k1 (p1 : Int)) k2 (p2 : Int) → Wp (d + 1) 237 220 [(2, ((116 : Nat) : Int)), (0, (K : Int)), (0, 2), (0, (K1 : Int)), (0, (K2 : Int)), (0, (asked : Int)), (0, (al : Int)), (0, (its : Int)), v8, (9, 0), (9, 0), (9, 0)] [] N' mc ms Q := by
      intro N' v8 lay' F' c'
      refine g_iconst lk_237_220 ?_
      refine g_istore (ls' := [(2, ((116 : Nat) : Int)), (0, (K : Int)), (0, 2), (0, (K1 : Int)), (0, (K2 : Int)), (0, (asked : Int)), (0, (al : Int)), (0, (its : Int)), (0, 0), (9, 0), (9, 0), (9, 0)]) lk_237_221 rfl rfl ?_
      refine talk 6 0 _ _ _ N' rfl al0 lay' (hF.trans (F'.mono (fun a q => by simp at q; simp [q]))) (fun b hb => by rw [F'.ct (by decide)]; exact gE b hb) (fun J b j1 j2 => by rw [F'.ct (by decide)]; exact gE' J b j1 j2) (fun h hh => ?_) (fun J h j1 j2 => ?_) (fun i hi => ?_) (fun J i j1 j2 => by rw [F'.ct (by decide), q143])
      · rw [c']
        rcases (by omega : h = 0 ∨ h = 1 ∨ h = 2) with e | e | e
        · rw [e, pm_upd_ne (by omega), pm_upd_ne (by omega), Nat.mul_zero, Nat.zero_add, pm_upd_eq, hp0]
        · rw [e, pm_upd_ne (by omega), show 4096 * 1 + K = k1 by omega, pm_upd_eq, hp1]
        · rw [e, show 4096 * 2 + K = k2 by omega, pm_upd_eq, hp2]
      · rw [c', pm_upd_ne (by omega), pm_upd_ne (by omega), pm_upd_ne (by omega)]
      · rw [F'.ct (by decide), q143, hX i hi]
        congr 1
        unfold pT
        rw [if_neg (by omega), if_neg (by omega)]
    have s169 : ∀ (N' : pm_M) (v8 : pm_V), Lay N' → Fr [142] N N' → pm_ct N' 142 = pm_upd (pm_upd (pm_ct M 142) K (p0 : Int)) k1 (p1 : Int) → Wp (d + 1) 237 169 [(2, ((116 : Nat) : Int)), (0, (K : Int)), (0, 2), (0, (K1 : Int)), (0, (K2 : Int)), (0, (asked : Int)), (0, (al : Int)), (0, (its : Int)), v8, (9, 0), (9, 0), (9, 0)] [] N' mc ms Q := by
      intro N' v8 lay' F' c'
      have z0 : pm_ct N' 142 k2 = (x02 : Int) := by rw [c', pm_upd_ne (by omega), pm_upd_ne (by omega)]; exact rB2
      have z1 : pm_ct N' 142 m2 = (x12 : Int) := by rw [c', pm_upd_ne (by omega), pm_upd_ne (by omega)]; exact rC2
      have z2 : pm_ct N' 142 o2 = (x22 : Int) := by rw [c', pm_upd_ne (by omega), pm_upd_ne (by omega)]; exact rD2
      have t1 : (8192 : Int) + (K : Int) = (k2 : Int) := by omega
      have t2 : (8192 : Int) + (K1 : Int) = (m2 : Int) := by omega
      have t3 : (8192 : Int) + (K2 : Int) = (o2 : Int) := by omega
      have t4 : min (x02 : Int) (((pr : Int) + (x12 : Int)) + (x22 : Int)) = (p2 : Int) := by omega
      refine g_aload_n lk_237_169 rfl ?_
      refine g_getfield lk_237_170 rfl (lay'.on (by decide) rfl) (v := ((142 : Nat) : Int)) (lay'.rf rfl) ?_
      refine g_sipush lk_237_173 ?_
      refine g_iload_n lk_237_176 rfl ?_
      refine g_iadd lk_237_177 ?_
      refine g_top (z := (8192 + (K : Int))) (z' := (k2 : Int)) (t1) ?_
      refine g_aload_n lk_237_178 rfl ?_
      refine g_getfield lk_237_179 rfl (lay'.on (by decide) rfl) (v := ((142 : Nat) : Int)) (lay'.rf rfl) ?_
      refine g_sipush lk_237_182 ?_
      refine g_iload_n lk_237_185 rfl ?_
      refine g_iadd lk_237_186 ?_
      refine g_top (z := (8192 + (K : Int))) (z' := (k2 : Int)) (t1) ?_
      refine m_iaload (u := []) (M := N') lk_237_187 (lay'.ay (by decide) rfl) (by omega) (j := k2) (by omega) (v := (x02 : Int)) z0 ?_
      refine g_iload lk_237_188 rfl ?_
      refine g_iload lk_237_190 rfl ?_
      refine g_imul lk_237_192 ?_
      refine g_top (z := ((its : Int) * (asked : Int))) (z' := (pr : Int)) (epr) ?_
      refine g_aload_n lk_237_193 rfl ?_
      refine g_getfield lk_237_194 rfl (lay'.on (by decide) rfl) (v := ((142 : Nat) : Int)) (lay'.rf rfl) ?_
      refine g_sipush lk_237_197 ?_
      refine g_iload_n lk_237_200 rfl ?_
      refine g_iadd lk_237_201 ?_
      refine g_top (z := (8192 + (K1 : Int))) (z' := (m2 : Int)) (t2) ?_
      refine m_iaload (u := []) (M := N') lk_237_202 (lay'.ay (by decide) rfl) (by omega) (j := m2) (by omega) (v := (x12 : Int)) z1 ?_
      refine g_iadd lk_237_203 ?_
      refine g_aload_n lk_237_204 rfl ?_
      refine g_getfield lk_237_205 rfl (lay'.on (by decide) rfl) (v := ((142 : Nat) : Int)) (lay'.rf rfl) ?_
      refine g_sipush lk_237_208 ?_
      refine g_iload lk_237_211 rfl ?_
      refine g_iadd lk_237_213 ?_
      refine g_top (z := (8192 + (K2 : Int))) (z' := (o2 : Int)) (t3) ?_
      refine m_iaload (u := []) (M := N') lk_237_214 (lay'.ay (by decide) rfl) (by omega) (j := o2) (by omega) (v := (x22 : Int)) z2 ?_
      refine g_iadd lk_237_215 ?_
      refine g_static (Qc := _) lk_237_216 (by decide) rfl (Nat.le_of_ble_eq_true rfl) rfl rfl (Nat.le_of_ble_eq_true rfl) (Nat.le_of_ble_eq_true rfl) (Nat.zero_le _) (Nat.zero_le _) (c_Mo_lesser (by unfold pm_inI; omega) (by unfold pm_inI; omega)) ?_
      rintro _ N1 ⟨rfl, hN1⟩
      rw [hN1]
      show Wp _ 237 219 [(2, ((116 : Nat) : Int)), (0, (K : Int)), (0, 2), (0, (K1 : Int)), (0, (K2 : Int)), (0, (asked : Int)), (0, (al : Int)), (0, (its : Int)), v8, (9, 0), (9, 0), (9, 0)] [(0, (min (x02 : Int) (((pr : Int) + (x12 : Int)) + (x22 : Int)))), (0, (k2 : Int)), (2, ((142 : Nat) : Int))] N' _ _ _
      refine g_top (z := (min (x02 : Int) (((pr : Int) + (x12 : Int)) + (x22 : Int)))) (z' := (p2 : Int)) (t4) ?_
      have lay2 : Lay (Mu [(142, pm_upd (pm_ct N' 142) k2 (p2 : Int))] N') := lay'.muA (l := []) (a := 142) (f := pm_upd (pm_ct N' 142) k2 (p2 : Int)) rfl rfl
      refine m_iastore (u := []) (u' := [(142, pm_upd (pm_ct N' 142) k2 (p2 : Int))]) (M := N') lk_237_219 (lay'.ay (by decide) rfl) (by omega) (j := k2) (by omega) rfl ?_
      exact s220 _ _ lay2 (F'.trans (Fr.mu _ _ rfl)) (by rw [Mu_ct]; show pm_upd (pm_ct N' 142) k2 _ = _; rw [c'])
    have s124 : ∀ (N' : pm_M) (v8 : pm_V), Lay N' → Fr [142] N N' → pm_ct N' 142 = pm_upd (pm_ct M 142) K (p0 : Int) → Wp (d + 1) 237 124 [(2, ((116 : Nat) : Int)), (0, (K : Int)), (0, 2), (0, (K1 : Int)), (0, (K2 : Int)), (0, (asked : Int)), (0, (al : Int)), (0, (its : Int)), v8, (9, 0), (9, 0), (9, 0)] [] N' mc ms Q := by
      intro N' v8 lay' F' c'
      have z0 : pm_ct N' 142 k1 = (x01 : Int) := by rw [c', pm_upd_ne (by omega)]; exact rB1
      have z1 : pm_ct N' 142 m1 = (x11 : Int) := by rw [c', pm_upd_ne (by omega)]; exact rC1
      have z2 : pm_ct N' 142 o1 = (x21 : Int) := by rw [c', pm_upd_ne (by omega)]; exact rD1
      have t1 : (4096 : Int) + (K : Int) = (k1 : Int) := by omega
      have t2 : (4096 : Int) + (K1 : Int) = (m1 : Int) := by omega
      have t3 : (4096 : Int) + (K2 : Int) = (o1 : Int) := by omega
      have t4 : min (x01 : Int) ((x11 : Int) + (x21 : Int)) = (p1 : Int) := by omega
      refine g_aload_n lk_237_124 rfl ?_
      refine g_getfield lk_237_125 rfl (lay'.on (by decide) rfl) (v := ((142 : Nat) : Int)) (lay'.rf rfl) ?_
      refine g_sipush lk_237_128 ?_
      refine g_iload_n lk_237_131 rfl ?_
      refine g_iadd lk_237_132 ?_
      refine g_top (z := (4096 + (K : Int))) (z' := (k1 : Int)) (t1) ?_
      refine g_aload_n lk_237_133 rfl ?_
      refine g_getfield lk_237_134 rfl (lay'.on (by decide) rfl) (v := ((142 : Nat) : Int)) (lay'.rf rfl) ?_
      refine g_sipush lk_237_137 ?_
      refine g_iload_n lk_237_140 rfl ?_
      refine g_iadd lk_237_141 ?_
      refine g_top (z := (4096 + (K : Int))) (z' := (k1 : Int)) (t1) ?_
      refine m_iaload (u := []) (M := N') lk_237_142 (lay'.ay (by decide) rfl) (by omega) (j := k1) (by omega) (v := (x01 : Int)) z0 ?_
      refine g_aload_n lk_237_143 rfl ?_
      refine g_getfield lk_237_144 rfl (lay'.on (by decide) rfl) (v := ((142 : Nat) : Int)) (lay'.rf rfl) ?_
      refine g_sipush lk_237_147 ?_
      refine g_iload_n lk_237_150 rfl ?_
      refine g_iadd lk_237_151 ?_
      refine g_top (z := (4096 + (K1 : Int))) (z' := (m1 : Int)) (t2) ?_
      refine m_iaload (u := []) (M := N') lk_237_152 (lay'.ay (by decide) rfl) (by omega) (j := m1) (by omega) (v := (x11 : Int)) z1 ?_
      refine g_aload_n lk_237_153 rfl ?_
      refine g_getfield lk_237_154 rfl (lay'.on (by decide) rfl) (v := ((142 : Nat) : Int)) (lay'.rf rfl) ?_
      refine g_sipush lk_237_157 ?_
      refine g_iload lk_237_160 rfl ?_
      refine g_iadd lk_237_162 ?_
      refine g_top (z := (4096 + (K2 : Int))) (z' := (o1 : Int)) (t3) ?_
      refine m_iaload (u := []) (M := N') lk_237_163 (lay'.ay (by decide) rfl) (by omega) (j := o1) (by omega) (v := (x21 : Int)) z2 ?_
      refine g_iadd lk_237_164 ?_
      refine g_static (Qc := _) lk_237_165 (by decide) rfl (Nat.le_of_ble_eq_true rfl) rfl rfl (Nat.le_of_ble_eq_true rfl) (Nat.le_of_ble_eq_true rfl) (Nat.zero_le _) (Nat.zero_le _) (c_Mo_lesser (by unfold pm_inI; omega) (by unfold pm_inI; omega)) ?_
      rintro _ N1 ⟨rfl, hN1⟩
      rw [hN1]
      show Wp _ 237 168 [(2, ((116 : Nat) : Int)), (0, (K : Int)), (0, 2), (0, (K1 : Int)), (0, (K2 : Int)), (0, (asked : Int)), (0, (al : Int)), (0, (its : Int)), v8, (9, 0), (9, 0), (9, 0)] [(0, (min (x01 : Int) ((x11 : Int) + (x21 : Int)))), (0, (k1 : Int)), (2, ((142 : Nat) : Int))] N' _ _ _
      refine g_top (z := (min (x01 : Int) ((x11 : Int) + (x21 : Int)))) (z' := (p1 : Int)) (t4) ?_
      have lay2 : Lay (Mu [(142, pm_upd (pm_ct N' 142) k1 (p1 : Int))] N') := lay'.muA (l := []) (a := 142) (f := pm_upd (pm_ct N' 142) k1 (p1 : Int)) rfl rfl
      refine m_iastore (u := []) (u' := [(142, pm_upd (pm_ct N' 142) k1 (p1 : Int))]) (M := N') lk_237_168 (lay'.ay (by decide) rfl) (by omega) (j := k1) (by omega) rfl ?_
      exact s169 _ _ lay2 (F'.trans (Fr.mu _ _ rfl)) (by rw [Mu_ct]; show pm_upd (pm_ct N' 142) k1 _ = _; rw [c'])
    have z0 : pm_ct N 142 K = (x00 : Int) := by rw [q142]; exact rB0
    have z1 : pm_ct N 142 K1 = (x10 : Int) := by rw [q142]; exact rC0
    have z2 : pm_ct N 142 K2 = (x20 : Int) := by rw [q142]; exact rD0
    have t4 : min (x00 : Int) ((its : Int) + max (x10 : Int) (x20 : Int)) = (p0 : Int) := by omega
    refine g_aload_n lk_237_90 rfl ?_
    refine g_getfield lk_237_91 rfl (lay.on (by decide) rfl) (v := ((142 : Nat) : Int)) (lay.rf rfl) ?_
    refine g_iload_n lk_237_94 rfl ?_
    refine g_aload_n lk_237_95 rfl ?_
    refine g_getfield lk_237_96 rfl (lay.on (by decide) rfl) (v := ((142 : Nat) : Int)) (lay.rf rfl) ?_
    refine g_iload_n lk_237_99 rfl ?_
    refine m_iaload (u := []) (M := N) lk_237_100 (lay.ay (by decide) rfl) (by omega) (j := K) (by omega) (v := (x00 : Int)) z0 ?_
    refine g_iload lk_237_101 rfl ?_
    refine g_aload_n lk_237_103 rfl ?_
    refine g_getfield lk_237_104 rfl (lay.on (by decide) rfl) (v := ((142 : Nat) : Int)) (lay.rf rfl) ?_
    refine g_iload_n lk_237_107 rfl ?_
    refine m_iaload (u := []) (M := N) lk_237_108 (lay.ay (by decide) rfl) (by omega) (j := K1) (by omega) (v := (x10 : Int)) z1 ?_
    refine g_aload_n lk_237_109 rfl ?_
    refine g_getfield lk_237_110 rfl (lay.on (by decide) rfl) (v := ((142 : Nat) : Int)) (lay.rf rfl) ?_
    refine g_iload lk_237_113 rfl ?_
    refine m_iaload (u := []) (M := N) lk_237_115 (lay.ay (by decide) rfl) (by omega) (j := K2) (by omega) (v := (x20 : Int)) z2 ?_
    refine g_static (Qc := _) lk_237_116 (by decide) rfl (Nat.le_of_ble_eq_true rfl) rfl rfl (Nat.le_of_ble_eq_true rfl) (Nat.le_of_ble_eq_true rfl) (Nat.zero_le _) (Nat.zero_le _) (c_Mo_greater (by unfold pm_inI; omega) (by unfold pm_inI; omega)) ?_
    rintro _ N1 ⟨rfl, hN1⟩
    rw [hN1]
    show Wp _ 237 119 [(2, ((116 : Nat) : Int)), (0, (K : Int)), (0, 2), (0, (K1 : Int)), (0, (K2 : Int)), (0, (asked : Int)), (0, (al : Int)), (0, (its : Int)), v8, (9, 0), (9, 0), (9, 0)] [(0, (max (x10 : Int) (x20 : Int))), (0, (its : Int)), (0, (x00 : Int)), (0, (K : Int)), (2, ((142 : Nat) : Int))] N _ _ _
    refine g_iadd lk_237_119 ?_
    refine g_static (Qc := _) lk_237_120 (by decide) rfl (Nat.le_of_ble_eq_true rfl) rfl rfl (Nat.le_of_ble_eq_true rfl) (Nat.le_of_ble_eq_true rfl) (Nat.zero_le _) (Nat.zero_le _) (c_Mo_lesser (by unfold pm_inI; omega) (by unfold pm_inI; omega)) ?_
    rintro _ N2 ⟨rfl, hN2⟩
    rw [hN2]
    show Wp _ 237 123 [(2, ((116 : Nat) : Int)), (0, (K : Int)), (0, 2), (0, (K1 : Int)), (0, (K2 : Int)), (0, (asked : Int)), (0, (al : Int)), (0, (its : Int)), v8, (9, 0), (9, 0), (9, 0)] [(0, (min (x00 : Int) ((its : Int) + (max (x10 : Int) (x20 : Int))))), (0, (K : Int)), (2, ((142 : Nat) : Int))] N _ _ _
    refine g_top (z := (min (x00 : Int) ((its : Int) + (max (x10 : Int) (x20 : Int))))) (z' := (p0 : Int)) (t4) ?_
    have lay3 : Lay (Mu [(142, pm_upd (pm_ct N 142) K (p0 : Int))] N) := lay.muA (l := []) (a := 142) (f := pm_upd (pm_ct N 142) K (p0 : Int)) rfl rfl
    refine m_iastore (u := []) (u' := [(142, pm_upd (pm_ct N 142) K (p0 : Int))]) (M := N) lk_237_123 (lay.ay (by decide) rfl) (by omega) (j := K) (by omega) rfl ?_
    exact s124 _ _ lay3 (Fr.mu _ _ rfl) (by rw [Mu_ct]; show pm_upd (pm_ct N 142) K _ = _; rw [q142])
  -- cells told wrong, by budgets
  have errs : ∀ (m b : Nat) (N : pm_M), b + m = 21 → its ≤ b → Lay N → Fr [144] M N → (∀ e, e < 21 → pm_ct N 144 (21 * K + e) = (pEn its E E1 E2 b e : Int)) → (∀ J e, J ≠ K → e < 21 → pm_ct N 144 (21 * J + e) = pm_ct M 144 (21 * J + e)) → Wp (d + 1) 237 12 [(2, ((116 : Nat) : Int)), (0, (K : Int)), (0, 2), (0, (K1 : Int)), (0, (K2 : Int)), (0, (asked : Int)), (0, (al : Int)), (0, (its : Int)), (0, (b : Int)), (9, 0), (9, 0), (9, 0)] [] N mc ms Q := by
    intro m
    induction m with
    | zero =>
      intro b N hb ib lay hF gE gE'
      have gE2 : ∀ e, e < 21 → pm_ct N 144 (21 * K + e) = (pE its E E1 E2 e : Int) := fun e he => by
        rw [gE e he]
        congr 1
        unfold pEn pE
        by_cases q : its ≤ e
        · rw [if_pos (by omega), if_pos q]
        · rw [if_neg (by omega), if_neg q]
      have F3 : Fr [142, 143, 144] M N := hF.mono (fun a q => by simp at q; simp [q])
      refine g_iload lk_237_12 rfl ?_
      refine g_bipush lk_237_14 ?_
      refine g_icmp (t := 84) lk_237_16 rfl (by first | (unfold pm_inI; omega) | exact pm_and_in _ _ | exact pm_shr_in _ _ | exact pm_or_in _ _ | exact pm_xor_in _ _ | exact pm_shl_in _ _ | exact pm_cmp_in _ _ | exact pm_b8_in _ | (unfold pm_inI; split <;> omega)) (by first | (unfold pm_inI; omega) | exact pm_and_in _ _ | exact pm_shr_in _ _ | exact pm_or_in _ _ | exact pm_xor_in _ _ | exact pm_shl_in _ _ | exact pm_cmp_in _ _ | exact pm_b8_in _ | (unfold pm_inI; split <;> omega)) (fun h1 => ?_) (fun h1 => ?_)
      · replace h1 : 21 ≤ (b : Int) := h1
        refine g_iload lk_237_84 rfl ?_
        refine g_if (t := 90) lk_237_86 rfl (by first | (unfold pm_inI; omega) | exact pm_and_in _ _ | exact pm_shr_in _ _ | exact pm_or_in _ _ | exact pm_xor_in _ _ | exact pm_shl_in _ _ | exact pm_cmp_in _ _ | exact pm_b8_in _ | (unfold pm_inI; split <;> omega)) (fun h2 => ?_) (fun h2 => ?_)
        · replace h2 : (al : Int) = 0 := h2
          exact worth _ (9, 0) (9, 0) (9, 0) N (by omega) lay F3 gE2 gE' (hF.ct (by decide)) (hF.ct (by decide))
        · replace h2 : ¬ ((al : Int) = 0) := h2
          refine g_return lk_237_89 ?_
          rw [hQ]
          rw [if_pos (by omega), if_pos (by omega)]
          refine ⟨rfl, lay, F3, fun J E' B' X' j1 j2 hJ => ⟨fun b hb => ?_, fun h hh => ?_, fun i hi => ?_⟩, gE2, fun h hh => ?_, fun i hi => ?_⟩
          · rw [gE' J b j2 hb]; exact hJ.1 b hb
          · rw [hF.ct (by decide)]; exact hJ.2.1 h hh
          · rw [hF.ct (by decide)]; exact hJ.2.2 i hi
          · rw [hF.ct (by decide)]; exact hB h hh
          · rw [hF.ct (by decide)]; exact hX i hi
      · replace h1 : ¬ (21 ≤ (b : Int)) := h1
        omega
    | succ m ih =>
      intro b N hb ib lay hF gE gE'
      obtain ⟨i0, hi0⟩ : ∃ i, i = 21 * K + b := ⟨_, rfl⟩
      obtain ⟨i1, hi1⟩ : ∃ i, i = 21 * K1 + (b - its) := ⟨_, rfl⟩
      obtain ⟨i2, hi2⟩ : ∃ i, i = 21 * K2 + (b - its) := ⟨_, rfl⟩
      have t0 : (21 * (K : Int)) + (b : Int) = (i0 : Int) := by omega
      have t1 : ((21 * (K1 : Int)) + (b : Int)) - (its : Int) = (i1 : Int) := by omega
      have t2 : ((21 * (K2 : Int)) + (b : Int)) - (its : Int) = (i2 : Int) := by omega
      have q0 : pEn its E E1 E2 b b = E b := by unfold pEn; rw [if_neg (by omega)]
      have z0 := gE b (by omega)
      rw [q0, ← hi0] at z0
      have z1 : pm_ct N 144 i1 = (E1 (b - its) : Int) := by rw [hi1, gE' K1 _ n1 (by omega)]; exact hE1 _ (by omega)
      have z2 : pm_ct N 144 i2 = (E2 (b - its) : Int) := by rw [hi2, gE' K2 _ n2 (by omega)]; exact hE2 _ (by omega)
      have e0' := d0.1 b
      have e1' := d1.1 (b - its)
      have e2' := d2.1 (b - its)
      obtain ⟨x0, h0'⟩ : ∃ x, x = E b := ⟨_, rfl⟩
      obtain ⟨x1, h1'⟩ : ∃ x, x = E1 (b - its) := ⟨_, rfl⟩
      obtain ⟨x2, h2'⟩ : ∃ x, x = E2 (b - its) := ⟨_, rfl⟩
      rw [← h0'] at z0 e0'
      rw [← h1'] at z1 e1'
      rw [← h2'] at z2 e2'
      refine g_iload lk_237_12 rfl ?_
      refine g_bipush lk_237_14 ?_
      refine g_icmp (t := 84) lk_237_16 rfl (by first | (unfold pm_inI; omega) | exact pm_and_in _ _ | exact pm_shr_in _ _ | exact pm_or_in _ _ | exact pm_xor_in _ _ | exact pm_shl_in _ _ | exact pm_cmp_in _ _ | exact pm_b8_in _ | (unfold pm_inI; split <;> omega)) (by first | (unfold pm_inI; omega) | exact pm_and_in _ _ | exact pm_shr_in _ _ | exact pm_or_in _ _ | exact pm_xor_in _ _ | exact pm_shl_in _ _ | exact pm_cmp_in _ _ | exact pm_b8_in _ | (unfold pm_inI; split <;> omega)) (fun h1 => ?_) (fun h1 => ?_)
      · replace h1 : 21 ≤ (b : Int) := h1
        omega
      · replace h1 : ¬ (21 ≤ (b : Int)) := h1
        refine g_aload_n lk_237_19 rfl ?_
        refine g_getfield lk_237_20 rfl (lay.on (by decide) rfl) (v := ((144 : Nat) : Int)) (lay.rf rfl) ?_
        refine g_bipush lk_237_23 ?_
        refine g_iload_n lk_237_25 rfl ?_
        refine g_imul lk_237_26 ?_
        refine g_iload lk_237_27 rfl ?_
        refine g_iadd lk_237_29 ?_
        refine g_top (z := ((21 * (K : Int)) + (b : Int))) (z' := (i0 : Int)) (t0) ?_
        refine g_aload_n lk_237_30 rfl ?_
        refine g_getfield lk_237_31 rfl (lay.on (by decide) rfl) (v := ((144 : Nat) : Int)) (lay.rf rfl) ?_
        refine g_bipush lk_237_34 ?_
        refine g_iload_n lk_237_36 rfl ?_
        refine g_imul lk_237_37 ?_
        refine g_iload lk_237_38 rfl ?_
        refine g_iadd lk_237_40 ?_
        refine g_top (z := ((21 * (K : Int)) + (b : Int))) (z' := (i0 : Int)) (t0) ?_
        refine m_iaload (u := []) (M := N) lk_237_41 (lay.ay (by decide) rfl) (by omega) (j := i0) (by omega) (v := (x0 : Int)) z0 ?_
        refine g_aload_n lk_237_42 rfl ?_
        refine g_getfield lk_237_43 rfl (lay.on (by decide) rfl) (v := ((144 : Nat) : Int)) (lay.rf rfl) ?_
        refine g_bipush lk_237_46 ?_
        refine g_iload_n lk_237_48 rfl ?_
        refine g_imul lk_237_49 ?_
        refine g_iload lk_237_50 rfl ?_
        refine g_iadd lk_237_52 ?_
        refine g_iload lk_237_53 rfl ?_
        refine g_isub lk_237_55 ?_
        refine g_top (z := (((21 * (K1 : Int)) + (b : Int)) - (its : Int))) (z' := (i1 : Int)) (t1) ?_
        refine m_iaload (u := []) (M := N) lk_237_56 (lay.ay (by decide) rfl) (by omega) (j := i1) (by omega) (v := (x1 : Int)) z1 ?_
        refine g_aload_n lk_237_57 rfl ?_
        refine g_getfield lk_237_58 rfl (lay.on (by decide) rfl) (v := ((144 : Nat) : Int)) (lay.rf rfl) ?_
        refine g_bipush lk_237_61 ?_
        refine g_iload lk_237_63 rfl ?_
        refine g_imul lk_237_65 ?_
        refine g_iload lk_237_66 rfl ?_
        refine g_iadd lk_237_68 ?_
        refine g_iload lk_237_69 rfl ?_
        refine g_isub lk_237_71 ?_
        refine g_top (z := (((21 * (K2 : Int)) + (b : Int)) - (its : Int))) (z' := (i2 : Int)) (t2) ?_
        refine m_iaload (u := []) (M := N) lk_237_72 (lay.ay (by decide) rfl) (by omega) (j := i2) (by omega) (v := (x2 : Int)) z2 ?_
        refine g_iadd lk_237_73 ?_
        refine g_static (Qc := _) lk_237_74 (by decide) rfl (Nat.le_of_ble_eq_true rfl) rfl rfl (Nat.le_of_ble_eq_true rfl) (Nat.le_of_ble_eq_true rfl) (Nat.zero_le _) (Nat.zero_le _) (c_Mo_lesser (by unfold pm_inI; omega) (by unfold pm_inI; omega)) ?_
        rintro _ N2 ⟨rfl, hN2⟩
        rw [hN2]
        show Wp _ 237 77 [(2, ((116 : Nat) : Int)), (0, (K : Int)), (0, 2), (0, (K1 : Int)), (0, (K2 : Int)), (0, (asked : Int)), (0, (al : Int)), (0, (its : Int)), (0, (b : Int)), (9, 0), (9, 0), (9, 0)] [(0, (min (x0 : Int) ((x1 : Int) + (x2 : Int)))), (0, (i0 : Int)), (2, ((144 : Nat) : Int))] N _ _ _
        have lay3 : Lay (Mu [(144, pm_upd (pm_ct N 144) i0 (min (x0 : Int) ((x1 : Int) + (x2 : Int))))] N) := lay.muA (l := []) (a := 144) (f := pm_upd (pm_ct N 144) i0 (min (x0 : Int) ((x1 : Int) + (x2 : Int)))) rfl rfl
        refine m_iastore (u := []) (u' := [(144, pm_upd (pm_ct N 144) i0 (min (x0 : Int) ((x1 : Int) + (x2 : Int))))]) (M := N) lk_237_77 (lay.ay (by decide) rfl) (by omega) (j := i0) (by omega) rfl ?_
        refine g_iinc (ls' := [(2, ((116 : Nat) : Int)), (0, (K : Int)), (0, 2), (0, (K1 : Int)), (0, (K2 : Int)), (0, (asked : Int)), (0, (al : Int)), (0, (its : Int)), (0, ((b : Int) + 1)), (9, 0), (9, 0), (9, 0)]) lk_237_78 rfl rfl rfl ?_
        refine g_goto (t := 12) lk_237_81 rfl ?_
        refine ih (b + 1) _ (by omega) (by omega) lay3 (hF.trans (Fr.mu _ _ rfl)) (fun e he => ?_) (fun J e j1 j2 => ?_)
        · rw [Mu_ct]
          show pm_upd (pm_ct N 144) i0 _ _ = _
          by_cases q : e = b
          · rw [q, ← hi0, pm_upd_eq]
            unfold pEn
            rw [if_pos (by omega), ← h0', ← h1', ← h2']; omega
          · rw [pm_upd_ne (by omega), gE e he]
            congr 1
            unfold pEn
            by_cases q2 : its ≤ e ∧ e < b
            · rw [if_pos q2, if_pos (by omega)]
            · rw [if_neg q2, if_neg (by omega)]
        · rw [Mu_ct]
          show pm_upd (pm_ct N 144) i0 _ _ = _
          rw [pm_upd_ne (by omega)]; exact gE' J e j1 j2
  show Wp (d + 1) 237 0 [(2, ((116 : Nat) : Int)), (0, (K : Int)), (0, 2), (0, (K1 : Int)), (0, (K2 : Int)), (0, (asked : Int)), (0, (al : Int)), (9, 0), (9, 0), (9, 0), (9, 0), (9, 0)] [] M mc ms Q
  refine g_aload_n lk_237_0 rfl ?_
  refine g_getfield lk_237_1 rfl (lay0.on (by decide) rfl) (v := ((120 : Nat) : Int)) (lay0.rf rfl) ?_
  refine g_iload_n lk_237_4 rfl ?_
  refine m_iaload (u := []) (M := M) lk_237_5 (lay0.ay (by decide) rfl) (by omega) (j := 2) (by omega) (v := (its : Int)) hits ?_
  refine g_istore (ls' := [(2, ((116 : Nat) : Int)), (0, (K : Int)), (0, 2), (0, (K1 : Int)), (0, (K2 : Int)), (0, (asked : Int)), (0, (al : Int)), (0, (its : Int)), (9, 0), (9, 0), (9, 0), (9, 0)]) lk_237_6 rfl rfl ?_
  refine g_iload lk_237_8 rfl ?_
  refine g_istore (ls' := [(2, ((116 : Nat) : Int)), (0, (K : Int)), (0, 2), (0, (K1 : Int)), (0, (K2 : Int)), (0, (asked : Int)), (0, (al : Int)), (0, (its : Int)), (0, (its : Int)), (9, 0), (9, 0), (9, 0)]) lk_237_10 rfl rfl ?_
  refine errs (21 - its) its M (by omega) (Nat.le_refl _) lay0 (Fr.refl _ _) (fun e he => ?_) (fun J e _ _ => rfl)
  rw [hE e he]
  congr 1
  unfold pEn
  rw [if_neg (by omega)]
