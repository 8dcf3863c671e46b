/-! ===== the law: calls that leave the state ===== -/
theorem g_sload {d y pc e1 e2 : Nat} {e3 : Int} {ls r : List pm_V} {M : pm_M} {cb sb : Nat} {Q : pm_Q} {a : Int} {L : Nat} {X : Nat → Int} (h : Lk y pc .iaload e1 e2 e3) (hs : ScI M L X) (hi : 0 ≤ a ∧ a < (L : Int)) {j : Nat} (hj : a.toNat = j) {v : Int} (hv : X j = v) (k : Wp d y (pc + 1) ls ((0, v) :: r) M cb sb Q) : Wp d y pc ls ((0, a) :: (2, ((0 : Nat) : Int)) :: r) M cb sb Q := by
  obtain ⟨s1, s2, s3, s4⟩ := hs
  refine g_at h ⟨⟨Int.natCast_nonneg 0, s1, s2, hi.1, ?_⟩, ?_⟩
  · show a.toNat < pm_ln M 0
    rw [s3]
    omega
  · show Wp d y (pc + 1) ls ((0, pm_ct M 0 a.toNat) :: r) M cb sb Q
    rw [s4, hj, hv]
    exact k
theorem g_slen {d y pc e1 e2 : Nat} {e3 : Int} {ls r : List pm_V} {M : pm_M} {cb sb : Nat} {Q : pm_Q} {L : Nat} {X : Nat → Int} (h : Lk y pc .arraylength e1 e2 e3) (hs : ScI M L X) (k : Wp d y (pc + 1) ls ((0, (L : Int)) :: r) M cb sb Q) : Wp d y pc ls ((2, ((0 : Nat) : Int)) :: r) M cb sb Q := by
  obtain ⟨s1, s2, s3, s4⟩ := hs
  refine g_at h ⟨Int.natCast_nonneg 0, s1, ?_, ?_, ?_⟩
  · show 100 ≤ pm_kd M 0
    rw [s2]; decide
  · show pm_kd M 0 ≤ 105
    rw [s2]; decide
  · show Wp d y (pc + 1) ls ((0, (pm_ln M 0 : Int)) :: r) M cb sb Q
    rw [s3]; exact k
theorem g_same {d y pc e1 e2 t : Nat} {e3 off v : Int} {ls r : List pm_V} {M : pm_M} {cb sb : Nat} {Q : pm_Q} (h : Lk y pc (.if_icmp .eq off) e1 e2 e3) (ht : ((pc : Int) + off).toNat = t) (k : Wp d y t ls r M cb sb Q) : Wp d y pc ls ((0, v) :: (0, v) :: r) M cb sb Q :=
  g_at h ⟨fun _ => by rw [ht]; exact k, fun q => absurd rfl q⟩
/-- how the law goes on after a call -/
def LwN (D mc ms L i : Nat) (X : Nat → Int) (Q : pm_Q) : Prop := ∀ (N : pm_M) (cb sb : Nat), Inv N L X → mc ≤ cb + 3 → ms ≤ sb + 12288 → Wp (D + 20) 267 1281 [(2, ((0 : Nat) : Int)), (2, ((1 : Nat) : Int)), (2, ((116 : Nat) : Int)), (0, (i : Int))] [] N cb sb Q
theorem ar_in {T : Tab} {a b : Int} {v : Int} {ρ : Option pm_V} (c : inArea T a b) (o : (¬ inArea T a b ∧ ρ = some (0, -1)) ∨ (inArea T a b ∧ ρ = some (0, v))) : ρ = some (0, v) := by
  rcases o with q | q
  · exact absurd c q.1
  · exact q.2
theorem ar_no {T : Tab} {a b : Int} {v : Int} {ρ : Option pm_V} (c : ¬ inArea T a b) (o : (¬ inArea T a b ∧ ρ = some (0, -1)) ∨ (inArea T a b ∧ ρ = some (0, v))) : ρ = some (0, -1) := by
  rcases o with q | q
  · exact q.2
  · exact absurd q.1 c
theorem c_X_conflict0 {d mc ms : Nat} {M : pm_M} (lay : Lay M) {T : Tab} (hT : TabOK T) (hM : TbAt M 24 T) {o p : Int} (ho : pm_inI o) (hp : pm_inI p) :
    pm_E (d + 2) 129 [(2, ((1 : Nat) : Int)), (0, 0), (0, o), (0, p)] M mc ms (fun ρ M' => ρ = some (0, sConf T false o p) ∧ M' = M) := by
  have fc := c_Table_firstClash0 (d := d) (mc := 0) (ms := 0) lay (Or.inr rfl) hT hM ho hp
  show Wp (d + 2) 129 0 [(2, ((1 : Nat) : Int)), (0, 0), (0, o), (0, p)] [] M mc ms _
  refine g_aload_n lk_129_0 rfl ?_
  refine g_getfield lk_129_1 rfl (lay.on (by decide) rfl) (v := ((24 : Nat) : Int)) (lay.rf rfl) ?_
  refine g_iload_n lk_129_4 rfl ?_
  refine g_iload_n lk_129_5 rfl ?_
  refine g_iload_n lk_129_6 rfl ?_
  refine g_virtual (p := 24) (Qc := _) lk_129_7 rfl (Nat.le_of_ble_eq_true rfl) rfl rfl (lay.on (by decide) rfl) (Nat.le_of_ble_eq_true rfl) (Nat.le_of_ble_eq_true rfl) (Nat.zero_le _) (Nat.zero_le _) (fc) ?_
  rintro _ K1 ⟨rfl, eK⟩
  rw [eK]
  show Wp _ 129 10 [(2, ((1 : Nat) : Int)), (0, 0), (0, o), (0, p)] [(0, (sConf T false o p))] M _ _ _
  refine g_ireturn lk_129_10 (fun h => absurd h (by decide)) ?_
  exact ⟨rfl, rfl⟩
theorem c_X_conflict1 {d mc ms : Nat} {M : pm_M} (lay : Lay M) {T : Tab} (hT : TabOK T) (hM : TbAt M 24 T) {o p : Int} (ho : pm_inI o) (hp : pm_inI p) :
    pm_E (d + 2) 129 [(2, ((1 : Nat) : Int)), (0, 1), (0, o), (0, p)] M mc ms (fun ρ M' => ρ = some (0, sConf T true o p) ∧ M' = M) := by
  have fc := c_Table_firstClash1 (d := d) (mc := 0) (ms := 0) lay (Or.inr rfl) hT hM ho hp
  show Wp (d + 2) 129 0 [(2, ((1 : Nat) : Int)), (0, 1), (0, o), (0, p)] [] M mc ms _
  refine g_aload_n lk_129_0 rfl ?_
  refine g_getfield lk_129_1 rfl (lay.on (by decide) rfl) (v := ((24 : Nat) : Int)) (lay.rf rfl) ?_
  refine g_iload_n lk_129_4 rfl ?_
  refine g_iload_n lk_129_5 rfl ?_
  refine g_iload_n lk_129_6 rfl ?_
  refine g_virtual (p := 24) (Qc := _) lk_129_7 rfl (Nat.le_of_ble_eq_true rfl) rfl rfl (lay.on (by decide) rfl) (Nat.le_of_ble_eq_true rfl) (Nat.le_of_ble_eq_true rfl) (Nat.zero_le _) (Nat.zero_le _) (fc) ?_
  rintro _ K1 ⟨rfl, eK⟩
  rw [eK]
  show Wp _ 129 10 [(2, ((1 : Nat) : Int)), (0, 1), (0, o), (0, p)] [(0, (sConf T true o p))] M _ _ _
  refine g_ireturn lk_129_10 (fun h => absurd h (by decide)) ?_
  exact ⟨rfl, rfl⟩
set_option maxHeartbeats 4000000 in
theorem lw_fault {D mc ms L i : Nat} {X : Nat → Int} {M : pm_M} {Q : pm_Q} (inv : Inv M L X) (hX : ∀ j, pm_inI (X j)) (hi : i + 6 ≤ L) (L3 : L ≤ 3072) (b1 : 3 ≤ mc) (b2 : 12288 ≤ ms) (nx : LwN D mc ms L i X Q) :
    Wp (D + 20) 267 279 [(2, ((0 : Nat) : Int)), (2, ((1 : Nat) : Int)), (2, ((116 : Nat) : Int)), (0, (i : Int))] [] M mc ms Q := by
  obtain ⟨T, Ts, ps, dps, na, aa, n, tp, f, p, hSX, hSM, hTb, hAx⟩ := inv
  have scM := hAx.2.2.2
  have lay := hSX.1
  obtain ⟨okT, okX, okA⟩ := id hTb
  obtain ⟨a1, e1⟩ : ∃ a, X (i + 1) = a := ⟨_, rfl⟩
  have p1 := hX (i + 1)
  rw [e1] at p1
  refine g_aload_n lk_267_279 rfl ?_
  refine g_aload_n lk_267_280 rfl ?_
  refine g_iload_n lk_267_281 rfl ?_
  refine g_iconst lk_267_282 ?_
  refine g_iadd lk_267_283 ?_
  refine g_sload lk_267_284 scM (by omega) (j := i + 1) (by omega) (v := a1) e1 ?_
  refine g_virtual (p := 1) (Qc := _) lk_267_285 rfl (Nat.le_of_ble_eq_true rfl) rfl rfl (lay.on (by decide) rfl) (Nat.le_of_ble_eq_true rfl) (Nat.le_of_ble_eq_true rfl) (Nat.zero_le _) (Nat.zero_le _) (c_X_fault (D := D + 19) (mc := 0) (ms := 0) lay hAx.2.2.1.1 hAx.2.2.1.2.1 p1) ?_
  rintro _ K1 ⟨rfl, eK⟩
  rw [eK]
  show Wp _ 267 288 [(2, ((0 : Nat) : Int)), (2, ((1 : Nat) : Int)), (2, ((116 : Nat) : Int)), (0, (i : Int))] [(0, (if a1 = 0 then f else if a1 = 1 then p else -1))] M _ _ _
  refine g_aload_n lk_267_288 rfl ?_
  refine g_aload_n lk_267_289 rfl ?_
  refine g_iload_n lk_267_290 rfl ?_
  refine g_iconst lk_267_291 ?_
  refine g_iadd lk_267_292 ?_
  refine g_sload lk_267_293 scM (by omega) (j := i + 1) (by omega) (v := a1) e1 ?_
  refine g_virtual (p := 116) (Qc := _) lk_267_294 rfl (Nat.le_of_ble_eq_true rfl) rfl rfl (lay.on (by decide) rfl) (Nat.le_of_ble_eq_true rfl) (Nat.le_of_ble_eq_true rfl) (Nat.zero_le _) (Nat.zero_le _) (c_Mo_fault (D := D + 19) (mc := 0) (ms := 0) lay hAx.2.2.1.2.2.1 hAx.2.2.1.2.2.2 p1) ?_
  rintro _ K2 ⟨rfl, lay2, eK2⟩
  show Wp _ 267 297 [(2, ((0 : Nat) : Int)), (2, ((1 : Nat) : Int)), (2, ((116 : Nat) : Int)), (0, (i : Int))] [(0, (if a1 = 0 then f else if a1 = 1 then p else -1)), (0, (if a1 = 0 then f else if a1 = 1 then p else -1))] K2 _ _ _
  refine g_same (t := 1281) lk_267_297 rfl ?_
  have m2 : MF [] [0] M K2 := by rw [eK2]; exact MF.th (by decide) _
  exact nx K2 _ _ ⟨T, Ts, ps, dps, na, aa, n, tp, f, p, hSX.mf m2 lay2 (by decide), hSM.mf m2 lay2 (by decide) (by decide), hTb, hAx.mf m2 (by decide) (by decide)⟩ (by omega) (by omega)
set_option maxHeartbeats 4000000 in
theorem lw_about {D mc ms L i : Nat} {X : Nat → Int} {M : pm_M} {Q : pm_Q} (inv : Inv M L X) (hX : ∀ j, pm_inI (X j)) (hi : i + 6 ≤ L) (L3 : L ≤ 3072) (b1 : 3 ≤ mc) (b2 : 12288 ≤ ms) (nx : LwN D mc ms L i X Q) :
    Wp (D + 20) 267 302 [(2, ((0 : Nat) : Int)), (2, ((1 : Nat) : Int)), (2, ((116 : Nat) : Int)), (0, (i : Int))] [] M mc ms Q := by
  obtain ⟨T, Ts, ps, dps, na, aa, n, tp, f, p, hSX, hSM, hTb, hAx⟩ := inv
  have scM := hAx.2.2.2
  have lay := hSX.1
  obtain ⟨okT, okX, okA⟩ := id hTb
  obtain ⟨a1, e1⟩ : ∃ a, X (i + 1) = a := ⟨_, rfl⟩
  have p1 := hX (i + 1)
  rw [e1] at p1
  refine g_aload_n lk_267_302 rfl ?_
  refine g_aload_n lk_267_303 rfl ?_
  refine g_iload_n lk_267_304 rfl ?_
  refine g_iconst lk_267_305 ?_
  refine g_iadd lk_267_306 ?_
  refine g_sload lk_267_307 scM (by omega) (j := i + 1) (by omega) (v := a1) e1 ?_
  refine g_virtual (p := 1) (Qc := _) lk_267_308 rfl (Nat.le_of_ble_eq_true rfl) rfl rfl (lay.on (by decide) rfl) (Nat.le_of_ble_eq_true rfl) (Nat.le_of_ble_eq_true rfl) (Nat.zero_le _) (Nat.zero_le _) (c_X_about (d := D + 14) (mc := 0) (ms := 0) lay okT hSX.2.1 hSX.2.2.1.2.1 hSX.2.2.2.1.2.1 hAx.1.1.1 p1) ?_
  rintro _ K1 ⟨rfl, eK⟩
  rw [eK]
  show Wp _ 267 311 [(2, ((0 : Nat) : Int)), (2, ((1 : Nat) : Int)), (2, ((116 : Nat) : Int)), (0, (i : Int))] [(0, (sAbout T Ts.length na n a1))] M _ _ _
  refine g_aload_n lk_267_311 rfl ?_
  refine g_aload_n lk_267_312 rfl ?_
  refine g_iload_n lk_267_313 rfl ?_
  refine g_iconst lk_267_314 ?_
  refine g_iadd lk_267_315 ?_
  refine g_sload lk_267_316 scM (by omega) (j := i + 1) (by omega) (v := a1) e1 ?_
  refine g_virtual (p := 116) (Qc := _) lk_267_317 rfl (Nat.le_of_ble_eq_true rfl) rfl rfl (lay.on (by decide) rfl) (Nat.le_of_ble_eq_true rfl) (Nat.le_of_ble_eq_true rfl) (Nat.zero_le _) (Nat.zero_le _) (c_Mo_about (d := D + 17) (mc := 0) (ms := 0) lay okT hSM.2.1 hSM.2.2.1.2.1 hSM.2.2.2.1.2.1 hAx.1.2.1.1 p1) ?_
  rintro _ K2 ⟨rfl, lay2, eK2⟩
  show Wp _ 267 320 [(2, ((0 : Nat) : Int)), (2, ((1 : Nat) : Int)), (2, ((116 : Nat) : Int)), (0, (i : Int))] [(0, (sAbout T Ts.length na n a1)), (0, (sAbout T Ts.length na n a1))] K2 _ _ _
  refine g_same (t := 1281) lk_267_320 rfl ?_
  have m2 : MF [] [0] M K2 := by rw [eK2]; exact MF.th (by decide) _
  exact nx K2 _ _ ⟨T, Ts, ps, dps, na, aa, n, tp, f, p, hSX.mf m2 lay2 (by decide), hSM.mf m2 lay2 (by decide) (by decide), hTb, hAx.mf m2 (by decide) (by decide)⟩ (by omega) (by omega)
set_option maxHeartbeats 4000000 in
theorem lw_cell {D mc ms L i : Nat} {X : Nat → Int} {M : pm_M} {Q : pm_Q} (inv : Inv M L X) (hX : ∀ j, pm_inI (X j)) (hi : i + 6 ≤ L) (L3 : L ≤ 3072) (b1 : 3 ≤ mc) (b2 : 12288 ≤ ms) (nx : LwN D mc ms L i X Q) :
    Wp (D + 20) 267 325 [(2, ((0 : Nat) : Int)), (2, ((1 : Nat) : Int)), (2, ((116 : Nat) : Int)), (0, (i : Int))] [] M mc ms Q := by
  obtain ⟨T, Ts, ps, dps, na, aa, n, tp, f, p, hSX, hSM, hTb, hAx⟩ := inv
  have scM := hAx.2.2.2
  have lay := hSX.1
  obtain ⟨okT, okX, okA⟩ := id hTb
  obtain ⟨a1, e1⟩ : ∃ a, X (i + 1) = a := ⟨_, rfl⟩
  have p1 := hX (i + 1)
  rw [e1] at p1
  obtain ⟨a2, e2⟩ : ∃ a, X (i + 2) = a := ⟨_, rfl⟩
  have p2 := hX (i + 2)
  rw [e2] at p2
  refine g_aload_n lk_267_325 rfl ?_
  refine g_aload_n lk_267_326 rfl ?_
  refine g_iload_n lk_267_327 rfl ?_
  refine g_iconst lk_267_328 ?_
  refine g_iadd lk_267_329 ?_
  refine g_sload lk_267_330 scM (by omega) (j := i + 1) (by omega) (v := a1) e1 ?_
  refine g_aload_n lk_267_331 rfl ?_
  refine g_iload_n lk_267_332 rfl ?_
  refine g_iconst lk_267_333 ?_
  refine g_iadd lk_267_334 ?_
  refine g_sload lk_267_335 scM (by omega) (j := i + 2) (by omega) (v := a2) e2 ?_
  refine g_virtual (p := 1) (Qc := _) lk_267_336 rfl (Nat.le_of_ble_eq_true rfl) rfl rfl (lay.on (by decide) rfl) (Nat.le_of_ble_eq_true rfl) (Nat.le_of_ble_eq_true rfl) (Nat.zero_le _) (Nat.zero_le _) (c_X_cell (d := D + 18) (mc := 0) (ms := 0) lay okT hSX.2.1 p1 p2) ?_
  rintro _ K1 ⟨rfl, eK⟩
  rw [eK]
  show Wp _ 267 339 [(2, ((0 : Nat) : Int)), (2, ((1 : Nat) : Int)), (2, ((116 : Nat) : Int)), (0, (i : Int))] [(0, (sCell T a1 a2))] M _ _ _
  refine g_aload_n lk_267_339 rfl ?_
  refine g_aload_n lk_267_340 rfl ?_
  refine g_iload_n lk_267_341 rfl ?_
  refine g_iconst lk_267_342 ?_
  refine g_iadd lk_267_343 ?_
  refine g_sload lk_267_344 scM (by omega) (j := i + 1) (by omega) (v := a1) e1 ?_
  refine g_aload_n lk_267_345 rfl ?_
  refine g_iload_n lk_267_346 rfl ?_
  refine g_iconst lk_267_347 ?_
  refine g_iadd lk_267_348 ?_
  refine g_sload lk_267_349 scM (by omega) (j := i + 2) (by omega) (v := a2) e2 ?_
  refine g_virtual (p := 116) (Qc := _) lk_267_350 rfl (Nat.le_of_ble_eq_true rfl) rfl rfl (lay.on (by decide) rfl) (Nat.le_of_ble_eq_true rfl) (Nat.le_of_ble_eq_true rfl) (Nat.zero_le _) (Nat.zero_le _) (c_Mo_cell (d := D + 17) (mc := 0) (ms := 0) lay okT hSM.2.1 p1 p2) ?_
  rintro _ K2 ⟨rfl, lay2, eK2⟩
  show Wp _ 267 353 [(2, ((0 : Nat) : Int)), (2, ((1 : Nat) : Int)), (2, ((116 : Nat) : Int)), (0, (i : Int))] [(0, (sCell T a1 a2)), (0, (sCell T a1 a2))] K2 _ _ _
  refine g_same (t := 1281) lk_267_353 rfl ?_
  have m2 : MF [] [0] M K2 := by rw [eK2]; exact MF.th (by decide) _
  exact nx K2 _ _ ⟨T, Ts, ps, dps, na, aa, n, tp, f, p, hSX.mf m2 lay2 (by decide), hSM.mf m2 lay2 (by decide) (by decide), hTb, hAx.mf m2 (by decide) (by decide)⟩ (by omega) (by omega)
set_option maxHeartbeats 4000000 in
theorem lw_area {D mc ms L i : Nat} {X : Nat → Int} {M : pm_M} {Q : pm_Q} (inv : Inv M L X) (hX : ∀ j, pm_inI (X j)) (hi : i + 6 ≤ L) (L3 : L ≤ 3072) (b1 : 3 ≤ mc) (b2 : 12288 ≤ ms) (nx : LwN D mc ms L i X Q) :
    Wp (D + 20) 267 358 [(2, ((0 : Nat) : Int)), (2, ((1 : Nat) : Int)), (2, ((116 : Nat) : Int)), (0, (i : Int))] [] M mc ms Q := by
  obtain ⟨T, Ts, ps, dps, na, aa, n, tp, f, p, hSX, hSM, hTb, hAx⟩ := inv
  have scM := hAx.2.2.2
  have lay := hSX.1
  obtain ⟨okT, okX, okA⟩ := id hTb
  obtain ⟨a1, e1⟩ : ∃ a, X (i + 1) = a := ⟨_, rfl⟩
  have p1 := hX (i + 1)
  rw [e1] at p1
  obtain ⟨a2, e2⟩ : ∃ a, X (i + 2) = a := ⟨_, rfl⟩
  have p2 := hX (i + 2)
  rw [e2] at p2
  obtain ⟨a3, e3⟩ : ∃ a, X (i + 3) = a := ⟨_, rfl⟩
  have p3 := hX (i + 3)
  rw [e3] at p3
  by_cases c : inArea T a1 a2
  · skip
    refine g_aload_n lk_267_358 rfl ?_
    refine g_aload_n lk_267_359 rfl ?_
    refine g_iload_n lk_267_360 rfl ?_
    refine g_iconst lk_267_361 ?_
    refine g_iadd lk_267_362 ?_
    refine g_sload lk_267_363 scM (by omega) (j := i + 1) (by omega) (v := a1) e1 ?_
    refine g_aload_n lk_267_364 rfl ?_
    refine g_iload_n lk_267_365 rfl ?_
    refine g_iconst lk_267_366 ?_
    refine g_iadd lk_267_367 ?_
    refine g_sload lk_267_368 scM (by omega) (j := i + 2) (by omega) (v := a2) e2 ?_
    refine g_aload_n lk_267_369 rfl ?_
    refine g_iload_n lk_267_370 rfl ?_
    refine g_iconst lk_267_371 ?_
    refine g_iadd lk_267_372 ?_
    refine g_sload lk_267_373 scM (by omega) (j := i + 3) (by omega) (v := a3) e3 ?_
    refine g_virtual (p := 1) (Qc := _) lk_267_374 rfl (Nat.le_of_ble_eq_true rfl) rfl rfl (lay.on (by decide) rfl) (Nat.le_of_ble_eq_true rfl) (Nat.le_of_ble_eq_true rfl) (Nat.zero_le _) (Nat.zero_le _) (c_X_area (d := D + 14) (mc := 0) (ms := 0) lay okT hSX.2.1 p1 p2 p3) ?_
    rintro ρ K1 ⟨o1, eK⟩
    obtain rfl := ar_in c o1
    rw [eK]
    show Wp _ 267 377 [(2, ((0 : Nat) : Int)), (2, ((1 : Nat) : Int)), (2, ((116 : Nat) : Int)), (0, (i : Int))] [(0, (sArea T a1.toNat a2.toNat a3))] M _ _ _
    refine g_aload_n lk_267_377 rfl ?_
    refine g_aload_n lk_267_378 rfl ?_
    refine g_iload_n lk_267_379 rfl ?_
    refine g_iconst lk_267_380 ?_
    refine g_iadd lk_267_381 ?_
    refine g_sload lk_267_382 scM (by omega) (j := i + 1) (by omega) (v := a1) e1 ?_
    refine g_aload_n lk_267_383 rfl ?_
    refine g_iload_n lk_267_384 rfl ?_
    refine g_iconst lk_267_385 ?_
    refine g_iadd lk_267_386 ?_
    refine g_sload lk_267_387 scM (by omega) (j := i + 2) (by omega) (v := a2) e2 ?_
    refine g_aload_n lk_267_388 rfl ?_
    refine g_iload_n lk_267_389 rfl ?_
    refine g_iconst lk_267_390 ?_
    refine g_iadd lk_267_391 ?_
    refine g_sload lk_267_392 scM (by omega) (j := i + 3) (by omega) (v := a3) e3 ?_
    refine g_virtual (p := 116) (Qc := _) lk_267_393 rfl (Nat.le_of_ble_eq_true rfl) rfl rfl (lay.on (by decide) rfl) (Nat.le_of_ble_eq_true rfl) (Nat.le_of_ble_eq_true rfl) (Nat.zero_le _) (Nat.zero_le _) (c_Mo_area (d := D + 16) (mc := 0) (ms := 0) lay okT hSM.2.1 p1 p2 p3) ?_
    rintro ρ K2 ⟨o2, lay2, eK2⟩
    obtain rfl := ar_in c o2
    show Wp _ 267 396 [(2, ((0 : Nat) : Int)), (2, ((1 : Nat) : Int)), (2, ((116 : Nat) : Int)), (0, (i : Int))] [(0, (sArea T a1.toNat a2.toNat a3)), (0, (sArea T a1.toNat a2.toNat a3))] K2 _ _ _
    refine g_same (t := 1281) lk_267_396 rfl ?_
    have m2 : MF [] [0] M K2 := by rw [eK2]; exact MF.th (by decide) _
    exact nx K2 _ _ ⟨T, Ts, ps, dps, na, aa, n, tp, f, p, hSX.mf m2 lay2 (by decide), hSM.mf m2 lay2 (by decide) (by decide), hTb, hAx.mf m2 (by decide) (by decide)⟩ (by omega) (by omega)
  · skip
    refine g_aload_n lk_267_358 rfl ?_
    refine g_aload_n lk_267_359 rfl ?_
    refine g_iload_n lk_267_360 rfl ?_
    refine g_iconst lk_267_361 ?_
    refine g_iadd lk_267_362 ?_
    refine g_sload lk_267_363 scM (by omega) (j := i + 1) (by omega) (v := a1) e1 ?_
    refine g_aload_n lk_267_364 rfl ?_
    refine g_iload_n lk_267_365 rfl ?_
    refine g_iconst lk_267_366 ?_
    refine g_iadd lk_267_367 ?_
    refine g_sload lk_267_368 scM (by omega) (j := i + 2) (by omega) (v := a2) e2 ?_
    refine g_aload_n lk_267_369 rfl ?_
    refine g_iload_n lk_267_370 rfl ?_
    refine g_iconst lk_267_371 ?_
    refine g_iadd lk_267_372 ?_
    refine g_sload lk_267_373 scM (by omega) (j := i + 3) (by omega) (v := a3) e3 ?_
    refine g_virtual (p := 1) (Qc := _) lk_267_374 rfl (Nat.le_of_ble_eq_true rfl) rfl rfl (lay.on (by decide) rfl) (Nat.le_of_ble_eq_true rfl) (Nat.le_of_ble_eq_true rfl) (Nat.zero_le _) (Nat.zero_le _) (c_X_area (d := D + 14) (mc := 0) (ms := 0) lay okT hSX.2.1 p1 p2 p3) ?_
    rintro ρ K1 ⟨o1, eK⟩
    obtain rfl := ar_no c o1
    rw [eK]
    show Wp _ 267 377 [(2, ((0 : Nat) : Int)), (2, ((1 : Nat) : Int)), (2, ((116 : Nat) : Int)), (0, (i : Int))] [(0, (-1))] M _ _ _
    refine g_aload_n lk_267_377 rfl ?_
    refine g_aload_n lk_267_378 rfl ?_
    refine g_iload_n lk_267_379 rfl ?_
    refine g_iconst lk_267_380 ?_
    refine g_iadd lk_267_381 ?_
    refine g_sload lk_267_382 scM (by omega) (j := i + 1) (by omega) (v := a1) e1 ?_
    refine g_aload_n lk_267_383 rfl ?_
    refine g_iload_n lk_267_384 rfl ?_
    refine g_iconst lk_267_385 ?_
    refine g_iadd lk_267_386 ?_
    refine g_sload lk_267_387 scM (by omega) (j := i + 2) (by omega) (v := a2) e2 ?_
    refine g_aload_n lk_267_388 rfl ?_
    refine g_iload_n lk_267_389 rfl ?_
    refine g_iconst lk_267_390 ?_
    refine g_iadd lk_267_391 ?_
    refine g_sload lk_267_392 scM (by omega) (j := i + 3) (by omega) (v := a3) e3 ?_
    refine g_virtual (p := 116) (Qc := _) lk_267_393 rfl (Nat.le_of_ble_eq_true rfl) rfl rfl (lay.on (by decide) rfl) (Nat.le_of_ble_eq_true rfl) (Nat.le_of_ble_eq_true rfl) (Nat.zero_le _) (Nat.zero_le _) (c_Mo_area (d := D + 16) (mc := 0) (ms := 0) lay okT hSM.2.1 p1 p2 p3) ?_
    rintro ρ K2 ⟨o2, lay2, eK2⟩
    obtain rfl := ar_no c o2
    show Wp _ 267 396 [(2, ((0 : Nat) : Int)), (2, ((1 : Nat) : Int)), (2, ((116 : Nat) : Int)), (0, (i : Int))] [(0, (-1)), (0, (-1))] K2 _ _ _
    refine g_same (t := 1281) lk_267_396 rfl ?_
    have m2 : MF [] [0] M K2 := by rw [eK2]; exact MF.th (by decide) _
    exact nx K2 _ _ ⟨T, Ts, ps, dps, na, aa, n, tp, f, p, hSX.mf m2 lay2 (by decide), hSM.mf m2 lay2 (by decide) (by decide), hTb, hAx.mf m2 (by decide) (by decide)⟩ (by omega) (by omega)
set_option maxHeartbeats 4000000 in
theorem lw_greatest {D mc ms L i : Nat} {X : Nat → Int} {M : pm_M} {Q : pm_Q} (inv : Inv M L X) (hX : ∀ j, pm_inI (X j)) (hi : i + 6 ≤ L) (L3 : L ≤ 3072) (b1 : 3 ≤ mc) (b2 : 12288 ≤ ms) (nx : LwN D mc ms L i X Q) :
    Wp (D + 20) 267 401 [(2, ((0 : Nat) : Int)), (2, ((1 : Nat) : Int)), (2, ((116 : Nat) : Int)), (0, (i : Int))] [] M mc ms Q := by
  obtain ⟨T, Ts, ps, dps, na, aa, n, tp, f, p, hSX, hSM, hTb, hAx⟩ := inv
  have scM := hAx.2.2.2
  have lay := hSX.1
  obtain ⟨okT, okX, okA⟩ := id hTb
  obtain ⟨a1, e1⟩ : ∃ a, X (i + 1) = a := ⟨_, rfl⟩
  have p1 := hX (i + 1)
  rw [e1] at p1
  obtain ⟨a2, e2⟩ : ∃ a, X (i + 2) = a := ⟨_, rfl⟩
  have p2 := hX (i + 2)
  rw [e2] at p2
  refine g_aload_n lk_267_401 rfl ?_
  refine g_aload_n lk_267_402 rfl ?_
  refine g_iload_n lk_267_403 rfl ?_
  refine g_iconst lk_267_404 ?_
  refine g_iadd lk_267_405 ?_
  refine g_sload lk_267_406 scM (by omega) (j := i + 1) (by omega) (v := a1) e1 ?_
  refine g_aload_n lk_267_407 rfl ?_
  refine g_iload_n lk_267_408 rfl ?_
  refine g_iconst lk_267_409 ?_
  refine g_iadd lk_267_410 ?_
  refine g_sload lk_267_411 scM (by omega) (j := i + 2) (by omega) (v := a2) e2 ?_
  refine g_virtual (p := 1) (Qc := _) lk_267_412 rfl (Nat.le_of_ble_eq_true rfl) rfl rfl (lay.on (by decide) rfl) (Nat.le_of_ble_eq_true rfl) (Nat.le_of_ble_eq_true rfl) (Nat.zero_le _) (Nat.zero_le _) (c_X_greatest (d := D + 15) (mc := 0) (ms := 0) lay okT hSX.2.1 p1 p2) ?_
  rintro _ K1 ⟨rfl, lay1, fr1⟩
  have sx1 := hSX.gr fr1.gr lay1 (hSX.2.2.2.2.gr fr1.gr lay.1 (by decide)) (by decide)
  have sm1 := hSM.gr fr1.gr lay1 (by decide)
  have ax1 := hAx.gr fr1.gr lay.1 (by decide)
  have scK1 := ax1.2.2.2
  show Wp _ 267 415 [(2, ((0 : Nat) : Int)), (2, ((1 : Nat) : Int)), (2, ((116 : Nat) : Int)), (0, (i : Int))] [(0, (sGreat T a1 a2))] K1 _ _ _
  refine g_aload_n lk_267_415 rfl ?_
  refine g_aload_n lk_267_416 rfl ?_
  refine g_iload_n lk_267_417 rfl ?_
  refine g_iconst lk_267_418 ?_
  refine g_iadd lk_267_419 ?_
  refine g_sload lk_267_420 scK1 (by omega) (j := i + 1) (by omega) (v := a1) e1 ?_
  refine g_aload_n lk_267_421 rfl ?_
  refine g_iload_n lk_267_422 rfl ?_
  refine g_iconst lk_267_423 ?_
  refine g_iadd lk_267_424 ?_
  refine g_sload lk_267_425 scK1 (by omega) (j := i + 2) (by omega) (v := a2) e2 ?_
  refine g_virtual (p := 116) (Qc := _) lk_267_426 rfl (Nat.le_of_ble_eq_true rfl) rfl rfl (lay1.on (by decide) rfl) (Nat.le_of_ble_eq_true rfl) (Nat.le_of_ble_eq_true rfl) (Nat.zero_le _) (Nat.zero_le _) (c_Mo_greatest (d := D + 16) (mc := 0) (ms := 0) lay1 okT sm1.2.1 p1 p2) ?_
  rintro _ K2 ⟨rfl, lay2, eK2⟩
  show Wp _ 267 429 [(2, ((0 : Nat) : Int)), (2, ((1 : Nat) : Int)), (2, ((116 : Nat) : Int)), (0, (i : Int))] [(0, (sGreat T a1 a2)), (0, (sGreat T a1 a2))] K2 _ _ _
  refine g_same (t := 1281) lk_267_429 rfl ?_
  have m2 : MF [] [0] K1 K2 := by rw [eK2]; exact MF.th (by decide) _
  exact nx K2 _ _ ⟨T, Ts, ps, dps, na, aa, n, tp, f, p, sx1.mf m2 lay2 (by decide), sm1.mf m2 lay2 (by decide) (by decide), hTb, ax1.mf m2 (by decide) (by decide)⟩ (by omega) (by omega)
set_option maxHeartbeats 4000000 in
theorem lw_cover {D mc ms L i : Nat} {X : Nat → Int} {M : pm_M} {Q : pm_Q} (inv : Inv M L X) (hX : ∀ j, pm_inI (X j)) (hi : i + 6 ≤ L) (L3 : L ≤ 3072) (b1 : 3 ≤ mc) (b2 : 12288 ≤ ms) (nx : LwN D mc ms L i X Q) :
    Wp (D + 20) 267 434 [(2, ((0 : Nat) : Int)), (2, ((1 : Nat) : Int)), (2, ((116 : Nat) : Int)), (0, (i : Int))] [] M mc ms Q := by
  obtain ⟨T, Ts, ps, dps, na, aa, n, tp, f, p, hSX, hSM, hTb, hAx⟩ := inv
  have scM := hAx.2.2.2
  have lay := hSX.1
  obtain ⟨okT, okX, okA⟩ := id hTb
  obtain ⟨a1, e1⟩ : ∃ a, X (i + 1) = a := ⟨_, rfl⟩
  have p1 := hX (i + 1)
  rw [e1] at p1
  refine g_aload_n lk_267_434 rfl ?_
  refine g_aload_n lk_267_435 rfl ?_
  refine g_iload_n lk_267_436 rfl ?_
  refine g_iconst lk_267_437 ?_
  refine g_iadd lk_267_438 ?_
  refine g_sload lk_267_439 scM (by omega) (j := i + 1) (by omega) (v := a1) e1 ?_
  refine g_virtual (p := 1) (Qc := _) lk_267_440 rfl (Nat.le_of_ble_eq_true rfl) rfl rfl (lay.on (by decide) rfl) (Nat.le_of_ble_eq_true rfl) (Nat.le_of_ble_eq_true rfl) (Nat.zero_le _) (Nat.zero_le _) (c_X_cover (d := D + 8) (mc := 0) (ms := 0) lay okT hSX.2.1 p1) ?_
  rintro _ K1 ⟨rfl, lay1, fr1⟩
  have sx1 := hSX.gr fr1.gr lay1 (hSX.2.2.2.2.gr fr1.gr lay.1 (by decide)) (by decide)
  have sm1 := hSM.gr fr1.gr lay1 (by decide)
  have ax1 := hAx.gr fr1.gr lay.1 (by decide)
  have scK1 := ax1.2.2.2
  show Wp _ 267 443 [(2, ((0 : Nat) : Int)), (2, ((1 : Nat) : Int)), (2, ((116 : Nat) : Int)), (0, (i : Int))] [(0, (sCover T a1))] K1 _ _ _
  refine g_aload_n lk_267_443 rfl ?_
  refine g_aload_n lk_267_444 rfl ?_
  refine g_iload_n lk_267_445 rfl ?_
  refine g_iconst lk_267_446 ?_
  refine g_iadd lk_267_447 ?_
  refine g_sload lk_267_448 scK1 (by omega) (j := i + 1) (by omega) (v := a1) e1 ?_
  refine g_virtual (p := 116) (Qc := _) lk_267_449 rfl (Nat.le_of_ble_eq_true rfl) rfl rfl (lay1.on (by decide) rfl) (Nat.le_of_ble_eq_true rfl) (Nat.le_of_ble_eq_true rfl) (Nat.zero_le _) (Nat.zero_le _) (c_Mo_cover (d := D + 14) (mc := 0) (ms := 0) lay1 okT okX sm1.2.1 p1) ?_
  rintro _ K2 ⟨rfl, lay2, m2⟩
  show Wp _ 267 452 [(2, ((0 : Nat) : Int)), (2, ((1 : Nat) : Int)), (2, ((116 : Nat) : Int)), (0, (i : Int))] [(0, (sCover T a1)), (0, (sCover T a1))] K2 _ _ _
  refine g_same (t := 1281) lk_267_452 rfl ?_
  exact nx K2 _ _ ⟨T, Ts, ps, dps, na, aa, n, tp, f, p, sx1.mf m2 lay2 (by decide), sm1.mf m2 lay2 (by decide) (by decide), hTb, ax1.mf m2 (by decide) (by decide)⟩ (by omega) (by omega)
set_option maxHeartbeats 4000000 in
theorem lw_full {D mc ms L i : Nat} {X : Nat → Int} {M : pm_M} {Q : pm_Q} (inv : Inv M L X) (hX : ∀ j, pm_inI (X j)) (hi : i + 6 ≤ L) (L3 : L ≤ 3072) (b1 : 3 ≤ mc) (b2 : 12288 ≤ ms) (nx : LwN D mc ms L i X Q) :
    Wp (D + 20) 267 457 [(2, ((0 : Nat) : Int)), (2, ((1 : Nat) : Int)), (2, ((116 : Nat) : Int)), (0, (i : Int))] [] M mc ms Q := by
  obtain ⟨T, Ts, ps, dps, na, aa, n, tp, f, p, hSX, hSM, hTb, hAx⟩ := inv
  have scM := hAx.2.2.2
  have lay := hSX.1
  obtain ⟨okT, okX, okA⟩ := id hTb
  obtain ⟨a1, e1⟩ : ∃ a, X (i + 1) = a := ⟨_, rfl⟩
  have p1 := hX (i + 1)
  rw [e1] at p1
  obtain ⟨a2, e2⟩ : ∃ a, X (i + 2) = a := ⟨_, rfl⟩
  have p2 := hX (i + 2)
  rw [e2] at p2
  obtain ⟨a3, e3⟩ : ∃ a, X (i + 3) = a := ⟨_, rfl⟩
  have p3 := hX (i + 3)
  rw [e3] at p3
  refine g_aload_n lk_267_457 rfl ?_
  refine g_aload_n lk_267_458 rfl ?_
  refine g_iload_n lk_267_459 rfl ?_
  refine g_iconst lk_267_460 ?_
  refine g_iadd lk_267_461 ?_
  refine g_sload lk_267_462 scM (by omega) (j := i + 1) (by omega) (v := a1) e1 ?_
  refine g_aload_n lk_267_463 rfl ?_
  refine g_iload_n lk_267_464 rfl ?_
  refine g_iconst lk_267_465 ?_
  refine g_iadd lk_267_466 ?_
  refine g_sload lk_267_467 scM (by omega) (j := i + 2) (by omega) (v := a2) e2 ?_
  refine g_aload_n lk_267_468 rfl ?_
  refine g_iload_n lk_267_469 rfl ?_
  refine g_iconst lk_267_470 ?_
  refine g_iadd lk_267_471 ?_
  refine g_sload lk_267_472 scM (by omega) (j := i + 3) (by omega) (v := a3) e3 ?_
  refine g_virtual (p := 1) (Qc := _) lk_267_473 rfl (Nat.le_of_ble_eq_true rfl) rfl rfl (lay.on (by decide) rfl) (Nat.le_of_ble_eq_true rfl) (Nat.le_of_ble_eq_true rfl) (Nat.zero_le _) (Nat.zero_le _) (c_X_full (d := D + 15) (mc := 0) (ms := 0) lay okT hSX.2.1 p1 p2 p3) ?_
  rintro _ K1 ⟨rfl, lay1, fr1⟩
  have sx1 := hSX.gr fr1.gr lay1 (hSX.2.2.2.2.gr fr1.gr lay.1 (by decide)) (by decide)
  have sm1 := hSM.gr fr1.gr lay1 (by decide)
  have ax1 := hAx.gr fr1.gr lay.1 (by decide)
  have scK1 := ax1.2.2.2
  show Wp _ 267 476 [(2, ((0 : Nat) : Int)), (2, ((1 : Nat) : Int)), (2, ((116 : Nat) : Int)), (0, (i : Int))] [(0, (sFull T a1 a2 a3))] K1 _ _ _
  refine g_aload_n lk_267_476 rfl ?_
  refine g_aload_n lk_267_477 rfl ?_
  refine g_iload_n lk_267_478 rfl ?_
  refine g_iconst lk_267_479 ?_
  refine g_iadd lk_267_480 ?_
  refine g_sload lk_267_481 scK1 (by omega) (j := i + 1) (by omega) (v := a1) e1 ?_
  refine g_aload_n lk_267_482 rfl ?_
  refine g_iload_n lk_267_483 rfl ?_
  refine g_iconst lk_267_484 ?_
  refine g_iadd lk_267_485 ?_
  refine g_sload lk_267_486 scK1 (by omega) (j := i + 2) (by omega) (v := a2) e2 ?_
  refine g_aload_n lk_267_487 rfl ?_
  refine g_iload_n lk_267_488 rfl ?_
  refine g_iconst lk_267_489 ?_
  refine g_iadd lk_267_490 ?_
  refine g_sload lk_267_491 scK1 (by omega) (j := i + 3) (by omega) (v := a3) e3 ?_
  refine g_virtual (p := 116) (Qc := _) lk_267_492 rfl (Nat.le_of_ble_eq_true rfl) rfl rfl (lay1.on (by decide) rfl) (Nat.le_of_ble_eq_true rfl) (Nat.le_of_ble_eq_true rfl) (Nat.zero_le _) (Nat.zero_le _) (c_Mo_full (d := D + 15) (mc := 0) (ms := 0) lay1 okT sm1.2.1 p1 p2 p3) ?_
  rintro _ K2 ⟨rfl, lay2, m2⟩
  show Wp _ 267 495 [(2, ((0 : Nat) : Int)), (2, ((1 : Nat) : Int)), (2, ((116 : Nat) : Int)), (0, (i : Int))] [(0, (sFull T a1 a2 a3)), (0, (sFull T a1 a2 a3))] K2 _ _ _
  refine g_same (t := 1281) lk_267_495 rfl ?_
  exact nx K2 _ _ ⟨T, Ts, ps, dps, na, aa, n, tp, f, p, sx1.mf m2 lay2 (by decide), sm1.mf m2 lay2 (by decide) (by decide), hTb, ax1.mf m2 (by decide) (by decide)⟩ (by omega) (by omega)
set_option maxHeartbeats 4000000 in
theorem lw_conflict {D mc ms L i : Nat} {X : Nat → Int} {M : pm_M} {Q : pm_Q} (inv : Inv M L X) (hX : ∀ j, pm_inI (X j)) (hi : i + 6 ≤ L) (L3 : L ≤ 3072) (b1 : 3 ≤ mc) (b2 : 12288 ≤ ms) (nx : LwN D mc ms L i X Q) :
    Wp (D + 20) 267 500 [(2, ((0 : Nat) : Int)), (2, ((1 : Nat) : Int)), (2, ((116 : Nat) : Int)), (0, (i : Int))] [] M mc ms Q := by
  obtain ⟨T, Ts, ps, dps, na, aa, n, tp, f, p, hSX, hSM, hTb, hAx⟩ := inv
  have scM := hAx.2.2.2
  have lay := hSX.1
  obtain ⟨okT, okX, okA⟩ := id hTb
  obtain ⟨a1, e1⟩ : ∃ a, X (i + 1) = a := ⟨_, rfl⟩
  have p1 := hX (i + 1)
  rw [e1] at p1
  obtain ⟨a2, e2⟩ : ∃ a, X (i + 2) = a := ⟨_, rfl⟩
  have p2 := hX (i + 2)
  rw [e2] at p2
  obtain ⟨a3, e3⟩ : ∃ a, X (i + 3) = a := ⟨_, rfl⟩
  have p3 := hX (i + 3)
  rw [e3] at p3
  by_cases c : a1 = 0
  · rw [c] at e1
    refine g_aload_n lk_267_500 rfl ?_
    refine g_aload_n lk_267_501 rfl ?_
    refine g_iload_n lk_267_502 rfl ?_
    refine g_iconst lk_267_503 ?_
    refine g_iadd lk_267_504 ?_
    refine g_sload lk_267_505 scM (by omega) (j := i + 1) (by omega) (v := 0) e1 ?_
    refine g_if (t := 513) lk_267_506 rfl (by first | (unfold pm_inI; omega) | exact pm_and_in _ _ | exact pm_shr_in _ _ | exact pm_or_in _ _ | exact pm_xor_in _ _ | exact pm_shl_in _ _ | exact pm_cmp_in _ _ | exact pm_b8_in _ | (unfold pm_inI; split <;> omega)) (fun _ => ?_) (fun h => absurd (show (0 : Int) = (0 : Int) by omega) h)
    refine g_iconst lk_267_513 ?_
    refine g_aload_n lk_267_514 rfl ?_
    refine g_iload_n lk_267_515 rfl ?_
    refine g_iconst lk_267_516 ?_
    refine g_iadd lk_267_517 ?_
    refine g_sload lk_267_518 scM (by omega) (j := i + 2) (by omega) (v := a2) e2 ?_
    refine g_aload_n lk_267_519 rfl ?_
    refine g_iload_n lk_267_520 rfl ?_
    refine g_iconst lk_267_521 ?_
    refine g_iadd lk_267_522 ?_
    refine g_sload lk_267_523 scM (by omega) (j := i + 3) (by omega) (v := a3) e3 ?_
    refine g_virtual (p := 1) (Qc := _) lk_267_524 rfl (Nat.le_of_ble_eq_true rfl) rfl rfl (lay.on (by decide) rfl) (Nat.le_of_ble_eq_true rfl) (Nat.le_of_ble_eq_true rfl) (Nat.zero_le _) (Nat.zero_le _) (c_X_conflict0 (d := D + 17) (mc := 0) (ms := 0) lay okT hSX.2.1 p2 p3) ?_
    rintro _ K1 ⟨rfl, eK⟩
    rw [eK]
    show Wp _ 267 527 [(2, ((0 : Nat) : Int)), (2, ((1 : Nat) : Int)), (2, ((116 : Nat) : Int)), (0, (i : Int))] [(0, (sConf T false a2 a3))] M _ _ _
    refine g_aload_n lk_267_527 rfl ?_
    refine g_aload_n lk_267_528 rfl ?_
    refine g_iload_n lk_267_529 rfl ?_
    refine g_iconst lk_267_530 ?_
    refine g_iadd lk_267_531 ?_
    refine g_sload lk_267_532 scM (by omega) (j := i + 1) (by omega) (v := 0) e1 ?_
    refine g_if (t := 540) lk_267_533 rfl (by first | (unfold pm_inI; omega) | exact pm_and_in _ _ | exact pm_shr_in _ _ | exact pm_or_in _ _ | exact pm_xor_in _ _ | exact pm_shl_in _ _ | exact pm_cmp_in _ _ | exact pm_b8_in _ | (unfold pm_inI; split <;> omega)) (fun _ => ?_) (fun h => absurd (show (0 : Int) = (0 : Int) by omega) h)
    refine g_iconst lk_267_540 ?_
    refine g_aload_n lk_267_541 rfl ?_
    refine g_iload_n lk_267_542 rfl ?_
    refine g_iconst lk_267_543 ?_
    refine g_iadd lk_267_544 ?_
    refine g_sload lk_267_545 scM (by omega) (j := i + 2) (by omega) (v := a2) e2 ?_
    refine g_aload_n lk_267_546 rfl ?_
    refine g_iload_n lk_267_547 rfl ?_
    refine g_iconst lk_267_548 ?_
    refine g_iadd lk_267_549 ?_
    refine g_sload lk_267_550 scM (by omega) (j := i + 3) (by omega) (v := a3) e3 ?_
    refine g_virtual (p := 116) (Qc := _) lk_267_551 rfl (Nat.le_of_ble_eq_true rfl) rfl rfl (lay.on (by decide) rfl) (Nat.le_of_ble_eq_true rfl) (Nat.le_of_ble_eq_true rfl) (Nat.zero_le _) (Nat.zero_le _) (c_Mo_conflict0 (d := D + 18) (mc := 0) (ms := 0) lay okT hSM.2.1 p2 p3) ?_
    rintro _ K2 ⟨rfl, lay2, eK2⟩
    show Wp _ 267 554 [(2, ((0 : Nat) : Int)), (2, ((1 : Nat) : Int)), (2, ((116 : Nat) : Int)), (0, (i : Int))] [(0, (sConf T false a2 a3)), (0, (sConf T false a2 a3))] K2 _ _ _
    refine g_same (t := 1281) lk_267_554 rfl ?_
    have m2 : MF [] [0] M K2 := by rw [eK2]; exact MF.th (by decide) _
    exact nx K2 _ _ ⟨T, Ts, ps, dps, na, aa, n, tp, f, p, hSX.mf m2 lay2 (by decide), hSM.mf m2 lay2 (by decide) (by decide), hTb, hAx.mf m2 (by decide) (by decide)⟩ (by omega) (by omega)
  · have p1a := p1.1
    have p1b := p1.2
    refine g_aload_n lk_267_500 rfl ?_
    refine g_aload_n lk_267_501 rfl ?_
    refine g_iload_n lk_267_502 rfl ?_
    refine g_iconst lk_267_503 ?_
    refine g_iadd lk_267_504 ?_
    refine g_sload lk_267_505 scM (by omega) (j := i + 1) (by omega) (v := a1) e1 ?_
    refine g_if (t := 513) lk_267_506 rfl (by first | (unfold pm_inI; omega) | exact pm_and_in _ _ | exact pm_shr_in _ _ | exact pm_or_in _ _ | exact pm_xor_in _ _ | exact pm_shl_in _ _ | exact pm_cmp_in _ _ | exact pm_b8_in _ | (unfold pm_inI; split <;> omega)) (fun h1 => ?_) (fun h1 => ?_)
    · replace h1 : a1 = 0 := h1
      omega
    · replace h1 : ¬ (a1 = 0) := h1
      refine g_iconst lk_267_509 ?_
      refine g_goto (t := 514) lk_267_510 rfl ?_
      refine g_aload_n lk_267_514 rfl ?_
      refine g_iload_n lk_267_515 rfl ?_
      refine g_iconst lk_267_516 ?_
      refine g_iadd lk_267_517 ?_
      refine g_sload lk_267_518 scM (by omega) (j := i + 2) (by omega) (v := a2) e2 ?_
      refine g_aload_n lk_267_519 rfl ?_
      refine g_iload_n lk_267_520 rfl ?_
      refine g_iconst lk_267_521 ?_
      refine g_iadd lk_267_522 ?_
      refine g_sload lk_267_523 scM (by omega) (j := i + 3) (by omega) (v := a3) e3 ?_
      refine g_virtual (p := 1) (Qc := _) lk_267_524 rfl (Nat.le_of_ble_eq_true rfl) rfl rfl (lay.on (by decide) rfl) (Nat.le_of_ble_eq_true rfl) (Nat.le_of_ble_eq_true rfl) (Nat.zero_le _) (Nat.zero_le _) (c_X_conflict1 (d := D + 17) (mc := 0) (ms := 0) lay okT hSX.2.1 p2 p3) ?_
      rintro _ K1 ⟨rfl, eK⟩
      rw [eK]
      show Wp _ 267 527 [(2, ((0 : Nat) : Int)), (2, ((1 : Nat) : Int)), (2, ((116 : Nat) : Int)), (0, (i : Int))] [(0, (sConf T true a2 a3))] M _ _ _
      refine g_aload_n lk_267_527 rfl ?_
      refine g_aload_n lk_267_528 rfl ?_
      refine g_iload_n lk_267_529 rfl ?_
      refine g_iconst lk_267_530 ?_
      refine g_iadd lk_267_531 ?_
      refine g_sload lk_267_532 scM (by omega) (j := i + 1) (by omega) (v := a1) e1 ?_
      refine g_if (t := 540) lk_267_533 rfl (by first | (unfold pm_inI; omega) | exact pm_and_in _ _ | exact pm_shr_in _ _ | exact pm_or_in _ _ | exact pm_xor_in _ _ | exact pm_shl_in _ _ | exact pm_cmp_in _ _ | exact pm_b8_in _ | (unfold pm_inI; split <;> omega)) (fun h2 => ?_) (fun h2 => ?_)
      · replace h2 : a1 = 0 := h2
        omega
      · replace h2 : ¬ (a1 = 0) := h2
        refine g_iconst lk_267_536 ?_
        refine g_goto (t := 541) lk_267_537 rfl ?_
        refine g_aload_n lk_267_541 rfl ?_
        refine g_iload_n lk_267_542 rfl ?_
        refine g_iconst lk_267_543 ?_
        refine g_iadd lk_267_544 ?_
        refine g_sload lk_267_545 scM (by omega) (j := i + 2) (by omega) (v := a2) e2 ?_
        refine g_aload_n lk_267_546 rfl ?_
        refine g_iload_n lk_267_547 rfl ?_
        refine g_iconst lk_267_548 ?_
        refine g_iadd lk_267_549 ?_
        refine g_sload lk_267_550 scM (by omega) (j := i + 3) (by omega) (v := a3) e3 ?_
        refine g_virtual (p := 116) (Qc := _) lk_267_551 rfl (Nat.le_of_ble_eq_true rfl) rfl rfl (lay.on (by decide) rfl) (Nat.le_of_ble_eq_true rfl) (Nat.le_of_ble_eq_true rfl) (Nat.zero_le _) (Nat.zero_le _) (c_Mo_conflict1 (d := D + 18) (mc := 0) (ms := 0) lay okT hSM.2.1 p2 p3) ?_
        rintro _ K2 ⟨rfl, lay2, eK2⟩
        show Wp _ 267 554 [(2, ((0 : Nat) : Int)), (2, ((1 : Nat) : Int)), (2, ((116 : Nat) : Int)), (0, (i : Int))] [(0, (sConf T true a2 a3)), (0, (sConf T true a2 a3))] K2 _ _ _
        refine g_same (t := 1281) lk_267_554 rfl ?_
        have m2 : MF [] [0] M K2 := by rw [eK2]; exact MF.th (by decide) _
        exact nx K2 _ _ ⟨T, Ts, ps, dps, na, aa, n, tp, f, p, hSX.mf m2 lay2 (by decide), hSM.mf m2 lay2 (by decide) (by decide), hTb, hAx.mf m2 (by decide) (by decide)⟩ (by omega) (by omega)
set_option maxHeartbeats 4000000 in
theorem lw_around {D mc ms L i : Nat} {X : Nat → Int} {M : pm_M} {Q : pm_Q} (inv : Inv M L X) (hX : ∀ j, pm_inI (X j)) (hi : i + 6 ≤ L) (L3 : L ≤ 3072) (b1 : 3 ≤ mc) (b2 : 12288 ≤ ms) (nx : LwN D mc ms L i X Q) :
    Wp (D + 20) 267 559 [(2, ((0 : Nat) : Int)), (2, ((1 : Nat) : Int)), (2, ((116 : Nat) : Int)), (0, (i : Int))] [] M mc ms Q := by
  obtain ⟨T, Ts, ps, dps, na, aa, n, tp, f, p, hSX, hSM, hTb, hAx⟩ := inv
  have scM := hAx.2.2.2
  have lay := hSX.1
  obtain ⟨okT, okX, okA⟩ := id hTb
  obtain ⟨a1, e1⟩ : ∃ a, X (i + 1) = a := ⟨_, rfl⟩
  have p1 := hX (i + 1)
  rw [e1] at p1
  obtain ⟨a2, e2⟩ : ∃ a, X (i + 2) = a := ⟨_, rfl⟩
  have p2 := hX (i + 2)
  rw [e2] at p2
  refine g_aload_n lk_267_559 rfl ?_
  refine g_aload_n lk_267_560 rfl ?_
  refine g_iload_n lk_267_561 rfl ?_
  refine g_iconst lk_267_562 ?_
  refine g_iadd lk_267_563 ?_
  refine g_sload lk_267_564 scM (by omega) (j := i + 1) (by omega) (v := a1) e1 ?_
  refine g_aload_n lk_267_565 rfl ?_
  refine g_iload_n lk_267_566 rfl ?_
  refine g_iconst lk_267_567 ?_
  refine g_iadd lk_267_568 ?_
  refine g_sload lk_267_569 scM (by omega) (j := i + 2) (by omega) (v := a2) e2 ?_
  refine g_virtual (p := 1) (Qc := _) lk_267_570 rfl (Nat.le_of_ble_eq_true rfl) rfl rfl (lay.on (by decide) rfl) (Nat.le_of_ble_eq_true rfl) (Nat.le_of_ble_eq_true rfl) (Nat.zero_le _) (Nat.zero_le _) (c_X_around (d := D + 15) (mc := 0) (ms := 0) lay okT hSX.2.1 p1 p2) ?_
  rintro _ K1 ⟨rfl, lay1, fr1⟩
  have sx1 := hSX.gr fr1.gr lay1 (hSX.2.2.2.2.gr fr1.gr lay.1 (by decide)) (by decide)
  have sm1 := hSM.gr fr1.gr lay1 (by decide)
  have ax1 := hAx.gr fr1.gr lay.1 (by decide)
  have scK1 := ax1.2.2.2
  show Wp _ 267 573 [(2, ((0 : Nat) : Int)), (2, ((1 : Nat) : Int)), (2, ((116 : Nat) : Int)), (0, (i : Int))] [(0, (sAround T a1 a2))] K1 _ _ _
  refine g_aload_n lk_267_573 rfl ?_
  refine g_aload_n lk_267_574 rfl ?_
  refine g_iload_n lk_267_575 rfl ?_
  refine g_iconst lk_267_576 ?_
  refine g_iadd lk_267_577 ?_
  refine g_sload lk_267_578 scK1 (by omega) (j := i + 1) (by omega) (v := a1) e1 ?_
  refine g_aload_n lk_267_579 rfl ?_
  refine g_iload_n lk_267_580 rfl ?_
  refine g_iconst lk_267_581 ?_
  refine g_iadd lk_267_582 ?_
  refine g_sload lk_267_583 scK1 (by omega) (j := i + 2) (by omega) (v := a2) e2 ?_
  refine g_virtual (p := 116) (Qc := _) lk_267_584 rfl (Nat.le_of_ble_eq_true rfl) rfl rfl (lay1.on (by decide) rfl) (Nat.le_of_ble_eq_true rfl) (Nat.le_of_ble_eq_true rfl) (Nat.zero_le _) (Nat.zero_le _) (c_Mo_around (d := D + 16) (mc := 0) (ms := 0) lay1 okT sm1.2.1 p1 p2) ?_
  rintro _ K2 ⟨rfl, lay2, eK2⟩
  show Wp _ 267 587 [(2, ((0 : Nat) : Int)), (2, ((1 : Nat) : Int)), (2, ((116 : Nat) : Int)), (0, (i : Int))] [(0, (sAround T a1 a2)), (0, (sAround T a1 a2))] K2 _ _ _
  refine g_same (t := 1281) lk_267_587 rfl ?_
  have m2 : MF [] [0] K1 K2 := by rw [eK2]; exact MF.th (by decide) _
  exact nx K2 _ _ ⟨T, Ts, ps, dps, na, aa, n, tp, f, p, sx1.mf m2 lay2 (by decide), sm1.mf m2 lay2 (by decide) (by decide), hTb, ax1.mf m2 (by decide) (by decide)⟩ (by omega) (by omega)
set_option maxHeartbeats 4000000 in
theorem lw_fooling {D mc ms L i : Nat} {X : Nat → Int} {M : pm_M} {Q : pm_Q} (inv : Inv M L X) (hX : ∀ j, pm_inI (X j)) (hi : i + 6 ≤ L) (L3 : L ≤ 3072) (b1 : 3 ≤ mc) (b2 : 12288 ≤ ms) (nx : LwN D mc ms L i X Q) :
    Wp (D + 20) 267 592 [(2, ((0 : Nat) : Int)), (2, ((1 : Nat) : Int)), (2, ((116 : Nat) : Int)), (0, (i : Int))] [] M mc ms Q := by
  obtain ⟨T, Ts, ps, dps, na, aa, n, tp, f, p, hSX, hSM, hTb, hAx⟩ := inv
  have scM := hAx.2.2.2
  have lay := hSX.1
  obtain ⟨okT, okX, okA⟩ := id hTb
  obtain ⟨a1, e1⟩ : ∃ a, X (i + 1) = a := ⟨_, rfl⟩
  have p1 := hX (i + 1)
  rw [e1] at p1
  obtain ⟨a2, e2⟩ : ∃ a, X (i + 2) = a := ⟨_, rfl⟩
  have p2 := hX (i + 2)
  rw [e2] at p2
  refine g_aload_n lk_267_592 rfl ?_
  refine g_aload_n lk_267_593 rfl ?_
  refine g_iload_n lk_267_594 rfl ?_
  refine g_iconst lk_267_595 ?_
  refine g_iadd lk_267_596 ?_
  refine g_sload lk_267_597 scM (by omega) (j := i + 1) (by omega) (v := a1) e1 ?_
  refine g_aload_n lk_267_598 rfl ?_
  refine g_iload_n lk_267_599 rfl ?_
  refine g_iconst lk_267_600 ?_
  refine g_iadd lk_267_601 ?_
  refine g_sload lk_267_602 scM (by omega) (j := i + 2) (by omega) (v := a2) e2 ?_
  refine g_virtual (p := 1) (Qc := _) lk_267_603 rfl (Nat.le_of_ble_eq_true rfl) rfl rfl (lay.on (by decide) rfl) (Nat.le_of_ble_eq_true rfl) (Nat.le_of_ble_eq_true rfl) (Nat.zero_le _) (Nat.zero_le _) (c_X_fooling (d := D + 10) (mc := 0) (ms := 0) lay okT hSX.2.1 p1 p2) ?_
  rintro _ K1 ⟨rfl, lay1, fr1⟩
  have sx1 := hSX.gr fr1.gr lay1 (hSX.2.2.2.2.gr fr1.gr lay.1 (by decide)) (by decide)
  have sm1 := hSM.gr fr1.gr lay1 (by decide)
  have ax1 := hAx.gr fr1.gr lay.1 (by decide)
  have scK1 := ax1.2.2.2
  show Wp _ 267 606 [(2, ((0 : Nat) : Int)), (2, ((1 : Nat) : Int)), (2, ((116 : Nat) : Int)), (0, (i : Int))] [(0, (sFooling T a1 a2))] K1 _ _ _
  refine g_aload_n lk_267_606 rfl ?_
  refine g_aload_n lk_267_607 rfl ?_
  refine g_iload_n lk_267_608 rfl ?_
  refine g_iconst lk_267_609 ?_
  refine g_iadd lk_267_610 ?_
  refine g_sload lk_267_611 scK1 (by omega) (j := i + 1) (by omega) (v := a1) e1 ?_
  refine g_aload_n lk_267_612 rfl ?_
  refine g_iload_n lk_267_613 rfl ?_
  refine g_iconst lk_267_614 ?_
  refine g_iadd lk_267_615 ?_
  refine g_sload lk_267_616 scK1 (by omega) (j := i + 2) (by omega) (v := a2) e2 ?_
  refine g_virtual (p := 116) (Qc := _) lk_267_617 rfl (Nat.le_of_ble_eq_true rfl) rfl rfl (lay1.on (by decide) rfl) (Nat.le_of_ble_eq_true rfl) (Nat.le_of_ble_eq_true rfl) (Nat.zero_le _) (Nat.zero_le _) (c_Mo_fooling (d := D + 15) (mc := 0) (ms := 0) lay1 okT sm1.2.1 p1 p2) ?_
  rintro _ K2 ⟨rfl, lay2, m2⟩
  show Wp _ 267 620 [(2, ((0 : Nat) : Int)), (2, ((1 : Nat) : Int)), (2, ((116 : Nat) : Int)), (0, (i : Int))] [(0, (sFooling T a1 a2)), (0, (sFooling T a1 a2))] K2 _ _ _
  refine g_same (t := 1281) lk_267_620 rfl ?_
  exact nx K2 _ _ ⟨T, Ts, ps, dps, na, aa, n, tp, f, p, sx1.mf m2 lay2 (by decide), sm1.mf m2 lay2 (by decide) (by decide), hTb, ax1.mf m2 (by decide) (by decide)⟩ (by omega) (by omega)
set_option maxHeartbeats 4000000 in
theorem lw_fools {D mc ms L i : Nat} {X : Nat → Int} {M : pm_M} {Q : pm_Q} (inv : Inv M L X) (hX : ∀ j, pm_inI (X j)) (hi : i + 6 ≤ L) (L3 : L ≤ 3072) (b1 : 3 ≤ mc) (b2 : 12288 ≤ ms) (nx : LwN D mc ms L i X Q) :
    Wp (D + 20) 267 625 [(2, ((0 : Nat) : Int)), (2, ((1 : Nat) : Int)), (2, ((116 : Nat) : Int)), (0, (i : Int))] [] M mc ms Q := by
  obtain ⟨T, Ts, ps, dps, na, aa, n, tp, f, p, hSX, hSM, hTb, hAx⟩ := inv
  have scM := hAx.2.2.2
  have lay := hSX.1
  obtain ⟨okT, okX, okA⟩ := id hTb
  obtain ⟨a1, e1⟩ : ∃ a, X (i + 1) = a := ⟨_, rfl⟩
  have p1 := hX (i + 1)
  rw [e1] at p1
  obtain ⟨a2, e2⟩ : ∃ a, X (i + 2) = a := ⟨_, rfl⟩
  have p2 := hX (i + 2)
  rw [e2] at p2
  refine g_aload_n lk_267_625 rfl ?_
  refine g_aload_n lk_267_626 rfl ?_
  refine g_iload_n lk_267_627 rfl ?_
  refine g_iconst lk_267_628 ?_
  refine g_iadd lk_267_629 ?_
  refine g_sload lk_267_630 scM (by omega) (j := i + 1) (by omega) (v := a1) e1 ?_
  refine g_aload_n lk_267_631 rfl ?_
  refine g_iload_n lk_267_632 rfl ?_
  refine g_iconst lk_267_633 ?_
  refine g_iadd lk_267_634 ?_
  refine g_sload lk_267_635 scM (by omega) (j := i + 2) (by omega) (v := a2) e2 ?_
  refine g_virtual (p := 1) (Qc := _) lk_267_636 rfl (Nat.le_of_ble_eq_true rfl) rfl rfl (lay.on (by decide) rfl) (Nat.le_of_ble_eq_true rfl) (Nat.le_of_ble_eq_true rfl) (Nat.zero_le _) (Nat.zero_le _) (c_X_fools (d := D + 10) (mc := 0) (ms := 0) lay okT hSX.2.1 p1 p2) ?_
  rintro _ K1 ⟨rfl, lay1, fr1⟩
  have sx1 := hSX.gr fr1.gr lay1 (hSX.2.2.2.2.gr fr1.gr lay.1 (by decide)) (by decide)
  have sm1 := hSM.gr fr1.gr lay1 (by decide)
  have ax1 := hAx.gr fr1.gr lay.1 (by decide)
  have scK1 := ax1.2.2.2
  show Wp _ 267 639 [(2, ((0 : Nat) : Int)), (2, ((1 : Nat) : Int)), (2, ((116 : Nat) : Int)), (0, (i : Int))] [(0, (sFools T a1 a2))] K1 _ _ _
  refine g_aload_n lk_267_639 rfl ?_
  refine g_aload_n lk_267_640 rfl ?_
  refine g_iload_n lk_267_641 rfl ?_
  refine g_iconst lk_267_642 ?_
  refine g_iadd lk_267_643 ?_
  refine g_sload lk_267_644 scK1 (by omega) (j := i + 1) (by omega) (v := a1) e1 ?_
  refine g_aload_n lk_267_645 rfl ?_
  refine g_iload_n lk_267_646 rfl ?_
  refine g_iconst lk_267_647 ?_
  refine g_iadd lk_267_648 ?_
  refine g_sload lk_267_649 scK1 (by omega) (j := i + 2) (by omega) (v := a2) e2 ?_
  refine g_virtual (p := 116) (Qc := _) lk_267_650 rfl (Nat.le_of_ble_eq_true rfl) rfl rfl (lay1.on (by decide) rfl) (Nat.le_of_ble_eq_true rfl) (Nat.le_of_ble_eq_true rfl) (Nat.zero_le _) (Nat.zero_le _) (c_Mo_fools (d := D + 15) (mc := 0) (ms := 0) lay1 okT sm1.2.1 p1 p2) ?_
  rintro _ K2 ⟨rfl, lay2, m2⟩
  show Wp _ 267 653 [(2, ((0 : Nat) : Int)), (2, ((1 : Nat) : Int)), (2, ((116 : Nat) : Int)), (0, (i : Int))] [(0, (sFools T a1 a2)), (0, (sFools T a1 a2))] K2 _ _ _
  refine g_same (t := 1281) lk_267_653 rfl ?_
  exact nx K2 _ _ ⟨T, Ts, ps, dps, na, aa, n, tp, f, p, sx1.mf m2 lay2 (by decide), sm1.mf m2 lay2 (by decide) (by decide), hTb, ax1.mf m2 (by decide) (by decide)⟩ (by omega) (by omega)
set_option maxHeartbeats 4000000 in
theorem lw_rank {D mc ms L i : Nat} {X : Nat → Int} {M : pm_M} {Q : pm_Q} (inv : Inv M L X) (hX : ∀ j, pm_inI (X j)) (hi : i + 6 ≤ L) (L3 : L ≤ 3072) (b1 : 3 ≤ mc) (b2 : 12288 ≤ ms) (nx : LwN D mc ms L i X Q) :
    Wp (D + 20) 267 658 [(2, ((0 : Nat) : Int)), (2, ((1 : Nat) : Int)), (2, ((116 : Nat) : Int)), (0, (i : Int))] [] M mc ms Q := by
  obtain ⟨T, Ts, ps, dps, na, aa, n, tp, f, p, hSX, hSM, hTb, hAx⟩ := inv
  have scM := hAx.2.2.2
  have lay := hSX.1
  obtain ⟨okT, okX, okA⟩ := id hTb
  obtain ⟨a1, e1⟩ : ∃ a, X (i + 1) = a := ⟨_, rfl⟩
  have p1 := hX (i + 1)
  rw [e1] at p1
  refine g_aload_n lk_267_658 rfl ?_
  refine g_aload_n lk_267_659 rfl ?_
  refine g_iload_n lk_267_660 rfl ?_
  refine g_iconst lk_267_661 ?_
  refine g_iadd lk_267_662 ?_
  refine g_sload lk_267_663 scM (by omega) (j := i + 1) (by omega) (v := a1) e1 ?_
  refine g_virtual (p := 1) (Qc := _) lk_267_664 rfl (Nat.le_of_ble_eq_true rfl) rfl rfl (lay.on (by decide) rfl) (Nat.le_of_ble_eq_true rfl) (Nat.le_of_ble_eq_true rfl) (Nat.zero_le _) (Nat.zero_le _) (c_X_rank (d := D + 16) (mc := 0) (ms := 0) lay okT hSX.2.1 p1) ?_
  rintro _ K1 ⟨rfl, lay1, fr1⟩
  have sx1 := hSX.gr fr1.gr lay1 (hSX.2.2.2.2.gr fr1.gr lay.1 (by decide)) (by decide)
  have sm1 := hSM.gr fr1.gr lay1 (by decide)
  have ax1 := hAx.gr fr1.gr lay.1 (by decide)
  have scK1 := ax1.2.2.2
  show Wp _ 267 667 [(2, ((0 : Nat) : Int)), (2, ((1 : Nat) : Int)), (2, ((116 : Nat) : Int)), (0, (i : Int))] [(0, (sRank T a1))] K1 _ _ _
  refine g_aload_n lk_267_667 rfl ?_
  refine g_aload_n lk_267_668 rfl ?_
  refine g_iload_n lk_267_669 rfl ?_
  refine g_iconst lk_267_670 ?_
  refine g_iadd lk_267_671 ?_
  refine g_sload lk_267_672 scK1 (by omega) (j := i + 1) (by omega) (v := a1) e1 ?_
  refine g_virtual (p := 116) (Qc := _) lk_267_673 rfl (Nat.le_of_ble_eq_true rfl) rfl rfl (lay1.on (by decide) rfl) (Nat.le_of_ble_eq_true rfl) (Nat.le_of_ble_eq_true rfl) (Nat.zero_le _) (Nat.zero_le _) (c_Mo_rank (d := D + 16) (mc := 0) (ms := 0) lay1 okT sm1.2.1 p1) ?_
  rintro _ K2 ⟨rfl, lay2, m2⟩
  show Wp _ 267 676 [(2, ((0 : Nat) : Int)), (2, ((1 : Nat) : Int)), (2, ((116 : Nat) : Int)), (0, (i : Int))] [(0, (sRank T a1)), (0, (sRank T a1))] K2 _ _ _
  refine g_same (t := 1281) lk_267_676 rfl ?_
  exact nx K2 _ _ ⟨T, Ts, ps, dps, na, aa, n, tp, f, p, sx1.mf m2 lay2 (by decide), sm1.mf m2 lay2 (by decide) (by decide), hTb, ax1.mf m2 (by decide) (by decide)⟩ (by omega) (by omega)
set_option maxHeartbeats 4000000 in
theorem lw_groups {D mc ms L i : Nat} {X : Nat → Int} {M : pm_M} {Q : pm_Q} (inv : Inv M L X) (hX : ∀ j, pm_inI (X j)) (hi : i + 6 ≤ L) (L3 : L ≤ 3072) (b1 : 3 ≤ mc) (b2 : 12288 ≤ ms) (nx : LwN D mc ms L i X Q) :
    Wp (D + 20) 267 681 [(2, ((0 : Nat) : Int)), (2, ((1 : Nat) : Int)), (2, ((116 : Nat) : Int)), (0, (i : Int))] [] M mc ms Q := by
  obtain ⟨T, Ts, ps, dps, na, aa, n, tp, f, p, hSX, hSM, hTb, hAx⟩ := inv
  have scM := hAx.2.2.2
  have lay := hSX.1
  obtain ⟨okT, okX, okA⟩ := id hTb
  obtain ⟨a1, e1⟩ : ∃ a, X (i + 1) = a := ⟨_, rfl⟩
  have p1 := hX (i + 1)
  rw [e1] at p1
  by_cases c : a1 = 0
  · rw [c] at e1
    refine g_aload_n lk_267_681 rfl ?_
    refine g_aload_n lk_267_682 rfl ?_
    refine g_iload_n lk_267_683 rfl ?_
    refine g_iconst lk_267_684 ?_
    refine g_iadd lk_267_685 ?_
    refine g_sload lk_267_686 scM (by omega) (j := i + 1) (by omega) (v := 0) e1 ?_
    refine g_if (t := 694) lk_267_687 rfl (by first | (unfold pm_inI; omega) | exact pm_and_in _ _ | exact pm_shr_in _ _ | exact pm_or_in _ _ | exact pm_xor_in _ _ | exact pm_shl_in _ _ | exact pm_cmp_in _ _ | exact pm_b8_in _ | (unfold pm_inI; split <;> omega)) (fun _ => ?_) (fun h => absurd (show (0 : Int) = (0 : Int) by omega) h)
    refine g_iconst lk_267_694 ?_
    refine g_virtual (p := 1) (Qc := _) lk_267_695 rfl (Nat.le_of_ble_eq_true rfl) rfl rfl (lay.on (by decide) rfl) (Nat.le_of_ble_eq_true rfl) (Nat.le_of_ble_eq_true rfl) (Nat.zero_le _) (Nat.zero_le _) (c_X_groups0 (d := D + 15) (mc := 0) (ms := 0) lay okT hSX.2.1) ?_
    rintro _ K1 ⟨rfl, lay1, fr1⟩
    have sx1 := hSX.gr fr1.gr lay1 (hSX.2.2.2.2.gr fr1.gr lay.1 (by decide)) (by decide)
    have sm1 := hSM.gr fr1.gr lay1 (by decide)
    have ax1 := hAx.gr fr1.gr lay.1 (by decide)
    have scK1 := ax1.2.2.2
    show Wp _ 267 698 [(2, ((0 : Nat) : Int)), (2, ((1 : Nat) : Int)), (2, ((116 : Nat) : Int)), (0, (i : Int))] [(0, (sGroups T false))] K1 _ _ _
    refine g_aload_n lk_267_698 rfl ?_
    refine g_aload_n lk_267_699 rfl ?_
    refine g_iload_n lk_267_700 rfl ?_
    refine g_iconst lk_267_701 ?_
    refine g_iadd lk_267_702 ?_
    refine g_sload lk_267_703 scK1 (by omega) (j := i + 1) (by omega) (v := 0) e1 ?_
    refine g_if (t := 711) lk_267_704 rfl (by first | (unfold pm_inI; omega) | exact pm_and_in _ _ | exact pm_shr_in _ _ | exact pm_or_in _ _ | exact pm_xor_in _ _ | exact pm_shl_in _ _ | exact pm_cmp_in _ _ | exact pm_b8_in _ | (unfold pm_inI; split <;> omega)) (fun _ => ?_) (fun h => absurd (show (0 : Int) = (0 : Int) by omega) h)
    refine g_iconst lk_267_711 ?_
    refine g_virtual (p := 116) (Qc := _) lk_267_712 rfl (Nat.le_of_ble_eq_true rfl) rfl rfl (lay1.on (by decide) rfl) (Nat.le_of_ble_eq_true rfl) (Nat.le_of_ble_eq_true rfl) (Nat.zero_le _) (Nat.zero_le _) (c_Mo_groups0 (d := D + 16) (mc := 0) (ms := 0) lay1 okT sm1.2.1) ?_
    rintro _ K2 ⟨rfl, lay2, m2⟩
    show Wp _ 267 715 [(2, ((0 : Nat) : Int)), (2, ((1 : Nat) : Int)), (2, ((116 : Nat) : Int)), (0, (i : Int))] [(0, (sGroups T false)), (0, (sGroups T false))] K2 _ _ _
    refine g_same (t := 1281) lk_267_715 rfl ?_
    exact nx K2 _ _ ⟨T, Ts, ps, dps, na, aa, n, tp, f, p, sx1.mf m2 lay2 (by decide), sm1.mf m2 lay2 (by decide) (by decide), hTb, ax1.mf m2 (by decide) (by decide)⟩ (by omega) (by omega)
  · have p1a := p1.1
    have p1b := p1.2
    refine g_aload_n lk_267_681 rfl ?_
    refine g_aload_n lk_267_682 rfl ?_
    refine g_iload_n lk_267_683 rfl ?_
    refine g_iconst lk_267_684 ?_
    refine g_iadd lk_267_685 ?_
    refine g_sload lk_267_686 scM (by omega) (j := i + 1) (by omega) (v := a1) e1 ?_
    refine g_if (t := 694) lk_267_687 rfl (by first | (unfold pm_inI; omega) | exact pm_and_in _ _ | exact pm_shr_in _ _ | exact pm_or_in _ _ | exact pm_xor_in _ _ | exact pm_shl_in _ _ | exact pm_cmp_in _ _ | exact pm_b8_in _ | (unfold pm_inI; split <;> omega)) (fun h1 => ?_) (fun h1 => ?_)
    · replace h1 : a1 = 0 := h1
      omega
    · replace h1 : ¬ (a1 = 0) := h1
      refine g_iconst lk_267_690 ?_
      refine g_goto (t := 695) lk_267_691 rfl ?_
      refine g_virtual (p := 1) (Qc := _) lk_267_695 rfl (Nat.le_of_ble_eq_true rfl) rfl rfl (lay.on (by decide) rfl) (Nat.le_of_ble_eq_true rfl) (Nat.le_of_ble_eq_true rfl) (Nat.zero_le _) (Nat.zero_le _) (c_X_groups1 (d := D + 15) (mc := 0) (ms := 0) lay okT hSX.2.1) ?_
      rintro _ K1 ⟨rfl, lay1, fr1⟩
      have sx1 := hSX.gr fr1.gr lay1 (hSX.2.2.2.2.gr fr1.gr lay.1 (by decide)) (by decide)
      have sm1 := hSM.gr fr1.gr lay1 (by decide)
      have ax1 := hAx.gr fr1.gr lay.1 (by decide)
      have scK1 := ax1.2.2.2
      show Wp _ 267 698 [(2, ((0 : Nat) : Int)), (2, ((1 : Nat) : Int)), (2, ((116 : Nat) : Int)), (0, (i : Int))] [(0, (sGroups T true))] K1 _ _ _
      refine g_aload_n lk_267_698 rfl ?_
      refine g_aload_n lk_267_699 rfl ?_
      refine g_iload_n lk_267_700 rfl ?_
      refine g_iconst lk_267_701 ?_
      refine g_iadd lk_267_702 ?_
      refine g_sload lk_267_703 scK1 (by omega) (j := i + 1) (by omega) (v := a1) e1 ?_
      refine g_if (t := 711) lk_267_704 rfl (by first | (unfold pm_inI; omega) | exact pm_and_in _ _ | exact pm_shr_in _ _ | exact pm_or_in _ _ | exact pm_xor_in _ _ | exact pm_shl_in _ _ | exact pm_cmp_in _ _ | exact pm_b8_in _ | (unfold pm_inI; split <;> omega)) (fun h2 => ?_) (fun h2 => ?_)
      · replace h2 : a1 = 0 := h2
        omega
      · replace h2 : ¬ (a1 = 0) := h2
        refine g_iconst lk_267_707 ?_
        refine g_goto (t := 712) lk_267_708 rfl ?_
        refine g_virtual (p := 116) (Qc := _) lk_267_712 rfl (Nat.le_of_ble_eq_true rfl) rfl rfl (lay1.on (by decide) rfl) (Nat.le_of_ble_eq_true rfl) (Nat.le_of_ble_eq_true rfl) (Nat.zero_le _) (Nat.zero_le _) (c_Mo_groups1 (d := D + 16) (mc := 0) (ms := 0) lay1 okT sm1.2.1) ?_
        rintro _ K2 ⟨rfl, lay2, m2⟩
        show Wp _ 267 715 [(2, ((0 : Nat) : Int)), (2, ((1 : Nat) : Int)), (2, ((116 : Nat) : Int)), (0, (i : Int))] [(0, (sGroups T true)), (0, (sGroups T true))] K2 _ _ _
        refine g_same (t := 1281) lk_267_715 rfl ?_
        exact nx K2 _ _ ⟨T, Ts, ps, dps, na, aa, n, tp, f, p, sx1.mf m2 lay2 (by decide), sm1.mf m2 lay2 (by decide) (by decide), hTb, ax1.mf m2 (by decide) (by decide)⟩ (by omega) (by omega)
set_option maxHeartbeats 4000000 in
theorem lw_leaning {D mc ms L i : Nat} {X : Nat → Int} {M : pm_M} {Q : pm_Q} (inv : Inv M L X) (hX : ∀ j, pm_inI (X j)) (hi : i + 6 ≤ L) (L3 : L ≤ 3072) (b1 : 3 ≤ mc) (b2 : 12288 ≤ ms) (nx : LwN D mc ms L i X Q) :
    Wp (D + 20) 267 720 [(2, ((0 : Nat) : Int)), (2, ((1 : Nat) : Int)), (2, ((116 : Nat) : Int)), (0, (i : Int))] [] M mc ms Q := by
  obtain ⟨T, Ts, ps, dps, na, aa, n, tp, f, p, hSX, hSM, hTb, hAx⟩ := inv
  have scM := hAx.2.2.2
  have lay := hSX.1
  obtain ⟨okT, okX, okA⟩ := id hTb
  obtain ⟨a1, e1⟩ : ∃ a, X (i + 1) = a := ⟨_, rfl⟩
  have p1 := hX (i + 1)
  rw [e1] at p1
  refine g_aload_n lk_267_720 rfl ?_
  refine g_aload_n lk_267_721 rfl ?_
  refine g_iload_n lk_267_722 rfl ?_
  refine g_iconst lk_267_723 ?_
  refine g_iadd lk_267_724 ?_
  refine g_sload lk_267_725 scM (by omega) (j := i + 1) (by omega) (v := a1) e1 ?_
  refine g_virtual (p := 1) (Qc := _) lk_267_726 rfl (Nat.le_of_ble_eq_true rfl) rfl rfl (lay.on (by decide) rfl) (Nat.le_of_ble_eq_true rfl) (Nat.le_of_ble_eq_true rfl) (Nat.zero_le _) (Nat.zero_le _) (c_X_leaning (d := D + 15) (mc := 0) (ms := 0) lay okT hSX.2.1 p1) ?_
  rintro _ K1 ⟨rfl, lay1, fr1⟩
  have sx1 := hSX.gr fr1.gr lay1 (hSX.2.2.2.2.gr fr1.gr lay.1 (by decide)) (by decide)
  have sm1 := hSM.gr fr1.gr lay1 (by decide)
  have ax1 := hAx.gr fr1.gr lay.1 (by decide)
  have scK1 := ax1.2.2.2
  show Wp _ 267 729 [(2, ((0 : Nat) : Int)), (2, ((1 : Nat) : Int)), (2, ((116 : Nat) : Int)), (0, (i : Int))] [(0, (sLean T a1))] K1 _ _ _
  refine g_aload_n lk_267_729 rfl ?_
  refine g_aload_n lk_267_730 rfl ?_
  refine g_iload_n lk_267_731 rfl ?_
  refine g_iconst lk_267_732 ?_
  refine g_iadd lk_267_733 ?_
  refine g_sload lk_267_734 scK1 (by omega) (j := i + 1) (by omega) (v := a1) e1 ?_
  refine g_virtual (p := 116) (Qc := _) lk_267_735 rfl (Nat.le_of_ble_eq_true rfl) rfl rfl (lay1.on (by decide) rfl) (Nat.le_of_ble_eq_true rfl) (Nat.le_of_ble_eq_true rfl) (Nat.zero_le _) (Nat.zero_le _) (c_Mo_leaning (d := D + 16) (mc := 0) (ms := 0) lay1 okT sm1.2.1 p1) ?_
  rintro _ K2 ⟨rfl, lay2, eK2⟩
  show Wp _ 267 738 [(2, ((0 : Nat) : Int)), (2, ((1 : Nat) : Int)), (2, ((116 : Nat) : Int)), (0, (i : Int))] [(0, (sLean T a1)), (0, (sLean T a1))] K2 _ _ _
  refine g_same (t := 1281) lk_267_738 rfl ?_
  have m2 : MF [] [0] K1 K2 := by rw [eK2]; exact MF.th (by decide) _
  exact nx K2 _ _ ⟨T, Ts, ps, dps, na, aa, n, tp, f, p, sx1.mf m2 lay2 (by decide), sm1.mf m2 lay2 (by decide) (by decide), hTb, ax1.mf m2 (by decide) (by decide)⟩ (by omega) (by omega)
set_option maxHeartbeats 4000000 in
theorem lw_bound {D mc ms L i : Nat} {X : Nat → Int} {M : pm_M} {Q : pm_Q} (inv : Inv M L X) (hX : ∀ j, pm_inI (X j)) (hi : i + 6 ≤ L) (L3 : L ≤ 3072) (b1 : 3 ≤ mc) (b2 : 12288 ≤ ms) (nx : LwN D mc ms L i X Q) :
    Wp (D + 20) 267 855 [(2, ((0 : Nat) : Int)), (2, ((1 : Nat) : Int)), (2, ((116 : Nat) : Int)), (0, (i : Int))] [] M mc ms Q := by
  obtain ⟨T, Ts, ps, dps, na, aa, n, tp, f, p, hSX, hSM, hTb, hAx⟩ := inv
  have scM := hAx.2.2.2
  have lay := hSX.1
  obtain ⟨okT, okX, okA⟩ := id hTb
  obtain ⟨a1, e1⟩ : ∃ a, X (i + 1) = a := ⟨_, rfl⟩
  have p1 := hX (i + 1)
  rw [e1] at p1
  refine g_aload_n lk_267_855 rfl ?_
  refine g_aload_n lk_267_856 rfl ?_
  refine g_iload_n lk_267_857 rfl ?_
  refine g_iconst lk_267_858 ?_
  refine g_iadd lk_267_859 ?_
  refine g_sload lk_267_860 scM (by omega) (j := i + 1) (by omega) (v := a1) e1 ?_
  refine g_virtual (p := 1) (Qc := _) lk_267_861 rfl (Nat.le_of_ble_eq_true rfl) rfl rfl (lay.on (by decide) rfl) (Nat.le_of_ble_eq_true rfl) (Nat.le_of_ble_eq_true rfl) (Nat.zero_le _) (Nat.zero_le _) (c_X_bound (d := D + 7) (mc := 0) (ms := 0) lay okT hSX.2.1 p1) ?_
  rintro _ K1 ⟨rfl, lay1, fr1⟩
  have sx1 := hSX.gr fr1.gr lay1 (hSX.2.2.2.2.gr fr1.gr lay.1 (by decide)) (by decide)
  have sm1 := hSM.gr fr1.gr lay1 (by decide)
  have ax1 := hAx.gr fr1.gr lay.1 (by decide)
  have scK1 := ax1.2.2.2
  show Wp _ 267 864 [(2, ((0 : Nat) : Int)), (2, ((1 : Nat) : Int)), (2, ((116 : Nat) : Int)), (0, (i : Int))] [(0, (sBound T a1))] K1 _ _ _
  refine g_aload_n lk_267_864 rfl ?_
  refine g_aload_n lk_267_865 rfl ?_
  refine g_iload_n lk_267_866 rfl ?_
  refine g_iconst lk_267_867 ?_
  refine g_iadd lk_267_868 ?_
  refine g_sload lk_267_869 scK1 (by omega) (j := i + 1) (by omega) (v := a1) e1 ?_
  refine g_virtual (p := 116) (Qc := _) lk_267_870 rfl (Nat.le_of_ble_eq_true rfl) rfl rfl (lay1.on (by decide) rfl) (Nat.le_of_ble_eq_true rfl) (Nat.le_of_ble_eq_true rfl) (Nat.zero_le _) (Nat.zero_le _) (c_Mo_bound (d := D + 14) (mc := 0) (ms := 0) lay1 okT okX sm1.2.1 p1) ?_
  rintro _ K2 ⟨rfl, lay2, m2⟩
  show Wp _ 267 873 [(2, ((0 : Nat) : Int)), (2, ((1 : Nat) : Int)), (2, ((116 : Nat) : Int)), (0, (i : Int))] [(0, (sBound T a1)), (0, (sBound T a1))] K2 _ _ _
  refine g_same (t := 1281) lk_267_873 rfl ?_
  exact nx K2 _ _ ⟨T, Ts, ps, dps, na, aa, n, tp, f, p, sx1.mf m2 lay2 (by decide), sm1.mf m2 lay2 (by decide) (by decide), hTb, ax1.mf m2 (by decide) (by decide)⟩ (by omega) (by omega)
set_option maxHeartbeats 4000000 in
theorem lw_answer {D mc ms L i : Nat} {X : Nat → Int} {M : pm_M} {Q : pm_Q} (inv : Inv M L X) (hX : ∀ j, pm_inI (X j)) (hi : i + 6 ≤ L) (L3 : L ≤ 3072) (b1 : 3 ≤ mc) (b2 : 12288 ≤ ms) (nx : LwN D mc ms L i X Q) :
    Wp (D + 20) 267 878 [(2, ((0 : Nat) : Int)), (2, ((1 : Nat) : Int)), (2, ((116 : Nat) : Int)), (0, (i : Int))] [] M mc ms Q := by
  obtain ⟨T, Ts, ps, dps, na, aa, n, tp, f, p, hSX, hSM, hTb, hAx⟩ := inv
  have scM := hAx.2.2.2
  have lay := hSX.1
  obtain ⟨okT, okX, okA⟩ := id hTb
  obtain ⟨a1, e1⟩ : ∃ a, X (i + 1) = a := ⟨_, rfl⟩
  have p1 := hX (i + 1)
  rw [e1] at p1
  obtain ⟨a2, e2⟩ : ∃ a, X (i + 2) = a := ⟨_, rfl⟩
  have p2 := hX (i + 2)
  rw [e2] at p2
  obtain ⟨a3, e3⟩ : ∃ a, X (i + 3) = a := ⟨_, rfl⟩
  have p3 := hX (i + 3)
  rw [e3] at p3
  refine g_aload_n lk_267_878 rfl ?_
  refine g_aload_n lk_267_879 rfl ?_
  refine g_iload_n lk_267_880 rfl ?_
  refine g_iconst lk_267_881 ?_
  refine g_iadd lk_267_882 ?_
  refine g_sload lk_267_883 scM (by omega) (j := i + 1) (by omega) (v := a1) e1 ?_
  refine g_aload_n lk_267_884 rfl ?_
  refine g_iload_n lk_267_885 rfl ?_
  refine g_iconst lk_267_886 ?_
  refine g_iadd lk_267_887 ?_
  refine g_sload lk_267_888 scM (by omega) (j := i + 2) (by omega) (v := a2) e2 ?_
  refine g_aload_n lk_267_889 rfl ?_
  refine g_iload_n lk_267_890 rfl ?_
  refine g_iconst lk_267_891 ?_
  refine g_iadd lk_267_892 ?_
  refine g_sload lk_267_893 scM (by omega) (j := i + 3) (by omega) (v := a3) e3 ?_
  refine g_virtual (p := 1) (Qc := _) lk_267_894 rfl (Nat.le_of_ble_eq_true rfl) rfl rfl (lay.on (by decide) rfl) (Nat.le_of_ble_eq_true rfl) (Nat.le_of_ble_eq_true rfl) (Nat.zero_le _) (Nat.zero_le _) (c_X_answer (d := D + 14) (mc := 0) (ms := 0) lay okT hSX.2.1 hSX.2.2.1.at p1 p2 p3) ?_
  rintro _ K1 ⟨rfl, eK⟩
  rw [eK]
  show Wp _ 267 897 [(2, ((0 : Nat) : Int)), (2, ((1 : Nat) : Int)), (2, ((116 : Nat) : Int)), (0, (i : Int))] [(0, (sAns T Ts a1 a2 a3))] M _ _ _
  refine g_aload_n lk_267_897 rfl ?_
  refine g_aload_n lk_267_898 rfl ?_
  refine g_iload_n lk_267_899 rfl ?_
  refine g_iconst lk_267_900 ?_
  refine g_iadd lk_267_901 ?_
  refine g_sload lk_267_902 scM (by omega) (j := i + 1) (by omega) (v := a1) e1 ?_
  refine g_aload_n lk_267_903 rfl ?_
  refine g_iload_n lk_267_904 rfl ?_
  refine g_iconst lk_267_905 ?_
  refine g_iadd lk_267_906 ?_
  refine g_sload lk_267_907 scM (by omega) (j := i + 2) (by omega) (v := a2) e2 ?_
  refine g_aload_n lk_267_908 rfl ?_
  refine g_iload_n lk_267_909 rfl ?_
  refine g_iconst lk_267_910 ?_
  refine g_iadd lk_267_911 ?_
  refine g_sload lk_267_912 scM (by omega) (j := i + 3) (by omega) (v := a3) e3 ?_
  refine g_virtual (p := 116) (Qc := _) lk_267_913 rfl (Nat.le_of_ble_eq_true rfl) rfl rfl (lay.on (by decide) rfl) (Nat.le_of_ble_eq_true rfl) (Nat.le_of_ble_eq_true rfl) (Nat.zero_le _) (Nat.zero_le _) (c_Mo_answer (d := D + 16) (mc := 0) (ms := 0) lay okT hSM.2.1 hSM.2.2.1.at p1 p2 p3) ?_
  rintro _ K2 ⟨rfl, lay2, m2⟩
  show Wp _ 267 916 [(2, ((0 : Nat) : Int)), (2, ((1 : Nat) : Int)), (2, ((116 : Nat) : Int)), (0, (i : Int))] [(0, (sAns T Ts a1 a2 a3)), (0, (sAns T Ts a1 a2 a3))] K2 _ _ _
  refine g_same (t := 1281) lk_267_916 rfl ?_
  exact nx K2 _ _ ⟨T, Ts, ps, dps, na, aa, n, tp, f, p, hSX.mf m2 lay2 (by decide), hSM.mf m2 lay2 (by decide) (by decide), hTb, hAx.mf m2 (by decide) (by decide)⟩ (by omega) (by omega)
set_option maxHeartbeats 4000000 in
theorem lw_leaf {D mc ms L i : Nat} {X : Nat → Int} {M : pm_M} {Q : pm_Q} (inv : Inv M L X) (hX : ∀ j, pm_inI (X j)) (hi : i + 6 ≤ L) (L3 : L ≤ 3072) (b1 : 3 ≤ mc) (b2 : 12288 ≤ ms) (nx : LwN D mc ms L i X Q) :
    Wp (D + 20) 267 964 [(2, ((0 : Nat) : Int)), (2, ((1 : Nat) : Int)), (2, ((116 : Nat) : Int)), (0, (i : Int))] [] M mc ms Q := by
  obtain ⟨T, Ts, ps, dps, na, aa, n, tp, f, p, hSX, hSM, hTb, hAx⟩ := inv
  have scM := hAx.2.2.2
  have lay := hSX.1
  obtain ⟨okT, okX, okA⟩ := id hTb
  obtain ⟨a1, e1⟩ : ∃ a, X (i + 1) = a := ⟨_, rfl⟩
  have p1 := hX (i + 1)
  rw [e1] at p1
  obtain ⟨a2, e2⟩ : ∃ a, X (i + 2) = a := ⟨_, rfl⟩
  have p2 := hX (i + 2)
  rw [e2] at p2
  obtain ⟨a3, e3⟩ : ∃ a, X (i + 3) = a := ⟨_, rfl⟩
  have p3 := hX (i + 3)
  rw [e3] at p3
  refine g_aload_n lk_267_964 rfl ?_
  refine g_aload_n lk_267_965 rfl ?_
  refine g_iload_n lk_267_966 rfl ?_
  refine g_iconst lk_267_967 ?_
  refine g_iadd lk_267_968 ?_
  refine g_sload lk_267_969 scM (by omega) (j := i + 1) (by omega) (v := a1) e1 ?_
  refine g_aload_n lk_267_970 rfl ?_
  refine g_iload_n lk_267_971 rfl ?_
  refine g_iconst lk_267_972 ?_
  refine g_iadd lk_267_973 ?_
  refine g_sload lk_267_974 scM (by omega) (j := i + 2) (by omega) (v := a2) e2 ?_
  refine g_aload_n lk_267_975 rfl ?_
  refine g_iload_n lk_267_976 rfl ?_
  refine g_iconst lk_267_977 ?_
  refine g_iadd lk_267_978 ?_
  refine g_sload lk_267_979 scM (by omega) (j := i + 3) (by omega) (v := a3) e3 ?_
  refine g_virtual (p := 1) (Qc := _) lk_267_980 rfl (Nat.le_of_ble_eq_true rfl) rfl rfl (lay.on (by decide) rfl) (Nat.le_of_ble_eq_true rfl) (Nat.le_of_ble_eq_true rfl) (Nat.zero_le _) (Nat.zero_le _) (c_X_leaf (d := D + 14) (mc := 0) (ms := 0) lay okT hSX.2.1 hSX.2.2.1.at p1 p2 p3) ?_
  rintro _ K1 ⟨rfl, eK⟩
  rw [eK]
  show Wp _ 267 983 [(2, ((0 : Nat) : Int)), (2, ((1 : Nat) : Int)), (2, ((116 : Nat) : Int)), (0, (i : Int))] [(0, (sLeaf T Ts a1 a2 a3))] M _ _ _
  refine g_aload_n lk_267_983 rfl ?_
  refine g_aload_n lk_267_984 rfl ?_
  refine g_iload_n lk_267_985 rfl ?_
  refine g_iconst lk_267_986 ?_
  refine g_iadd lk_267_987 ?_
  refine g_sload lk_267_988 scM (by omega) (j := i + 1) (by omega) (v := a1) e1 ?_
  refine g_aload_n lk_267_989 rfl ?_
  refine g_iload_n lk_267_990 rfl ?_
  refine g_iconst lk_267_991 ?_
  refine g_iadd lk_267_992 ?_
  refine g_sload lk_267_993 scM (by omega) (j := i + 2) (by omega) (v := a2) e2 ?_
  refine g_aload_n lk_267_994 rfl ?_
  refine g_iload_n lk_267_995 rfl ?_
  refine g_iconst lk_267_996 ?_
  refine g_iadd lk_267_997 ?_
  refine g_sload lk_267_998 scM (by omega) (j := i + 3) (by omega) (v := a3) e3 ?_
  refine g_virtual (p := 116) (Qc := _) lk_267_999 rfl (Nat.le_of_ble_eq_true rfl) rfl rfl (lay.on (by decide) rfl) (Nat.le_of_ble_eq_true rfl) (Nat.le_of_ble_eq_true rfl) (Nat.zero_le _) (Nat.zero_le _) (c_Mo_leaf (d := D + 16) (mc := 0) (ms := 0) lay okT hSM.2.1 hSM.2.2.1.at p1 p2 p3) ?_
  rintro _ K2 ⟨rfl, lay2, m2⟩
  show Wp _ 267 1002 [(2, ((0 : Nat) : Int)), (2, ((1 : Nat) : Int)), (2, ((116 : Nat) : Int)), (0, (i : Int))] [(0, (sLeaf T Ts a1 a2 a3)), (0, (sLeaf T Ts a1 a2 a3))] K2 _ _ _
  refine g_same (t := 1281) lk_267_1002 rfl ?_
  exact nx K2 _ _ ⟨T, Ts, ps, dps, na, aa, n, tp, f, p, hSX.mf m2 lay2 (by decide), hSM.mf m2 lay2 (by decide) (by decide), hTb, hAx.mf m2 (by decide) (by decide)⟩ (by omega) (by omega)
set_option maxHeartbeats 4000000 in
theorem lw_cost {D mc ms L i : Nat} {X : Nat → Int} {M : pm_M} {Q : pm_Q} (inv : Inv M L X) (hX : ∀ j, pm_inI (X j)) (hi : i + 6 ≤ L) (L3 : L ≤ 3072) (b1 : 3 ≤ mc) (b2 : 12288 ≤ ms) (nx : LwN D mc ms L i X Q) :
    Wp (D + 20) 267 921 [(2, ((0 : Nat) : Int)), (2, ((1 : Nat) : Int)), (2, ((116 : Nat) : Int)), (0, (i : Int))] [] M mc ms Q := by
  obtain ⟨T, Ts, ps, dps, na, aa, n, tp, f, p, hSX, hSM, hTb, hAx⟩ := inv
  have scM := hAx.2.2.2
  have lay := hSX.1
  obtain ⟨okT, okX, okA⟩ := id hTb
  obtain ⟨a1, e1⟩ : ∃ a, X (i + 1) = a := ⟨_, rfl⟩
  have p1 := hX (i + 1)
  rw [e1] at p1
  obtain ⟨a2, e2⟩ : ∃ a, X (i + 2) = a := ⟨_, rfl⟩
  have p2 := hX (i + 2)
  rw [e2] at p2
  obtain ⟨a3, e3⟩ : ∃ a, X (i + 3) = a := ⟨_, rfl⟩
  have p3 := hX (i + 3)
  rw [e3] at p3
  refine g_aload_n lk_267_921 rfl ?_
  refine g_aload_n lk_267_922 rfl ?_
  refine g_iload_n lk_267_923 rfl ?_
  refine g_iconst lk_267_924 ?_
  refine g_iadd lk_267_925 ?_
  refine g_sload lk_267_926 scM (by omega) (j := i + 1) (by omega) (v := a1) e1 ?_
  refine g_aload_n lk_267_927 rfl ?_
  refine g_iload_n lk_267_928 rfl ?_
  refine g_iconst lk_267_929 ?_
  refine g_iadd lk_267_930 ?_
  refine g_sload lk_267_931 scM (by omega) (j := i + 2) (by omega) (v := a2) e2 ?_
  refine g_aload_n lk_267_932 rfl ?_
  refine g_iload_n lk_267_933 rfl ?_
  refine g_iconst lk_267_934 ?_
  refine g_iadd lk_267_935 ?_
  refine g_sload lk_267_936 scM (by omega) (j := i + 3) (by omega) (v := a3) e3 ?_
  refine g_virtual (p := 1) (Qc := _) lk_267_937 rfl (Nat.le_of_ble_eq_true rfl) rfl rfl (lay.on (by decide) rfl) (Nat.le_of_ble_eq_true rfl) (Nat.le_of_ble_eq_true rfl) (Nat.zero_le _) (Nat.zero_le _) (c_X_cost (d := D + 14) (mc := 0) (ms := 0) lay okT hSX.2.1 hSX.2.2.1 p1 p2 p3) ?_
  rintro _ K1 ⟨rfl, eK⟩
  rw [eK]
  show Wp _ 267 940 [(2, ((0 : Nat) : Int)), (2, ((1 : Nat) : Int)), (2, ((116 : Nat) : Int)), (0, (i : Int))] [(0, (sCost T Ts a1 a2 a3))] M _ _ _
  refine g_aload_n lk_267_940 rfl ?_
  refine g_aload_n lk_267_941 rfl ?_
  refine g_iload_n lk_267_942 rfl ?_
  refine g_iconst lk_267_943 ?_
  refine g_iadd lk_267_944 ?_
  refine g_sload lk_267_945 scM (by omega) (j := i + 1) (by omega) (v := a1) e1 ?_
  refine g_aload_n lk_267_946 rfl ?_
  refine g_iload_n lk_267_947 rfl ?_
  refine g_iconst lk_267_948 ?_
  refine g_iadd lk_267_949 ?_
  refine g_sload lk_267_950 scM (by omega) (j := i + 2) (by omega) (v := a2) e2 ?_
  refine g_aload_n lk_267_951 rfl ?_
  refine g_iload_n lk_267_952 rfl ?_
  refine g_iconst lk_267_953 ?_
  refine g_iadd lk_267_954 ?_
  refine g_sload lk_267_955 scM (by omega) (j := i + 3) (by omega) (v := a3) e3 ?_
  refine g_virtual (p := 116) (Qc := _) lk_267_956 rfl (Nat.le_of_ble_eq_true rfl) rfl rfl (lay.on (by decide) rfl) (Nat.le_of_ble_eq_true rfl) (Nat.le_of_ble_eq_true rfl) (Nat.zero_le _) (Nat.zero_le _) (c_Mo_cost (d := D + 16) (mc := 0) (ms := 0) lay okT hSM.2.1 hSM.2.2.1.at p1 p2 p3) ?_
  rintro _ K2 ⟨rfl, lay2, m2⟩
  show Wp _ 267 959 [(2, ((0 : Nat) : Int)), (2, ((1 : Nat) : Int)), (2, ((116 : Nat) : Int)), (0, (i : Int))] [(0, (sCost T Ts a1 a2 a3)), (0, (sCost T Ts a1 a2 a3))] K2 _ _ _
  refine g_same (t := 1281) lk_267_959 rfl ?_
  exact nx K2 _ _ ⟨T, Ts, ps, dps, na, aa, n, tp, f, p, hSX.mf m2 lay2 (by decide), hSM.mf m2 lay2 (by decide) (by decide), hTb, hAx.mf m2 (by decide) (by decide)⟩ (by omega) (by omega)
set_option maxHeartbeats 4000000 in
theorem lw_bit {D mc ms L i : Nat} {X : Nat → Int} {M : pm_M} {Q : pm_Q} (inv : Inv M L X) (hX : ∀ j, pm_inI (X j)) (hi : i + 6 ≤ L) (L3 : L ≤ 3072) (b1 : 3 ≤ mc) (b2 : 12288 ≤ ms) (nx : LwN D mc ms L i X Q) :
    Wp (D + 20) 267 1007 [(2, ((0 : Nat) : Int)), (2, ((1 : Nat) : Int)), (2, ((116 : Nat) : Int)), (0, (i : Int))] [] M mc ms Q := by
  obtain ⟨T, Ts, ps, dps, na, aa, n, tp, f, p, hSX, hSM, hTb, hAx⟩ := inv
  have scM := hAx.2.2.2
  have lay := hSX.1
  obtain ⟨okT, okX, okA⟩ := id hTb
  obtain ⟨a1, e1⟩ : ∃ a, X (i + 1) = a := ⟨_, rfl⟩
  have p1 := hX (i + 1)
  rw [e1] at p1
  obtain ⟨a2, e2⟩ : ∃ a, X (i + 2) = a := ⟨_, rfl⟩
  have p2 := hX (i + 2)
  rw [e2] at p2
  obtain ⟨a3, e3⟩ : ∃ a, X (i + 3) = a := ⟨_, rfl⟩
  have p3 := hX (i + 3)
  rw [e3] at p3
  obtain ⟨a4, e4⟩ : ∃ a, X (i + 4) = a := ⟨_, rfl⟩
  have p4 := hX (i + 4)
  rw [e4] at p4
  refine g_aload_n lk_267_1007 rfl ?_
  refine g_aload_n lk_267_1008 rfl ?_
  refine g_iload_n lk_267_1009 rfl ?_
  refine g_iconst lk_267_1010 ?_
  refine g_iadd lk_267_1011 ?_
  refine g_sload lk_267_1012 scM (by omega) (j := i + 1) (by omega) (v := a1) e1 ?_
  refine g_aload_n lk_267_1013 rfl ?_
  refine g_iload_n lk_267_1014 rfl ?_
  refine g_iconst lk_267_1015 ?_
  refine g_iadd lk_267_1016 ?_
  refine g_sload lk_267_1017 scM (by omega) (j := i + 2) (by omega) (v := a2) e2 ?_
  refine g_aload_n lk_267_1018 rfl ?_
  refine g_iload_n lk_267_1019 rfl ?_
  refine g_iconst lk_267_1020 ?_
  refine g_iadd lk_267_1021 ?_
  refine g_sload lk_267_1022 scM (by omega) (j := i + 3) (by omega) (v := a3) e3 ?_
  refine g_aload_n lk_267_1023 rfl ?_
  refine g_iload_n lk_267_1024 rfl ?_
  refine g_iconst lk_267_1025 ?_
  refine g_iadd lk_267_1026 ?_
  refine g_sload lk_267_1027 scM (by omega) (j := i + 4) (by omega) (v := a4) e4 ?_
  refine g_virtual (p := 1) (Qc := _) lk_267_1028 rfl (Nat.le_of_ble_eq_true rfl) rfl rfl (lay.on (by decide) rfl) (Nat.le_of_ble_eq_true rfl) (Nat.le_of_ble_eq_true rfl) (Nat.zero_le _) (Nat.zero_le _) (c_X_bit (d := D + 14) (mc := 0) (ms := 0) lay okT hSX.2.1 hSX.2.2.1 p1 p2 p3 p4) ?_
  rintro _ K1 ⟨rfl, eK⟩
  rw [eK]
  show Wp _ 267 1031 [(2, ((0 : Nat) : Int)), (2, ((1 : Nat) : Int)), (2, ((116 : Nat) : Int)), (0, (i : Int))] [(0, (sBit T Ts a1 a2 a3 a4))] M _ _ _
  refine g_aload_n lk_267_1031 rfl ?_
  refine g_aload_n lk_267_1032 rfl ?_
  refine g_iload_n lk_267_1033 rfl ?_
  refine g_iconst lk_267_1034 ?_
  refine g_iadd lk_267_1035 ?_
  refine g_sload lk_267_1036 scM (by omega) (j := i + 1) (by omega) (v := a1) e1 ?_
  refine g_aload_n lk_267_1037 rfl ?_
  refine g_iload_n lk_267_1038 rfl ?_
  refine g_iconst lk_267_1039 ?_
  refine g_iadd lk_267_1040 ?_
  refine g_sload lk_267_1041 scM (by omega) (j := i + 2) (by omega) (v := a2) e2 ?_
  refine g_aload_n lk_267_1042 rfl ?_
  refine g_iload_n lk_267_1043 rfl ?_
  refine g_iconst lk_267_1044 ?_
  refine g_iadd lk_267_1045 ?_
  refine g_sload lk_267_1046 scM (by omega) (j := i + 3) (by omega) (v := a3) e3 ?_
  refine g_aload_n lk_267_1047 rfl ?_
  refine g_iload_n lk_267_1048 rfl ?_
  refine g_iconst lk_267_1049 ?_
  refine g_iadd lk_267_1050 ?_
  refine g_sload lk_267_1051 scM (by omega) (j := i + 4) (by omega) (v := a4) e4 ?_
  refine g_virtual (p := 116) (Qc := _) lk_267_1052 rfl (Nat.le_of_ble_eq_true rfl) rfl rfl (lay.on (by decide) rfl) (Nat.le_of_ble_eq_true rfl) (Nat.le_of_ble_eq_true rfl) (Nat.zero_le _) (Nat.zero_le _) (c_Mo_bit (d := D + 16) (mc := 0) (ms := 0) lay okT hSM.2.1 hSM.2.2.1.at p1 p2 p3 p4) ?_
  rintro _ K2 ⟨rfl, lay2, m2⟩
  show Wp _ 267 1055 [(2, ((0 : Nat) : Int)), (2, ((1 : Nat) : Int)), (2, ((116 : Nat) : Int)), (0, (i : Int))] [(0, (sBit T Ts a1 a2 a3 a4)), (0, (sBit T Ts a1 a2 a3 a4))] K2 _ _ _
  refine g_same (t := 1281) lk_267_1055 rfl ?_
  exact nx K2 _ _ ⟨T, Ts, ps, dps, na, aa, n, tp, f, p, hSX.mf m2 lay2 (by decide), hSM.mf m2 lay2 (by decide) (by decide), hTb, hAx.mf m2 (by decide) (by decide)⟩ (by omega) (by omega)
set_option maxHeartbeats 4000000 in
theorem lw_tree {D mc ms L i : Nat} {X : Nat → Int} {M : pm_M} {Q : pm_Q} (inv : Inv M L X) (hX : ∀ j, pm_inI (X j)) (hi : i + 6 ≤ L) (L3 : L ≤ 3072) (b1 : 3 ≤ mc) (b2 : 12288 ≤ ms) (nx : LwN D mc ms L i X Q) :
    Wp (D + 20) 267 1060 [(2, ((0 : Nat) : Int)), (2, ((1 : Nat) : Int)), (2, ((116 : Nat) : Int)), (0, (i : Int))] [] M mc ms Q := by
  obtain ⟨T, Ts, ps, dps, na, aa, n, tp, f, p, hSX, hSM, hTb, hAx⟩ := inv
  have scM := hAx.2.2.2
  have lay := hSX.1
  obtain ⟨okT, okX, okA⟩ := id hTb
  obtain ⟨a1, e1⟩ : ∃ a, X (i + 1) = a := ⟨_, rfl⟩
  have p1 := hX (i + 1)
  rw [e1] at p1
  obtain ⟨a2, e2⟩ : ∃ a, X (i + 2) = a := ⟨_, rfl⟩
  have p2 := hX (i + 2)
  rw [e2] at p2
  refine g_aload_n lk_267_1060 rfl ?_
  refine g_aload_n lk_267_1061 rfl ?_
  refine g_iload_n lk_267_1062 rfl ?_
  refine g_iconst lk_267_1063 ?_
  refine g_iadd lk_267_1064 ?_
  refine g_sload lk_267_1065 scM (by omega) (j := i + 1) (by omega) (v := a1) e1 ?_
  refine g_aload_n lk_267_1066 rfl ?_
  refine g_iload_n lk_267_1067 rfl ?_
  refine g_iconst lk_267_1068 ?_
  refine g_iadd lk_267_1069 ?_
  refine g_sload lk_267_1070 scM (by omega) (j := i + 2) (by omega) (v := a2) e2 ?_
  refine g_virtual (p := 1) (Qc := _) lk_267_1071 rfl (Nat.le_of_ble_eq_true rfl) rfl rfl (lay.on (by decide) rfl) (Nat.le_of_ble_eq_true rfl) (Nat.le_of_ble_eq_true rfl) (Nat.zero_le _) (Nat.zero_le _) (c_X_tree (d := D + 13) (mc := 0) (ms := 0) lay okT hSX.2.1 hSX.2.2.1 p1 p2) ?_
  rintro _ K1 ⟨rfl, eK⟩
  rw [eK]
  show Wp _ 267 1074 [(2, ((0 : Nat) : Int)), (2, ((1 : Nat) : Int)), (2, ((116 : Nat) : Int)), (0, (i : Int))] [(0, (sTree T Ts ps a1 a2))] M _ _ _
  refine g_aload_n lk_267_1074 rfl ?_
  refine g_aload_n lk_267_1075 rfl ?_
  refine g_iload_n lk_267_1076 rfl ?_
  refine g_iconst lk_267_1077 ?_
  refine g_iadd lk_267_1078 ?_
  refine g_sload lk_267_1079 scM (by omega) (j := i + 1) (by omega) (v := a1) e1 ?_
  refine g_aload_n lk_267_1080 rfl ?_
  refine g_iload_n lk_267_1081 rfl ?_
  refine g_iconst lk_267_1082 ?_
  refine g_iadd lk_267_1083 ?_
  refine g_sload lk_267_1084 scM (by omega) (j := i + 2) (by omega) (v := a2) e2 ?_
  refine g_virtual (p := 116) (Qc := _) lk_267_1085 rfl (Nat.le_of_ble_eq_true rfl) rfl rfl (lay.on (by decide) rfl) (Nat.le_of_ble_eq_true rfl) (Nat.le_of_ble_eq_true rfl) (Nat.zero_le _) (Nat.zero_le _) (c_Mo_tree (d := D + 16) (mc := 0) (ms := 0) lay okT hSM.2.1 hSM.2.2.1 p1 p2) ?_
  rintro _ K2 ⟨rfl, lay2, m2⟩
  show Wp _ 267 1088 [(2, ((0 : Nat) : Int)), (2, ((1 : Nat) : Int)), (2, ((116 : Nat) : Int)), (0, (i : Int))] [(0, (sTree T Ts ps a1 a2)), (0, (sTree T Ts ps a1 a2))] K2 _ _ _
  refine g_same (t := 1281) lk_267_1088 rfl ?_
  exact nx K2 _ _ ⟨T, Ts, ps, dps, na, aa, n, tp, f, p, hSX.mf m2 lay2 (by decide), hSM.mf m2 lay2 (by decide) (by decide), hTb, hAx.mf m2 (by decide) (by decide)⟩ (by omega) (by omega)
set_option maxHeartbeats 4000000 in
theorem lw_told {D mc ms L i : Nat} {X : Nat → Int} {M : pm_M} {Q : pm_Q} (inv : Inv M L X) (hX : ∀ j, pm_inI (X j)) (hi : i + 6 ≤ L) (L3 : L ≤ 3072) (b1 : 3 ≤ mc) (b2 : 12288 ≤ ms) (nx : LwN D mc ms L i X Q) :
    Wp (D + 20) 267 1093 [(2, ((0 : Nat) : Int)), (2, ((1 : Nat) : Int)), (2, ((116 : Nat) : Int)), (0, (i : Int))] [] M mc ms Q := by
  obtain ⟨T, Ts, ps, dps, na, aa, n, tp, f, p, hSX, hSM, hTb, hAx⟩ := inv
  have scM := hAx.2.2.2
  have lay := hSX.1
  obtain ⟨okT, okX, okA⟩ := id hTb
  obtain ⟨a1, e1⟩ : ∃ a, X (i + 1) = a := ⟨_, rfl⟩
  have p1 := hX (i + 1)
  rw [e1] at p1
  obtain ⟨a2, e2⟩ : ∃ a, X (i + 2) = a := ⟨_, rfl⟩
  have p2 := hX (i + 2)
  rw [e2] at p2
  obtain ⟨a3, e3⟩ : ∃ a, X (i + 3) = a := ⟨_, rfl⟩
  have p3 := hX (i + 3)
  rw [e3] at p3
  refine g_aload_n lk_267_1093 rfl ?_
  refine g_aload_n lk_267_1094 rfl ?_
  refine g_iload_n lk_267_1095 rfl ?_
  refine g_iconst lk_267_1096 ?_
  refine g_iadd lk_267_1097 ?_
  refine g_sload lk_267_1098 scM (by omega) (j := i + 1) (by omega) (v := a1) e1 ?_
  refine g_aload_n lk_267_1099 rfl ?_
  refine g_iload_n lk_267_1100 rfl ?_
  refine g_iconst lk_267_1101 ?_
  refine g_iadd lk_267_1102 ?_
  refine g_sload lk_267_1103 scM (by omega) (j := i + 2) (by omega) (v := a2) e2 ?_
  refine g_aload_n lk_267_1104 rfl ?_
  refine g_iload_n lk_267_1105 rfl ?_
  refine g_iconst lk_267_1106 ?_
  refine g_iadd lk_267_1107 ?_
  refine g_sload lk_267_1108 scM (by omega) (j := i + 3) (by omega) (v := a3) e3 ?_
  refine g_virtual (p := 1) (Qc := _) lk_267_1109 rfl (Nat.le_of_ble_eq_true rfl) rfl rfl (lay.on (by decide) rfl) (Nat.le_of_ble_eq_true rfl) (Nat.le_of_ble_eq_true rfl) (Nat.zero_le _) (Nat.zero_le _) (c_X_told (d := D + 17) (mc := 0) (ms := 0) lay okT hSX.2.2.1 p1 p2 p3) ?_
  rintro _ K1 ⟨rfl, eK⟩
  rw [eK]
  show Wp _ 267 1112 [(2, ((0 : Nat) : Int)), (2, ((1 : Nat) : Int)), (2, ((116 : Nat) : Int)), (0, (i : Int))] [(0, (sTold T Ts ps a1 a2 a3))] M _ _ _
  refine g_aload_n lk_267_1112 rfl ?_
  refine g_aload_n lk_267_1113 rfl ?_
  refine g_iload_n lk_267_1114 rfl ?_
  refine g_iconst lk_267_1115 ?_
  refine g_iadd lk_267_1116 ?_
  refine g_sload lk_267_1117 scM (by omega) (j := i + 1) (by omega) (v := a1) e1 ?_
  refine g_aload_n lk_267_1118 rfl ?_
  refine g_iload_n lk_267_1119 rfl ?_
  refine g_iconst lk_267_1120 ?_
  refine g_iadd lk_267_1121 ?_
  refine g_sload lk_267_1122 scM (by omega) (j := i + 2) (by omega) (v := a2) e2 ?_
  refine g_aload_n lk_267_1123 rfl ?_
  refine g_iload_n lk_267_1124 rfl ?_
  refine g_iconst lk_267_1125 ?_
  refine g_iadd lk_267_1126 ?_
  refine g_sload lk_267_1127 scM (by omega) (j := i + 3) (by omega) (v := a3) e3 ?_
  refine g_virtual (p := 116) (Qc := _) lk_267_1128 rfl (Nat.le_of_ble_eq_true rfl) rfl rfl (lay.on (by decide) rfl) (Nat.le_of_ble_eq_true rfl) (Nat.le_of_ble_eq_true rfl) (Nat.zero_le _) (Nat.zero_le _) (c_Mo_told (d := D + 17) (mc := 0) (ms := 0) lay okT hSM.2.1 hSM.2.2.1 p1 p2 p3) ?_
  rintro _ K2 ⟨rfl, lay2, m2⟩
  show Wp _ 267 1131 [(2, ((0 : Nat) : Int)), (2, ((1 : Nat) : Int)), (2, ((116 : Nat) : Int)), (0, (i : Int))] [(0, (sTold T Ts ps a1 a2 a3)), (0, (sTold T Ts ps a1 a2 a3))] K2 _ _ _
  refine g_same (t := 1281) lk_267_1131 rfl ?_
  exact nx K2 _ _ ⟨T, Ts, ps, dps, na, aa, n, tp, f, p, hSX.mf m2 lay2 (by decide), hSM.mf m2 lay2 (by decide) (by decide), hTb, hAx.mf m2 (by decide) (by decide)⟩ (by omega) (by omega)
set_option maxHeartbeats 4000000 in
theorem lw_apart {D mc ms L i : Nat} {X : Nat → Int} {M : pm_M} {Q : pm_Q} (inv : Inv M L X) (hX : ∀ j, pm_inI (X j)) (hi : i + 6 ≤ L) (L3 : L ≤ 3072) (b1 : 3 ≤ mc) (b2 : 12288 ≤ ms) (nx : LwN D mc ms L i X Q) :
    Wp (D + 20) 267 1179 [(2, ((0 : Nat) : Int)), (2, ((1 : Nat) : Int)), (2, ((116 : Nat) : Int)), (0, (i : Int))] [] M mc ms Q := by
  obtain ⟨T, Ts, ps, dps, na, aa, n, tp, f, p, hSX, hSM, hTb, hAx⟩ := inv
  have scM := hAx.2.2.2
  have lay := hSX.1
  obtain ⟨okT, okX, okA⟩ := id hTb
  obtain ⟨a1, e1⟩ : ∃ a, X (i + 1) = a := ⟨_, rfl⟩
  have p1 := hX (i + 1)
  rw [e1] at p1
  obtain ⟨a2, e2⟩ : ∃ a, X (i + 2) = a := ⟨_, rfl⟩
  have p2 := hX (i + 2)
  rw [e2] at p2
  refine g_aload_n lk_267_1179 rfl ?_
  refine g_aload_n lk_267_1180 rfl ?_
  refine g_iload_n lk_267_1181 rfl ?_
  refine g_iconst lk_267_1182 ?_
  refine g_iadd lk_267_1183 ?_
  refine g_sload lk_267_1184 scM (by omega) (j := i + 1) (by omega) (v := a1) e1 ?_
  refine g_aload_n lk_267_1185 rfl ?_
  refine g_iload_n lk_267_1186 rfl ?_
  refine g_iconst lk_267_1187 ?_
  refine g_iadd lk_267_1188 ?_
  refine g_sload lk_267_1189 scM (by omega) (j := i + 2) (by omega) (v := a2) e2 ?_
  refine g_virtual (p := 1) (Qc := _) lk_267_1190 rfl (Nat.le_of_ble_eq_true rfl) rfl rfl (lay.on (by decide) rfl) (Nat.le_of_ble_eq_true rfl) (Nat.le_of_ble_eq_true rfl) (Nat.zero_le _) (Nat.zero_le _) (c_X_apart (d := D + 14) (mc := 0) (ms := 0) lay okT hSX.2.1 hSX.2.2.1 p1 p2) ?_
  rintro _ K1 ⟨rfl, eK⟩
  rw [eK]
  show Wp _ 267 1193 [(2, ((0 : Nat) : Int)), (2, ((1 : Nat) : Int)), (2, ((116 : Nat) : Int)), (0, (i : Int))] [(0, (sApart T Ts a1 a2))] M _ _ _
  refine g_aload_n lk_267_1193 rfl ?_
  refine g_aload_n lk_267_1194 rfl ?_
  refine g_iload_n lk_267_1195 rfl ?_
  refine g_iconst lk_267_1196 ?_
  refine g_iadd lk_267_1197 ?_
  refine g_sload lk_267_1198 scM (by omega) (j := i + 1) (by omega) (v := a1) e1 ?_
  refine g_aload_n lk_267_1199 rfl ?_
  refine g_iload_n lk_267_1200 rfl ?_
  refine g_iconst lk_267_1201 ?_
  refine g_iadd lk_267_1202 ?_
  refine g_sload lk_267_1203 scM (by omega) (j := i + 2) (by omega) (v := a2) e2 ?_
  refine g_virtual (p := 116) (Qc := _) lk_267_1204 rfl (Nat.le_of_ble_eq_true rfl) rfl rfl (lay.on (by decide) rfl) (Nat.le_of_ble_eq_true rfl) (Nat.le_of_ble_eq_true rfl) (Nat.zero_le _) (Nat.zero_le _) (c_Mo_apart (d := D + 17) (mc := 0) (ms := 0) lay okT hSM.2.1 hSM.2.2.1 p1 p2) ?_
  rintro _ K2 ⟨rfl, lay2, m2⟩
  show Wp _ 267 1207 [(2, ((0 : Nat) : Int)), (2, ((1 : Nat) : Int)), (2, ((116 : Nat) : Int)), (0, (i : Int))] [(0, (sApart T Ts a1 a2)), (0, (sApart T Ts a1 a2))] K2 _ _ _
  refine g_same (t := 1281) lk_267_1207 rfl ?_
  exact nx K2 _ _ ⟨T, Ts, ps, dps, na, aa, n, tp, f, p, hSX.mf m2 lay2 (by decide), hSM.mf m2 lay2 (by decide) (by decide), hTb, hAx.mf m2 (by decide) (by decide)⟩ (by omega) (by omega)
