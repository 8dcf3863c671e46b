/-! ===== the law: calls that change the state ===== -/
theorem StX.gr2 {S : List Nat} {M N : pm_M} {T : Tab} {Ts : List (List Nd)} {ps dps : Nat → Nat → Nat} {na : Nat} {aa : Nat → Int} (h : StX M T Ts ps dps na aa) (k : Gr S M N) (l : Lay N) (hS : ∀ b, b ∈ S → b = 2 ∨ b = 3) : StX N T Ts ps dps na aa := by
  obtain ⟨l0, b, d, e, c⟩ := h
  have m := l0.1
  have n : ∀ a, a ≠ 2 → a ≠ 3 → a ≤ 156 → pm_ct N a = pm_ct M a := fun a h2 h3 h4 => k.ct (by omega) (fun q => by have := hS a q; omega)
  refine ⟨l, ?_, d.gr k m (by rw [n 1 (by omega) (by omega) (by omega)]) (fun a h1 h2 q => by have := hS a q; omega), ?_, c.gr k m (fun a ha => ?_)⟩
  · unfold TbAt at b ⊢
    rw [n 24 (by omega) (by omega) (by omega), n (24 + 1) (by omega) (by omega) (by omega)]; exact b
  · unfold AcX at e ⊢
    rw [n 1 (by omega) (by omega) (by omega), n 27 (by omega) (by omega) (by omega)]; exact e
  · rcases hS a ha with e | e <;> rw [e] <;> rfl
theorem bm_sgn {z : Int} (h0 : 0 ≤ z) (h1 : z < 256) : z.bmod 256 = sgn z.toNat := by
  unfold sgn
  rw [Int.bmod_def]
  by_cases c : z.toNat < 128
  · rw [if_pos c, if_pos (by omega)]
    omega
  · rw [if_neg c, if_neg (by omega)]
    omega
theorem tp4_r {n : Nat} {tp : Nat → Int} {v : Int} (h : ∀ i, i < n → 0 ≤ tp i ∧ tp i < 256) : ∀ i, i < n + 4 → 0 ≤ tp4 n tp v i ∧ tp4 n tp v i < 256 := fun i hi => by
  unfold tp4
  by_cases e1 : i = n
  · rw [if_pos e1]; omega
  · rw [if_neg e1]
    by_cases e2 : i = n + 1
    · rw [if_pos e2]; omega
    · rw [if_neg e2]
      by_cases e3 : i = n + 2
      · rw [if_pos e3]; omega
      · rw [if_neg e3]
        by_cases e4 : i = n + 3
        · rw [if_pos e4]; omega
        · rw [if_neg e4]; exact h i (by omega)
theorem tp20_r {n : Nat} {tp : Nat → Int} {a b c d e : Int} (h : ∀ i, i < n → 0 ≤ tp i ∧ tp i < 256) : ∀ i, i < n + 20 → 0 ≤ tp20 n tp a b c d e i ∧ tp20 n tp a b c d e i < 256 := fun i hi => by
  unfold tp20
  exact tp4_r (tp4_r (tp4_r (tp4_r (tp4_r h)))) i (by omega)
theorem TaI.tcx {M : pm_M} {n : Nat} {tp : Nat → Int} (h : TaI M n tp) : TcX M n (fun i => (tp i).toNat) := by
  obtain ⟨h1, h2, h3, h4⟩ := h
  refine ⟨h3, h1.1, fun i hi => ?_⟩
  obtain ⟨z1, z2⟩ := h4 i hi
  refine ⟨by show (tp i).toNat < 256; omega, ?_⟩
  rw [h1.2 i hi]
  exact bm_sgn z1 z2
theorem TaI.tcm {M : pm_M} {n : Nat} {tp : Nat → Int} (h : TaI M n tp) : ∀ i, i < n → (fun i => (tp i).toNat) i < 256 ∧ pm_ct M 132 i = (((fun i => (tp i).toNat) i : Nat) : Int) := fun i hi => by
  obtain ⟨h1, h2, h3, h4⟩ := h
  obtain ⟨z1, z2⟩ := h4 i hi
  refine ⟨by show (tp i).toNat < 256; omega, ?_⟩
  rw [h2.2 i hi]
  show tp i = ((tp i).toNat : Int)
  omega
theorem feed_y {n : Nat} {v : Int} {A B : Prop} {ρ : Option pm_V} (c : n + 20 ≤ 500) (o : (500 < n + 20 ∧ ρ = some (0, -1) ∧ A) ∨ (n + 20 ≤ 500 ∧ ρ = some (0, v) ∧ B)) : ρ = some (0, v) ∧ B := by
  rcases o with q | q
  · omega
  · exact q.2
theorem feed_n {n : Nat} {v : Int} {A B : Prop} {ρ : Option pm_V} (c : ¬ n + 20 ≤ 500) (o : (500 < n + 20 ∧ ρ = some (0, -1) ∧ A) ∨ (n + 20 ≤ 500 ∧ ρ = some (0, v) ∧ B)) : ρ = some (0, -1) ∧ A := by
  rcases o with q | q
  · exact q.2
  · exact absurd q.1 c
theorem end_y {P A B : Prop} {v : Int} {ρ : Option pm_V} (c : P) (o : (¬ P ∧ ρ = some (0, -1) ∧ A) ∨ (P ∧ ρ = some (0, v) ∧ B)) : ρ = some (0, v) ∧ B := by
  rcases o with q | q
  · exact absurd c q.1
  · exact q.2
theorem end_n {P A B : Prop} {v : Int} {ρ : Option pm_V} (c : ¬ P) (o : (¬ P ∧ ρ = some (0, -1) ∧ A) ∨ (P ∧ ρ = some (0, v) ∧ B)) : ρ = some (0, -1) ∧ A := by
  rcases o with q | q
  · exact q.2
  · exact absurd q.1 c
theorem TpX.mf {S K : List Nat} {M N : pm_M} {n : Nat} {tp : Nat → Int} (h : TpX M n tp) (k : MF S K M N) (h2 : 2 ∉ S) (h3 : 3 ∉ S) : TpX N n tp := by
  unfold TpX at h ⊢
  rw [k.ct h2 (by decide), k.ct h3 (by decide)]; exact h
theorem TpM.fr {S : List Nat} {M N : pm_M} {n : Nat} {tp : Nat → Int} (h : TpM M n tp) (k : Fr S M N) (h2 : 116 ∉ S) (h3 : 132 ∉ S) : TpM N n tp := by
  unfold TpM at h ⊢
  rw [k.ct h2, k.ct h3]; exact h
set_option maxHeartbeats 4000000 in
theorem lw_put {D mc ms L i : Nat} {X : Nat → Int} {M : pm_M} {Q : pm_Q} (inv : Inv M L X) (hX : ∀ j, pm_inI (X j)) (hi : i + 6 ≤ L) (L3 : L ≤ 3072) (b1 : 3 ≤ mc) (b2 : 12288 ≤ ms) (nx : LwN D mc ms L i X Q) :
    Wp (D + 20) 267 1212 [(2, ((0 : Nat) : Int)), (2, ((1 : Nat) : Int)), (2, ((116 : Nat) : Int)), (0, (i : Int))] [] M mc ms Q := by
  obtain ⟨T, Ts, ps, dps, na, aa, n, tp, f, p, hSX, hSM, hTb, hAx⟩ := inv
  have scM := hAx.2.2.2
  have lay := hSX.1
  obtain ⟨okT, okX, okA⟩ := id hTb
  obtain ⟨a1, e1⟩ : ∃ a, X (i + 1) = a := ⟨_, rfl⟩
  have p1 := hX (i + 1)
  rw [e1] at p1
  obtain ⟨a2, e2⟩ : ∃ a, X (i + 2) = a := ⟨_, rfl⟩
  have p2 := hX (i + 2)
  rw [e2] at p2
  obtain ⟨a3, e3⟩ : ∃ a, X (i + 3) = a := ⟨_, rfl⟩
  have p3 := hX (i + 3)
  rw [e3] at p3
  have n12 := hSX.2.2.2.1.1
  by_cases c : okPut T a1 a2 a3
  · have h6 := okT.1.2
    have h7 := okT.2.1.2
    refine g_aload_n lk_267_1212 rfl ?_
    refine g_aload_n lk_267_1213 rfl ?_
    refine g_iload_n lk_267_1214 rfl ?_
    refine g_iconst lk_267_1215 ?_
    refine g_iadd lk_267_1216 ?_
    refine g_sload lk_267_1217 scM (by omega) (j := i + 1) (by omega) (v := a1) e1 ?_
    refine g_aload_n lk_267_1218 rfl ?_
    refine g_iload_n lk_267_1219 rfl ?_
    refine g_iconst lk_267_1220 ?_
    refine g_iadd lk_267_1221 ?_
    refine g_sload lk_267_1222 scM (by omega) (j := i + 2) (by omega) (v := a2) e2 ?_
    refine g_aload_n lk_267_1223 rfl ?_
    refine g_iload_n lk_267_1224 rfl ?_
    refine g_iconst lk_267_1225 ?_
    refine g_iadd lk_267_1226 ?_
    refine g_sload lk_267_1227 scM (by omega) (j := i + 3) (by omega) (v := a3) e3 ?_
    refine g_virtual (p := 1) (Qc := _) lk_267_1228 rfl (Nat.le_of_ble_eq_true rfl) rfl rfl (lay.on (by decide) rfl) (Nat.le_of_ble_eq_true rfl) (Nat.le_of_ble_eq_true rfl) (Nat.zero_le _) (Nat.zero_le _) (c_X_put (d := D + 18) (mc := 0) (ms := 0) okT hSX p1 p2 p3) ?_
    rintro _ K1 ⟨rfl, g1, g2, fr1⟩
    have sx1 := g1 c
    have lay1 := sx1.1
    have sm1 := hSM.gr fr1.gr lay1 (by decide)
    have ax1 := hAx.gr fr1.gr lay.1 (by decide)
    have scK1 := ax1.2.2.2
    show Wp _ 267 1231 [(2, ((0 : Nat) : Int)), (2, ((1 : Nat) : Int)), (2, ((116 : Nat) : Int)), (0, (i : Int))] [(0, (sPut T a1 a2 a3))] K1 _ _ _
    refine g_aload_n lk_267_1231 rfl ?_
    refine g_aload_n lk_267_1232 rfl ?_
    refine g_iload_n lk_267_1233 rfl ?_
    refine g_iconst lk_267_1234 ?_
    refine g_iadd lk_267_1235 ?_
    refine g_sload lk_267_1236 scK1 (by omega) (j := i + 1) (by omega) (v := a1) e1 ?_
    refine g_aload_n lk_267_1237 rfl ?_
    refine g_iload_n lk_267_1238 rfl ?_
    refine g_iconst lk_267_1239 ?_
    refine g_iadd lk_267_1240 ?_
    refine g_sload lk_267_1241 scK1 (by omega) (j := i + 2) (by omega) (v := a2) e2 ?_
    refine g_aload_n lk_267_1242 rfl ?_
    refine g_iload_n lk_267_1243 rfl ?_
    refine g_iconst lk_267_1244 ?_
    refine g_iadd lk_267_1245 ?_
    refine g_sload lk_267_1246 scK1 (by omega) (j := i + 3) (by omega) (v := a3) e3 ?_
    refine g_virtual (p := 116) (Qc := _) lk_267_1247 rfl (Nat.le_of_ble_eq_true rfl) rfl rfl (lay1.on (by decide) rfl) (Nat.le_of_ble_eq_true rfl) (Nat.le_of_ble_eq_true rfl) (Nat.zero_le _) (Nat.zero_le _) (c_Mo_put (d := D + 17) (mc := 0) (ms := 0) okT sm1 p1 p2 p3) ?_
    rintro _ K2 ⟨rfl, q1, q2, m2⟩
    have sm2 := q1 c
    have lay2 := sm2.1
    show Wp _ 267 1250 [(2, ((0 : Nat) : Int)), (2, ((1 : Nat) : Int)), (2, ((116 : Nat) : Int)), (0, (i : Int))] [(0, (sPut T a1 a2 a3)), (0, (sPut T a1 a2 a3))] K2 _ _ _
    refine g_same (t := 1281) lk_267_1250 rfl ?_
    have x10 := okT.2.2.1 (6 * a1.toNat + a2.toNat)
    obtain ⟨⟨⟨r1, r2⟩, ⟨r3, r4⟩⟩, ⟨r5, r6⟩, r7⟩ := id c
    exact nx K2 _ _ ⟨Tput T (6 * a1.toNat + a2.toNat) a3.toNat, Ts, ps, dps, kN na, kA na aa (zPut T a1 a2), n, tp, f, p, sx1.mf m2 lay2 (by decide), sm2, ⟨okT.put (by omega), okX.put (by omega), okA.put n12 (by omega) okT.1.2 (by omega) okT.2.1.2 x10⟩, ax1.mf m2 (by decide) (by decide)⟩ (by omega) (by omega)
  · skip
    refine g_aload_n lk_267_1212 rfl ?_
    refine g_aload_n lk_267_1213 rfl ?_
    refine g_iload_n lk_267_1214 rfl ?_
    refine g_iconst lk_267_1215 ?_
    refine g_iadd lk_267_1216 ?_
    refine g_sload lk_267_1217 scM (by omega) (j := i + 1) (by omega) (v := a1) e1 ?_
    refine g_aload_n lk_267_1218 rfl ?_
    refine g_iload_n lk_267_1219 rfl ?_
    refine g_iconst lk_267_1220 ?_
    refine g_iadd lk_267_1221 ?_
    refine g_sload lk_267_1222 scM (by omega) (j := i + 2) (by omega) (v := a2) e2 ?_
    refine g_aload_n lk_267_1223 rfl ?_
    refine g_iload_n lk_267_1224 rfl ?_
    refine g_iconst lk_267_1225 ?_
    refine g_iadd lk_267_1226 ?_
    refine g_sload lk_267_1227 scM (by omega) (j := i + 3) (by omega) (v := a3) e3 ?_
    refine g_virtual (p := 1) (Qc := _) lk_267_1228 rfl (Nat.le_of_ble_eq_true rfl) rfl rfl (lay.on (by decide) rfl) (Nat.le_of_ble_eq_true rfl) (Nat.le_of_ble_eq_true rfl) (Nat.zero_le _) (Nat.zero_le _) (c_X_put (d := D + 18) (mc := 0) (ms := 0) okT hSX p1 p2 p3) ?_
    rintro _ K1 ⟨rfl, g1, g2, fr1⟩
    rw [g2 c]
    show Wp _ 267 1231 [(2, ((0 : Nat) : Int)), (2, ((1 : Nat) : Int)), (2, ((116 : Nat) : Int)), (0, (i : Int))] [(0, (sPut T a1 a2 a3))] M _ _ _
    refine g_aload_n lk_267_1231 rfl ?_
    refine g_aload_n lk_267_1232 rfl ?_
    refine g_iload_n lk_267_1233 rfl ?_
    refine g_iconst lk_267_1234 ?_
    refine g_iadd lk_267_1235 ?_
    refine g_sload lk_267_1236 scM (by omega) (j := i + 1) (by omega) (v := a1) e1 ?_
    refine g_aload_n lk_267_1237 rfl ?_
    refine g_iload_n lk_267_1238 rfl ?_
    refine g_iconst lk_267_1239 ?_
    refine g_iadd lk_267_1240 ?_
    refine g_sload lk_267_1241 scM (by omega) (j := i + 2) (by omega) (v := a2) e2 ?_
    refine g_aload_n lk_267_1242 rfl ?_
    refine g_iload_n lk_267_1243 rfl ?_
    refine g_iconst lk_267_1244 ?_
    refine g_iadd lk_267_1245 ?_
    refine g_sload lk_267_1246 scM (by omega) (j := i + 3) (by omega) (v := a3) e3 ?_
    refine g_virtual (p := 116) (Qc := _) lk_267_1247 rfl (Nat.le_of_ble_eq_true rfl) rfl rfl (lay.on (by decide) rfl) (Nat.le_of_ble_eq_true rfl) (Nat.le_of_ble_eq_true rfl) (Nat.zero_le _) (Nat.zero_le _) (c_Mo_put (d := D + 17) (mc := 0) (ms := 0) okT hSM p1 p2 p3) ?_
    rintro _ K2 ⟨rfl, q1, q2, m2⟩
    have sm2 := q2 c
    have lay2 := sm2.1
    show Wp _ 267 1250 [(2, ((0 : Nat) : Int)), (2, ((1 : Nat) : Int)), (2, ((116 : Nat) : Int)), (0, (i : Int))] [(0, (sPut T a1 a2 a3)), (0, (sPut T a1 a2 a3))] K2 _ _ _
    refine g_same (t := 1281) lk_267_1250 rfl ?_
    exact nx K2 _ _ ⟨T, Ts, ps, dps, na, aa, n, tp, f, p, hSX.mf m2 lay2 (by decide), sm2, hTb, hAx.mf m2 (by decide) (by decide)⟩ (by omega) (by omega)
set_option maxHeartbeats 4000000 in
theorem lw_turn {D mc ms L i : Nat} {X : Nat → Int} {M : pm_M} {Q : pm_Q} (inv : Inv M L X) (hX : ∀ j, pm_inI (X j)) (hi : i + 6 ≤ L) (L3 : L ≤ 3072) (b1 : 3 ≤ mc) (b2 : 12288 ≤ ms) (nx : LwN D mc ms L i X Q) :
    Wp (D + 20) 267 1255 [(2, ((0 : Nat) : Int)), (2, ((1 : Nat) : Int)), (2, ((116 : Nat) : Int)), (0, (i : Int))] [] M mc ms Q := by
  obtain ⟨T, Ts, ps, dps, na, aa, n, tp, f, p, hSX, hSM, hTb, hAx⟩ := inv
  have scM := hAx.2.2.2
  have lay := hSX.1
  obtain ⟨okT, okX, okA⟩ := id hTb
  have n12 := hSX.2.2.2.1.1
  refine g_aload_n lk_267_1255 rfl ?_
  refine g_virtual (p := 1) (Qc := _) lk_267_1256 rfl (Nat.le_of_ble_eq_true rfl) rfl rfl (lay.on (by decide) rfl) (Nat.le_of_ble_eq_true rfl) (Nat.le_of_ble_eq_true rfl) (Nat.zero_le _) (Nat.zero_le _) (c_X_turn (d := D + 14) (mc := 0) (ms := 0) okT hSX) ?_
  rintro _ K1 ⟨rfl, sx1, fr1⟩
  have lay1 := sx1.1
  have sm1 := hSM.gr fr1.gr lay1 (by decide)
  have ax1 := hAx.gr fr1.gr lay.1 (by decide)
  show Wp _ 267 1259 [(2, ((0 : Nat) : Int)), (2, ((1 : Nat) : Int)), (2, ((116 : Nat) : Int)), (0, (i : Int))] [(0, (tC T : Int))] K1 _ _ _
  refine g_aload_n lk_267_1259 rfl ?_
  refine g_virtual (p := 116) (Qc := _) lk_267_1260 rfl (Nat.le_of_ble_eq_true rfl) rfl rfl (lay1.on (by decide) rfl) (Nat.le_of_ble_eq_true rfl) (Nat.le_of_ble_eq_true rfl) (Nat.zero_le _) (Nat.zero_le _) (c_Mo_turn (d := D + 18) (mc := 0) (ms := 0) okT sm1) ?_
  rintro _ K2 ⟨rfl, sm2, m2⟩
  have lay2 := sm2.1
  show Wp _ 267 1263 [(2, ((0 : Nat) : Int)), (2, ((1 : Nat) : Int)), (2, ((116 : Nat) : Int)), (0, (i : Int))] [(0, (tC T : Int)), (0, (tC T : Int))] K2 _ _ _
  refine g_same (t := 1281) lk_267_1263 rfl ?_
  exact nx K2 _ _ ⟨Tsw T, Ts.map Lsw, ps, dps, kN na, kA na aa (-1), n, tp, f, p, sx1.mf m2 lay2 (by decide), sm2, ⟨okT.sw, okX.sw, okA.turn n12⟩, ax1.mf m2 (by decide) (by decide)⟩ (by omega) (by omega)
set_option maxHeartbeats 4000000 in
theorem lw_undo {D mc ms L i : Nat} {X : Nat → Int} {M : pm_M} {Q : pm_Q} (inv : Inv M L X) (hX : ∀ j, pm_inI (X j)) (hi : i + 6 ≤ L) (L3 : L ≤ 3072) (b1 : 3 ≤ mc) (b2 : 12288 ≤ ms) (nx : LwN D mc ms L i X Q) :
    Wp (D + 20) 267 1268 [(2, ((0 : Nat) : Int)), (2, ((1 : Nat) : Int)), (2, ((116 : Nat) : Int)), (0, (i : Int))] [] M mc ms Q := by
  obtain ⟨T, Ts, ps, dps, na, aa, n, tp, f, p, hSX, hSM, hTb, hAx⟩ := inv
  have scM := hAx.2.2.2
  have lay := hSX.1
  obtain ⟨okT, okX, okA⟩ := id hTb
  cases na with
  | zero =>
    refine g_aload_n lk_267_1268 rfl ?_
    refine g_virtual (p := 1) (Qc := _) lk_267_1269 rfl (Nat.le_of_ble_eq_true rfl) rfl rfl (lay.on (by decide) rfl) (Nat.le_of_ble_eq_true rfl) (Nat.le_of_ble_eq_true rfl) (Nat.zero_le _) (Nat.zero_le _) (c_X_undo (d := D + 14) (mc := 0) (ms := 0) okT hSX okA) ?_
    rintro _ K1 ⟨rfl, g1, g2, fr1⟩
    rw [g1 rfl]
    show Wp _ 267 1272 [(2, ((0 : Nat) : Int)), (2, ((1 : Nat) : Int)), (2, ((116 : Nat) : Int)), (0, (i : Int))] [(0, (if (0 : Nat) = 0 then 0 else 1))] M _ _ _
    refine g_aload_n lk_267_1272 rfl ?_
    refine g_virtual (p := 116) (Qc := _) lk_267_1273 rfl (Nat.le_of_ble_eq_true rfl) rfl rfl (lay.on (by decide) rfl) (Nat.le_of_ble_eq_true rfl) (Nat.le_of_ble_eq_true rfl) (Nat.zero_le _) (Nat.zero_le _) (c_Mo_undo (d := D + 18) (mc := 0) (ms := 0) okT hSM okA) ?_
    rintro _ K2 ⟨rfl, q1, q2, m2⟩
    have sm2 := q1 rfl
    have lay2 := sm2.1
    show Wp _ 267 1276 [(2, ((0 : Nat) : Int)), (2, ((1 : Nat) : Int)), (2, ((116 : Nat) : Int)), (0, (i : Int))] [(0, (if (0 : Nat) = 0 then 0 else 1)), (0, (if (0 : Nat) = 0 then 0 else 1))] K2 _ _ _
    refine g_same (t := 1281) lk_267_1276 rfl ?_
    exact nx K2 _ _ ⟨T, Ts, ps, dps, 0, aa, n, tp, f, p, hSX.mf m2 lay2 (by decide), sm2, hTb, hAx.mf m2 (by decide) (by decide)⟩ (by omega) (by omega)
  | succ k =>
    obtain ⟨t1, t2, t3⟩ := okA.undo okT okX
    refine g_aload_n lk_267_1268 rfl ?_
    refine g_virtual (p := 1) (Qc := _) lk_267_1269 rfl (Nat.le_of_ble_eq_true rfl) rfl rfl (lay.on (by decide) rfl) (Nat.le_of_ble_eq_true rfl) (Nat.le_of_ble_eq_true rfl) (Nat.zero_le _) (Nat.zero_le _) (c_X_undo (d := D + 14) (mc := 0) (ms := 0) okT hSX okA) ?_
    rintro _ K1 ⟨rfl, g1, g2, fr1⟩
    have sx1 := g2 k rfl
    have lay1 := sx1.1
    have sm1 := hSM.gr fr1.gr lay1 (by decide)
    have ax1 := hAx.gr fr1.gr lay.1 (by decide)
    show Wp _ 267 1272 [(2, ((0 : Nat) : Int)), (2, ((1 : Nat) : Int)), (2, ((116 : Nat) : Int)), (0, (i : Int))] [(0, (if k + 1 = 0 then 0 else 1))] K1 _ _ _
    refine g_aload_n lk_267_1272 rfl ?_
    refine g_virtual (p := 116) (Qc := _) lk_267_1273 rfl (Nat.le_of_ble_eq_true rfl) rfl rfl (lay1.on (by decide) rfl) (Nat.le_of_ble_eq_true rfl) (Nat.le_of_ble_eq_true rfl) (Nat.zero_le _) (Nat.zero_le _) (c_Mo_undo (d := D + 18) (mc := 0) (ms := 0) okT sm1 okA) ?_
    rintro _ K2 ⟨rfl, q1, q2, m2⟩
    have sm2 := q2 k rfl
    have lay2 := sm2.1
    show Wp _ 267 1276 [(2, ((0 : Nat) : Int)), (2, ((1 : Nat) : Int)), (2, ((116 : Nat) : Int)), (0, (i : Int))] [(0, (if k + 1 = 0 then 0 else 1)), (0, (if k + 1 = 0 then 0 else 1))] K2 _ _ _
    refine g_same (t := 1281) lk_267_1276 rfl ?_
    exact nx K2 _ _ ⟨undT T (aa k), undL Ts (aa k), ps, dps, k, aa, n, tp, f, p, sx1.mf m2 lay2 (by decide), sm2, ⟨t1, t2, t3⟩, ax1.mf m2 (by decide) (by decide)⟩ (by omega) (by omega)
theorem kd_fr {S : List Nat} {M N : pm_M} (h : KdM M 128) (k : Fr S M N) (h1 : 128 ∉ S := by decide) : KdM N 128 := by
  unfold KdM at h ⊢
  rw [k.ct h1]; exact h
set_option maxHeartbeats 4000000 in
theorem lw_text {D mc ms L i : Nat} {X : Nat → Int} {M : pm_M} {Q : pm_Q} (inv : Inv M L X) (hX : ∀ j, pm_inI (X j)) (hi : i + 6 ≤ L) (L3 : L ≤ 3072) (b1 : 3 ≤ mc) (b2 : 12288 ≤ ms) (nx : LwN D mc ms L i X Q) :
    Wp (D + 20) 267 266 [(2, ((0 : Nat) : Int)), (2, ((1 : Nat) : Int)), (2, ((116 : Nat) : Int)), (0, (i : Int))] [] M mc ms Q := by
  obtain ⟨T, Ts, ps, dps, na, aa, n, tp, f, p, hSX, hSM, hTb, hAx⟩ := inv
  have scM := hAx.2.2.2
  have lay := hSX.1
  obtain ⟨okT, okX, okA⟩ := id hTb
  have n5 := hAx.1.2.2.1
  have tcx := hAx.1.tcx
  have tcm := hAx.1.tcm
  obtain ⟨ch, hch⟩ : ∃ ch : Nat → Nat, ch = fun i => (tp i).toNat := ⟨_, rfl⟩
  rw [← hch] at tcx tcm
  have h23 := hAx.1.2.1.1
  have xt := c_X_text (d := D + 4) (mc := 0) (ms := 0) hSX tcx
  have m0 := lay.1
  cases hp : pAll ch n with
  | inl e =>
    rw [hp] at xt
    refine g_aload_n lk_267_266 rfl ?_
    refine g_virtual (p := 1) (Qc := _) lk_267_267 rfl (Nat.le_of_ble_eq_true rfl) rfl rfl (lay.on (by decide) rfl) (Nat.le_of_ble_eq_true rfl) (Nat.le_of_ble_eq_true rfl) (Nat.zero_le _) (Nat.zero_le _) (xt) ?_
    rintro ρ K1 ⟨fr1, c4, tx1⟩
    obtain ⟨rfl, ft1, sx1⟩ := tx1
    have lay1 := sx1.1
    have sm1 := hSM.gr fr1.gr lay1 (by decide)
    have scK1 := scM.gr fr1.gr (by decide)
    have mt := c_Mo_text (d := D + 13) (mc := 0) (ms := 0) (ch := ch) sm1 (kd_fr hAx.2.1 fr1) n5 (by rw [fr1.ct (by decide)]; exact h23) (fun i hi => by rw [fr1.ct (by decide)]; exact tcm i hi)
    rw [hp] at mt
    show Wp _ 267 270 [(2, ((0 : Nat) : Int)), (2, ((1 : Nat) : Int)), (2, ((116 : Nat) : Int)), (0, (i : Int))] [(0, (-1))] K1 _ _ _
    refine g_aload_n lk_267_270 rfl ?_
    refine g_virtual (p := 116) (Qc := _) lk_267_271 rfl (Nat.le_of_ble_eq_true rfl) rfl rfl (lay1.on (by decide) rfl) (Nat.le_of_ble_eq_true rfl) (Nat.le_of_ble_eq_true rfl) (Nat.zero_le _) (Nat.zero_le _) (mt) ?_
    rintro ρ K2 ⟨m2, c23, kd2, tx2⟩
    obtain ⟨rfl, ft2, sm2⟩ := tx2
    have lay2 := sm2.1
    show Wp _ 267 274 [(2, ((0 : Nat) : Int)), (2, ((1 : Nat) : Int)), (2, ((116 : Nat) : Int)), (0, (i : Int))] [(0, (-1)), (0, (-1))] K2 _ _ _
    refine g_same (t := 1281) lk_267_274 rfl ?_
    have e2 : pm_ct K2 2 = pm_ct K1 2 := m2.ct (by decide) (by decide)
    exact nx K2 _ _ ⟨T, Ts, ps, dps, na, aa, 0, tp, (e.1 : Int), (e.2 : Int), sx1.mf m2 lay2 (by decide), sm2, hTb, ⟨⟨⟨by rw [e2]; exact c4, fun i hi => absurd hi (Nat.not_lt_zero i)⟩, ⟨c23, fun i hi => absurd hi (Nat.not_lt_zero i)⟩, Nat.zero_le _, fun i hi => absurd hi (Nat.not_lt_zero i)⟩, kd2, ⟨by rw [e2]; exact ft1.1, by rw [e2]; exact ft1.2, ft2.1, ft2.2⟩, scK1.gr m2.fr.gr (by decide)⟩⟩ (by omega) (by omega)
  | inr y =>
    rw [hp] at xt
    refine g_aload_n lk_267_266 rfl ?_
    refine g_virtual (p := 1) (Qc := _) lk_267_267 rfl (Nat.le_of_ble_eq_true rfl) rfl rfl (lay.on (by decide) rfl) (Nat.le_of_ble_eq_true rfl) (Nat.le_of_ble_eq_true rfl) (Nat.zero_le _) (Nat.zero_le _) (xt) ?_
    rintro ρ K1 ⟨fr1, c4, tx1⟩
    obtain ⟨rfl, ft1, sx1⟩ := tx1
    have lay1 := sx1.1
    have sm1 := hSM.gr fr1.gr lay1 (by decide)
    have scK1 := scM.gr fr1.gr (by decide)
    have mt := c_Mo_text (d := D + 13) (mc := 0) (ms := 0) (ch := ch) sm1 (kd_fr hAx.2.1 fr1) n5 (by rw [fr1.ct (by decide)]; exact h23) (fun i hi => by rw [fr1.ct (by decide)]; exact tcm i hi)
    rw [hp] at mt
    show Wp _ 267 270 [(2, ((0 : Nat) : Int)), (2, ((1 : Nat) : Int)), (2, ((116 : Nat) : Int)), (0, (i : Int))] [(0, (y.2.length : Int))] K1 _ _ _
    refine g_aload_n lk_267_270 rfl ?_
    refine g_virtual (p := 116) (Qc := _) lk_267_271 rfl (Nat.le_of_ble_eq_true rfl) rfl rfl (lay1.on (by decide) rfl) (Nat.le_of_ble_eq_true rfl) (Nat.le_of_ble_eq_true rfl) (Nat.zero_le _) (Nat.zero_le _) (mt) ?_
    rintro ρ K2 ⟨m2, c23, kd2, tx2⟩
    obtain ⟨rfl, ft2, sm2⟩ := tx2
    have lay2 := sm2.1
    show Wp _ 267 274 [(2, ((0 : Nat) : Int)), (2, ((1 : Nat) : Int)), (2, ((116 : Nat) : Int)), (0, (i : Int))] [(0, (y.2.length : Int)), (0, (y.2.length : Int))] K2 _ _ _
    refine g_same (t := 1281) lk_267_274 rfl ?_
    have e2 : pm_ct K2 2 = pm_ct K1 2 := m2.ct (by decide) (by decide)
    exact nx K2 _ _ ⟨y.1, tsN y.2, psN y.2, dpN y.2, 0, aa, 0, tp, 0, -1, sx1.mf m2 lay2 (by decide), sm2, ⟨(pAll_ok n5 hp).1, (pAll_ok n5 hp).2.1, trivial⟩, ⟨⟨⟨by rw [e2]; exact c4, fun i hi => absurd hi (Nat.not_lt_zero i)⟩, ⟨c23, fun i hi => absurd hi (Nat.not_lt_zero i)⟩, Nat.zero_le _, fun i hi => absurd hi (Nat.not_lt_zero i)⟩, kd2, ⟨by rw [e2]; exact ft1.1, by rw [e2]; exact ft1.2, ft2.1, ft2.2⟩, scK1.gr m2.fr.gr (by decide)⟩⟩ (by omega) (by omega)
theorem up_023 (g : Nat → Int) (z : Int) : ∀ k, k ∉ [0, 23] → pm_upd (pm_upd g 0 0) 23 z k = g k := fun k hk => by
  simp at hk
  rw [pm_upd_ne (by omega), pm_upd_ne (by omega)]
set_option maxHeartbeats 4000000 in
theorem lw_end {D mc ms L i : Nat} {X : Nat → Int} {M : pm_M} {Q : pm_Q} (inv : Inv M L X) (hX : ∀ j, pm_inI (X j)) (hi : i + 6 ≤ L) (L3 : L ≤ 3072) (b1 : 3 ≤ mc) (b2 : 12288 ≤ ms) (nx : LwN D mc ms L i X Q) :
    Wp (D + 20) 267 243 [(2, ((0 : Nat) : Int)), (2, ((1 : Nat) : Int)), (2, ((116 : Nat) : Int)), (0, (i : Int))] [] M mc ms Q := by
  obtain ⟨T, Ts, ps, dps, na, aa, n, tp, f, p, hSX, hSM, hTb, hAx⟩ := inv
  have scM := hAx.2.2.2
  have lay := hSX.1
  obtain ⟨okT, okX, okA⟩ := id hTb
  obtain ⟨a1, e1⟩ : ∃ a, X (i + 1) = a := ⟨_, rfl⟩
  have p1 := hX (i + 1)
  rw [e1] at p1
  have n5 := hAx.1.2.2.1
  by_cases c : 0 ≤ a1 ∧ a1 ≤ (n : Int)
  · skip
    refine g_aload_n lk_267_243 rfl ?_
    refine g_aload_n lk_267_244 rfl ?_
    refine g_iload_n lk_267_245 rfl ?_
    refine g_iconst lk_267_246 ?_
    refine g_iadd lk_267_247 ?_
    refine g_sload lk_267_248 scM (by omega) (j := i + 1) (by omega) (v := a1) e1 ?_
    refine g_virtual (p := 1) (Qc := _) lk_267_249 rfl (Nat.le_of_ble_eq_true rfl) rfl rfl (lay.on (by decide) rfl) (Nat.le_of_ble_eq_true rfl) (Nat.le_of_ble_eq_true rfl) (Nat.zero_le _) (Nat.zero_le _) (c_X_end (D := D + 19) (mc := 0) (ms := 0) lay hAx.1.1 n5 p1) ?_
    rintro ρ K1 o1
    obtain ⟨rfl, lay1, tx1, eK⟩ := end_y c o1
    have fr1 : Fr [2] M K1 := by rw [eK]; exact Fr.mu _ _ rfl
    have g6 : pm_ct K1 2 6 = f := by rw [eK, Mu_ct]; exact hAx.2.2.1.1
    have g7 : pm_ct K1 2 7 = p := by rw [eK, Mu_ct]; exact hAx.2.2.1.2.1
    have sx1 := hSX.gr2 fr1.gr lay1 (by decide)
    have sm1 := hSM.gr fr1.gr lay1 (by decide)
    have scK1 := scM.gr fr1.gr (by decide)
    have tm1 := hAx.1.2.1.fr fr1 (by decide) (by decide)
    show Wp _ 267 252 [(2, ((0 : Nat) : Int)), (2, ((1 : Nat) : Int)), (2, ((116 : Nat) : Int)), (0, (i : Int))] [(0, a1)] K1 _ _ _
    refine g_aload_n lk_267_252 rfl ?_
    refine g_aload_n lk_267_253 rfl ?_
    refine g_iload_n lk_267_254 rfl ?_
    refine g_iconst lk_267_255 ?_
    refine g_iadd lk_267_256 ?_
    refine g_sload lk_267_257 scK1 (by omega) (j := i + 1) (by omega) (v := a1) e1 ?_
    refine g_virtual (p := 116) (Qc := _) lk_267_258 rfl (Nat.le_of_ble_eq_true rfl) rfl rfl (lay1.on (by decide) rfl) (Nat.le_of_ble_eq_true rfl) (Nat.le_of_ble_eq_true rfl) (Nat.zero_le _) (Nat.zero_le _) (c_Mo_end (D := D + 18) (mc := 0) (ms := 0) lay1 tm1 n5 p1) ?_
    rintro ρ K2 o2
    obtain ⟨rfl, lay2, tm2, eK2⟩ := end_y c o2
    show Wp _ 267 261 [(2, ((0 : Nat) : Int)), (2, ((1 : Nat) : Int)), (2, ((116 : Nat) : Int)), (0, (i : Int))] [(0, a1), (0, a1)] K2 _ _ _
    refine g_same (t := 1281) lk_267_261 rfl ?_
    have m2 : MF [] [0, 23] K1 K2 := by rw [eK2]; exact MF.mu _ _ rfl (up_023 _ _)
    exact nx K2 _ _ ⟨T, Ts, ps, dps, na, aa, a1.toNat, tp, f, p, sx1.mf m2 lay2 (by decide), sm1.mf m2 lay2 (by decide) (by decide), hTb, ⟨⟨tx1.mf m2 (by decide) (by decide), tm2, by omega, fun i hi => hAx.1.2.2.2 i (by omega)⟩, (kd_fr hAx.2.1 fr1).mf m2 (by decide) (by decide), ⟨by rw [m2.ct (by decide) (by decide)]; exact g6, by rw [m2.ct (by decide) (by decide)]; exact g7, by rw [m2.fd (by decide), fr1.ct (by decide)]; exact hAx.2.2.1.2.2.1, by rw [m2.fd (by decide), fr1.ct (by decide)]; exact hAx.2.2.1.2.2.2⟩, scK1.gr m2.fr.gr (by decide)⟩⟩ (by omega) (by omega)
  · skip
    refine g_aload_n lk_267_243 rfl ?_
    refine g_aload_n lk_267_244 rfl ?_
    refine g_iload_n lk_267_245 rfl ?_
    refine g_iconst lk_267_246 ?_
    refine g_iadd lk_267_247 ?_
    refine g_sload lk_267_248 scM (by omega) (j := i + 1) (by omega) (v := a1) e1 ?_
    refine g_virtual (p := 1) (Qc := _) lk_267_249 rfl (Nat.le_of_ble_eq_true rfl) rfl rfl (lay.on (by decide) rfl) (Nat.le_of_ble_eq_true rfl) (Nat.le_of_ble_eq_true rfl) (Nat.zero_le _) (Nat.zero_le _) (c_X_end (D := D + 19) (mc := 0) (ms := 0) lay hAx.1.1 n5 p1) ?_
    rintro ρ K1 o1
    obtain ⟨rfl, eK⟩ := end_n c o1
    rw [eK]
    show Wp _ 267 252 [(2, ((0 : Nat) : Int)), (2, ((1 : Nat) : Int)), (2, ((116 : Nat) : Int)), (0, (i : Int))] [(0, (-1))] M _ _ _
    refine g_aload_n lk_267_252 rfl ?_
    refine g_aload_n lk_267_253 rfl ?_
    refine g_iload_n lk_267_254 rfl ?_
    refine g_iconst lk_267_255 ?_
    refine g_iadd lk_267_256 ?_
    refine g_sload lk_267_257 scM (by omega) (j := i + 1) (by omega) (v := a1) e1 ?_
    refine g_virtual (p := 116) (Qc := _) lk_267_258 rfl (Nat.le_of_ble_eq_true rfl) rfl rfl (lay.on (by decide) rfl) (Nat.le_of_ble_eq_true rfl) (Nat.le_of_ble_eq_true rfl) (Nat.zero_le _) (Nat.zero_le _) (c_Mo_end (D := D + 18) (mc := 0) (ms := 0) lay hAx.1.2.1 n5 p1) ?_
    rintro ρ K2 o2
    obtain ⟨rfl, lay2, eK2⟩ := end_n c o2
    show Wp _ 267 261 [(2, ((0 : Nat) : Int)), (2, ((1 : Nat) : Int)), (2, ((116 : Nat) : Int)), (0, (i : Int))] [(0, (-1)), (0, (-1))] K2 _ _ _
    refine g_same (t := 1281) lk_267_261 rfl ?_
    have m2 : MF [] [0] M K2 := by rw [eK2]; exact MF.th (by decide) _
    exact nx K2 _ _ ⟨T, Ts, ps, dps, na, aa, n, tp, f, p, hSX.mf m2 lay2 (by decide), hSM.mf m2 lay2 (by decide) (by decide), hTb, hAx.mf m2 (by decide) (by decide)⟩ (by omega) (by omega)
set_option maxHeartbeats 4000000 in
theorem lw_feed {D mc ms L i : Nat} {X : Nat → Int} {M : pm_M} {Q : pm_Q} (inv : Inv M L X) (hX : ∀ j, pm_inI (X j)) (hi : i + 6 ≤ L) (L3 : L ≤ 3072) (b1 : 3 ≤ mc) (b2 : 12288 ≤ ms) (nx : LwN D mc ms L i X Q) :
    Wp (D + 20) 267 180 [(2, ((0 : Nat) : Int)), (2, ((1 : Nat) : Int)), (2, ((116 : Nat) : Int)), (0, (i : Int))] [] M mc ms Q := by
  obtain ⟨T, Ts, ps, dps, na, aa, n, tp, f, p, hSX, hSM, hTb, hAx⟩ := inv
  have scM := hAx.2.2.2
  have lay := hSX.1
  obtain ⟨okT, okX, okA⟩ := id hTb
  obtain ⟨a1, e1⟩ : ∃ a, X (i + 1) = a := ⟨_, rfl⟩
  have p1 := hX (i + 1)
  rw [e1] at p1
  obtain ⟨a2, e2⟩ : ∃ a, X (i + 2) = a := ⟨_, rfl⟩
  have p2 := hX (i + 2)
  rw [e2] at p2
  obtain ⟨a3, e3⟩ : ∃ a, X (i + 3) = a := ⟨_, rfl⟩
  have p3 := hX (i + 3)
  rw [e3] at p3
  obtain ⟨a4, e4⟩ : ∃ a, X (i + 4) = a := ⟨_, rfl⟩
  have p4 := hX (i + 4)
  rw [e4] at p4
  obtain ⟨a5, e5⟩ : ∃ a, X (i + 5) = a := ⟨_, rfl⟩
  have p5 := hX (i + 5)
  rw [e5] at p5
  have n5 := hAx.1.2.2.1
  by_cases c : n + 20 ≤ 500
  · skip
    refine g_aload_n lk_267_180 rfl ?_
    refine g_aload_n lk_267_181 rfl ?_
    refine g_iload_n lk_267_182 rfl ?_
    refine g_iconst lk_267_183 ?_
    refine g_iadd lk_267_184 ?_
    refine g_sload lk_267_185 scM (by omega) (j := i + 1) (by omega) (v := a1) e1 ?_
    refine g_aload_n lk_267_186 rfl ?_
    refine g_iload_n lk_267_187 rfl ?_
    refine g_iconst lk_267_188 ?_
    refine g_iadd lk_267_189 ?_
    refine g_sload lk_267_190 scM (by omega) (j := i + 2) (by omega) (v := a2) e2 ?_
    refine g_aload_n lk_267_191 rfl ?_
    refine g_iload_n lk_267_192 rfl ?_
    refine g_iconst lk_267_193 ?_
    refine g_iadd lk_267_194 ?_
    refine g_sload lk_267_195 scM (by omega) (j := i + 3) (by omega) (v := a3) e3 ?_
    refine g_aload_n lk_267_196 rfl ?_
    refine g_iload_n lk_267_197 rfl ?_
    refine g_iconst lk_267_198 ?_
    refine g_iadd lk_267_199 ?_
    refine g_sload lk_267_200 scM (by omega) (j := i + 4) (by omega) (v := a4) e4 ?_
    refine g_aload_n lk_267_201 rfl ?_
    refine g_iload_n lk_267_202 rfl ?_
    refine g_iconst lk_267_203 ?_
    refine g_iadd lk_267_204 ?_
    refine g_sload lk_267_205 scM (by omega) (j := i + 5) (by omega) (v := a5) e5 ?_
    refine g_virtual (p := 1) (Qc := _) lk_267_206 rfl (Nat.le_of_ble_eq_true rfl) rfl rfl (lay.on (by decide) rfl) (Nat.le_of_ble_eq_true rfl) (Nat.le_of_ble_eq_true rfl) (Nat.zero_le _) (Nat.zero_le _) (c_X_feed (D := D + 18) (mc := 0) (ms := 0) lay hAx.1.1 n5 p1 p2 p3 p4 p5) ?_
    rintro ρ K1 o1
    obtain ⟨rfl, lay1, tx1, ff, eK⟩ := feed_y c o1
    have fr1 : Fr [2, 3] M K1 := by rw [eK]; exact Fr.mu _ _ rfl
    have g6 : pm_ct K1 2 6 = f := by rw [eK, Mu_ct]; exact hAx.2.2.1.1
    have g7 : pm_ct K1 2 7 = p := by rw [eK, Mu_ct]; exact hAx.2.2.1.2.1
    have sx1 := hSX.gr2 fr1.gr lay1 (by decide)
    have sm1 := hSM.gr fr1.gr lay1 (by decide)
    have scK1 := scM.gr fr1.gr (by decide)
    have tm1 := hAx.1.2.1.fr fr1 (by decide) (by decide)
    show Wp _ 267 209 [(2, ((0 : Nat) : Int)), (2, ((1 : Nat) : Int)), (2, ((116 : Nat) : Int)), (0, (i : Int))] [(0, ((n + 20 : Nat) : Int))] K1 _ _ _
    refine g_aload_n lk_267_209 rfl ?_
    refine g_aload_n lk_267_210 rfl ?_
    refine g_iload_n lk_267_211 rfl ?_
    refine g_iconst lk_267_212 ?_
    refine g_iadd lk_267_213 ?_
    refine g_sload lk_267_214 scK1 (by omega) (j := i + 1) (by omega) (v := a1) e1 ?_
    refine g_aload_n lk_267_215 rfl ?_
    refine g_iload_n lk_267_216 rfl ?_
    refine g_iconst lk_267_217 ?_
    refine g_iadd lk_267_218 ?_
    refine g_sload lk_267_219 scK1 (by omega) (j := i + 2) (by omega) (v := a2) e2 ?_
    refine g_aload_n lk_267_220 rfl ?_
    refine g_iload_n lk_267_221 rfl ?_
    refine g_iconst lk_267_222 ?_
    refine g_iadd lk_267_223 ?_
    refine g_sload lk_267_224 scK1 (by omega) (j := i + 3) (by omega) (v := a3) e3 ?_
    refine g_aload_n lk_267_225 rfl ?_
    refine g_iload_n lk_267_226 rfl ?_
    refine g_iconst lk_267_227 ?_
    refine g_iadd lk_267_228 ?_
    refine g_sload lk_267_229 scK1 (by omega) (j := i + 4) (by omega) (v := a4) e4 ?_
    refine g_aload_n lk_267_230 rfl ?_
    refine g_iload_n lk_267_231 rfl ?_
    refine g_iconst lk_267_232 ?_
    refine g_iadd lk_267_233 ?_
    refine g_sload lk_267_234 scK1 (by omega) (j := i + 5) (by omega) (v := a5) e5 ?_
    refine g_virtual (p := 116) (Qc := _) lk_267_235 rfl (Nat.le_of_ble_eq_true rfl) rfl rfl (lay1.on (by decide) rfl) (Nat.le_of_ble_eq_true rfl) (Nat.le_of_ble_eq_true rfl) (Nat.zero_le _) (Nat.zero_le _) (c_Mo_feed (D := D + 18) (mc := 0) (ms := 0) lay1 tm1 n5 p1 p2 p3 p4 p5) ?_
    rintro ρ K2 o2
    obtain ⟨rfl, lay2, tm2, ff2, eK2⟩ := feed_y c o2
    show Wp _ 267 238 [(2, ((0 : Nat) : Int)), (2, ((1 : Nat) : Int)), (2, ((116 : Nat) : Int)), (0, (i : Int))] [(0, ((n + 20 : Nat) : Int)), (0, ((n + 20 : Nat) : Int))] K2 _ _ _
    refine g_same (t := 1281) lk_267_238 rfl ?_
    have m2 : MF [132] [0, 23] K1 K2 := by rw [eK2]; exact MF.mu _ _ rfl (up_023 _ _)
    exact nx K2 _ _ ⟨T, Ts, ps, dps, na, aa, n + 20, tp20 n tp a1 a2 a3 a4 a5, f, p, sx1.mf m2 lay2 (by decide), sm1.mf m2 lay2 (by decide) (by decide), hTb, ⟨⟨tx1.mf m2 (by decide) (by decide), tm2, c, tp20_r hAx.1.2.2.2⟩, (kd_fr hAx.2.1 fr1).mf m2 (by decide) (by decide), ⟨by rw [m2.ct (by decide) (by decide)]; exact g6, by rw [m2.ct (by decide) (by decide)]; exact g7, by rw [m2.fd (by decide), fr1.ct (by decide)]; exact hAx.2.2.1.2.2.1, by rw [m2.fd (by decide), fr1.ct (by decide)]; exact hAx.2.2.1.2.2.2⟩, scK1.gr m2.fr.gr (by decide)⟩⟩ (by omega) (by omega)
  · skip
    refine g_aload_n lk_267_180 rfl ?_
    refine g_aload_n lk_267_181 rfl ?_
    refine g_iload_n lk_267_182 rfl ?_
    refine g_iconst lk_267_183 ?_
    refine g_iadd lk_267_184 ?_
    refine g_sload lk_267_185 scM (by omega) (j := i + 1) (by omega) (v := a1) e1 ?_
    refine g_aload_n lk_267_186 rfl ?_
    refine g_iload_n lk_267_187 rfl ?_
    refine g_iconst lk_267_188 ?_
    refine g_iadd lk_267_189 ?_
    refine g_sload lk_267_190 scM (by omega) (j := i + 2) (by omega) (v := a2) e2 ?_
    refine g_aload_n lk_267_191 rfl ?_
    refine g_iload_n lk_267_192 rfl ?_
    refine g_iconst lk_267_193 ?_
    refine g_iadd lk_267_194 ?_
    refine g_sload lk_267_195 scM (by omega) (j := i + 3) (by omega) (v := a3) e3 ?_
    refine g_aload_n lk_267_196 rfl ?_
    refine g_iload_n lk_267_197 rfl ?_
    refine g_iconst lk_267_198 ?_
    refine g_iadd lk_267_199 ?_
    refine g_sload lk_267_200 scM (by omega) (j := i + 4) (by omega) (v := a4) e4 ?_
    refine g_aload_n lk_267_201 rfl ?_
    refine g_iload_n lk_267_202 rfl ?_
    refine g_iconst lk_267_203 ?_
    refine g_iadd lk_267_204 ?_
    refine g_sload lk_267_205 scM (by omega) (j := i + 5) (by omega) (v := a5) e5 ?_
    refine g_virtual (p := 1) (Qc := _) lk_267_206 rfl (Nat.le_of_ble_eq_true rfl) rfl rfl (lay.on (by decide) rfl) (Nat.le_of_ble_eq_true rfl) (Nat.le_of_ble_eq_true rfl) (Nat.zero_le _) (Nat.zero_le _) (c_X_feed (D := D + 18) (mc := 0) (ms := 0) lay hAx.1.1 n5 p1 p2 p3 p4 p5) ?_
    rintro ρ K1 o1
    obtain ⟨rfl, eK⟩ := feed_n c o1
    rw [eK]
    show Wp _ 267 209 [(2, ((0 : Nat) : Int)), (2, ((1 : Nat) : Int)), (2, ((116 : Nat) : Int)), (0, (i : Int))] [(0, (-1))] M _ _ _
    refine g_aload_n lk_267_209 rfl ?_
    refine g_aload_n lk_267_210 rfl ?_
    refine g_iload_n lk_267_211 rfl ?_
    refine g_iconst lk_267_212 ?_
    refine g_iadd lk_267_213 ?_
    refine g_sload lk_267_214 scM (by omega) (j := i + 1) (by omega) (v := a1) e1 ?_
    refine g_aload_n lk_267_215 rfl ?_
    refine g_iload_n lk_267_216 rfl ?_
    refine g_iconst lk_267_217 ?_
    refine g_iadd lk_267_218 ?_
    refine g_sload lk_267_219 scM (by omega) (j := i + 2) (by omega) (v := a2) e2 ?_
    refine g_aload_n lk_267_220 rfl ?_
    refine g_iload_n lk_267_221 rfl ?_
    refine g_iconst lk_267_222 ?_
    refine g_iadd lk_267_223 ?_
    refine g_sload lk_267_224 scM (by omega) (j := i + 3) (by omega) (v := a3) e3 ?_
    refine g_aload_n lk_267_225 rfl ?_
    refine g_iload_n lk_267_226 rfl ?_
    refine g_iconst lk_267_227 ?_
    refine g_iadd lk_267_228 ?_
    refine g_sload lk_267_229 scM (by omega) (j := i + 4) (by omega) (v := a4) e4 ?_
    refine g_aload_n lk_267_230 rfl ?_
    refine g_iload_n lk_267_231 rfl ?_
    refine g_iconst lk_267_232 ?_
    refine g_iadd lk_267_233 ?_
    refine g_sload lk_267_234 scM (by omega) (j := i + 5) (by omega) (v := a5) e5 ?_
    refine g_virtual (p := 116) (Qc := _) lk_267_235 rfl (Nat.le_of_ble_eq_true rfl) rfl rfl (lay.on (by decide) rfl) (Nat.le_of_ble_eq_true rfl) (Nat.le_of_ble_eq_true rfl) (Nat.zero_le _) (Nat.zero_le _) (c_Mo_feed (D := D + 18) (mc := 0) (ms := 0) lay hAx.1.2.1 n5 p1 p2 p3 p4 p5) ?_
    rintro ρ K2 o2
    obtain ⟨rfl, lay2, eK2⟩ := feed_n c o2
    show Wp _ 267 238 [(2, ((0 : Nat) : Int)), (2, ((1 : Nat) : Int)), (2, ((116 : Nat) : Int)), (0, (i : Int))] [(0, (-1)), (0, (-1))] K2 _ _ _
    refine g_same (t := 1281) lk_267_238 rfl ?_
    have m2 : MF [] [0] M K2 := by rw [eK2]; exact MF.th (by decide) _
    exact nx K2 _ _ ⟨T, Ts, ps, dps, na, aa, n, tp, f, p, hSX.mf m2 lay2 (by decide), hSM.mf m2 lay2 (by decide) (by decide), hTb, hAx.mf m2 (by decide) (by decide)⟩ (by omega) (by omega)
