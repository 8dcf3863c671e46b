/-! ===== the law: calls that keep what they found ===== -/
def gSo (S : List Nat) : Prop := ∀ b, b ∈ S → (28 ≤ b ∧ b ≤ 53) ∨ (98 ≤ b ∧ b ≤ 115) ∨ 157 ≤ b
theorem gs_st {S : List Nat} (g : gSo S) : ∀ b, b ∈ S → stI b = false := fun b hb => by
  have := g b hb
  unfold stI
  simp
  omega
theorem gs_m {S : List Nat} (g : gSo S) : ∀ b, b ∈ S → b < 116 ∨ 156 < b := fun b hb => by
  have := g b hb
  omega
theorem gs_x {S : List Nat} (g : gSo S) : ∀ b, b ∈ S → b ≠ 0 ∧ b ≠ 2 ∧ b ≠ 3 ∧ b ≠ 116 ∧ b ≠ 128 ∧ b ≠ 132 := fun b hb => by
  have := g b hb
  omega
theorem own_g {s : Nat} (h : own s) : (28 ≤ s ∧ s ≤ 53) ∨ (98 ≤ s ∧ s ≤ 115) ∨ 157 ≤ s := by
  unfold own at h
  omega
theorem gs_t {s ga gb : Nat} (h1 : own s) (h2 : own ga) (h3 : own gb) : gSo [44, s, 47, 48, ga, gb] := fun b hb => by
  have := own_g h1
  have := own_g h2
  have := own_g h3
  simp only [List.mem_cons, List.not_mem_nil, or_false] at hb
  omega
theorem gs_s {s cn : Nat} (h1 : own s) (h2 : own cn) : gSo [44, s, 51, 52, cn] := fun b hb => by
  have := own_g h1
  have := own_g h2
  simp only [List.mem_cons, List.not_mem_nil, or_false] at hb
  omega
theorem gs_w {s w B : Nat} (h1 : own s) (h2 : own w) (hB : 98 ≤ B ∧ B ≤ 110) : gSo [44, s, B, w, B + 2, B + 3, B + 4, B + 5] := fun b hb => by
  have := own_g h1
  have := own_g h2
  simp only [List.mem_cons, List.not_mem_nil, or_false] at hb
  omega
theorem gr_w {M N : pm_M} {s w B : Nat} (k : Gr [44, s, B, w] M N) : Gr [44, s, B, w, B + 2, B + 3, B + 4, B + 5] M N := k.mono (fun a q => Or.inl (by
  simp only [List.mem_cons, List.not_mem_nil, or_false] at q ⊢
  omega))
theorem cn_6 {M N : pm_M} {T : Tab} {h B g s w : Nat} (q : CN M T h B g) (k : Gr [44, s, B, w] M N) (m : 157 ≤ M.1) (hB : B = 98 ∨ B = 104 ∨ B = 110) (c6 : pm_ct N B 6 = pm_ct M B 6) (h1 : own s) (h2 : own w) (hB2 : 98 ≤ B ∧ B ≤ 110) : CN N T h B g := by
  obtain ⟨a1, a2, a3⟩ := q
  have n : ∀ j, 2 ≤ j → j ≤ 5 → B + j ∉ [44, s, B, w] := fun j j2 j5 q => by
    unfold own at h1 h2
    simp only [List.mem_cons, List.not_mem_nil, or_false] at q
    omega
  exact ⟨by rw [c6]; exact a1, a2, fun e => ⟨by rw [k.ct (by omega) (n 2 (by omega) (by omega))]; exact (a3 e).1, (a3 e).2.of (k.ct (by omega) (n 3 (by omega) (by omega))) (k.ct (by omega) (n 4 (by omega) (by omega))) (k.ct (by omega) (n 5 (by omega) (by omega)))⟩⟩
theorem or_fl {fa fa' r r' : Nat} (j0 : fa' = 1 ∨ fa' = fa ∧ r' = r) (i7 : 1 ≤ r → fa = 1) : 1 ≤ r' → fa' = 1 := fun e => by
  rcases j0 with q | ⟨q1, q2⟩
  · exact q
  · rw [q1]
    exact i7 (by omega)
set_option maxHeartbeats 4000000 in
theorem lw_byTurns {D mc ms L i : Nat} {X : Nat → Int} {M : pm_M} {Q : pm_Q} (inv : Inv M L X) (hX : ∀ j, pm_inI (X j)) (hi : i + 6 ≤ L) (L3 : L ≤ 3072) (b1 : 3 ≤ mc) (b2 : 12288 ≤ ms) (nx : LwN D mc ms L i X Q) :
    Wp (D + 20) 267 766 [(2, ((0 : Nat) : Int)), (2, ((1 : Nat) : Int)), (2, ((116 : Nat) : Int)), (0, (i : Int))] [] M mc ms Q := by
  obtain ⟨T, Ts, ps, dps, na, aa, n, tp, f, p, hSX, hSM, hTb, hAx⟩ := inv
  have scM := hAx.2.2.2
  have lay := hSX.1
  obtain ⟨okT, okX, okA⟩ := id hTb
  obtain ⟨a1, e1⟩ : ∃ a, X (i + 1) = a := ⟨_, rfl⟩
  have p1 := hX (i + 1)
  rw [e1] at p1
  obtain ⟨s, fa, w0, f0, g0, w1, f1, g1, w2, f2, g2, ga, gb, r, ch, cn, r2, hA, ⟨hB0, hN0⟩, ⟨hB1, hN1⟩, ⟨hB2, hN2⟩, hCT, hCS, i1, i2, i3, i4, i5, i6, i7, i8, dy⟩ := id hSX.2.2.2.2
  obtain ⟨⟨x1, x2, x3, x4, x5, x6⟩, _⟩ := dy_ne dy
  obtain ⟨o1, o2, o3, o4, o5, o6, o7⟩ := dy_own dy
  refine g_aload_n lk_267_766 rfl ?_
  refine g_aload_n lk_267_767 rfl ?_
  refine g_iload_n lk_267_768 rfl ?_
  refine g_iconst lk_267_769 ?_
  refine g_iadd lk_267_770 ?_
  refine g_sload lk_267_771 scM (by omega) (j := i + 1) (by omega) (v := a1) e1 ?_
  refine g_virtual (p := 1) (Qc := _) lk_267_772 rfl (Nat.le_of_ble_eq_true rfl) rfl rfl (lay.on (by decide) rfl) (Nat.le_of_ble_eq_true rfl) (Nat.le_of_ble_eq_true rfl) (by omega) (by omega) (c_X_byTurns (d := D + 14) (mc := 3) (ms := 12288) lay okT hSX.2.1 hA hCT i7 x4 x5 p1 (by omega) (by omega)) ?_
  rintro _ K1 ⟨rfl, lay1, tb1, s', fa', ga', gb', r', ch', hA', hT', j0, es, ea, eb, n1, n2, k⟩
  have c1 := chs_upT hA hB0 hN0 hB1 hN1 hB2 hN2 hCT hCS i1 i2 i3 i4 i5 i6 i7 i8 dy lay.1 k hA' hT' es ea eb n1 n2 (fun e => by omega) (or_fl j0 i7)
  have sx1 := hSX.gr k lay1 c1 (gs_st (gs_t o1.1 o5.1 o6.1))
  have sm1 := hSM.gr k lay1 (gs_m (gs_t o1.1 o5.1 o6.1))
  have ax1 := hAx.gr k lay.1 (gs_x (gs_t o1.1 o5.1 o6.1))
  have scK1 := ax1.2.2.2
  obtain ⟨fc, hCL⟩ := sm1.2.2.2.2.1
  show Wp _ 267 775 [(2, ((0 : Nat) : Int)), (2, ((1 : Nat) : Int)), (2, ((116 : Nat) : Int)), (0, (i : Int))] [(0, (sTurns T a1))] K1 _ _ _
  refine g_aload_n lk_267_775 rfl ?_
  refine g_aload_n lk_267_776 rfl ?_
  refine g_iload_n lk_267_777 rfl ?_
  refine g_iconst lk_267_778 ?_
  refine g_iadd lk_267_779 ?_
  refine g_sload lk_267_780 scK1 (by omega) (j := i + 1) (by omega) (v := a1) e1 ?_
  refine g_virtual (p := 116) (Qc := _) lk_267_781 rfl (Nat.le_of_ble_eq_true rfl) rfl rfl (lay1.on (by decide) rfl) (Nat.le_of_ble_eq_true rfl) (Nat.le_of_ble_eq_true rfl) (Nat.zero_le _) (Nat.zero_le _) (c_Mo_byTurns (d := D + 14) (mc := 0) (ms := 0) lay1 okT sm1.2.1 hCL p1) ?_
  rintro _ K2 ⟨rfl, lay2, m2, cl2⟩
  show Wp _ 267 784 [(2, ((0 : Nat) : Int)), (2, ((1 : Nat) : Int)), (2, ((116 : Nat) : Int)), (0, (i : Int))] [(0, (sTurns T a1)), (0, (sTurns T a1))] K2 _ _ _
  refine g_same (t := 1281) lk_267_784 rfl ?_
  exact nx K2 _ _ ⟨T, Ts, ps, dps, na, aa, n, tp, f, p, sx1.mf m2 lay2 (by decide), sm1.cl m2 lay2 cl2 (by decide) (by decide), hTb, ax1.mf m2 (by decide) (by decide)⟩ (by omega) (by omega)
set_option maxHeartbeats 4000000 in
theorem lw_wrong {D mc ms L i : Nat} {X : Nat → Int} {M : pm_M} {Q : pm_Q} (inv : Inv M L X) (hX : ∀ j, pm_inI (X j)) (hi : i + 6 ≤ L) (L3 : L ≤ 3072) (b1 : 3 ≤ mc) (b2 : 12288 ≤ ms) (nx : LwN D mc ms L i X Q) :
    Wp (D + 20) 267 832 [(2, ((0 : Nat) : Int)), (2, ((1 : Nat) : Int)), (2, ((116 : Nat) : Int)), (0, (i : Int))] [] M mc ms Q := by
  obtain ⟨T, Ts, ps, dps, na, aa, n, tp, f, p, hSX, hSM, hTb, hAx⟩ := inv
  have scM := hAx.2.2.2
  have lay := hSX.1
  obtain ⟨okT, okX, okA⟩ := id hTb
  obtain ⟨a1, e1⟩ : ∃ a, X (i + 1) = a := ⟨_, rfl⟩
  have p1 := hX (i + 1)
  rw [e1] at p1
  obtain ⟨s, fa, w0, f0, g0, w1, f1, g1, w2, f2, g2, ga, gb, r, ch, cn, r2, hA, ⟨hB0, hN0⟩, ⟨hB1, hN1⟩, ⟨hB2, hN2⟩, hCT, hCS, i1, i2, i3, i4, i5, i6, i7, i8, dy⟩ := id hSX.2.2.2.2
  obtain ⟨⟨x1, x2, x3, x4, x5, x6⟩, _⟩ := dy_ne dy
  obtain ⟨o1, o2, o3, o4, o5, o6, o7⟩ := dy_own dy
  refine g_aload_n lk_267_832 rfl ?_
  refine g_aload_n lk_267_833 rfl ?_
  refine g_iload_n lk_267_834 rfl ?_
  refine g_iconst lk_267_835 ?_
  refine g_iadd lk_267_836 ?_
  refine g_sload lk_267_837 scM (by omega) (j := i + 1) (by omega) (v := a1) e1 ?_
  refine g_virtual (p := 1) (Qc := _) lk_267_838 rfl (Nat.le_of_ble_eq_true rfl) rfl rfl (lay.on (by decide) rfl) (Nat.le_of_ble_eq_true rfl) (Nat.le_of_ble_eq_true rfl) (by omega) (by omega) (c_X_wrong (d := D + 13) (mc := 2) (ms := 8192) lay okT hSX.2.1 hA hCS i8 x6 p1 (by omega) (by omega)) ?_
  rintro _ K1 ⟨rfl, lay1, tb1, s', fa', cn', r', hA', hS', j0, es, ec, n1, k⟩
  have c1 := chs_upS hA hB0 hN0 hB1 hN1 hB2 hN2 hCT hCS i1 i2 i3 i4 i5 i6 i7 i8 dy lay.1 k hA' hS' es ec n1 (fun e => by omega) (or_fl j0 i8)
  have sx1 := hSX.gr k lay1 c1 (gs_st (gs_s o1.1 o7.1))
  have sm1 := hSM.gr k lay1 (gs_m (gs_s o1.1 o7.1))
  have ax1 := hAx.gr k lay.1 (gs_x (gs_s o1.1 o7.1))
  have scK1 := ax1.2.2.2
  obtain ⟨fc, hCL⟩ := sm1.2.2.2.2.1
  show Wp _ 267 841 [(2, ((0 : Nat) : Int)), (2, ((1 : Nat) : Int)), (2, ((116 : Nat) : Int)), (0, (i : Int))] [(0, (sWrong T a1))] K1 _ _ _
  refine g_aload_n lk_267_841 rfl ?_
  refine g_aload_n lk_267_842 rfl ?_
  refine g_iload_n lk_267_843 rfl ?_
  refine g_iconst lk_267_844 ?_
  refine g_iadd lk_267_845 ?_
  refine g_sload lk_267_846 scK1 (by omega) (j := i + 1) (by omega) (v := a1) e1 ?_
  refine g_virtual (p := 116) (Qc := _) lk_267_847 rfl (Nat.le_of_ble_eq_true rfl) rfl rfl (lay1.on (by decide) rfl) (Nat.le_of_ble_eq_true rfl) (Nat.le_of_ble_eq_true rfl) (Nat.zero_le _) (Nat.zero_le _) (c_Mo_wrong (d := D + 14) (mc := 0) (ms := 0) lay1 okT sm1.2.1 hCL p1) ?_
  rintro _ K2 ⟨rfl, lay2, m2, cl2⟩
  show Wp _ 267 850 [(2, ((0 : Nat) : Int)), (2, ((1 : Nat) : Int)), (2, ((116 : Nat) : Int)), (0, (i : Int))] [(0, (sWrong T a1)), (0, (sWrong T a1))] K2 _ _ _
  refine g_same (t := 1281) lk_267_850 rfl ?_
  exact nx K2 _ _ ⟨T, Ts, ps, dps, na, aa, n, tp, f, p, sx1.mf m2 lay2 (by decide), sm1.cl m2 lay2 cl2 (by decide) (by decide), hTb, ax1.mf m2 (by decide) (by decide)⟩ (by omega) (by omega)
set_option maxHeartbeats 4000000 in
theorem lw_graft {D mc ms L i : Nat} {X : Nat → Int} {M : pm_M} {Q : pm_Q} (inv : Inv M L X) (hX : ∀ j, pm_inI (X j)) (hi : i + 6 ≤ L) (L3 : L ≤ 3072) (b1 : 3 ≤ mc) (b2 : 12288 ≤ ms) (nx : LwN D mc ms L i X Q) :
    Wp (D + 20) 267 1136 [(2, ((0 : Nat) : Int)), (2, ((1 : Nat) : Int)), (2, ((116 : Nat) : Int)), (0, (i : Int))] [] M mc ms Q := by
  obtain ⟨T, Ts, ps, dps, na, aa, n, tp, f, p, hSX, hSM, hTb, hAx⟩ := inv
  have scM := hAx.2.2.2
  have lay := hSX.1
  obtain ⟨okT, okX, okA⟩ := id hTb
  obtain ⟨a1, e1⟩ : ∃ a, X (i + 1) = a := ⟨_, rfl⟩
  have p1 := hX (i + 1)
  rw [e1] at p1
  obtain ⟨a2, e2⟩ : ∃ a, X (i + 2) = a := ⟨_, rfl⟩
  have p2 := hX (i + 2)
  rw [e2] at p2
  obtain ⟨a3, e3⟩ : ∃ a, X (i + 3) = a := ⟨_, rfl⟩
  have p3 := hX (i + 3)
  rw [e3] at p3
  obtain ⟨s, fa, w0, f0, g0, w1, f1, g1, w2, f2, g2, ga, gb, r, ch, cn, r2, hA, ⟨hB0, hN0⟩, ⟨hB1, hN1⟩, ⟨hB2, hN2⟩, hCT, hCS, i1, i2, i3, i4, i5, i6, i7, i8, dy⟩ := id hSX.2.2.2.2
  obtain ⟨⟨x1, x2, x3, x4, x5, x6⟩, _⟩ := dy_ne dy
  obtain ⟨o1, o2, o3, o4, o5, o6, o7⟩ := dy_own dy
  refine g_aload_n lk_267_1136 rfl ?_
  refine g_aload_n lk_267_1137 rfl ?_
  refine g_iload_n lk_267_1138 rfl ?_
  refine g_iconst lk_267_1139 ?_
  refine g_iadd lk_267_1140 ?_
  refine g_sload lk_267_1141 scM (by omega) (j := i + 1) (by omega) (v := a1) e1 ?_
  refine g_aload_n lk_267_1142 rfl ?_
  refine g_iload_n lk_267_1143 rfl ?_
  refine g_iconst lk_267_1144 ?_
  refine g_iadd lk_267_1145 ?_
  refine g_sload lk_267_1146 scM (by omega) (j := i + 2) (by omega) (v := a2) e2 ?_
  refine g_aload_n lk_267_1147 rfl ?_
  refine g_iload_n lk_267_1148 rfl ?_
  refine g_iconst lk_267_1149 ?_
  refine g_iadd lk_267_1150 ?_
  refine g_sload lk_267_1151 scM (by omega) (j := i + 3) (by omega) (v := a3) e3 ?_
  refine g_virtual (p := 1) (Qc := _) lk_267_1152 rfl (Nat.le_of_ble_eq_true rfl) rfl rfl (lay.on (by decide) rfl) (Nat.le_of_ble_eq_true rfl) (Nat.le_of_ble_eq_true rfl) (by omega) (by omega) (c_X_graft (d := D + 13) (mc := 2) (ms := 8192) lay okT hSX.2.1 hA hB0 i1 x1 (by omega) (by omega) hSX.2.2.1 p1 p2 p3) ?_
  rintro _ K1 ⟨rfl, lay1, tb1, s', fa', w', f', hA', hB', j1, j2, j3, es, ew, nsw, k0, c6⟩
  have k := gr_w k0
  have c1 := chs_up0 hA hB0 hN0 hB1 hN1 hB2 hN2 hCT hCS i1 i2 i3 i4 i5 i6 i7 i8 dy lay.1 k hA' hB' (cn_6 hN0 k0 lay.1 (by omega) c6 o1.1 o2.1 (by omega)) es ew nsw j3 j1 (fun e => j2 (i4 e))
  have sx1 := hSX.gr k lay1 c1 (gs_st (gs_w (B := 98) o1.1 o2.1 (by omega)))
  have sm1 := hSM.gr k lay1 (gs_m (gs_w (B := 98) o1.1 o2.1 (by omega)))
  have ax1 := hAx.gr k lay.1 (gs_x (gs_w (B := 98) o1.1 o2.1 (by omega)))
  have scK1 := ax1.2.2.2
  obtain ⟨fc, hCL⟩ := sm1.2.2.2.2.1
  show Wp _ 267 1155 [(2, ((0 : Nat) : Int)), (2, ((1 : Nat) : Int)), (2, ((116 : Nat) : Int)), (0, (i : Int))] [(0, (sGraft T Ts ps a1 a2 a3))] K1 _ _ _
  refine g_aload_n lk_267_1155 rfl ?_
  refine g_aload_n lk_267_1156 rfl ?_
  refine g_iload_n lk_267_1157 rfl ?_
  refine g_iconst lk_267_1158 ?_
  refine g_iadd lk_267_1159 ?_
  refine g_sload lk_267_1160 scK1 (by omega) (j := i + 1) (by omega) (v := a1) e1 ?_
  refine g_aload_n lk_267_1161 rfl ?_
  refine g_iload_n lk_267_1162 rfl ?_
  refine g_iconst lk_267_1163 ?_
  refine g_iadd lk_267_1164 ?_
  refine g_sload lk_267_1165 scK1 (by omega) (j := i + 2) (by omega) (v := a2) e2 ?_
  refine g_aload_n lk_267_1166 rfl ?_
  refine g_iload_n lk_267_1167 rfl ?_
  refine g_iconst lk_267_1168 ?_
  refine g_iadd lk_267_1169 ?_
  refine g_sload lk_267_1170 scK1 (by omega) (j := i + 3) (by omega) (v := a3) e3 ?_
  refine g_virtual (p := 116) (Qc := _) lk_267_1171 rfl (Nat.le_of_ble_eq_true rfl) rfl rfl (lay1.on (by decide) rfl) (Nat.le_of_ble_eq_true rfl) (Nat.le_of_ble_eq_true rfl) (Nat.zero_le _) (Nat.zero_le _) (c_Mo_graft (d := D + 14) (mc := 0) (ms := 0) lay1 okT sm1.2.1 hCL sm1.2.2.1 p1 p2 p3) ?_
  rintro _ K2 ⟨rfl, lay2, m2, cl2⟩
  show Wp _ 267 1174 [(2, ((0 : Nat) : Int)), (2, ((1 : Nat) : Int)), (2, ((116 : Nat) : Int)), (0, (i : Int))] [(0, (sGraft T Ts ps a1 a2 a3)), (0, (sGraft T Ts ps a1 a2 a3))] K2 _ _ _
  refine g_same (t := 1281) lk_267_1174 rfl ?_
  exact nx K2 _ _ ⟨T, Ts, ps, dps, na, aa, n, tp, f, p, sx1.mf m2 lay2 (by decide), sm1.cl m2 lay2 cl2 (by decide) (by decide), hTb, ax1.mf m2 (by decide) (by decide)⟩ (by omega) (by omega)
set_option maxHeartbeats 4000000 in
theorem lw_best {D mc ms L i : Nat} {X : Nat → Int} {M : pm_M} {Q : pm_Q} (inv : Inv M L X) (hX : ∀ j, pm_inI (X j)) (hi : i + 6 ≤ L) (L3 : L ≤ 3072) (b1 : 3 ≤ mc) (b2 : 12288 ≤ ms) (nx : LwN D mc ms L i X Q) :
    Wp (D + 20) 267 743 [(2, ((0 : Nat) : Int)), (2, ((1 : Nat) : Int)), (2, ((116 : Nat) : Int)), (0, (i : Int))] [] M mc ms Q := by
  obtain ⟨T, Ts, ps, dps, na, aa, n, tp, f, p, hSX, hSM, hTb, hAx⟩ := inv
  have scM := hAx.2.2.2
  have lay := hSX.1
  obtain ⟨okT, okX, okA⟩ := id hTb
  obtain ⟨a1, e1⟩ : ∃ a, X (i + 1) = a := ⟨_, rfl⟩
  have p1 := hX (i + 1)
  rw [e1] at p1
  obtain ⟨s, fa, w0, f0, g0, w1, f1, g1, w2, f2, g2, ga, gb, r, ch, cn, r2, hA, ⟨hB0, hN0⟩, ⟨hB1, hN1⟩, ⟨hB2, hN2⟩, hCT, hCS, i1, i2, i3, i4, i5, i6, i7, i8, dy⟩ := id hSX.2.2.2.2
  obtain ⟨⟨x1, x2, x3, x4, x5, x6⟩, _⟩ := dy_ne dy
  obtain ⟨o1, o2, o3, o4, o5, o6, o7⟩ := dy_own dy
  rcases (by omega : a1 = 0 ∨ a1 = 1 ∨ a1 = 2 ∨ (a1 < 0 ∨ 2 < a1)) with c | c | c | c
  · rw [c] at e1
    refine g_aload_n lk_267_743 rfl ?_
    refine g_aload_n lk_267_744 rfl ?_
    refine g_iload_n lk_267_745 rfl ?_
    refine g_iconst lk_267_746 ?_
    refine g_iadd lk_267_747 ?_
    refine g_sload lk_267_748 scM (by omega) (j := i + 1) (by omega) (v := 0) e1 ?_
    refine g_virtual (p := 1) (Qc := _) lk_267_749 rfl (Nat.le_of_ble_eq_true rfl) rfl rfl (lay.on (by decide) rfl) (Nat.le_of_ble_eq_true rfl) (Nat.le_of_ble_eq_true rfl) (by omega) (by omega) (c_X_best0 (d := D + 14) (mc := 2) (ms := 8192) lay okT hSX.2.1 hA hB0 i1 x1 (by omega) (by omega)) ?_
    rintro _ K1 ⟨rfl, lay1, tb1, s', w', hA', hB', es, ew, nsw, k0, c6⟩
    have k := gr_w k0
    have c1 := chs_up0 hA hB0 hN0 hB1 hN1 hB2 hN2 hCT hCS i1 i2 i3 i4 i5 i6 i7 i8 dy lay.1 k hA' hB' (cn_6 hN0 k0 lay.1 (by omega) c6 o1.1 o2.1 (by omega)) es ew nsw (fun _ => rfl) (fun _ => rfl) (fun _ => rfl)
    have sx1 := hSX.gr k lay1 c1 (gs_st (gs_w (B := 98) o1.1 o2.1 (by omega)))
    have sm1 := hSM.gr k lay1 (gs_m (gs_w (B := 98) o1.1 o2.1 (by omega)))
    have ax1 := hAx.gr k lay.1 (gs_x (gs_w (B := 98) o1.1 o2.1 (by omega)))
    have scK1 := ax1.2.2.2
    obtain ⟨fc, hCL⟩ := sm1.2.2.2.2.1
    show Wp _ 267 752 [(2, ((0 : Nat) : Int)), (2, ((1 : Nat) : Int)), (2, ((116 : Nat) : Int)), (0, (i : Int))] [(0, (sBest T 0))] K1 _ _ _
    refine g_aload_n lk_267_752 rfl ?_
    refine g_aload_n lk_267_753 rfl ?_
    refine g_iload_n lk_267_754 rfl ?_
    refine g_iconst lk_267_755 ?_
    refine g_iadd lk_267_756 ?_
    refine g_sload lk_267_757 scK1 (by omega) (j := i + 1) (by omega) (v := 0) e1 ?_
    refine g_virtual (p := 116) (Qc := _) lk_267_758 rfl (Nat.le_of_ble_eq_true rfl) rfl rfl (lay1.on (by decide) rfl) (Nat.le_of_ble_eq_true rfl) (Nat.le_of_ble_eq_true rfl) (Nat.zero_le _) (Nat.zero_le _) (c_Mo_best (d := D + 14) (mc := 0) (ms := 0) lay1 okT sm1.2.1 hCL (w := 0) (by unfold pm_inI; omega)) ?_
    rintro _ K2 ⟨rfl, lay2, m2, cl2⟩
    show Wp _ 267 761 [(2, ((0 : Nat) : Int)), (2, ((1 : Nat) : Int)), (2, ((116 : Nat) : Int)), (0, (i : Int))] [(0, (sBest T 0)), (0, (sBest T 0))] K2 _ _ _
    refine g_same (t := 1281) lk_267_761 rfl ?_
    exact nx K2 _ _ ⟨T, Ts, ps, dps, na, aa, n, tp, f, p, sx1.mf m2 lay2 (by decide), sm1.cl m2 lay2 cl2 (by decide) (by decide), hTb, ax1.mf m2 (by decide) (by decide)⟩ (by omega) (by omega)
  · rw [c] at e1
    refine g_aload_n lk_267_743 rfl ?_
    refine g_aload_n lk_267_744 rfl ?_
    refine g_iload_n lk_267_745 rfl ?_
    refine g_iconst lk_267_746 ?_
    refine g_iadd lk_267_747 ?_
    refine g_sload lk_267_748 scM (by omega) (j := i + 1) (by omega) (v := 1) e1 ?_
    refine g_virtual (p := 1) (Qc := _) lk_267_749 rfl (Nat.le_of_ble_eq_true rfl) rfl rfl (lay.on (by decide) rfl) (Nat.le_of_ble_eq_true rfl) (Nat.le_of_ble_eq_true rfl) (by omega) (by omega) (c_X_best1 (d := D + 14) (mc := 2) (ms := 8192) lay okT hSX.2.1 hA hB1 i2 x2 (by omega) (by omega)) ?_
    rintro _ K1 ⟨rfl, lay1, tb1, s', w', hA', hB', es, ew, nsw, k0, c6⟩
    have k := gr_w k0
    have c1 := chs_up1 hA hB0 hN0 hB1 hN1 hB2 hN2 hCT hCS i1 i2 i3 i4 i5 i6 i7 i8 dy lay.1 k hA' hB' (cn_6 hN1 k0 lay.1 (by omega) c6 o1.1 o3.1 (by omega)) es ew nsw (fun _ => rfl) (fun _ => rfl) (fun _ => rfl)
    have sx1 := hSX.gr k lay1 c1 (gs_st (gs_w (B := 104) o1.1 o3.1 (by omega)))
    have sm1 := hSM.gr k lay1 (gs_m (gs_w (B := 104) o1.1 o3.1 (by omega)))
    have ax1 := hAx.gr k lay.1 (gs_x (gs_w (B := 104) o1.1 o3.1 (by omega)))
    have scK1 := ax1.2.2.2
    obtain ⟨fc, hCL⟩ := sm1.2.2.2.2.1
    show Wp _ 267 752 [(2, ((0 : Nat) : Int)), (2, ((1 : Nat) : Int)), (2, ((116 : Nat) : Int)), (0, (i : Int))] [(0, (sBest T 1))] K1 _ _ _
    refine g_aload_n lk_267_752 rfl ?_
    refine g_aload_n lk_267_753 rfl ?_
    refine g_iload_n lk_267_754 rfl ?_
    refine g_iconst lk_267_755 ?_
    refine g_iadd lk_267_756 ?_
    refine g_sload lk_267_757 scK1 (by omega) (j := i + 1) (by omega) (v := 1) e1 ?_
    refine g_virtual (p := 116) (Qc := _) lk_267_758 rfl (Nat.le_of_ble_eq_true rfl) rfl rfl (lay1.on (by decide) rfl) (Nat.le_of_ble_eq_true rfl) (Nat.le_of_ble_eq_true rfl) (Nat.zero_le _) (Nat.zero_le _) (c_Mo_best (d := D + 14) (mc := 0) (ms := 0) lay1 okT sm1.2.1 hCL (w := 1) (by unfold pm_inI; omega)) ?_
    rintro _ K2 ⟨rfl, lay2, m2, cl2⟩
    show Wp _ 267 761 [(2, ((0 : Nat) : Int)), (2, ((1 : Nat) : Int)), (2, ((116 : Nat) : Int)), (0, (i : Int))] [(0, (sBest T 1)), (0, (sBest T 1))] K2 _ _ _
    refine g_same (t := 1281) lk_267_761 rfl ?_
    exact nx K2 _ _ ⟨T, Ts, ps, dps, na, aa, n, tp, f, p, sx1.mf m2 lay2 (by decide), sm1.cl m2 lay2 cl2 (by decide) (by decide), hTb, ax1.mf m2 (by decide) (by decide)⟩ (by omega) (by omega)
  · rw [c] at e1
    refine g_aload_n lk_267_743 rfl ?_
    refine g_aload_n lk_267_744 rfl ?_
    refine g_iload_n lk_267_745 rfl ?_
    refine g_iconst lk_267_746 ?_
    refine g_iadd lk_267_747 ?_
    refine g_sload lk_267_748 scM (by omega) (j := i + 1) (by omega) (v := 2) e1 ?_
    refine g_virtual (p := 1) (Qc := _) lk_267_749 rfl (Nat.le_of_ble_eq_true rfl) rfl rfl (lay.on (by decide) rfl) (Nat.le_of_ble_eq_true rfl) (Nat.le_of_ble_eq_true rfl) (by omega) (by omega) (c_X_best2 (d := D + 14) (mc := 2) (ms := 8192) lay okT hSX.2.1 hA hB2 i3 x3 (by omega) (by omega)) ?_
    rintro _ K1 ⟨rfl, lay1, tb1, s', w', hA', hB', es, ew, nsw, k0, c6⟩
    have k := gr_w k0
    have c1 := chs_up2 hA hB0 hN0 hB1 hN1 hB2 hN2 hCT hCS i1 i2 i3 i4 i5 i6 i7 i8 dy lay.1 k hA' hB' (cn_6 hN2 k0 lay.1 (by omega) c6 o1.1 o4.1 (by omega)) es ew nsw (fun _ => rfl) (fun _ => rfl) (fun _ => rfl)
    have sx1 := hSX.gr k lay1 c1 (gs_st (gs_w (B := 110) o1.1 o4.1 (by omega)))
    have sm1 := hSM.gr k lay1 (gs_m (gs_w (B := 110) o1.1 o4.1 (by omega)))
    have ax1 := hAx.gr k lay.1 (gs_x (gs_w (B := 110) o1.1 o4.1 (by omega)))
    have scK1 := ax1.2.2.2
    obtain ⟨fc, hCL⟩ := sm1.2.2.2.2.1
    show Wp _ 267 752 [(2, ((0 : Nat) : Int)), (2, ((1 : Nat) : Int)), (2, ((116 : Nat) : Int)), (0, (i : Int))] [(0, (sBest T 2))] K1 _ _ _
    refine g_aload_n lk_267_752 rfl ?_
    refine g_aload_n lk_267_753 rfl ?_
    refine g_iload_n lk_267_754 rfl ?_
    refine g_iconst lk_267_755 ?_
    refine g_iadd lk_267_756 ?_
    refine g_sload lk_267_757 scK1 (by omega) (j := i + 1) (by omega) (v := 2) e1 ?_
    refine g_virtual (p := 116) (Qc := _) lk_267_758 rfl (Nat.le_of_ble_eq_true rfl) rfl rfl (lay1.on (by decide) rfl) (Nat.le_of_ble_eq_true rfl) (Nat.le_of_ble_eq_true rfl) (Nat.zero_le _) (Nat.zero_le _) (c_Mo_best (d := D + 14) (mc := 0) (ms := 0) lay1 okT sm1.2.1 hCL (w := 2) (by unfold pm_inI; omega)) ?_
    rintro _ K2 ⟨rfl, lay2, m2, cl2⟩
    show Wp _ 267 761 [(2, ((0 : Nat) : Int)), (2, ((1 : Nat) : Int)), (2, ((116 : Nat) : Int)), (0, (i : Int))] [(0, (sBest T 2)), (0, (sBest T 2))] K2 _ _ _
    refine g_same (t := 1281) lk_267_761 rfl ?_
    exact nx K2 _ _ ⟨T, Ts, ps, dps, na, aa, n, tp, f, p, sx1.mf m2 lay2 (by decide), sm1.cl m2 lay2 cl2 (by decide) (by decide), hTb, ax1.mf m2 (by decide) (by decide)⟩ (by omega) (by omega)
  · obtain ⟨fc, hCL⟩ := hSM.2.2.2.2.1
    refine g_aload_n lk_267_743 rfl ?_
    refine g_aload_n lk_267_744 rfl ?_
    refine g_iload_n lk_267_745 rfl ?_
    refine g_iconst lk_267_746 ?_
    refine g_iadd lk_267_747 ?_
    refine g_sload lk_267_748 scM (by omega) (j := i + 1) (by omega) (v := a1) e1 ?_
    refine g_virtual (p := 1) (Qc := _) lk_267_749 rfl (Nat.le_of_ble_eq_true rfl) rfl rfl (lay.on (by decide) rfl) (Nat.le_of_ble_eq_true rfl) (Nat.le_of_ble_eq_true rfl) (Nat.zero_le _) (Nat.zero_le _) (c_X_bestN (d := D + 18) (mc := 0) (ms := 0) (T := T) lay p1 c) ?_
    rintro _ K1 ⟨rfl, eK⟩
    rw [eK]
    show Wp _ 267 752 [(2, ((0 : Nat) : Int)), (2, ((1 : Nat) : Int)), (2, ((116 : Nat) : Int)), (0, (i : Int))] [(0, (sBest T a1))] M _ _ _
    refine g_aload_n lk_267_752 rfl ?_
    refine g_aload_n lk_267_753 rfl ?_
    refine g_iload_n lk_267_754 rfl ?_
    refine g_iconst lk_267_755 ?_
    refine g_iadd lk_267_756 ?_
    refine g_sload lk_267_757 scM (by omega) (j := i + 1) (by omega) (v := a1) e1 ?_
    refine g_virtual (p := 116) (Qc := _) lk_267_758 rfl (Nat.le_of_ble_eq_true rfl) rfl rfl (lay.on (by decide) rfl) (Nat.le_of_ble_eq_true rfl) (Nat.le_of_ble_eq_true rfl) (Nat.zero_le _) (Nat.zero_le _) (c_Mo_best (d := D + 14) (mc := 0) (ms := 0) lay okT hSM.2.1 hCL p1) ?_
    rintro _ K2 ⟨rfl, lay2, m2, cl2⟩
    show Wp _ 267 761 [(2, ((0 : Nat) : Int)), (2, ((1 : Nat) : Int)), (2, ((116 : Nat) : Int)), (0, (i : Int))] [(0, (sBest T a1)), (0, (sBest T a1))] K2 _ _ _
    refine g_same (t := 1281) lk_267_761 rfl ?_
    exact nx K2 _ _ ⟨T, Ts, ps, dps, na, aa, n, tp, f, p, hSX.mf m2 lay2 (by decide), hSM.cl m2 lay2 cl2 (by decide) (by decide), hTb, hAx.mf m2 (by decide) (by decide)⟩ (by omega) (by omega)
set_option maxHeartbeats 4000000 in
theorem lw_node {D mc ms L i : Nat} {X : Nat → Int} {M : pm_M} {Q : pm_Q} (inv : Inv M L X) (hX : ∀ j, pm_inI (X j)) (hi : i + 6 ≤ L) (L3 : L ≤ 3072) (b1 : 3 ≤ mc) (b2 : 12288 ≤ ms) (nx : LwN D mc ms L i X Q) :
    Wp (D + 20) 267 789 [(2, ((0 : Nat) : Int)), (2, ((1 : Nat) : Int)), (2, ((116 : Nat) : Int)), (0, (i : Int))] [] M mc ms Q := by
  obtain ⟨T, Ts, ps, dps, na, aa, n, tp, f, p, hSX, hSM, hTb, hAx⟩ := inv
  have scM := hAx.2.2.2
  have lay := hSX.1
  obtain ⟨okT, okX, okA⟩ := id hTb
  obtain ⟨a1, e1⟩ : ∃ a, X (i + 1) = a := ⟨_, rfl⟩
  have p1 := hX (i + 1)
  rw [e1] at p1
  obtain ⟨a2, e2⟩ : ∃ a, X (i + 2) = a := ⟨_, rfl⟩
  have p2 := hX (i + 2)
  rw [e2] at p2
  obtain ⟨a3, e3⟩ : ∃ a, X (i + 3) = a := ⟨_, rfl⟩
  have p3 := hX (i + 3)
  rw [e3] at p3
  obtain ⟨s, fa, w0, f0, g0, w1, f1, g1, w2, f2, g2, ga, gb, r, ch, cn, r2, hA, ⟨hB0, hN0⟩, ⟨hB1, hN1⟩, ⟨hB2, hN2⟩, hCT, hCS, i1, i2, i3, i4, i5, i6, i7, i8, dy⟩ := id hSX.2.2.2.2
  obtain ⟨⟨x1, x2, x3, x4, x5, x6⟩, _⟩ := dy_ne dy
  obtain ⟨o1, o2, o3, o4, o5, o6, o7⟩ := dy_own dy
  rcases (by omega : a1 = 0 ∨ a1 = 1 ∨ a1 = 2 ∨ (a1 < 0 ∨ 2 < a1)) with c | c | c | c
  · rw [c] at e1
    refine g_aload_n lk_267_789 rfl ?_
    refine g_aload_n lk_267_790 rfl ?_
    refine g_iload_n lk_267_791 rfl ?_
    refine g_iconst lk_267_792 ?_
    refine g_iadd lk_267_793 ?_
    refine g_sload lk_267_794 scM (by omega) (j := i + 1) (by omega) (v := 0) e1 ?_
    refine g_aload_n lk_267_795 rfl ?_
    refine g_iload_n lk_267_796 rfl ?_
    refine g_iconst lk_267_797 ?_
    refine g_iadd lk_267_798 ?_
    refine g_sload lk_267_799 scM (by omega) (j := i + 2) (by omega) (v := a2) e2 ?_
    refine g_aload_n lk_267_800 rfl ?_
    refine g_iload_n lk_267_801 rfl ?_
    refine g_iconst lk_267_802 ?_
    refine g_iadd lk_267_803 ?_
    refine g_sload lk_267_804 scM (by omega) (j := i + 3) (by omega) (v := a3) e3 ?_
    refine g_virtual (p := 1) (Qc := _) lk_267_805 rfl (Nat.le_of_ble_eq_true rfl) rfl rfl (lay.on (by decide) rfl) (Nat.le_of_ble_eq_true rfl) (Nat.le_of_ble_eq_true rfl) (by omega) (by omega) (c_X_node0 (d := D + 2) (mc := 2) (ms := 8192) lay okT hSX.2.1 hA hB0 hN0 i1 i4 x1 (by omega) (by omega) p2 p3) ?_
    rintro _ K1 ⟨rfl, lay1, tb1, s', w', hA', hB', hN', es, ew, nsw, k⟩
    have c1 := chs_up0 hA hB0 hN0 hB1 hN1 hB2 hN2 hCT hCS i1 i2 i3 i4 i5 i6 i7 i8 dy lay.1 k hA' hB' hN' es ew nsw (fun _ => rfl) (fun _ => rfl) (fun _ => rfl)
    have sx1 := hSX.gr k lay1 c1 (gs_st (gs_w (B := 98) o1.1 o2.1 (by omega)))
    have sm1 := hSM.gr k lay1 (gs_m (gs_w (B := 98) o1.1 o2.1 (by omega)))
    have ax1 := hAx.gr k lay.1 (gs_x (gs_w (B := 98) o1.1 o2.1 (by omega)))
    have scK1 := ax1.2.2.2
    obtain ⟨fc, hCL⟩ := sm1.2.2.2.2.1
    show Wp _ 267 808 [(2, ((0 : Nat) : Int)), (2, ((1 : Nat) : Int)), (2, ((116 : Nat) : Int)), (0, (i : Int))] [(0, (sNode T 0 a2 a3))] K1 _ _ _
    refine g_aload_n lk_267_808 rfl ?_
    refine g_aload_n lk_267_809 rfl ?_
    refine g_iload_n lk_267_810 rfl ?_
    refine g_iconst lk_267_811 ?_
    refine g_iadd lk_267_812 ?_
    refine g_sload lk_267_813 scK1 (by omega) (j := i + 1) (by omega) (v := 0) e1 ?_
    refine g_aload_n lk_267_814 rfl ?_
    refine g_iload_n lk_267_815 rfl ?_
    refine g_iconst lk_267_816 ?_
    refine g_iadd lk_267_817 ?_
    refine g_sload lk_267_818 scK1 (by omega) (j := i + 2) (by omega) (v := a2) e2 ?_
    refine g_aload_n lk_267_819 rfl ?_
    refine g_iload_n lk_267_820 rfl ?_
    refine g_iconst lk_267_821 ?_
    refine g_iadd lk_267_822 ?_
    refine g_sload lk_267_823 scK1 (by omega) (j := i + 3) (by omega) (v := a3) e3 ?_
    refine g_virtual (p := 116) (Qc := _) lk_267_824 rfl (Nat.le_of_ble_eq_true rfl) rfl rfl (lay1.on (by decide) rfl) (Nat.le_of_ble_eq_true rfl) (Nat.le_of_ble_eq_true rfl) (Nat.zero_le _) (Nat.zero_le _) (c_Mo_node (d := D + 13) (mc := 0) (ms := 0) lay1 okT sm1.2.1 hCL (w := 0) (by unfold pm_inI; omega) p2 p3) ?_
    rintro _ K2 ⟨rfl, lay2, m2, cl2⟩
    show Wp _ 267 827 [(2, ((0 : Nat) : Int)), (2, ((1 : Nat) : Int)), (2, ((116 : Nat) : Int)), (0, (i : Int))] [(0, (sNode T 0 a2 a3)), (0, (sNode T 0 a2 a3))] K2 _ _ _
    refine g_same (t := 1281) lk_267_827 rfl ?_
    exact nx K2 _ _ ⟨T, Ts, ps, dps, na, aa, n, tp, f, p, sx1.mf m2 lay2 (by decide), sm1.cl m2 lay2 cl2 (by decide) (by decide), hTb, ax1.mf m2 (by decide) (by decide)⟩ (by omega) (by omega)
  · rw [c] at e1
    refine g_aload_n lk_267_789 rfl ?_
    refine g_aload_n lk_267_790 rfl ?_
    refine g_iload_n lk_267_791 rfl ?_
    refine g_iconst lk_267_792 ?_
    refine g_iadd lk_267_793 ?_
    refine g_sload lk_267_794 scM (by omega) (j := i + 1) (by omega) (v := 1) e1 ?_
    refine g_aload_n lk_267_795 rfl ?_
    refine g_iload_n lk_267_796 rfl ?_
    refine g_iconst lk_267_797 ?_
    refine g_iadd lk_267_798 ?_
    refine g_sload lk_267_799 scM (by omega) (j := i + 2) (by omega) (v := a2) e2 ?_
    refine g_aload_n lk_267_800 rfl ?_
    refine g_iload_n lk_267_801 rfl ?_
    refine g_iconst lk_267_802 ?_
    refine g_iadd lk_267_803 ?_
    refine g_sload lk_267_804 scM (by omega) (j := i + 3) (by omega) (v := a3) e3 ?_
    refine g_virtual (p := 1) (Qc := _) lk_267_805 rfl (Nat.le_of_ble_eq_true rfl) rfl rfl (lay.on (by decide) rfl) (Nat.le_of_ble_eq_true rfl) (Nat.le_of_ble_eq_true rfl) (by omega) (by omega) (c_X_node1 (d := D + 2) (mc := 2) (ms := 8192) lay okT hSX.2.1 hA hB1 hN1 i2 i5 x2 (by omega) (by omega) p2 p3) ?_
    rintro _ K1 ⟨rfl, lay1, tb1, s', w', hA', hB', hN', es, ew, nsw, k⟩
    have c1 := chs_up1 hA hB0 hN0 hB1 hN1 hB2 hN2 hCT hCS i1 i2 i3 i4 i5 i6 i7 i8 dy lay.1 k hA' hB' hN' es ew nsw (fun _ => rfl) (fun _ => rfl) (fun _ => rfl)
    have sx1 := hSX.gr k lay1 c1 (gs_st (gs_w (B := 104) o1.1 o3.1 (by omega)))
    have sm1 := hSM.gr k lay1 (gs_m (gs_w (B := 104) o1.1 o3.1 (by omega)))
    have ax1 := hAx.gr k lay.1 (gs_x (gs_w (B := 104) o1.1 o3.1 (by omega)))
    have scK1 := ax1.2.2.2
    obtain ⟨fc, hCL⟩ := sm1.2.2.2.2.1
    show Wp _ 267 808 [(2, ((0 : Nat) : Int)), (2, ((1 : Nat) : Int)), (2, ((116 : Nat) : Int)), (0, (i : Int))] [(0, (sNode T 1 a2 a3))] K1 _ _ _
    refine g_aload_n lk_267_808 rfl ?_
    refine g_aload_n lk_267_809 rfl ?_
    refine g_iload_n lk_267_810 rfl ?_
    refine g_iconst lk_267_811 ?_
    refine g_iadd lk_267_812 ?_
    refine g_sload lk_267_813 scK1 (by omega) (j := i + 1) (by omega) (v := 1) e1 ?_
    refine g_aload_n lk_267_814 rfl ?_
    refine g_iload_n lk_267_815 rfl ?_
    refine g_iconst lk_267_816 ?_
    refine g_iadd lk_267_817 ?_
    refine g_sload lk_267_818 scK1 (by omega) (j := i + 2) (by omega) (v := a2) e2 ?_
    refine g_aload_n lk_267_819 rfl ?_
    refine g_iload_n lk_267_820 rfl ?_
    refine g_iconst lk_267_821 ?_
    refine g_iadd lk_267_822 ?_
    refine g_sload lk_267_823 scK1 (by omega) (j := i + 3) (by omega) (v := a3) e3 ?_
    refine g_virtual (p := 116) (Qc := _) lk_267_824 rfl (Nat.le_of_ble_eq_true rfl) rfl rfl (lay1.on (by decide) rfl) (Nat.le_of_ble_eq_true rfl) (Nat.le_of_ble_eq_true rfl) (Nat.zero_le _) (Nat.zero_le _) (c_Mo_node (d := D + 13) (mc := 0) (ms := 0) lay1 okT sm1.2.1 hCL (w := 1) (by unfold pm_inI; omega) p2 p3) ?_
    rintro _ K2 ⟨rfl, lay2, m2, cl2⟩
    show Wp _ 267 827 [(2, ((0 : Nat) : Int)), (2, ((1 : Nat) : Int)), (2, ((116 : Nat) : Int)), (0, (i : Int))] [(0, (sNode T 1 a2 a3)), (0, (sNode T 1 a2 a3))] K2 _ _ _
    refine g_same (t := 1281) lk_267_827 rfl ?_
    exact nx K2 _ _ ⟨T, Ts, ps, dps, na, aa, n, tp, f, p, sx1.mf m2 lay2 (by decide), sm1.cl m2 lay2 cl2 (by decide) (by decide), hTb, ax1.mf m2 (by decide) (by decide)⟩ (by omega) (by omega)
  · rw [c] at e1
    refine g_aload_n lk_267_789 rfl ?_
    refine g_aload_n lk_267_790 rfl ?_
    refine g_iload_n lk_267_791 rfl ?_
    refine g_iconst lk_267_792 ?_
    refine g_iadd lk_267_793 ?_
    refine g_sload lk_267_794 scM (by omega) (j := i + 1) (by omega) (v := 2) e1 ?_
    refine g_aload_n lk_267_795 rfl ?_
    refine g_iload_n lk_267_796 rfl ?_
    refine g_iconst lk_267_797 ?_
    refine g_iadd lk_267_798 ?_
    refine g_sload lk_267_799 scM (by omega) (j := i + 2) (by omega) (v := a2) e2 ?_
    refine g_aload_n lk_267_800 rfl ?_
    refine g_iload_n lk_267_801 rfl ?_
    refine g_iconst lk_267_802 ?_
    refine g_iadd lk_267_803 ?_
    refine g_sload lk_267_804 scM (by omega) (j := i + 3) (by omega) (v := a3) e3 ?_
    refine g_virtual (p := 1) (Qc := _) lk_267_805 rfl (Nat.le_of_ble_eq_true rfl) rfl rfl (lay.on (by decide) rfl) (Nat.le_of_ble_eq_true rfl) (Nat.le_of_ble_eq_true rfl) (by omega) (by omega) (c_X_node2 (d := D + 2) (mc := 2) (ms := 8192) lay okT hSX.2.1 hA hB2 hN2 i3 i6 x3 (by omega) (by omega) p2 p3) ?_
    rintro _ K1 ⟨rfl, lay1, tb1, s', w', hA', hB', hN', es, ew, nsw, k⟩
    have c1 := chs_up2 hA hB0 hN0 hB1 hN1 hB2 hN2 hCT hCS i1 i2 i3 i4 i5 i6 i7 i8 dy lay.1 k hA' hB' hN' es ew nsw (fun _ => rfl) (fun _ => rfl) (fun _ => rfl)
    have sx1 := hSX.gr k lay1 c1 (gs_st (gs_w (B := 110) o1.1 o4.1 (by omega)))
    have sm1 := hSM.gr k lay1 (gs_m (gs_w (B := 110) o1.1 o4.1 (by omega)))
    have ax1 := hAx.gr k lay.1 (gs_x (gs_w (B := 110) o1.1 o4.1 (by omega)))
    have scK1 := ax1.2.2.2
    obtain ⟨fc, hCL⟩ := sm1.2.2.2.2.1
    show Wp _ 267 808 [(2, ((0 : Nat) : Int)), (2, ((1 : Nat) : Int)), (2, ((116 : Nat) : Int)), (0, (i : Int))] [(0, (sNode T 2 a2 a3))] K1 _ _ _
    refine g_aload_n lk_267_808 rfl ?_
    refine g_aload_n lk_267_809 rfl ?_
    refine g_iload_n lk_267_810 rfl ?_
    refine g_iconst lk_267_811 ?_
    refine g_iadd lk_267_812 ?_
    refine g_sload lk_267_813 scK1 (by omega) (j := i + 1) (by omega) (v := 2) e1 ?_
    refine g_aload_n lk_267_814 rfl ?_
    refine g_iload_n lk_267_815 rfl ?_
    refine g_iconst lk_267_816 ?_
    refine g_iadd lk_267_817 ?_
    refine g_sload lk_267_818 scK1 (by omega) (j := i + 2) (by omega) (v := a2) e2 ?_
    refine g_aload_n lk_267_819 rfl ?_
    refine g_iload_n lk_267_820 rfl ?_
    refine g_iconst lk_267_821 ?_
    refine g_iadd lk_267_822 ?_
    refine g_sload lk_267_823 scK1 (by omega) (j := i + 3) (by omega) (v := a3) e3 ?_
    refine g_virtual (p := 116) (Qc := _) lk_267_824 rfl (Nat.le_of_ble_eq_true rfl) rfl rfl (lay1.on (by decide) rfl) (Nat.le_of_ble_eq_true rfl) (Nat.le_of_ble_eq_true rfl) (Nat.zero_le _) (Nat.zero_le _) (c_Mo_node (d := D + 13) (mc := 0) (ms := 0) lay1 okT sm1.2.1 hCL (w := 2) (by unfold pm_inI; omega) p2 p3) ?_
    rintro _ K2 ⟨rfl, lay2, m2, cl2⟩
    show Wp _ 267 827 [(2, ((0 : Nat) : Int)), (2, ((1 : Nat) : Int)), (2, ((116 : Nat) : Int)), (0, (i : Int))] [(0, (sNode T 2 a2 a3)), (0, (sNode T 2 a2 a3))] K2 _ _ _
    refine g_same (t := 1281) lk_267_827 rfl ?_
    exact nx K2 _ _ ⟨T, Ts, ps, dps, na, aa, n, tp, f, p, sx1.mf m2 lay2 (by decide), sm1.cl m2 lay2 cl2 (by decide) (by decide), hTb, ax1.mf m2 (by decide) (by decide)⟩ (by omega) (by omega)
  · obtain ⟨fc, hCL⟩ := hSM.2.2.2.2.1
    refine g_aload_n lk_267_789 rfl ?_
    refine g_aload_n lk_267_790 rfl ?_
    refine g_iload_n lk_267_791 rfl ?_
    refine g_iconst lk_267_792 ?_
    refine g_iadd lk_267_793 ?_
    refine g_sload lk_267_794 scM (by omega) (j := i + 1) (by omega) (v := a1) e1 ?_
    refine g_aload_n lk_267_795 rfl ?_
    refine g_iload_n lk_267_796 rfl ?_
    refine g_iconst lk_267_797 ?_
    refine g_iadd lk_267_798 ?_
    refine g_sload lk_267_799 scM (by omega) (j := i + 2) (by omega) (v := a2) e2 ?_
    refine g_aload_n lk_267_800 rfl ?_
    refine g_iload_n lk_267_801 rfl ?_
    refine g_iconst lk_267_802 ?_
    refine g_iadd lk_267_803 ?_
    refine g_sload lk_267_804 scM (by omega) (j := i + 3) (by omega) (v := a3) e3 ?_
    refine g_virtual (p := 1) (Qc := _) lk_267_805 rfl (Nat.le_of_ble_eq_true rfl) rfl rfl (lay.on (by decide) rfl) (Nat.le_of_ble_eq_true rfl) (Nat.le_of_ble_eq_true rfl) (Nat.zero_le _) (Nat.zero_le _) (c_X_nodeN (d := D + 18) (mc := 0) (ms := 0) (T := T) lay p1 c) ?_
    rintro _ K1 ⟨rfl, eK⟩
    rw [eK]
    show Wp _ 267 808 [(2, ((0 : Nat) : Int)), (2, ((1 : Nat) : Int)), (2, ((116 : Nat) : Int)), (0, (i : Int))] [(0, (sNode T a1 a2 a3))] M _ _ _
    refine g_aload_n lk_267_808 rfl ?_
    refine g_aload_n lk_267_809 rfl ?_
    refine g_iload_n lk_267_810 rfl ?_
    refine g_iconst lk_267_811 ?_
    refine g_iadd lk_267_812 ?_
    refine g_sload lk_267_813 scM (by omega) (j := i + 1) (by omega) (v := a1) e1 ?_
    refine g_aload_n lk_267_814 rfl ?_
    refine g_iload_n lk_267_815 rfl ?_
    refine g_iconst lk_267_816 ?_
    refine g_iadd lk_267_817 ?_
    refine g_sload lk_267_818 scM (by omega) (j := i + 2) (by omega) (v := a2) e2 ?_
    refine g_aload_n lk_267_819 rfl ?_
    refine g_iload_n lk_267_820 rfl ?_
    refine g_iconst lk_267_821 ?_
    refine g_iadd lk_267_822 ?_
    refine g_sload lk_267_823 scM (by omega) (j := i + 3) (by omega) (v := a3) e3 ?_
    refine g_virtual (p := 116) (Qc := _) lk_267_824 rfl (Nat.le_of_ble_eq_true rfl) rfl rfl (lay.on (by decide) rfl) (Nat.le_of_ble_eq_true rfl) (Nat.le_of_ble_eq_true rfl) (Nat.zero_le _) (Nat.zero_le _) (c_Mo_node (d := D + 13) (mc := 0) (ms := 0) lay okT hSM.2.1 hCL p1 p2 p3) ?_
    rintro _ K2 ⟨rfl, lay2, m2, cl2⟩
    show Wp _ 267 827 [(2, ((0 : Nat) : Int)), (2, ((1 : Nat) : Int)), (2, ((116 : Nat) : Int)), (0, (i : Int))] [(0, (sNode T a1 a2 a3)), (0, (sNode T a1 a2 a3))] K2 _ _ _
    refine g_same (t := 1281) lk_267_827 rfl ?_
    exact nx K2 _ _ ⟨T, Ts, ps, dps, na, aa, n, tp, f, p, hSX.mf m2 lay2 (by decide), hSM.cl m2 lay2 cl2 (by decide) (by decide), hTb, hAx.mf m2 (by decide) (by decide)⟩ (by omega) (by omega)
