/-! ===== cover: the model ===== -/
/-- beyond the table all is free -/
def TabX (T : Tab) : Prop := ∀ i, i < 36 → (i / 6 < tR T ∧ i % 6 < tC T) ∨ tX T i = 10
def Fk (T : Tab) (v k : Nat) : Nat := (FL T v).getD k 0
def UQ (T : Tab) (v : Nat) (idx : List Nat) (i : Nat) : Prop := Cv T v i ∧ ∀ x, x ∈ idx → ¬ inA T v (Fk T v x) i = true
def ChAt (M : pm_M) (idx : List Nat) : Prop := ∀ (j k : Nat), idx[j]? = some k → pm_ct M 136 j = (k : Int)
theorem Fk_mem {T : Tab} {v k : Nat} (h : k < (FL T v).length) : Fk T v k ∈ FL T v := by
  unfold Fk
  rw [List.getD_eq_getElem?_getD, List.getElem?_eq_getElem h]
  exact List.getElem_mem _
theorem Fk_ex {T : Tab} {v x : Nat} (h : x ∈ FL T v) : ∃ k, k < (FL T v).length ∧ Fk T v k = x := by
  obtain ⟨p, hp, ep⟩ := List.getElem_of_mem h
  exact ⟨p, hp, by unfold Fk; rw [List.getD_eq_getElem?_getD, List.getElem?_eq_getElem hp, ep]; rfl⟩
theorem Fk_64 {T : Tab} (hT : TabOK T) (v k : Nat) : Fk T v k < 64 := by
  by_cases h : k < (FL T v).length
  · have := fL_lt T v _ _ (Fk_mem h)
    have := tR_64 hT
    omega
  · unfold Fk
    rw [List.getD_eq_getElem?_getD, List.getElem?_eq_none (by omega)]; decide
set_option maxHeartbeats 4000000 in
theorem c_Mo_uncovered {d mc ms : Nat} {M : pm_M} (lay : Lay M) {T : Tab} (hT : TabOK T) (hX : TabX T) (hM : MoAt M T) {v : Nat} (hv : v < 10) (hU : FmAt M T v (2 ^ tR T - 1)) {idx : List Nat} (hi : ∀ x, x ∈ idx → x < (FL T v).length) (hl : idx.length ≤ 8) (hch : ChAt M idx) :
    pm_E (d + 1) 212 [(2, ((116 : Nat) : Int)), (0, (v : Int)), (2, ((136 : Nat) : Int)), (0, (idx.length : Int))] M mc ms (fun ρ M' => ((∃ k, k < 36 ∧ UQ T v idx k ∧ (∀ j, j < k → ¬ UQ T v idx j) ∧ ρ = some (0, (k : Int))) ∨ ((∀ k, k < 36 → ¬ UQ T v idx k) ∧ ρ = some (0, -1))) ∧ M' = M) := by
  obtain ⟨Q, hQ⟩ : ∃ Q : pm_Q, Q = (fun ρ M' => ((∃ k, k < 36 ∧ UQ T v idx k ∧ (∀ j, j < k → ¬ UQ T v idx j) ∧ ρ = some (0, (k : Int))) ∨ ((∀ k, k < 36 → ¬ UQ T v idx k) ∧ ρ = some (0, -1))) ∧ M' = M) := ⟨_, rfl⟩
  rw [← hQ]
  have L63 := FL_64 hT v
  obtain ⟨p, hp⟩ : ∃ p, p = idx.length := ⟨_, rfl⟩
  rw [← hp] at hl ⊢
  have inner : ∀ (n i k b : Nat), i + n = p → k < 36 → (b = 1 ∧ Cv T v k ∧ (∀ x, x ∈ idx.take i → ¬ inA T v (Fk T v x) k = true) ∨ b = 0 ∧ ¬ UQ T v idx k) →
      (∀ (b : Nat) (v6 : pm_V), (b = 1 ∧ UQ T v idx k ∨ b = 0 ∧ ¬ UQ T v idx k) → Wp (d + 1) 212 95 [(2, ((116 : Nat) : Int)), (0, (v : Int)), (2, ((136 : Nat) : Int)), (0, (p : Int)), (0, (k : Int)), (0, (b : Int)), v6] [] M mc ms Q) →
      Wp (d + 1) 212 31 [(2, ((116 : Nat) : Int)), (0, (v : Int)), (2, ((136 : Nat) : Int)), (0, (p : Int)), (0, (k : Int)), (0, (b : Int)), (0, (i : Int))] [] M mc ms Q := by
    intro n
    induction n with
    | zero =>
      intro i k b hn hk hb go
      refine g_iload lk_212_31 rfl ?_
      refine g_iload_n lk_212_33 rfl ?_
      refine g_icmp (t := 95) lk_212_34 rfl (by first | (unfold pm_inI; omega) | exact pm_and_in _ _ | exact pm_shr_in _ _ | exact pm_or_in _ _ | exact pm_xor_in _ _ | exact pm_shl_in _ _ | exact pm_cmp_in _ _ | exact pm_b8_in _ | (unfold pm_inI; split <;> omega)) (by first | (unfold pm_inI; omega) | exact pm_and_in _ _ | exact pm_shr_in _ _ | exact pm_or_in _ _ | exact pm_xor_in _ _ | exact pm_shl_in _ _ | exact pm_cmp_in _ _ | exact pm_b8_in _ | (unfold pm_inI; split <;> omega)) (fun h1 => ?_) (fun h1 => ?_)
      · replace h1 : (p : Int) ≤ (i : Int) := h1
        refine go b _ ?_
        rcases hb with ⟨q1, q2, q3⟩ | q
        · rw [List.take_of_length_le (by omega)] at q3
          exact Or.inl ⟨q1, q2, q3⟩
        · exact Or.inr q
      · replace h1 : ¬ ((p : Int) ≤ (i : Int)) := h1
        omega
    | succ n ih =>
      intro i k b hn hk hb go
      rcases hb with ⟨rfl, q2, q3⟩ | ⟨rfl, q⟩
      · have hx : idx[i]? = some idx[i] := List.getElem?_eq_getElem (by omega)
        obtain ⟨x, ex⟩ : ∃ x, x = idx[i] := ⟨_, rfl⟩
        rw [← ex] at hx
        have xm : x ∈ idx := by rw [ex]; exact List.getElem_mem _
        have xl := hi x xm
        have v136 := hch i x hx
        obtain ⟨f, hf⟩ : ∃ f, f = Fk T v x := ⟨_, rfl⟩
        have f64 : f < 64 := by rw [hf]; exact Fk_64 hT v x
        have v134 : pm_ct M 134 x = (f : Int) := by rw [hf]; exact (hU.2 x xl).1
        obtain ⟨g, hg⟩ : ∃ g, g = oC T f v := ⟨_, rfl⟩
        have g64 : g < 64 := by rw [hg]; exact oC_64 hT f v
        have v135 : pm_ct M 135 x = (g : Int) := by rw [hg, hf]; exact (hU.2 x xl).2
        obtain ⟨k6, hk6⟩ : ∃ k6, k6 = k / 6 := ⟨_, rfl⟩
        obtain ⟨km, hkm⟩ : ∃ km, km = k % 6 := ⟨_, rfl⟩
        have e1 : (k : Int).tdiv 6 = (k6 : Int) := by rw [hk6]; rfl
        have e2 : (k : Int).tmod 6 = (km : Int) := by rw [hkm]; rfl
        have ia : inA T v (Fk T v x) k = (f.testBit k6 && g.testBit km) := by unfold inA; rw [← hf, ← hg, ← hk6, ← hkm]
        have tk : ∀ y, y ∈ idx.take (i + 1) → y ∈ idx.take i ∨ y = x := fun y hy => by
          rw [List.take_add_one, hx, List.mem_append] at hy
          rcases hy with q | q
          · exact Or.inl q
          · exact Or.inr (by simpa using q)
        have nx : ∀ b : Nat, (b = 1 ∧ ¬ inA T v (Fk T v x) k = true ∨ b = 0 ∧ inA T v (Fk T v x) k = true) → Wp (d + 1) 212 31 [(2, ((116 : Nat) : Int)), (0, (v : Int)), (2, ((136 : Nat) : Int)), (0, (p : Int)), (0, (k : Int)), (0, (b : Int)), (0, ((i + 1 : Nat) : Int))] [] M mc ms Q := fun b hb =>
          ih (i + 1) k b (by omega) hk (by
            rcases hb with ⟨a1, a2⟩ | ⟨a1, a2⟩
            · refine Or.inl ⟨a1, q2, fun y hy => ?_⟩
              rcases tk y hy with a | a
              · exact q3 y a
              · rw [a]; exact a2
            · exact Or.inr ⟨a1, fun c => c.2 x xm a2⟩) go
        refine g_iload lk_212_31 rfl ?_
        refine g_iload_n lk_212_33 rfl ?_
        refine g_icmp (t := 95) lk_212_34 rfl (by first | (unfold pm_inI; omega) | exact pm_and_in _ _ | exact pm_shr_in _ _ | exact pm_or_in _ _ | exact pm_xor_in _ _ | exact pm_shl_in _ _ | exact pm_cmp_in _ _ | exact pm_b8_in _ | (unfold pm_inI; split <;> omega)) (by first | (unfold pm_inI; omega) | exact pm_and_in _ _ | exact pm_shr_in _ _ | exact pm_or_in _ _ | exact pm_xor_in _ _ | exact pm_shl_in _ _ | exact pm_cmp_in _ _ | exact pm_b8_in _ | (unfold pm_inI; split <;> omega)) (fun h1 => ?_) (fun h1 => ?_)
        · replace h1 : (p : Int) ≤ (i : Int) := h1
          omega
        · replace h1 : ¬ ((p : Int) ≤ (i : Int)) := h1
          refine g_iload lk_212_37 rfl ?_
          refine g_if (t := 95) lk_212_39 rfl (by first | (unfold pm_inI; omega) | exact pm_and_in _ _ | exact pm_shr_in _ _ | exact pm_or_in _ _ | exact pm_xor_in _ _ | exact pm_shl_in _ _ | exact pm_cmp_in _ _ | exact pm_b8_in _ | (unfold pm_inI; split <;> omega)) (fun h => absurd h (show ¬ ((1 : Int) = (0 : Int)) by omega)) (fun _ => ?_)
          refine g_aload_n lk_212_42 rfl ?_
          refine g_getfield lk_212_43 rfl (lay.on (by decide) rfl) (v := ((134 : Nat) : Int)) (lay.rf rfl) ?_
          refine g_aload_n lk_212_46 rfl ?_
          refine g_iload lk_212_47 rfl ?_
          refine m_iaload (u := []) (M := M) lk_212_49 (lay.ay (by decide) rfl) (by omega) (j := i) (by omega) (v := (x : Int)) v136 ?_
          refine m_iaload (u := []) (M := M) lk_212_50 (lay.ay (by decide) rfl) (by omega) (j := x) (by omega) (v := (f : Int)) v134 ?_
          refine g_iload lk_212_51 rfl ?_
          refine g_bipush lk_212_53 ?_
          refine g_idiv lk_212_55 (by unfold pm_inI; omega) (by unfold pm_inI; omega) (by omega) ?_
          refine g_top (z := ((k : Int).tdiv 6)) (z' := (k6 : Int)) (e1) ?_
          refine g_static (Qc := _) lk_212_56 (by decide) rfl (Nat.le_of_ble_eq_true rfl) rfl rfl (Nat.le_of_ble_eq_true rfl) (Nat.le_of_ble_eq_true rfl) (Nat.zero_le _) (Nat.zero_le _) (c_Mo_isOf (by omega) (by omega)) ?_
          rintro _ N2 ⟨rfl, hN2⟩
          rw [hN2]
          show Wp _ 212 59 [(2, ((116 : Nat) : Int)), (0, (v : Int)), (2, ((136 : Nat) : Int)), (0, (p : Int)), (0, (k : Int)), (0, 1), (0, (i : Int))] [(0, (if Nat.testBit f k6 then (1 : Int) else 0))] M _ _ _
          refine g_if (t := 82) lk_212_59 rfl (by first | (unfold pm_inI; omega) | exact pm_and_in _ _ | exact pm_shr_in _ _ | exact pm_or_in _ _ | exact pm_xor_in _ _ | exact pm_shl_in _ _ | exact pm_cmp_in _ _ | exact pm_b8_in _ | (unfold pm_inI; split <;> omega)) (fun h3 => ?_) (fun h3 => ?_)
          · replace h3 : (if Nat.testBit f k6 then (1 : Int) else 0) = 0 := h3
            refine g_iconst lk_212_82 ?_
            refine g_goto (t := 87) lk_212_83 rfl ?_
            refine g_istore (ls' := [(2, ((116 : Nat) : Int)), (0, (v : Int)), (2, ((136 : Nat) : Int)), (0, (p : Int)), (0, (k : Int)), (0, 1), (0, (i : Int))]) lk_212_87 rfl rfl ?_
            refine g_iinc (ls' := [(2, ((116 : Nat) : Int)), (0, (v : Int)), (2, ((136 : Nat) : Int)), (0, (p : Int)), (0, (k : Int)), (0, 1), (0, ((i : Int) + 1))]) lk_212_89 rfl rfl rfl ?_
            refine g_goto (t := 31) lk_212_92 rfl ?_
            refine nx 1 (Or.inl ⟨rfl, ?_⟩)
            rw [ia, Bool.and_eq_true]
            rintro ⟨a1, a2⟩
            rw [if_pos a1] at h3; cases h3
          · replace h3 : ¬ ((if Nat.testBit f k6 then (1 : Int) else 0) = 0) := h3
            refine g_aload_n lk_212_62 rfl ?_
            refine g_getfield lk_212_63 rfl (lay.on (by decide) rfl) (v := ((135 : Nat) : Int)) (lay.rf rfl) ?_
            refine g_aload_n lk_212_66 rfl ?_
            refine g_iload lk_212_67 rfl ?_
            refine m_iaload (u := []) (M := M) lk_212_69 (lay.ay (by decide) rfl) (by omega) (j := i) (by omega) (v := (x : Int)) v136 ?_
            refine m_iaload (u := []) (M := M) lk_212_70 (lay.ay (by decide) rfl) (by omega) (j := x) (by omega) (v := (g : Int)) v135 ?_
            refine g_iload lk_212_71 rfl ?_
            refine g_bipush lk_212_73 ?_
            refine g_irem lk_212_75 (by unfold pm_inI; omega) (by unfold pm_inI; omega) (by omega) ?_
            refine g_top (z := ((k : Int).tmod 6)) (z' := (km : Int)) (e2) ?_
            refine g_static (Qc := _) lk_212_76 (by decide) rfl (Nat.le_of_ble_eq_true rfl) rfl rfl (Nat.le_of_ble_eq_true rfl) (Nat.le_of_ble_eq_true rfl) (Nat.zero_le _) (Nat.zero_le _) (c_Mo_isOf (by omega) (by omega)) ?_
            rintro _ N4 ⟨rfl, hN4⟩
            rw [hN4]
            show Wp _ 212 79 [(2, ((116 : Nat) : Int)), (0, (v : Int)), (2, ((136 : Nat) : Int)), (0, (p : Int)), (0, (k : Int)), (0, 1), (0, (i : Int))] [(0, (if Nat.testBit g km then (1 : Int) else 0))] M _ _ _
            refine g_if (t := 86) lk_212_79 rfl (by first | (unfold pm_inI; omega) | exact pm_and_in _ _ | exact pm_shr_in _ _ | exact pm_or_in _ _ | exact pm_xor_in _ _ | exact pm_shl_in _ _ | exact pm_cmp_in _ _ | exact pm_b8_in _ | (unfold pm_inI; split <;> omega)) (fun h5 => ?_) (fun h5 => ?_)
            · replace h5 : ¬ (if Nat.testBit g km then (1 : Int) else 0) = 0 := h5
              refine g_iconst lk_212_86 ?_
              refine g_istore (ls' := [(2, ((116 : Nat) : Int)), (0, (v : Int)), (2, ((136 : Nat) : Int)), (0, (p : Int)), (0, (k : Int)), (0, 0), (0, (i : Int))]) lk_212_87 rfl rfl ?_
              refine g_iinc (ls' := [(2, ((116 : Nat) : Int)), (0, (v : Int)), (2, ((136 : Nat) : Int)), (0, (p : Int)), (0, (k : Int)), (0, 0), (0, ((i : Int) + 1))]) lk_212_89 rfl rfl rfl ?_
              refine g_goto (t := 31) lk_212_92 rfl ?_
              refine nx 0 (Or.inr ⟨rfl, ?_⟩)
              rw [ia, Bool.and_eq_true]
              constructor
              · exact Classical.byContradiction (fun q => h3 (by rw [if_neg q]))
              · exact Classical.byContradiction (fun q => h5 (by rw [if_neg q]))
            · replace h5 : ¬ (¬ (if Nat.testBit g km then (1 : Int) else 0) = 0) := h5
              refine g_iconst lk_212_82 ?_
              refine g_goto (t := 87) lk_212_83 rfl ?_
              refine g_istore (ls' := [(2, ((116 : Nat) : Int)), (0, (v : Int)), (2, ((136 : Nat) : Int)), (0, (p : Int)), (0, (k : Int)), (0, 1), (0, (i : Int))]) lk_212_87 rfl rfl ?_
              refine g_iinc (ls' := [(2, ((116 : Nat) : Int)), (0, (v : Int)), (2, ((136 : Nat) : Int)), (0, (p : Int)), (0, (k : Int)), (0, 1), (0, ((i : Int) + 1))]) lk_212_89 rfl rfl rfl ?_
              refine g_goto (t := 31) lk_212_92 rfl ?_
              refine nx 1 (Or.inl ⟨rfl, ?_⟩)
              rw [ia, Bool.and_eq_true]
              rintro ⟨a1, a2⟩
              rw [if_pos a2] at h5; exact h5 (fun q => by cases q)
      · skip
        refine g_iload lk_212_31 rfl ?_
        refine g_iload_n lk_212_33 rfl ?_
        refine g_icmp (t := 95) lk_212_34 rfl (by first | (unfold pm_inI; omega) | exact pm_and_in _ _ | exact pm_shr_in _ _ | exact pm_or_in _ _ | exact pm_xor_in _ _ | exact pm_shl_in _ _ | exact pm_cmp_in _ _ | exact pm_b8_in _ | (unfold pm_inI; split <;> omega)) (by first | (unfold pm_inI; omega) | exact pm_and_in _ _ | exact pm_shr_in _ _ | exact pm_or_in _ _ | exact pm_xor_in _ _ | exact pm_shl_in _ _ | exact pm_cmp_in _ _ | exact pm_b8_in _ | (unfold pm_inI; split <;> omega)) (fun h1 => ?_) (fun h1 => ?_)
        · replace h1 : (p : Int) ≤ (i : Int) := h1
          exact go 0 _ (Or.inr ⟨rfl, q⟩)
        · replace h1 : ¬ ((p : Int) ≤ (i : Int)) := h1
          refine g_iload lk_212_37 rfl ?_
          refine g_if (t := 95) lk_212_39 rfl (by first | (unfold pm_inI; omega) | exact pm_and_in _ _ | exact pm_shr_in _ _ | exact pm_or_in _ _ | exact pm_xor_in _ _ | exact pm_shl_in _ _ | exact pm_cmp_in _ _ | exact pm_b8_in _ | (unfold pm_inI; split <;> omega)) (fun _ => ?_) (fun h => absurd (show (0 : Int) = (0 : Int) by omega) h)
          exact go 0 _ (Or.inr ⟨rfl, q⟩)
  have outer : ∀ (n k : Nat) (v5 v6 : pm_V), k + n = 36 → (∀ j, j < k → ¬ UQ T v idx j) → Wp (d + 1) 212 3 [(2, ((116 : Nat) : Int)), (0, (v : Int)), (2, ((136 : Nat) : Int)), (0, (p : Int)), (0, (k : Int)), v5, v6] [] M mc ms Q := by
    intro n
    induction n with
    | zero =>
      intro k v5 v6 hk hno
      refine g_iload lk_212_3 rfl ?_
      refine g_bipush lk_212_5 ?_
      refine g_icmp (t := 109) lk_212_7 rfl (by first | (unfold pm_inI; omega) | exact pm_and_in _ _ | exact pm_shr_in _ _ | exact pm_or_in _ _ | exact pm_xor_in _ _ | exact pm_shl_in _ _ | exact pm_cmp_in _ _ | exact pm_b8_in _ | (unfold pm_inI; split <;> omega)) (by first | (unfold pm_inI; omega) | exact pm_and_in _ _ | exact pm_shr_in _ _ | exact pm_or_in _ _ | exact pm_xor_in _ _ | exact pm_shl_in _ _ | exact pm_cmp_in _ _ | exact pm_b8_in _ | (unfold pm_inI; split <;> omega)) (fun h1 => ?_) (fun h1 => ?_)
      · replace h1 : 36 ≤ (k : Int) := h1
        refine g_iconst lk_212_109 ?_
        refine g_ireturn lk_212_110 (fun h => absurd h (by decide)) ?_
        rw [hQ]
        exact ⟨Or.inr ⟨fun j hj => hno j (by omega), rfl⟩, rfl⟩
      · replace h1 : ¬ (36 ≤ (k : Int)) := h1
        omega
    | succ n ih =>
      intro k v5 v6 hk hno
      have vk := hM.2.2.2.2 k (by omega)
      have x10 := hT.2.2.1 k
      have hb := hX k (by omega)
      have go : ∀ (b : Nat) (v6 : pm_V), (b = 1 ∧ UQ T v idx k ∨ b = 0 ∧ ¬ UQ T v idx k) → Wp (d + 1) 212 95 [(2, ((116 : Nat) : Int)), (0, (v : Int)), (2, ((136 : Nat) : Int)), (0, (p : Int)), (0, (k : Int)), (0, (b : Int)), v6] [] M mc ms Q := by
        intro b v6 hb
        refine g_iload lk_212_95 rfl ?_
        refine g_if (t := 103) lk_212_97 rfl (by (unfold pm_inI; omega)) (fun h1 => ?_) (fun h1 => ?_)
        · replace h1 : (b : Int) = 0 := h1
          refine g_iinc (ls' := [(2, ((116 : Nat) : Int)), (0, (v : Int)), (2, ((136 : Nat) : Int)), (0, (p : Int)), (0, ((k : Int) + 1)), (0, (b : Int)), v6]) lk_212_103 rfl rfl rfl ?_
          refine g_goto (t := 3) lk_212_106 rfl ?_
          refine ih (k + 1) _ _ (by omega) (fun j hj => ?_)
          by_cases e : j = k
          · rw [e]; rcases hb with q | q; omega; exact q.2
          · exact hno j (by omega)
        · replace h1 : ¬ ((b : Int) = 0) := h1
          refine g_iload lk_212_100 rfl ?_
          refine g_ireturn lk_212_102 (fun h => absurd h (by decide)) ?_
          rw [hQ]
          refine ⟨Or.inl ⟨k, by omega, ?_, hno, rfl⟩, rfl⟩
          rcases hb with q | q
          · exact q.2
          · omega
      refine g_iload lk_212_3 rfl ?_
      refine g_bipush lk_212_5 ?_
      refine g_icmp (t := 109) lk_212_7 rfl (by first | (unfold pm_inI; omega) | exact pm_and_in _ _ | exact pm_shr_in _ _ | exact pm_or_in _ _ | exact pm_xor_in _ _ | exact pm_shl_in _ _ | exact pm_cmp_in _ _ | exact pm_b8_in _ | (unfold pm_inI; split <;> omega)) (by first | (unfold pm_inI; omega) | exact pm_and_in _ _ | exact pm_shr_in _ _ | exact pm_or_in _ _ | exact pm_xor_in _ _ | exact pm_shl_in _ _ | exact pm_cmp_in _ _ | exact pm_b8_in _ | (unfold pm_inI; split <;> omega)) (fun h1 => ?_) (fun h1 => ?_)
      · replace h1 : 36 ≤ (k : Int) := h1
        omega
      · replace h1 : ¬ (36 ≤ (k : Int)) := h1
        refine g_aload_n lk_212_10 rfl ?_
        refine g_getfield lk_212_11 rfl (lay.on (by decide) rfl) (v := ((117 : Nat) : Int)) (lay.rf rfl) ?_
        refine g_iload lk_212_14 rfl ?_
        refine m_iaload (u := []) (M := M) lk_212_16 (lay.ay (by decide) rfl) (by omega) (j := k) (by omega) (v := (tX T k : Int)) vk ?_
        refine g_iload_n lk_212_17 rfl ?_
        refine g_icmp (t := 25) lk_212_18 rfl (by first | (unfold pm_inI; omega) | exact pm_and_in _ _ | exact pm_shr_in _ _ | exact pm_or_in _ _ | exact pm_xor_in _ _ | exact pm_shl_in _ _ | exact pm_cmp_in _ _ | exact pm_b8_in _ | (unfold pm_inI; split <;> omega)) (by first | (unfold pm_inI; omega) | exact pm_and_in _ _ | exact pm_shr_in _ _ | exact pm_or_in _ _ | exact pm_xor_in _ _ | exact pm_shl_in _ _ | exact pm_cmp_in _ _ | exact pm_b8_in _ | (unfold pm_inI; split <;> omega)) (fun h2 => ?_) (fun h2 => ?_)
        · replace h2 : ¬ (tX T k : Int) = (v : Int) := h2
          refine g_iconst lk_212_25 ?_
          refine g_istore (ls' := [(2, ((116 : Nat) : Int)), (0, (v : Int)), (2, ((136 : Nat) : Int)), (0, (p : Int)), (0, (k : Int)), (0, 0), v6]) lk_212_26 rfl rfl ?_
          refine g_iconst lk_212_28 ?_
          refine g_istore (ls' := [(2, ((116 : Nat) : Int)), (0, (v : Int)), (2, ((136 : Nat) : Int)), (0, (p : Int)), (0, (k : Int)), (0, 0), (0, 0)]) lk_212_29 rfl rfl ?_
          exact inner p 0 k 0 (by omega) (by omega) (Or.inr ⟨rfl, fun q => h2 (by have := q.1.2.2; omega)⟩) go
        · replace h2 : ¬ (¬ (tX T k : Int) = (v : Int)) := h2
          refine g_iconst lk_212_21 ?_
          refine g_goto (t := 26) lk_212_22 rfl ?_
          refine g_istore (ls' := [(2, ((116 : Nat) : Int)), (0, (v : Int)), (2, ((136 : Nat) : Int)), (0, (p : Int)), (0, (k : Int)), (0, 1), v6]) lk_212_26 rfl rfl ?_
          refine g_iconst lk_212_28 ?_
          refine g_istore (ls' := [(2, ((116 : Nat) : Int)), (0, (v : Int)), (2, ((136 : Nat) : Int)), (0, (p : Int)), (0, (k : Int)), (0, 1), (0, 0)]) lk_212_29 rfl rfl ?_
          refine inner p 0 k 1 (by omega) (by omega) (Or.inl ⟨rfl, ?_, fun x hx => by cases hx⟩) go
          have e : tX T k = v := by omega
          rcases hb with q | q
          · exact ⟨q.1, q.2, e⟩
          · omega
  show Wp (d + 1) 212 0 [(2, ((116 : Nat) : Int)), (0, (v : Int)), (2, ((136 : Nat) : Int)), (0, (p : Int)), (9, 0), (9, 0), (9, 0)] [] M mc ms Q
  refine g_iconst lk_212_0 ?_
  refine g_istore (ls' := [(2, ((116 : Nat) : Int)), (0, (v : Int)), (2, ((136 : Nat) : Int)), (0, (p : Int)), (0, 0), (9, 0), (9, 0)]) lk_212_1 rfl rfl ?_
  exact outer 36 0 _ _ rfl (fun j hj => absurd hj (Nat.not_lt_zero j))
theorem FmAt.mf {S K : List Nat} {M N : pm_M} {T : Tab} {v n : Nat} (h : FmAt M T v n) (k : MF S K M N) (h1 : 38 ∉ K) (h2 : 134 ∉ S) (h3 : 135 ∉ S) : FmAt N T v n := by
  unfold FmAt; rw [k.fd h1, k.ct h2 (by decide), k.ct h3 (by decide)]; exact h
theorem UQ_app (T : Tab) (v : Nat) (idx : List Nat) (k i : Nat) : UQ T v (idx ++ [k]) i ↔ (UQ T v idx i ∧ ¬ inA T v (Fk T v k) i = true) := by
  unfold UQ
  constructor
  · rintro ⟨a, b⟩
    exact ⟨⟨a, fun x hx => b x (List.mem_append_left _ hx)⟩, b k (by simp)⟩
  · rintro ⟨⟨a, b⟩, c⟩
    refine ⟨a, fun x hx => ?_⟩
    rw [List.mem_append, List.mem_singleton] at hx
    rcases hx with q | q
    · exact b x q
    · rw [q]; exact c
set_option maxHeartbeats 8000000 in
theorem c_Mo_areEnough {d mc ms : Nat} {M : pm_M} (lay0 : Lay M) {T : Tab} (hT : TabOK T) (hX : TabX T) (hM0 : MoAt M T) {v : Nat} (hv : v < 10) (hU0 : FmAt M T v (2 ^ tR T - 1)) {mo : Nat} (hmo : mo ≤ 6) :
    pm_E (d + 2) 213 [(2, ((116 : Nat) : Int)), (0, (v : Int)), (0, (mo : Int))] M mc ms (fun ρ M' => (∃ b : Nat, (b = 1 ∧ CV T v mo (Cv T v) ∨ b = 0 ∧ ¬ CV T v mo (Cv T v)) ∧ ρ = some (0, (b : Int))) ∧ Lay M' ∧ MF [136] [] M M') := by
  obtain ⟨Q, hQ⟩ : ∃ Q : pm_Q, Q = (fun ρ M' => (∃ b : Nat, (b = 1 ∧ CV T v mo (Cv T v) ∨ b = 0 ∧ ¬ CV T v mo (Cv T v)) ∧ ρ = some (0, (b : Int))) ∧ Lay M' ∧ MF [136] [] M M') := ⟨_, rfl⟩
  rw [← hQ]
  have L63 := FL_64 hT v
  have hR := hT.1
  obtain ⟨L, hL⟩ : ∃ L, L = (FL T v).length := ⟨_, rfl⟩
  rw [← hL] at L63
  -- all covered: so many are enough
  have yes : ∀ (idx : List Nat), (∀ x, x ∈ idx → x < L) → idx.length ≤ mo → (∀ k, k < 36 → ¬ UQ T v idx k) → CV T v mo (Cv T v) := fun idx hi hl hno =>
    ⟨idx.map (Fk T v), by rw [List.length_map]; exact hl, fun x hx => by
      obtain ⟨k, hk, rfl⟩ := List.mem_map.mp hx
      exact Fk_mem (by rw [← hL]; exact hi k hk), fun i hi' => by
      refine Classical.byContradiction (fun q => hno i (by have := hi'.1; omega) ⟨hi', fun x hx c => q ⟨Fk T v x, List.mem_map.mpr ⟨x, hx, rfl⟩, c⟩⟩)⟩
  have main : ∀ (n : Nat) (idx : List Nat) (N : pm_M) (v5 v6 : pm_V), idx.length + n = mo → (∀ x, x ∈ idx → x < L) → Lay N → MF [136] [] M N → ChAt N idx →
      (∀ (N' : pm_M) (v4 v5 v6 : pm_V), Lay N' → MF [136] [] M N' → ChAt N' idx → ¬ CV T v n (UQ T v idx) → Wp (d + 2) 213 118 [(2, ((116 : Nat) : Int)), (0, (v : Int)), (0, (mo : Int)), (0, (idx.length : Int)), v4, v5, v6] [] N' mc ms Q) →
      Wp (d + 2) 213 5 [(2, ((116 : Nat) : Int)), (0, (v : Int)), (0, (mo : Int)), (0, (idx.length : Int)), (0, 0), v5, v6] [] N mc ms Q := by
    intro n
    induction n with
    | zero =>
      intro idx N v5 v6 hn hi lay hF hch fail
      have hM : MoAt N T := hM0.mf hF (by decide) (by decide) (by decide) (by decide)
      have hU : FmAt N T v (2 ^ tR T - 1) := hU0.mf hF (by decide) (by decide) (by decide)
      have u1 : pm_ct N 116 38 = (L : Int) := by rw [hL]; exact hU.1
      have cc := c_Mo_uncovered (d := d) (mc := 0) (ms := 0) lay hT hX hM hv hU (idx := idx) (by rw [← hL]; exact hi) (by omega) hch
      obtain ⟨p, hp⟩ : ∃ p, p = idx.length := ⟨_, rfl⟩
      rw [← hp] at cc fail hn ⊢
      have epm : p = mo := by omega
      refine g_aload_n lk_213_5 rfl ?_
      refine g_iload_n lk_213_6 rfl ?_
      refine g_aload_n lk_213_7 rfl ?_
      refine g_getfield lk_213_8 rfl (lay.on (by decide) rfl) (v := ((136 : Nat) : Int)) (lay.rf rfl) ?_
      refine g_iload_n lk_213_11 rfl ?_
      refine g_virtual (p := 116) (Qc := _) lk_213_12 rfl (Nat.le_of_ble_eq_true rfl) rfl rfl (lay.on (by decide) rfl) (Nat.le_of_ble_eq_true rfl) (Nat.le_of_ble_eq_true rfl) (Nat.zero_le _) (Nat.zero_le _) cc ?_
      rintro _ N1 ⟨hq, rfl⟩
      rcases hq with ⟨k, k1, k2, k3, rfl⟩ | ⟨hno, rfl⟩
      · have k41 : Wp (d + 2) 213 41 [(2, ((116 : Nat) : Int)), (0, (v : Int)), (0, (mo : Int)), (0, (p : Int)), (0, 0), (0, (k : Int)), (0, (L : Int))] [] N1 mc ms Q := by
          refine g_iload lk_213_41 rfl ?_
          refine g_aload_n lk_213_43 rfl ?_
          refine g_getfield lk_213_44 rfl (lay.on (by decide) rfl) (v := (L : Int)) u1 ?_
          refine g_icmp (t := 92) lk_213_47 rfl (by unfold pm_inI; omega) (by unfold pm_inI; omega) (fun _ => ?_) (fun q => absurd (Int.le_refl _) q)
          refine g_iload lk_213_92 rfl ?_
          refine g_aload_n lk_213_94 rfl ?_
          refine g_getfield lk_213_95 rfl (lay.on (by decide) rfl) (v := (L : Int)) u1 ?_
          refine g_icmp (t := 118) lk_213_98 rfl (by unfold pm_inI; omega) (by unfold pm_inI; omega) (fun _ => ?_) (fun q => absurd (Int.le_refl _) q)
          exact fail N1 _ _ _ lay hF hch (fun c => CV_0 c k k2)
        refine g_istore (ls' := [(2, ((116 : Nat) : Int)), (0, (v : Int)), (0, (mo : Int)), (0, (p : Int)), (0, 0), (0, (k : Int)), v6]) lk_213_15 rfl rfl ?_
        refine g_iload lk_213_17 rfl ?_
        refine g_iconst lk_213_19 ?_
        refine g_icmp (t := 25) lk_213_20 rfl (by unfold pm_inI; omega) (by unfold pm_inI; omega) (fun _ => ?_) (fun q => absurd (show ¬ (k : Int) = -1 by omega) q)
        refine g_iload_n lk_213_25 rfl ?_
        refine g_iload_n lk_213_26 rfl ?_
        refine g_icmp (t := 37) lk_213_27 rfl (by unfold pm_inI; omega) (by unfold pm_inI; omega) (fun q => absurd (show (p : Int) = (mo : Int) by omega) q) (fun _ => ?_)
        refine g_aload_n lk_213_30 rfl ?_
        refine g_getfield lk_213_31 rfl (lay.on (by decide) rfl) (v := (L : Int)) u1 ?_
        refine g_goto (t := 39) lk_213_34 rfl ?_
        refine g_istore (ls' := [(2, ((116 : Nat) : Int)), (0, (v : Int)), (0, (mo : Int)), (0, (p : Int)), (0, 0), (0, (k : Int)), (0, (L : Int))]) lk_213_39 rfl rfl ?_
        exact k41
      · refine g_istore (ls' := [(2, ((116 : Nat) : Int)), (0, (v : Int)), (0, (mo : Int)), (0, (p : Int)), (0, 0), (0, -1), v6]) lk_213_15 rfl rfl ?_
        refine g_iload lk_213_17 rfl ?_
        refine g_iconst lk_213_19 ?_
        refine g_icmp (t := 25) lk_213_20 rfl (by unfold pm_inI; omega) (by unfold pm_inI; omega) (fun q => absurd rfl q) (fun _ => ?_)
        refine g_iconst lk_213_23 ?_
        refine g_ireturn lk_213_24 (fun _ => Or.inr rfl) ?_
        rw [hQ]
        exact ⟨⟨1, Or.inl ⟨rfl, yes idx hi (by omega) hno⟩, rfl⟩, lay, hF⟩
    | succ n ih =>
      intro idx N0 v5 v6 hn hi lay00 hF00 hch00 fail
      have nx := fun k => ih (idx ++ [k])
      have lenapp : ∀ k : Nat, (idx ++ [k]).length = idx.length + 1 := fun k => by rw [List.length_append]; rfl
      have cc := fun (N : pm_M) (lay : Lay N) (hF : MF [136] [] M N) (hch : ChAt N idx) => c_Mo_uncovered (d := d) (mc := 0) (ms := 0) lay hT hX (hM0.mf hF (by decide) (by decide) (by decide) (by decide)) hv (hU0.mf hF (by decide) (by decide) (by decide)) (idx := idx) (by rw [← hL]; exact hi) (by omega) hch
      obtain ⟨p, hp⟩ : ∃ p, p = idx.length := ⟨_, rfl⟩
      rw [← hp] at cc fail hn ⊢
      -- from the head to the search, where a cell is open
      have toS : ∀ (t c : Nat) (N : pm_M) (v5 v6 : pm_V), Lay N → MF [136] [] M N → ChAt N idx → c < 36 → UQ T v idx c → (∀ j, j < c → ¬ UQ T v idx j) → Wp (d + 2) 213 41 [(2, ((116 : Nat) : Int)), (0, (v : Int)), (0, (mo : Int)), (0, (p : Int)), (0, (t : Int)), (0, (c : Int)), (0, (t : Int))] [] N mc ms Q → Wp (d + 2) 213 5 [(2, ((116 : Nat) : Int)), (0, (v : Int)), (0, (mo : Int)), (0, (p : Int)), (0, (t : Int)), v5, v6] [] N mc ms Q := by
        intro t c N v5 v6 lay hF hch hc36 hc hcl go
        refine g_aload_n lk_213_5 rfl ?_
        refine g_iload_n lk_213_6 rfl ?_
        refine g_aload_n lk_213_7 rfl ?_
        refine g_getfield lk_213_8 rfl (lay.on (by decide) rfl) (v := ((136 : Nat) : Int)) (lay.rf rfl) ?_
        refine g_iload_n lk_213_11 rfl ?_
        refine g_virtual (p := 116) (Qc := _) lk_213_12 rfl (Nat.le_of_ble_eq_true rfl) rfl rfl (lay.on (by decide) rfl) (Nat.le_of_ble_eq_true rfl) (Nat.le_of_ble_eq_true rfl) (Nat.zero_le _) (Nat.zero_le _) (cc N lay hF hch) ?_
        rintro _ N1 ⟨hq, rfl⟩
        rcases hq with ⟨k, k1, k2, k3, rfl⟩ | ⟨hno, rfl⟩
        · have ekc : k = c := by
            rcases Nat.lt_trichotomy k c with q | q | q
            · exact absurd k2 (hcl k q)
            · exact q
            · exact absurd hc (k3 c q)
          rw [ekc]
          refine g_istore (ls' := [(2, ((116 : Nat) : Int)), (0, (v : Int)), (0, (mo : Int)), (0, (p : Int)), (0, (t : Int)), (0, (c : Int)), v6]) lk_213_15 rfl rfl ?_
          refine g_iload lk_213_17 rfl ?_
          refine g_iconst lk_213_19 ?_
          refine g_icmp (t := 25) lk_213_20 rfl (by unfold pm_inI; omega) (by unfold pm_inI; omega) (fun _ => ?_) (fun q => absurd (show ¬ (c : Int) = -1 by omega) q)
          refine g_iload_n lk_213_25 rfl ?_
          refine g_iload_n lk_213_26 rfl ?_
          refine g_icmp (t := 37) lk_213_27 rfl (by unfold pm_inI; omega) (by unfold pm_inI; omega) (fun _ => ?_) (fun q => absurd (show ¬ (p : Int) = (mo : Int) by omega) q)
          refine g_iload lk_213_37 rfl ?_
          refine g_istore (ls' := [(2, ((116 : Nat) : Int)), (0, (v : Int)), (0, (mo : Int)), (0, (p : Int)), (0, (t : Int)), (0, (c : Int)), (0, (t : Int))]) lk_213_39 rfl rfl ?_
          exact go
        · exact absurd hc (hno c hc36)
      have srch : ∀ (m k c : Nat) (z4 : Int) (N : pm_M), k + m = L → Lay N → MF [136] [] M N → ChAt N idx → c < 36 → UQ T v idx c → (∀ j, j < c → ¬ UQ T v idx j) → (∀ q, q < k → inA T v (Fk T v q) c = true → ¬ CV T v n (UQ T v (idx ++ [q]))) → Wp (d + 2) 213 41 [(2, ((116 : Nat) : Int)), (0, (v : Int)), (0, (mo : Int)), (0, (p : Int)), (0, z4), (0, (c : Int)), (0, (k : Int))] [] N mc ms Q := by
        intro m
        induction m with
        | zero =>
          intro k c z4 N hk lay hF hch hc36 hc hcl hno
          have hU : FmAt N T v (2 ^ tR T - 1) := hU0.mf hF (by decide) (by decide) (by decide)
          have u1 : pm_ct N 116 38 = (L : Int) := by rw [hL]; exact hU.1
          refine g_iload lk_213_41 rfl ?_
          refine g_aload_n lk_213_43 rfl ?_
          refine m_getfield (u := []) (M := N) lk_213_44 rfl (lay.on (by decide) rfl) (v := (L : Int)) u1 ?_
          refine g_icmp (t := 92) lk_213_47 rfl (by first | (unfold pm_inI; omega) | exact pm_and_in _ _ | exact pm_shr_in _ _ | exact pm_or_in _ _ | exact pm_xor_in _ _ | exact pm_shl_in _ _ | exact pm_cmp_in _ _ | exact pm_b8_in _ | (unfold pm_inI; split <;> omega)) (by first | (unfold pm_inI; omega) | exact pm_and_in _ _ | exact pm_shr_in _ _ | exact pm_or_in _ _ | exact pm_xor_in _ _ | exact pm_shl_in _ _ | exact pm_cmp_in _ _ | exact pm_b8_in _ | (unfold pm_inI; split <;> omega)) (fun h1 => ?_) (fun h1 => ?_)
          · replace h1 : (L : Int) ≤ (k : Int) := h1
            refine g_iload lk_213_92 rfl ?_
            refine g_aload_n lk_213_94 rfl ?_
            refine m_getfield (u := []) (M := N) lk_213_95 rfl (lay.on (by decide) rfl) (v := (L : Int)) u1 ?_
            refine g_icmp (t := 118) lk_213_98 rfl (by first | (unfold pm_inI; omega) | exact pm_and_in _ _ | exact pm_shr_in _ _ | exact pm_or_in _ _ | exact pm_xor_in _ _ | exact pm_shl_in _ _ | exact pm_cmp_in _ _ | exact pm_b8_in _ | (unfold pm_inI; split <;> omega)) (by first | (unfold pm_inI; omega) | exact pm_and_in _ _ | exact pm_shr_in _ _ | exact pm_or_in _ _ | exact pm_xor_in _ _ | exact pm_shl_in _ _ | exact pm_cmp_in _ _ | exact pm_b8_in _ | (unfold pm_inI; split <;> omega)) (fun h2 => ?_) (fun h2 => ?_)
            · replace h2 : (L : Int) ≤ (k : Int) := h2
              refine fail N _ _ _ lay hF hch (fun q => ?_)
              obtain ⟨x, x1, x2, x3⟩ := (CV_s hc).mp q
              obtain ⟨j, j1, rfl⟩ := Fk_ex x1
              exact hno j (by omega) x2 (CV_sub x3 (fun i h => (UQ_app T v idx j i).mp h))
            · replace h2 : ¬ ((L : Int) ≤ (k : Int)) := h2
              omega
          · replace h1 : ¬ ((L : Int) ≤ (k : Int)) := h1
            omega
        | succ m ihm =>
          intro k c z4 N hk lay hF hch hc36 hc hcl hno
          have hU : FmAt N T v (2 ^ tR T - 1) := hU0.mf hF (by decide) (by decide) (by decide)
          have u1 : pm_ct N 116 38 = (L : Int) := by rw [hL]; exact hU.1
          obtain ⟨f, hf⟩ : ∃ f, f = Fk T v k := ⟨_, rfl⟩
          have f64 : f < 64 := by rw [hf]; exact Fk_64 hT v k
          have v134 : pm_ct N 134 k = (f : Int) := by rw [hf]; exact (hU.2 k (by show k < (FL T v).length; omega)).1
          obtain ⟨g, hg⟩ : ∃ g, g = oC T f v := ⟨_, rfl⟩
          have g64 : g < 64 := by rw [hg]; exact oC_64 hT f v
          have v135 : pm_ct N 135 k = (g : Int) := by rw [hg, hf]; exact (hU.2 k (by show k < (FL T v).length; omega)).2
          obtain ⟨k6, hk6⟩ : ∃ k6, k6 = c / 6 := ⟨_, rfl⟩
          obtain ⟨km, hkm⟩ : ∃ km, km = c % 6 := ⟨_, rfl⟩
          have e1 : (c : Int).tdiv 6 = (k6 : Int) := by rw [hk6]; rfl
          have e2 : (c : Int).tmod 6 = (km : Int) := by rw [hkm]; rfl
          have ia : inA T v (Fk T v k) c = (f.testBit k6 && g.testBit km) := by unfold inA; rw [← hf, ← hg, ← hk6, ← hkm]
          have nohit : ¬ inA T v (Fk T v k) c = true → ∀ z4 : Int, Wp (d + 2) 213 41 [(2, ((116 : Nat) : Int)), (0, (v : Int)), (0, (mo : Int)), (0, (p : Int)), (0, z4), (0, (c : Int)), (0, ((k + 1 : Nat) : Int))] [] N mc ms Q := fun hn z4 =>
            ihm (k + 1) c z4 N (by omega) lay hF hch hc36 hc hcl (fun q hq a => by
              by_cases e : q = k
              · rw [e] at a; exact absurd a hn
              · exact hno q (by omega) a)
          have hit : inA T v (Fk T v k) c = true → Wp (d + 2) 213 92 [(2, ((116 : Nat) : Int)), (0, (v : Int)), (0, (mo : Int)), (0, (p : Int)), (0, z4), (0, (c : Int)), (0, (k : Int))] [] N mc ms Q := by
            intro hin
            refine g_iload lk_213_92 rfl ?_
            refine g_aload_n lk_213_94 rfl ?_
            refine m_getfield (u := []) (M := N) lk_213_95 rfl (lay.on (by decide) rfl) (v := (L : Int)) u1 ?_
            refine g_icmp (t := 118) lk_213_98 rfl (by first | (unfold pm_inI; omega) | exact pm_and_in _ _ | exact pm_shr_in _ _ | exact pm_or_in _ _ | exact pm_xor_in _ _ | exact pm_shl_in _ _ | exact pm_cmp_in _ _ | exact pm_b8_in _ | (unfold pm_inI; split <;> omega)) (by first | (unfold pm_inI; omega) | exact pm_and_in _ _ | exact pm_shr_in _ _ | exact pm_or_in _ _ | exact pm_xor_in _ _ | exact pm_shl_in _ _ | exact pm_cmp_in _ _ | exact pm_b8_in _ | (unfold pm_inI; split <;> omega)) (fun h1 => ?_) (fun h1 => ?_)
            · replace h1 : (L : Int) ≤ (k : Int) := h1
              omega
            · replace h1 : ¬ ((L : Int) ≤ (k : Int)) := h1
              refine g_aload_n lk_213_101 rfl ?_
              refine g_getfield lk_213_102 rfl (lay.on (by decide) rfl) (v := ((136 : Nat) : Int)) (lay.rf rfl) ?_
              refine g_iload_n lk_213_105 rfl ?_
              refine g_iload lk_213_106 rfl ?_
              have lay2 : Lay (Mu [(136, pm_upd (pm_ct N 136) p (k : Int))] N) := lay.muA (l := []) (a := 136) (f := pm_upd (pm_ct N 136) p (k : Int)) rfl rfl
              refine m_iastore (u := []) (u' := [(136, pm_upd (pm_ct N 136) p (k : Int))]) (M := N) lk_213_108 (lay.ay (by decide) rfl) (by omega) (j := p) (by omega) rfl ?_
              refine g_iinc (ls' := [(2, ((116 : Nat) : Int)), (0, (v : Int)), (0, (mo : Int)), (0, ((p : Int) + 1)), (0, z4), (0, (c : Int)), (0, (k : Int))]) lk_213_109 rfl rfl rfl ?_
              refine g_iconst lk_213_112 ?_
              refine g_istore (ls' := [(2, ((116 : Nat) : Int)), (0, (v : Int)), (0, (mo : Int)), (0, ((p : Int) + 1)), (0, 0), (0, (c : Int)), (0, (k : Int))]) lk_213_113 rfl rfl ?_
              refine g_goto (t := 137) lk_213_115 rfl ?_
              refine g_goto (t := 5) lk_213_137 rfl ?_
              have e9 : ((p : Int) + 1) = (((idx ++ [k]).length : Nat) : Int) := by rw [lenapp, ← hp]; omega
              rw [e9]
              refine nx k _ _ _ (by rw [lenapp, ← hp]; omega) (fun x hx => ?_) lay2 (hF.trans (MF.mu _ _ rfl (fun j hj => rfl))) (fun j x hj => ?_) (fun N' v4 v5 v6 l2 f2 c2 hno2 => ?_)
              · rw [List.mem_append, List.mem_singleton] at hx
                rcases hx with q | q
                · exact hi x q
                · omega
              · rw [Mu_ct]
                show pm_upd (pm_ct N 136) p _ j = _
                rcases app_get hj with ⟨q1, q2⟩ | ⟨q1, q2⟩
                · rw [pm_upd_ne (by omega)]; exact hch j x q2
                · rw [q1, ← hp, pm_upd_eq, q2]
              · have hpk : pm_ct N' 136 p = (k : Int) := c2 p k (by rw [hp, List.getElem?_append_right (Nat.le_refl _), Nat.sub_self]; rfl)
                rw [lenapp, ← hp]
                refine g_iload_n lk_213_118 rfl ?_
                refine g_if (t := 124) lk_213_119 rfl (by unfold pm_inI; omega) (fun _ => ?_) (fun q => absurd (show ¬ ((p + 1 : Nat) : Int) = 0 by omega) q)
                refine g_iinc (ls' := [(2, ((116 : Nat) : Int)), (0, (v : Int)), (0, (mo : Int)), (0, ((p + 1 : Nat) : Int) + (-1)), v4, v5, v6]) lk_213_124 rfl rfl rfl ?_
                rw [show ((p + 1 : Nat) : Int) + (-1) = (p : Int) by omega]
                refine g_aload_n lk_213_127 rfl ?_
                refine g_getfield lk_213_128 rfl (l2.on (by decide) rfl) (v := ((136 : Nat) : Int)) (l2.rf rfl) ?_
                refine g_iload_n lk_213_131 rfl ?_
                refine g_iaload lk_213_132 (l2.ay (by decide) rfl) (by omega) (v := (k : Int)) hpk ?_
                refine g_iconst lk_213_133 ?_
                refine g_iadd lk_213_134 ?_
                refine g_istore (ls' := [(2, ((116 : Nat) : Int)), (0, (v : Int)), (0, (mo : Int)), (0, (p : Int)), (0, (k : Int) + 1), v5, v6]) lk_213_135 rfl rfl ?_
                refine g_goto (t := 5) lk_213_137 rfl ?_
                have c3 : ChAt N' idx := fun j x hj => c2 j x (by rw [List.getElem?_append_left (List.getElem?_eq_some_iff.mp hj).1]; exact hj)
                refine toS (k + 1) c N' _ _ l2 f2 c3 hc36 hc hcl (ihm (k + 1) c _ N' (by omega) l2 f2 c3 hc36 hc hcl (fun q hq a => ?_))
                by_cases e : q = k
                · rw [e]; exact hno2
                · exact hno q (by omega) a
          refine g_iload lk_213_41 rfl ?_
          refine g_aload_n lk_213_43 rfl ?_
          refine m_getfield (u := []) (M := N) lk_213_44 rfl (lay.on (by decide) rfl) (v := (L : Int)) u1 ?_
          refine g_icmp (t := 92) lk_213_47 rfl (by first | (unfold pm_inI; omega) | exact pm_and_in _ _ | exact pm_shr_in _ _ | exact pm_or_in _ _ | exact pm_xor_in _ _ | exact pm_shl_in _ _ | exact pm_cmp_in _ _ | exact pm_b8_in _ | (unfold pm_inI; split <;> omega)) (by first | (unfold pm_inI; omega) | exact pm_and_in _ _ | exact pm_shr_in _ _ | exact pm_or_in _ _ | exact pm_xor_in _ _ | exact pm_shl_in _ _ | exact pm_cmp_in _ _ | exact pm_b8_in _ | (unfold pm_inI; split <;> omega)) (fun h1 => ?_) (fun h1 => ?_)
          · replace h1 : (L : Int) ≤ (k : Int) := h1
            omega
          · replace h1 : ¬ ((L : Int) ≤ (k : Int)) := h1
            refine g_aload_n lk_213_50 rfl ?_
            refine g_getfield lk_213_51 rfl (lay.on (by decide) rfl) (v := ((134 : Nat) : Int)) (lay.rf rfl) ?_
            refine g_iload lk_213_54 rfl ?_
            refine m_iaload (u := []) (M := N) lk_213_56 (lay.ay (by decide) rfl) (by omega) (j := k) (by omega) (v := (f : Int)) v134 ?_
            refine g_iload lk_213_57 rfl ?_
            refine g_bipush lk_213_59 ?_
            refine g_idiv lk_213_61 (by unfold pm_inI; omega) (by unfold pm_inI; omega) (by omega) ?_
            refine g_top (z := ((c : Int).tdiv 6)) (z' := (k6 : Int)) (e1) ?_
            refine g_static (Qc := _) lk_213_62 (by decide) rfl (Nat.le_of_ble_eq_true rfl) rfl rfl (Nat.le_of_ble_eq_true rfl) (Nat.le_of_ble_eq_true rfl) (Nat.zero_le _) (Nat.zero_le _) (c_Mo_isOf (by omega) (by omega)) ?_
            rintro _ N2 ⟨rfl, hN2⟩
            rw [hN2]
            show Wp _ 213 65 [(2, ((116 : Nat) : Int)), (0, (v : Int)), (0, (mo : Int)), (0, (p : Int)), (0, z4), (0, (c : Int)), (0, (k : Int))] [(0, (if Nat.testBit f k6 then (1 : Int) else 0))] N _ _ _
            refine g_if (t := 86) lk_213_65 rfl (by first | (unfold pm_inI; omega) | exact pm_and_in _ _ | exact pm_shr_in _ _ | exact pm_or_in _ _ | exact pm_xor_in _ _ | exact pm_shl_in _ _ | exact pm_cmp_in _ _ | exact pm_b8_in _ | (unfold pm_inI; split <;> omega)) (fun h3 => ?_) (fun h3 => ?_)
            · replace h3 : (if Nat.testBit f k6 then (1 : Int) else 0) = 0 := h3
              refine g_iinc (ls' := [(2, ((116 : Nat) : Int)), (0, (v : Int)), (0, (mo : Int)), (0, (p : Int)), (0, z4), (0, (c : Int)), (0, ((k : Int) + 1))]) lk_213_86 rfl rfl rfl ?_
              refine g_goto (t := 41) lk_213_89 rfl ?_
              refine nohit ?_ _
              rw [ia, Bool.and_eq_true]
              rintro ⟨a1, a2⟩
              rw [if_pos a1] at h3; cases h3
            · replace h3 : ¬ ((if Nat.testBit f k6 then (1 : Int) else 0) = 0) := h3
              refine g_aload_n lk_213_68 rfl ?_
              refine g_getfield lk_213_69 rfl (lay.on (by decide) rfl) (v := ((135 : Nat) : Int)) (lay.rf rfl) ?_
              refine g_iload lk_213_72 rfl ?_
              refine m_iaload (u := []) (M := N) lk_213_74 (lay.ay (by decide) rfl) (by omega) (j := k) (by omega) (v := (g : Int)) v135 ?_
              refine g_iload lk_213_75 rfl ?_
              refine g_bipush lk_213_77 ?_
              refine g_irem lk_213_79 (by unfold pm_inI; omega) (by unfold pm_inI; omega) (by omega) ?_
              refine g_top (z := ((c : Int).tmod 6)) (z' := (km : Int)) (e2) ?_
              refine g_static (Qc := _) lk_213_80 (by decide) rfl (Nat.le_of_ble_eq_true rfl) rfl rfl (Nat.le_of_ble_eq_true rfl) (Nat.le_of_ble_eq_true rfl) (Nat.zero_le _) (Nat.zero_le _) (c_Mo_isOf (by omega) (by omega)) ?_
              rintro _ N4 ⟨rfl, hN4⟩
              rw [hN4]
              show Wp _ 213 83 [(2, ((116 : Nat) : Int)), (0, (v : Int)), (0, (mo : Int)), (0, (p : Int)), (0, z4), (0, (c : Int)), (0, (k : Int))] [(0, (if Nat.testBit g km then (1 : Int) else 0))] N _ _ _
              refine g_if (t := 92) lk_213_83 rfl (by first | (unfold pm_inI; omega) | exact pm_and_in _ _ | exact pm_shr_in _ _ | exact pm_or_in _ _ | exact pm_xor_in _ _ | exact pm_shl_in _ _ | exact pm_cmp_in _ _ | exact pm_b8_in _ | (unfold pm_inI; split <;> omega)) (fun h5 => ?_) (fun h5 => ?_)
              · replace h5 : ¬ (if Nat.testBit g km then (1 : Int) else 0) = 0 := h5
                refine hit ?_
                rw [ia, Bool.and_eq_true]
                constructor
                · exact Classical.byContradiction (fun q => h3 (by rw [if_neg q]))
                · exact Classical.byContradiction (fun q => h5 (by rw [if_neg q]))
              · replace h5 : ¬ (¬ (if Nat.testBit g km then (1 : Int) else 0) = 0) := h5
                refine g_iinc (ls' := [(2, ((116 : Nat) : Int)), (0, (v : Int)), (0, (mo : Int)), (0, (p : Int)), (0, z4), (0, (c : Int)), (0, ((k : Int) + 1))]) lk_213_86 rfl rfl rfl ?_
                refine g_goto (t := 41) lk_213_89 rfl ?_
                refine nohit ?_ _
                rw [ia, Bool.and_eq_true]
                rintro ⟨a1, a2⟩
                rw [if_pos a2] at h5; exact h5 (fun q => by cases q)
      by_cases hall : ∃ k, k < 36 ∧ UQ T v idx k ∧ ∀ j, j < k → ¬ UQ T v idx j
      · obtain ⟨c, c1, c2, c3⟩ := hall
        exact toS 0 c N0 v5 v6 lay00 hF00 hch00 c1 c2 c3 (srch L 0 c 0 N0 (by omega) lay00 hF00 hch00 c1 c2 c3 (fun q hq => absurd hq (Nat.not_lt_zero q)))
      · skip
        refine g_aload_n lk_213_5 rfl ?_
        refine g_iload_n lk_213_6 rfl ?_
        refine g_aload_n lk_213_7 rfl ?_
        refine g_getfield lk_213_8 rfl (lay00.on (by decide) rfl) (v := ((136 : Nat) : Int)) (lay00.rf rfl) ?_
        refine g_iload_n lk_213_11 rfl ?_
        refine g_virtual (p := 116) (Qc := _) lk_213_12 rfl (Nat.le_of_ble_eq_true rfl) rfl rfl (lay00.on (by decide) rfl) (Nat.le_of_ble_eq_true rfl) (Nat.le_of_ble_eq_true rfl) (Nat.zero_le _) (Nat.zero_le _) (cc N0 lay00 hF00 hch00) ?_
        rintro _ N1 ⟨hq, rfl⟩
        rcases hq with ⟨k, k1, k2, k3, rfl⟩ | ⟨hno, rfl⟩
        · exact absurd ⟨k, k1, k2, k3⟩ hall
        · refine g_istore (ls' := [(2, ((116 : Nat) : Int)), (0, (v : Int)), (0, (mo : Int)), (0, (p : Int)), (0, 0), (0, -1), v6]) lk_213_15 rfl rfl ?_
          refine g_iload lk_213_17 rfl ?_
          refine g_iconst lk_213_19 ?_
          refine g_icmp (t := 25) lk_213_20 rfl (by unfold pm_inI; omega) (by unfold pm_inI; omega) (fun q => absurd rfl q) (fun _ => ?_)
          refine g_iconst lk_213_23 ?_
          refine g_ireturn lk_213_24 (fun _ => Or.inr rfl) ?_
          rw [hQ]
          exact ⟨⟨1, Or.inl ⟨rfl, yes idx hi (by omega) hno⟩, rfl⟩, lay00, hF00⟩
  show Wp (d + 2) 213 0 [(2, ((116 : Nat) : Int)), (0, (v : Int)), (0, (mo : Int)), (9, 0), (9, 0), (9, 0), (9, 0)] [] M mc ms Q
  refine g_iconst lk_213_0 ?_
  refine g_istore_n (ls' := [(2, ((116 : Nat) : Int)), (0, (v : Int)), (0, (mo : Int)), (0, 0), (9, 0), (9, 0), (9, 0)]) lk_213_1 rfl rfl ?_
  refine g_iconst lk_213_2 ?_
  refine g_istore (ls' := [(2, ((116 : Nat) : Int)), (0, (v : Int)), (0, (mo : Int)), (0, 0), (0, 0), (9, 0), (9, 0)]) lk_213_3 rfl rfl ?_
  refine main mo [] M _ _ (Nat.zero_add _) (fun x hx => by cases hx) lay0 (MF.refl _ _ _) (fun j k hj => by cases hj) (fun N' v4 v5 v6 l2 f2 c2 hno => ?_)
  refine g_iload_n lk_213_118 rfl ?_
  refine g_if (t := 124) lk_213_119 rfl (by unfold pm_inI; decide) (fun q => absurd rfl q) (fun _ => ?_)
  refine g_iconst lk_213_122 ?_
  refine g_ireturn lk_213_123 (fun _ => Or.inl rfl) ?_
  rw [hQ]
  exact ⟨⟨0, Or.inr ⟨rfl, fun q => hno (CV_sub q (fun i h => h.1))⟩, rfl⟩, l2, f2⟩
set_option maxHeartbeats 4000000 in
theorem c_Mo_coverOf {d mc ms : Nat} {M : pm_M} (lay0 : Lay M) {T : Tab} (hT : TabOK T) (hX : TabX T) (hM0 : MoAt M T) {v : Nat} (hv : v < 10) :
    pm_E (d + 4) 214 [(2, ((116 : Nat) : Int)), (0, (v : Int))] M mc ms (fun ρ M' => (∃ n : Nat, IsCov T v n ∧ ρ = some (0, (n : Int))) ∧ Lay M' ∧ MF [134, 135, 136] [38] M M') := by
  obtain ⟨Q, hQ⟩ : ∃ Q : pm_Q, Q = (fun ρ M' => (∃ n : Nat, IsCov T v n ∧ ρ = some (0, (n : Int))) ∧ Lay M' ∧ MF [134, 135, 136] [38] M M') := ⟨_, rfl⟩
  rw [← hQ]
  have c6 : CV T v 6 (Cv T v) := CV_mono (CV_enough hT v) (enough_6 hT v)
  have lp : ∀ (n k : Nat) (N : pm_M), k + n = 6 → Lay N → MF [134, 135, 136] [38] M N → FmAt N T v (2 ^ tR T - 1) → (∀ j, j < k → ¬ CV T v j (Cv T v)) → Wp (d + 4) 214 7 [(2, ((116 : Nat) : Int)), (0, (v : Int)), (0, (k : Int))] [] N mc ms Q := by
    intro n
    induction n with
    | zero =>
      intro k N hk lay hF hU hno
      refine g_iload_n lk_214_7 rfl ?_
      refine g_bipush lk_214_8 ?_
      refine g_icmp (t := 28) lk_214_10 rfl (by first | (unfold pm_inI; omega) | exact pm_and_in _ _ | exact pm_shr_in _ _ | exact pm_or_in _ _ | exact pm_xor_in _ _ | exact pm_shl_in _ _ | exact pm_cmp_in _ _ | exact pm_b8_in _ | (unfold pm_inI; split <;> omega)) (by first | (unfold pm_inI; omega) | exact pm_and_in _ _ | exact pm_shr_in _ _ | exact pm_or_in _ _ | exact pm_xor_in _ _ | exact pm_shl_in _ _ | exact pm_cmp_in _ _ | exact pm_b8_in _ | (unfold pm_inI; split <;> omega)) (fun h1 => ?_) (fun h1 => ?_)
      · replace h1 : 6 ≤ (k : Int) := h1
        refine g_iload_n lk_214_28 rfl ?_
        refine g_ireturn lk_214_29 (fun h => absurd h (by decide)) ?_
        rw [hQ]
        exact ⟨⟨k, ⟨by rw [show k = 6 by omega]; exact c6, hno⟩, rfl⟩, lay, hF⟩
      · replace h1 : ¬ (6 ≤ (k : Int)) := h1
        omega
    | succ n ih =>
      intro k N hk lay hF hU hno
      have hM : MoAt N T := hM0.mf hF (by decide) (by decide) (by decide) (by decide)
      refine g_iload_n lk_214_7 rfl ?_
      refine g_bipush lk_214_8 ?_
      refine g_icmp (t := 28) lk_214_10 rfl (by first | (unfold pm_inI; omega) | exact pm_and_in _ _ | exact pm_shr_in _ _ | exact pm_or_in _ _ | exact pm_xor_in _ _ | exact pm_shl_in _ _ | exact pm_cmp_in _ _ | exact pm_b8_in _ | (unfold pm_inI; split <;> omega)) (by first | (unfold pm_inI; omega) | exact pm_and_in _ _ | exact pm_shr_in _ _ | exact pm_or_in _ _ | exact pm_xor_in _ _ | exact pm_shl_in _ _ | exact pm_cmp_in _ _ | exact pm_b8_in _ | (unfold pm_inI; split <;> omega)) (fun h1 => ?_) (fun h1 => ?_)
      · replace h1 : 6 ≤ (k : Int) := h1
        omega
      · replace h1 : ¬ (6 ≤ (k : Int)) := h1
        refine g_aload_n lk_214_13 rfl ?_
        refine g_iload_n lk_214_14 rfl ?_
        refine g_iload_n lk_214_15 rfl ?_
        refine g_virtual (p := 116) (Qc := _) lk_214_16 rfl (Nat.le_of_ble_eq_true rfl) rfl rfl (lay.on (by decide) rfl) (Nat.le_of_ble_eq_true rfl) (Nat.le_of_ble_eq_true rfl) (Nat.zero_le _) (Nat.zero_le _) (c_Mo_areEnough (d := d + 1) lay hT hX hM hv hU (mo := k) (by omega)) ?_
        rintro _ N' ⟨⟨b, hb, rfl⟩, l2, f2⟩
        have f3 : MF [134, 135, 136] [38] N N' := f2.mono (fun a q => by simp at q; simp [q]) (fun a q => by cases q)
        rcases hb with ⟨rfl, q⟩ | ⟨rfl, q⟩
        · refine g_if (t := 28) lk_214_19 rfl (by unfold pm_inI; omega) (fun _ => ?_) (fun q => absurd (show ¬ ((1 : Nat) : Int) = 0 by omega) q)
          refine g_iload_n lk_214_28 rfl ?_
          refine g_ireturn lk_214_29 (fun h => absurd h (by decide)) ?_
          rw [hQ]
          exact ⟨⟨k, ⟨q, hno⟩, rfl⟩, l2, hF.trans f3⟩
        · refine g_if (t := 28) lk_214_19 rfl (by unfold pm_inI; omega) (fun q => absurd (show ((0 : Nat) : Int) = 0 by omega) q) (fun _ => ?_)
          refine g_iinc (ls' := [(2, ((116 : Nat) : Int)), (0, (v : Int)), (0, (k : Int) + 1)]) lk_214_22 rfl rfl rfl ?_
          refine g_goto (t := 7) lk_214_25 rfl ?_
          refine ih (k + 1) N' (by omega) l2 (hF.trans f3) (hU.mf f2 (by decide) (by decide) (by decide)) (fun j hj => ?_)
          by_cases e : j = k
          · rw [e]; exact q
          · exact hno j (by omega)
  show Wp (d + 4) 214 0 [(2, ((116 : Nat) : Int)), (0, (v : Int)), (9, 0)] [] M mc ms Q
  refine g_aload_n lk_214_0 rfl ?_
  refine g_iload_n lk_214_1 rfl ?_
  refine g_virtual (p := 116) (Qc := _) lk_214_2 rfl (Nat.le_of_ble_eq_true rfl) rfl rfl (lay0.on (by decide) rfl) (Nat.le_of_ble_eq_true rfl) (Nat.le_of_ble_eq_true rfl) (Nat.zero_le _) (Nat.zero_le _) (c_Mo_layFull (d := d) lay0 hT hM0 hv) ?_
  rintro _ N1 ⟨rfl, lay1, f1, hU1⟩
  show Wp _ 214 5 [(2, ((116 : Nat) : Int)), (0, (v : Int)), (9, 0)] [] N1 _ _ _
  refine g_iconst lk_214_5 ?_
  refine g_istore_n (ls' := [(2, ((116 : Nat) : Int)), (0, (v : Int)), (0, 0)]) lk_214_6 rfl rfl ?_
  exact lp 6 0 N1 rfl lay1 (f1.mono (fun a q => by simp at q; simp; omega) (fun a q => q)) hU1 (fun j hj => absurd hj (Nat.not_lt_zero j))
theorem c_Mo_cover {d mc ms : Nat} {M : pm_M} (lay0 : Lay M) {T : Tab} (hT : TabOK T) (hX : TabX T) (hM0 : MoAt M T) {v : Int} (hv : pm_inI v) :
    pm_E (d + 5) 215 [(2, ((116 : Nat) : Int)), (0, v)] M mc ms (fun ρ M' => ρ = some (0, sCover T v) ∧ Lay M' ∧ MF [134, 135, 136] [0, 38] M M') := by
  have iv := isV_range v
  show Wp (d + 5) 215 0 [(2, ((116 : Nat) : Int)), (0, v)] [] M mc ms _
  refine g_aload_n lk_215_0 rfl ?_
  refine g_iconst lk_215_1 ?_
  have lay1 : Lay (Mu [(116, pm_upd (pm_ct M 116) 0 0)] M) := lay0.muF (l := []) (a := 116) (k := 0) (z := 0) rfl rfl
  refine m_putfield (u := []) (u' := [(116, pm_upd (pm_ct M 116) 0 0)]) (M := M) lk_215_2 rfl (lay0.on (by decide) rfl) (fun h => absurd h (by decide)) rfl ?_
  refine g_iload_n lk_215_5 rfl ?_
  refine g_static (Qc := _) lk_215_6 (by decide) rfl (Nat.le_of_ble_eq_true rfl) rfl rfl (Nat.le_of_ble_eq_true rfl) (Nat.le_of_ble_eq_true rfl) (Nat.zero_le _) (Nat.zero_le _) (c_Mo_isValue (by assumption)) ?_
  rintro _ N2 ⟨rfl, hN2⟩
  rw [hN2]
  show Wp _ 215 9 [(2, ((116 : Nat) : Int)), (0, v)] [(0, (isV v))] (Mu [(116, pm_upd (pm_ct M 116) 0 0)] M) _ _ _
  refine g_if (t := 20) lk_215_9 rfl (by (unfold pm_inI; omega)) (fun h3 => ?_) (fun h3 => ?_)
  · replace h3 : (isV v) = 0 := h3
    refine g_iconst lk_215_20 ?_
    refine g_ireturn lk_215_21 (fun h => absurd h (by decide)) ?_
    refine ⟨?_, lay1, MF.th (by decide) M⟩
    unfold sCover
    rw [if_pos (by omega)]
  · replace h3 : ¬ ((isV v) = 0) := h3
    refine g_aload_n lk_215_12 rfl ?_
    refine g_iload_n lk_215_13 rfl ?_
    obtain ⟨v1, v2⟩ := isV_1 h3
    obtain ⟨u, rfl⟩ := Int.eq_ofNat_of_zero_le v1
    refine g_virtual (p := 116) (Qc := _) lk_215_14 rfl (Nat.le_of_ble_eq_true rfl) rfl rfl (lay1.on (by decide) rfl) (Nat.le_of_ble_eq_true rfl) (Nat.le_of_ble_eq_true rfl) (Nat.zero_le _) (Nat.zero_le _) (c_Mo_coverOf (d := d) lay1 hT hX hM0 (v := u) (by omega)) ?_
    rintro _ N' ⟨⟨n, hn, rfl⟩, lay', hF'⟩
    refine g_goto (t := 21) lk_215_17 rfl ?_
    refine g_ireturn lk_215_21 (fun h => absurd h (by decide)) ⟨?_, lay', (MF.th (by decide) M).trans (hF'.mono (fun a q => q) (fun a q => by simp at q; simp [q]))⟩
    unfold sCover
    rw [if_neg h3, Int.toNat_natCast, ← covN_eq hn]
