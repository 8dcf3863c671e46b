/-! ===== Turns: one change more ===== -/
def GaOK (M : pm_M) (T : Tab) (f : Nat → Nat → Nat) (g : Nat) : Prop := ∀ rs cs, inT T rs cs → pm_ct M g (num T rs cs) = (f rs cs : Int)
/-- areas ahead of one -/
def bef (rs cs a b : Nat) : Prop := a < rs ∨ (a = rs ∧ b < cs)
set_option maxHeartbeats 16000000 in
theorem c_Turns_addTurn {d mc ms : Nat} {M : pm_M} (lay0 : Lay M) {T : Tab} (hT : TabOK T) (hM0 : TbAt M 24 T) {s ga gb na nb k : Nat} (hA0 : CA M T s 1) (oa : own ga) (ob : own gb) (nab : ga ≠ gb) (nsa : s ≠ ga) (nsb : s ≠ gb) (i3 : pm_ct M 47 3 = ((ga : Nat) : Int)) (i4 : pm_ct M 47 4 = ((gb : Nat) : Int)) (ayA0 : pm_ay M ga 100 na) (ayB0 : pm_ay M gb 100 nb) (la : siz T ≤ na) (lb : siz T ≤ nb) (hk : k ≤ 5) (old : 1 ≤ k → GaOK M T (TW T 0 (k - 1)) ga ∧ GaOK M T (TW T 1 (k - 1)) gb) :
    pm_E (d + 2) 117 [(2, ((47 : Nat) : Int)), (0, (k : Int))] M mc ms (fun ρ M' => (∃ b : Nat, ρ = some (0, (b : Int)) ∧ (b = 1 ∨ b = 0 ∧ 1 ≤ k ∧ ∀ w rs cs, w ≤ 1 → inT T rs cs → TW T w k rs cs = TW T w (k - 1) rs cs)) ∧ Lay M' ∧ Fr [44, ga, gb] M M' ∧ (∀ j, j ≠ 3 → pm_ct M' 44 j = pm_ct M 44 j) ∧ GaOK M' T (TW T 0 k) ga ∧ GaOK M' T (TW T 1 k) gb) := by
  obtain ⟨Q, hQ⟩ : ∃ Q : pm_Q, Q = (fun ρ M' => (∃ b : Nat, ρ = some (0, (b : Int)) ∧ (b = 1 ∨ b = 0 ∧ 1 ≤ k ∧ ∀ w rs cs, w ≤ 1 → inT T rs cs → TW T w k rs cs = TW T w (k - 1) rs cs)) ∧ Lay M' ∧ Fr [44, ga, gb] M M' ∧ (∀ j, j ≠ 3 → pm_ct M' 44 j = pm_ct M 44 j) ∧ GaOK M' T (TW T 0 k) ga ∧ GaOK M' T (TW T 1 k) gb) := ⟨_, rfl⟩
  rw [← hQ]
  have ht : (24 : Nat) = 4 ∨ (24 : Nat) = 24 := Or.inr rfl
  have hR6 := tR_64 hT
  have hC6 := tC_64 hT
  have pR : 1 ≤ 2 ^ tR T := Nat.one_le_two_pow
  have pC : 1 ≤ 2 ^ tC T := Nat.one_le_two_pow
  have z4 := siz_le hT
  have ca := hT.2.2.2.1
  have cb := hT.2.2.2.2
  have frA := own_fre oa
  have frB := own_fre ob
  have nn : ∀ a, (a == 45 || a == 49 || a == 50 || a == 53 || a == 99 || a == 105 || a == 111 || Nat.ble 157 a) = false → a ≠ 44 → a ∉ [44, ga, gb] := fun a h1 h2 q => by
    simp at q
    rcases q with q | q | q
    · exact h2 q
    · exact own_ne oa h1 q
    · exact own_ne ob h1 q
  have a44 : (44 : Nat) ≠ ga := own_ne oa rfl
  have b44 : (44 : Nat) ≠ gb := own_ne ob rfl
  have sN : s ∉ [44, ga, gb] := fun q => by
    simp at q
    rcases q with q | q | q
    · exact own_ne hA0.1 (a := 44) rfl q.symm
    · exact nsa q
    · exact nsb q
  have s44 : s ∉ [44] := fun q => sN (by simp at q; simp [q])
  have m44 : ∀ {A B : pm_M}, Fr [44] A B → Fr [44, ga, gb] A B := fun h => h.mono (fun a q => by simp at q; simp [q])
  have gUp : ∀ {K A : pm_M} {f : Nat → Int}, pm_ct K 47 4 = ((gb : Nat) : Int) → A = pm_up K ga f → pm_ct A 47 4 = ((gb : Nat) : Int) := fun h e => by rw [e, pm_ct_ne (own_ne oa (a := 47) rfl)]; exact h
  have gAy : ∀ {K A : pm_M} {f : Nat → Int} {g n : Nat}, pm_ay K g 100 n → A = pm_up K ga f → pm_ay A g 100 n := fun h e => by rw [e]; exact pm_ay_up.mpr h
  -- the tables while one goes over the areas: done ones, and those of old
  obtain ⟨St, hSt⟩ : ∃ St : pm_M → Nat → Nat → Nat → Prop, St = fun N c rs cs => Lay N ∧ Fr [44, ga, gb] M N ∧ (∀ j, j ≠ 3 → pm_ct N 44 j = pm_ct M 44 j) ∧ (∀ a b, inT T a b → bef rs cs a b → pm_ct N ga (num T a b) = (TW T 0 k a b : Int) ∧ pm_ct N gb (num T a b) = (TW T 1 k a b : Int)) ∧ (1 ≤ k → ∀ a b, inT T a b → ¬ bef rs cs a b → pm_ct N ga (num T a b) = (TW T 0 (k - 1) a b : Int) ∧ pm_ct N gb (num T a b) = (TW T 1 (k - 1) a b : Int)) ∧ (c = 1 ∨ c = 0 ∧ 1 ≤ k ∧ ∀ w a b, w ≤ 1 → inT T a b → bef rs cs a b → TW T w k a b = TW T w (k - 1) a b) := ⟨_, rfl⟩
  have rows : ∀ (n i c : Nat) (v6 v7 v8 v9 v10 : pm_V) (N : pm_M), i + n = 2 ^ tR T - 1 → St N c (i + 1) 1 → Wp (d + 2) 117 30 [(2, ((47 : Nat) : Int)), (0, (k : Int)), (0, (c : Int)), (0, ((2 ^ tR T - 1 : Nat) : Int)), (0, ((2 ^ tC T - 1 : Nat) : Int)), (0, ((i + 1 : Nat) : Int)), v6, v7, v8, v9, v10] [] N mc ms Q := by
    intro n
    induction n with
    | zero =>
      intro i c v6 v7 v8 v9 v10 N hi hst
      rw [hSt] at hst
      obtain ⟨lay, hF, h44, hd, -, hcc⟩ := hst
      have all : ∀ a b, inT T a b → bef (i + 1) 1 a b := fun a b h => Or.inl (by have := h.2.1; omega)
      refine g_iload lk_117_30 rfl ?_
      refine g_iload_n lk_117_32 rfl ?_
      refine g_icmp (t := 250) lk_117_33 rfl (by first | (unfold pm_inI; omega) | exact pm_and_in _ _ | exact pm_shr_in _ _ | exact pm_or_in _ _ | exact pm_xor_in _ _ | exact pm_shl_in _ _ | exact pm_cmp_in _ _ | exact pm_b8_in _ | (unfold pm_inI; split <;> omega)) (by first | (unfold pm_inI; omega) | exact pm_and_in _ _ | exact pm_shr_in _ _ | exact pm_or_in _ _ | exact pm_xor_in _ _ | exact pm_shl_in _ _ | exact pm_cmp_in _ _ | exact pm_b8_in _ | (unfold pm_inI; split <;> omega)) (fun h1 => ?_) (fun h1 => ?_)
      · replace h1 : ((2 ^ tR T - 1 : Nat) : Int) < ((i + 1 : Nat) : Int) := h1
        refine g_iload_n lk_117_250 rfl ?_
        refine g_ireturn lk_117_251 (fun _ => by omega) ?_
        rw [hQ]
        refine ⟨⟨c, rfl, ?_⟩, lay, hF, h44, fun a b h => (hd a b h (all a b h)).1, fun a b h => (hd a b h (all a b h)).2⟩
        rcases hcc with q | ⟨q1, q2, q3⟩
        · exact Or.inl q
        · exact Or.inr ⟨q1, q2, fun w a b hw h => q3 w a b hw h (all a b h)⟩
      · replace h1 : ¬ (((2 ^ tR T - 1 : Nat) : Int) < ((i + 1 : Nat) : Int)) := h1
        omega
    | succ n ih =>
      intro i c v6 v7 v8 v9 v10 N hi hst
      obtain ⟨rs, hrs⟩ : ∃ rs, rs = i + 1 := ⟨_, rfl⟩
      have inner : ∀ (m j c : Nat) (v7 v8 v9 v10 : pm_V) (N : pm_M), j + m = 2 ^ tC T - 1 → St N c rs (j + 1) → Wp (d + 2) 117 39 [(2, ((47 : Nat) : Int)), (0, (k : Int)), (0, (c : Int)), (0, ((2 ^ tR T - 1 : Nat) : Int)), (0, ((2 ^ tC T - 1 : Nat) : Int)), (0, (rs : Int)), (0, ((j + 1 : Nat) : Int)), v7, v8, v9, v10] [] N mc ms Q := by
        intro m
        induction m with
        | zero =>
          intro j c v7 v8 v9 v10 N hj hst
          have hst2 : St N c (i + 1 + 1) 1 := by
            rw [hSt] at hst ⊢
            obtain ⟨lay, hF, h44, hd, ho, hcc⟩ := hst
            have iff : ∀ a b, inT T a b → (bef (i + 1 + 1) 1 a b ↔ bef rs (j + 1) a b) := fun a b h => by
              have h1 := h.2.2.1
              have h2 := h.2.2.2
              unfold bef
              constructor
              · rintro (q | q)
                · by_cases e : a = rs
                  · exact Or.inr ⟨e, by omega⟩
                  · exact Or.inl (by omega)
                · omega
              · rintro (q | q)
                · exact Or.inl (by omega)
                · exact Or.inl (by omega)
            refine ⟨lay, hF, h44, fun a b h q => hd a b h ((iff a b h).mp q), fun k1 a b h q => ho k1 a b h (fun z => q ((iff a b h).mpr z)), ?_⟩
            rcases hcc with q | ⟨q1, q2, q3⟩
            · exact Or.inl q
            · exact Or.inr ⟨q1, q2, fun w a b hw h z => q3 w a b hw h ((iff a b h).mp z)⟩
          have := fun v6 v7 v8 v9 v10 => ih (i + 1) c v6 v7 v8 v9 v10 N (by omega) hst2
          rw [← hrs] at this
          have lay : Lay N := by rw [hSt] at hst; exact hst.1
          refine g_iload lk_117_39 rfl ?_
          refine g_iload lk_117_41 rfl ?_
          refine g_icmp (t := 244) lk_117_43 rfl (by first | (unfold pm_inI; omega) | exact pm_and_in _ _ | exact pm_shr_in _ _ | exact pm_or_in _ _ | exact pm_xor_in _ _ | exact pm_shl_in _ _ | exact pm_cmp_in _ _ | exact pm_b8_in _ | (unfold pm_inI; split <;> omega)) (by first | (unfold pm_inI; omega) | exact pm_and_in _ _ | exact pm_shr_in _ _ | exact pm_or_in _ _ | exact pm_xor_in _ _ | exact pm_shl_in _ _ | exact pm_cmp_in _ _ | exact pm_b8_in _ | (unfold pm_inI; split <;> omega)) (fun h1 => ?_) (fun h1 => ?_)
          · replace h1 : ((2 ^ tC T - 1 : Nat) : Int) < ((j + 1 : Nat) : Int) := h1
            refine g_iinc (ls' := [(2, ((47 : Nat) : Int)), (0, (k : Int)), (0, (c : Int)), (0, ((2 ^ tR T - 1 : Nat) : Int)), (0, ((2 ^ tC T - 1 : Nat) : Int)), (0, ((rs : Int) + 1)), (0, ((j + 1 : Nat) : Int)), v7, v8, v9, v10]) lk_117_244 rfl rfl rfl ?_
            refine g_goto (t := 30) lk_117_247 rfl ?_
            exact this _ _ _ _ _
          · replace h1 : ¬ (((2 ^ tC T - 1 : Nat) : Int) < ((j + 1 : Nat) : Int)) := h1
            omega
        | succ m ihm =>
          intro j c v7 v8 v9 v10 N hj hst
          obtain ⟨cs, hcs⟩ : ∃ cs, cs = j + 1 := ⟨_, rfl⟩
          rw [← hcs] at hst ⊢
          have hst0 := hst
          rw [hSt] at hst
          obtain ⟨lay, hF, h44, hd, ho, hcc⟩ := hst
          have c1 : c ≤ 1 := by rcases hcc with q | q <;> omega
          have hin : inT T rs cs := ⟨by omega, by omega, by omega, by omega⟩
          have r64 : rs < 64 := by omega
          have c64 : cs < 64 := by omega
          have hM : TbAt N 24 T := hM0.fr hF (nn 24 rfl (by decide)) (nn 25 rfl (by decide))
          have hA : CA N T s 1 := hA0.fr hF.gr (h44 1 (by decide)) (h44 2 (by decide)) sN
          have e47 := hF.ct (nn 47 rfl (by decide))
          have e3 : pm_ct N 47 3 = ((ga : Nat) : Int) := by rw [e47]; exact i3
          have e4 : pm_ct N 47 4 = ((gb : Nat) : Int) := by rw [e47]; exact i4
          have ayA := hF.ay ayA0
          have ayB := hF.ay ayB0
          have nl := num_lt (T := T) hin.2.1 hin.2.2.2
          have sC := shlC hT r64
          obtain ⟨fx, hfx⟩ : ∃ fx, fx = rs * 2 ^ tC T := ⟨_, rfl⟩
          rw [← hfx] at sC
          have spA := c_Areas_split (d := d) (mc := 0) (ms := 0) lay oa ayA r64 (by omega : rs ≠ 0) (sh := tC T) (fx := cs) (ix := fun q => num T q cs) (g := fun q => TW T 0 k q cs) (fun q hq => ⟨num_eq hT (by have := Sb_le hq; omega) hin.2.2.2, Nat.lt_of_lt_of_le (num_lt (by have := Sb_le hq; omega) hin.2.2.2) la⟩) (fun q _ a b => ⟨(hd q cs ⟨a, by omega, hin.2.2.1, hin.2.2.2⟩ (Or.inl b)).1, by have := TW_far T 0 k (by omega : q < 64) c64 a hin.2.2.1; omega⟩) (b := 0) (by decide)
          obtain ⟨xA, hxA⟩ : ∃ x, x = spl 0 (fun q => TW T 0 k q cs) rs := ⟨_, rfl⟩
          obtain ⟨xB, hxB⟩ : ∃ x, x = spl 0 (fun q => TW T 1 k rs q) cs := ⟨_, rfl⟩
          have fA := spl_far 0 (fun q => TW T 0 k q cs) rs
          have fB := spl_far 0 (fun q => TW T 1 k rs q) cs
          rw [← hxA] at spA fA
          rw [← hxB] at fB
          have oA : OV T 0 k rs cs = min 1000000 (tA T + xA) := by rw [hxA]; rfl
          have oB : OV T 1 k rs cs = min 1000000 (tB T + xB) := by rw [hxB]; rfl
          -- both tables have got this area
          have next : ∀ (K A B : pm_M) (zA zB : Int) (c' : Nat) (v7 v8 v9 v10 : pm_V), A = pm_up K ga (pm_upd (pm_ct K ga) (num T rs cs) zA) → B = pm_up A gb (pm_upd (pm_ct A gb) (num T rs cs) zB) → Lay B → Fr [44] N K → (∀ j, j ≠ 3 → pm_ct K 44 j = pm_ct N 44 j) → zA = (TW T 0 k rs cs : Int) → zB = (TW T 1 k rs cs : Int) → (c' = 1 ∨ c' = 0 ∧ 1 ≤ k ∧ c = 0 ∧ TW T 0 k rs cs = TW T 0 (k - 1) rs cs ∧ TW T 1 k rs cs = TW T 1 (k - 1) rs cs) → Wp (d + 2) 117 39 [(2, ((47 : Nat) : Int)), (0, (k : Int)), (0, (c' : Int)), (0, ((2 ^ tR T - 1 : Nat) : Int)), (0, ((2 ^ tC T - 1 : Nat) : Int)), (0, (rs : Int)), (0, ((cs + 1 : Nat) : Int)), v7, v8, v9, v10] [] B mc ms Q := by
            intro K A B zA zB c' v7 v8 v9 v10 hA' hB' layB fK kK eA eB hc'
            have := ihm (j + 1) c' v7 v8 v9 v10 B (by omega) ?_
            · rw [← hcs] at this; exact this
            rw [← hcs, hSt]
            have gaK : pm_ct K ga = pm_ct N ga := fK.ct (fun q => a44 (List.mem_singleton.mp q).symm)
            have gbK : pm_ct K gb = pm_ct N gb := fK.ct (fun q => b44 (List.mem_singleton.mp q).symm)
            have gaB : pm_ct B ga = pm_upd (pm_ct N ga) (num T rs cs) zA := by rw [hB', pm_ct_ne nab, up_ct hA', gaK]
            have gbB : pm_ct B gb = pm_upd (pm_ct N gb) (num T rs cs) zB := by rw [up_ct hB', hA', pm_ct_ne nab.symm, gbK]
            have fAB : Fr [44, ga, gb] K B := (Fr.up (S := [44, ga, gb]) (by simp) hA').trans (Fr.up (by simp) hB')
            have iff : ∀ a b, (bef rs (cs + 1) a b ↔ (bef rs cs a b ∨ (a = rs ∧ b = cs))) := fun a b => by unfold bef; omega
            refine ⟨layB, (hF.trans (m44 fK)).trans fAB, fun j hj => ?_, fun a b h q => ?_, fun k1 a b h q => ?_, ?_⟩
            · rw [hB', pm_ct_ne b44, hA', pm_ct_ne a44, kK j hj]; exact h44 j hj
            · rw [gaB, gbB]
              rcases (iff a b).mp q with e | ⟨e, e'⟩
              · rw [pm_upd_ne (fun z => by have := num_inj (T := T) h.2.2.2 hin.2.2.2 z; unfold bef at e; omega), pm_upd_ne (fun z => by have := num_inj (T := T) h.2.2.2 hin.2.2.2 z; unfold bef at e; omega)]
                exact hd a b h e
              · rw [e, e', pm_upd_eq, pm_upd_eq]; exact ⟨eA, eB⟩
            · have hne : num T a b ≠ num T rs cs := fun z => q ((iff a b).mpr (Or.inr (num_inj (T := T) h.2.2.2 hin.2.2.2 z)))
              rw [gaB, gbB, pm_upd_ne hne, pm_upd_ne hne]
              exact ho k1 a b h (fun z => q ((iff a b).mpr (Or.inl z)))
            · rcases hc' with e | ⟨e1, e2, e3, e4, e5⟩
              · exact Or.inl e
              · refine Or.inr ⟨e1, e2, fun w a b hw h q => ?_⟩
                rcases (iff a b).mp q with z | ⟨z, z'⟩
                · rcases hcc with y | ⟨_, _, y⟩
                  · omega
                  · exact y w a b hw h z
                · rw [z, z']
                  rcases (by omega : w = 0 ∨ w = 1) with y | y
                  · rw [y]; exact e4
                  · rw [y]; exact e5
          rcases Nat.eq_zero_or_pos k with hk0 | hk0
          · have tA0 : TW T 0 k rs cs = if pop (vIn T rs cs) < 2 then 0 else OV T 0 k rs cs := by rw [hk0]; exact TW_0 T 0 r64 c64 hin.1 hin.2.2.1
            have tB0 : TW T 1 k rs cs = if pop (vIn T rs cs) < 2 then 0 else OV T 1 k rs cs := by rw [hk0]; exact TW_0 T 1 r64 c64 hin.1 hin.2.2.1
            rw [oA] at tA0
            rw [oB] at tB0
            have kz : (k : Int) = 0 := by omega
            rw [kz] at next ⊢
            refine g_iload lk_117_39 rfl ?_
            refine g_iload lk_117_41 rfl ?_
            refine g_icmp (t := 244) lk_117_43 rfl (by first | (unfold pm_inI; omega) | exact pm_and_in _ _ | exact pm_shr_in _ _ | exact pm_or_in _ _ | exact pm_xor_in _ _ | exact pm_shl_in _ _ | exact pm_cmp_in _ _ | exact pm_b8_in _ | (unfold pm_inI; split <;> omega)) (by first | (unfold pm_inI; omega) | exact pm_and_in _ _ | exact pm_shr_in _ _ | exact pm_or_in _ _ | exact pm_xor_in _ _ | exact pm_shl_in _ _ | exact pm_cmp_in _ _ | exact pm_b8_in _ | (unfold pm_inI; split <;> omega)) (fun h1 => ?_) (fun h1 => ?_)
            · replace h1 : ((2 ^ tC T - 1 : Nat) : Int) < (cs : Int) := h1
              refine g_iinc (ls' := [(2, ((47 : Nat) : Int)), (0, 0), (0, (c : Int)), (0, ((2 ^ tR T - 1 : Nat) : Int)), (0, ((2 ^ tC T - 1 : Nat) : Int)), (0, ((rs : Int) + 1)), (0, (cs : Int)), v7, v8, v9, v10]) lk_117_244 rfl rfl rfl ?_
              refine g_goto (t := 30) lk_117_247 rfl ?_
              omega
            · replace h1 : ¬ (((2 ^ tC T - 1 : Nat) : Int) < (cs : Int)) := h1
              refine g_aload_n lk_117_46 rfl ?_
              refine g_getfield lk_117_47 rfl (lay.on (by decide) rfl) (v := ((44 : Nat) : Int)) (lay.rf rfl) ?_
              refine g_iload lk_117_50 rfl ?_
              refine g_iload lk_117_52 rfl ?_
              refine g_virtual (p := 44) (Qc := _) lk_117_54 rfl (Nat.le_of_ble_eq_true rfl) rfl rfl (lay.on (by decide) rfl) (Nat.le_of_ble_eq_true rfl) (Nat.le_of_ble_eq_true rfl) (Nat.zero_le _) (Nat.zero_le _) (c_Areas_numberOf lay hT hM (by omega) (by omega)) ?_
              rintro _ N2 ⟨rfl, hN2⟩
              rw [hN2]
              show Wp _ 117 57 [(2, ((47 : Nat) : Int)), (0, 0), (0, (c : Int)), (0, ((2 ^ tR T - 1 : Nat) : Int)), (0, ((2 ^ tC T - 1 : Nat) : Int)), (0, (rs : Int)), (0, (cs : Int)), v7, v8, v9, v10] [(0, (num T rs cs : Int))] N _ _ _
              refine g_istore (ls' := [(2, ((47 : Nat) : Int)), (0, 0), (0, (c : Int)), (0, ((2 ^ tR T - 1 : Nat) : Int)), (0, ((2 ^ tC T - 1 : Nat) : Int)), (0, (rs : Int)), (0, (cs : Int)), (0, (num T rs cs : Int)), v8, v9, v10]) lk_117_57 rfl rfl ?_
              refine g_iconst lk_117_59 ?_
              refine g_istore (ls' := [(2, ((47 : Nat) : Int)), (0, 0), (0, (c : Int)), (0, ((2 ^ tR T - 1 : Nat) : Int)), (0, ((2 ^ tC T - 1 : Nat) : Int)), (0, (rs : Int)), (0, (cs : Int)), (0, (num T rs cs : Int)), (0, 0), v9, v10]) lk_117_60 rfl rfl ?_
              refine g_iconst lk_117_62 ?_
              refine g_istore (ls' := [(2, ((47 : Nat) : Int)), (0, 0), (0, (c : Int)), (0, ((2 ^ tR T - 1 : Nat) : Int)), (0, ((2 ^ tC T - 1 : Nat) : Int)), (0, (rs : Int)), (0, (cs : Int)), (0, (num T rs cs : Int)), (0, 0), (0, 0), v10]) lk_117_63 rfl rfl ?_
              refine g_aload_n lk_117_65 rfl ?_
              refine g_getfield lk_117_66 rfl (lay.on (by decide) rfl) (v := ((44 : Nat) : Int)) (lay.rf rfl) ?_
              refine g_iload lk_117_69 rfl ?_
              refine g_virtual (p := 44) (Qc := _) lk_117_71 rfl (Nat.le_of_ble_eq_true rfl) rfl rfl (lay.on (by decide) rfl) (Nat.le_of_ble_eq_true rfl) (Nat.le_of_ble_eq_true rfl) (Nat.zero_le _) (Nat.zero_le _) (c_Areas_isOneValue lay hT hA hin.1 hin.2.1 hin.2.2.1 hin.2.2.2) ?_
              rintro _ N3 ⟨rfl, hN3⟩
              rw [hN3]
              show Wp _ 117 74 [(2, ((47 : Nat) : Int)), (0, 0), (0, (c : Int)), (0, ((2 ^ tR T - 1 : Nat) : Int)), (0, ((2 ^ tC T - 1 : Nat) : Int)), (0, (rs : Int)), (0, (cs : Int)), (0, (num T rs cs : Int)), (0, 0), (0, 0), v10] [(0, (if pop (vIn T rs cs) < 2 then (1 : Int) else 0))] N _ _ _
              refine g_if (t := 155) lk_117_74 rfl (by first | (unfold pm_inI; omega) | exact pm_and_in _ _ | exact pm_shr_in _ _ | exact pm_or_in _ _ | exact pm_xor_in _ _ | exact pm_shl_in _ _ | exact pm_cmp_in _ _ | exact pm_b8_in _ | (unfold pm_inI; split <;> omega)) (fun h4 => ?_) (fun h4 => ?_)
              · replace h4 : ¬ (if pop (vIn T rs cs) < 2 then (1 : Int) else 0) = 0 := h4
                refine g_iload_n lk_117_155 rfl ?_
                refine g_if (t := 220) lk_117_156 rfl (by first | (unfold pm_inI; omega) | exact pm_and_in _ _ | exact pm_shr_in _ _ | exact pm_or_in _ _ | exact pm_xor_in _ _ | exact pm_shl_in _ _ | exact pm_cmp_in _ _ | exact pm_b8_in _ | (unfold pm_inI; split <;> omega)) (fun _ => ?_) (fun h => absurd (show (0 : Int) ≤ (0 : Int) by omega) h)
                refine g_aload_n lk_117_220 rfl ?_
                refine m_getfield (u := []) (M := N) lk_117_221 rfl (lay.on (by decide) rfl) (v := ((ga : Nat) : Int)) (by first | exact e3K | exact e3K1 | exact e3) ?_
                refine g_iload lk_117_224 rfl ?_
                refine g_iload lk_117_226 rfl ?_
                refine s_iastore (M := N) lk_117_228 (by first | exact ayAK | exact ayA) (by omega) (j := (num T rs cs)) (by omega) (fun N5 hN5 => ?_)
                have lay5 : Lay N5 := (by rw [hN5]; exact lay.upA frA)
                refine g_aload_n lk_117_229 rfl ?_
                refine m_getfield (u := []) (M := N5) lk_117_230 rfl (lay5.on (by decide) rfl) (v := ((gb : Nat) : Int)) (by first | exact e4K | exact e4K1 | exact e4 | exact gUp e4K hN5 | exact gUp e4 hN5) ?_
                refine g_iload lk_117_233 rfl ?_
                refine g_iload lk_117_235 rfl ?_
                refine s_iastore (M := N5) lk_117_237 (by first | exact ayBK | exact ayB | exact gAy ayBK hN5 | exact gAy ayB hN5) (by omega) (j := (num T rs cs)) (by omega) (fun N6 hN6 => ?_)
                have lay6 : Lay N6 := (by rw [hN6]; exact lay5.upA frB)
                refine g_iinc (ls' := [(2, ((47 : Nat) : Int)), (0, 0), (0, (c : Int)), (0, ((2 ^ tR T - 1 : Nat) : Int)), (0, ((2 ^ tC T - 1 : Nat) : Int)), (0, (rs : Int)), (0, ((cs : Int) + 1)), (0, (num T rs cs : Int)), (0, 0), (0, 0), v10]) lk_117_238 rfl rfl rfl ?_
                refine g_goto (t := 39) lk_117_241 rfl ?_
                have al : pop (vIn T rs cs) < 2 := Classical.byContradiction (fun q => h4 (by rw [if_neg q]))
                rw [if_pos al] at tA0 tB0
                exact next N N5 N6 _ _ c _ _ _ _ hN5 hN6 lay6 (Fr.refl _ _) (fun _ _ => rfl) (by rw [tA0]; rfl) (by rw [tB0]; rfl) (by rcases hcc with q | q; exact Or.inl q; omega)
              · replace h4 : ¬ (¬ (if pop (vIn T rs cs) < 2 then (1 : Int) else 0) = 0) := h4
                refine g_ldc lk_117_77 ?_
                refine g_aload_n lk_117_79 rfl ?_
                refine g_getfield lk_117_80 rfl (lay.on (by decide) rfl) (v := ((24 : Nat) : Int)) (lay.rf rfl) ?_
                refine m_getfield (u := []) (M := N) lk_117_83 rfl (lay.on (by decide) rfl) (v := (tA T : Int)) hM.2.2.1 ?_
                refine g_aload_n lk_117_86 rfl ?_
                refine g_getfield lk_117_87 rfl (lay.on (by decide) rfl) (v := ((44 : Nat) : Int)) (lay.rf rfl) ?_
                refine g_aload_n lk_117_90 rfl ?_
                refine m_getfield (u := []) (M := N) lk_117_91 rfl (lay.on (by decide) rfl) (v := ((ga : Nat) : Int)) (by first | exact e3K | exact e3K1 | exact e3) ?_
                refine g_iload lk_117_94 rfl ?_
                refine g_aload_n lk_117_96 rfl ?_
                refine g_getfield lk_117_97 rfl (lay.on (by decide) rfl) (v := ((24 : Nat) : Int)) (lay.rf rfl) ?_
                refine m_getfield (u := []) (M := N) lk_117_100 rfl (lay.on (by decide) rfl) (v := (tC T : Int)) hM.2.1 ?_
                refine g_iload lk_117_103 rfl ?_
                refine g_iconst lk_117_105 ?_
                refine g_virtual (p := 44) (Qc := _) lk_117_106 rfl (Nat.le_of_ble_eq_true rfl) rfl rfl (lay.on (by decide) rfl) (Nat.le_of_ble_eq_true rfl) (Nat.le_of_ble_eq_true rfl) (Nat.zero_le _) (Nat.zero_le _) (spA) ?_
                rintro _ K1 ⟨rfl, lay1, pk1, f1, f1k, -, -⟩
                have hM1 : TbAt K1 24 T := hM.fr f1 (by decide) (by decide)
                have e3K1 : pm_ct K1 47 3 = ((ga : Nat) : Int) := (by rw [f1.ct (by decide)]; exact e3)
                have e4K1 : pm_ct K1 47 4 = ((gb : Nat) : Int) := (by rw [f1.ct (by decide)]; exact e4)
                have spB := c_Areas_split (d := d) (mc := 0) (ms := 0) lay1 ob (f1.ay ayB) c64 (by omega : cs ≠ 0) (sh := 0) (fx := rs * 2 ^ tC T) (ix := fun q => num T rs q) (g := fun q => TW T 1 k rs q) (fun q hq => ⟨numB_eq hT r64 (by have := Sb_le hq; omega), Nat.lt_of_lt_of_le (num_lt hin.2.1 (by have := Sb_le hq; omega)) lb⟩) (fun q _ a b => ⟨(by rw [f1.ct (fun q => b44 (List.mem_singleton.mp q).symm)]; exact (hd rs q ⟨hin.1, hin.2.1, a, by omega⟩ (Or.inr ⟨rfl, b⟩)).2), by have := TW_far T 1 k r64 (by omega : q < 64) hin.1 a; omega⟩) (b := 0) (by decide)
                rw [← hxB, ← hfx] at spB
                show Wp _ 117 109 [(2, ((47 : Nat) : Int)), (0, 0), (0, (c : Int)), (0, ((2 ^ tR T - 1 : Nat) : Int)), (0, ((2 ^ tC T - 1 : Nat) : Int)), (0, (rs : Int)), (0, (cs : Int)), (0, (num T rs cs : Int)), (0, 0), (0, 0), v10] [(0, (xA : Int)), (0, (tA T : Int)), (0, 1000000)] K1 _ _ _
                refine g_iadd lk_117_109 ?_
                refine g_mmin lk_117_110 (by first | (unfold pm_inI; omega) | exact pm_and_in _ _ | exact pm_shr_in _ _ | exact pm_or_in _ _ | exact pm_xor_in _ _ | exact pm_shl_in _ _ | exact pm_cmp_in _ _ | exact pm_b8_in _ | (unfold pm_inI; split <;> omega)) (by first | (unfold pm_inI; omega) | exact pm_and_in _ _ | exact pm_shr_in _ _ | exact pm_or_in _ _ | exact pm_xor_in _ _ | exact pm_shl_in _ _ | exact pm_cmp_in _ _ | exact pm_b8_in _ | (unfold pm_inI; split <;> omega)) (Nat.le_of_ble_eq_true rfl) ?_
                refine g_istore (ls' := [(2, ((47 : Nat) : Int)), (0, 0), (0, (c : Int)), (0, ((2 ^ tR T - 1 : Nat) : Int)), (0, ((2 ^ tC T - 1 : Nat) : Int)), (0, (rs : Int)), (0, (cs : Int)), (0, (num T rs cs : Int)), (0, (min 1000000 ((tA T : Int) + (xA : Int)))), (0, 0), v10]) lk_117_113 rfl rfl ?_
                refine g_ldc lk_117_115 ?_
                refine g_aload_n lk_117_117 rfl ?_
                refine g_getfield lk_117_118 rfl (lay1.on (by decide) rfl) (v := ((24 : Nat) : Int)) (lay1.rf rfl) ?_
                refine m_getfield (u := []) (M := K1) lk_117_121 rfl (lay1.on (by decide) rfl) (v := (tB T : Int)) hM1.2.2.2.1 ?_
                refine g_aload_n lk_117_124 rfl ?_
                refine g_getfield lk_117_125 rfl (lay1.on (by decide) rfl) (v := ((44 : Nat) : Int)) (lay1.rf rfl) ?_
                refine g_aload_n lk_117_128 rfl ?_
                refine m_getfield (u := []) (M := K1) lk_117_129 rfl (lay1.on (by decide) rfl) (v := ((gb : Nat) : Int)) (by first | exact e4K | exact e4K1 | exact e4 | exact gUp e4K hK1 | exact gUp e4 hK1) ?_
                refine g_iload lk_117_132 rfl ?_
                refine g_iconst lk_117_134 ?_
                refine g_iload lk_117_135 rfl ?_
                refine g_aload_n lk_117_137 rfl ?_
                refine g_getfield lk_117_138 rfl (lay1.on (by decide) rfl) (v := ((24 : Nat) : Int)) (lay1.rf rfl) ?_
                refine m_getfield (u := []) (M := K1) lk_117_141 rfl (lay1.on (by decide) rfl) (v := (tC T : Int)) hM1.2.1 ?_
                refine g_ishl lk_117_144 ?_
                refine g_top (z := (pm_shl (rs : Int) (tC T : Int))) (z' := (fx : Int)) (sC) ?_
                refine g_iconst lk_117_145 ?_
                refine g_virtual (p := 44) (Qc := _) lk_117_146 rfl (Nat.le_of_ble_eq_true rfl) rfl rfl (lay1.on (by decide) rfl) (Nat.le_of_ble_eq_true rfl) (Nat.le_of_ble_eq_true rfl) (Nat.zero_le _) (Nat.zero_le _) (spB) ?_
                rintro _ K2 ⟨rfl, lay2, pk2, f2, f2k, -, -⟩
                have e3K : pm_ct K2 47 3 = ((ga : Nat) : Int) := (by rw [f2.ct (by decide)]; exact e3K1)
                have e4K : pm_ct K2 47 4 = ((gb : Nat) : Int) := (by rw [f2.ct (by decide)]; exact e4K1)
                have ayAK := f2.ay (f1.ay ayA)
                have ayBK := f2.ay (f1.ay ayB)
                show Wp _ 117 149 [(2, ((47 : Nat) : Int)), (0, 0), (0, (c : Int)), (0, ((2 ^ tR T - 1 : Nat) : Int)), (0, ((2 ^ tC T - 1 : Nat) : Int)), (0, (rs : Int)), (0, (cs : Int)), (0, (num T rs cs : Int)), (0, (min 1000000 ((tA T : Int) + (xA : Int)))), (0, 0), v10] [(0, (xB : Int)), (0, (tB T : Int)), (0, 1000000)] K2 _ _ _
                refine g_iadd lk_117_149 ?_
                refine g_mmin lk_117_150 (by first | (unfold pm_inI; omega) | exact pm_and_in _ _ | exact pm_shr_in _ _ | exact pm_or_in _ _ | exact pm_xor_in _ _ | exact pm_shl_in _ _ | exact pm_cmp_in _ _ | exact pm_b8_in _ | (unfold pm_inI; split <;> omega)) (by first | (unfold pm_inI; omega) | exact pm_and_in _ _ | exact pm_shr_in _ _ | exact pm_or_in _ _ | exact pm_xor_in _ _ | exact pm_shl_in _ _ | exact pm_cmp_in _ _ | exact pm_b8_in _ | (unfold pm_inI; split <;> omega)) (Nat.le_of_ble_eq_true rfl) ?_
                refine g_istore (ls' := [(2, ((47 : Nat) : Int)), (0, 0), (0, (c : Int)), (0, ((2 ^ tR T - 1 : Nat) : Int)), (0, ((2 ^ tC T - 1 : Nat) : Int)), (0, (rs : Int)), (0, (cs : Int)), (0, (num T rs cs : Int)), (0, (min 1000000 ((tA T : Int) + (xA : Int)))), (0, (min 1000000 ((tB T : Int) + (xB : Int)))), v10]) lk_117_153 rfl rfl ?_
                refine g_iload_n lk_117_155 rfl ?_
                refine g_if (t := 220) lk_117_156 rfl (by first | (unfold pm_inI; omega) | exact pm_and_in _ _ | exact pm_shr_in _ _ | exact pm_or_in _ _ | exact pm_xor_in _ _ | exact pm_shl_in _ _ | exact pm_cmp_in _ _ | exact pm_b8_in _ | (unfold pm_inI; split <;> omega)) (fun _ => ?_) (fun h => absurd (show (0 : Int) ≤ (0 : Int) by omega) h)
                refine g_aload_n lk_117_220 rfl ?_
                refine m_getfield (u := []) (M := K2) lk_117_221 rfl (lay2.on (by decide) rfl) (v := ((ga : Nat) : Int)) (by first | exact e3K | exact e3K1 | exact e3) ?_
                refine g_iload lk_117_224 rfl ?_
                refine g_iload lk_117_226 rfl ?_
                refine s_iastore (M := K2) lk_117_228 (by first | exact ayAK | exact ayA) (by omega) (j := (num T rs cs)) (by omega) (fun N7 hN7 => ?_)
                have lay7 : Lay N7 := (by rw [hN7]; exact lay2.upA frA)
                refine g_aload_n lk_117_229 rfl ?_
                refine m_getfield (u := []) (M := N7) lk_117_230 rfl (lay7.on (by decide) rfl) (v := ((gb : Nat) : Int)) (by first | exact e4K | exact e4K1 | exact e4 | exact gUp e4K hN7 | exact gUp e4 hN7) ?_
                refine g_iload lk_117_233 rfl ?_
                refine g_iload lk_117_235 rfl ?_
                refine s_iastore (M := N7) lk_117_237 (by first | exact ayBK | exact ayB | exact gAy ayBK hN7 | exact gAy ayB hN7) (by omega) (j := (num T rs cs)) (by omega) (fun N8 hN8 => ?_)
                have lay8 : Lay N8 := (by rw [hN8]; exact lay7.upA frB)
                refine g_iinc (ls' := [(2, ((47 : Nat) : Int)), (0, 0), (0, (c : Int)), (0, ((2 ^ tR T - 1 : Nat) : Int)), (0, ((2 ^ tC T - 1 : Nat) : Int)), (0, (rs : Int)), (0, ((cs : Int) + 1)), (0, (num T rs cs : Int)), (0, (min 1000000 ((tA T : Int) + (xA : Int)))), (0, (min 1000000 ((tB T : Int) + (xB : Int)))), v10]) lk_117_238 rfl rfl rfl ?_
                refine g_goto (t := 39) lk_117_241 rfl ?_
                have al : ¬ pop (vIn T rs cs) < 2 := fun q => by rw [if_pos q] at h4; exact h4 (fun z => by cases z)
                rw [if_neg al] at tA0 tB0
                exact next K2 N7 N8 _ _ c _ _ _ _ hN7 hN8 lay8 (f1.trans f2) (fun j hj => (f2k j hj).trans (f1k j hj)) (by rw [tA0]; omega) (by rw [tB0]; omega) (by rcases hcc with q | q; exact Or.inl q; omega)
          · obtain ⟨t, ht'⟩ : ∃ t, k = t + 1 := ⟨k - 1, by omega⟩
            have oldA := (ho hk0 rs cs hin (by unfold bef; omega)).1
            have oldB := (ho hk0 rs cs hin (by unfold bef; omega)).2
            obtain ⟨a0, ha0⟩ : ∃ a, a = TW T 0 (k - 1) rs cs := ⟨_, rfl⟩
            obtain ⟨b0, hb0⟩ : ∃ a, a = TW T 1 (k - 1) rs cs := ⟨_, rfl⟩
            have a0f : a0 ≤ 1000000 := by rw [ha0]; exact TW_far T 0 _ r64 c64 hin.1 hin.2.2.1
            have b0f : b0 ≤ 1000000 := by rw [hb0]; exact TW_far T 1 _ r64 c64 hin.1 hin.2.2.1
            rw [← ha0] at oldA
            rw [← hb0] at oldB
            have stA := TW_step T (w := 0) (t := t) (by omega) r64 c64 hin.1 hin.2.2.1
            have stB := TW_step T (w := 1) (t := t) (by omega) r64 c64 hin.1 hin.2.2.1
            rw [← ht', oA, show t = k - 1 by omega, show 1 - 0 = 1 from rfl, ← hb0] at stA
            rw [← ht', oB, show t = k - 1 by omega, show 1 - 1 = 0 from rfl, ← ha0] at stB
            rw [← ha0, ← hb0] at next
            have kk : ∀ {K : pm_M}, Fr [44] N K → pm_ct K ga = pm_ct N ga ∧ pm_ct K gb = pm_ct N gb := fun fK => ⟨fK.ct (fun q => a44 (List.mem_singleton.mp q).symm), fK.ct (fun q => b44 (List.mem_singleton.mp q).symm)⟩
            refine g_iload lk_117_39 rfl ?_
            refine g_iload lk_117_41 rfl ?_
            refine g_icmp (t := 244) lk_117_43 rfl (by first | (unfold pm_inI; omega) | exact pm_and_in _ _ | exact pm_shr_in _ _ | exact pm_or_in _ _ | exact pm_xor_in _ _ | exact pm_shl_in _ _ | exact pm_cmp_in _ _ | exact pm_b8_in _ | (unfold pm_inI; split <;> omega)) (by first | (unfold pm_inI; omega) | exact pm_and_in _ _ | exact pm_shr_in _ _ | exact pm_or_in _ _ | exact pm_xor_in _ _ | exact pm_shl_in _ _ | exact pm_cmp_in _ _ | exact pm_b8_in _ | (unfold pm_inI; split <;> omega)) (fun h1 => ?_) (fun h1 => ?_)
            · replace h1 : ((2 ^ tC T - 1 : Nat) : Int) < (cs : Int) := h1
              refine g_iinc (ls' := [(2, ((47 : Nat) : Int)), (0, (k : Int)), (0, (c : Int)), (0, ((2 ^ tR T - 1 : Nat) : Int)), (0, ((2 ^ tC T - 1 : Nat) : Int)), (0, ((rs : Int) + 1)), (0, (cs : Int)), v7, v8, v9, v10]) lk_117_244 rfl rfl rfl ?_
              refine g_goto (t := 30) lk_117_247 rfl ?_
              omega
            · replace h1 : ¬ (((2 ^ tC T - 1 : Nat) : Int) < (cs : Int)) := h1
              refine g_aload_n lk_117_46 rfl ?_
              refine g_getfield lk_117_47 rfl (lay.on (by decide) rfl) (v := ((44 : Nat) : Int)) (lay.rf rfl) ?_
              refine g_iload lk_117_50 rfl ?_
              refine g_iload lk_117_52 rfl ?_
              refine g_virtual (p := 44) (Qc := _) lk_117_54 rfl (Nat.le_of_ble_eq_true rfl) rfl rfl (lay.on (by decide) rfl) (Nat.le_of_ble_eq_true rfl) (Nat.le_of_ble_eq_true rfl) (Nat.zero_le _) (Nat.zero_le _) (c_Areas_numberOf lay hT hM (by omega) (by omega)) ?_
              rintro _ N2 ⟨rfl, hN2⟩
              rw [hN2]
              show Wp _ 117 57 [(2, ((47 : Nat) : Int)), (0, (k : Int)), (0, (c : Int)), (0, ((2 ^ tR T - 1 : Nat) : Int)), (0, ((2 ^ tC T - 1 : Nat) : Int)), (0, (rs : Int)), (0, (cs : Int)), v7, v8, v9, v10] [(0, (num T rs cs : Int))] N _ _ _
              refine g_istore (ls' := [(2, ((47 : Nat) : Int)), (0, (k : Int)), (0, (c : Int)), (0, ((2 ^ tR T - 1 : Nat) : Int)), (0, ((2 ^ tC T - 1 : Nat) : Int)), (0, (rs : Int)), (0, (cs : Int)), (0, (num T rs cs : Int)), v8, v9, v10]) lk_117_57 rfl rfl ?_
              refine g_iconst lk_117_59 ?_
              refine g_istore (ls' := [(2, ((47 : Nat) : Int)), (0, (k : Int)), (0, (c : Int)), (0, ((2 ^ tR T - 1 : Nat) : Int)), (0, ((2 ^ tC T - 1 : Nat) : Int)), (0, (rs : Int)), (0, (cs : Int)), (0, (num T rs cs : Int)), (0, 0), v9, v10]) lk_117_60 rfl rfl ?_
              refine g_iconst lk_117_62 ?_
              refine g_istore (ls' := [(2, ((47 : Nat) : Int)), (0, (k : Int)), (0, (c : Int)), (0, ((2 ^ tR T - 1 : Nat) : Int)), (0, ((2 ^ tC T - 1 : Nat) : Int)), (0, (rs : Int)), (0, (cs : Int)), (0, (num T rs cs : Int)), (0, 0), (0, 0), v10]) lk_117_63 rfl rfl ?_
              refine g_aload_n lk_117_65 rfl ?_
              refine g_getfield lk_117_66 rfl (lay.on (by decide) rfl) (v := ((44 : Nat) : Int)) (lay.rf rfl) ?_
              refine g_iload lk_117_69 rfl ?_
              refine g_virtual (p := 44) (Qc := _) lk_117_71 rfl (Nat.le_of_ble_eq_true rfl) rfl rfl (lay.on (by decide) rfl) (Nat.le_of_ble_eq_true rfl) (Nat.le_of_ble_eq_true rfl) (Nat.zero_le _) (Nat.zero_le _) (c_Areas_isOneValue lay hT hA hin.1 hin.2.1 hin.2.2.1 hin.2.2.2) ?_
              rintro _ N3 ⟨rfl, hN3⟩
              rw [hN3]
              show Wp _ 117 74 [(2, ((47 : Nat) : Int)), (0, (k : Int)), (0, (c : Int)), (0, ((2 ^ tR T - 1 : Nat) : Int)), (0, ((2 ^ tC T - 1 : Nat) : Int)), (0, (rs : Int)), (0, (cs : Int)), (0, (num T rs cs : Int)), (0, 0), (0, 0), v10] [(0, (if pop (vIn T rs cs) < 2 then (1 : Int) else 0))] N _ _ _
              refine g_if (t := 155) lk_117_74 rfl (by first | (unfold pm_inI; omega) | exact pm_and_in _ _ | exact pm_shr_in _ _ | exact pm_or_in _ _ | exact pm_xor_in _ _ | exact pm_shl_in _ _ | exact pm_cmp_in _ _ | exact pm_b8_in _ | (unfold pm_inI; split <;> omega)) (fun h4 => ?_) (fun h4 => ?_)
              · replace h4 : ¬ (if pop (vIn T rs cs) < 2 then (1 : Int) else 0) = 0 := h4
                refine g_iload_n lk_117_155 rfl ?_
                refine g_if (t := 220) lk_117_156 rfl (by first | (unfold pm_inI; omega) | exact pm_and_in _ _ | exact pm_shr_in _ _ | exact pm_or_in _ _ | exact pm_xor_in _ _ | exact pm_shl_in _ _ | exact pm_cmp_in _ _ | exact pm_b8_in _ | (unfold pm_inI; split <;> omega)) (fun h5 => ?_) (fun h5 => ?_)
                · replace h5 : (k : Int) ≤ 0 := h5
                  refine g_aload_n lk_117_220 rfl ?_
                  refine m_getfield (u := []) (M := N) lk_117_221 rfl (lay.on (by decide) rfl) (v := ((ga : Nat) : Int)) (by first | exact e3K | exact e3K1 | exact e3) ?_
                  refine g_iload lk_117_224 rfl ?_
                  refine g_iload lk_117_226 rfl ?_
                  refine s_iastore (M := N) lk_117_228 (by first | exact ayAK | exact ayA) (by omega) (j := (num T rs cs)) (by omega) (fun N6 hN6 => ?_)
                  have lay6 : Lay N6 := (by rw [hN6]; exact lay.upA frA)
                  refine g_aload_n lk_117_229 rfl ?_
                  refine m_getfield (u := []) (M := N6) lk_117_230 rfl (lay6.on (by decide) rfl) (v := ((gb : Nat) : Int)) (by first | exact e4K | exact e4K1 | exact e4 | exact gUp e4K hN6 | exact gUp e4 hN6) ?_
                  refine g_iload lk_117_233 rfl ?_
                  refine g_iload lk_117_235 rfl ?_
                  refine s_iastore (M := N6) lk_117_237 (by first | exact ayBK | exact ayB | exact gAy ayBK hN6 | exact gAy ayB hN6) (by omega) (j := (num T rs cs)) (by omega) (fun N7 hN7 => ?_)
                  have lay7 : Lay N7 := (by rw [hN7]; exact lay6.upA frB)
                  refine g_iinc (ls' := [(2, ((47 : Nat) : Int)), (0, (k : Int)), (0, (c : Int)), (0, ((2 ^ tR T - 1 : Nat) : Int)), (0, ((2 ^ tC T - 1 : Nat) : Int)), (0, (rs : Int)), (0, ((cs : Int) + 1)), (0, (num T rs cs : Int)), (0, 0), (0, 0), v10]) lk_117_238 rfl rfl rfl ?_
                  refine g_goto (t := 39) lk_117_241 rfl ?_
                  omega
                · replace h5 : ¬ ((k : Int) ≤ 0) := h5
                  refine g_aload_n lk_117_159 rfl ?_
                  refine m_getfield (u := []) (M := N) lk_117_160 rfl (lay.on (by decide) rfl) (v := ((ga : Nat) : Int)) (by first | exact e3K | exact e3K1 | exact e3) ?_
                  refine g_iload lk_117_163 rfl ?_
                  refine g_iaload lk_117_165 (by first | exact ayAK | exact ayA) (by omega) (v := (a0 : Int)) oldA ?_
                  refine g_istore (ls' := [(2, ((47 : Nat) : Int)), (0, (k : Int)), (0, (c : Int)), (0, ((2 ^ tR T - 1 : Nat) : Int)), (0, ((2 ^ tC T - 1 : Nat) : Int)), (0, (rs : Int)), (0, (cs : Int)), (0, (num T rs cs : Int)), (0, 0), (0, 0), (0, (a0 : Int))]) lk_117_166 rfl rfl ?_
                  refine g_iload lk_117_168 rfl ?_
                  refine g_aload_n lk_117_170 rfl ?_
                  refine m_getfield (u := []) (M := N) lk_117_171 rfl (lay.on (by decide) rfl) (v := ((gb : Nat) : Int)) (by first | exact e4K | exact e4K1 | exact e4 | exact gUp e4K hN | exact gUp e4 hN) ?_
                  refine g_iload lk_117_174 rfl ?_
                  refine g_iaload lk_117_176 (by first | exact ayBK | exact ayB | exact gAy ayBK hN | exact gAy ayB hN) (by omega) (v := (b0 : Int)) oldB ?_
                  refine g_mmin lk_117_177 (by first | (unfold pm_inI; omega) | exact pm_and_in _ _ | exact pm_shr_in _ _ | exact pm_or_in _ _ | exact pm_xor_in _ _ | exact pm_shl_in _ _ | exact pm_cmp_in _ _ | exact pm_b8_in _ | (unfold pm_inI; split <;> omega)) (by first | (unfold pm_inI; omega) | exact pm_and_in _ _ | exact pm_shr_in _ _ | exact pm_or_in _ _ | exact pm_xor_in _ _ | exact pm_shl_in _ _ | exact pm_cmp_in _ _ | exact pm_b8_in _ | (unfold pm_inI; split <;> omega)) (Nat.le_of_ble_eq_true rfl) ?_
                  refine g_istore (ls' := [(2, ((47 : Nat) : Int)), (0, (k : Int)), (0, (c : Int)), (0, ((2 ^ tR T - 1 : Nat) : Int)), (0, ((2 ^ tC T - 1 : Nat) : Int)), (0, (rs : Int)), (0, (cs : Int)), (0, (num T rs cs : Int)), (0, (min 0 (b0 : Int))), (0, 0), (0, (a0 : Int))]) lk_117_180 rfl rfl ?_
                  refine g_iload lk_117_182 rfl ?_
                  refine g_iload lk_117_184 rfl ?_
                  refine g_mmin lk_117_186 (by first | (unfold pm_inI; omega) | exact pm_and_in _ _ | exact pm_shr_in _ _ | exact pm_or_in _ _ | exact pm_xor_in _ _ | exact pm_shl_in _ _ | exact pm_cmp_in _ _ | exact pm_b8_in _ | (unfold pm_inI; split <;> omega)) (by first | (unfold pm_inI; omega) | exact pm_and_in _ _ | exact pm_shr_in _ _ | exact pm_or_in _ _ | exact pm_xor_in _ _ | exact pm_shl_in _ _ | exact pm_cmp_in _ _ | exact pm_b8_in _ | (unfold pm_inI; split <;> omega)) (Nat.le_of_ble_eq_true rfl) ?_
                  refine g_istore (ls' := [(2, ((47 : Nat) : Int)), (0, (k : Int)), (0, (c : Int)), (0, ((2 ^ tR T - 1 : Nat) : Int)), (0, ((2 ^ tC T - 1 : Nat) : Int)), (0, (rs : Int)), (0, (cs : Int)), (0, (num T rs cs : Int)), (0, (min 0 (b0 : Int))), (0, (min 0 (a0 : Int))), (0, (a0 : Int))]) lk_117_189 rfl rfl ?_
                  refine g_iload_n lk_117_191 rfl ?_
                  refine g_if (t := 214) lk_117_192 rfl (by first | (unfold pm_inI; omega) | exact pm_and_in _ _ | exact pm_shr_in _ _ | exact pm_or_in _ _ | exact pm_xor_in _ _ | exact pm_shl_in _ _ | exact pm_cmp_in _ _ | exact pm_b8_in _ | (unfold pm_inI; split <;> omega)) (fun h8 => ?_) (fun h8 => ?_)
                  · replace h8 : ¬ (c : Int) = 0 := h8
                    refine g_iconst lk_117_214 ?_
                    refine g_goto (t := 219) lk_117_215 rfl ?_
                    refine g_istore_n (ls' := [(2, ((47 : Nat) : Int)), (0, (k : Int)), (0, 1), (0, ((2 ^ tR T - 1 : Nat) : Int)), (0, ((2 ^ tC T - 1 : Nat) : Int)), (0, (rs : Int)), (0, (cs : Int)), (0, (num T rs cs : Int)), (0, (min 0 (b0 : Int))), (0, (min 0 (a0 : Int))), (0, (a0 : Int))]) lk_117_219 rfl rfl ?_
                    refine g_aload_n lk_117_220 rfl ?_
                    refine m_getfield (u := []) (M := N) lk_117_221 rfl (lay.on (by decide) rfl) (v := ((ga : Nat) : Int)) (by first | exact e3K | exact e3K1 | exact e3) ?_
                    refine g_iload lk_117_224 rfl ?_
                    refine g_iload lk_117_226 rfl ?_
                    refine s_iastore (M := N) lk_117_228 (by first | exact ayAK | exact ayA) (by omega) (j := (num T rs cs)) (by omega) (fun N9 hN9 => ?_)
                    have lay9 : Lay N9 := (by rw [hN9]; exact lay.upA frA)
                    refine g_aload_n lk_117_229 rfl ?_
                    refine m_getfield (u := []) (M := N9) lk_117_230 rfl (lay9.on (by decide) rfl) (v := ((gb : Nat) : Int)) (by first | exact e4K | exact e4K1 | exact e4 | exact gUp e4K hN9 | exact gUp e4 hN9) ?_
                    refine g_iload lk_117_233 rfl ?_
                    refine g_iload lk_117_235 rfl ?_
                    refine s_iastore (M := N9) lk_117_237 (by first | exact ayBK | exact ayB | exact gAy ayBK hN9 | exact gAy ayB hN9) (by omega) (j := (num T rs cs)) (by omega) (fun N10 hN10 => ?_)
                    have lay10 : Lay N10 := (by rw [hN10]; exact lay9.upA frB)
                    refine g_iinc (ls' := [(2, ((47 : Nat) : Int)), (0, (k : Int)), (0, 1), (0, ((2 ^ tR T - 1 : Nat) : Int)), (0, ((2 ^ tC T - 1 : Nat) : Int)), (0, (rs : Int)), (0, ((cs : Int) + 1)), (0, (num T rs cs : Int)), (0, (min 0 (b0 : Int))), (0, (min 0 (a0 : Int))), (0, (a0 : Int))]) lk_117_238 rfl rfl rfl ?_
                    refine g_goto (t := 39) lk_117_241 rfl ?_
                    have al : pop (vIn T rs cs) < 2 := Classical.byContradiction (fun q => h4 (by rw [if_neg q]))
                    rw [if_pos al] at stA stB
                    exact next N N9 N10 _ _ 1 _ _ _ _ hN9 hN10 lay10 (Fr.refl _ _) (fun _ _ => rfl) (by rw [stA]; omega) (by rw [stB]; omega) (Or.inl rfl)
                  · replace h8 : ¬ (¬ (c : Int) = 0) := h8
                    refine g_iload lk_117_195 rfl ?_
                    refine g_iload lk_117_197 rfl ?_
                    refine g_icmp (t := 214) lk_117_199 rfl (by first | (unfold pm_inI; omega) | exact pm_and_in _ _ | exact pm_shr_in _ _ | exact pm_or_in _ _ | exact pm_xor_in _ _ | exact pm_shl_in _ _ | exact pm_cmp_in _ _ | exact pm_b8_in _ | (unfold pm_inI; split <;> omega)) (by first | (unfold pm_inI; omega) | exact pm_and_in _ _ | exact pm_shr_in _ _ | exact pm_or_in _ _ | exact pm_xor_in _ _ | exact pm_shl_in _ _ | exact pm_cmp_in _ _ | exact pm_b8_in _ | (unfold pm_inI; split <;> omega)) (fun h11 => ?_) (fun h11 => ?_)
                    · replace h11 : (min 0 (b0 : Int)) < (a0 : Int) := h11
                      refine g_iconst lk_117_214 ?_
                      refine g_goto (t := 219) lk_117_215 rfl ?_
                      refine g_istore_n (ls' := [(2, ((47 : Nat) : Int)), (0, (k : Int)), (0, 1), (0, ((2 ^ tR T - 1 : Nat) : Int)), (0, ((2 ^ tC T - 1 : Nat) : Int)), (0, (rs : Int)), (0, (cs : Int)), (0, (num T rs cs : Int)), (0, (min 0 (b0 : Int))), (0, (min 0 (a0 : Int))), (0, (a0 : Int))]) lk_117_219 rfl rfl ?_
                      refine g_aload_n lk_117_220 rfl ?_
                      refine m_getfield (u := []) (M := N) lk_117_221 rfl (lay.on (by decide) rfl) (v := ((ga : Nat) : Int)) (by first | exact e3K | exact e3K1 | exact e3) ?_
                      refine g_iload lk_117_224 rfl ?_
                      refine g_iload lk_117_226 rfl ?_
                      refine s_iastore (M := N) lk_117_228 (by first | exact ayAK | exact ayA) (by omega) (j := (num T rs cs)) (by omega) (fun N12 hN12 => ?_)
                      have lay12 : Lay N12 := (by rw [hN12]; exact lay.upA frA)
                      refine g_aload_n lk_117_229 rfl ?_
                      refine m_getfield (u := []) (M := N12) lk_117_230 rfl (lay12.on (by decide) rfl) (v := ((gb : Nat) : Int)) (by first | exact e4K | exact e4K1 | exact e4 | exact gUp e4K hN12 | exact gUp e4 hN12) ?_
                      refine g_iload lk_117_233 rfl ?_
                      refine g_iload lk_117_235 rfl ?_
                      refine s_iastore (M := N12) lk_117_237 (by first | exact ayBK | exact ayB | exact gAy ayBK hN12 | exact gAy ayB hN12) (by omega) (j := (num T rs cs)) (by omega) (fun N13 hN13 => ?_)
                      have lay13 : Lay N13 := (by rw [hN13]; exact lay12.upA frB)
                      refine g_iinc (ls' := [(2, ((47 : Nat) : Int)), (0, (k : Int)), (0, 1), (0, ((2 ^ tR T - 1 : Nat) : Int)), (0, ((2 ^ tC T - 1 : Nat) : Int)), (0, (rs : Int)), (0, ((cs : Int) + 1)), (0, (num T rs cs : Int)), (0, (min 0 (b0 : Int))), (0, (min 0 (a0 : Int))), (0, (a0 : Int))]) lk_117_238 rfl rfl rfl ?_
                      refine g_goto (t := 39) lk_117_241 rfl ?_
                      have al : pop (vIn T rs cs) < 2 := Classical.byContradiction (fun q => h4 (by rw [if_neg q]))
                      rw [if_pos al] at stA stB
                      exact next N N12 N13 _ _ 1 _ _ _ _ hN12 hN13 lay13 (Fr.refl _ _) (fun _ _ => rfl) (by rw [stA]; omega) (by rw [stB]; omega) (Or.inl rfl)
                    · replace h11 : ¬ ((min 0 (b0 : Int)) < (a0 : Int)) := h11
                      refine g_iload lk_117_202 rfl ?_
                      refine g_aload_n lk_117_204 rfl ?_
                      refine m_getfield (u := []) (M := N) lk_117_205 rfl (lay.on (by decide) rfl) (v := ((gb : Nat) : Int)) (by first | exact e4K | exact e4K1 | exact e4 | exact gUp e4K hN | exact gUp e4 hN) ?_
                      refine g_iload lk_117_208 rfl ?_
                      refine g_iaload lk_117_210 (by first | exact ayBK | exact ayB | exact gAy ayBK hN | exact gAy ayB hN) (by omega) (v := (b0 : Int)) oldB ?_
                      refine g_icmp (t := 218) lk_117_211 rfl (by first | (unfold pm_inI; omega) | exact pm_and_in _ _ | exact pm_shr_in _ _ | exact pm_or_in _ _ | exact pm_xor_in _ _ | exact pm_shl_in _ _ | exact pm_cmp_in _ _ | exact pm_b8_in _ | (unfold pm_inI; split <;> omega)) (by first | (unfold pm_inI; omega) | exact pm_and_in _ _ | exact pm_shr_in _ _ | exact pm_or_in _ _ | exact pm_xor_in _ _ | exact pm_shl_in _ _ | exact pm_cmp_in _ _ | exact pm_b8_in _ | (unfold pm_inI; split <;> omega)) (fun h14 => ?_) (fun h14 => ?_)
                      · replace h14 : (b0 : Int) ≤ (min 0 (a0 : Int)) := h14
                        refine g_iconst lk_117_218 ?_
                        refine g_istore_n (ls' := [(2, ((47 : Nat) : Int)), (0, (k : Int)), (0, 0), (0, ((2 ^ tR T - 1 : Nat) : Int)), (0, ((2 ^ tC T - 1 : Nat) : Int)), (0, (rs : Int)), (0, (cs : Int)), (0, (num T rs cs : Int)), (0, (min 0 (b0 : Int))), (0, (min 0 (a0 : Int))), (0, (a0 : Int))]) lk_117_219 rfl rfl ?_
                        refine g_aload_n lk_117_220 rfl ?_
                        refine m_getfield (u := []) (M := N) lk_117_221 rfl (lay.on (by decide) rfl) (v := ((ga : Nat) : Int)) (by first | exact e3K | exact e3K1 | exact e3) ?_
                        refine g_iload lk_117_224 rfl ?_
                        refine g_iload lk_117_226 rfl ?_
                        refine s_iastore (M := N) lk_117_228 (by first | exact ayAK | exact ayA) (by omega) (j := (num T rs cs)) (by omega) (fun N15 hN15 => ?_)
                        have lay15 : Lay N15 := (by rw [hN15]; exact lay.upA frA)
                        refine g_aload_n lk_117_229 rfl ?_
                        refine m_getfield (u := []) (M := N15) lk_117_230 rfl (lay15.on (by decide) rfl) (v := ((gb : Nat) : Int)) (by first | exact e4K | exact e4K1 | exact e4 | exact gUp e4K hN15 | exact gUp e4 hN15) ?_
                        refine g_iload lk_117_233 rfl ?_
                        refine g_iload lk_117_235 rfl ?_
                        refine s_iastore (M := N15) lk_117_237 (by first | exact ayBK | exact ayB | exact gAy ayBK hN15 | exact gAy ayB hN15) (by omega) (j := (num T rs cs)) (by omega) (fun N16 hN16 => ?_)
                        have lay16 : Lay N16 := (by rw [hN16]; exact lay15.upA frB)
                        refine g_iinc (ls' := [(2, ((47 : Nat) : Int)), (0, (k : Int)), (0, 0), (0, ((2 ^ tR T - 1 : Nat) : Int)), (0, ((2 ^ tC T - 1 : Nat) : Int)), (0, (rs : Int)), (0, ((cs : Int) + 1)), (0, (num T rs cs : Int)), (0, (min 0 (b0 : Int))), (0, (min 0 (a0 : Int))), (0, (a0 : Int))]) lk_117_238 rfl rfl rfl ?_
                        refine g_goto (t := 39) lk_117_241 rfl ?_
                        have al : pop (vIn T rs cs) < 2 := Classical.byContradiction (fun q => h4 (by rw [if_neg q]))
                        rw [if_pos al] at stA stB
                        exact next N N15 N16 _ _ 0 _ _ _ _ hN15 hN16 lay16 (Fr.refl _ _) (fun _ _ => rfl) (by rw [stA]; omega) (by rw [stB]; omega) (Or.inr ⟨rfl, hk0, by omega, by rw [stA]; omega, by rw [stB]; omega⟩)
                      · replace h14 : ¬ ((b0 : Int) ≤ (min 0 (a0 : Int))) := h14
                        refine g_iconst lk_117_214 ?_
                        refine g_goto (t := 219) lk_117_215 rfl ?_
                        refine g_istore_n (ls' := [(2, ((47 : Nat) : Int)), (0, (k : Int)), (0, 1), (0, ((2 ^ tR T - 1 : Nat) : Int)), (0, ((2 ^ tC T - 1 : Nat) : Int)), (0, (rs : Int)), (0, (cs : Int)), (0, (num T rs cs : Int)), (0, (min 0 (b0 : Int))), (0, (min 0 (a0 : Int))), (0, (a0 : Int))]) lk_117_219 rfl rfl ?_
                        refine g_aload_n lk_117_220 rfl ?_
                        refine m_getfield (u := []) (M := N) lk_117_221 rfl (lay.on (by decide) rfl) (v := ((ga : Nat) : Int)) (by first | exact e3K | exact e3K1 | exact e3) ?_
                        refine g_iload lk_117_224 rfl ?_
                        refine g_iload lk_117_226 rfl ?_
                        refine s_iastore (M := N) lk_117_228 (by first | exact ayAK | exact ayA) (by omega) (j := (num T rs cs)) (by omega) (fun N17 hN17 => ?_)
                        have lay17 : Lay N17 := (by rw [hN17]; exact lay.upA frA)
                        refine g_aload_n lk_117_229 rfl ?_
                        refine m_getfield (u := []) (M := N17) lk_117_230 rfl (lay17.on (by decide) rfl) (v := ((gb : Nat) : Int)) (by first | exact e4K | exact e4K1 | exact e4 | exact gUp e4K hN17 | exact gUp e4 hN17) ?_
                        refine g_iload lk_117_233 rfl ?_
                        refine g_iload lk_117_235 rfl ?_
                        refine s_iastore (M := N17) lk_117_237 (by first | exact ayBK | exact ayB | exact gAy ayBK hN17 | exact gAy ayB hN17) (by omega) (j := (num T rs cs)) (by omega) (fun N18 hN18 => ?_)
                        have lay18 : Lay N18 := (by rw [hN18]; exact lay17.upA frB)
                        refine g_iinc (ls' := [(2, ((47 : Nat) : Int)), (0, (k : Int)), (0, 1), (0, ((2 ^ tR T - 1 : Nat) : Int)), (0, ((2 ^ tC T - 1 : Nat) : Int)), (0, (rs : Int)), (0, ((cs : Int) + 1)), (0, (num T rs cs : Int)), (0, (min 0 (b0 : Int))), (0, (min 0 (a0 : Int))), (0, (a0 : Int))]) lk_117_238 rfl rfl rfl ?_
                        refine g_goto (t := 39) lk_117_241 rfl ?_
                        have al : pop (vIn T rs cs) < 2 := Classical.byContradiction (fun q => h4 (by rw [if_neg q]))
                        rw [if_pos al] at stA stB
                        exact next N N17 N18 _ _ 1 _ _ _ _ hN17 hN18 lay18 (Fr.refl _ _) (fun _ _ => rfl) (by rw [stA]; omega) (by rw [stB]; omega) (Or.inl rfl)
              · replace h4 : ¬ (¬ (if pop (vIn T rs cs) < 2 then (1 : Int) else 0) = 0) := h4
                refine g_ldc lk_117_77 ?_
                refine g_aload_n lk_117_79 rfl ?_
                refine g_getfield lk_117_80 rfl (lay.on (by decide) rfl) (v := ((24 : Nat) : Int)) (lay.rf rfl) ?_
                refine m_getfield (u := []) (M := N) lk_117_83 rfl (lay.on (by decide) rfl) (v := (tA T : Int)) hM.2.2.1 ?_
                refine g_aload_n lk_117_86 rfl ?_
                refine g_getfield lk_117_87 rfl (lay.on (by decide) rfl) (v := ((44 : Nat) : Int)) (lay.rf rfl) ?_
                refine g_aload_n lk_117_90 rfl ?_
                refine m_getfield (u := []) (M := N) lk_117_91 rfl (lay.on (by decide) rfl) (v := ((ga : Nat) : Int)) (by first | exact e3K | exact e3K1 | exact e3) ?_
                refine g_iload lk_117_94 rfl ?_
                refine g_aload_n lk_117_96 rfl ?_
                refine g_getfield lk_117_97 rfl (lay.on (by decide) rfl) (v := ((24 : Nat) : Int)) (lay.rf rfl) ?_
                refine m_getfield (u := []) (M := N) lk_117_100 rfl (lay.on (by decide) rfl) (v := (tC T : Int)) hM.2.1 ?_
                refine g_iload lk_117_103 rfl ?_
                refine g_iconst lk_117_105 ?_
                refine g_virtual (p := 44) (Qc := _) lk_117_106 rfl (Nat.le_of_ble_eq_true rfl) rfl rfl (lay.on (by decide) rfl) (Nat.le_of_ble_eq_true rfl) (Nat.le_of_ble_eq_true rfl) (Nat.zero_le _) (Nat.zero_le _) (spA) ?_
                rintro _ K1 ⟨rfl, lay1, pk1, f1, f1k, -, -⟩
                have hM1 : TbAt K1 24 T := hM.fr f1 (by decide) (by decide)
                have e3K1 : pm_ct K1 47 3 = ((ga : Nat) : Int) := (by rw [f1.ct (by decide)]; exact e3)
                have e4K1 : pm_ct K1 47 4 = ((gb : Nat) : Int) := (by rw [f1.ct (by decide)]; exact e4)
                have spB := c_Areas_split (d := d) (mc := 0) (ms := 0) lay1 ob (f1.ay ayB) c64 (by omega : cs ≠ 0) (sh := 0) (fx := rs * 2 ^ tC T) (ix := fun q => num T rs q) (g := fun q => TW T 1 k rs q) (fun q hq => ⟨numB_eq hT r64 (by have := Sb_le hq; omega), Nat.lt_of_lt_of_le (num_lt hin.2.1 (by have := Sb_le hq; omega)) lb⟩) (fun q _ a b => ⟨(by rw [f1.ct (fun q => b44 (List.mem_singleton.mp q).symm)]; exact (hd rs q ⟨hin.1, hin.2.1, a, by omega⟩ (Or.inr ⟨rfl, b⟩)).2), by have := TW_far T 1 k r64 (by omega : q < 64) hin.1 a; omega⟩) (b := 0) (by decide)
                rw [← hxB, ← hfx] at spB
                show Wp _ 117 109 [(2, ((47 : Nat) : Int)), (0, (k : Int)), (0, (c : Int)), (0, ((2 ^ tR T - 1 : Nat) : Int)), (0, ((2 ^ tC T - 1 : Nat) : Int)), (0, (rs : Int)), (0, (cs : Int)), (0, (num T rs cs : Int)), (0, 0), (0, 0), v10] [(0, (xA : Int)), (0, (tA T : Int)), (0, 1000000)] K1 _ _ _
                refine g_iadd lk_117_109 ?_
                refine g_mmin lk_117_110 (by first | (unfold pm_inI; omega) | exact pm_and_in _ _ | exact pm_shr_in _ _ | exact pm_or_in _ _ | exact pm_xor_in _ _ | exact pm_shl_in _ _ | exact pm_cmp_in _ _ | exact pm_b8_in _ | (unfold pm_inI; split <;> omega)) (by first | (unfold pm_inI; omega) | exact pm_and_in _ _ | exact pm_shr_in _ _ | exact pm_or_in _ _ | exact pm_xor_in _ _ | exact pm_shl_in _ _ | exact pm_cmp_in _ _ | exact pm_b8_in _ | (unfold pm_inI; split <;> omega)) (Nat.le_of_ble_eq_true rfl) ?_
                refine g_istore (ls' := [(2, ((47 : Nat) : Int)), (0, (k : Int)), (0, (c : Int)), (0, ((2 ^ tR T - 1 : Nat) : Int)), (0, ((2 ^ tC T - 1 : Nat) : Int)), (0, (rs : Int)), (0, (cs : Int)), (0, (num T rs cs : Int)), (0, (min 1000000 ((tA T : Int) + (xA : Int)))), (0, 0), v10]) lk_117_113 rfl rfl ?_
                refine g_ldc lk_117_115 ?_
                refine g_aload_n lk_117_117 rfl ?_
                refine g_getfield lk_117_118 rfl (lay1.on (by decide) rfl) (v := ((24 : Nat) : Int)) (lay1.rf rfl) ?_
                refine m_getfield (u := []) (M := K1) lk_117_121 rfl (lay1.on (by decide) rfl) (v := (tB T : Int)) hM1.2.2.2.1 ?_
                refine g_aload_n lk_117_124 rfl ?_
                refine g_getfield lk_117_125 rfl (lay1.on (by decide) rfl) (v := ((44 : Nat) : Int)) (lay1.rf rfl) ?_
                refine g_aload_n lk_117_128 rfl ?_
                refine m_getfield (u := []) (M := K1) lk_117_129 rfl (lay1.on (by decide) rfl) (v := ((gb : Nat) : Int)) (by first | exact e4K | exact e4K1 | exact e4 | exact gUp e4K hK1 | exact gUp e4 hK1) ?_
                refine g_iload lk_117_132 rfl ?_
                refine g_iconst lk_117_134 ?_
                refine g_iload lk_117_135 rfl ?_
                refine g_aload_n lk_117_137 rfl ?_
                refine g_getfield lk_117_138 rfl (lay1.on (by decide) rfl) (v := ((24 : Nat) : Int)) (lay1.rf rfl) ?_
                refine m_getfield (u := []) (M := K1) lk_117_141 rfl (lay1.on (by decide) rfl) (v := (tC T : Int)) hM1.2.1 ?_
                refine g_ishl lk_117_144 ?_
                refine g_top (z := (pm_shl (rs : Int) (tC T : Int))) (z' := (fx : Int)) (sC) ?_
                refine g_iconst lk_117_145 ?_
                refine g_virtual (p := 44) (Qc := _) lk_117_146 rfl (Nat.le_of_ble_eq_true rfl) rfl rfl (lay1.on (by decide) rfl) (Nat.le_of_ble_eq_true rfl) (Nat.le_of_ble_eq_true rfl) (Nat.zero_le _) (Nat.zero_le _) (spB) ?_
                rintro _ K2 ⟨rfl, lay2, pk2, f2, f2k, -, -⟩
                have e3K : pm_ct K2 47 3 = ((ga : Nat) : Int) := (by rw [f2.ct (by decide)]; exact e3K1)
                have e4K : pm_ct K2 47 4 = ((gb : Nat) : Int) := (by rw [f2.ct (by decide)]; exact e4K1)
                have ayAK := f2.ay (f1.ay ayA)
                have ayBK := f2.ay (f1.ay ayB)
                show Wp _ 117 149 [(2, ((47 : Nat) : Int)), (0, (k : Int)), (0, (c : Int)), (0, ((2 ^ tR T - 1 : Nat) : Int)), (0, ((2 ^ tC T - 1 : Nat) : Int)), (0, (rs : Int)), (0, (cs : Int)), (0, (num T rs cs : Int)), (0, (min 1000000 ((tA T : Int) + (xA : Int)))), (0, 0), v10] [(0, (xB : Int)), (0, (tB T : Int)), (0, 1000000)] K2 _ _ _
                refine g_iadd lk_117_149 ?_
                refine g_mmin lk_117_150 (by first | (unfold pm_inI; omega) | exact pm_and_in _ _ | exact pm_shr_in _ _ | exact pm_or_in _ _ | exact pm_xor_in _ _ | exact pm_shl_in _ _ | exact pm_cmp_in _ _ | exact pm_b8_in _ | (unfold pm_inI; split <;> omega)) (by first | (unfold pm_inI; omega) | exact pm_and_in _ _ | exact pm_shr_in _ _ | exact pm_or_in _ _ | exact pm_xor_in _ _ | exact pm_shl_in _ _ | exact pm_cmp_in _ _ | exact pm_b8_in _ | (unfold pm_inI; split <;> omega)) (Nat.le_of_ble_eq_true rfl) ?_
                refine g_istore (ls' := [(2, ((47 : Nat) : Int)), (0, (k : Int)), (0, (c : Int)), (0, ((2 ^ tR T - 1 : Nat) : Int)), (0, ((2 ^ tC T - 1 : Nat) : Int)), (0, (rs : Int)), (0, (cs : Int)), (0, (num T rs cs : Int)), (0, (min 1000000 ((tA T : Int) + (xA : Int)))), (0, (min 1000000 ((tB T : Int) + (xB : Int)))), v10]) lk_117_153 rfl rfl ?_
                refine g_iload_n lk_117_155 rfl ?_
                refine g_if (t := 220) lk_117_156 rfl (by first | (unfold pm_inI; omega) | exact pm_and_in _ _ | exact pm_shr_in _ _ | exact pm_or_in _ _ | exact pm_xor_in _ _ | exact pm_shl_in _ _ | exact pm_cmp_in _ _ | exact pm_b8_in _ | (unfold pm_inI; split <;> omega)) (fun h19 => ?_) (fun h19 => ?_)
                · replace h19 : (k : Int) ≤ 0 := h19
                  refine g_aload_n lk_117_220 rfl ?_
                  refine m_getfield (u := []) (M := K2) lk_117_221 rfl (lay2.on (by decide) rfl) (v := ((ga : Nat) : Int)) (by first | exact e3K | exact e3K1 | exact e3) ?_
                  refine g_iload lk_117_224 rfl ?_
                  refine g_iload lk_117_226 rfl ?_
                  refine s_iastore (M := K2) lk_117_228 (by first | exact ayAK | exact ayA) (by omega) (j := (num T rs cs)) (by omega) (fun N20 hN20 => ?_)
                  have lay20 : Lay N20 := (by rw [hN20]; exact lay2.upA frA)
                  refine g_aload_n lk_117_229 rfl ?_
                  refine m_getfield (u := []) (M := N20) lk_117_230 rfl (lay20.on (by decide) rfl) (v := ((gb : Nat) : Int)) (by first | exact e4K | exact e4K1 | exact e4 | exact gUp e4K hN20 | exact gUp e4 hN20) ?_
                  refine g_iload lk_117_233 rfl ?_
                  refine g_iload lk_117_235 rfl ?_
                  refine s_iastore (M := N20) lk_117_237 (by first | exact ayBK | exact ayB | exact gAy ayBK hN20 | exact gAy ayB hN20) (by omega) (j := (num T rs cs)) (by omega) (fun N21 hN21 => ?_)
                  have lay21 : Lay N21 := (by rw [hN21]; exact lay20.upA frB)
                  refine g_iinc (ls' := [(2, ((47 : Nat) : Int)), (0, (k : Int)), (0, (c : Int)), (0, ((2 ^ tR T - 1 : Nat) : Int)), (0, ((2 ^ tC T - 1 : Nat) : Int)), (0, (rs : Int)), (0, ((cs : Int) + 1)), (0, (num T rs cs : Int)), (0, (min 1000000 ((tA T : Int) + (xA : Int)))), (0, (min 1000000 ((tB T : Int) + (xB : Int)))), v10]) lk_117_238 rfl rfl rfl ?_
                  refine g_goto (t := 39) lk_117_241 rfl ?_
                  omega
                · replace h19 : ¬ ((k : Int) ≤ 0) := h19
                  refine g_aload_n lk_117_159 rfl ?_
                  refine m_getfield (u := []) (M := K2) lk_117_160 rfl (lay2.on (by decide) rfl) (v := ((ga : Nat) : Int)) (by first | exact e3K | exact e3K1 | exact e3) ?_
                  refine g_iload lk_117_163 rfl ?_
                  refine g_iaload lk_117_165 (by first | exact ayAK | exact ayA) (by omega) (v := (a0 : Int)) ((congrFun (kk (f1.trans f2)).1 _).trans oldA) ?_
                  refine g_istore (ls' := [(2, ((47 : Nat) : Int)), (0, (k : Int)), (0, (c : Int)), (0, ((2 ^ tR T - 1 : Nat) : Int)), (0, ((2 ^ tC T - 1 : Nat) : Int)), (0, (rs : Int)), (0, (cs : Int)), (0, (num T rs cs : Int)), (0, (min 1000000 ((tA T : Int) + (xA : Int)))), (0, (min 1000000 ((tB T : Int) + (xB : Int)))), (0, (a0 : Int))]) lk_117_166 rfl rfl ?_
                  refine g_iload lk_117_168 rfl ?_
                  refine g_aload_n lk_117_170 rfl ?_
                  refine m_getfield (u := []) (M := K2) lk_117_171 rfl (lay2.on (by decide) rfl) (v := ((gb : Nat) : Int)) (by first | exact e4K | exact e4K1 | exact e4 | exact gUp e4K hK2 | exact gUp e4 hK2) ?_
                  refine g_iload lk_117_174 rfl ?_
                  refine g_iaload lk_117_176 (by first | exact ayBK | exact ayB | exact gAy ayBK hK2 | exact gAy ayB hK2) (by omega) (v := (b0 : Int)) ((congrFun (kk (f1.trans f2)).2 _).trans oldB) ?_
                  refine g_mmin lk_117_177 (by first | (unfold pm_inI; omega) | exact pm_and_in _ _ | exact pm_shr_in _ _ | exact pm_or_in _ _ | exact pm_xor_in _ _ | exact pm_shl_in _ _ | exact pm_cmp_in _ _ | exact pm_b8_in _ | (unfold pm_inI; split <;> omega)) (by first | (unfold pm_inI; omega) | exact pm_and_in _ _ | exact pm_shr_in _ _ | exact pm_or_in _ _ | exact pm_xor_in _ _ | exact pm_shl_in _ _ | exact pm_cmp_in _ _ | exact pm_b8_in _ | (unfold pm_inI; split <;> omega)) (Nat.le_of_ble_eq_true rfl) ?_
                  refine g_istore (ls' := [(2, ((47 : Nat) : Int)), (0, (k : Int)), (0, (c : Int)), (0, ((2 ^ tR T - 1 : Nat) : Int)), (0, ((2 ^ tC T - 1 : Nat) : Int)), (0, (rs : Int)), (0, (cs : Int)), (0, (num T rs cs : Int)), (0, (min (min 1000000 ((tA T : Int) + (xA : Int))) (b0 : Int))), (0, (min 1000000 ((tB T : Int) + (xB : Int)))), (0, (a0 : Int))]) lk_117_180 rfl rfl ?_
                  refine g_iload lk_117_182 rfl ?_
                  refine g_iload lk_117_184 rfl ?_
                  refine g_mmin lk_117_186 (by first | (unfold pm_inI; omega) | exact pm_and_in _ _ | exact pm_shr_in _ _ | exact pm_or_in _ _ | exact pm_xor_in _ _ | exact pm_shl_in _ _ | exact pm_cmp_in _ _ | exact pm_b8_in _ | (unfold pm_inI; split <;> omega)) (by first | (unfold pm_inI; omega) | exact pm_and_in _ _ | exact pm_shr_in _ _ | exact pm_or_in _ _ | exact pm_xor_in _ _ | exact pm_shl_in _ _ | exact pm_cmp_in _ _ | exact pm_b8_in _ | (unfold pm_inI; split <;> omega)) (Nat.le_of_ble_eq_true rfl) ?_
                  refine g_istore (ls' := [(2, ((47 : Nat) : Int)), (0, (k : Int)), (0, (c : Int)), (0, ((2 ^ tR T - 1 : Nat) : Int)), (0, ((2 ^ tC T - 1 : Nat) : Int)), (0, (rs : Int)), (0, (cs : Int)), (0, (num T rs cs : Int)), (0, (min (min 1000000 ((tA T : Int) + (xA : Int))) (b0 : Int))), (0, (min (min 1000000 ((tB T : Int) + (xB : Int))) (a0 : Int))), (0, (a0 : Int))]) lk_117_189 rfl rfl ?_
                  refine g_iload_n lk_117_191 rfl ?_
                  refine g_if (t := 214) lk_117_192 rfl (by first | (unfold pm_inI; omega) | exact pm_and_in _ _ | exact pm_shr_in _ _ | exact pm_or_in _ _ | exact pm_xor_in _ _ | exact pm_shl_in _ _ | exact pm_cmp_in _ _ | exact pm_b8_in _ | (unfold pm_inI; split <;> omega)) (fun h22 => ?_) (fun h22 => ?_)
                  · replace h22 : ¬ (c : Int) = 0 := h22
                    refine g_iconst lk_117_214 ?_
                    refine g_goto (t := 219) lk_117_215 rfl ?_
                    refine g_istore_n (ls' := [(2, ((47 : Nat) : Int)), (0, (k : Int)), (0, 1), (0, ((2 ^ tR T - 1 : Nat) : Int)), (0, ((2 ^ tC T - 1 : Nat) : Int)), (0, (rs : Int)), (0, (cs : Int)), (0, (num T rs cs : Int)), (0, (min (min 1000000 ((tA T : Int) + (xA : Int))) (b0 : Int))), (0, (min (min 1000000 ((tB T : Int) + (xB : Int))) (a0 : Int))), (0, (a0 : Int))]) lk_117_219 rfl rfl ?_
                    refine g_aload_n lk_117_220 rfl ?_
                    refine m_getfield (u := []) (M := K2) lk_117_221 rfl (lay2.on (by decide) rfl) (v := ((ga : Nat) : Int)) (by first | exact e3K | exact e3K1 | exact e3) ?_
                    refine g_iload lk_117_224 rfl ?_
                    refine g_iload lk_117_226 rfl ?_
                    refine s_iastore (M := K2) lk_117_228 (by first | exact ayAK | exact ayA) (by omega) (j := (num T rs cs)) (by omega) (fun N23 hN23 => ?_)
                    have lay23 : Lay N23 := (by rw [hN23]; exact lay2.upA frA)
                    refine g_aload_n lk_117_229 rfl ?_
                    refine m_getfield (u := []) (M := N23) lk_117_230 rfl (lay23.on (by decide) rfl) (v := ((gb : Nat) : Int)) (by first | exact e4K | exact e4K1 | exact e4 | exact gUp e4K hN23 | exact gUp e4 hN23) ?_
                    refine g_iload lk_117_233 rfl ?_
                    refine g_iload lk_117_235 rfl ?_
                    refine s_iastore (M := N23) lk_117_237 (by first | exact ayBK | exact ayB | exact gAy ayBK hN23 | exact gAy ayB hN23) (by omega) (j := (num T rs cs)) (by omega) (fun N24 hN24 => ?_)
                    have lay24 : Lay N24 := (by rw [hN24]; exact lay23.upA frB)
                    refine g_iinc (ls' := [(2, ((47 : Nat) : Int)), (0, (k : Int)), (0, 1), (0, ((2 ^ tR T - 1 : Nat) : Int)), (0, ((2 ^ tC T - 1 : Nat) : Int)), (0, (rs : Int)), (0, ((cs : Int) + 1)), (0, (num T rs cs : Int)), (0, (min (min 1000000 ((tA T : Int) + (xA : Int))) (b0 : Int))), (0, (min (min 1000000 ((tB T : Int) + (xB : Int))) (a0 : Int))), (0, (a0 : Int))]) lk_117_238 rfl rfl rfl ?_
                    refine g_goto (t := 39) lk_117_241 rfl ?_
                    have al : ¬ pop (vIn T rs cs) < 2 := fun q => by rw [if_pos q] at h4; exact h4 (fun z => by cases z)
                    rw [if_neg al] at stA stB
                    exact next K2 N23 N24 _ _ 1 _ _ _ _ hN23 hN24 lay24 (f1.trans f2) (fun j hj => (f2k j hj).trans (f1k j hj)) (by rw [stA]; omega) (by rw [stB]; omega) (Or.inl rfl)
                  · replace h22 : ¬ (¬ (c : Int) = 0) := h22
                    refine g_iload lk_117_195 rfl ?_
                    refine g_iload lk_117_197 rfl ?_
                    refine g_icmp (t := 214) lk_117_199 rfl (by first | (unfold pm_inI; omega) | exact pm_and_in _ _ | exact pm_shr_in _ _ | exact pm_or_in _ _ | exact pm_xor_in _ _ | exact pm_shl_in _ _ | exact pm_cmp_in _ _ | exact pm_b8_in _ | (unfold pm_inI; split <;> omega)) (by first | (unfold pm_inI; omega) | exact pm_and_in _ _ | exact pm_shr_in _ _ | exact pm_or_in _ _ | exact pm_xor_in _ _ | exact pm_shl_in _ _ | exact pm_cmp_in _ _ | exact pm_b8_in _ | (unfold pm_inI; split <;> omega)) (fun h25 => ?_) (fun h25 => ?_)
                    · replace h25 : (min (min 1000000 ((tA T : Int) + (xA : Int))) (b0 : Int)) < (a0 : Int) := h25
                      refine g_iconst lk_117_214 ?_
                      refine g_goto (t := 219) lk_117_215 rfl ?_
                      refine g_istore_n (ls' := [(2, ((47 : Nat) : Int)), (0, (k : Int)), (0, 1), (0, ((2 ^ tR T - 1 : Nat) : Int)), (0, ((2 ^ tC T - 1 : Nat) : Int)), (0, (rs : Int)), (0, (cs : Int)), (0, (num T rs cs : Int)), (0, (min (min 1000000 ((tA T : Int) + (xA : Int))) (b0 : Int))), (0, (min (min 1000000 ((tB T : Int) + (xB : Int))) (a0 : Int))), (0, (a0 : Int))]) lk_117_219 rfl rfl ?_
                      refine g_aload_n lk_117_220 rfl ?_
                      refine m_getfield (u := []) (M := K2) lk_117_221 rfl (lay2.on (by decide) rfl) (v := ((ga : Nat) : Int)) (by first | exact e3K | exact e3K1 | exact e3) ?_
                      refine g_iload lk_117_224 rfl ?_
                      refine g_iload lk_117_226 rfl ?_
                      refine s_iastore (M := K2) lk_117_228 (by first | exact ayAK | exact ayA) (by omega) (j := (num T rs cs)) (by omega) (fun N26 hN26 => ?_)
                      have lay26 : Lay N26 := (by rw [hN26]; exact lay2.upA frA)
                      refine g_aload_n lk_117_229 rfl ?_
                      refine m_getfield (u := []) (M := N26) lk_117_230 rfl (lay26.on (by decide) rfl) (v := ((gb : Nat) : Int)) (by first | exact e4K | exact e4K1 | exact e4 | exact gUp e4K hN26 | exact gUp e4 hN26) ?_
                      refine g_iload lk_117_233 rfl ?_
                      refine g_iload lk_117_235 rfl ?_
                      refine s_iastore (M := N26) lk_117_237 (by first | exact ayBK | exact ayB | exact gAy ayBK hN26 | exact gAy ayB hN26) (by omega) (j := (num T rs cs)) (by omega) (fun N27 hN27 => ?_)
                      have lay27 : Lay N27 := (by rw [hN27]; exact lay26.upA frB)
                      refine g_iinc (ls' := [(2, ((47 : Nat) : Int)), (0, (k : Int)), (0, 1), (0, ((2 ^ tR T - 1 : Nat) : Int)), (0, ((2 ^ tC T - 1 : Nat) : Int)), (0, (rs : Int)), (0, ((cs : Int) + 1)), (0, (num T rs cs : Int)), (0, (min (min 1000000 ((tA T : Int) + (xA : Int))) (b0 : Int))), (0, (min (min 1000000 ((tB T : Int) + (xB : Int))) (a0 : Int))), (0, (a0 : Int))]) lk_117_238 rfl rfl rfl ?_
                      refine g_goto (t := 39) lk_117_241 rfl ?_
                      have al : ¬ pop (vIn T rs cs) < 2 := fun q => by rw [if_pos q] at h4; exact h4 (fun z => by cases z)
                      rw [if_neg al] at stA stB
                      exact next K2 N26 N27 _ _ 1 _ _ _ _ hN26 hN27 lay27 (f1.trans f2) (fun j hj => (f2k j hj).trans (f1k j hj)) (by rw [stA]; omega) (by rw [stB]; omega) (Or.inl rfl)
                    · replace h25 : ¬ ((min (min 1000000 ((tA T : Int) + (xA : Int))) (b0 : Int)) < (a0 : Int)) := h25
                      refine g_iload lk_117_202 rfl ?_
                      refine g_aload_n lk_117_204 rfl ?_
                      refine m_getfield (u := []) (M := K2) lk_117_205 rfl (lay2.on (by decide) rfl) (v := ((gb : Nat) : Int)) (by first | exact e4K | exact e4K1 | exact e4 | exact gUp e4K hK2 | exact gUp e4 hK2) ?_
                      refine g_iload lk_117_208 rfl ?_
                      refine g_iaload lk_117_210 (by first | exact ayBK | exact ayB | exact gAy ayBK hK2 | exact gAy ayB hK2) (by omega) (v := (b0 : Int)) ((congrFun (kk (f1.trans f2)).2 _).trans oldB) ?_
                      refine g_icmp (t := 218) lk_117_211 rfl (by first | (unfold pm_inI; omega) | exact pm_and_in _ _ | exact pm_shr_in _ _ | exact pm_or_in _ _ | exact pm_xor_in _ _ | exact pm_shl_in _ _ | exact pm_cmp_in _ _ | exact pm_b8_in _ | (unfold pm_inI; split <;> omega)) (by first | (unfold pm_inI; omega) | exact pm_and_in _ _ | exact pm_shr_in _ _ | exact pm_or_in _ _ | exact pm_xor_in _ _ | exact pm_shl_in _ _ | exact pm_cmp_in _ _ | exact pm_b8_in _ | (unfold pm_inI; split <;> omega)) (fun h28 => ?_) (fun h28 => ?_)
                      · replace h28 : (b0 : Int) ≤ (min (min 1000000 ((tB T : Int) + (xB : Int))) (a0 : Int)) := h28
                        refine g_iconst lk_117_218 ?_
                        refine g_istore_n (ls' := [(2, ((47 : Nat) : Int)), (0, (k : Int)), (0, 0), (0, ((2 ^ tR T - 1 : Nat) : Int)), (0, ((2 ^ tC T - 1 : Nat) : Int)), (0, (rs : Int)), (0, (cs : Int)), (0, (num T rs cs : Int)), (0, (min (min 1000000 ((tA T : Int) + (xA : Int))) (b0 : Int))), (0, (min (min 1000000 ((tB T : Int) + (xB : Int))) (a0 : Int))), (0, (a0 : Int))]) lk_117_219 rfl rfl ?_
                        refine g_aload_n lk_117_220 rfl ?_
                        refine m_getfield (u := []) (M := K2) lk_117_221 rfl (lay2.on (by decide) rfl) (v := ((ga : Nat) : Int)) (by first | exact e3K | exact e3K1 | exact e3) ?_
                        refine g_iload lk_117_224 rfl ?_
                        refine g_iload lk_117_226 rfl ?_
                        refine s_iastore (M := K2) lk_117_228 (by first | exact ayAK | exact ayA) (by omega) (j := (num T rs cs)) (by omega) (fun N29 hN29 => ?_)
                        have lay29 : Lay N29 := (by rw [hN29]; exact lay2.upA frA)
                        refine g_aload_n lk_117_229 rfl ?_
                        refine m_getfield (u := []) (M := N29) lk_117_230 rfl (lay29.on (by decide) rfl) (v := ((gb : Nat) : Int)) (by first | exact e4K | exact e4K1 | exact e4 | exact gUp e4K hN29 | exact gUp e4 hN29) ?_
                        refine g_iload lk_117_233 rfl ?_
                        refine g_iload lk_117_235 rfl ?_
                        refine s_iastore (M := N29) lk_117_237 (by first | exact ayBK | exact ayB | exact gAy ayBK hN29 | exact gAy ayB hN29) (by omega) (j := (num T rs cs)) (by omega) (fun N30 hN30 => ?_)
                        have lay30 : Lay N30 := (by rw [hN30]; exact lay29.upA frB)
                        refine g_iinc (ls' := [(2, ((47 : Nat) : Int)), (0, (k : Int)), (0, 0), (0, ((2 ^ tR T - 1 : Nat) : Int)), (0, ((2 ^ tC T - 1 : Nat) : Int)), (0, (rs : Int)), (0, ((cs : Int) + 1)), (0, (num T rs cs : Int)), (0, (min (min 1000000 ((tA T : Int) + (xA : Int))) (b0 : Int))), (0, (min (min 1000000 ((tB T : Int) + (xB : Int))) (a0 : Int))), (0, (a0 : Int))]) lk_117_238 rfl rfl rfl ?_
                        refine g_goto (t := 39) lk_117_241 rfl ?_
                        have al : ¬ pop (vIn T rs cs) < 2 := fun q => by rw [if_pos q] at h4; exact h4 (fun z => by cases z)
                        rw [if_neg al] at stA stB
                        exact next K2 N29 N30 _ _ 0 _ _ _ _ hN29 hN30 lay30 (f1.trans f2) (fun j hj => (f2k j hj).trans (f1k j hj)) (by rw [stA]; omega) (by rw [stB]; omega) (Or.inr ⟨rfl, hk0, by omega, by rw [stA]; omega, by rw [stB]; omega⟩)
                      · replace h28 : ¬ ((b0 : Int) ≤ (min (min 1000000 ((tB T : Int) + (xB : Int))) (a0 : Int))) := h28
                        refine g_iconst lk_117_214 ?_
                        refine g_goto (t := 219) lk_117_215 rfl ?_
                        refine g_istore_n (ls' := [(2, ((47 : Nat) : Int)), (0, (k : Int)), (0, 1), (0, ((2 ^ tR T - 1 : Nat) : Int)), (0, ((2 ^ tC T - 1 : Nat) : Int)), (0, (rs : Int)), (0, (cs : Int)), (0, (num T rs cs : Int)), (0, (min (min 1000000 ((tA T : Int) + (xA : Int))) (b0 : Int))), (0, (min (min 1000000 ((tB T : Int) + (xB : Int))) (a0 : Int))), (0, (a0 : Int))]) lk_117_219 rfl rfl ?_
                        refine g_aload_n lk_117_220 rfl ?_
                        refine m_getfield (u := []) (M := K2) lk_117_221 rfl (lay2.on (by decide) rfl) (v := ((ga : Nat) : Int)) (by first | exact e3K | exact e3K1 | exact e3) ?_
                        refine g_iload lk_117_224 rfl ?_
                        refine g_iload lk_117_226 rfl ?_
                        refine s_iastore (M := K2) lk_117_228 (by first | exact ayAK | exact ayA) (by omega) (j := (num T rs cs)) (by omega) (fun N31 hN31 => ?_)
                        have lay31 : Lay N31 := (by rw [hN31]; exact lay2.upA frA)
                        refine g_aload_n lk_117_229 rfl ?_
                        refine m_getfield (u := []) (M := N31) lk_117_230 rfl (lay31.on (by decide) rfl) (v := ((gb : Nat) : Int)) (by first | exact e4K | exact e4K1 | exact e4 | exact gUp e4K hN31 | exact gUp e4 hN31) ?_
                        refine g_iload lk_117_233 rfl ?_
                        refine g_iload lk_117_235 rfl ?_
                        refine s_iastore (M := N31) lk_117_237 (by first | exact ayBK | exact ayB | exact gAy ayBK hN31 | exact gAy ayB hN31) (by omega) (j := (num T rs cs)) (by omega) (fun N32 hN32 => ?_)
                        have lay32 : Lay N32 := (by rw [hN32]; exact lay31.upA frB)
                        refine g_iinc (ls' := [(2, ((47 : Nat) : Int)), (0, (k : Int)), (0, 1), (0, ((2 ^ tR T - 1 : Nat) : Int)), (0, ((2 ^ tC T - 1 : Nat) : Int)), (0, (rs : Int)), (0, ((cs : Int) + 1)), (0, (num T rs cs : Int)), (0, (min (min 1000000 ((tA T : Int) + (xA : Int))) (b0 : Int))), (0, (min (min 1000000 ((tB T : Int) + (xB : Int))) (a0 : Int))), (0, (a0 : Int))]) lk_117_238 rfl rfl rfl ?_
                        refine g_goto (t := 39) lk_117_241 rfl ?_
                        have al : ¬ pop (vIn T rs cs) < 2 := fun q => by rw [if_pos q] at h4; exact h4 (fun z => by cases z)
                        rw [if_neg al] at stA stB
                        exact next K2 N31 N32 _ _ 1 _ _ _ _ hN31 hN32 lay32 (f1.trans f2) (fun j hj => (f2k j hj).trans (f1k j hj)) (by rw [stA]; omega) (by rw [stB]; omega) (Or.inl rfl)
      rw [← hrs]
      have hst2 := hst
      rw [hSt] at hst2
      obtain ⟨lay, -⟩ := hst2
      rw [← hrs] at hst
      refine g_iload lk_117_30 rfl ?_
      refine g_iload_n lk_117_32 rfl ?_
      refine g_icmp (t := 250) lk_117_33 rfl (by (first | (unfold pm_inI; omega))) (by (first | (unfold pm_inI; omega))) (fun h1 => ?_) (fun h1 => ?_)
      · replace h1 : ((2 ^ tR T - 1 : Nat) : Int) < (rs : Int) := h1
        refine g_iload_n lk_117_250 rfl ?_
        refine g_ireturn lk_117_251 (fun _ => by omega) ?_
        omega
      · replace h1 : ¬ (((2 ^ tR T - 1 : Nat) : Int) < (rs : Int)) := h1
        refine g_iconst lk_117_36 ?_
        refine g_istore (ls' := [(2, ((47 : Nat) : Int)), (0, (k : Int)), (0, (c : Int)), (0, ((2 ^ tR T - 1 : Nat) : Int)), (0, ((2 ^ tC T - 1 : Nat) : Int)), (0, (rs : Int)), (0, 1), v7, v8, v9, v10]) lk_117_37 rfl rfl ?_
        exact inner (2 ^ tC T - 1) 0 c _ _ _ _ N (by omega) hst
  have hM := hM0
  have no : ∀ a b, inT T a b → ¬ bef (0 + 1) 1 a b := fun a b h q => by have := h.1; have := h.2.2.1; unfold bef at q; omega
  show Wp (d + 2) 117 0 [(2, ((47 : Nat) : Int)), (0, (k : Int)), (9, 0), (9, 0), (9, 0), (9, 0), (9, 0), (9, 0), (9, 0), (9, 0), (9, 0)] [] M mc ms Q
  refine g_iload_n lk_117_0 rfl ?_
  refine g_if (t := 8) lk_117_1 rfl (by first | (unfold pm_inI; omega) | exact pm_and_in _ _ | exact pm_shr_in _ _ | exact pm_or_in _ _ | exact pm_xor_in _ _ | exact pm_shl_in _ _ | exact pm_cmp_in _ _ | exact pm_b8_in _ | (unfold pm_inI; split <;> omega)) (fun h1 => ?_) (fun h1 => ?_)
  · replace h1 : ¬ (k : Int) = 0 := h1
    refine g_iconst lk_117_8 ?_
    refine g_istore_n (ls' := [(2, ((47 : Nat) : Int)), (0, (k : Int)), (0, 0), (9, 0), (9, 0), (9, 0), (9, 0), (9, 0), (9, 0), (9, 0), (9, 0)]) lk_117_9 rfl rfl ?_
    refine g_aload_n lk_117_10 rfl ?_
    refine g_getfield lk_117_11 rfl (lay0.on (by decide) rfl) (v := ((24 : Nat) : Int)) (lay0.rf rfl) ?_
    refine g_virtual (p := 24) (Qc := _) lk_117_14 rfl (Nat.le_of_ble_eq_true rfl) rfl rfl (lay0.on (by decide) rfl) (Nat.le_of_ble_eq_true rfl) (Nat.le_of_ble_eq_true rfl) (Nat.zero_le _) (Nat.zero_le _) (c_Table_allRows lay0 ht hT hM) ?_
    rintro _ N2 ⟨rfl, hN2⟩
    rw [hN2]
    show Wp _ 117 17 [(2, ((47 : Nat) : Int)), (0, (k : Int)), (0, 0), (9, 0), (9, 0), (9, 0), (9, 0), (9, 0), (9, 0), (9, 0), (9, 0)] [(0, ((2 ^ tR T - 1 : Nat) : Int))] M _ _ _
    refine g_istore_n (ls' := [(2, ((47 : Nat) : Int)), (0, (k : Int)), (0, 0), (0, ((2 ^ tR T - 1 : Nat) : Int)), (9, 0), (9, 0), (9, 0), (9, 0), (9, 0), (9, 0), (9, 0)]) lk_117_17 rfl rfl ?_
    refine g_aload_n lk_117_18 rfl ?_
    refine g_getfield lk_117_19 rfl (lay0.on (by decide) rfl) (v := ((24 : Nat) : Int)) (lay0.rf rfl) ?_
    refine g_virtual (p := 24) (Qc := _) lk_117_22 rfl (Nat.le_of_ble_eq_true rfl) rfl rfl (lay0.on (by decide) rfl) (Nat.le_of_ble_eq_true rfl) (Nat.le_of_ble_eq_true rfl) (Nat.zero_le _) (Nat.zero_le _) (c_Table_allColumns lay0 ht hT hM) ?_
    rintro _ N3 ⟨rfl, hN3⟩
    rw [hN3]
    show Wp _ 117 25 [(2, ((47 : Nat) : Int)), (0, (k : Int)), (0, 0), (0, ((2 ^ tR T - 1 : Nat) : Int)), (9, 0), (9, 0), (9, 0), (9, 0), (9, 0), (9, 0), (9, 0)] [(0, ((2 ^ tC T - 1 : Nat) : Int))] M _ _ _
    refine g_istore (ls' := [(2, ((47 : Nat) : Int)), (0, (k : Int)), (0, 0), (0, ((2 ^ tR T - 1 : Nat) : Int)), (0, ((2 ^ tC T - 1 : Nat) : Int)), (9, 0), (9, 0), (9, 0), (9, 0), (9, 0), (9, 0)]) lk_117_25 rfl rfl ?_
    refine g_iconst lk_117_27 ?_
    refine g_istore (ls' := [(2, ((47 : Nat) : Int)), (0, (k : Int)), (0, 0), (0, ((2 ^ tR T - 1 : Nat) : Int)), (0, ((2 ^ tC T - 1 : Nat) : Int)), (0, 1), (9, 0), (9, 0), (9, 0), (9, 0), (9, 0)]) lk_117_28 rfl rfl ?_
    refine rows (2 ^ tR T - 1) 0 0 _ _ _ _ _ M (by omega) ?_
    rw [hSt]
    exact ⟨lay0, Fr.refl _ _, fun _ _ => rfl, fun a b h q => absurd q (no a b h), fun k1 a b h _ => ⟨(old k1).1 a b h, (old k1).2 a b h⟩, Or.inr ⟨rfl, by omega, fun w a b _ h q => absurd q (no a b h)⟩⟩
  · replace h1 : ¬ (¬ (k : Int) = 0) := h1
    refine g_iconst lk_117_4 ?_
    refine g_goto (t := 9) lk_117_5 rfl ?_
    refine g_istore_n (ls' := [(2, ((47 : Nat) : Int)), (0, (k : Int)), (0, 1), (9, 0), (9, 0), (9, 0), (9, 0), (9, 0), (9, 0), (9, 0), (9, 0)]) lk_117_9 rfl rfl ?_
    refine g_aload_n lk_117_10 rfl ?_
    refine g_getfield lk_117_11 rfl (lay0.on (by decide) rfl) (v := ((24 : Nat) : Int)) (lay0.rf rfl) ?_
    refine g_virtual (p := 24) (Qc := _) lk_117_14 rfl (Nat.le_of_ble_eq_true rfl) rfl rfl (lay0.on (by decide) rfl) (Nat.le_of_ble_eq_true rfl) (Nat.le_of_ble_eq_true rfl) (Nat.zero_le _) (Nat.zero_le _) (c_Table_allRows lay0 ht hT hM) ?_
    rintro _ N4 ⟨rfl, hN4⟩
    rw [hN4]
    show Wp _ 117 17 [(2, ((47 : Nat) : Int)), (0, (k : Int)), (0, 1), (9, 0), (9, 0), (9, 0), (9, 0), (9, 0), (9, 0), (9, 0), (9, 0)] [(0, ((2 ^ tR T - 1 : Nat) : Int))] M _ _ _
    refine g_istore_n (ls' := [(2, ((47 : Nat) : Int)), (0, (k : Int)), (0, 1), (0, ((2 ^ tR T - 1 : Nat) : Int)), (9, 0), (9, 0), (9, 0), (9, 0), (9, 0), (9, 0), (9, 0)]) lk_117_17 rfl rfl ?_
    refine g_aload_n lk_117_18 rfl ?_
    refine g_getfield lk_117_19 rfl (lay0.on (by decide) rfl) (v := ((24 : Nat) : Int)) (lay0.rf rfl) ?_
    refine g_virtual (p := 24) (Qc := _) lk_117_22 rfl (Nat.le_of_ble_eq_true rfl) rfl rfl (lay0.on (by decide) rfl) (Nat.le_of_ble_eq_true rfl) (Nat.le_of_ble_eq_true rfl) (Nat.zero_le _) (Nat.zero_le _) (c_Table_allColumns lay0 ht hT hM) ?_
    rintro _ N5 ⟨rfl, hN5⟩
    rw [hN5]
    show Wp _ 117 25 [(2, ((47 : Nat) : Int)), (0, (k : Int)), (0, 1), (0, ((2 ^ tR T - 1 : Nat) : Int)), (9, 0), (9, 0), (9, 0), (9, 0), (9, 0), (9, 0), (9, 0)] [(0, ((2 ^ tC T - 1 : Nat) : Int))] M _ _ _
    refine g_istore (ls' := [(2, ((47 : Nat) : Int)), (0, (k : Int)), (0, 1), (0, ((2 ^ tR T - 1 : Nat) : Int)), (0, ((2 ^ tC T - 1 : Nat) : Int)), (9, 0), (9, 0), (9, 0), (9, 0), (9, 0), (9, 0)]) lk_117_25 rfl rfl ?_
    refine g_iconst lk_117_27 ?_
    refine g_istore (ls' := [(2, ((47 : Nat) : Int)), (0, (k : Int)), (0, 1), (0, ((2 ^ tR T - 1 : Nat) : Int)), (0, ((2 ^ tC T - 1 : Nat) : Int)), (0, 1), (9, 0), (9, 0), (9, 0), (9, 0), (9, 0)]) lk_117_28 rfl rfl ?_
    refine rows (2 ^ tR T - 1) 0 1 _ _ _ _ _ M (by omega) ?_
    rw [hSt]
    exact ⟨lay0, Fr.refl _ _, fun _ _ => rfl, fun a b h q => absurd q (no a b h), fun k1 a b h _ => ⟨(old k1).1 a b h, (old k1).2 a b h⟩, Or.inl rfl⟩
