/-! ===== the nodes of a tree of a text, the model ===== -/
theorem num_inlM {ch : Nat → Nat} {l n : Nat} {t t' : Tok} {K : pm_M} {ρ : Option pm_V} {e : Nat × Nat} (hs : pNum ch l t = .inl e) (o : (∃ e, pNum ch l t = .inl e ∧ BdM K e ∧ ∃ z : Int, ρ = some (0, z)) ∨ ∃ v : Nat, pNum ch l t = .inr v ∧ v ≤ 9 ∧ l ≤ v ∧ ρ = some (0, (v : Int)) ∧ GdM K ch n t') : ∃ z : Int, ρ = some (0, z) ∧ BdM K e := by
  rcases o with ⟨e', he, a, z, b⟩ | ⟨s, he, _⟩
  · rw [hs] at he; cases he; exact ⟨z, b, a⟩
  · rw [hs] at he; cases he
theorem num_inrM {ch : Nat → Nat} {l n v : Nat} {t t' : Tok} {K : pm_M} {ρ : Option pm_V} (hs : pNum ch l t = .inr v) (o : (∃ e, pNum ch l t = .inl e ∧ BdM K e ∧ ∃ z : Int, ρ = some (0, z)) ∨ ∃ v : Nat, pNum ch l t = .inr v ∧ v ≤ 9 ∧ l ≤ v ∧ ρ = some (0, (v : Int)) ∧ GdM K ch n t') : v ≤ 9 ∧ ρ = some (0, (v : Int)) ∧ GdM K ch n t' := by
  rcases o with ⟨e', he, _⟩ | ⟨s, he, a, _, b, c⟩
  · rw [hs] at he; cases he
  · rw [hs] at he; cases he; exact ⟨a, b, c⟩
theorem set_inlM {ch : Nat → Nat} {m n : Nat} {t t' : Tok} {K : pm_M} {ρ : Option pm_V} {e : Nat × Nat} (hs : pSet ch m t = .inl e) (o : (∃ e, pSet ch m t = .inl e ∧ BdM K e ∧ ∃ z : Int, ρ = some (0, z)) ∨ ∃ s : Nat, pSet ch m t = .inr s ∧ 1 ≤ s ∧ s < 64 ∧ ρ = some (0, (s : Int)) ∧ GdM K ch n t') : ∃ z : Int, ρ = some (0, z) ∧ BdM K e := by
  rcases o with ⟨e', he, a, z, b⟩ | ⟨s, he, _⟩
  · rw [hs] at he; cases he; exact ⟨z, b, a⟩
  · rw [hs] at he; cases he
theorem set_inrM {ch : Nat → Nat} {m n s : Nat} {t t' : Tok} {K : pm_M} {ρ : Option pm_V} (hs : pSet ch m t = .inr s) (o : (∃ e, pSet ch m t = .inl e ∧ BdM K e ∧ ∃ z : Int, ρ = some (0, z)) ∨ ∃ s : Nat, pSet ch m t = .inr s ∧ 1 ≤ s ∧ s < 64 ∧ ρ = some (0, (s : Int)) ∧ GdM K ch n t') : s < 64 ∧ ρ = some (0, (s : Int)) ∧ GdM K ch n t' := by
  rcases o with ⟨e', he, _⟩ | ⟨s', he, _, a, b, c⟩
  · rw [hs] at he; cases he
  · rw [hs] at he; cases he; exact ⟨a, b, c⟩
theorem MF.mu0 {S K : List Nat} (M : pm_M) (l : List (Nat × (Nat → Int))) (hl : (l.all (fun q => (116 :: S).elem q.1)) = true) (hk : al l 116 (pm_ct M 116) = pm_ct M 116) : MF S K M (Mu l M) := MF.mu M l hl (fun k _ => congrFun hk k)
abbrev TtM (M N : pm_M) : Prop := MF [127, 128, 129, 130, 131, 133] [25, 26, 27, 28, 31, 32, 35] M N
abbrev TtL (M N : pm_M) : Prop := MF [128, 129, 130, 131, 133] [25, 26, 27, 28, 31, 32, 35] M N
theorem MF.tt {M N : pm_M} (h : MF [128, 129, 130, 131, 133] [25, 26, 27, 28, 31, 32, 35] M N) : TtM M N := h.mono (fun a q => by simp at q ⊢; omega) (fun a q => q)
/-- nodes before b and those that wait before w stand -/
def NdB (K N : pm_M) (b w : Nat) : Prop := Blw K N 127 b ∧ (∀ j, j < b → pm_ct N 131 j = pm_ct K 131 j) ∧ ∀ j, j < w → pm_ct N 133 j = pm_ct K 133 j
theorem NdB.trans {K N P : pm_M} {b w b' w' : Nat} (h : NdB K N b w) (g : NdB N P b' w') (hb : b ≤ b') (hw : w ≤ w') : NdB K P b w :=
  ⟨fun i hi => by
    obtain ⟨a1, a2, a3⟩ := h.1 i hi
    obtain ⟨b1, b2, b3⟩ := g.1 i (by omega)
    exact ⟨b1.trans a1, b2.trans a2, b3.trans a3⟩, fun j hj => (g.2.1 j (by omega)).trans (h.2.1 j hj), fun j hj => (g.2.2 j (by omega)).trans (h.2.2 j hj)⟩
theorem NdB.mf {S F : List Nat} {K N : pm_M} (h : MF S F K N) (hS : ∀ a, a ∈ [128, 129, 130, 131, 133] → a ∉ S) (b w : Nat) : NdB K N b w :=
  ⟨fun i _ => by
    rw [h.ct (a := 127 + 1) (hS 128 (by decide)) (by decide), h.ct (a := 127 + 2) (hS 129 (by decide)) (by decide), h.ct (a := 127 + 3) (hS 130 (by decide)) (by decide)]
    exact ⟨rfl, rfl, rfl⟩, fun j _ => by rw [h.ct (hS 131 (by decide)) (by decide)], fun j _ => by rw [h.ct (hS 133 (by decide)) (by decide)]⟩
/-- those that wait are nodes before b, not deep -/
def WtOK (K : pm_M) (w b : Nat) : Prop := ∀ j, j < w → 0 ≤ pm_ct K 133 j ∧ pm_ct K 133 j < (b : Int) ∧ 0 ≤ pm_ct K 131 (pm_ct K 133 j).toNat ∧ pm_ct K 131 (pm_ct K 133 j).toNat ≤ 9
theorem WtOK.nd {K N : pm_M} {w w' b b' b2 : Nat} (h : WtOK K w b) (g : NdB K N b2 w') (hw : w ≤ w') (hb : b ≤ b2) (hc : b ≤ b') : WtOK N w b' := fun j hj => by
  obtain ⟨a1, a2, a3, a4⟩ := h j hj
  rw [g.2.2 j (by omega), g.2.1 (pm_ct K 133 j).toNat (by omega)]
  exact ⟨a1, by omega, a3, a4⟩
theorem KdM.upd {K N : pm_M} {b : Nat} {x : Int} (h : KdM K 128) (e : pm_ct N 128 = pm_upd (pm_ct K 128) b x) (x0 : 0 ≤ x) (x2 : x ≤ 2) : KdM N 128 := fun k hk => by
  rw [e]
  by_cases q : k = b
  · rw [q, pm_upd_eq]; exact ⟨x0, x2⟩
  · rw [pm_upd_ne q]; exact h k hk
theorem mo_end {d mc ms B c k : Nat} {Q : pm_Q} {K : pm_M} (lay : Lay K) (f6 : pm_ct K 116 6 = (k : Int)) (k4 : k < 4) (c31 : c ≤ 31) {v3 v4 v5 : pm_V} (ok : ∀ N : pm_M, Lay N → MF [127] [] K N → pm_ct N 127 = pm_upd (pm_ct K 127) k (c : Int) → Q none N) :
    Wp (d + 3) 195 278 [(2, ((116 : Nat) : Int)), (0, (B : Int)), (0, (c : Int)), v3, v4, v5] [] K mc ms Q := by
  refine g_aload_n lk_195_278 rfl ?_
  refine g_getfield lk_195_279 rfl (lay.on (by decide) rfl) (v := ((127 : Nat) : Int)) (lay.rf rfl) ?_
  refine g_aload_n lk_195_282 rfl ?_
  refine m_getfield (u := []) (M := K) lk_195_283 rfl (lay.on (by decide) rfl) (v := (k : Int)) f6 ?_
  refine g_iload_n lk_195_286 rfl ?_
  have lay1 : Lay (Mu [(127, pm_upd (pm_ct K 127) k (c : Int))] K) := lay.muA (l := []) (a := 127) (f := pm_upd (pm_ct K 127) k (c : Int)) rfl rfl
  refine m_iastore (u := []) (u' := [(127, pm_upd (pm_ct K 127) k (c : Int))]) (M := K) lk_195_287 (lay.ay (by decide) rfl) (by omega) (j := k) (by omega) rfl ?_
  refine g_return lk_195_288 ?_
  exact ok (Mu [(127, pm_upd (pm_ct K 127) k (c : Int))] K) lay1 (MF.mu _ _ rfl (fun _ _ => rfl)) (by rw [Mu_ct]; rfl)
theorem mo_bad20 {d mc ms B c k : Nat} {Q : pm_Q} {M K : pm_M} {e : Nat × Nat} (lay : Lay K) (f6 : pm_ct M 116 6 = (k : Int)) (k4 : k < 4) (c31 : c ≤ 31) (hF : TtM M K) (hKd : KdM K 128) (hB : BdM K e) {v4 v5 : pm_V} (bad : ∀ N : pm_M, Lay N → TtM M N → KdM N 128 → BdM N e → Q none N) :
    Wp (d + 3) 195 20 [(2, ((116 : Nat) : Int)), (0, (B : Int)), (0, (c : Int)), (0, 1), v4, v5] [] K mc ms Q := by
  have ig := hB.ig lay (d := d + 2) (mc := 0) (ms := 0)
  have f6' : pm_ct K 116 6 = (k : Int) := by rw [hF.fd (by decide)]; exact f6
  refine g_iload_n lk_195_20 rfl ?_
  refine g_if (t := 278) lk_195_21 rfl (by first | (unfold pm_inI; omega) | exact pm_and_in _ _ | exact pm_shr_in _ _ | exact pm_or_in _ _ | exact pm_xor_in _ _ | exact pm_shl_in _ _ | exact pm_cmp_in _ _ | exact pm_b8_in _ | (unfold pm_inI; split <;> omega)) (fun h => absurd h (show ¬ ((1 : Int) = (0 : Int)) by omega)) (fun _ => ?_)
  refine g_aload_n lk_195_24 rfl ?_
  refine g_virtual (p := 116) (Qc := _) lk_195_25 rfl (Nat.le_of_ble_eq_true rfl) rfl rfl (lay.on (by decide) rfl) (Nat.le_of_ble_eq_true rfl) (Nat.le_of_ble_eq_true rfl) (Nat.zero_le _) (Nat.zero_le _) (ig) ?_
  rintro _ N1 ⟨rfl, hN1⟩
  rw [hN1]
  show Wp _ 195 28 [(2, ((116 : Nat) : Int)), (0, (B : Int)), (0, (c : Int)), (0, 1), v4, v5] [(0, 0)] K _ _ _
  refine g_if (t := 278) lk_195_28 rfl (by first | (unfold pm_inI; omega) | exact pm_and_in _ _ | exact pm_shr_in _ _ | exact pm_or_in _ _ | exact pm_xor_in _ _ | exact pm_shl_in _ _ | exact pm_cmp_in _ _ | exact pm_b8_in _ | (unfold pm_inI; split <;> omega)) (fun _ => ?_) (fun h => absurd (show (0 : Int) = (0 : Int) by omega) h)
  exact mo_end lay f6' k4 c31 (fun N l m _ => bad N l (hF.trans (m.mono (fun a q => by simp at q ⊢; omega) (fun a q => by cases q))) (hKd.mf m (by decide) (by decide)) (hB.mf m (by decide) (by decide)))
theorem mo_bad64 {d mc ms B c g : Nat} {Q : pm_Q} {K : pm_M} {e : Nat × Nat} (lay : Lay K) (hB : BdM K e) {v5 : pm_V} (bad : Q none K) :
    Wp (d + 3) 195 64 [(2, ((116 : Nat) : Int)), (0, (B : Int)), (0, (c : Int)), (0, 1), (0, (g : Int)), v5] [] K mc ms Q := by
  have ig := hB.ig lay (d := d + 2) (mc := 0) (ms := 0)
  refine g_aload_n lk_195_64 rfl ?_
  refine g_virtual (p := 116) (Qc := _) lk_195_65 rfl (Nat.le_of_ble_eq_true rfl) rfl rfl (lay.on (by decide) rfl) (Nat.le_of_ble_eq_true rfl) (Nat.le_of_ble_eq_true rfl) (Nat.zero_le _) (Nat.zero_le _) (ig) ?_
  rintro _ N1 ⟨rfl, hN1⟩
  rw [hN1]
  show Wp _ 195 68 [(2, ((116 : Nat) : Int)), (0, (B : Int)), (0, (c : Int)), (0, 1), (0, (g : Int)), v5] [(0, 0)] K _ _ _
  refine g_if (t := 72) lk_195_68 rfl (by first | (unfold pm_inI; omega) | exact pm_and_in _ _ | exact pm_shr_in _ _ | exact pm_or_in _ _ | exact pm_xor_in _ _ | exact pm_shl_in _ _ | exact pm_cmp_in _ _ | exact pm_b8_in _ | (unfold pm_inI; split <;> omega)) (fun h => absurd h (show ¬ (¬ (0 : Int) = (0 : Int)) by omega)) (fun _ => ?_)
  refine g_return lk_195_71 ?_
  exact bad
theorem mo_pop {d mc ms B c w b g : Nat} {Q : pm_Q} {K : pm_M} (lay : Lay K) (h35 : pm_ct K 116 35 = ((w + 1 : Nat) : Int)) (w9 : w ≤ 9) (hw : pm_ct K 133 w = (b : Int)) (b4 : b < 124) (hd : pm_ct K 131 b = (g : Int)) (g9 : g ≤ 9) (c31 : c ≤ 31) {z4 : Int} {v5 : pm_V} (ok : ∀ N : pm_M, Lay N → MF [130] [35] K N → pm_ct N 116 35 = (w : Int) → pm_ct N 130 = pm_upd (pm_ct K 130) b (c : Int) → Wp (d + 3) 195 20 [(2, ((116 : Nat) : Int)), (0, (B : Int)), (0, (c : Int)), (0, 1), (0, ((g + 1 : Nat) : Int)), v5] [] N mc ms Q) :
    Wp (d + 3) 195 215 [(2, ((116 : Nat) : Int)), (0, (B : Int)), (0, (c : Int)), (0, 1), (0, z4), v5] [] K mc ms Q := by
  have e1 : ((w + 1 : Nat) : Int) - 1 = (w : Int) := by omega
  have e2 : (g : Int) + 1 = ((g + 1 : Nat) : Int) := by omega
  refine g_aload_n lk_195_215 rfl ?_
  refine m_getfield (u := []) (M := K) lk_195_216 rfl (lay.on (by decide) rfl) (v := ((w + 1 : Nat) : Int)) h35 ?_
  refine g_if (t := 226) lk_195_219 rfl (by first | (unfold pm_inI; omega) | exact pm_and_in _ _ | exact pm_shr_in _ _ | exact pm_or_in _ _ | exact pm_xor_in _ _ | exact pm_shl_in _ _ | exact pm_cmp_in _ _ | exact pm_b8_in _ | (unfold pm_inI; split <;> omega)) (fun h1 => ?_) (fun h1 => ?_)
  · replace h1 : ((w + 1 : Nat) : Int) ≤ 0 := h1
    omega
  · replace h1 : ¬ (((w + 1 : Nat) : Int) ≤ 0) := h1
    refine g_iconst lk_195_222 ?_
    refine g_goto (t := 227) lk_195_223 rfl ?_
    refine g_istore_n (ls' := [(2, ((116 : Nat) : Int)), (0, (B : Int)), (0, (c : Int)), (0, 1), (0, z4), v5]) lk_195_227 rfl rfl ?_
    refine g_iload_n lk_195_228 rfl ?_
    refine g_if (t := 275) lk_195_229 rfl (by first | (unfold pm_inI; omega) | exact pm_and_in _ _ | exact pm_shr_in _ _ | exact pm_or_in _ _ | exact pm_xor_in _ _ | exact pm_shl_in _ _ | exact pm_cmp_in _ _ | exact pm_b8_in _ | (unfold pm_inI; split <;> omega)) (fun h => absurd h (show ¬ ((1 : Int) = (0 : Int)) by omega)) (fun _ => ?_)
    refine g_aload_n lk_195_232 rfl ?_
    refine g_dup lk_195_233 rfl ?_
    refine m_getfield (u := []) (M := K) lk_195_234 rfl (lay.on (by decide) rfl) (v := ((w + 1 : Nat) : Int)) h35 ?_
    refine g_iconst lk_195_237 ?_
    refine g_isub lk_195_238 ?_
    refine g_top (z := (((w + 1 : Nat) : Int) - 1)) (z' := (w : Int)) (e1) ?_
    have lay2 : Lay (Mu [(116, pm_upd (pm_ct K 116) 35 (w : Int))] K) := lay.muF (l := []) (a := 116) (k := 35) (z := (w : Int)) rfl rfl
    refine m_putfield (u := []) (u' := [(116, pm_upd (pm_ct K 116) 35 (w : Int))]) (M := K) lk_195_239 rfl (lay.on (by decide) rfl) (fun h => absurd h (by decide)) rfl ?_
    refine g_aload_n lk_195_242 rfl ?_
    refine g_getfield lk_195_243 rfl (lay2.on (by decide) rfl) (v := ((130 : Nat) : Int)) (lay2.rf rfl) ?_
    refine g_aload_n lk_195_246 rfl ?_
    refine g_getfield lk_195_247 rfl (lay2.on (by decide) rfl) (v := ((133 : Nat) : Int)) (lay2.rf rfl) ?_
    refine g_aload_n lk_195_250 rfl ?_
    refine m_getfield (u := [(116, pm_upd (pm_ct K 116) 35 (w : Int))]) (M := K) lk_195_251 rfl (lay2.on (by decide) rfl) (v := (w : Int)) rfl ?_
    refine m_iaload (u := [(116, pm_upd (pm_ct K 116) 35 (w : Int))]) (M := K) lk_195_254 (lay2.ay (by decide) rfl) (by omega) (j := w) (by omega) (v := (b : Int)) hw ?_
    refine g_iload_n lk_195_255 rfl ?_
    have lay3 : Lay (Mu [(116, pm_upd (pm_ct K 116) 35 (w : Int)), (130, pm_upd (pm_ct K 130) b (c : Int))] K) := lay2.muA (l := [(116, pm_upd (pm_ct K 116) 35 (w : Int))]) (a := 130) (f := pm_upd (pm_ct K 130) b (c : Int)) rfl rfl
    refine m_iastore (u := [(116, pm_upd (pm_ct K 116) 35 (w : Int))]) (u' := [(116, pm_upd (pm_ct K 116) 35 (w : Int)), (130, pm_upd (pm_ct K 130) b (c : Int))]) (M := K) lk_195_256 (lay2.ay (by decide) rfl) (by omega) (j := b) (by omega) rfl ?_
    refine g_aload_n lk_195_257 rfl ?_
    refine g_getfield lk_195_258 rfl (lay3.on (by decide) rfl) (v := ((131 : Nat) : Int)) (lay3.rf rfl) ?_
    refine g_aload_n lk_195_261 rfl ?_
    refine g_getfield lk_195_262 rfl (lay3.on (by decide) rfl) (v := ((133 : Nat) : Int)) (lay3.rf rfl) ?_
    refine g_aload_n lk_195_265 rfl ?_
    refine m_getfield (u := [(116, pm_upd (pm_ct K 116) 35 (w : Int)), (130, pm_upd (pm_ct K 130) b (c : Int))]) (M := K) lk_195_266 rfl (lay3.on (by decide) rfl) (v := (w : Int)) rfl ?_
    refine m_iaload (u := [(116, pm_upd (pm_ct K 116) 35 (w : Int)), (130, pm_upd (pm_ct K 130) b (c : Int))]) (M := K) lk_195_269 (lay3.ay (by decide) rfl) (by omega) (j := w) (by omega) (v := (b : Int)) hw ?_
    refine m_iaload (u := [(116, pm_upd (pm_ct K 116) 35 (w : Int)), (130, pm_upd (pm_ct K 130) b (c : Int))]) (M := K) lk_195_270 (lay3.ay (by decide) rfl) (by omega) (j := b) (by omega) (v := (g : Int)) hd ?_
    refine g_iconst lk_195_271 ?_
    refine g_iadd lk_195_272 ?_
    refine g_top (z := ((g : Int) + 1)) (z' := ((g + 1 : Nat) : Int)) (e2) ?_
    refine g_istore (ls' := [(2, ((116 : Nat) : Int)), (0, (B : Int)), (0, (c : Int)), (0, 1), (0, ((g + 1 : Nat) : Int)), v5]) lk_195_273 rfl rfl ?_
    refine g_goto (t := 20) lk_195_275 rfl ?_
    exact ok (Mu [(116, pm_upd (pm_ct K 116) 35 (w : Int)), (130, pm_upd (pm_ct K 130) b (c : Int))] K) lay3 (MF.mu _ _ rfl (fun k hk => upd_ne (by intro q; rw [q] at hk; exact hk (by decide)))) (by rw [Mu_ct]; rfl) (by rw [Mu_ct]; rfl)
theorem mo_last {d mc ms B c k : Nat} {Q : pm_Q} {K : pm_M} (lay : Lay K) (h35 : pm_ct K 116 35 = 0) (f6 : pm_ct K 116 6 = (k : Int)) (k4 : k < 4) (c31 : c ≤ 31) {z4 : Int} {v5 : pm_V} (ok : ∀ N : pm_M, Lay N → MF [127] [] K N → pm_ct N 127 = pm_upd (pm_ct K 127) k (c : Int) → Q none N) :
    Wp (d + 3) 195 215 [(2, ((116 : Nat) : Int)), (0, (B : Int)), (0, (c : Int)), (0, 1), (0, z4), v5] [] K mc ms Q := by
  have k20 : Wp (d + 3) 195 20 [(2, ((116 : Nat) : Int)), (0, (B : Int)), (0, (c : Int)), (0, 0), (0, z4), v5] [] K mc ms Q := by
    refine g_iload_n lk_195_20 rfl ?_
    refine g_if (t := 278) lk_195_21 rfl (by first | (unfold pm_inI; omega) | exact pm_and_in _ _ | exact pm_shr_in _ _ | exact pm_or_in _ _ | exact pm_xor_in _ _ | exact pm_shl_in _ _ | exact pm_cmp_in _ _ | exact pm_b8_in _ | (unfold pm_inI; split <;> omega)) (fun _ => ?_) (fun h => absurd (show (0 : Int) = (0 : Int) by omega) h)
    exact mo_end lay f6 k4 c31 ok
  refine g_aload_n lk_195_215 rfl ?_
  refine m_getfield (u := []) (M := K) lk_195_216 rfl (lay.on (by decide) rfl) (v := 0) h35 ?_
  refine g_if (t := 226) lk_195_219 rfl (by first | (unfold pm_inI; omega) | exact pm_and_in _ _ | exact pm_shr_in _ _ | exact pm_or_in _ _ | exact pm_xor_in _ _ | exact pm_shl_in _ _ | exact pm_cmp_in _ _ | exact pm_b8_in _ | (unfold pm_inI; split <;> omega)) (fun _ => ?_) (fun h => absurd (show (0 : Int) ≤ (0 : Int) by omega) h)
  refine g_iconst lk_195_226 ?_
  refine g_istore_n (ls' := [(2, ((116 : Nat) : Int)), (0, (B : Int)), (0, (c : Int)), (0, 0), (0, z4), v5]) lk_195_227 rfl rfl ?_
  refine g_iload_n lk_195_228 rfl ?_
  refine g_if (t := 275) lk_195_229 rfl (by first | (unfold pm_inI; omega) | exact pm_and_in _ _ | exact pm_shr_in _ _ | exact pm_or_in _ _ | exact pm_xor_in _ _ | exact pm_shl_in _ _ | exact pm_cmp_in _ _ | exact pm_b8_in _ | (unfold pm_inI; split <;> omega)) (fun _ => ?_) (fun h => absurd (show (0 : Int) = (0 : Int) by omega) h)
  refine g_goto (t := 20) lk_195_275 rfl ?_
  exact k20
theorem mo_bad215 {d mc ms B c k w : Nat} {Q : pm_Q} {M K : pm_M} {e : Nat × Nat} (lay : Lay K) (f6 : pm_ct M 116 6 = (k : Int)) (k4 : k < 4) (c31 : c ≤ 31) (h35 : pm_ct K 116 35 = (w : Int)) (w9 : w ≤ 9) (hF : TtM M K) (hKd : KdM K 128) {b : Nat} (b4 : b ≤ 124) (hW : WtOK K w b) (hB : BdM K e) {z4 : Int} {v5 : pm_V} (bad : ∀ N : pm_M, Lay N → TtM M N → KdM N 128 → BdM N e → Q none N) :
    Wp (d + 3) 195 215 [(2, ((116 : Nat) : Int)), (0, (B : Int)), (0, (c : Int)), (0, 1), (0, z4), v5] [] K mc ms Q := by
  cases w with
  | zero =>
    have f6' : pm_ct K 116 6 = (k : Int) := by rw [hF.fd (by decide)]; exact f6
    exact mo_last lay h35 f6' k4 c31 (fun N l m _ => bad N l (hF.trans (m.mono (fun a q => by simp at q ⊢; omega) (fun a q => by cases q))) (hKd.mf m (by decide) (by decide)) (hB.mf m (by decide) (by decide)))
  | succ w =>
    obtain ⟨a1, a2, a3, a4⟩ := hW w (by omega)
    obtain ⟨y, hy⟩ := Int.eq_ofNat_of_zero_le a1
    rw [hy] at a2 a3 a4
    have a3' : 0 ≤ pm_ct K 131 y := a3
    have a4' : pm_ct K 131 y ≤ 9 := a4
    obtain ⟨g, hg⟩ := Int.eq_ofNat_of_zero_le a3'
    exact mo_pop lay h35 (by omega) hy (by omega) hg (by omega) c31 (fun N l m _ _ => mo_bad20 l f6 k4 c31 (hF.trans (m.mono (fun a q => by simp at q ⊢; omega) (fun a q => by simp at q ⊢; omega))) (hKd.mf m (by decide) (by decide)) (hB.mf m (by decide) (by decide)) bad)
theorem mo_put {d mc ms n B c g b x : Nat} {ch : Nat → Nat} {t : Tok} {Q : pm_Q} {K : pm_M} (lay : Lay K) (hG : GdM K ch n t) (hb : b = B + c) (b4 : b < 124) (t1 : t.1 = 1) (hx : x = if twd ch t = wdA then 1 else if twd ch t = wdB then 2 else 0) {v5 : pm_V} (ok : ∀ N : pm_M, Lay N → MF [128, 130, 131] [] K N → pm_ct N 128 = pm_upd (pm_ct K 128) b (x : Int) → pm_ct N 130 = pm_upd (pm_ct K 130) b (-1) → pm_ct N 131 = pm_upd (pm_ct K 131) b (g : Int) → Wp (d + 3) 195 126 [(2, ((116 : Nat) : Int)), (0, (B : Int)), (0, (c : Int)), (0, 1), (0, (g : Int)), (0, (b : Int))] [] N mc ms Q) :
    Wp (d + 3) 195 72 [(2, ((116 : Nat) : Int)), (0, (B : Int)), (0, (c : Int)), (0, 1), (0, (g : Int)), v5] [] K mc ms Q := by
  have eb : (B : Int) + (c : Int) = (b : Int) := by omega
  have hK := hG.2.2.2
  have w1 : ∀ N : pm_M, Lay N → MF [130, 131] [] K N → pm_E (d + 2) 186 [(2, ((116 : Nat) : Int)), (0, 1)] N 0 0 (fun ρ M' => ρ = some (0, if t.1 = 1 ∧ twd ch t = wdA then 1 else 0) ∧ M' = N) := fun N l m => c_Mo_isWord l (hG.2.2.1.mf m (by decide)) hK (by omega) (fun m hm => (w32_con hm).1)
  have w2 : ∀ N : pm_M, Lay N → MF [130, 131] [] K N → pm_E (d + 2) 186 [(2, ((116 : Nat) : Int)), (0, 2)] N 0 0 (fun ρ M' => ρ = some (0, if t.1 = 1 ∧ twd ch t = wdB then 1 else 0) ∧ M' = N) := fun N l m => c_Mo_isWord l (hG.2.2.1.mf m (by decide)) hK (by omega) (fun m hm => (w32_con hm).2.1)
  by_cases e1 : twd ch t = wdA
  · rw [if_pos e1] at hx
    rw [if_pos ⟨t1, e1⟩] at w1
    subst hx
    refine g_iload_n lk_195_72 rfl ?_
    refine g_iload_n lk_195_73 rfl ?_
    refine g_iadd lk_195_74 ?_
    refine g_top (z := ((B : Int) + (c : Int))) (z' := (b : Int)) (eb) ?_
    refine g_istore (ls' := [(2, ((116 : Nat) : Int)), (0, (B : Int)), (0, (c : Int)), (0, 1), (0, (g : Int)), (0, (b : Int))]) lk_195_75 rfl rfl ?_
    refine g_aload_n lk_195_77 rfl ?_
    refine g_getfield lk_195_78 rfl (lay.on (by decide) rfl) (v := ((131 : Nat) : Int)) (lay.rf rfl) ?_
    refine g_iload lk_195_81 rfl ?_
    refine g_iload lk_195_83 rfl ?_
    have lay1 : Lay (Mu [(131, pm_upd (pm_ct K 131) b (g : Int))] K) := lay.muA (l := []) (a := 131) (f := pm_upd (pm_ct K 131) b (g : Int)) rfl rfl
    refine m_iastore (u := []) (u' := [(131, pm_upd (pm_ct K 131) b (g : Int))]) (M := K) lk_195_85 (lay.ay (by decide) rfl) (by omega) (j := b) (by omega) rfl ?_
    refine g_aload_n lk_195_86 rfl ?_
    refine g_getfield lk_195_87 rfl (lay1.on (by decide) rfl) (v := ((130 : Nat) : Int)) (lay1.rf rfl) ?_
    refine g_iload lk_195_90 rfl ?_
    refine g_iconst lk_195_92 ?_
    have lay2 : Lay (Mu [(131, pm_upd (pm_ct K 131) b (g : Int)), (130, pm_upd (pm_ct K 130) b (-1))] K) := lay1.muA (l := [(131, pm_upd (pm_ct K 131) b (g : Int))]) (a := 130) (f := pm_upd (pm_ct K 130) b (-1)) rfl rfl
    refine m_iastore (u := [(131, pm_upd (pm_ct K 131) b (g : Int))]) (u' := [(131, pm_upd (pm_ct K 131) b (g : Int)), (130, pm_upd (pm_ct K 130) b (-1))]) (M := K) lk_195_93 (lay1.ay (by decide) rfl) (by omega) (j := b) (by omega) rfl ?_
    refine g_aload_n lk_195_94 rfl ?_
    refine g_getfield lk_195_95 rfl (lay2.on (by decide) rfl) (v := ((128 : Nat) : Int)) (lay2.rf rfl) ?_
    refine g_iload lk_195_98 rfl ?_
    refine g_aload_n lk_195_100 rfl ?_
    refine g_iconst lk_195_101 ?_
    refine g_virtual (p := 116) (Qc := _) lk_195_102 rfl (Nat.le_of_ble_eq_true rfl) rfl rfl (lay2.on (by decide) rfl) (Nat.le_of_ble_eq_true rfl) (Nat.le_of_ble_eq_true rfl) (Nat.zero_le _) (Nat.zero_le _) (w1 _ lay2 (MF.mu0 _ _ rfl rfl)) ?_
    rintro _ N3 ⟨rfl, hN3⟩
    rw [hN3]
    show Wp _ 195 105 [(2, ((116 : Nat) : Int)), (0, (B : Int)), (0, (c : Int)), (0, 1), (0, (g : Int)), (0, (b : Int))] [(0, 1), (0, (b : Int)), (2, ((128 : Nat) : Int))] (Mu [(131, pm_upd (pm_ct K 131) b (g : Int)), (130, pm_upd (pm_ct K 130) b (-1))] K) _ _ _
    refine g_if (t := 112) lk_195_105 rfl (by first | (unfold pm_inI; omega) | exact pm_and_in _ _ | exact pm_shr_in _ _ | exact pm_or_in _ _ | exact pm_xor_in _ _ | exact pm_shl_in _ _ | exact pm_cmp_in _ _ | exact pm_b8_in _ | (unfold pm_inI; split <;> omega)) (fun h => absurd h (show ¬ ((1 : Int) = (0 : Int)) by omega)) (fun _ => ?_)
    refine g_iconst lk_195_108 ?_
    refine g_goto (t := 125) lk_195_109 rfl ?_
    have lay4 : Lay (Mu [(131, pm_upd (pm_ct K 131) b (g : Int)), (130, pm_upd (pm_ct K 130) b (-1)), (128, pm_upd (pm_ct K 128) b 1)] K) := lay2.muA (l := [(131, pm_upd (pm_ct K 131) b (g : Int)), (130, pm_upd (pm_ct K 130) b (-1))]) (a := 128) (f := pm_upd (pm_ct K 128) b 1) rfl rfl
    refine m_iastore (u := [(131, pm_upd (pm_ct K 131) b (g : Int)), (130, pm_upd (pm_ct K 130) b (-1))]) (u' := [(131, pm_upd (pm_ct K 131) b (g : Int)), (130, pm_upd (pm_ct K 130) b (-1)), (128, pm_upd (pm_ct K 128) b 1)]) (M := K) lk_195_125 (lay2.ay (by decide) rfl) (by omega) (j := b) (by omega) rfl ?_
    exact ok (Mu [(131, pm_upd (pm_ct K 131) b (g : Int)), (130, pm_upd (pm_ct K 130) b (-1)), (128, pm_upd (pm_ct K 128) b 1)] K) lay4 (MF.mu _ _ rfl (fun _ _ => rfl)) (by rw [Mu_ct]; rfl) (by rw [Mu_ct]; rfl) (by rw [Mu_ct]; rfl)
  · rw [if_neg e1] at hx
    rw [if_neg (fun q => e1 q.2)] at w1
    by_cases e2 : twd ch t = wdB
    · rw [if_pos e2] at hx
      rw [if_pos ⟨t1, e2⟩] at w2
      subst hx
      refine g_iload_n lk_195_72 rfl ?_
      refine g_iload_n lk_195_73 rfl ?_
      refine g_iadd lk_195_74 ?_
      refine g_top (z := ((B : Int) + (c : Int))) (z' := (b : Int)) (eb) ?_
      refine g_istore (ls' := [(2, ((116 : Nat) : Int)), (0, (B : Int)), (0, (c : Int)), (0, 1), (0, (g : Int)), (0, (b : Int))]) lk_195_75 rfl rfl ?_
      refine g_aload_n lk_195_77 rfl ?_
      refine g_getfield lk_195_78 rfl (lay.on (by decide) rfl) (v := ((131 : Nat) : Int)) (lay.rf rfl) ?_
      refine g_iload lk_195_81 rfl ?_
      refine g_iload lk_195_83 rfl ?_
      have lay1 : Lay (Mu [(131, pm_upd (pm_ct K 131) b (g : Int))] K) := lay.muA (l := []) (a := 131) (f := pm_upd (pm_ct K 131) b (g : Int)) rfl rfl
      refine m_iastore (u := []) (u' := [(131, pm_upd (pm_ct K 131) b (g : Int))]) (M := K) lk_195_85 (lay.ay (by decide) rfl) (by omega) (j := b) (by omega) rfl ?_
      refine g_aload_n lk_195_86 rfl ?_
      refine g_getfield lk_195_87 rfl (lay1.on (by decide) rfl) (v := ((130 : Nat) : Int)) (lay1.rf rfl) ?_
      refine g_iload lk_195_90 rfl ?_
      refine g_iconst lk_195_92 ?_
      have lay2 : Lay (Mu [(131, pm_upd (pm_ct K 131) b (g : Int)), (130, pm_upd (pm_ct K 130) b (-1))] K) := lay1.muA (l := [(131, pm_upd (pm_ct K 131) b (g : Int))]) (a := 130) (f := pm_upd (pm_ct K 130) b (-1)) rfl rfl
      refine m_iastore (u := [(131, pm_upd (pm_ct K 131) b (g : Int))]) (u' := [(131, pm_upd (pm_ct K 131) b (g : Int)), (130, pm_upd (pm_ct K 130) b (-1))]) (M := K) lk_195_93 (lay1.ay (by decide) rfl) (by omega) (j := b) (by omega) rfl ?_
      refine g_aload_n lk_195_94 rfl ?_
      refine g_getfield lk_195_95 rfl (lay2.on (by decide) rfl) (v := ((128 : Nat) : Int)) (lay2.rf rfl) ?_
      refine g_iload lk_195_98 rfl ?_
      refine g_aload_n lk_195_100 rfl ?_
      refine g_iconst lk_195_101 ?_
      refine g_virtual (p := 116) (Qc := _) lk_195_102 rfl (Nat.le_of_ble_eq_true rfl) rfl rfl (lay2.on (by decide) rfl) (Nat.le_of_ble_eq_true rfl) (Nat.le_of_ble_eq_true rfl) (Nat.zero_le _) (Nat.zero_le _) (w1 _ lay2 (MF.mu0 _ _ rfl rfl)) ?_
      rintro _ N3 ⟨rfl, hN3⟩
      rw [hN3]
      show Wp _ 195 105 [(2, ((116 : Nat) : Int)), (0, (B : Int)), (0, (c : Int)), (0, 1), (0, (g : Int)), (0, (b : Int))] [(0, 0), (0, (b : Int)), (2, ((128 : Nat) : Int))] (Mu [(131, pm_upd (pm_ct K 131) b (g : Int)), (130, pm_upd (pm_ct K 130) b (-1))] K) _ _ _
      refine g_if (t := 112) lk_195_105 rfl (by first | (unfold pm_inI; omega) | exact pm_and_in _ _ | exact pm_shr_in _ _ | exact pm_or_in _ _ | exact pm_xor_in _ _ | exact pm_shl_in _ _ | exact pm_cmp_in _ _ | exact pm_b8_in _ | (unfold pm_inI; split <;> omega)) (fun _ => ?_) (fun h => absurd (show (0 : Int) = (0 : Int) by omega) h)
      refine g_aload_n lk_195_112 rfl ?_
      refine g_iconst lk_195_113 ?_
      refine g_virtual (p := 116) (Qc := _) lk_195_114 rfl (Nat.le_of_ble_eq_true rfl) rfl rfl (lay2.on (by decide) rfl) (Nat.le_of_ble_eq_true rfl) (Nat.le_of_ble_eq_true rfl) (Nat.zero_le _) (Nat.zero_le _) (w2 _ lay2 (MF.mu0 _ _ rfl rfl)) ?_
      rintro _ N4 ⟨rfl, hN4⟩
      rw [hN4]
      show Wp _ 195 117 [(2, ((116 : Nat) : Int)), (0, (B : Int)), (0, (c : Int)), (0, 1), (0, (g : Int)), (0, (b : Int))] [(0, 1), (0, (b : Int)), (2, ((128 : Nat) : Int))] (Mu [(131, pm_upd (pm_ct K 131) b (g : Int)), (130, pm_upd (pm_ct K 130) b (-1))] K) _ _ _
      refine g_if (t := 124) lk_195_117 rfl (by first | (unfold pm_inI; omega) | exact pm_and_in _ _ | exact pm_shr_in _ _ | exact pm_or_in _ _ | exact pm_xor_in _ _ | exact pm_shl_in _ _ | exact pm_cmp_in _ _ | exact pm_b8_in _ | (unfold pm_inI; split <;> omega)) (fun h => absurd h (show ¬ ((1 : Int) = (0 : Int)) by omega)) (fun _ => ?_)
      refine g_iconst lk_195_120 ?_
      refine g_goto (t := 125) lk_195_121 rfl ?_
      have lay5 : Lay (Mu [(131, pm_upd (pm_ct K 131) b (g : Int)), (130, pm_upd (pm_ct K 130) b (-1)), (128, pm_upd (pm_ct K 128) b 2)] K) := lay2.muA (l := [(131, pm_upd (pm_ct K 131) b (g : Int)), (130, pm_upd (pm_ct K 130) b (-1))]) (a := 128) (f := pm_upd (pm_ct K 128) b 2) rfl rfl
      refine m_iastore (u := [(131, pm_upd (pm_ct K 131) b (g : Int)), (130, pm_upd (pm_ct K 130) b (-1))]) (u' := [(131, pm_upd (pm_ct K 131) b (g : Int)), (130, pm_upd (pm_ct K 130) b (-1)), (128, pm_upd (pm_ct K 128) b 2)]) (M := K) lk_195_125 (lay2.ay (by decide) rfl) (by omega) (j := b) (by omega) rfl ?_
      exact ok (Mu [(131, pm_upd (pm_ct K 131) b (g : Int)), (130, pm_upd (pm_ct K 130) b (-1)), (128, pm_upd (pm_ct K 128) b 2)] K) lay5 (MF.mu _ _ rfl (fun _ _ => rfl)) (by rw [Mu_ct]; rfl) (by rw [Mu_ct]; rfl) (by rw [Mu_ct]; rfl)
    · rw [if_neg e2] at hx
      rw [if_neg (fun q => e2 q.2)] at w2
      subst hx
      refine g_iload_n lk_195_72 rfl ?_
      refine g_iload_n lk_195_73 rfl ?_
      refine g_iadd lk_195_74 ?_
      refine g_top (z := ((B : Int) + (c : Int))) (z' := (b : Int)) (eb) ?_
      refine g_istore (ls' := [(2, ((116 : Nat) : Int)), (0, (B : Int)), (0, (c : Int)), (0, 1), (0, (g : Int)), (0, (b : Int))]) lk_195_75 rfl rfl ?_
      refine g_aload_n lk_195_77 rfl ?_
      refine g_getfield lk_195_78 rfl (lay.on (by decide) rfl) (v := ((131 : Nat) : Int)) (lay.rf rfl) ?_
      refine g_iload lk_195_81 rfl ?_
      refine g_iload lk_195_83 rfl ?_
      have lay1 : Lay (Mu [(131, pm_upd (pm_ct K 131) b (g : Int))] K) := lay.muA (l := []) (a := 131) (f := pm_upd (pm_ct K 131) b (g : Int)) rfl rfl
      refine m_iastore (u := []) (u' := [(131, pm_upd (pm_ct K 131) b (g : Int))]) (M := K) lk_195_85 (lay.ay (by decide) rfl) (by omega) (j := b) (by omega) rfl ?_
      refine g_aload_n lk_195_86 rfl ?_
      refine g_getfield lk_195_87 rfl (lay1.on (by decide) rfl) (v := ((130 : Nat) : Int)) (lay1.rf rfl) ?_
      refine g_iload lk_195_90 rfl ?_
      refine g_iconst lk_195_92 ?_
      have lay2 : Lay (Mu [(131, pm_upd (pm_ct K 131) b (g : Int)), (130, pm_upd (pm_ct K 130) b (-1))] K) := lay1.muA (l := [(131, pm_upd (pm_ct K 131) b (g : Int))]) (a := 130) (f := pm_upd (pm_ct K 130) b (-1)) rfl rfl
      refine m_iastore (u := [(131, pm_upd (pm_ct K 131) b (g : Int))]) (u' := [(131, pm_upd (pm_ct K 131) b (g : Int)), (130, pm_upd (pm_ct K 130) b (-1))]) (M := K) lk_195_93 (lay1.ay (by decide) rfl) (by omega) (j := b) (by omega) rfl ?_
      refine g_aload_n lk_195_94 rfl ?_
      refine g_getfield lk_195_95 rfl (lay2.on (by decide) rfl) (v := ((128 : Nat) : Int)) (lay2.rf rfl) ?_
      refine g_iload lk_195_98 rfl ?_
      refine g_aload_n lk_195_100 rfl ?_
      refine g_iconst lk_195_101 ?_
      refine g_virtual (p := 116) (Qc := _) lk_195_102 rfl (Nat.le_of_ble_eq_true rfl) rfl rfl (lay2.on (by decide) rfl) (Nat.le_of_ble_eq_true rfl) (Nat.le_of_ble_eq_true rfl) (Nat.zero_le _) (Nat.zero_le _) (w1 _ lay2 (MF.mu0 _ _ rfl rfl)) ?_
      rintro _ N3 ⟨rfl, hN3⟩
      rw [hN3]
      show Wp _ 195 105 [(2, ((116 : Nat) : Int)), (0, (B : Int)), (0, (c : Int)), (0, 1), (0, (g : Int)), (0, (b : Int))] [(0, 0), (0, (b : Int)), (2, ((128 : Nat) : Int))] (Mu [(131, pm_upd (pm_ct K 131) b (g : Int)), (130, pm_upd (pm_ct K 130) b (-1))] K) _ _ _
      refine g_if (t := 112) lk_195_105 rfl (by first | (unfold pm_inI; omega) | exact pm_and_in _ _ | exact pm_shr_in _ _ | exact pm_or_in _ _ | exact pm_xor_in _ _ | exact pm_shl_in _ _ | exact pm_cmp_in _ _ | exact pm_b8_in _ | (unfold pm_inI; split <;> omega)) (fun _ => ?_) (fun h => absurd (show (0 : Int) = (0 : Int) by omega) h)
      refine g_aload_n lk_195_112 rfl ?_
      refine g_iconst lk_195_113 ?_
      refine g_virtual (p := 116) (Qc := _) lk_195_114 rfl (Nat.le_of_ble_eq_true rfl) rfl rfl (lay2.on (by decide) rfl) (Nat.le_of_ble_eq_true rfl) (Nat.le_of_ble_eq_true rfl) (Nat.zero_le _) (Nat.zero_le _) (w2 _ lay2 (MF.mu0 _ _ rfl rfl)) ?_
      rintro _ N4 ⟨rfl, hN4⟩
      rw [hN4]
      show Wp _ 195 117 [(2, ((116 : Nat) : Int)), (0, (B : Int)), (0, (c : Int)), (0, 1), (0, (g : Int)), (0, (b : Int))] [(0, 0), (0, (b : Int)), (2, ((128 : Nat) : Int))] (Mu [(131, pm_upd (pm_ct K 131) b (g : Int)), (130, pm_upd (pm_ct K 130) b (-1))] K) _ _ _
      refine g_if (t := 124) lk_195_117 rfl (by first | (unfold pm_inI; omega) | exact pm_and_in _ _ | exact pm_shr_in _ _ | exact pm_or_in _ _ | exact pm_xor_in _ _ | exact pm_shl_in _ _ | exact pm_cmp_in _ _ | exact pm_b8_in _ | (unfold pm_inI; split <;> omega)) (fun _ => ?_) (fun h => absurd (show (0 : Int) = (0 : Int) by omega) h)
      refine g_iconst lk_195_124 ?_
      have lay5 : Lay (Mu [(131, pm_upd (pm_ct K 131) b (g : Int)), (130, pm_upd (pm_ct K 130) b (-1)), (128, pm_upd (pm_ct K 128) b 0)] K) := lay2.muA (l := [(131, pm_upd (pm_ct K 131) b (g : Int)), (130, pm_upd (pm_ct K 130) b (-1))]) (a := 128) (f := pm_upd (pm_ct K 128) b 0) rfl rfl
      refine m_iastore (u := [(131, pm_upd (pm_ct K 131) b (g : Int)), (130, pm_upd (pm_ct K 130) b (-1))]) (u' := [(131, pm_upd (pm_ct K 131) b (g : Int)), (130, pm_upd (pm_ct K 130) b (-1)), (128, pm_upd (pm_ct K 128) b 0)]) (M := K) lk_195_125 (lay2.ay (by decide) rfl) (by omega) (j := b) (by omega) rfl ?_
      exact ok (Mu [(131, pm_upd (pm_ct K 131) b (g : Int)), (130, pm_upd (pm_ct K 130) b (-1)), (128, pm_upd (pm_ct K 128) b 0)] K) lay5 (MF.mu _ _ rfl (fun _ _ => rfl)) (by rw [Mu_ct]; rfl) (by rw [Mu_ct]; rfl) (by rw [Mu_ct]; rfl)
theorem mo_leaf {d mc ms n B c g b : Nat} {ch : Nat → Nat} {t : Tok} {Q : pm_Q} {K : pm_M} (lay : Lay K) (hG : GdM K ch n t) (b4 : b < 124) (h0 : pm_ct K 128 b = 0) (bad : ∀ (e : Nat × Nat) (N : pm_M) (z : Int), pNum ch 0 (lxt ch n t.2.2) = .inl e → Lay N → MF [129] rdK K N → BdM N e → Wp (d + 3) 195 215 [(2, ((116 : Nat) : Int)), (0, (B : Int)), (0, ((c + 1 : Nat) : Int)), (0, 1), (0, (g : Int)), (0, (b : Int))] [] N mc ms Q) (ok : ∀ (v : Nat) (N : pm_M), pNum ch 0 (lxt ch n t.2.2) = .inr v → Lay N → MF [129] rdK K N → GdM N ch n (lxt ch n (lxt ch n t.2.2).2.2) → pm_ct N 129 = pm_upd (pm_ct K 129) b (v : Int) → Wp (d + 3) 195 215 [(2, ((116 : Nat) : Int)), (0, (B : Int)), (0, ((c + 1 : Nat) : Int)), (0, 1), (0, (g : Int)), (0, (b : Int))] [] N mc ms Q) :
    Wp (d + 3) 195 126 [(2, ((116 : Nat) : Int)), (0, (B : Int)), (0, (c : Int)), (0, 1), (0, (g : Int)), (0, (b : Int))] [] K mc ms Q := by
  have go := hG.go lay (d := d + 1) (mc := 0) (ms := 0)
  cases hp : pNum ch 0 (lxt ch n t.2.2) with
  | inl e =>
    refine g_aload_n lk_195_126 rfl ?_
    refine g_virtual (p := 116) (Qc := _) lk_195_127 rfl (Nat.le_of_ble_eq_true rfl) rfl rfl (lay.on (by decide) rfl) (Nat.le_of_ble_eq_true rfl) (Nat.le_of_ble_eq_true rfl) (Nat.zero_le _) (Nat.zero_le _) (go) ?_
    rintro _ K2 ⟨rfl, lay2, m2, tk2⟩
    have gd2 := hG.next m2 tk2
    have x2 : pm_ct K2 128 b = 0 := by rw [m2.ct (by decide) (by decide)]; exact h0
    have ro := c_Mo_readOne (d := d) (mc := 0) (ms := 0) lay2 gd2 (l := 0) (by omega)
    show Wp _ 195 130 [(2, ((116 : Nat) : Int)), (0, (B : Int)), (0, (c : Int)), (0, 1), (0, (g : Int)), (0, (b : Int))] [] K2 _ _ _
    refine g_iinc (ls' := [(2, ((116 : Nat) : Int)), (0, (B : Int)), (0, ((c : Int) + 1)), (0, 1), (0, (g : Int)), (0, (b : Int))]) lk_195_130 rfl rfl rfl ?_
    refine g_aload_n lk_195_133 rfl ?_
    refine g_getfield lk_195_134 rfl (lay2.on (by decide) rfl) (v := ((128 : Nat) : Int)) (lay2.rf rfl) ?_
    refine g_iload lk_195_137 rfl ?_
    refine m_iaload (u := []) (M := K2) lk_195_139 (lay2.ay (by decide) rfl) (by omega) (j := b) (by omega) (v := 0) x2 ?_
    refine g_if (t := 203) lk_195_140 rfl (by first | (unfold pm_inI; omega) | exact pm_and_in _ _ | exact pm_shr_in _ _ | exact pm_or_in _ _ | exact pm_xor_in _ _ | exact pm_shl_in _ _ | exact pm_cmp_in _ _ | exact pm_b8_in _ | (unfold pm_inI; split <;> omega)) (fun _ => ?_) (fun h => absurd (show (0 : Int) = (0 : Int) by omega) h)
    refine g_aload_n lk_195_203 rfl ?_
    refine g_getfield lk_195_204 rfl (lay2.on (by decide) rfl) (v := ((129 : Nat) : Int)) (lay2.rf rfl) ?_
    refine g_iload lk_195_207 rfl ?_
    refine g_aload_n lk_195_209 rfl ?_
    refine g_iconst lk_195_210 ?_
    refine g_virtual (p := 116) (Qc := _) lk_195_211 rfl (Nat.le_of_ble_eq_true rfl) rfl rfl (lay2.on (by decide) rfl) (Nat.le_of_ble_eq_true rfl) (Nat.le_of_ble_eq_true rfl) (Nat.zero_le _) (Nat.zero_le _) (ro) ?_
    rintro ρ K3 ⟨lay3, m3, o3⟩
    obtain ⟨z, rfl, bd3⟩ := num_inlM hp o3
    show Wp _ 195 214 [(2, ((116 : Nat) : Int)), (0, (B : Int)), (0, ((c : Int) + 1)), (0, 1), (0, (g : Int)), (0, (b : Int))] [(0, z), (0, (b : Int)), (2, ((129 : Nat) : Int))] K3 _ _ _
    have lay1 : Lay (Mu [(129, pm_upd (pm_ct K3 129) b z)] K3) := lay3.muA (l := []) (a := 129) (f := pm_upd (pm_ct K3 129) b z) rfl rfl
    refine m_iastore (u := []) (u' := [(129, pm_upd (pm_ct K3 129) b z)]) (M := K3) lk_195_214 (lay3.ay (by decide) rfl) (by omega) (j := b) (by omega) rfl ?_
    have m4 : MF [129] rdK K3 (Mu [(129, pm_upd (pm_ct K3 129) b z)] K3) := MF.mu _ _ rfl (fun _ _ => rfl)
    exact bad e (Mu [(129, pm_upd (pm_ct K3 129) b z)] K3) z hp lay1 (((m2.mono (fun a q => by cases q) (fun a q => by simp at q ⊢; omega)).trans (m3.mono (fun a q => by cases q) (fun a q => q))).trans m4) (bd3.mf (MF.mu (S := [129]) (K := []) _ _ rfl (fun _ _ => rfl)) (by decide) (by decide))
  | inr v =>
    refine g_aload_n lk_195_126 rfl ?_
    refine g_virtual (p := 116) (Qc := _) lk_195_127 rfl (Nat.le_of_ble_eq_true rfl) rfl rfl (lay.on (by decide) rfl) (Nat.le_of_ble_eq_true rfl) (Nat.le_of_ble_eq_true rfl) (Nat.zero_le _) (Nat.zero_le _) (go) ?_
    rintro _ K2 ⟨rfl, lay2, m2, tk2⟩
    have gd2 := hG.next m2 tk2
    have x2 : pm_ct K2 128 b = 0 := by rw [m2.ct (by decide) (by decide)]; exact h0
    have ro := c_Mo_readOne (d := d) (mc := 0) (ms := 0) lay2 gd2 (l := 0) (by omega)
    show Wp _ 195 130 [(2, ((116 : Nat) : Int)), (0, (B : Int)), (0, (c : Int)), (0, 1), (0, (g : Int)), (0, (b : Int))] [] K2 _ _ _
    refine g_iinc (ls' := [(2, ((116 : Nat) : Int)), (0, (B : Int)), (0, ((c : Int) + 1)), (0, 1), (0, (g : Int)), (0, (b : Int))]) lk_195_130 rfl rfl rfl ?_
    refine g_aload_n lk_195_133 rfl ?_
    refine g_getfield lk_195_134 rfl (lay2.on (by decide) rfl) (v := ((128 : Nat) : Int)) (lay2.rf rfl) ?_
    refine g_iload lk_195_137 rfl ?_
    refine m_iaload (u := []) (M := K2) lk_195_139 (lay2.ay (by decide) rfl) (by omega) (j := b) (by omega) (v := 0) x2 ?_
    refine g_if (t := 203) lk_195_140 rfl (by first | (unfold pm_inI; omega) | exact pm_and_in _ _ | exact pm_shr_in _ _ | exact pm_or_in _ _ | exact pm_xor_in _ _ | exact pm_shl_in _ _ | exact pm_cmp_in _ _ | exact pm_b8_in _ | (unfold pm_inI; split <;> omega)) (fun _ => ?_) (fun h => absurd (show (0 : Int) = (0 : Int) by omega) h)
    refine g_aload_n lk_195_203 rfl ?_
    refine g_getfield lk_195_204 rfl (lay2.on (by decide) rfl) (v := ((129 : Nat) : Int)) (lay2.rf rfl) ?_
    refine g_iload lk_195_207 rfl ?_
    refine g_aload_n lk_195_209 rfl ?_
    refine g_iconst lk_195_210 ?_
    refine g_virtual (p := 116) (Qc := _) lk_195_211 rfl (Nat.le_of_ble_eq_true rfl) rfl rfl (lay2.on (by decide) rfl) (Nat.le_of_ble_eq_true rfl) (Nat.le_of_ble_eq_true rfl) (Nat.zero_le _) (Nat.zero_le _) (ro) ?_
    rintro ρ K3 ⟨lay3, m3, o3⟩
    obtain ⟨v9, rfl, gd3⟩ := num_inrM hp o3
    show Wp _ 195 214 [(2, ((116 : Nat) : Int)), (0, (B : Int)), (0, ((c : Int) + 1)), (0, 1), (0, (g : Int)), (0, (b : Int))] [(0, (v : Int)), (0, (b : Int)), (2, ((129 : Nat) : Int))] K3 _ _ _
    have lay1 : Lay (Mu [(129, pm_upd (pm_ct K3 129) b (v : Int))] K3) := lay3.muA (l := []) (a := 129) (f := pm_upd (pm_ct K3 129) b (v : Int)) rfl rfl
    refine m_iastore (u := []) (u' := [(129, pm_upd (pm_ct K3 129) b (v : Int))]) (M := K3) lk_195_214 (lay3.ay (by decide) rfl) (by omega) (j := b) (by omega) rfl ?_
    have m4 : MF [129] rdK K3 (Mu [(129, pm_upd (pm_ct K3 129) b (v : Int))] K3) := MF.mu _ _ rfl (fun _ _ => rfl)
    exact ok v (Mu [(129, pm_upd (pm_ct K3 129) b (v : Int))] K3) hp lay1 (((m2.mono (fun a q => by cases q) (fun a q => by simp at q ⊢; omega)).trans (m3.mono (fun a q => by cases q) (fun a q => q))).trans m4) (gd3.mf (MF.mu (S := [129]) (K := []) _ _ rfl (fun _ _ => rfl)) (by decide) (by decide)) (by rw [Mu_ct, ← m2.ct (a := 129) (by decide) (by decide), ← m3.ct (a := 129) (by decide) (by decide)]; rfl)
theorem mo_set1 {d mc ms n B c g b w m : Nat} {ch : Nat → Nat} {t : Tok} {Q : pm_Q} {K : pm_M} (lay : Lay K) (hG : GdM K ch n t) (b4 : b < 124) (h0 : pm_ct K 128 b = 1) (hf : pm_ct K 116 4 = (m : Int)) (m6 : m ≤ 6) (h35 : pm_ct K 116 35 = (w : Int)) (w9 : w ≤ 9) (g9 : g ≤ 9) (bad : ∀ (e : Nat × Nat) (N : pm_M), pSet ch m (lxt ch n t.2.2) = .inl e → Lay N → MF [129, 133] (35 :: rdK) K N → BdM N e → Wp (d + 3) 195 20 [(2, ((116 : Nat) : Int)), (0, (B : Int)), (0, ((c + 1 : Nat) : Int)), (0, 1), (0, ((g + 1 : Nat) : Int)), (0, (b : Int))] [] N mc ms Q) (ok : ∀ (s : Nat) (N : pm_M), pSet ch m (lxt ch n t.2.2) = .inr s → Lay N → MF [129, 133] (35 :: rdK) K N → GdM N ch n (lxt ch n (lxt ch n t.2.2).2.2) → pm_ct N 129 = pm_upd (pm_ct K 129) b (s : Int) → pm_ct N 133 = pm_upd (pm_ct K 133) w (b : Int) → pm_ct N 116 35 = ((w + 1 : Nat) : Int) → Wp (d + 3) 195 20 [(2, ((116 : Nat) : Int)), (0, (B : Int)), (0, ((c + 1 : Nat) : Int)), (0, 1), (0, ((g + 1 : Nat) : Int)), (0, (b : Int))] [] N mc ms Q) :
    Wp (d + 3) 195 126 [(2, ((116 : Nat) : Int)), (0, (B : Int)), (0, (c : Int)), (0, 1), (0, (g : Int)), (0, (b : Int))] [] K mc ms Q := by
  have go := hG.go lay (d := d + 1) (mc := 0) (ms := 0)
  have e1 : (w : Int) + 1 = ((w + 1 : Nat) : Int) := by omega
  cases hp : pSet ch m (lxt ch n t.2.2) with
  | inl e =>
    refine g_aload_n lk_195_126 rfl ?_
    refine g_virtual (p := 116) (Qc := _) lk_195_127 rfl (Nat.le_of_ble_eq_true rfl) rfl rfl (lay.on (by decide) rfl) (Nat.le_of_ble_eq_true rfl) (Nat.le_of_ble_eq_true rfl) (Nat.zero_le _) (Nat.zero_le _) (go) ?_
    rintro _ K2 ⟨rfl, lay2, m2, tk2⟩
    have gd2 := hG.next m2 tk2
    have x2 : pm_ct K2 128 b = 1 := by rw [m2.ct (by decide) (by decide)]; exact h0
    have y2 : pm_ct K2 116 4 = (m : Int) := by rw [m2.fd (by decide)]; exact hf
    have rs := c_Mo_readSet (d := d) (mc := 0) (ms := 0) lay2 gd2 m6
    show Wp _ 195 130 [(2, ((116 : Nat) : Int)), (0, (B : Int)), (0, (c : Int)), (0, 1), (0, (g : Int)), (0, (b : Int))] [] K2 _ _ _
    refine g_iinc (ls' := [(2, ((116 : Nat) : Int)), (0, (B : Int)), (0, ((c : Int) + 1)), (0, 1), (0, (g : Int)), (0, (b : Int))]) lk_195_130 rfl rfl rfl ?_
    refine g_aload_n lk_195_133 rfl ?_
    refine g_getfield lk_195_134 rfl (lay2.on (by decide) rfl) (v := ((128 : Nat) : Int)) (lay2.rf rfl) ?_
    refine g_iload lk_195_137 rfl ?_
    refine m_iaload (u := []) (M := K2) lk_195_139 (lay2.ay (by decide) rfl) (by omega) (j := b) (by omega) (v := 1) x2 ?_
    refine g_if (t := 203) lk_195_140 rfl (by first | (unfold pm_inI; omega) | exact pm_and_in _ _ | exact pm_shr_in _ _ | exact pm_or_in _ _ | exact pm_xor_in _ _ | exact pm_shl_in _ _ | exact pm_cmp_in _ _ | exact pm_b8_in _ | (unfold pm_inI; split <;> omega)) (fun h => absurd h (show ¬ ((1 : Int) = (0 : Int)) by omega)) (fun _ => ?_)
    refine g_aload_n lk_195_143 rfl ?_
    refine g_getfield lk_195_144 rfl (lay2.on (by decide) rfl) (v := ((129 : Nat) : Int)) (lay2.rf rfl) ?_
    refine g_iload lk_195_147 rfl ?_
    refine g_aload_n lk_195_149 rfl ?_
    refine g_aload_n lk_195_150 rfl ?_
    refine g_getfield lk_195_151 rfl (lay2.on (by decide) rfl) (v := ((128 : Nat) : Int)) (lay2.rf rfl) ?_
    refine g_iload lk_195_154 rfl ?_
    refine m_iaload (u := []) (M := K2) lk_195_156 (lay2.ay (by decide) rfl) (by omega) (j := b) (by omega) (v := 1) x2 ?_
    refine g_iconst lk_195_157 ?_
    refine g_icmp (t := 168) lk_195_158 rfl (by first | (unfold pm_inI; omega) | exact pm_and_in _ _ | exact pm_shr_in _ _ | exact pm_or_in _ _ | exact pm_xor_in _ _ | exact pm_shl_in _ _ | exact pm_cmp_in _ _ | exact pm_b8_in _ | (unfold pm_inI; split <;> omega)) (by first | (unfold pm_inI; omega) | exact pm_and_in _ _ | exact pm_shr_in _ _ | exact pm_or_in _ _ | exact pm_xor_in _ _ | exact pm_shl_in _ _ | exact pm_cmp_in _ _ | exact pm_b8_in _ | (unfold pm_inI; split <;> omega)) (fun h => absurd h (show ¬ (¬ (1 : Int) = (1 : Int)) by omega)) (fun _ => ?_)
    refine g_aload_n lk_195_161 rfl ?_
    refine m_getfield (u := []) (M := K2) lk_195_162 rfl (lay2.on (by decide) rfl) (v := (m : Int)) y2 ?_
    refine g_goto (t := 172) lk_195_165 rfl ?_
    refine g_virtual (p := 116) (Qc := _) lk_195_172 rfl (Nat.le_of_ble_eq_true rfl) rfl rfl (lay2.on (by decide) rfl) (Nat.le_of_ble_eq_true rfl) (Nat.le_of_ble_eq_true rfl) (Nat.zero_le _) (Nat.zero_le _) (rs) ?_
    rintro ρ K3 ⟨lay3, m3, o3⟩
    obtain ⟨z, rfl, bd3⟩ := set_inlM hp o3
    have z35 : pm_ct K3 116 35 = (w : Int) := by rw [m3.fd (by decide), m2.fd (by decide)]; exact h35
    show Wp _ 195 175 [(2, ((116 : Nat) : Int)), (0, (B : Int)), (0, ((c : Int) + 1)), (0, 1), (0, (g : Int)), (0, (b : Int))] [(0, z), (0, (b : Int)), (2, ((129 : Nat) : Int))] K3 _ _ _
    have lay1 : Lay (Mu [(129, pm_upd (pm_ct K3 129) b z)] K3) := lay3.muA (l := []) (a := 129) (f := pm_upd (pm_ct K3 129) b z) rfl rfl
    refine m_iastore (u := []) (u' := [(129, pm_upd (pm_ct K3 129) b z)]) (M := K3) lk_195_175 (lay3.ay (by decide) rfl) (by omega) (j := b) (by omega) rfl ?_
    refine g_aload_n lk_195_176 rfl ?_
    refine g_getfield lk_195_177 rfl (lay1.on (by decide) rfl) (v := ((133 : Nat) : Int)) (lay1.rf rfl) ?_
    refine g_aload_n lk_195_180 rfl ?_
    refine m_getfield (u := [(129, pm_upd (pm_ct K3 129) b z)]) (M := K3) lk_195_181 rfl (lay1.on (by decide) rfl) (v := (w : Int)) z35 ?_
    refine g_iload lk_195_184 rfl ?_
    have lay2 : Lay (Mu [(129, pm_upd (pm_ct K3 129) b z), (133, pm_upd (pm_ct K3 133) w (b : Int))] K3) := lay1.muA (l := [(129, pm_upd (pm_ct K3 129) b z)]) (a := 133) (f := pm_upd (pm_ct K3 133) w (b : Int)) rfl rfl
    refine m_iastore (u := [(129, pm_upd (pm_ct K3 129) b z)]) (u' := [(129, pm_upd (pm_ct K3 129) b z), (133, pm_upd (pm_ct K3 133) w (b : Int))]) (M := K3) lk_195_186 (lay1.ay (by decide) rfl) (by omega) (j := w) (by omega) rfl ?_
    refine g_aload_n lk_195_187 rfl ?_
    refine g_dup lk_195_188 rfl ?_
    refine m_getfield (u := [(129, pm_upd (pm_ct K3 129) b z), (133, pm_upd (pm_ct K3 133) w (b : Int))]) (M := K3) lk_195_189 rfl (lay2.on (by decide) rfl) (v := (w : Int)) z35 ?_
    refine g_iconst lk_195_192 ?_
    refine g_iadd lk_195_193 ?_
    refine g_top (z := ((w : Int) + 1)) (z' := ((w + 1 : Nat) : Int)) (e1) ?_
    have lay3 : Lay (Mu [(129, pm_upd (pm_ct K3 129) b z), (133, pm_upd (pm_ct K3 133) w (b : Int)), (116, pm_upd (pm_ct K3 116) 35 ((w + 1 : Nat) : Int))] K3) := lay2.muF (l := [(129, pm_upd (pm_ct K3 129) b z), (133, pm_upd (pm_ct K3 133) w (b : Int))]) (a := 116) (k := 35) (z := ((w + 1 : Nat) : Int)) rfl rfl
    refine m_putfield (u := [(129, pm_upd (pm_ct K3 129) b z), (133, pm_upd (pm_ct K3 133) w (b : Int))]) (u' := [(129, pm_upd (pm_ct K3 129) b z), (133, pm_upd (pm_ct K3 133) w (b : Int)), (116, pm_upd (pm_ct K3 116) 35 ((w + 1 : Nat) : Int))]) (M := K3) lk_195_194 rfl (lay2.on (by decide) rfl) (fun h => absurd h (by decide)) rfl ?_
    refine g_iinc (ls' := [(2, ((116 : Nat) : Int)), (0, (B : Int)), (0, ((c : Int) + 1)), (0, 1), (0, ((g : Int) + 1)), (0, (b : Int))]) lk_195_197 rfl rfl rfl ?_
    refine g_goto (t := 20) lk_195_200 rfl ?_
    have m4 : MF [129, 133] [35] K3 (Mu [(129, pm_upd (pm_ct K3 129) b z), (133, pm_upd (pm_ct K3 133) w (b : Int)), (116, pm_upd (pm_ct K3 116) 35 ((w + 1 : Nat) : Int))] K3) := MF.mu _ _ rfl (fun k hk => upd_ne (by intro q; rw [q] at hk; exact hk (by decide)))
    exact bad e (Mu [(129, pm_upd (pm_ct K3 129) b z), (133, pm_upd (pm_ct K3 133) w (b : Int)), (116, pm_upd (pm_ct K3 116) 35 ((w + 1 : Nat) : Int))] K3) hp lay3 (((m2.mono (fun a q => by cases q) (fun a q => by simp at q ⊢; omega)).trans (m3.mono (fun a q => by cases q) (fun a q => List.mem_cons_of_mem _ q))).trans (m4.mono (fun a q => q) (fun a q => by simp at q ⊢; omega))) (bd3.mf m4 (by decide) (by decide))
  | inr s =>
    refine g_aload_n lk_195_126 rfl ?_
    refine g_virtual (p := 116) (Qc := _) lk_195_127 rfl (Nat.le_of_ble_eq_true rfl) rfl rfl (lay.on (by decide) rfl) (Nat.le_of_ble_eq_true rfl) (Nat.le_of_ble_eq_true rfl) (Nat.zero_le _) (Nat.zero_le _) (go) ?_
    rintro _ K2 ⟨rfl, lay2, m2, tk2⟩
    have gd2 := hG.next m2 tk2
    have x2 : pm_ct K2 128 b = 1 := by rw [m2.ct (by decide) (by decide)]; exact h0
    have y2 : pm_ct K2 116 4 = (m : Int) := by rw [m2.fd (by decide)]; exact hf
    have rs := c_Mo_readSet (d := d) (mc := 0) (ms := 0) lay2 gd2 m6
    show Wp _ 195 130 [(2, ((116 : Nat) : Int)), (0, (B : Int)), (0, (c : Int)), (0, 1), (0, (g : Int)), (0, (b : Int))] [] K2 _ _ _
    refine g_iinc (ls' := [(2, ((116 : Nat) : Int)), (0, (B : Int)), (0, ((c : Int) + 1)), (0, 1), (0, (g : Int)), (0, (b : Int))]) lk_195_130 rfl rfl rfl ?_
    refine g_aload_n lk_195_133 rfl ?_
    refine g_getfield lk_195_134 rfl (lay2.on (by decide) rfl) (v := ((128 : Nat) : Int)) (lay2.rf rfl) ?_
    refine g_iload lk_195_137 rfl ?_
    refine m_iaload (u := []) (M := K2) lk_195_139 (lay2.ay (by decide) rfl) (by omega) (j := b) (by omega) (v := 1) x2 ?_
    refine g_if (t := 203) lk_195_140 rfl (by first | (unfold pm_inI; omega) | exact pm_and_in _ _ | exact pm_shr_in _ _ | exact pm_or_in _ _ | exact pm_xor_in _ _ | exact pm_shl_in _ _ | exact pm_cmp_in _ _ | exact pm_b8_in _ | (unfold pm_inI; split <;> omega)) (fun h => absurd h (show ¬ ((1 : Int) = (0 : Int)) by omega)) (fun _ => ?_)
    refine g_aload_n lk_195_143 rfl ?_
    refine g_getfield lk_195_144 rfl (lay2.on (by decide) rfl) (v := ((129 : Nat) : Int)) (lay2.rf rfl) ?_
    refine g_iload lk_195_147 rfl ?_
    refine g_aload_n lk_195_149 rfl ?_
    refine g_aload_n lk_195_150 rfl ?_
    refine g_getfield lk_195_151 rfl (lay2.on (by decide) rfl) (v := ((128 : Nat) : Int)) (lay2.rf rfl) ?_
    refine g_iload lk_195_154 rfl ?_
    refine m_iaload (u := []) (M := K2) lk_195_156 (lay2.ay (by decide) rfl) (by omega) (j := b) (by omega) (v := 1) x2 ?_
    refine g_iconst lk_195_157 ?_
    refine g_icmp (t := 168) lk_195_158 rfl (by first | (unfold pm_inI; omega) | exact pm_and_in _ _ | exact pm_shr_in _ _ | exact pm_or_in _ _ | exact pm_xor_in _ _ | exact pm_shl_in _ _ | exact pm_cmp_in _ _ | exact pm_b8_in _ | (unfold pm_inI; split <;> omega)) (by first | (unfold pm_inI; omega) | exact pm_and_in _ _ | exact pm_shr_in _ _ | exact pm_or_in _ _ | exact pm_xor_in _ _ | exact pm_shl_in _ _ | exact pm_cmp_in _ _ | exact pm_b8_in _ | (unfold pm_inI; split <;> omega)) (fun h => absurd h (show ¬ (¬ (1 : Int) = (1 : Int)) by omega)) (fun _ => ?_)
    refine g_aload_n lk_195_161 rfl ?_
    refine m_getfield (u := []) (M := K2) lk_195_162 rfl (lay2.on (by decide) rfl) (v := (m : Int)) y2 ?_
    refine g_goto (t := 172) lk_195_165 rfl ?_
    refine g_virtual (p := 116) (Qc := _) lk_195_172 rfl (Nat.le_of_ble_eq_true rfl) rfl rfl (lay2.on (by decide) rfl) (Nat.le_of_ble_eq_true rfl) (Nat.le_of_ble_eq_true rfl) (Nat.zero_le _) (Nat.zero_le _) (rs) ?_
    rintro ρ K3 ⟨lay3, m3, o3⟩
    obtain ⟨s6, rfl, gd3⟩ := set_inrM hp o3
    have z35 : pm_ct K3 116 35 = (w : Int) := by rw [m3.fd (by decide), m2.fd (by decide)]; exact h35
    show Wp _ 195 175 [(2, ((116 : Nat) : Int)), (0, (B : Int)), (0, ((c : Int) + 1)), (0, 1), (0, (g : Int)), (0, (b : Int))] [(0, (s : Int)), (0, (b : Int)), (2, ((129 : Nat) : Int))] K3 _ _ _
    have lay1 : Lay (Mu [(129, pm_upd (pm_ct K3 129) b (s : Int))] K3) := lay3.muA (l := []) (a := 129) (f := pm_upd (pm_ct K3 129) b (s : Int)) rfl rfl
    refine m_iastore (u := []) (u' := [(129, pm_upd (pm_ct K3 129) b (s : Int))]) (M := K3) lk_195_175 (lay3.ay (by decide) rfl) (by omega) (j := b) (by omega) rfl ?_
    refine g_aload_n lk_195_176 rfl ?_
    refine g_getfield lk_195_177 rfl (lay1.on (by decide) rfl) (v := ((133 : Nat) : Int)) (lay1.rf rfl) ?_
    refine g_aload_n lk_195_180 rfl ?_
    refine m_getfield (u := [(129, pm_upd (pm_ct K3 129) b (s : Int))]) (M := K3) lk_195_181 rfl (lay1.on (by decide) rfl) (v := (w : Int)) z35 ?_
    refine g_iload lk_195_184 rfl ?_
    have lay2 : Lay (Mu [(129, pm_upd (pm_ct K3 129) b (s : Int)), (133, pm_upd (pm_ct K3 133) w (b : Int))] K3) := lay1.muA (l := [(129, pm_upd (pm_ct K3 129) b (s : Int))]) (a := 133) (f := pm_upd (pm_ct K3 133) w (b : Int)) rfl rfl
    refine m_iastore (u := [(129, pm_upd (pm_ct K3 129) b (s : Int))]) (u' := [(129, pm_upd (pm_ct K3 129) b (s : Int)), (133, pm_upd (pm_ct K3 133) w (b : Int))]) (M := K3) lk_195_186 (lay1.ay (by decide) rfl) (by omega) (j := w) (by omega) rfl ?_
    refine g_aload_n lk_195_187 rfl ?_
    refine g_dup lk_195_188 rfl ?_
    refine m_getfield (u := [(129, pm_upd (pm_ct K3 129) b (s : Int)), (133, pm_upd (pm_ct K3 133) w (b : Int))]) (M := K3) lk_195_189 rfl (lay2.on (by decide) rfl) (v := (w : Int)) z35 ?_
    refine g_iconst lk_195_192 ?_
    refine g_iadd lk_195_193 ?_
    refine g_top (z := ((w : Int) + 1)) (z' := ((w + 1 : Nat) : Int)) (e1) ?_
    have lay3 : Lay (Mu [(129, pm_upd (pm_ct K3 129) b (s : Int)), (133, pm_upd (pm_ct K3 133) w (b : Int)), (116, pm_upd (pm_ct K3 116) 35 ((w + 1 : Nat) : Int))] K3) := lay2.muF (l := [(129, pm_upd (pm_ct K3 129) b (s : Int)), (133, pm_upd (pm_ct K3 133) w (b : Int))]) (a := 116) (k := 35) (z := ((w + 1 : Nat) : Int)) rfl rfl
    refine m_putfield (u := [(129, pm_upd (pm_ct K3 129) b (s : Int)), (133, pm_upd (pm_ct K3 133) w (b : Int))]) (u' := [(129, pm_upd (pm_ct K3 129) b (s : Int)), (133, pm_upd (pm_ct K3 133) w (b : Int)), (116, pm_upd (pm_ct K3 116) 35 ((w + 1 : Nat) : Int))]) (M := K3) lk_195_194 rfl (lay2.on (by decide) rfl) (fun h => absurd h (by decide)) rfl ?_
    refine g_iinc (ls' := [(2, ((116 : Nat) : Int)), (0, (B : Int)), (0, ((c : Int) + 1)), (0, 1), (0, ((g : Int) + 1)), (0, (b : Int))]) lk_195_197 rfl rfl rfl ?_
    refine g_goto (t := 20) lk_195_200 rfl ?_
    have m4 : MF [129, 133] [35] K3 (Mu [(129, pm_upd (pm_ct K3 129) b (s : Int)), (133, pm_upd (pm_ct K3 133) w (b : Int)), (116, pm_upd (pm_ct K3 116) 35 ((w + 1 : Nat) : Int))] K3) := MF.mu _ _ rfl (fun k hk => upd_ne (by intro q; rw [q] at hk; exact hk (by decide)))
    exact ok s (Mu [(129, pm_upd (pm_ct K3 129) b (s : Int)), (133, pm_upd (pm_ct K3 133) w (b : Int)), (116, pm_upd (pm_ct K3 116) 35 ((w + 1 : Nat) : Int))] K3) hp lay3 (((m2.mono (fun a q => by cases q) (fun a q => by simp at q ⊢; omega)).trans (m3.mono (fun a q => by cases q) (fun a q => List.mem_cons_of_mem _ q))).trans (m4.mono (fun a q => q) (fun a q => by simp at q ⊢; omega))) (gd3.mf m4 (by decide) (by decide)) (by rw [Mu_ct, ← m2.ct (a := 129) (by decide) (by decide), ← m3.ct (a := 129) (by decide) (by decide)]; rfl) (by rw [Mu_ct, ← m2.ct (a := 133) (by decide) (by decide), ← m3.ct (a := 133) (by decide) (by decide)]; rfl) (by rw [Mu_ct]; rfl)
theorem mo_set2 {d mc ms n B c g b w m : Nat} {ch : Nat → Nat} {t : Tok} {Q : pm_Q} {K : pm_M} (lay : Lay K) (hG : GdM K ch n t) (b4 : b < 124) (h0 : pm_ct K 128 b = 2) (hf : pm_ct K 116 5 = (m : Int)) (m6 : m ≤ 6) (h35 : pm_ct K 116 35 = (w : Int)) (w9 : w ≤ 9) (g9 : g ≤ 9) (bad : ∀ (e : Nat × Nat) (N : pm_M), pSet ch m (lxt ch n t.2.2) = .inl e → Lay N → MF [129, 133] (35 :: rdK) K N → BdM N e → Wp (d + 3) 195 20 [(2, ((116 : Nat) : Int)), (0, (B : Int)), (0, ((c + 1 : Nat) : Int)), (0, 1), (0, ((g + 1 : Nat) : Int)), (0, (b : Int))] [] N mc ms Q) (ok : ∀ (s : Nat) (N : pm_M), pSet ch m (lxt ch n t.2.2) = .inr s → Lay N → MF [129, 133] (35 :: rdK) K N → GdM N ch n (lxt ch n (lxt ch n t.2.2).2.2) → pm_ct N 129 = pm_upd (pm_ct K 129) b (s : Int) → pm_ct N 133 = pm_upd (pm_ct K 133) w (b : Int) → pm_ct N 116 35 = ((w + 1 : Nat) : Int) → Wp (d + 3) 195 20 [(2, ((116 : Nat) : Int)), (0, (B : Int)), (0, ((c + 1 : Nat) : Int)), (0, 1), (0, ((g + 1 : Nat) : Int)), (0, (b : Int))] [] N mc ms Q) :
    Wp (d + 3) 195 126 [(2, ((116 : Nat) : Int)), (0, (B : Int)), (0, (c : Int)), (0, 1), (0, (g : Int)), (0, (b : Int))] [] K mc ms Q := by
  have go := hG.go lay (d := d + 1) (mc := 0) (ms := 0)
  have e1 : (w : Int) + 1 = ((w + 1 : Nat) : Int) := by omega
  cases hp : pSet ch m (lxt ch n t.2.2) with
  | inl e =>
    refine g_aload_n lk_195_126 rfl ?_
    refine g_virtual (p := 116) (Qc := _) lk_195_127 rfl (Nat.le_of_ble_eq_true rfl) rfl rfl (lay.on (by decide) rfl) (Nat.le_of_ble_eq_true rfl) (Nat.le_of_ble_eq_true rfl) (Nat.zero_le _) (Nat.zero_le _) (go) ?_
    rintro _ K2 ⟨rfl, lay2, m2, tk2⟩
    have gd2 := hG.next m2 tk2
    have x2 : pm_ct K2 128 b = 2 := by rw [m2.ct (by decide) (by decide)]; exact h0
    have y2 : pm_ct K2 116 5 = (m : Int) := by rw [m2.fd (by decide)]; exact hf
    have rs := c_Mo_readSet (d := d) (mc := 0) (ms := 0) lay2 gd2 m6
    show Wp _ 195 130 [(2, ((116 : Nat) : Int)), (0, (B : Int)), (0, (c : Int)), (0, 1), (0, (g : Int)), (0, (b : Int))] [] K2 _ _ _
    refine g_iinc (ls' := [(2, ((116 : Nat) : Int)), (0, (B : Int)), (0, ((c : Int) + 1)), (0, 1), (0, (g : Int)), (0, (b : Int))]) lk_195_130 rfl rfl rfl ?_
    refine g_aload_n lk_195_133 rfl ?_
    refine g_getfield lk_195_134 rfl (lay2.on (by decide) rfl) (v := ((128 : Nat) : Int)) (lay2.rf rfl) ?_
    refine g_iload lk_195_137 rfl ?_
    refine m_iaload (u := []) (M := K2) lk_195_139 (lay2.ay (by decide) rfl) (by omega) (j := b) (by omega) (v := 2) x2 ?_
    refine g_if (t := 203) lk_195_140 rfl (by first | (unfold pm_inI; omega) | exact pm_and_in _ _ | exact pm_shr_in _ _ | exact pm_or_in _ _ | exact pm_xor_in _ _ | exact pm_shl_in _ _ | exact pm_cmp_in _ _ | exact pm_b8_in _ | (unfold pm_inI; split <;> omega)) (fun h => absurd h (show ¬ ((2 : Int) = (0 : Int)) by omega)) (fun _ => ?_)
    refine g_aload_n lk_195_143 rfl ?_
    refine g_getfield lk_195_144 rfl (lay2.on (by decide) rfl) (v := ((129 : Nat) : Int)) (lay2.rf rfl) ?_
    refine g_iload lk_195_147 rfl ?_
    refine g_aload_n lk_195_149 rfl ?_
    refine g_aload_n lk_195_150 rfl ?_
    refine g_getfield lk_195_151 rfl (lay2.on (by decide) rfl) (v := ((128 : Nat) : Int)) (lay2.rf rfl) ?_
    refine g_iload lk_195_154 rfl ?_
    refine m_iaload (u := []) (M := K2) lk_195_156 (lay2.ay (by decide) rfl) (by omega) (j := b) (by omega) (v := 2) x2 ?_
    refine g_iconst lk_195_157 ?_
    refine g_icmp (t := 168) lk_195_158 rfl (by first | (unfold pm_inI; omega) | exact pm_and_in _ _ | exact pm_shr_in _ _ | exact pm_or_in _ _ | exact pm_xor_in _ _ | exact pm_shl_in _ _ | exact pm_cmp_in _ _ | exact pm_b8_in _ | (unfold pm_inI; split <;> omega)) (by first | (unfold pm_inI; omega) | exact pm_and_in _ _ | exact pm_shr_in _ _ | exact pm_or_in _ _ | exact pm_xor_in _ _ | exact pm_shl_in _ _ | exact pm_cmp_in _ _ | exact pm_b8_in _ | (unfold pm_inI; split <;> omega)) (fun _ => ?_) (fun h => absurd (show ¬ (2 : Int) = (1 : Int) by omega) h)
    refine g_aload_n lk_195_168 rfl ?_
    refine m_getfield (u := []) (M := K2) lk_195_169 rfl (lay2.on (by decide) rfl) (v := (m : Int)) y2 ?_
    refine g_virtual (p := 116) (Qc := _) lk_195_172 rfl (Nat.le_of_ble_eq_true rfl) rfl rfl (lay2.on (by decide) rfl) (Nat.le_of_ble_eq_true rfl) (Nat.le_of_ble_eq_true rfl) (Nat.zero_le _) (Nat.zero_le _) (rs) ?_
    rintro ρ K3 ⟨lay3, m3, o3⟩
    obtain ⟨z, rfl, bd3⟩ := set_inlM hp o3
    have z35 : pm_ct K3 116 35 = (w : Int) := by rw [m3.fd (by decide), m2.fd (by decide)]; exact h35
    show Wp _ 195 175 [(2, ((116 : Nat) : Int)), (0, (B : Int)), (0, ((c : Int) + 1)), (0, 1), (0, (g : Int)), (0, (b : Int))] [(0, z), (0, (b : Int)), (2, ((129 : Nat) : Int))] K3 _ _ _
    have lay1 : Lay (Mu [(129, pm_upd (pm_ct K3 129) b z)] K3) := lay3.muA (l := []) (a := 129) (f := pm_upd (pm_ct K3 129) b z) rfl rfl
    refine m_iastore (u := []) (u' := [(129, pm_upd (pm_ct K3 129) b z)]) (M := K3) lk_195_175 (lay3.ay (by decide) rfl) (by omega) (j := b) (by omega) rfl ?_
    refine g_aload_n lk_195_176 rfl ?_
    refine g_getfield lk_195_177 rfl (lay1.on (by decide) rfl) (v := ((133 : Nat) : Int)) (lay1.rf rfl) ?_
    refine g_aload_n lk_195_180 rfl ?_
    refine m_getfield (u := [(129, pm_upd (pm_ct K3 129) b z)]) (M := K3) lk_195_181 rfl (lay1.on (by decide) rfl) (v := (w : Int)) z35 ?_
    refine g_iload lk_195_184 rfl ?_
    have lay2 : Lay (Mu [(129, pm_upd (pm_ct K3 129) b z), (133, pm_upd (pm_ct K3 133) w (b : Int))] K3) := lay1.muA (l := [(129, pm_upd (pm_ct K3 129) b z)]) (a := 133) (f := pm_upd (pm_ct K3 133) w (b : Int)) rfl rfl
    refine m_iastore (u := [(129, pm_upd (pm_ct K3 129) b z)]) (u' := [(129, pm_upd (pm_ct K3 129) b z), (133, pm_upd (pm_ct K3 133) w (b : Int))]) (M := K3) lk_195_186 (lay1.ay (by decide) rfl) (by omega) (j := w) (by omega) rfl ?_
    refine g_aload_n lk_195_187 rfl ?_
    refine g_dup lk_195_188 rfl ?_
    refine m_getfield (u := [(129, pm_upd (pm_ct K3 129) b z), (133, pm_upd (pm_ct K3 133) w (b : Int))]) (M := K3) lk_195_189 rfl (lay2.on (by decide) rfl) (v := (w : Int)) z35 ?_
    refine g_iconst lk_195_192 ?_
    refine g_iadd lk_195_193 ?_
    refine g_top (z := ((w : Int) + 1)) (z' := ((w + 1 : Nat) : Int)) (e1) ?_
    have lay3 : Lay (Mu [(129, pm_upd (pm_ct K3 129) b z), (133, pm_upd (pm_ct K3 133) w (b : Int)), (116, pm_upd (pm_ct K3 116) 35 ((w + 1 : Nat) : Int))] K3) := lay2.muF (l := [(129, pm_upd (pm_ct K3 129) b z), (133, pm_upd (pm_ct K3 133) w (b : Int))]) (a := 116) (k := 35) (z := ((w + 1 : Nat) : Int)) rfl rfl
    refine m_putfield (u := [(129, pm_upd (pm_ct K3 129) b z), (133, pm_upd (pm_ct K3 133) w (b : Int))]) (u' := [(129, pm_upd (pm_ct K3 129) b z), (133, pm_upd (pm_ct K3 133) w (b : Int)), (116, pm_upd (pm_ct K3 116) 35 ((w + 1 : Nat) : Int))]) (M := K3) lk_195_194 rfl (lay2.on (by decide) rfl) (fun h => absurd h (by decide)) rfl ?_
    refine g_iinc (ls' := [(2, ((116 : Nat) : Int)), (0, (B : Int)), (0, ((c : Int) + 1)), (0, 1), (0, ((g : Int) + 1)), (0, (b : Int))]) lk_195_197 rfl rfl rfl ?_
    refine g_goto (t := 20) lk_195_200 rfl ?_
    have m4 : MF [129, 133] [35] K3 (Mu [(129, pm_upd (pm_ct K3 129) b z), (133, pm_upd (pm_ct K3 133) w (b : Int)), (116, pm_upd (pm_ct K3 116) 35 ((w + 1 : Nat) : Int))] K3) := MF.mu _ _ rfl (fun k hk => upd_ne (by intro q; rw [q] at hk; exact hk (by decide)))
    exact bad e (Mu [(129, pm_upd (pm_ct K3 129) b z), (133, pm_upd (pm_ct K3 133) w (b : Int)), (116, pm_upd (pm_ct K3 116) 35 ((w + 1 : Nat) : Int))] K3) hp lay3 (((m2.mono (fun a q => by cases q) (fun a q => by simp at q ⊢; omega)).trans (m3.mono (fun a q => by cases q) (fun a q => List.mem_cons_of_mem _ q))).trans (m4.mono (fun a q => q) (fun a q => by simp at q ⊢; omega))) (bd3.mf m4 (by decide) (by decide))
  | inr s =>
    refine g_aload_n lk_195_126 rfl ?_
    refine g_virtual (p := 116) (Qc := _) lk_195_127 rfl (Nat.le_of_ble_eq_true rfl) rfl rfl (lay.on (by decide) rfl) (Nat.le_of_ble_eq_true rfl) (Nat.le_of_ble_eq_true rfl) (Nat.zero_le _) (Nat.zero_le _) (go) ?_
    rintro _ K2 ⟨rfl, lay2, m2, tk2⟩
    have gd2 := hG.next m2 tk2
    have x2 : pm_ct K2 128 b = 2 := by rw [m2.ct (by decide) (by decide)]; exact h0
    have y2 : pm_ct K2 116 5 = (m : Int) := by rw [m2.fd (by decide)]; exact hf
    have rs := c_Mo_readSet (d := d) (mc := 0) (ms := 0) lay2 gd2 m6
    show Wp _ 195 130 [(2, ((116 : Nat) : Int)), (0, (B : Int)), (0, (c : Int)), (0, 1), (0, (g : Int)), (0, (b : Int))] [] K2 _ _ _
    refine g_iinc (ls' := [(2, ((116 : Nat) : Int)), (0, (B : Int)), (0, ((c : Int) + 1)), (0, 1), (0, (g : Int)), (0, (b : Int))]) lk_195_130 rfl rfl rfl ?_
    refine g_aload_n lk_195_133 rfl ?_
    refine g_getfield lk_195_134 rfl (lay2.on (by decide) rfl) (v := ((128 : Nat) : Int)) (lay2.rf rfl) ?_
    refine g_iload lk_195_137 rfl ?_
    refine m_iaload (u := []) (M := K2) lk_195_139 (lay2.ay (by decide) rfl) (by omega) (j := b) (by omega) (v := 2) x2 ?_
    refine g_if (t := 203) lk_195_140 rfl (by first | (unfold pm_inI; omega) | exact pm_and_in _ _ | exact pm_shr_in _ _ | exact pm_or_in _ _ | exact pm_xor_in _ _ | exact pm_shl_in _ _ | exact pm_cmp_in _ _ | exact pm_b8_in _ | (unfold pm_inI; split <;> omega)) (fun h => absurd h (show ¬ ((2 : Int) = (0 : Int)) by omega)) (fun _ => ?_)
    refine g_aload_n lk_195_143 rfl ?_
    refine g_getfield lk_195_144 rfl (lay2.on (by decide) rfl) (v := ((129 : Nat) : Int)) (lay2.rf rfl) ?_
    refine g_iload lk_195_147 rfl ?_
    refine g_aload_n lk_195_149 rfl ?_
    refine g_aload_n lk_195_150 rfl ?_
    refine g_getfield lk_195_151 rfl (lay2.on (by decide) rfl) (v := ((128 : Nat) : Int)) (lay2.rf rfl) ?_
    refine g_iload lk_195_154 rfl ?_
    refine m_iaload (u := []) (M := K2) lk_195_156 (lay2.ay (by decide) rfl) (by omega) (j := b) (by omega) (v := 2) x2 ?_
    refine g_iconst lk_195_157 ?_
    refine g_icmp (t := 168) lk_195_158 rfl (by first | (unfold pm_inI; omega) | exact pm_and_in _ _ | exact pm_shr_in _ _ | exact pm_or_in _ _ | exact pm_xor_in _ _ | exact pm_shl_in _ _ | exact pm_cmp_in _ _ | exact pm_b8_in _ | (unfold pm_inI; split <;> omega)) (by first | (unfold pm_inI; omega) | exact pm_and_in _ _ | exact pm_shr_in _ _ | exact pm_or_in _ _ | exact pm_xor_in _ _ | exact pm_shl_in _ _ | exact pm_cmp_in _ _ | exact pm_b8_in _ | (unfold pm_inI; split <;> omega)) (fun _ => ?_) (fun h => absurd (show ¬ (2 : Int) = (1 : Int) by omega) h)
    refine g_aload_n lk_195_168 rfl ?_
    refine m_getfield (u := []) (M := K2) lk_195_169 rfl (lay2.on (by decide) rfl) (v := (m : Int)) y2 ?_
    refine g_virtual (p := 116) (Qc := _) lk_195_172 rfl (Nat.le_of_ble_eq_true rfl) rfl rfl (lay2.on (by decide) rfl) (Nat.le_of_ble_eq_true rfl) (Nat.le_of_ble_eq_true rfl) (Nat.zero_le _) (Nat.zero_le _) (rs) ?_
    rintro ρ K3 ⟨lay3, m3, o3⟩
    obtain ⟨s6, rfl, gd3⟩ := set_inrM hp o3
    have z35 : pm_ct K3 116 35 = (w : Int) := by rw [m3.fd (by decide), m2.fd (by decide)]; exact h35
    show Wp _ 195 175 [(2, ((116 : Nat) : Int)), (0, (B : Int)), (0, ((c : Int) + 1)), (0, 1), (0, (g : Int)), (0, (b : Int))] [(0, (s : Int)), (0, (b : Int)), (2, ((129 : Nat) : Int))] K3 _ _ _
    have lay1 : Lay (Mu [(129, pm_upd (pm_ct K3 129) b (s : Int))] K3) := lay3.muA (l := []) (a := 129) (f := pm_upd (pm_ct K3 129) b (s : Int)) rfl rfl
    refine m_iastore (u := []) (u' := [(129, pm_upd (pm_ct K3 129) b (s : Int))]) (M := K3) lk_195_175 (lay3.ay (by decide) rfl) (by omega) (j := b) (by omega) rfl ?_
    refine g_aload_n lk_195_176 rfl ?_
    refine g_getfield lk_195_177 rfl (lay1.on (by decide) rfl) (v := ((133 : Nat) : Int)) (lay1.rf rfl) ?_
    refine g_aload_n lk_195_180 rfl ?_
    refine m_getfield (u := [(129, pm_upd (pm_ct K3 129) b (s : Int))]) (M := K3) lk_195_181 rfl (lay1.on (by decide) rfl) (v := (w : Int)) z35 ?_
    refine g_iload lk_195_184 rfl ?_
    have lay2 : Lay (Mu [(129, pm_upd (pm_ct K3 129) b (s : Int)), (133, pm_upd (pm_ct K3 133) w (b : Int))] K3) := lay1.muA (l := [(129, pm_upd (pm_ct K3 129) b (s : Int))]) (a := 133) (f := pm_upd (pm_ct K3 133) w (b : Int)) rfl rfl
    refine m_iastore (u := [(129, pm_upd (pm_ct K3 129) b (s : Int))]) (u' := [(129, pm_upd (pm_ct K3 129) b (s : Int)), (133, pm_upd (pm_ct K3 133) w (b : Int))]) (M := K3) lk_195_186 (lay1.ay (by decide) rfl) (by omega) (j := w) (by omega) rfl ?_
    refine g_aload_n lk_195_187 rfl ?_
    refine g_dup lk_195_188 rfl ?_
    refine m_getfield (u := [(129, pm_upd (pm_ct K3 129) b (s : Int)), (133, pm_upd (pm_ct K3 133) w (b : Int))]) (M := K3) lk_195_189 rfl (lay2.on (by decide) rfl) (v := (w : Int)) z35 ?_
    refine g_iconst lk_195_192 ?_
    refine g_iadd lk_195_193 ?_
    refine g_top (z := ((w : Int) + 1)) (z' := ((w + 1 : Nat) : Int)) (e1) ?_
    have lay3 : Lay (Mu [(129, pm_upd (pm_ct K3 129) b (s : Int)), (133, pm_upd (pm_ct K3 133) w (b : Int)), (116, pm_upd (pm_ct K3 116) 35 ((w + 1 : Nat) : Int))] K3) := lay2.muF (l := [(129, pm_upd (pm_ct K3 129) b (s : Int)), (133, pm_upd (pm_ct K3 133) w (b : Int))]) (a := 116) (k := 35) (z := ((w + 1 : Nat) : Int)) rfl rfl
    refine m_putfield (u := [(129, pm_upd (pm_ct K3 129) b (s : Int)), (133, pm_upd (pm_ct K3 133) w (b : Int))]) (u' := [(129, pm_upd (pm_ct K3 129) b (s : Int)), (133, pm_upd (pm_ct K3 133) w (b : Int)), (116, pm_upd (pm_ct K3 116) 35 ((w + 1 : Nat) : Int))]) (M := K3) lk_195_194 rfl (lay2.on (by decide) rfl) (fun h => absurd h (by decide)) rfl ?_
    refine g_iinc (ls' := [(2, ((116 : Nat) : Int)), (0, (B : Int)), (0, ((c : Int) + 1)), (0, 1), (0, ((g : Int) + 1)), (0, (b : Int))]) lk_195_197 rfl rfl rfl ?_
    refine g_goto (t := 20) lk_195_200 rfl ?_
    have m4 : MF [129, 133] [35] K3 (Mu [(129, pm_upd (pm_ct K3 129) b (s : Int)), (133, pm_upd (pm_ct K3 133) w (b : Int)), (116, pm_upd (pm_ct K3 116) 35 ((w + 1 : Nat) : Int))] K3) := MF.mu _ _ rfl (fun k hk => upd_ne (by intro q; rw [q] at hk; exact hk (by decide)))
    exact ok s (Mu [(129, pm_upd (pm_ct K3 129) b (s : Int)), (133, pm_upd (pm_ct K3 133) w (b : Int)), (116, pm_upd (pm_ct K3 116) 35 ((w + 1 : Nat) : Int))] K3) hp lay3 (((m2.mono (fun a q => by cases q) (fun a q => by simp at q ⊢; omega)).trans (m3.mono (fun a q => by cases q) (fun a q => List.mem_cons_of_mem _ q))).trans (m4.mono (fun a q => q) (fun a q => by simp at q ⊢; omega))) (gd3.mf m4 (by decide) (by decide)) (by rw [Mu_ct, ← m2.ct (a := 129) (by decide) (by decide), ← m3.ct (a := 129) (by decide) (by decide)]; rfl) (by rw [Mu_ct, ← m2.ct (a := 133) (by decide) (by decide), ← m3.ct (a := 133) (by decide) (by decide)]; rfl) (by rw [Mu_ct]; rfl)
